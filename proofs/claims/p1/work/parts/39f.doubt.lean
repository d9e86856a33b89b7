theorem lgzn (p : Int64) : lg_cmp p (Int64.ofNat ((0 : Fin 2) : Nat)) < 0 ↔ p.toInt < 0 := by
  rw [lg_cmp_lt, Int64.lt_iff_toInt_lt, l0c]
set_option maxHeartbeats 1000000 in
set_option maxRecDepth 20000 in
theorem cX_doubt (p1 : Int32) (p2 p3 : Int64) : zK 3 zX6_doubt [.ref 0, .int p1, .long p2, .long p3] w0 (fun r w' => (∃ a, r = some (.int a) ∧ R_doubt p1 p2 p3 a) ∧ ∀ j, 76 ≤ j → w'[j]? = w0[j]?) := by
  refine zK_of qX6_doubt (by decide +kernel) rfl ?_
  iterate 1 (refine zv_step (bX6_doubt 3) rfl rfl trivial ?_)
  refine zv_S1 (bX6_doubt 3) rfl rfl rfl rfl ⟨rfl, rfl, rfl⟩ ⟨by decide, by decide⟩ ⟨Nat.zero_le _, Nat.zero_le _⟩ (hX6_isStyleOrFree _ _) ?_
  rintro _ _ ⟨rfl, ⟨hh, rfl⟩ | ⟨hh, rfl⟩⟩
  · iterate 5 (refine zv_step (bX6_doubt 3) rfl rfl trivial ?_)
    refine zv_ifb (fun hc => ?_) (fun hc => ?_)
    · rw [lgzn] at hc
      iterate 1 (refine zv_step (bX6_doubt 3) rfl rfl trivial ?_)
      exact zv_iret (bX6_doubt 3) rfl (Or.inl rfl) (Nat.zero_le _) (Nat.zero_le _) ⟨⟨_, rfl, Or.inl ⟨Or.inr (Or.inl hc), rfl⟩⟩, fun j hj => rfl⟩
    · rw [lgzn] at hc
      iterate 4 (refine zv_step (bX6_doubt 3) rfl rfl trivial ?_)
      refine zv_ifb (fun hd => ?_) (fun hd => ?_)
      · rw [lgz] at hd
        iterate 2 (refine zv_step (bX6_doubt 3) rfl rfl trivial ?_)
        refine zv_V1 (bX6_doubt 3) rfl rfl rfl rfl rfl rfl rfl ⟨rfl, rfl, rfl⟩ ⟨by decide, by decide⟩ ⟨Nat.zero_le _, Nat.zero_le _⟩ (hTallyIn _ hh) ?_
        rintro _ w1 ⟨rfl, hw1⟩
        iterate 5 (refine zv_step (bX6_doubt 3) rfl rfl trivial ?_)
        refine zv_ift (by rw [lgp]; omega) ?_
        iterate 1 (refine zv_step (bX6_doubt 3) rfl rfl trivial ?_)
        exact zv_iret (bX6_doubt 3) rfl (Or.inl rfl) (Nat.zero_le _) (Nat.zero_le _) ⟨⟨_, rfl, Or.inr ⟨⟨hh, by omega, hd⟩, rfl⟩⟩, hw1⟩
      · rw [lgz] at hd
        iterate 1 (refine zv_step (bX6_doubt 3) rfl rfl trivial ?_)
        exact zv_iret (bX6_doubt 3) rfl (Or.inl rfl) (Nat.zero_le _) (Nat.zero_le _) ⟨⟨_, rfl, Or.inl ⟨Or.inr (Or.inr (by omega)), rfl⟩⟩, fun j hj => rfl⟩
  · iterate 2 (refine zv_step (bX6_doubt 3) rfl rfl trivial ?_)
    exact zv_iret (bX6_doubt 3) rfl (Or.inl rfl) (Nat.zero_le _) (Nat.zero_le _) ⟨⟨_, rfl, Or.inl ⟨Or.inl hh, rfl⟩⟩, fun j hj => rfl⟩
