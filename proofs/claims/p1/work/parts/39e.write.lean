theorem lgz (p : Int64) : 0 ≤ lg_cmp p (Int64.ofNat ((0 : Fin 2) : Nat)) ↔ 0 ≤ p.toInt := by
  rw [lg_cmp_ge, Int64.le_iff_toInt_le, l0c]
theorem lgn (p : Int64) : lg_cmp p 0 < 0 ↔ p.toInt < 0 := by
  rw [lg_cmp_lt, Int64.lt_iff_toInt_lt, Int64.toInt_zero]
theorem lgp (p : Int64) : 0 ≤ lg_cmp p 0 ↔ 0 ≤ p.toInt := by
  rw [lg_cmp_ge, Int64.le_iff_toInt_le, Int64.toInt_zero]
set_option maxHeartbeats 1000000 in
set_option maxRecDepth 20000 in
theorem cX_write (p1 : Int32) (p2 : Int64) : zK 3 zX6_write [.ref 0, .int p1, .long p2] w0 (fun r w' => (∃ a, r = some (.int a) ∧ R_write p1 p2 a) ∧ ∀ j, 76 ≤ j → w'[j]? = w0[j]?) := by
  refine zK_of qX6_write (by decide +kernel) rfl ?_
  iterate 1 (refine zv_step (bX6_write 3) rfl rfl trivial ?_)
  refine zv_S1 (bX6_write 3) rfl rfl rfl rfl ⟨rfl, rfl, rfl⟩ ⟨by decide, by decide⟩ ⟨Nat.zero_le _, Nat.zero_le _⟩ (hX6_isStyleOrFree _ _) ?_
  rintro _ _ ⟨rfl, ⟨hh, rfl⟩ | ⟨hh, rfl⟩⟩
  · iterate 5 (refine zv_step (bX6_write 3) rfl rfl trivial ?_)
    refine zv_ifb (fun hc => ?_) (fun hc => ?_)
    · rw [lgz] at hc
      iterate 3 (refine zv_step (bX6_write 3) rfl rfl trivial ?_)
      refine zv_V1 (bX6_write 3) rfl rfl rfl rfl rfl rfl rfl ⟨rfl, rfl, rfl⟩ ⟨by decide, by decide⟩ ⟨Nat.zero_le _, Nat.zero_le _⟩ (hTallyIn _ hh) ?_
      rintro _ w1 ⟨rfl, hw1⟩
      iterate 2 (refine zv_step (bX6_write 3) rfl rfl trivial ?_)
      refine zv_iff (by rw [lgn]; omega) ?_
      iterate 1 (refine zv_step (bX6_write 3) rfl rfl trivial ?_)
      exact zv_iret (bX6_write 3) rfl (Or.inl rfl) (Nat.zero_le _) (Nat.zero_le _) ⟨⟨_, rfl, Or.inr ⟨⟨hh, hc⟩, rfl⟩⟩, hw1⟩
    · rw [lgz] at hc
      iterate 1 (refine zv_step (bX6_write 3) rfl rfl trivial ?_)
      exact zv_iret (bX6_write 3) rfl (Or.inl rfl) (Nat.zero_le _) (Nat.zero_le _) ⟨⟨_, rfl, Or.inl ⟨Or.inr (by omega), rfl⟩⟩, fun j hj => rfl⟩
  · iterate 2 (refine zv_step (bX6_write 3) rfl rfl trivial ?_)
    exact zv_iret (bX6_write 3) rfl (Or.inl rfl) (Nat.zero_le _) (Nat.zero_le _) ⟨⟨_, rfl, Or.inl ⟨Or.inl hh, rfl⟩⟩, fun j hj => rfl⟩
set_option maxHeartbeats 1000000 in
set_option maxRecDepth 20000 in
theorem cX_place (p1 p2 : Int32) : zK 3 zX6_place [.ref 0, .int p1, .int p2] w0 (fun r w' => r = some (.long (-1)) ∧ ∀ j, 76 ≤ j → w'[j]? = w0[j]?) := by
  refine zK_of qX6_place (by decide +kernel) rfl ?_
  repeat' (first
    | refine zv_ift (by decide) ?_
    | refine zv_iff (by decide) ?_
    | refine zv_ifb (fun hc => ?_) (fun hc => ?_)
    | refine zv_step (bX6_place 3) rfl rfl trivial ?_
    | (refine zv_S1 (bX6_place 3) rfl rfl rfl rfl ⟨rfl, rfl, rfl⟩ ⟨by decide, by decide⟩ ⟨Nat.zero_le _, Nat.zero_le _⟩ (hX6_isStyleOrFree _ _) ?_; rintro _ _ ⟨rfl, ⟨hh, rfl⟩ | ⟨hh, rfl⟩⟩)
    | (refine zv_V1 (bX6_place 3) rfl rfl rfl rfl rfl rfl rfl ⟨rfl, rfl, rfl⟩ ⟨by decide, by decide⟩ ⟨Nat.zero_le _, Nat.zero_le _⟩ (hHas _) ?_; rintro _ _ ⟨rfl, rfl⟩)
    | refine zv_lret (bX6_place 3) rfl rfl (Nat.zero_le _) (Nat.zero_le _) ?_)
  all_goals first | exact ⟨rfl, fun j hj => rfl⟩ | (exfalso; (try simp only [lg_cmp_lt, lg_cmp_gt, lg_cmp_ge, lg_cmp_le, lg_cmp_eq] at *); (try simp only [Int32.lt_iff_toInt_lt, Int32.le_iff_toInt_le, Int64.lt_iff_toInt_lt, Int64.le_iff_toInt_le, Int32.toInt_toInt64, lg_cmp_lt, lg_cmp_gt, lg_cmp_ge, lg_cmp_le, i8c, i16c, i32c, i64c, l0c, l1c, z32, i8e, i32e, Decidable.not_not, Int.reduceNeg, Int.reduceLE, Int.reduceLT, and_self, Int32.toInt_zero, Int.not_lt, Int.not_le] at *); omega) | (rename_i hz; exact absurd (by decide) hz)

