set_option maxHeartbeats 1000000 in
set_option maxRecDepth 20000 in
theorem cMissing (w : zW) (x : Int32) : zK 0 zX6_orMissing [.int x] w (fun r w' => w' = w ∧ ∃ v : Int32, r = some (.int v)) := by
  refine zK_of qX6_orMissing (by decide +kernel) rfl ?_
  iterate 3 (refine zv_step (bX6_orMissing 0) rfl rfl trivial ?_)
  refine zv_ifb (fun h => ?_) (fun h => ?_)
  · iterate 1 (refine zv_step (bX6_orMissing 0) rfl rfl trivial ?_)
    exact zv_iret (bX6_orMissing 0) rfl (Or.inl rfl) (Nat.zero_le _) (Nat.zero_le _) ⟨rfl, _, rfl⟩
  · iterate 2 (refine zv_step (bX6_orMissing 0) rfl rfl trivial ?_)
    exact zv_iret (bX6_orMissing 0) rfl (Or.inl rfl) (Nat.zero_le _) (Nat.zero_le _) ⟨rfl, _, rfl⟩
set_option maxHeartbeats 1000000 in
set_option maxRecDepth 20000 in
theorem cLookT (O : Nat → Int32) (P : Nat → Nat → Int32) (Y : Nat → Nat → Int64) (g : Nat → zC) {n x : Int32} (hv : vp_in n 120) {n0 : Nat} : zV (zMo 1 zX6_look) false n0 0 0 13 [(0, .ref 0), (1, .int n), (2, .int x)] [] (wX O P Y g) (fun r w' => w' = wX O P Y g ∧ ∃ v : Int32, r = some (.int v)) := by
  refine zv_step (bX6_look 1) rfl rfl trivial ?_
  by_cases hd : x.toInt < 0 ∨ 6 < x.toInt
  · refine zv_step (bX6_look 1) rfl rfl (by decide) ?_
    rw [if_pos hd]
    iterate 1 (refine zv_step (bX6_look 1) rfl rfl trivial ?_)
    exact zv_iret (bX6_look 1) rfl (Or.inl rfl) (Nat.zero_le _) (Nat.zero_le _) ⟨rfl, _, rfl⟩
  · obtain ⟨c, hc, rfl⟩ : ∃ c : Nat, c < 7 ∧ x = nI c := by
      refine ⟨x.toInt.toNat, by omega, ?_⟩
      rw [← Int32.toInt_inj, nI_toInt (by omega)]
      omega
    match c, hc with
    | 0, _ =>
      refine zv_step (bX6_look 1) rfl rfl (by decide) ?_
      iterate 4 (refine zv_step (bX6_look 1) rfl rfl trivial ?_)
      refine zv_step (bX6_look 1) rfl rfl (hv) ?_
      exact zv_iret (bX6_look 1) rfl (Or.inl rfl) (Nat.zero_le _) (Nat.zero_le _) ⟨rfl, _, rfl⟩
    | 1, _ =>
      refine zv_step (bX6_look 1) rfl rfl (by decide) ?_
      iterate 4 (refine zv_step (bX6_look 1) rfl rfl trivial ?_)
      refine zv_step (bX6_look 1) rfl rfl (hv) ?_
      refine zv_S1 (bX6_look 1) rfl rfl rfl rfl ⟨rfl, rfl, rfl⟩ ⟨by decide, by decide⟩ ⟨Nat.zero_le _, Nat.zero_le _⟩ (cMissing _ _) ?_
      rintro _ _ ⟨rfl, v, rfl⟩
      exact zv_iret (bX6_look 1) rfl (Or.inl rfl) (Nat.zero_le _) (Nat.zero_le _) ⟨rfl, _, rfl⟩
    | 2, _ =>
      refine zv_step (bX6_look 1) rfl rfl (by decide) ?_
      iterate 4 (refine zv_step (bX6_look 1) rfl rfl trivial ?_)
      refine zv_step (bX6_look 1) rfl rfl (hv) ?_
      refine zv_S1 (bX6_look 1) rfl rfl rfl rfl ⟨rfl, rfl, rfl⟩ ⟨by decide, by decide⟩ ⟨Nat.zero_le _, Nat.zero_le _⟩ (cMissing _ _) ?_
      rintro _ _ ⟨rfl, v, rfl⟩
      exact zv_iret (bX6_look 1) rfl (Or.inl rfl) (Nat.zero_le _) (Nat.zero_le _) ⟨rfl, _, rfl⟩
    | 3, _ =>
      refine zv_step (bX6_look 1) rfl rfl (by decide) ?_
      iterate 4 (refine zv_step (bX6_look 1) rfl rfl trivial ?_)
      refine zv_step (bX6_look 1) rfl rfl (hv) ?_
      refine zv_S1 (bX6_look 1) rfl rfl rfl rfl ⟨rfl, rfl, rfl⟩ ⟨by decide, by decide⟩ ⟨Nat.zero_le _, Nat.zero_le _⟩ (cMissing _ _) ?_
      rintro _ _ ⟨rfl, v, rfl⟩
      exact zv_iret (bX6_look 1) rfl (Or.inl rfl) (Nat.zero_le _) (Nat.zero_le _) ⟨rfl, _, rfl⟩
    | 4, _ =>
      refine zv_step (bX6_look 1) rfl rfl (by decide) ?_
      iterate 4 (refine zv_step (bX6_look 1) rfl rfl trivial ?_)
      refine zv_step (bX6_look 1) rfl rfl (hv) ?_
      exact zv_iret (bX6_look 1) rfl (Or.inl rfl) (Nat.zero_le _) (Nat.zero_le _) ⟨rfl, _, rfl⟩
    | 5, _ =>
      refine zv_step (bX6_look 1) rfl rfl (by decide) ?_
      iterate 4 (refine zv_step (bX6_look 1) rfl rfl trivial ?_)
      refine zv_step (bX6_look 1) rfl rfl (hv) ?_
      exact zv_iret (bX6_look 1) rfl (Or.inl rfl) (Nat.zero_le _) (Nat.zero_le _) ⟨rfl, _, rfl⟩
    | 6, _ =>
      refine zv_step (bX6_look 1) rfl rfl (by decide) ?_
      iterate 5 (refine zv_step (bX6_look 1) rfl rfl trivial ?_)
      refine zv_V2 (bX6_look 1) rfl rfl rfl rfl rfl rfl rfl ⟨rfl, rfl, rfl⟩ ⟨by decide, by decide⟩ ⟨Nat.zero_le _, Nat.zero_le _⟩ (pRight1 O P Y g _ hv) ?_
      rintro _ _ ⟨rfl, ⟨h5, rfl⟩ | ⟨h5, rfl⟩⟩
      · iterate 1 (refine zv_step (bX6_look 1) rfl rfl trivial ?_)
        refine zv_iff (by decide) ?_
        iterate 2 (refine zv_step (bX6_look 1) rfl rfl trivial ?_)
        exact zv_iret (bX6_look 1) rfl (Or.inl rfl) (Nat.zero_le _) (Nat.zero_le _) ⟨rfl, _, rfl⟩
      · iterate 1 (refine zv_step (bX6_look 1) rfl rfl trivial ?_)
        refine zv_ift (by decide) ?_
        iterate 1 (refine zv_step (bX6_look 1) rfl rfl trivial ?_)
        exact zv_iret (bX6_look 1) rfl (Or.inl rfl) (Nat.zero_le _) (Nat.zero_le _) ⟨rfl, _, rfl⟩
    | c + 7, h => exact absurd h (by omega)
set_option maxHeartbeats 1000000 in
set_option maxRecDepth 20000 in
theorem cLook (O : Nat → Int32) (P : Nat → Nat → Int32) (Y : Nat → Nat → Int64) (g : Nat → zC) (hu : (O 1).toInt ≤ 120) (n x : Int32) : zK 1 zX6_look [.ref 0, .int n, .int x] (wX O P Y g) (fun r w' => w' = wX O P Y g ∧ ∃ v : Int32, r = some (.int v)) := by
  refine zK_of qX6_look (by decide +kernel) rfl ?_
  iterate 3 (refine zv_step (bX6_look 1) rfl rfl trivial ?_)
  refine zv_V1 (bX6_look 1) rfl rfl rfl rfl rfl rfl rfl ⟨rfl, rfl, rfl⟩ ⟨by decide, by decide⟩ ⟨Nat.zero_le _, Nat.zero_le _⟩ (pHas1 O P Y g _) ?_
  rintro _ _ ⟨rfl, ⟨hh, rfl⟩ | ⟨hh, rfl⟩⟩
  · iterate 1 (refine zv_step (bX6_look 1) rfl rfl trivial ?_)
    refine zv_ift (by decide) ?_
    exact cLookT O P Y g (vp_in_iff.mpr ⟨hh.1, Int.lt_of_lt_of_le hh.2 hu⟩)
  · iterate 1 (refine zv_step (bX6_look 1) rfl rfl trivial ?_)
    refine zv_iff (by decide) ?_
    iterate 1 (refine zv_step (bX6_look 1) rfl rfl trivial ?_)
    exact zv_iret (bX6_look 1) rfl (Or.inl rfl) (Nat.zero_le _) (Nat.zero_le _) ⟨rfl, _, rfl⟩
