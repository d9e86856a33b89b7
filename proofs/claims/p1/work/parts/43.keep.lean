set_option maxHeartbeats 1000000 in
set_option maxRecDepth 20000 in
theorem kSw (p1 p2 p3 : Int32) (hh : 0 ≤ p1.toInt ∧ p1.toInt ≤ 7) {n0 : Nat} : zV (zMo 3 zX6_keep) false n0 0 0 9 (lv_args 0 [.ref 0, .int p1, .int p2, .int p3]) [] w0 (fun r w' => (∃ a, r = some (.int a) ∧ R_keep p1 p2 p3 a) ∧ ∀ j, 76 ≤ j → w'[j]? = w0[j]?) := by
  obtain ⟨s1, r1, l1, g1, c1⟩ := shelf_at hh
  rcases zcase4 p2 with rfl | rfl | rfl | rfl | rfl | hd
  · iterate 1 (refine zv_step (bX6_keep 3) rfl rfl trivial ?_)
    refine zv_step (bX6_keep 3) rfl rfl (by decide) ?_
    iterate 3 (refine zv_step (bX6_keep 3) rfl rfl trivial ?_)
    refine zv_aald (bX6_keep 3) rfl (Or.inl rfl) rfl (vp_in_iff.mpr ⟨hh.1, Int.lt_of_le_of_lt hh.2 (by decide)⟩) g1 ?_
    refine zv_V0 (bX6_keep 3) rfl rfl rfl c1 rfl rfl rfl ⟨rfl, rfl, rfl⟩ ⟨by decide, by decide⟩ ⟨Nat.zero_le _, Nat.zero_le _⟩ (hDrop _ c1 rfl) ?_
    rintro _ w1 ⟨rfl, hw1⟩
    iterate 1 (refine zv_step (bX6_keep 3) rfl rfl trivial ?_)
    exact zv_iret (bX6_keep 3) rfl (Or.inl rfl) (Nat.zero_le _) (Nat.zero_le _) ⟨⟨_, rfl, Or.inl ⟨⟨hh, Or.inl rfl⟩, rfl⟩⟩, fun j hj => hw1 j (by omega)⟩
  · iterate 1 (refine zv_step (bX6_keep 3) rfl rfl trivial ?_)
    refine zv_step (bX6_keep 3) rfl rfl (by decide) ?_
    iterate 4 (refine zv_step (bX6_keep 3) rfl rfl trivial ?_)
    refine zv_aald (bX6_keep 3) rfl (Or.inl rfl) rfl (vp_in_iff.mpr ⟨hh.1, Int.lt_of_le_of_lt hh.2 (by decide)⟩) g1 ?_
    iterate 2 (refine zv_step (bX6_keep 3) rfl rfl trivial ?_)
    refine zv_V3 (bX6_keep 3) rfl rfl rfl rfl rfl rfl rfl ⟨rfl, rfl, rfl⟩ ⟨by decide, by decide⟩ ⟨Nat.zero_le _, Nat.zero_le _⟩ (hKeepNode _ _ _) ?_
    rintro _ _ ⟨rfl, rfl⟩
    exact zv_iret (bX6_keep 3) rfl (Or.inl rfl) (Nat.zero_le _) (Nat.zero_le _) ⟨⟨_, rfl, Or.inr ⟨(by rintro ⟨-, q | q⟩ <;> exact absurd q (by decide)), rfl⟩⟩, fun j hj => rfl⟩
  · iterate 1 (refine zv_step (bX6_keep 3) rfl rfl trivial ?_)
    refine zv_step (bX6_keep 3) rfl rfl (by decide) ?_
    iterate 1 (refine zv_step (bX6_keep 3) rfl rfl trivial ?_)
    exact zv_iret (bX6_keep 3) rfl (Or.inl rfl) (Nat.zero_le _) (Nat.zero_le _) ⟨⟨_, rfl, Or.inr ⟨(by rintro ⟨-, q | q⟩ <;> exact absurd q (by decide)), rfl⟩⟩, fun j hj => rfl⟩
  · iterate 1 (refine zv_step (bX6_keep 3) rfl rfl trivial ?_)
    refine zv_step (bX6_keep 3) rfl rfl (by decide) ?_
    iterate 3 (refine zv_step (bX6_keep 3) rfl rfl trivial ?_)
    refine zv_aald (bX6_keep 3) rfl (Or.inl rfl) rfl (vp_in_iff.mpr ⟨hh.1, Int.lt_of_le_of_lt hh.2 (by decide)⟩) g1 ?_
    iterate 7 (refine zv_step (bX6_keep 3) rfl rfl trivial ?_)
    refine zv_V3 (bX6_keep 3) rfl rfl rfl c1 rfl rfl rfl ⟨rfl, rfl, rfl⟩ ⟨by decide, by decide⟩ ⟨Nat.zero_le _, Nat.zero_le _⟩ (hHoldRow _ _ _ c1 rfl) ?_
    rintro _ w1 ⟨rfl, hw1⟩
    iterate 1 (refine zv_step (bX6_keep 3) rfl rfl trivial ?_)
    exact zv_iret (bX6_keep 3) rfl (Or.inl rfl) (Nat.zero_le _) (Nat.zero_le _) ⟨⟨_, rfl, Or.inl ⟨⟨hh, Or.inr rfl⟩, rfl⟩⟩, fun j hj => hw1 j (by omega)⟩
  · iterate 1 (refine zv_step (bX6_keep 3) rfl rfl trivial ?_)
    refine zv_step (bX6_keep 3) rfl rfl (by decide) ?_
    iterate 4 (refine zv_step (bX6_keep 3) rfl rfl trivial ?_)
    refine zv_aald (bX6_keep 3) rfl (Or.inl rfl) rfl (vp_in_iff.mpr ⟨hh.1, Int.lt_of_le_of_lt hh.2 (by decide)⟩) g1 ?_
    iterate 2 (refine zv_step (bX6_keep 3) rfl rfl trivial ?_)
    refine zv_V3 (bX6_keep 3) rfl rfl rfl rfl rfl rfl rfl ⟨rfl, rfl, rfl⟩ ⟨by decide, by decide⟩ ⟨Nat.zero_le _, Nat.zero_le _⟩ (hKeepNode _ _ _) ?_
    rintro _ _ ⟨rfl, rfl⟩
    exact zv_iret (bX6_keep 3) rfl (Or.inl rfl) (Nat.zero_le _) (Nat.zero_le _) ⟨⟨_, rfl, Or.inr ⟨(by rintro ⟨-, q | q⟩ <;> exact absurd q (by decide)), rfl⟩⟩, fun j hj => rfl⟩
  · iterate 1 (refine zv_step (bX6_keep 3) rfl rfl trivial ?_)
    refine zv_step (bX6_keep 3) rfl rfl (by decide) ?_
    rw [if_pos (by omega)]
    iterate 1 (refine zv_step (bX6_keep 3) rfl rfl trivial ?_)
    exact zv_iret (bX6_keep 3) rfl (Or.inl rfl) (Nat.zero_le _) (Nat.zero_le _) ⟨⟨_, rfl, Or.inr ⟨by omega, rfl⟩⟩, fun j hj => rfl⟩
set_option maxHeartbeats 1000000 in
set_option maxRecDepth 20000 in
theorem cX_keep (p1 p2 p3 : Int32) : zK 3 zX6_keep [.ref 0, .int p1, .int p2, .int p3] w0 (fun r w' => (∃ a, r = some (.int a) ∧ R_keep p1 p2 p3 a) ∧ ∀ j, 76 ≤ j → w'[j]? = w0[j]?) := by
  refine zK_of qX6_keep (by decide +kernel) rfl ?_
  iterate 1 (refine zv_step (bX6_keep 3) rfl rfl trivial ?_)
  refine zv_S1 (bX6_keep 3) rfl rfl rfl rfl ⟨rfl, rfl, rfl⟩ ⟨by decide, by decide⟩ ⟨Nat.zero_le _, Nat.zero_le _⟩ (hX6_isShelf _ _) ?_
  rintro _ _ ⟨rfl, ⟨hh, rfl⟩ | ⟨hh, rfl⟩⟩
  · iterate 1 (refine zv_step (bX6_keep 3) rfl rfl trivial ?_)
    refine zv_ift (by decide) ?_
    exact kSw p1 p2 p3 hh
  · iterate 1 (refine zv_step (bX6_keep 3) rfl rfl trivial ?_)
    refine zv_iff (by decide) ?_
    iterate 1 (refine zv_step (bX6_keep 3) rfl rfl trivial ?_)
    exact zv_iret (bX6_keep 3) rfl (Or.inl rfl) (Nat.zero_le _) (Nat.zero_le _) ⟨⟨_, rfl, Or.inr ⟨by omega, rfl⟩⟩, fun j hj => rfl⟩
