set_option maxHeartbeats 1000000 in
set_option maxRecDepth 20000 in
theorem mSets0 (f : Nat → zC) (p1 p2 : Int32) : zK 0 zX7_sets [.ref 76, .int 0, .int p1, .int p2, .int (Int8.ofInt (-2)).toInt32, .int (Int8.ofInt (-2)).toInt32] (wM f) (fun r w' => r = none ∧ ∃ c1 c2 c3 c4 c5 c6, w' = ((((((wM f).set 77 c1).set 78 c2).set 79 c3).set 80 c4).set 81 c5).set 82 c6) := by
  refine zK_of qX7_sets (by decide +kernel) rfl ?_
  iterate 4 (refine zv_step (bX7_sets 0) rfl rfl trivial ?_)
  refine zv_step (bX7_sets 0) rfl rfl (by unfold vp_in; decide) ?_
  iterate 4 (refine zv_step (bX7_sets 0) rfl rfl trivial ?_)
  refine zv_step (bX7_sets 0) rfl rfl (by unfold vp_in; decide) ?_
  iterate 4 (refine zv_step (bX7_sets 0) rfl rfl trivial ?_)
  refine zv_step (bX7_sets 0) rfl rfl (by unfold vp_in; decide) ?_
  iterate 4 (refine zv_step (bX7_sets 0) rfl rfl trivial ?_)
  refine zv_step (bX7_sets 0) rfl rfl (by unfold vp_in; decide) ?_
  iterate 6 (refine zv_step (bX7_sets 0) rfl rfl trivial ?_)
  refine zv_iff (by decide) ?_
  iterate 5 (refine zv_step (bX7_sets 0) rfl rfl trivial ?_)
  refine zv_iff (by decide) ?_
  iterate 3 (refine zv_step (bX7_sets 0) rfl rfl trivial ?_)
  refine zv_step (bX7_sets 0) rfl rfl (by unfold vp_in; decide) ?_
  iterate 2 (refine zv_step (bX7_sets 0) rfl rfl trivial ?_)
  refine zv_iff (by decide) ?_
  iterate 5 (refine zv_step (bX7_sets 0) rfl rfl trivial ?_)
  refine zv_iff (by decide) ?_
  iterate 10 (refine zv_step (bX7_sets 0) rfl rfl trivial ?_)
  refine zv_ift (by decide) ?_
  iterate 2 (refine zv_step (bX7_sets 0) rfl rfl trivial ?_)
  refine zv_step (bX7_sets 0) rfl rfl (by unfold vp_in; decide) ?_
  exact zv_ret (bX7_sets 0) rfl rfl (Nat.zero_le _) (Nat.zero_le _) ⟨rfl, _, _, _, _, _, _, rfl⟩
theorem in01 (x : Int32) : (Int64.ofNat ((0 : Fin 2) : Nat)).toInt ≤ x.toInt64.toInt ∧ x.toInt64.toInt ≤ (Int64.ofNat ((1 : Fin 2) : Nat)).toInt ↔ 0 ≤ x.toInt ∧ x.toInt ≤ 1 := by
  rw [l0c, l1c, Int32.toInt_toInt64]
theorem in9999 (x : Int32) : (Int64.ofNat ((0 : Fin 2) : Nat)).toInt ≤ x.toInt64.toInt ∧ x.toInt64.toInt ≤ (Int64.ofInt 9999).toInt ↔ 0 ≤ x.toInt ∧ x.toInt ≤ 9999 := by
  rw [l0c, Int32.toInt_toInt64, i64c 9999 (by decide)]
set_option maxHeartbeats 1000000 in
set_option maxRecDepth 20000 in
theorem cM_leaf0 (f : Nat → zC) (p2 : Int32) : zK 3 zX7_leaf [.ref 76, .int 0, .int p2] (wM f) (fun r w' => ∃ a, r = some (.int a) ∧ R_leaf 0 p2 a) := by
  refine zK_of qX7_leaf (by decide +kernel) rfl ?_
  iterate 4 (refine zv_step (bX7_leaf 3) rfl rfl trivial ?_)
  refine zv_S3 (bX7_leaf 3) rfl rfl rfl rfl ⟨rfl, rfl, rfl⟩ ⟨by decide, by decide⟩ ⟨Nat.zero_le _, Nat.zero_le _⟩ (hX7_in _ _ _ _) ?_
  rintro _ _ ⟨rfl, ⟨hh, rfl⟩ | ⟨hh, rfl⟩⟩
  · iterate 1 (refine zv_step (bX7_leaf 3) rfl rfl trivial ?_)
    refine zv_iff (by decide) ?_
    iterate 5 (refine zv_step (bX7_leaf 3) rfl rfl trivial ?_)
    refine zv_iff (by decide) ?_
    iterate 2 (refine zv_step (bX7_leaf 3) rfl rfl trivial ?_)
    refine zv_S3 (bX7_leaf 3) rfl rfl rfl rfl ⟨rfl, rfl, rfl⟩ ⟨by decide, by decide⟩ ⟨Nat.zero_le _, Nat.zero_le _⟩ (hX7_in _ _ _ _) ?_
    rintro _ _ ⟨rfl, ⟨hi, rfl⟩ | ⟨hi, rfl⟩⟩
    · rw [in09] at hi
      iterate 1 (refine zv_step (bX7_leaf 3) rfl rfl trivial ?_)
      refine zv_ift (by decide) ?_
      iterate 4 (refine zv_step (bX7_leaf 3) rfl rfl trivial ?_)
      refine zv_ift (by decide) ?_
      iterate 7 (refine zv_step (bX7_leaf 3) rfl rfl trivial ?_)
      refine zv_V5 (bX7_leaf 3) rfl rfl rfl rfl rfl rfl rfl ⟨rfl, rfl, rfl⟩ ⟨by decide, by decide⟩ ⟨Nat.zero_le _, Nat.zero_le _⟩ (mSets0 f _ _) ?_
      rintro _ _ ⟨rfl, c1, c2, c3, c4, c5, c6, rfl⟩
      iterate 10 (refine zv_step (bX7_leaf 3) rfl rfl trivial ?_)
      exact zv_iret (bX7_leaf 3) rfl (Or.inl rfl) (Nat.zero_le _) (Nat.zero_le _) ⟨_, rfl, Or.inl ⟨Or.inl ⟨rfl, hi⟩, rfl⟩⟩
    · rw [in09] at hi
      iterate 1 (refine zv_step (bX7_leaf 3) rfl rfl trivial ?_)
      refine zv_iff (by decide) ?_
      iterate 1 (refine zv_step (bX7_leaf 3) rfl rfl trivial ?_)
      exact zv_iret (bX7_leaf 3) rfl (Or.inl rfl) (Nat.zero_le _) (Nat.zero_le _) ⟨_, rfl, Or.inr ⟨nG0 hi, rfl⟩⟩
  · exact absurd (by decide) hh
set_option maxHeartbeats 1000000 in
set_option maxRecDepth 20000 in
theorem cM_leaf1 (f : Nat → zC) (p2 : Int32) : zK 3 zX7_leaf [.ref 76, .int 1, .int p2] (wM f) (fun r w' => ∃ a, r = some (.int a) ∧ R_leaf 1 p2 a) := by
  refine zK_of qX7_leaf (by decide +kernel) rfl ?_
  iterate 4 (refine zv_step (bX7_leaf 3) rfl rfl trivial ?_)
  refine zv_S3 (bX7_leaf 3) rfl rfl rfl rfl ⟨rfl, rfl, rfl⟩ ⟨by decide, by decide⟩ ⟨Nat.zero_le _, Nat.zero_le _⟩ (hX7_in _ _ _ _) ?_
  rintro _ _ ⟨rfl, ⟨hh, rfl⟩ | ⟨hh, rfl⟩⟩
  · iterate 1 (refine zv_step (bX7_leaf 3) rfl rfl trivial ?_)
    refine zv_iff (by decide) ?_
    iterate 5 (refine zv_step (bX7_leaf 3) rfl rfl trivial ?_)
    refine zv_ift (by decide) ?_
    iterate 1 (refine zv_step (bX7_leaf 3) rfl rfl trivial ?_)
    refine zv_S3 (bX7_leaf 3) rfl rfl rfl rfl ⟨rfl, rfl, rfl⟩ ⟨by decide, by decide⟩ ⟨Nat.zero_le _, Nat.zero_le _⟩ (hX7_in _ _ _ _) ?_
    rintro _ _ ⟨rfl, ⟨hi, rfl⟩ | ⟨hi, rfl⟩⟩
    · rw [in9999] at hi
      iterate 1 (refine zv_step (bX7_leaf 3) rfl rfl trivial ?_)
      refine zv_ift (by decide) ?_
      iterate 4 (refine zv_step (bX7_leaf 3) rfl rfl trivial ?_)
      refine zv_ift (by decide) ?_
      iterate 7 (refine zv_step (bX7_leaf 3) rfl rfl trivial ?_)
      refine zv_V5 (bX7_leaf 3) rfl rfl rfl rfl rfl rfl rfl ⟨rfl, rfl, rfl⟩ ⟨by decide, by decide⟩ ⟨Nat.zero_le _, Nat.zero_le _⟩ (mSets0 f _ _) ?_
      rintro _ _ ⟨rfl, c1, c2, c3, c4, c5, c6, rfl⟩
      iterate 10 (refine zv_step (bX7_leaf 3) rfl rfl trivial ?_)
      exact zv_iret (bX7_leaf 3) rfl (Or.inl rfl) (Nat.zero_le _) (Nat.zero_le _) ⟨_, rfl, Or.inl ⟨Or.inr ⟨rfl, hi⟩, rfl⟩⟩
    · rw [in9999] at hi
      iterate 1 (refine zv_step (bX7_leaf 3) rfl rfl trivial ?_)
      refine zv_iff (by decide) ?_
      iterate 1 (refine zv_step (bX7_leaf 3) rfl rfl trivial ?_)
      exact zv_iret (bX7_leaf 3) rfl (Or.inl rfl) (Nat.zero_le _) (Nat.zero_le _) ⟨_, rfl, Or.inr ⟨nG1 hi, rfl⟩⟩
  · exact absurd (by decide) hh
set_option maxHeartbeats 1000000 in
set_option maxRecDepth 20000 in
theorem cM_leafd (f : Nat → zC) (p1 p2 : Int32) (hd : p1.toInt < 0 ∨ 1 < p1.toInt) : zK 3 zX7_leaf [.ref 76, .int p1, .int p2] (wM f) (fun r w' => ∃ a, r = some (.int a) ∧ R_leaf p1 p2 a) := by
  refine zK_of qX7_leaf (by decide +kernel) rfl ?_
  iterate 4 (refine zv_step (bX7_leaf 3) rfl rfl trivial ?_)
  refine zv_S3 (bX7_leaf 3) rfl rfl rfl rfl ⟨rfl, rfl, rfl⟩ ⟨by decide, by decide⟩ ⟨Nat.zero_le _, Nat.zero_le _⟩ (hX7_in _ _ _ _) ?_
  rintro _ _ ⟨rfl, ⟨hh, rfl⟩ | ⟨hh, rfl⟩⟩
  · rw [in01] at hh
    omega
  · iterate 1 (refine zv_step (bX7_leaf 3) rfl rfl trivial ?_)
    refine zv_ift (by decide) ?_
    iterate 1 (refine zv_step (bX7_leaf 3) rfl rfl trivial ?_)
    exact zv_iret (bX7_leaf 3) rfl (Or.inl rfl) (Nat.zero_le _) (Nat.zero_le _) ⟨_, rfl, Or.inr ⟨nGd hd, rfl⟩⟩
theorem cM_leaf (p1 p2 : Int32) {w : zW} (h : ∀ j, 76 ≤ j → w[j]? = w0[j]?) : zK 3 zX7_leaf [.ref 76, .int p1, .int p2] w (fun r w' => ∃ a, r = some (.int a) ∧ R_leaf p1 p2 a) := by
  obtain ⟨f, rfl⟩ := wM_of h
  rcases zcase1 p1 with rfl | rfl | hd
  · exact cM_leaf0 f p2
  · exact cM_leaf1 f p2
  · exact cM_leafd f p1 p2 hd
