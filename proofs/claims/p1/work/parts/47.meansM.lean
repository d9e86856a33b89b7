theorem in09 (x : Int32) : (Int64.ofNat ((0 : Fin 2) : Nat)).toInt ≤ x.toInt64.toInt ∧ x.toInt64.toInt ≤ (Int64.ofInt 9).toInt ↔ 0 ≤ x.toInt ∧ x.toInt ≤ 9 := by
  rw [l0c, Int32.toInt_toInt64, i64c 9 (by decide)]
set_option maxHeartbeats 1000000 in
set_option maxRecDepth 20000 in
theorem cM_means (p1 p2 : Int32) (hb : p2 = 0 ∨ p2 = 1) {w : zW} (h : ∀ j, 76 ≤ j → w[j]? = w0[j]?) : zK 3 zX7_means [.ref 76, .int p1, .int p2] w (fun r w' => ∃ a, r = some (.int a) ∧ R_means p1 p2 a) := by
  refine zK_of qX7_means (by decide +kernel) rfl ?_
  iterate 4 (refine zv_step (bX7_means 3) rfl rfl trivial ?_)
  refine zv_S3 (bX7_means 3) rfl rfl rfl rfl ⟨rfl, rfl, rfl⟩ ⟨by decide, by decide⟩ ⟨Nat.zero_le _, Nat.zero_le _⟩ (hX7_in _ _ _ _) ?_
  rintro _ _ ⟨rfl, ⟨hh, rfl⟩ | ⟨hh, rfl⟩⟩
  · rw [in09] at hh
    iterate 1 (refine zv_step (bX7_means 3) rfl rfl trivial ?_)
    refine zv_ift (by decide) ?_
    iterate 1 (refine zv_step (bX7_means 3) rfl rfl trivial ?_)
    refine zv_getf (bX7_means 3) rfl ((h _ (by decide)).trans rfl) rfl ?_
    iterate 1 (refine zv_step (bX7_means 3) rfl rfl trivial ?_)
    refine zv_zald (bX7_means 3) rfl ((h _ (by decide)).trans rfl) (vp_in_iff.mpr ⟨hh.1, Int.lt_of_le_of_lt hh.2 (by decide)⟩) ?_
    iterate 2 (refine zv_step (bX7_means 3) rfl rfl trivial ?_)
    rcases hb with rfl | rfl
    · refine zv_ift rfl ?_
      iterate 2 (refine zv_step (bX7_means 3) rfl rfl trivial ?_)
      iterate 1 (refine zv_step (bX7_means 3) rfl rfl trivial ?_)
      refine zv_getf (bX7_means 3) rfl ((h _ (by decide)).trans rfl) rfl ?_
      iterate 2 (refine zv_step (bX7_means 3) rfl rfl trivial ?_)
      refine zv_zast (bX7_means 3) rfl ((h _ (by decide)).trans rfl) (vp_in_iff.mpr ⟨hh.1, Int.lt_of_le_of_lt hh.2 (by decide)⟩) ?_
      iterate 1 (refine zv_step (bX7_means 3) rfl rfl trivial ?_)
      exact zv_iret (bX7_means 3) rfl (Or.inl rfl) (Nat.zero_le _) (Nat.zero_le _) ⟨_, rfl, Or.inr ⟨hh, rfl⟩⟩
    · refine zv_iff (show ¬ (0 : Int32) = 1 by decide) ?_
      iterate 3 (refine zv_step (bX7_means 3) rfl rfl trivial ?_)
      iterate 1 (refine zv_step (bX7_means 3) rfl rfl trivial ?_)
      refine zv_getf (bX7_means 3) rfl ((h _ (by decide)).trans rfl) rfl ?_
      iterate 2 (refine zv_step (bX7_means 3) rfl rfl trivial ?_)
      refine zv_zast (bX7_means 3) rfl ((h _ (by decide)).trans rfl) (vp_in_iff.mpr ⟨hh.1, Int.lt_of_le_of_lt hh.2 (by decide)⟩) ?_
      iterate 1 (refine zv_step (bX7_means 3) rfl rfl trivial ?_)
      exact zv_iret (bX7_means 3) rfl (Or.inl rfl) (Nat.zero_le _) (Nat.zero_le _) ⟨_, rfl, Or.inr ⟨hh, rfl⟩⟩
  · rw [in09] at hh
    iterate 1 (refine zv_step (bX7_means 3) rfl rfl trivial ?_)
    refine zv_iff (by decide) ?_
    iterate 1 (refine zv_step (bX7_means 3) rfl rfl trivial ?_)
    exact zv_iret (bX7_means 3) rfl (Or.inl rfl) (Nat.zero_le _) (Nat.zero_le _) ⟨_, rfl, Or.inl ⟨hh, rfl⟩⟩
