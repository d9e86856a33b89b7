def R_means (p1 p2 a : Int32) : Prop := ((¬ (0 ≤ p1.toInt ∧ p1.toInt ≤ 9)) ∧ a = -1) ∨ ((0 ≤ p1.toInt ∧ p1.toInt ≤ 9) ∧ a = p2)
theorem F_means {p1 p2 a b : Int32} (h1 : R_means p1 p2 a) (h2 : R_means p1 p2 b) : a = b := by
  rcases h1 with ⟨c1, rfl⟩ | ⟨c1, rfl⟩ <;> rcases h2 with ⟨c2, rfl⟩ | ⟨c2, rfl⟩ <;> first | rfl | (exfalso; omega)
set_option maxHeartbeats 1000000 in
set_option maxRecDepth 20000 in
theorem hWB1 (w : zW) (x i : Int32) : zK 0 zX1_withBit [.int x, .int i, .int 1] w (fun r w' => w' = w ∧ r = some (.int (x ||| (Int32.ofInt 1 <<< (i &&& 31))))) := by
  refine zK_of qX1_withBit (by decide +kernel) rfl ?_
  iterate 2 (refine zv_step (bX1_withBit 0) rfl rfl trivial ?_)
  refine zv_iff (by decide) ?_
  iterate 6 (refine zv_step (bX1_withBit 0) rfl rfl trivial ?_)
  exact zv_iret (bX1_withBit 0) rfl (Or.inl rfl) (Nat.zero_le _) (Nat.zero_le _) ⟨rfl, rfl⟩
set_option maxHeartbeats 1000000 in
set_option maxRecDepth 20000 in
theorem hWB0 (w : zW) (x i : Int32) : zK 0 zX1_withBit [.int x, .int i, .int 0] w (fun r w' => w' = w ∧ r = some (.int (x &&& ((Int32.ofInt 1 <<< (i &&& 31)) ^^^ Int32.ofInt (-1))))) := by
  refine zK_of qX1_withBit (by decide +kernel) rfl ?_
  iterate 2 (refine zv_step (bX1_withBit 0) rfl rfl trivial ?_)
  refine zv_ift (by decide) ?_
  iterate 7 (refine zv_step (bX1_withBit 0) rfl rfl trivial ?_)
  exact zv_iret (bX1_withBit 0) rfl (Or.inl rfl) (Nat.zero_le _) (Nat.zero_le _) ⟨rfl, rfl⟩
theorem wb1 : ∀ j, j < 10 → ¬ (0 ||| (Int32.ofInt 1 <<< (nI j &&& 31)) : Int32) = 0 := by decide +kernel
theorem wb0 : ∀ j, j < 10 → ((0 : Int32) &&& ((Int32.ofInt 1 <<< (nI j &&& 31)) ^^^ Int32.ofInt (-1))) = 0 := by decide +kernel
theorem nIof9 {x : Int32} (h : 0 ≤ x.toInt ∧ x.toInt ≤ 9) : ∃ j : Nat, j < 10 ∧ x = nI j := vp_in_of (vp_in_iff.mpr ⟨h.1, Int.lt_of_le_of_lt h.2 (by decide)⟩) (by decide)
set_option maxHeartbeats 1000000 in
set_option maxRecDepth 20000 in
theorem cX_means (p1 p2 : Int32) (hb : p2 = 0 ∨ p2 = 1) : zK 3 zX6_means [.ref 0, .int p1, .int p2] w0 (fun r w' => (∃ a, r = some (.int a) ∧ R_means p1 p2 a) ∧ ∀ j, 76 ≤ j → w'[j]? = w0[j]?) := by
  refine zK_of qX6_means (by decide +kernel) rfl ?_
  iterate 1 (refine zv_step (bX6_means 3) rfl rfl trivial ?_)
  refine zv_S1 (bX6_means 3) rfl rfl rfl rfl ⟨rfl, rfl, rfl⟩ ⟨by decide, by decide⟩ ⟨Nat.zero_le _, Nat.zero_le _⟩ (hX6_isLetter _ _) ?_
  rintro _ _ ⟨rfl, ⟨hh, rfl⟩ | ⟨hh, rfl⟩⟩
  · iterate 1 (refine zv_step (bX6_means 3) rfl rfl trivial ?_)
    refine zv_ift (by decide) ?_
    obtain ⟨j, hj, rfl⟩ := nIof9 hh
    iterate 8 (refine zv_step (bX6_means 3) rfl rfl trivial ?_)
    rcases hb with rfl | rfl
    · refine zv_S3 (bX6_means 3) rfl rfl rfl rfl ⟨rfl, rfl, rfl⟩ ⟨by decide, by decide⟩ ⟨Nat.zero_le _, Nat.zero_le _⟩ (hWB0 _ _ _) ?_
      rintro _ _ ⟨rfl, rfl⟩
      rw [wb0 j hj]
      iterate 5 (refine zv_step (bX6_means 3) rfl rfl trivial ?_)
      refine zv_iff (by decide) ?_
      iterate 2 (refine zv_step (bX6_means 3) rfl rfl trivial ?_)
      exact zv_iret (bX6_means 3) rfl (Or.inl rfl) (Nat.zero_le _) (Nat.zero_le _) ⟨⟨_, rfl, Or.inr ⟨hh, rfl⟩⟩, fun j hj => List.getElem?_set_ne (by omega)⟩
    · refine zv_S3 (bX6_means 3) rfl rfl rfl rfl ⟨rfl, rfl, rfl⟩ ⟨by decide, by decide⟩ ⟨Nat.zero_le _, Nat.zero_le _⟩ (hWB1 _ _ _) ?_
      rintro _ _ ⟨rfl, rfl⟩
      iterate 5 (refine zv_step (bX6_means 3) rfl rfl trivial ?_)
      refine zv_ift (wb1 j hj) ?_
      iterate 1 (refine zv_step (bX6_means 3) rfl rfl trivial ?_)
      exact zv_iret (bX6_means 3) rfl (Or.inl rfl) (Nat.zero_le _) (Nat.zero_le _) ⟨⟨_, rfl, Or.inr ⟨hh, rfl⟩⟩, fun j hj => List.getElem?_set_ne (by omega)⟩
  · iterate 1 (refine zv_step (bX6_means 3) rfl rfl trivial ?_)
    refine zv_iff (by decide) ?_
    iterate 1 (refine zv_step (bX6_means 3) rfl rfl trivial ?_)
    exact zv_iret (bX6_means 3) rfl (Or.inl rfl) (Nat.zero_le _) (Nat.zero_le _) ⟨⟨_, rfl, Or.inl ⟨hh, rfl⟩⟩, fun j hj => rfl⟩
