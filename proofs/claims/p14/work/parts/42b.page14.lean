set_option maxHeartbeats 1000000 in
set_option maxRecDepth 20000 in
theorem pTop14 (O : Nat → Int32) (P : Nat → Nat → Int32) (Y : Nat → Nat → Int64) (g : Nat → zC) {x y : Int32} (hx : vp_in x 120) (hy : vp_in y 120) : zK 0 zX2_isSameTop [.ref 14, .int x, .int y] (wX O P Y g) (fun r w' => w' = wX O P Y g ∧ (((P 15 x.toNatClampNeg = P 15 y.toNatClampNeg ∧ P 16 x.toNatClampNeg = P 16 y.toNatClampNeg) ∧ r = some (.int 1)) ∨ (¬ (P 15 x.toNatClampNeg = P 15 y.toNatClampNeg ∧ P 16 x.toNatClampNeg = P 16 y.toNatClampNeg) ∧ r = some (.int 0)))) := by
  refine zK_of qX2_isSameTop (by decide +kernel) rfl ?_
  iterate 3 (refine zv_step (bX2_isSameTop 0) rfl rfl trivial ?_)
  refine zv_step (bX2_isSameTop 0) rfl rfl (hx) ?_
  iterate 3 (refine zv_step (bX2_isSameTop 0) rfl rfl trivial ?_)
  refine zv_step (bX2_isSameTop 0) rfl rfl (hy) ?_
  iterate 1 (refine zv_step (bX2_isSameTop 0) rfl rfl trivial ?_)
  refine zv_ifb (fun hc => ?_) (fun hc => ?_)
  · iterate 1 (refine zv_step (bX2_isSameTop 0) rfl rfl trivial ?_)
    exact zv_iret (bX2_isSameTop 0) rfl (Or.inr ⟨rfl, Or.inl rfl⟩) (Nat.zero_le _) (Nat.zero_le _) ⟨rfl, Or.inr ⟨fun q => hc q.1, rfl⟩⟩
  · iterate 3 (refine zv_step (bX2_isSameTop 0) rfl rfl trivial ?_)
    refine zv_step (bX2_isSameTop 0) rfl rfl (hx) ?_
    iterate 3 (refine zv_step (bX2_isSameTop 0) rfl rfl trivial ?_)
    refine zv_step (bX2_isSameTop 0) rfl rfl (hy) ?_
    iterate 1 (refine zv_step (bX2_isSameTop 0) rfl rfl trivial ?_)
    refine zv_ifb (fun hd => ?_) (fun hd => ?_)
    · iterate 1 (refine zv_step (bX2_isSameTop 0) rfl rfl trivial ?_)
      exact zv_iret (bX2_isSameTop 0) rfl (Or.inr ⟨rfl, Or.inl rfl⟩) (Nat.zero_le _) (Nat.zero_le _) ⟨rfl, Or.inr ⟨fun q => hd q.2, rfl⟩⟩
    · iterate 2 (refine zv_step (bX2_isSameTop 0) rfl rfl trivial ?_)
      exact zv_iret (bX2_isSameTop 0) rfl (Or.inr ⟨rfl, Or.inr rfl⟩) (Nat.zero_le _) (Nat.zero_le _) ⟨rfl, Or.inl ⟨⟨Decidable.not_not.mp hc, Decidable.not_not.mp hd⟩, rfl⟩⟩
set_option maxHeartbeats 1000000 in
set_option maxRecDepth 20000 in
theorem pShape14 (O : Nat → Int32) (P : Nat → Nat → Int32) (Y : Nat → Nat → Int64) (g : Nat → zC) (hu : (O 2).toInt ≤ 120) (x : Int32) : zK 0 zX2_shapeOf [.ref 14, .int x] (wX O P Y g) (fun r w' => w' = wX O P Y g ∧ (((0 ≤ x.toInt ∧ x.toInt < (O 2).toInt) ∧ r = some (.int (P 25 x.toNatClampNeg))) ∨ (¬ (0 ≤ x.toInt ∧ x.toInt < (O 2).toInt) ∧ r = some (.int (Int32.ofInt (-1)))))) := by
  refine zK_of qX2_shapeOf (by decide +kernel) rfl ?_
  iterate 2 (refine zv_step (bX2_shapeOf 0) rfl rfl trivial ?_)
  refine zv_ifb (fun hc => ?_) (fun hc => ?_)
  · rw [Int32.lt_iff_toInt_lt, Int32.toInt_zero] at hc
    iterate 2 (refine zv_step (bX2_shapeOf 0) rfl rfl trivial ?_)
    exact zv_iret (bX2_shapeOf 0) rfl (Or.inl rfl) (Nat.zero_le _) (Nat.zero_le _) ⟨rfl, Or.inr ⟨by omega, rfl⟩⟩
  · rw [Int32.lt_iff_toInt_lt, Int32.toInt_zero] at hc
    iterate 4 (refine zv_step (bX2_shapeOf 0) rfl rfl trivial ?_)
    refine zv_ifb (fun hd => ?_) (fun hd => ?_)
    · have hd : x < O 2 := hd
      rw [Int32.lt_iff_toInt_lt] at hd
      iterate 3 (refine zv_step (bX2_shapeOf 0) rfl rfl trivial ?_)
      refine zv_step (bX2_shapeOf 0) rfl rfl (vp_in_iff.mpr ⟨by omega, by omega⟩) ?_
      exact zv_iret (bX2_shapeOf 0) rfl (Or.inl rfl) (Nat.zero_le _) (Nat.zero_le _) ⟨rfl, Or.inl ⟨by omega, rfl⟩⟩
    · have hd : ¬ x < O 2 := hd
      rw [Int32.lt_iff_toInt_lt] at hd
      iterate 2 (refine zv_step (bX2_shapeOf 0) rfl rfl trivial ?_)
      exact zv_iret (bX2_shapeOf 0) rfl (Or.inl rfl) (Nat.zero_le _) (Nat.zero_le _) ⟨rfl, Or.inr ⟨by omega, rfl⟩⟩