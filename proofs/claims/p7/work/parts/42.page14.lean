set_option maxHeartbeats 1000000 in
set_option maxRecDepth 20000 in
theorem pHas14 (O : Nat → Int32) (P : Nat → Nat → Int32) (Y : Nat → Nat → Int64) (g : Nat → zC) (x : Int32) : zK 0 zX2_has [.ref 14, .int x] (wX O P Y g) (fun r w' => w' = wX O P Y g ∧ (((0 ≤ x.toInt ∧ x.toInt < (O 2).toInt) ∧ r = some (.int 1)) ∨ (¬ (0 ≤ x.toInt ∧ x.toInt < (O 2).toInt) ∧ r = some (.int 0)))) := by
  refine zK_of qX2_has (by decide +kernel) rfl ?_
  iterate 2 (refine zv_step (bX2_has 0) rfl rfl trivial ?_)
  refine zv_ifb (fun hc => ?_) (fun hc => ?_)
  · rw [Int32.lt_iff_toInt_lt, Int32.toInt_zero] at hc
    iterate 1 (refine zv_step (bX2_has 0) rfl rfl trivial ?_)
    exact zv_iret (bX2_has 0) rfl (Or.inr ⟨rfl, Or.inl rfl⟩) (Nat.zero_le _) (Nat.zero_le _) ⟨rfl, Or.inr ⟨by omega, rfl⟩⟩
  · rw [Int32.lt_iff_toInt_lt, Int32.toInt_zero] at hc
    iterate 4 (refine zv_step (bX2_has 0) rfl rfl trivial ?_)
    refine zv_ifb (fun hd => ?_) (fun hd => ?_)
    · have hd : O 2 ≤ x := hd
      rw [Int32.le_iff_toInt_le] at hd
      iterate 1 (refine zv_step (bX2_has 0) rfl rfl trivial ?_)
      exact zv_iret (bX2_has 0) rfl (Or.inr ⟨rfl, Or.inl rfl⟩) (Nat.zero_le _) (Nat.zero_le _) ⟨rfl, Or.inr ⟨by omega, rfl⟩⟩
    · have hd : ¬ O 2 ≤ x := hd
      rw [Int32.le_iff_toInt_le] at hd
      iterate 2 (refine zv_step (bX2_has 0) rfl rfl trivial ?_)
      exact zv_iret (bX2_has 0) rfl (Or.inr ⟨rfl, Or.inr rfl⟩) (Nat.zero_le _) (Nat.zero_le _) ⟨rfl, Or.inl ⟨by omega, rfl⟩⟩
set_option maxHeartbeats 1000000 in
set_option maxRecDepth 20000 in
theorem pFull14 (O : Nat → Int32) (P : Nat → Nat → Int32) (Y : Nat → Nat → Int64) (g : Nat → zC) : zK 0 zX2_isFull [.ref 14] (wX O P Y g) (fun r w' => w' = wX O P Y g ∧ ((120 ≤ (O 2).toInt ∧ r = some (.int 1)) ∨ (¬ 120 ≤ (O 2).toInt ∧ r = some (.int 0)))) := by
  refine zK_of qX2_isFull (by decide +kernel) rfl ?_
  iterate 4 (refine zv_step (bX2_isFull 0) rfl rfl trivial ?_)
  refine zv_ifb (fun hc => ?_) (fun hc => ?_)
  · have hc : O 2 < c8 120 := hc
    rw [Int32.lt_iff_toInt_lt, i8c 120 (by decide)] at hc
    iterate 1 (refine zv_step (bX2_isFull 0) rfl rfl trivial ?_)
    exact zv_iret (bX2_isFull 0) rfl (Or.inr ⟨rfl, Or.inl rfl⟩) (Nat.zero_le _) (Nat.zero_le _) ⟨rfl, Or.inr ⟨by omega, rfl⟩⟩
  · have hc : ¬ O 2 < c8 120 := hc
    rw [Int32.lt_iff_toInt_lt, i8c 120 (by decide)] at hc
    iterate 2 (refine zv_step (bX2_isFull 0) rfl rfl trivial ?_)
    exact zv_iret (bX2_isFull 0) rfl (Or.inr ⟨rfl, Or.inr rfl⟩) (Nat.zero_le _) (Nat.zero_le _) ⟨rfl, Or.inl ⟨by omega, rfl⟩⟩
set_option maxHeartbeats 1000000 in
set_option maxRecDepth 20000 in
theorem pSizeOf14 (O : Nat → Int32) (P : Nat → Nat → Int32) (Y : Nat → Nat → Int64) (g : Nat → zC) (hu : (O 2).toInt ≤ 120) (x : Int32) : zK 1 zX2_sizeOf [.ref 14, .int x] (wX O P Y g) (fun r w' => w' = wX O P Y g ∧ (((0 ≤ x.toInt ∧ x.toInt < (O 2).toInt) ∧ r = some (.int (P 19 x.toNatClampNeg))) ∨ (¬ (0 ≤ x.toInt ∧ x.toInt < (O 2).toInt) ∧ r = some (.int 0)))) := by
  refine zK_of qX2_sizeOf (by decide +kernel) rfl ?_
  iterate 2 (refine zv_step (bX2_sizeOf 1) rfl rfl trivial ?_)
  refine zv_V1 (bX2_sizeOf 1) rfl rfl rfl rfl rfl rfl rfl ⟨rfl, rfl, rfl⟩ ⟨by decide, by decide⟩ ⟨Nat.zero_le _, Nat.zero_le _⟩ (pHas14 O P Y g _) ?_
  rintro _ _ ⟨rfl, ⟨hh, rfl⟩ | ⟨hh, rfl⟩⟩
  · iterate 1 (refine zv_step (bX2_sizeOf 1) rfl rfl trivial ?_)
    refine zv_iff (by decide) ?_
    iterate 3 (refine zv_step (bX2_sizeOf 1) rfl rfl trivial ?_)
    refine zv_step (bX2_sizeOf 1) rfl rfl (vp_in_iff.mpr ⟨hh.1, Int.lt_of_lt_of_le hh.2 hu⟩) ?_
    iterate 1 (refine zv_step (bX2_sizeOf 1) rfl rfl trivial ?_)
    exact zv_iret (bX2_sizeOf 1) rfl (Or.inl rfl) (Nat.zero_le _) (Nat.zero_le _) ⟨rfl, Or.inl ⟨hh, rfl⟩⟩
  · iterate 1 (refine zv_step (bX2_sizeOf 1) rfl rfl trivial ?_)
    refine zv_ift (by decide) ?_
    iterate 1 (refine zv_step (bX2_sizeOf 1) rfl rfl trivial ?_)
    exact zv_iret (bX2_sizeOf 1) rfl (Or.inl rfl) (Nat.zero_le _) (Nat.zero_le _) ⟨rfl, Or.inr ⟨hh, rfl⟩⟩
set_option maxHeartbeats 1000000 in
set_option maxRecDepth 20000 in
theorem pPartOf14 (O : Nat → Int32) (P : Nat → Nat → Int32) (Y : Nat → Nat → Int64) (g : Nat → zC) (hu : (O 2).toInt ≤ 120) (x d : Int32) : zK 1 zX2_partOf [.ref 14, .int x, .int d] (wX O P Y g) (fun r w' => w' = wX O P Y g ∧ (((0 ≤ x.toInt ∧ x.toInt < (O 2).toInt) ∧ ((d.toInt = 1 ∧ r = some (.int (P 17 x.toNatClampNeg))) ∨ (d.toInt = 2 ∧ r = some (.int (P 18 x.toNatClampNeg))))) ∨ (¬ ((0 ≤ x.toInt ∧ x.toInt < (O 2).toInt) ∧ (d.toInt = 1 ∨ d.toInt = 2)) ∧ r = some (.int (-1))))) := by
  refine zK_of qX2_partOf (by decide +kernel) rfl ?_
  iterate 2 (refine zv_step (bX2_partOf 1) rfl rfl trivial ?_)
  refine zv_V1 (bX2_partOf 1) rfl rfl rfl rfl rfl rfl rfl ⟨rfl, rfl, rfl⟩ ⟨by decide, by decide⟩ ⟨Nat.zero_le _, Nat.zero_le _⟩ (pHas14 O P Y g _) ?_
  rintro _ _ ⟨rfl, ⟨hh, rfl⟩ | ⟨hh, rfl⟩⟩
  · iterate 1 (refine zv_step (bX2_partOf 1) rfl rfl trivial ?_)
    refine zv_iff (by decide) ?_
    iterate 3 (refine zv_step (bX2_partOf 1) rfl rfl trivial ?_)
    refine zv_ifb (fun hc => ?_) (fun hc => ?_)
    · rw [Int32.lt_iff_toInt_lt, i32c 1 (by decide)] at hc
      iterate 1 (refine zv_step (bX2_partOf 1) rfl rfl trivial ?_)
      exact zv_iret (bX2_partOf 1) rfl (Or.inl rfl) (Nat.zero_le _) (Nat.zero_le _) ⟨rfl, Or.inr ⟨by omega, rfl⟩⟩
    · rw [Int32.lt_iff_toInt_lt, i32c 1 (by decide)] at hc
      iterate 3 (refine zv_step (bX2_partOf 1) rfl rfl trivial ?_)
      refine zv_ifb (fun hd => ?_) (fun hd => ?_)
      · rw [Int32.le_iff_toInt_le, i32c 2 (by decide)] at hd
        iterate 3 (refine zv_step (bX2_partOf 1) rfl rfl trivial ?_)
        refine zv_ifb (fun he => ?_) (fun he => ?_)
        · rw [i32e _ 1 (by decide)] at he
          iterate 3 (refine zv_step (bX2_partOf 1) rfl rfl trivial ?_)
          refine zv_step (bX2_partOf 1) rfl rfl (vp_in_iff.mpr ⟨hh.1, Int.lt_of_lt_of_le hh.2 hu⟩) ?_
          exact zv_iret (bX2_partOf 1) rfl (Or.inl rfl) (Nat.zero_le _) (Nat.zero_le _) ⟨rfl, Or.inl ⟨hh, Or.inr ⟨by omega, rfl⟩⟩⟩
        · rw [i32e _ 1 (by decide)] at he
          iterate 3 (refine zv_step (bX2_partOf 1) rfl rfl trivial ?_)
          refine zv_step (bX2_partOf 1) rfl rfl (vp_in_iff.mpr ⟨hh.1, Int.lt_of_lt_of_le hh.2 hu⟩) ?_
          iterate 1 (refine zv_step (bX2_partOf 1) rfl rfl trivial ?_)
          exact zv_iret (bX2_partOf 1) rfl (Or.inl rfl) (Nat.zero_le _) (Nat.zero_le _) ⟨rfl, Or.inl ⟨hh, Or.inl ⟨by omega, rfl⟩⟩⟩
      · rw [Int32.le_iff_toInt_le, i32c 2 (by decide)] at hd
        iterate 1 (refine zv_step (bX2_partOf 1) rfl rfl trivial ?_)
        exact zv_iret (bX2_partOf 1) rfl (Or.inl rfl) (Nat.zero_le _) (Nat.zero_le _) ⟨rfl, Or.inr ⟨by omega, rfl⟩⟩
  · iterate 1 (refine zv_step (bX2_partOf 1) rfl rfl trivial ?_)
    refine zv_ift (by decide) ?_
    iterate 1 (refine zv_step (bX2_partOf 1) rfl rfl trivial ?_)
    exact zv_iret (bX2_partOf 1) rfl (Or.inl rfl) (Nat.zero_le _) (Nat.zero_le _) ⟨rfl, Or.inr ⟨by omega, rfl⟩⟩
