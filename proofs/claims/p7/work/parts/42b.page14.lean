set_option maxHeartbeats 1000000 in
set_option maxRecDepth 20000 in
theorem pTop14 (O : Nat → Int32) (P : Nat → Nat → Int32) (Y : Nat → Nat → Int64) (g : Nat → zC) {x y : Int32} (hx : vp_in x 120) (hy : vp_in y 120) : zK 0 zX2_isSameTop [.ref 14, .int x, .int y] (wX O P Y g) (fun r w' => w' = wX O P Y g ∧ (((P 15 x.toNatClampNeg = P 15 y.toNatClampNeg ∧ P 16 x.toNatClampNeg = P 16 y.toNatClampNeg) ∧ r = some (.int 1)) ∨ (¬ (P 15 x.toNatClampNeg = P 15 y.toNatClampNeg ∧ P 16 x.toNatClampNeg = P 16 y.toNatClampNeg) ∧ r = some (.int 0)))) := by
  refine zK_of qX2_isSameTop (by decide +kernel) rfl ?_
  iterate 3 (refine zv_step (bX2_isSameTop 0) rfl rfl trivial ?_)
  refine zv_step (bX2_isSameTop 0) rfl rfl (hx) ?_
  iterate 3 (refine zv_step (bX2_isSameTop 0) rfl rfl trivial ?_)
  refine zv_step (bX2_isSameTop 0) rfl rfl (hy) ?_
  iterate 1 (refine zv_step (bX2_isSameTop 0) rfl rfl trivial ?_)
  refine zv_ifb (fun hc => ?_) (fun hc => ?_)
  · iterate 1 (refine zv_step (bX2_isSameTop 0) rfl rfl trivial ?_)
    exact zv_iret (bX2_isSameTop 0) rfl (Or.inr ⟨rfl, Or.inl rfl⟩) (Nat.zero_le _) (Nat.zero_le _) ⟨rfl, Or.inr ⟨fun q => hc q.1, rfl⟩⟩
  · iterate 3 (refine zv_step (bX2_isSameTop 0) rfl rfl trivial ?_)
    refine zv_step (bX2_isSameTop 0) rfl rfl (hx) ?_
    iterate 3 (refine zv_step (bX2_isSameTop 0) rfl rfl trivial ?_)
    refine zv_step (bX2_isSameTop 0) rfl rfl (hy) ?_
    iterate 1 (refine zv_step (bX2_isSameTop 0) rfl rfl trivial ?_)
    refine zv_ifb (fun hd => ?_) (fun hd => ?_)
    · iterate 1 (refine zv_step (bX2_isSameTop 0) rfl rfl trivial ?_)
      exact zv_iret (bX2_isSameTop 0) rfl (Or.inr ⟨rfl, Or.inl rfl⟩) (Nat.zero_le _) (Nat.zero_le _) ⟨rfl, Or.inr ⟨fun q => hd q.2, rfl⟩⟩
    · iterate 2 (refine zv_step (bX2_isSameTop 0) rfl rfl trivial ?_)
      exact zv_iret (bX2_isSameTop 0) rfl (Or.inr ⟨rfl, Or.inr rfl⟩) (Nat.zero_le _) (Nat.zero_le _) ⟨rfl, Or.inl ⟨⟨Decidable.not_not.mp hc, Decidable.not_not.mp hd⟩, rfl⟩⟩
set_option maxHeartbeats 1000000 in
set_option maxRecDepth 20000 in
theorem pAlike14 (O : Nat → Int32) (P : Nat → Nat → Int32) (Y : Nat → Nat → Int64) (g : Nat → zC) {x y : Int32} (hx : vp_in x 120) (hy : vp_in y 120) : zK 0 zX2_isAlike [.ref 14, .int x, .int y] (wX O P Y g) (fun r w' => w' = wX O P Y g ∧ ((P 25 x.toNatClampNeg = P 25 y.toNatClampNeg ∧ r = some (.int 1)) ∨ (¬ P 25 x.toNatClampNeg = P 25 y.toNatClampNeg ∧ r = some (.int 0)))) := by
  refine zK_of qX2_isAlike (by decide +kernel) rfl ?_
  iterate 3 (refine zv_step (bX2_isAlike 0) rfl rfl trivial ?_)
  refine zv_step (bX2_isAlike 0) rfl rfl (hx) ?_
  iterate 3 (refine zv_step (bX2_isAlike 0) rfl rfl trivial ?_)
  refine zv_step (bX2_isAlike 0) rfl rfl (hy) ?_
  iterate 1 (refine zv_step (bX2_isAlike 0) rfl rfl trivial ?_)
  refine zv_ifb (fun hc => ?_) (fun hc => ?_)
  · iterate 1 (refine zv_step (bX2_isAlike 0) rfl rfl trivial ?_)
    exact zv_iret (bX2_isAlike 0) rfl (Or.inr ⟨rfl, Or.inl rfl⟩) (Nat.zero_le _) (Nat.zero_le _) ⟨rfl, Or.inr ⟨hc, rfl⟩⟩
  · iterate 2 (refine zv_step (bX2_isAlike 0) rfl rfl trivial ?_)
    exact zv_iret (bX2_isAlike 0) rfl (Or.inr ⟨rfl, Or.inr rfl⟩) (Nat.zero_le _) (Nat.zero_le _) ⟨rfl, Or.inl ⟨Decidable.not_not.mp hc, rfl⟩⟩
set_option maxHeartbeats 1000000 in
set_option maxRecDepth 20000 in
theorem pRight14 (O : Nat → Int32) (P : Nat → Nat → Int32) (Y : Nat → Nat → Int64) (g : Nat → zC) {x : Int32} (f : Int32) (hx : vp_in x 120) : zK 0 zX2_isRight [.ref 14, .int x, .int f] (wX O P Y g) (fun r w' => w' = wX O P Y g ∧ (((P 23 x.toNatClampNeg &&& f = 0 ∧ P 24 x.toNatClampNeg &&& (f ^^^ Int32.ofInt (-1)) = 0) ∧ r = some (.int 1)) ∨ (¬ (P 23 x.toNatClampNeg &&& f = 0 ∧ P 24 x.toNatClampNeg &&& (f ^^^ Int32.ofInt (-1)) = 0) ∧ r = some (.int 0)))) := by
  refine zK_of qX2_isRight (by decide +kernel) rfl ?_
  iterate 3 (refine zv_step (bX2_isRight 0) rfl rfl trivial ?_)
  refine zv_step (bX2_isRight 0) rfl rfl (hx) ?_
  iterate 3 (refine zv_step (bX2_isRight 0) rfl rfl trivial ?_)
  refine zv_ifb (fun hc => ?_) (fun hc => ?_)
  · iterate 1 (refine zv_step (bX2_isRight 0) rfl rfl trivial ?_)
    exact zv_iret (bX2_isRight 0) rfl (Or.inr ⟨rfl, Or.inl rfl⟩) (Nat.zero_le _) (Nat.zero_le _) ⟨rfl, Or.inr ⟨fun q => hc q.1, rfl⟩⟩
  · iterate 3 (refine zv_step (bX2_isRight 0) rfl rfl trivial ?_)
    refine zv_step (bX2_isRight 0) rfl rfl (hx) ?_
    iterate 5 (refine zv_step (bX2_isRight 0) rfl rfl trivial ?_)
    refine zv_ifb (fun hd => ?_) (fun hd => ?_)
    · iterate 1 (refine zv_step (bX2_isRight 0) rfl rfl trivial ?_)
      exact zv_iret (bX2_isRight 0) rfl (Or.inr ⟨rfl, Or.inl rfl⟩) (Nat.zero_le _) (Nat.zero_le _) ⟨rfl, Or.inr ⟨fun q => hd q.2, rfl⟩⟩
    · iterate 2 (refine zv_step (bX2_isRight 0) rfl rfl trivial ?_)
      exact zv_iret (bX2_isRight 0) rfl (Or.inr ⟨rfl, Or.inr rfl⟩) (Nat.zero_le _) (Nat.zero_le _) ⟨rfl, Or.inl ⟨⟨Decidable.not_not.mp hc, Decidable.not_not.mp hd⟩, rfl⟩⟩
set_option maxHeartbeats 1000000 in
set_option maxRecDepth 20000 in
theorem pShape14 (O : Nat → Int32) (P : Nat → Nat → Int32) (Y : Nat → Nat → Int64) (g : Nat → zC) (hu : (O 2).toInt ≤ 120) (x : Int32) : zK 0 zX2_shapeOf [.ref 14, .int x] (wX O P Y g) (fun r w' => w' = wX O P Y g ∧ (((0 ≤ x.toInt ∧ x.toInt < (O 2).toInt) ∧ r = some (.int (P 25 x.toNatClampNeg))) ∨ (¬ (0 ≤ x.toInt ∧ x.toInt < (O 2).toInt) ∧ r = some (.int (Int32.ofInt (-1)))))) := by
  refine zK_of qX2_shapeOf (by decide +kernel) rfl ?_
  iterate 2 (refine zv_step (bX2_shapeOf 0) rfl rfl trivial ?_)
  refine zv_ifb (fun hc => ?_) (fun hc => ?_)
  · rw [Int32.lt_iff_toInt_lt, Int32.toInt_zero] at hc
    iterate 2 (refine zv_step (bX2_shapeOf 0) rfl rfl trivial ?_)
    exact zv_iret (bX2_shapeOf 0) rfl (Or.inl rfl) (Nat.zero_le _) (Nat.zero_le _) ⟨rfl, Or.inr ⟨by omega, rfl⟩⟩
  · rw [Int32.lt_iff_toInt_lt, Int32.toInt_zero] at hc
    iterate 4 (refine zv_step (bX2_shapeOf 0) rfl rfl trivial ?_)
    refine zv_ifb (fun hd => ?_) (fun hd => ?_)
    · have hd : x < O 2 := hd
      rw [Int32.lt_iff_toInt_lt] at hd
      iterate 3 (refine zv_step (bX2_shapeOf 0) rfl rfl trivial ?_)
      refine zv_step (bX2_shapeOf 0) rfl rfl (vp_in_iff.mpr ⟨by omega, by omega⟩) ?_
      exact zv_iret (bX2_shapeOf 0) rfl (Or.inl rfl) (Nat.zero_le _) (Nat.zero_le _) ⟨rfl, Or.inl ⟨by omega, rfl⟩⟩
    · have hd : ¬ x < O 2 := hd
      rw [Int32.lt_iff_toInt_lt] at hd
      iterate 2 (refine zv_step (bX2_shapeOf 0) rfl rfl trivial ?_)
      exact zv_iret (bX2_shapeOf 0) rfl (Or.inl rfl) (Nat.zero_le _) (Nat.zero_le _) ⟨rfl, Or.inr ⟨by omega, rfl⟩⟩
set_option maxHeartbeats 1000000 in
set_option maxRecDepth 20000 in
theorem pTally14 (O : Nat → Int32) (P : Nat → Nat → Int32) (Y : Nat → Nat → Int64) (g : Nat → zC) (hu : (O 2).toInt ≤ 120) (x : Int32) : zK 1 zX2_tallyOf [.ref 14, .int x] (wX O P Y g) (fun r w' => w' = wX O P Y g ∧ (((0 ≤ x.toInt ∧ x.toInt < (O 2).toInt) ∧ r = some (.int (P 26 x.toNatClampNeg))) ∨ (¬ (0 ≤ x.toInt ∧ x.toInt < (O 2).toInt) ∧ r = some (.int (Int32.ofInt 0))))) := by
  refine zK_of qX2_tallyOf (by decide +kernel) rfl ?_
  iterate 2 (refine zv_step (bX2_tallyOf 1) rfl rfl trivial ?_)
  refine zv_V1 (bX2_tallyOf 1) rfl rfl rfl rfl rfl rfl rfl ⟨rfl, rfl, rfl⟩ ⟨by decide, by decide⟩ ⟨Nat.zero_le _, Nat.zero_le _⟩ (pHas14 O P Y g _) ?_
  rintro _ _ ⟨rfl, ⟨hh, rfl⟩ | ⟨hh, rfl⟩⟩
  · iterate 1 (refine zv_step (bX2_tallyOf 1) rfl rfl trivial ?_)
    refine zv_iff (by decide) ?_
    iterate 3 (refine zv_step (bX2_tallyOf 1) rfl rfl trivial ?_)
    refine zv_step (bX2_tallyOf 1) rfl rfl (vp_in_iff.mpr ⟨hh.1, Int.lt_of_lt_of_le hh.2 hu⟩) ?_
    iterate 1 (refine zv_step (bX2_tallyOf 1) rfl rfl trivial ?_)
    exact zv_iret (bX2_tallyOf 1) rfl (Or.inl rfl) (Nat.zero_le _) (Nat.zero_le _) ⟨rfl, Or.inl ⟨hh, rfl⟩⟩
  · iterate 1 (refine zv_step (bX2_tallyOf 1) rfl rfl trivial ?_)
    refine zv_ift (by decide) ?_
    iterate 1 (refine zv_step (bX2_tallyOf 1) rfl rfl trivial ?_)
    exact zv_iret (bX2_tallyOf 1) rfl (Or.inl rfl) (Nat.zero_le _) (Nat.zero_le _) ⟨rfl, Or.inr ⟨hh, rfl⟩⟩
set_option maxHeartbeats 1000000 in
set_option maxRecDepth 20000 in
theorem pDiff14 (O : Nat → Int32) (P : Nat → Nat → Int32) (Y : Nat → Nat → Int64) (g : Nat → zC) (hu : (O 2).toInt ≤ 120) : ∀ k : Nat, k + 1 < 2 ^ 31 → ∀ x y z : Int32, z = nI k → zK (k + 1) zX2_difference [.ref 14, .int x, .int y, .int z] (wX O P Y g) (fun r w' => w' = wX O P Y g ∧ r = some (.int (dfP 14 P (O 2) k x y))) := by
  intro k
  induction k with
  | zero =>
    intro hf x y z hz
    subst hz
    refine zK_of qX2_difference (by decide +kernel) rfl ?_
    iterate 2 (refine zv_step (bX2_difference (0 + 1)) rfl rfl trivial ?_)
    refine zv_V1 (bX2_difference (0 + 1)) rfl rfl rfl rfl rfl rfl rfl ⟨rfl, rfl, rfl⟩ ⟨Nat.le_add_left 1 _, by show 8 + (2 + 11) + 64 * 0 ≤ 64 * (0 + 1); omega⟩ ⟨Nat.zero_le _, Nat.zero_le _⟩ (pHas14 O P Y g _) ?_
    rintro _ _ ⟨rfl, ⟨hh, rfl⟩ | ⟨hh, rfl⟩⟩
    · iterate 1 (refine zv_step (bX2_difference (0 + 1)) rfl rfl trivial ?_)
      refine zv_iff (by decide) ?_
      iterate 2 (refine zv_step (bX2_difference (0 + 1)) rfl rfl trivial ?_)
      refine zv_V1 (bX2_difference (0 + 1)) rfl rfl rfl rfl rfl rfl rfl ⟨rfl, rfl, rfl⟩ ⟨Nat.le_add_left 1 _, by show 8 + (2 + 11) + 64 * 0 ≤ 64 * (0 + 1); omega⟩ ⟨Nat.zero_le _, Nat.zero_le _⟩ (pHas14 O P Y g _) ?_
      rintro _ _ ⟨rfl, ⟨hi, rfl⟩ | ⟨hi, rfl⟩⟩
      · iterate 1 (refine zv_step (bX2_difference (0 + 1)) rfl rfl trivial ?_)
        refine zv_iff (by decide) ?_
        iterate 2 (refine zv_step (bX2_difference (0 + 1)) rfl rfl trivial ?_)
        refine zv_iff (by decide) ?_
        iterate 1 (refine zv_step (bX2_difference (0 + 1)) rfl rfl trivial ?_)
        exact zv_iret (bX2_difference (0 + 1)) rfl (Or.inl rfl) (Nat.zero_le _) (Nat.zero_le _) ⟨rfl, rfl⟩
      · iterate 1 (refine zv_step (bX2_difference (0 + 1)) rfl rfl trivial ?_)
        refine zv_ift (by decide) ?_
        iterate 1 (refine zv_step (bX2_difference (0 + 1)) rfl rfl trivial ?_)
        exact zv_iret (bX2_difference (0 + 1)) rfl (Or.inl rfl) (Nat.zero_le _) (Nat.zero_le _) ⟨rfl, rfl⟩
    · iterate 1 (refine zv_step (bX2_difference (0 + 1)) rfl rfl trivial ?_)
      refine zv_ift (by decide) ?_
      iterate 1 (refine zv_step (bX2_difference (0 + 1)) rfl rfl trivial ?_)
      exact zv_iret (bX2_difference (0 + 1)) rfl (Or.inl rfl) (Nat.zero_le _) (Nat.zero_le _) ⟨rfl, rfl⟩
  | succ k ih =>
    intro hf x y z hz
    subst hz
    have ih := ih (by omega)
    have em : nI (k + 1) - Int32.ofInt 1 = nI k := nI_m1 k
    refine zK_of qX2_difference (by decide +kernel) rfl ?_
    iterate 2 (refine zv_step (bX2_difference (k + 1 + 1)) rfl rfl trivial ?_)
    refine zv_V1 (bX2_difference (k + 1 + 1)) rfl rfl rfl rfl rfl rfl rfl ⟨rfl, rfl, rfl⟩ ⟨Nat.le_add_left 1 _, by show 8 + (2 + 11) + 64 * 0 ≤ 64 * (k + 1 + 1); omega⟩ ⟨Nat.zero_le _, Nat.zero_le _⟩ (pHas14 O P Y g _) ?_
    rintro _ _ ⟨rfl, ⟨hh, rfl⟩ | ⟨hh, rfl⟩⟩
    · iterate 1 (refine zv_step (bX2_difference (k + 1 + 1)) rfl rfl trivial ?_)
      refine zv_iff (by decide) ?_
      iterate 2 (refine zv_step (bX2_difference (k + 1 + 1)) rfl rfl trivial ?_)
      refine zv_V1 (bX2_difference (k + 1 + 1)) rfl rfl rfl rfl rfl rfl rfl ⟨rfl, rfl, rfl⟩ ⟨Nat.le_add_left 1 _, by show 8 + (2 + 11) + 64 * 0 ≤ 64 * (k + 1 + 1); omega⟩ ⟨Nat.zero_le _, Nat.zero_le _⟩ (pHas14 O P Y g _) ?_
      rintro _ _ ⟨rfl, ⟨hi, rfl⟩ | ⟨hi, rfl⟩⟩
      · iterate 1 (refine zv_step (bX2_difference (k + 1 + 1)) rfl rfl trivial ?_)
        refine zv_iff (by decide) ?_
        iterate 2 (refine zv_step (bX2_difference (k + 1 + 1)) rfl rfl trivial ?_)
        refine zv_ift (nI_gt0 (by omega)) ?_
        iterate 3 (refine zv_step (bX2_difference (k + 1 + 1)) rfl rfl trivial ?_)
        refine zv_step (bX2_difference (k + 1 + 1)) rfl rfl (vp_in_iff.mpr ⟨hh.1, Int.lt_of_lt_of_le hh.2 hu⟩) ?_
        iterate 3 (refine zv_step (bX2_difference (k + 1 + 1)) rfl rfl trivial ?_)
        refine zv_step (bX2_difference (k + 1 + 1)) rfl rfl (vp_in_iff.mpr ⟨hi.1, Int.lt_of_lt_of_le hi.2 hu⟩) ?_
        iterate 1 (refine zv_step (bX2_difference (k + 1 + 1)) rfl rfl trivial ?_)
        refine zv_ifb (fun hk => ?_) (fun hk => ?_)
        · iterate 3 (refine zv_step (bX2_difference (k + 1 + 1)) rfl rfl trivial ?_)
          refine zv_step (bX2_difference (k + 1 + 1)) rfl rfl (vp_in_iff.mpr ⟨hh.1, Int.lt_of_lt_of_le hh.2 hu⟩) ?_
          iterate 3 (refine zv_step (bX2_difference (k + 1 + 1)) rfl rfl trivial ?_)
          refine zv_step (bX2_difference (k + 1 + 1)) rfl rfl (vp_in_iff.mpr ⟨hi.1, Int.lt_of_lt_of_le hi.2 hu⟩) ?_
          iterate 1 (refine zv_step (bX2_difference (k + 1 + 1)) rfl rfl trivial ?_)
          refine zv_ifb (fun hv => ?_) (fun hv => ?_)
          · iterate 5 (refine zv_step (bX2_difference (k + 1 + 1)) rfl rfl trivial ?_)
            refine zv_step (bX2_difference (k + 1 + 1)) rfl rfl (vp_in_iff.mpr ⟨hh.1, Int.lt_of_lt_of_le hh.2 hu⟩) ?_
            iterate 3 (refine zv_step (bX2_difference (k + 1 + 1)) rfl rfl trivial ?_)
            refine zv_step (bX2_difference (k + 1 + 1)) rfl rfl (vp_in_iff.mpr ⟨hi.1, Int.lt_of_lt_of_le hi.2 hu⟩) ?_
            iterate 3 (refine zv_step (bX2_difference (k + 1 + 1)) rfl rfl trivial ?_)
            refine zv_V3 (bX2_difference (k + 1 + 1)) rfl rfl rfl rfl rfl rfl rfl ⟨rfl, rfl, rfl⟩ ⟨by show k + 1 + 1 ≤ k + 1 + 1; omega, by show 8 + (4 + 11) + 64 * (k + 1) ≤ 64 * (k + 1 + 1); omega⟩ ⟨Nat.zero_le _, Nat.zero_le _⟩ (ih _ _ _ em) ?_
            rintro _ _ ⟨rfl, rfl⟩
            iterate 5 (refine zv_step (bX2_difference (k + 1 + 1)) rfl rfl trivial ?_)
            refine zv_step (bX2_difference (k + 1 + 1)) rfl rfl (vp_in_iff.mpr ⟨hh.1, Int.lt_of_lt_of_le hh.2 hu⟩) ?_
            iterate 3 (refine zv_step (bX2_difference (k + 1 + 1)) rfl rfl trivial ?_)
            refine zv_step (bX2_difference (k + 1 + 1)) rfl rfl (vp_in_iff.mpr ⟨hi.1, Int.lt_of_lt_of_le hi.2 hu⟩) ?_
            iterate 3 (refine zv_step (bX2_difference (k + 1 + 1)) rfl rfl trivial ?_)
            refine zv_V3 (bX2_difference (k + 1 + 1)) rfl rfl rfl rfl rfl rfl rfl ⟨rfl, rfl, rfl⟩ ⟨by show k + 1 + 1 ≤ k + 1 + 1; omega, by show 8 + (4 + 11) + 64 * (k + 1) ≤ 64 * (k + 1 + 1); omega⟩ ⟨Nat.zero_le _, Nat.zero_le _⟩ (ih _ _ _ em) ?_
            rintro _ _ ⟨rfl, rfl⟩
            iterate 1 (refine zv_step (bX2_difference (k + 1 + 1)) rfl rfl trivial ?_)
            exact zv_iret (bX2_difference (k + 1 + 1)) rfl (Or.inl rfl) (Nat.zero_le _) (Nat.zero_le _) ⟨rfl, by rw [dfP_s, if_pos hh, if_pos hi, if_pos (show P (14 + 1) (nC x) = P (14 + 1) (nC y) from hk), if_neg (show ¬ P (14 + 2) (nC x) = P (14 + 2) (nC y) from hv)] <;> rfl⟩
          · iterate 6 (refine zv_step (bX2_difference (k + 1 + 1)) rfl rfl trivial ?_)
            refine zv_step (bX2_difference (k + 1 + 1)) rfl rfl (vp_in_iff.mpr ⟨hh.1, Int.lt_of_lt_of_le hh.2 hu⟩) ?_
            iterate 3 (refine zv_step (bX2_difference (k + 1 + 1)) rfl rfl trivial ?_)
            refine zv_step (bX2_difference (k + 1 + 1)) rfl rfl (vp_in_iff.mpr ⟨hi.1, Int.lt_of_lt_of_le hi.2 hu⟩) ?_
            iterate 3 (refine zv_step (bX2_difference (k + 1 + 1)) rfl rfl trivial ?_)
            refine zv_V3 (bX2_difference (k + 1 + 1)) rfl rfl rfl rfl rfl rfl rfl ⟨rfl, rfl, rfl⟩ ⟨by show k + 1 + 1 ≤ k + 1 + 1; omega, by show 8 + (4 + 11) + 64 * (k + 1) ≤ 64 * (k + 1 + 1); omega⟩ ⟨Nat.zero_le _, Nat.zero_le _⟩ (ih _ _ _ em) ?_
            rintro _ _ ⟨rfl, rfl⟩
            iterate 5 (refine zv_step (bX2_difference (k + 1 + 1)) rfl rfl trivial ?_)
            refine zv_step (bX2_difference (k + 1 + 1)) rfl rfl (vp_in_iff.mpr ⟨hh.1, Int.lt_of_lt_of_le hh.2 hu⟩) ?_
            iterate 3 (refine zv_step (bX2_difference (k + 1 + 1)) rfl rfl trivial ?_)
            refine zv_step (bX2_difference (k + 1 + 1)) rfl rfl (vp_in_iff.mpr ⟨hi.1, Int.lt_of_lt_of_le hi.2 hu⟩) ?_
            iterate 3 (refine zv_step (bX2_difference (k + 1 + 1)) rfl rfl trivial ?_)
            refine zv_V3 (bX2_difference (k + 1 + 1)) rfl rfl rfl rfl rfl rfl rfl ⟨rfl, rfl, rfl⟩ ⟨by show k + 1 + 1 ≤ k + 1 + 1; omega, by show 8 + (4 + 11) + 64 * (k + 1) ≤ 64 * (k + 1 + 1); omega⟩ ⟨Nat.zero_le _, Nat.zero_le _⟩ (ih _ _ _ em) ?_
            rintro _ _ ⟨rfl, rfl⟩
            iterate 1 (refine zv_step (bX2_difference (k + 1 + 1)) rfl rfl trivial ?_)
            exact zv_iret (bX2_difference (k + 1 + 1)) rfl (Or.inl rfl) (Nat.zero_le _) (Nat.zero_le _) ⟨rfl, by rw [dfP_s, if_pos hh, if_pos hi, if_pos (show P (14 + 1) (nC x) = P (14 + 1) (nC y) from hk), if_pos (show P (14 + 2) (nC x) = P (14 + 2) (nC y) from Decidable.not_not.mp hv)] <;> rfl⟩
        · iterate 3 (refine zv_step (bX2_difference (k + 1 + 1)) rfl rfl trivial ?_)
          refine zv_step (bX2_difference (k + 1 + 1)) rfl rfl (vp_in_iff.mpr ⟨hh.1, Int.lt_of_lt_of_le hh.2 hu⟩) ?_
          iterate 3 (refine zv_step (bX2_difference (k + 1 + 1)) rfl rfl trivial ?_)
          refine zv_step (bX2_difference (k + 1 + 1)) rfl rfl (vp_in_iff.mpr ⟨hi.1, Int.lt_of_lt_of_le hi.2 hu⟩) ?_
          iterate 1 (refine zv_step (bX2_difference (k + 1 + 1)) rfl rfl trivial ?_)
          exact zv_iret (bX2_difference (k + 1 + 1)) rfl (Or.inl rfl) (Nat.zero_le _) (Nat.zero_le _) ⟨rfl, by rw [dfP_s, if_pos hh, if_pos hi, if_neg (show ¬ P (14 + 1) (nC x) = P (14 + 1) (nC y) from hk)] <;> rfl⟩
      · iterate 1 (refine zv_step (bX2_difference (k + 1 + 1)) rfl rfl trivial ?_)
        refine zv_ift (by decide) ?_
        iterate 1 (refine zv_step (bX2_difference (k + 1 + 1)) rfl rfl trivial ?_)
        exact zv_iret (bX2_difference (k + 1 + 1)) rfl (Or.inl rfl) (Nat.zero_le _) (Nat.zero_le _) ⟨rfl, by rw [dfP_s, if_pos hh, if_neg hi]⟩
    · iterate 1 (refine zv_step (bX2_difference (k + 1 + 1)) rfl rfl trivial ?_)
      refine zv_ift (by decide) ?_
      iterate 1 (refine zv_step (bX2_difference (k + 1 + 1)) rfl rfl trivial ?_)
      exact zv_iret (bX2_difference (k + 1 + 1)) rfl (Or.inl rfl) (Nat.zero_le _) (Nat.zero_le _) ⟨rfl, by rw [dfP_s, if_neg hh]⟩
set_option maxHeartbeats 1000000 in
set_option maxRecDepth 20000 in
theorem pExch14 (O : Nat → Int32) (P : Nat → Nat → Int32) (Y : Nat → Nat → Int64) (g : Nat → zC) (hu : (O 2).toInt ≤ 120) : ∀ k : Nat, k + 1 < 2 ^ 31 → ∀ x y z : Int32, z = nI k → zK (k + 1) zX2_exchanges [.ref 14, .int x, .int y, .int z] (wX O P Y g) (fun r w' => w' = wX O P Y g ∧ r = some (.int (exP 14 P (O 2) k x y))) := by
  intro k
  induction k with
  | zero =>
    intro hf x y z hz
    subst hz
    refine zK_of qX2_exchanges (by decide +kernel) rfl ?_
    iterate 2 (refine zv_step (bX2_exchanges (0 + 1)) rfl rfl trivial ?_)
    refine zv_V1 (bX2_exchanges (0 + 1)) rfl rfl rfl rfl rfl rfl rfl ⟨rfl, rfl, rfl⟩ ⟨Nat.le_add_left 1 _, by show 8 + (2 + 11) + 64 * 0 ≤ 64 * (0 + 1); omega⟩ ⟨Nat.zero_le _, Nat.zero_le _⟩ (pHas14 O P Y g _) ?_
    rintro _ _ ⟨rfl, ⟨hh, rfl⟩ | ⟨hh, rfl⟩⟩
    · iterate 1 (refine zv_step (bX2_exchanges (0 + 1)) rfl rfl trivial ?_)
      refine zv_iff (by decide) ?_
      iterate 2 (refine zv_step (bX2_exchanges (0 + 1)) rfl rfl trivial ?_)
      refine zv_V1 (bX2_exchanges (0 + 1)) rfl rfl rfl rfl rfl rfl rfl ⟨rfl, rfl, rfl⟩ ⟨Nat.le_add_left 1 _, by show 8 + (2 + 11) + 64 * 0 ≤ 64 * (0 + 1); omega⟩ ⟨Nat.zero_le _, Nat.zero_le _⟩ (pHas14 O P Y g _) ?_
      rintro _ _ ⟨rfl, ⟨hi, rfl⟩ | ⟨hi, rfl⟩⟩
      · iterate 1 (refine zv_step (bX2_exchanges (0 + 1)) rfl rfl trivial ?_)
        refine zv_iff (by decide) ?_
        iterate 2 (refine zv_step (bX2_exchanges (0 + 1)) rfl rfl trivial ?_)
        refine zv_iff (by decide) ?_
        iterate 1 (refine zv_step (bX2_exchanges (0 + 1)) rfl rfl trivial ?_)
        exact zv_iret (bX2_exchanges (0 + 1)) rfl (Or.inl rfl) (Nat.zero_le _) (Nat.zero_le _) ⟨rfl, rfl⟩
      · iterate 1 (refine zv_step (bX2_exchanges (0 + 1)) rfl rfl trivial ?_)
        refine zv_ift (by decide) ?_
        iterate 1 (refine zv_step (bX2_exchanges (0 + 1)) rfl rfl trivial ?_)
        exact zv_iret (bX2_exchanges (0 + 1)) rfl (Or.inl rfl) (Nat.zero_le _) (Nat.zero_le _) ⟨rfl, rfl⟩
    · iterate 1 (refine zv_step (bX2_exchanges (0 + 1)) rfl rfl trivial ?_)
      refine zv_ift (by decide) ?_
      iterate 1 (refine zv_step (bX2_exchanges (0 + 1)) rfl rfl trivial ?_)
      exact zv_iret (bX2_exchanges (0 + 1)) rfl (Or.inl rfl) (Nat.zero_le _) (Nat.zero_le _) ⟨rfl, rfl⟩
  | succ k ih =>
    intro hf x y z hz
    subst hz
    have ih := ih (by omega)
    have em : nI (k + 1) - Int32.ofInt 1 = nI k := nI_m1 k
    refine zK_of qX2_exchanges (by decide +kernel) rfl ?_
    iterate 2 (refine zv_step (bX2_exchanges (k + 1 + 1)) rfl rfl trivial ?_)
    refine zv_V1 (bX2_exchanges (k + 1 + 1)) rfl rfl rfl rfl rfl rfl rfl ⟨rfl, rfl, rfl⟩ ⟨Nat.le_add_left 1 _, by show 8 + (2 + 11) + 64 * 0 ≤ 64 * (k + 1 + 1); omega⟩ ⟨Nat.zero_le _, Nat.zero_le _⟩ (pHas14 O P Y g _) ?_
    rintro _ _ ⟨rfl, ⟨hh, rfl⟩ | ⟨hh, rfl⟩⟩
    · iterate 1 (refine zv_step (bX2_exchanges (k + 1 + 1)) rfl rfl trivial ?_)
      refine zv_iff (by decide) ?_
      iterate 2 (refine zv_step (bX2_exchanges (k + 1 + 1)) rfl rfl trivial ?_)
      refine zv_V1 (bX2_exchanges (k + 1 + 1)) rfl rfl rfl rfl rfl rfl rfl ⟨rfl, rfl, rfl⟩ ⟨Nat.le_add_left 1 _, by show 8 + (2 + 11) + 64 * 0 ≤ 64 * (k + 1 + 1); omega⟩ ⟨Nat.zero_le _, Nat.zero_le _⟩ (pHas14 O P Y g _) ?_
      rintro _ _ ⟨rfl, ⟨hi, rfl⟩ | ⟨hi, rfl⟩⟩
      · iterate 1 (refine zv_step (bX2_exchanges (k + 1 + 1)) rfl rfl trivial ?_)
        refine zv_iff (by decide) ?_
        iterate 2 (refine zv_step (bX2_exchanges (k + 1 + 1)) rfl rfl trivial ?_)
        refine zv_ift (nI_gt0 (by omega)) ?_
        iterate 3 (refine zv_step (bX2_exchanges (k + 1 + 1)) rfl rfl trivial ?_)
        refine zv_step (bX2_exchanges (k + 1 + 1)) rfl rfl (vp_in_iff.mpr ⟨hh.1, Int.lt_of_lt_of_le hh.2 hu⟩) ?_
        iterate 3 (refine zv_step (bX2_exchanges (k + 1 + 1)) rfl rfl trivial ?_)
        refine zv_step (bX2_exchanges (k + 1 + 1)) rfl rfl (vp_in_iff.mpr ⟨hi.1, Int.lt_of_lt_of_le hi.2 hu⟩) ?_
        iterate 1 (refine zv_step (bX2_exchanges (k + 1 + 1)) rfl rfl trivial ?_)
        refine zv_ifb (fun hk => ?_) (fun hk => ?_)
        · iterate 4 (refine zv_step (bX2_exchanges (k + 1 + 1)) rfl rfl trivial ?_)
          refine zv_step (bX2_exchanges (k + 1 + 1)) rfl rfl (vp_in_iff.mpr ⟨hh.1, Int.lt_of_lt_of_le hh.2 hu⟩) ?_
          iterate 3 (refine zv_step (bX2_exchanges (k + 1 + 1)) rfl rfl trivial ?_)
          refine zv_step (bX2_exchanges (k + 1 + 1)) rfl rfl (vp_in_iff.mpr ⟨hi.1, Int.lt_of_lt_of_le hi.2 hu⟩) ?_
          iterate 3 (refine zv_step (bX2_exchanges (k + 1 + 1)) rfl rfl trivial ?_)
          refine zv_V3 (bX2_exchanges (k + 1 + 1)) rfl rfl rfl rfl rfl rfl rfl ⟨rfl, rfl, rfl⟩ ⟨by show k + 1 + 1 ≤ k + 1 + 1; omega, by show 8 + (4 + 11) + 64 * (k + 1) ≤ 64 * (k + 1 + 1); omega⟩ ⟨Nat.zero_le _, Nat.zero_le _⟩ (ih _ _ _ em) ?_
          rintro _ _ ⟨rfl, rfl⟩
          iterate 4 (refine zv_step (bX2_exchanges (k + 1 + 1)) rfl rfl trivial ?_)
          refine zv_step (bX2_exchanges (k + 1 + 1)) rfl rfl (vp_in_iff.mpr ⟨hh.1, Int.lt_of_lt_of_le hh.2 hu⟩) ?_
          iterate 3 (refine zv_step (bX2_exchanges (k + 1 + 1)) rfl rfl trivial ?_)
          refine zv_step (bX2_exchanges (k + 1 + 1)) rfl rfl (vp_in_iff.mpr ⟨hi.1, Int.lt_of_lt_of_le hi.2 hu⟩) ?_
          iterate 3 (refine zv_step (bX2_exchanges (k + 1 + 1)) rfl rfl trivial ?_)
          refine zv_V3 (bX2_exchanges (k + 1 + 1)) rfl rfl rfl rfl rfl rfl rfl ⟨rfl, rfl, rfl⟩ ⟨by show k + 1 + 1 ≤ k + 1 + 1; omega, by show 8 + (4 + 11) + 64 * (k + 1) ≤ 64 * (k + 1 + 1); omega⟩ ⟨Nat.zero_le _, Nat.zero_le _⟩ (ih _ _ _ em) ?_
          rintro _ _ ⟨rfl, rfl⟩
          iterate 1 (refine zv_step (bX2_exchanges (k + 1 + 1)) rfl rfl trivial ?_)
          exact zv_iret (bX2_exchanges (k + 1 + 1)) rfl (Or.inl rfl) (Nat.zero_le _) (Nat.zero_le _) ⟨rfl, by rw [exP_s, if_pos hh, if_pos hi, if_pos (show P (14 + 1) (nC x) = P (14 + 1) (nC y) from hk)] <;> rfl⟩
        · iterate 1 (refine zv_step (bX2_exchanges (k + 1 + 1)) rfl rfl trivial ?_)
          exact zv_iret (bX2_exchanges (k + 1 + 1)) rfl (Or.inl rfl) (Nat.zero_le _) (Nat.zero_le _) ⟨rfl, by rw [exP_s, if_pos hh, if_pos hi, if_neg (show ¬ P (14 + 1) (nC x) = P (14 + 1) (nC y) from hk)] <;> rfl⟩
      · iterate 1 (refine zv_step (bX2_exchanges (k + 1 + 1)) rfl rfl trivial ?_)
        refine zv_ift (by decide) ?_
        iterate 1 (refine zv_step (bX2_exchanges (k + 1 + 1)) rfl rfl trivial ?_)
        exact zv_iret (bX2_exchanges (k + 1 + 1)) rfl (Or.inl rfl) (Nat.zero_le _) (Nat.zero_le _) ⟨rfl, by rw [exP_s, if_pos hh, if_neg hi]⟩
    · iterate 1 (refine zv_step (bX2_exchanges (k + 1 + 1)) rfl rfl trivial ?_)
      refine zv_ift (by decide) ?_
      iterate 1 (refine zv_step (bX2_exchanges (k + 1 + 1)) rfl rfl trivial ?_)
      exact zv_iret (bX2_exchanges (k + 1 + 1)) rfl (Or.inl rfl) (Nat.zero_le _) (Nat.zero_le _) ⟨rfl, by rw [exP_s, if_neg hh]⟩
