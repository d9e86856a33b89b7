def wbW (x i on : Int32) : Int32 := if on = 0 then x &&& ((Int32.ofInt 1 <<< (i &&& 31)) ^^^ Int32.ofInt (-1)) else x ||| (Int32.ofInt 1 <<< (i &&& 31))
set_option maxHeartbeats 1000000 in
set_option maxRecDepth 20000 in
theorem pWithBit (w : zW) (x i on : Int32) : zK 0 zX1_withBit [.int x, .int i, .int on] w (fun r w' => w' = w ∧ r = some (.int (wbW x i on))) := by
  refine zK_of qX1_withBit (by decide +kernel) rfl ?_
  iterate 2 (refine zv_step (bX1_withBit 0) rfl rfl trivial ?_)
  refine zv_ifb (fun hc => ?_) (fun hc => ?_)
  · iterate 7 (refine zv_step (bX1_withBit 0) rfl rfl trivial ?_)
    exact zv_iret (bX1_withBit 0) rfl (Or.inl rfl) (Nat.zero_le _) (Nat.zero_le _) ⟨rfl, by unfold wbW; rw [if_pos hc]⟩
  · iterate 6 (refine zv_step (bX1_withBit 0) rfl rfl trivial ?_)
    exact zv_iret (bX1_withBit 0) rfl (Or.inl rfl) (Nat.zero_le _) (Nat.zero_le _) ⟨rfl, by unfold wbW; rw [if_neg hc]⟩
set_option maxHeartbeats 1000000 in
set_option maxRecDepth 20000 in
theorem cMeans (O : Nat → Int32) (P : Nat → Nat → Int32) (Y : Nat → Nat → Int64) (g : Nat → zC) (x on : Int32) : zK 1 zX6_means [.ref 0, .int x, .int on] (wX O P Y g) (fun r w' => ((0 ≤ x.toInt ∧ x.toInt ≤ 9) ∧ w' = wX (upd O 0 (wbW (O 0) x on)) P Y g ∧ ((wbW (O 0) x on) = O 0 ∧ r = some (.int (Int32.ofInt 0)) ∨ ¬ (wbW (O 0) x on) = O 0 ∧ r = some (.int (Int32.ofInt 1)))) ∨ (¬ (0 ≤ x.toInt ∧ x.toInt ≤ 9) ∧ w' = wX O P Y g ∧ r = some (.int (Int32.ofInt (-1))))) := by
  refine zK_of qX6_means (by decide +kernel) rfl ?_
  iterate 1 (refine zv_step (bX6_means 1) rfl rfl trivial ?_)
  refine zv_S1 (bX6_means 1) rfl rfl rfl rfl ⟨rfl, rfl, rfl⟩ ⟨by decide, by decide⟩ ⟨Nat.zero_le _, Nat.zero_le _⟩ (hX6_isLetter _ _) ?_
  rintro _ _ ⟨rfl, ⟨hh, rfl⟩ | ⟨hh, rfl⟩⟩
  · iterate 1 (refine zv_step (bX6_means 1) rfl rfl trivial ?_)
    refine zv_ift (by decide) ?_
    iterate 8 (refine zv_step (bX6_means 1) rfl rfl trivial ?_)
    refine zv_S3 (bX6_means 1) rfl rfl rfl rfl ⟨rfl, rfl, rfl⟩ ⟨by decide, by decide⟩ ⟨Nat.zero_le _, Nat.zero_le _⟩ (pWithBit _ _ _ _) ?_
    rintro _ _ ⟨rfl, rfl⟩
    iterate 5 (refine zv_step (bX6_means 1) rfl rfl trivial ?_)
    refine zv_ifb (fun hc => ?_) (fun hc => ?_)
    · iterate 1 (refine zv_step (bX6_means 1) rfl rfl trivial ?_)
      exact zv_iret (bX6_means 1) rfl (Or.inl rfl) (Nat.zero_le _) (Nat.zero_le _) (Or.inl ⟨hh, rfl, Or.inr ⟨hc, rfl⟩⟩)
    · iterate 2 (refine zv_step (bX6_means 1) rfl rfl trivial ?_)
      exact zv_iret (bX6_means 1) rfl (Or.inl rfl) (Nat.zero_le _) (Nat.zero_le _) (Or.inl ⟨hh, rfl, Or.inl ⟨Decidable.not_not.mp hc, rfl⟩⟩)
  · iterate 1 (refine zv_step (bX6_means 1) rfl rfl trivial ?_)
    refine zv_iff (by decide) ?_
    iterate 1 (refine zv_step (bX6_means 1) rfl rfl trivial ?_)
    exact zv_iret (bX6_means 1) rfl (Or.inl rfl) (Nat.zero_le _) (Nat.zero_le _) (Or.inr ⟨hh, rfl, rfl⟩)
theorem hbW_or (x i : Int32) : hbW x i = Int32.ofInt 0 ∨ hbW x i = Int32.ofInt 1 := by
  unfold hbW
  split
  · exact Or.inl rfl
  · exact Or.inr rfl
set_option maxHeartbeats 1000000 in
set_option maxRecDepth 20000 in
theorem cKeeps (O : Nat → Int32) (P : Nat → Nat → Int32) (Y : Nat → Nat → Int64) (g : Nat → zC) (x k on : Int32) : zK 1 zX6_keeps [.ref 0, .int x, .int k, .int on] (wX O P Y g) (fun r w' => (((0 ≤ x.toInt ∧ x.toInt ≤ 7) ∧ (¬ k < 0 ∧ ¬ c8 9 < k) ∧ hbW (Int16.ofInt 764).toInt32 k = Int32.ofInt 1) ∧ w' = wX O (updA P 75 (upd (P 75) x.toNatClampNeg (wbW (P 75 x.toNatClampNeg) k on))) Y g ∧ ((wbW (P 75 x.toNatClampNeg) k on) = P 75 x.toNatClampNeg ∧ r = some (.int (Int32.ofInt 0)) ∨ ¬ (wbW (P 75 x.toNatClampNeg) k on) = P 75 x.toNatClampNeg ∧ r = some (.int (Int32.ofInt 1)))) ∨ (¬ ((0 ≤ x.toInt ∧ x.toInt ≤ 7) ∧ (¬ k < 0 ∧ ¬ c8 9 < k) ∧ hbW (Int16.ofInt 764).toInt32 k = Int32.ofInt 1) ∧ w' = wX O P Y g ∧ r = some (.int (Int32.ofInt (-1))))) := by
  refine zK_of qX6_keeps (by decide +kernel) rfl ?_
  iterate 1 (refine zv_step (bX6_keeps 1) rfl rfl trivial ?_)
  refine zv_S1 (bX6_keeps 1) rfl rfl rfl rfl ⟨rfl, rfl, rfl⟩ ⟨by decide, by decide⟩ ⟨Nat.zero_le _, Nat.zero_le _⟩ (hX6_isStyle _ _) ?_
  rintro _ _ ⟨rfl, ⟨hh, rfl⟩ | ⟨hh, rfl⟩⟩
  · iterate 1 (refine zv_step (bX6_keeps 1) rfl rfl trivial ?_)
    refine zv_iff (by decide) ?_
    iterate 2 (refine zv_step (bX6_keeps 1) rfl rfl trivial ?_)
    refine zv_ifb (fun h1 => ?_) (fun h1 => ?_)
    · iterate 1 (refine zv_step (bX6_keeps 1) rfl rfl trivial ?_)
      exact zv_iret (bX6_keeps 1) rfl (Or.inl rfl) (Nat.zero_le _) (Nat.zero_le _) (Or.inr ⟨fun q => q.2.1.1 h1, rfl, rfl⟩)
    · iterate 3 (refine zv_step (bX6_keeps 1) rfl rfl trivial ?_)
      refine zv_ifb (fun h2 => ?_) (fun h2 => ?_)
      · iterate 1 (refine zv_step (bX6_keeps 1) rfl rfl trivial ?_)
        exact zv_iret (bX6_keeps 1) rfl (Or.inl rfl) (Nat.zero_le _) (Nat.zero_le _) (Or.inr ⟨fun q => q.2.1.2 h2, rfl, rfl⟩)
      · iterate 2 (refine zv_step (bX6_keeps 1) rfl rfl trivial ?_)
        refine zv_S2 (bX6_keeps 1) rfl rfl rfl rfl ⟨rfl, rfl, rfl⟩ ⟨by decide, by decide⟩ ⟨Nat.zero_le _, Nat.zero_le _⟩ (pHasBitW _ _ _) ?_
        rintro _ _ ⟨rfl, rfl⟩
        iterate 1 (refine zv_step (bX6_keeps 1) rfl rfl trivial ?_)
        refine zv_ifb (fun h3 => ?_) (fun h3 => ?_)
        · have h4 : hbW (Int16.ofInt 764).toInt32 k = Int32.ofInt 1 := (hbW_or _ _).resolve_left h3
          iterate 3 (refine zv_step (bX6_keeps 1) rfl rfl trivial ?_)
          refine zv_step (bX6_keeps 1) rfl rfl (vp_in_iff.mpr ⟨hh.1, Int.lt_of_le_of_lt hh.2 (by decide)⟩) ?_
          iterate 7 (refine zv_step (bX6_keeps 1) rfl rfl trivial ?_)
          refine zv_S3 (bX6_keeps 1) rfl rfl rfl rfl ⟨rfl, rfl, rfl⟩ ⟨by decide, by decide⟩ ⟨Nat.zero_le _, Nat.zero_le _⟩ (pWithBit _ _ _ _) ?_
          rintro _ _ ⟨rfl, rfl⟩
          refine zv_step (bX6_keeps 1) rfl rfl (vp_in_iff.mpr ⟨hh.1, Int.lt_of_le_of_lt hh.2 (by decide)⟩) ?_
          iterate 3 (refine zv_step (bX6_keeps 1) rfl rfl trivial ?_)
          refine zv_iale (bX6_keeps 1) rfl rfl (vp_in_iff.mpr ⟨hh.1, Int.lt_of_le_of_lt hh.2 (by decide)⟩) (show (upd (P 75) x.toNatClampNeg (wbW (P 75 x.toNatClampNeg) k on)) x.toNatClampNeg = (wbW (P 75 x.toNatClampNeg) k on) from upd_self _ _ _) ?_
          iterate 2 (refine zv_step (bX6_keeps 1) rfl rfl trivial ?_)
          refine zv_ifb (fun hc => ?_) (fun hc => ?_)
          · iterate 1 (refine zv_step (bX6_keeps 1) rfl rfl trivial ?_)
            exact zv_iret (bX6_keeps 1) rfl (Or.inl rfl) (Nat.zero_le _) (Nat.zero_le _) (Or.inl ⟨⟨hh, ⟨h1, h2⟩, h4⟩, rfl, Or.inr ⟨hc, rfl⟩⟩)
          · iterate 2 (refine zv_step (bX6_keeps 1) rfl rfl trivial ?_)
            exact zv_iret (bX6_keeps 1) rfl (Or.inl rfl) (Nat.zero_le _) (Nat.zero_le _) (Or.inl ⟨⟨hh, ⟨h1, h2⟩, h4⟩, rfl, Or.inl ⟨Decidable.not_not.mp hc, rfl⟩⟩)
        · iterate 1 (refine zv_step (bX6_keeps 1) rfl rfl trivial ?_)
          exact zv_iret (bX6_keeps 1) rfl (Or.inl rfl) (Nat.zero_le _) (Nat.zero_le _) (Or.inr ⟨fun q => absurd (q.2.2.symm.trans (Decidable.not_not.mp h3)) (by decide), rfl, rfl⟩)
  · iterate 1 (refine zv_step (bX6_keeps 1) rfl rfl trivial ?_)
    refine zv_ift (by decide) ?_
    iterate 1 (refine zv_step (bX6_keeps 1) rfl rfl trivial ?_)
    exact zv_iret (bX6_keeps 1) rfl (Or.inl rfl) (Nat.zero_le _) (Nat.zero_le _) (Or.inr ⟨fun q => hh q.1, rfl, rfl⟩)
set_option maxHeartbeats 1000000 in
set_option maxRecDepth 20000 in
theorem cAlike (O : Nat → Int32) (P : Nat → Nat → Int32) (Y : Nat → Nat → Int64) (g : Nat → zC) (hu : (O 1).toInt ≤ 120) (x y : Int32) : zK 1 zX6_alike [.ref 0, .int x, .int y] (wX O P Y g) (fun r w' => w' = wX O P Y g ∧ ∃ v : Int32, r = some (.int v)) := by
  refine zK_of qX6_alike (by decide +kernel) rfl ?_
  iterate 3 (refine zv_step (bX6_alike 1) rfl rfl trivial ?_)
  refine zv_V1 (bX6_alike 1) rfl rfl rfl rfl rfl rfl rfl ⟨rfl, rfl, rfl⟩ ⟨by decide, by decide⟩ ⟨Nat.zero_le _, Nat.zero_le _⟩ (pHas1 O P Y g _) ?_
  rintro _ _ ⟨rfl, ⟨h1, rfl⟩ | ⟨h1, rfl⟩⟩
  · iterate 1 (refine zv_step (bX6_alike 1) rfl rfl trivial ?_)
    refine zv_iff (by decide) ?_
    iterate 3 (refine zv_step (bX6_alike 1) rfl rfl trivial ?_)
    refine zv_V1 (bX6_alike 1) rfl rfl rfl rfl rfl rfl rfl ⟨rfl, rfl, rfl⟩ ⟨by decide, by decide⟩ ⟨Nat.zero_le _, Nat.zero_le _⟩ (pHas1 O P Y g _) ?_
    rintro _ _ ⟨rfl, ⟨h2, rfl⟩ | ⟨h2, rfl⟩⟩
    · iterate 1 (refine zv_step (bX6_alike 1) rfl rfl trivial ?_)
      refine zv_ift (by decide) ?_
      iterate 4 (refine zv_step (bX6_alike 1) rfl rfl trivial ?_)
      refine zv_V2 (bX6_alike 1) rfl rfl rfl rfl rfl rfl rfl ⟨rfl, rfl, rfl⟩ ⟨by decide, by decide⟩ ⟨Nat.zero_le _, Nat.zero_le _⟩ (pAlike1 O P Y g (vp_in_iff.mpr ⟨h1.1, Int.lt_of_lt_of_le h1.2 hu⟩) (vp_in_iff.mpr ⟨h2.1, Int.lt_of_lt_of_le h2.2 hu⟩)) ?_
      rintro _ _ ⟨rfl, ⟨h3, rfl⟩ | ⟨h3, rfl⟩⟩
      · iterate 1 (refine zv_step (bX6_alike 1) rfl rfl trivial ?_)
        refine zv_iff (by decide) ?_
        iterate 2 (refine zv_step (bX6_alike 1) rfl rfl trivial ?_)
        exact zv_iret (bX6_alike 1) rfl (Or.inl rfl) (Nat.zero_le _) (Nat.zero_le _) ⟨rfl, _, rfl⟩
      · iterate 1 (refine zv_step (bX6_alike 1) rfl rfl trivial ?_)
        refine zv_ift (by decide) ?_
        iterate 1 (refine zv_step (bX6_alike 1) rfl rfl trivial ?_)
        exact zv_iret (bX6_alike 1) rfl (Or.inl rfl) (Nat.zero_le _) (Nat.zero_le _) ⟨rfl, _, rfl⟩
    · iterate 1 (refine zv_step (bX6_alike 1) rfl rfl trivial ?_)
      refine zv_iff (by decide) ?_
      iterate 1 (refine zv_step (bX6_alike 1) rfl rfl trivial ?_)
      exact zv_iret (bX6_alike 1) rfl (Or.inl rfl) (Nat.zero_le _) (Nat.zero_le _) ⟨rfl, _, rfl⟩
  · iterate 1 (refine zv_step (bX6_alike 1) rfl rfl trivial ?_)
    refine zv_ift (by decide) ?_
    iterate 1 (refine zv_step (bX6_alike 1) rfl rfl trivial ?_)
    exact zv_iret (bX6_alike 1) rfl (Or.inl rfl) (Nat.zero_le _) (Nat.zero_le _) ⟨rfl, _, rfl⟩
set_option maxHeartbeats 1000000 in
set_option maxRecDepth 20000 in
theorem pdifferenceOf (O : Nat → Int32) (P : Nat → Nat → Int32) (Y : Nat → Nat → Int64) (g : Nat → zC) (hu : (O 1).toInt ≤ 120) (x y : Int32) : zK 42 zX2_differenceOf [.ref 1, .int x, .int y] (wX O P Y g) (fun r w' => w' = wX O P Y g ∧ ∃ v : Int32, r = some (.int v)) := by
  refine zK_of qX2_differenceOf (by decide +kernel) rfl ?_
  iterate 4 (refine zv_step (bX2_differenceOf 42) rfl rfl trivial ?_)
  refine zv_V3 (bX2_differenceOf 42) rfl rfl rfl rfl rfl rfl rfl ⟨rfl, rfl, rfl⟩ ⟨by decide, by decide⟩ ⟨Nat.zero_le _, Nat.zero_le _⟩ (pDiff1 O P Y g hu 40 (by decide) _ _ _ rfl) ?_
  rintro _ _ ⟨rfl, rfl⟩
  exact zv_iret (bX2_differenceOf 42) rfl (Or.inl rfl) (Nat.zero_le _) (Nat.zero_le _) ⟨rfl, _, rfl⟩
set_option maxHeartbeats 1000000 in
set_option maxRecDepth 20000 in
theorem cChanged (O : Nat → Int32) (P : Nat → Nat → Int32) (Y : Nat → Nat → Int64) (g : Nat → zC) (hu : (O 1).toInt ≤ 120) (x y : Int32) : zK 43 zX6_changed [.ref 0, .int x, .int y] (wX O P Y g) (fun r w' => w' = wX O P Y g ∧ ∃ v : Int32, r = some (.int v)) := by
  refine zK_of qX6_changed (by decide +kernel) rfl ?_
  iterate 3 (refine zv_step (bX6_changed 43) rfl rfl trivial ?_)
  refine zv_V1 (bX6_changed 43) rfl rfl rfl rfl rfl rfl rfl ⟨rfl, rfl, rfl⟩ ⟨by decide, by decide⟩ ⟨Nat.zero_le _, Nat.zero_le _⟩ (pHas1 O P Y g _) ?_
  rintro _ _ ⟨rfl, ⟨h1, rfl⟩ | ⟨h1, rfl⟩⟩
  · iterate 1 (refine zv_step (bX6_changed 43) rfl rfl trivial ?_)
    refine zv_iff (by decide) ?_
    iterate 3 (refine zv_step (bX6_changed 43) rfl rfl trivial ?_)
    refine zv_V1 (bX6_changed 43) rfl rfl rfl rfl rfl rfl rfl ⟨rfl, rfl, rfl⟩ ⟨by decide, by decide⟩ ⟨Nat.zero_le _, Nat.zero_le _⟩ (pHas1 O P Y g _) ?_
    rintro _ _ ⟨rfl, ⟨h2, rfl⟩ | ⟨h2, rfl⟩⟩
    · iterate 1 (refine zv_step (bX6_changed 43) rfl rfl trivial ?_)
      refine zv_ift (by decide) ?_
      iterate 4 (refine zv_step (bX6_changed 43) rfl rfl trivial ?_)
      refine zv_V2 (bX6_changed 43) rfl rfl rfl rfl rfl rfl rfl ⟨rfl, rfl, rfl⟩ ⟨by decide, by decide⟩ ⟨Nat.zero_le _, Nat.zero_le _⟩ (pdifferenceOf O P Y g hu _ _) ?_
      rintro _ _ ⟨rfl, v, rfl⟩
      exact zv_iret (bX6_changed 43) rfl (Or.inl rfl) (Nat.zero_le _) (Nat.zero_le _) ⟨rfl, _, rfl⟩
    · iterate 1 (refine zv_step (bX6_changed 43) rfl rfl trivial ?_)
      refine zv_iff (by decide) ?_
      iterate 1 (refine zv_step (bX6_changed 43) rfl rfl trivial ?_)
      exact zv_iret (bX6_changed 43) rfl (Or.inl rfl) (Nat.zero_le _) (Nat.zero_le _) ⟨rfl, _, rfl⟩
  · iterate 1 (refine zv_step (bX6_changed 43) rfl rfl trivial ?_)
    refine zv_ift (by decide) ?_
    iterate 1 (refine zv_step (bX6_changed 43) rfl rfl trivial ?_)
    exact zv_iret (bX6_changed 43) rfl (Or.inl rfl) (Nat.zero_le _) (Nat.zero_le _) ⟨rfl, _, rfl⟩
set_option maxHeartbeats 1000000 in
set_option maxRecDepth 20000 in
theorem pexchangesOf (O : Nat → Int32) (P : Nat → Nat → Int32) (Y : Nat → Nat → Int64) (g : Nat → zC) (hu : (O 1).toInt ≤ 120) (x y : Int32) : zK 42 zX2_exchangesOf [.ref 1, .int x, .int y] (wX O P Y g) (fun r w' => w' = wX O P Y g ∧ ∃ v : Int32, r = some (.int v)) := by
  refine zK_of qX2_exchangesOf (by decide +kernel) rfl ?_
  iterate 4 (refine zv_step (bX2_exchangesOf 42) rfl rfl trivial ?_)
  refine zv_V3 (bX2_exchangesOf 42) rfl rfl rfl rfl rfl rfl rfl ⟨rfl, rfl, rfl⟩ ⟨by decide, by decide⟩ ⟨Nat.zero_le _, Nat.zero_le _⟩ (pExch1 O P Y g hu 40 (by decide) _ _ _ rfl) ?_
  rintro _ _ ⟨rfl, rfl⟩
  exact zv_iret (bX2_exchangesOf 42) rfl (Or.inl rfl) (Nat.zero_le _) (Nat.zero_le _) ⟨rfl, _, rfl⟩
set_option maxHeartbeats 1000000 in
set_option maxRecDepth 20000 in
theorem cExchanged (O : Nat → Int32) (P : Nat → Nat → Int32) (Y : Nat → Nat → Int64) (g : Nat → zC) (hu : (O 1).toInt ≤ 120) (x y : Int32) : zK 43 zX6_exchanged [.ref 0, .int x, .int y] (wX O P Y g) (fun r w' => w' = wX O P Y g ∧ ∃ v : Int32, r = some (.int v)) := by
  refine zK_of qX6_exchanged (by decide +kernel) rfl ?_
  iterate 3 (refine zv_step (bX6_exchanged 43) rfl rfl trivial ?_)
  refine zv_V1 (bX6_exchanged 43) rfl rfl rfl rfl rfl rfl rfl ⟨rfl, rfl, rfl⟩ ⟨by decide, by decide⟩ ⟨Nat.zero_le _, Nat.zero_le _⟩ (pHas1 O P Y g _) ?_
  rintro _ _ ⟨rfl, ⟨h1, rfl⟩ | ⟨h1, rfl⟩⟩
  · iterate 1 (refine zv_step (bX6_exchanged 43) rfl rfl trivial ?_)
    refine zv_iff (by decide) ?_
    iterate 3 (refine zv_step (bX6_exchanged 43) rfl rfl trivial ?_)
    refine zv_V1 (bX6_exchanged 43) rfl rfl rfl rfl rfl rfl rfl ⟨rfl, rfl, rfl⟩ ⟨by decide, by decide⟩ ⟨Nat.zero_le _, Nat.zero_le _⟩ (pHas1 O P Y g _) ?_
    rintro _ _ ⟨rfl, ⟨h2, rfl⟩ | ⟨h2, rfl⟩⟩
    · iterate 1 (refine zv_step (bX6_exchanged 43) rfl rfl trivial ?_)
      refine zv_ift (by decide) ?_
      iterate 4 (refine zv_step (bX6_exchanged 43) rfl rfl trivial ?_)
      refine zv_V2 (bX6_exchanged 43) rfl rfl rfl rfl rfl rfl rfl ⟨rfl, rfl, rfl⟩ ⟨by decide, by decide⟩ ⟨Nat.zero_le _, Nat.zero_le _⟩ (pexchangesOf O P Y g hu _ _) ?_
      rintro _ _ ⟨rfl, v, rfl⟩
      exact zv_iret (bX6_exchanged 43) rfl (Or.inl rfl) (Nat.zero_le _) (Nat.zero_le _) ⟨rfl, _, rfl⟩
    · iterate 1 (refine zv_step (bX6_exchanged 43) rfl rfl trivial ?_)
      refine zv_iff (by decide) ?_
      iterate 1 (refine zv_step (bX6_exchanged 43) rfl rfl trivial ?_)
      exact zv_iret (bX6_exchanged 43) rfl (Or.inl rfl) (Nat.zero_le _) (Nat.zero_le _) ⟨rfl, _, rfl⟩
  · iterate 1 (refine zv_step (bX6_exchanged 43) rfl rfl trivial ?_)
    refine zv_ift (by decide) ?_
    iterate 1 (refine zv_step (bX6_exchanged 43) rfl rfl trivial ?_)
    exact zv_iret (bX6_exchanged 43) rfl (Or.inl rfl) (Nat.zero_le _) (Nat.zero_le _) ⟨rfl, _, rfl⟩
set_option maxHeartbeats 1000000 in
set_option maxRecDepth 20000 in
theorem cTimes (O : Nat → Int32) (P : Nat → Nat → Int32) (Y : Nat → Nat → Int64) (g : Nat → zC) {u : Nat} (hu0 : u ≤ 120) (hO : O 1 = nI u) (x y : Int32) : zK 3 zX6_times [.ref 0, .int x, .int y] (wX O P Y g) (fun r w' => ∃ (R' : Nat → Int32) (v : Int32), r = some (.int v) ∧ w' = wX O (updA P 13 R') Y g) := by
  refine zK_of qX6_times (by decide +kernel) rfl ?_
  iterate 3 (refine zv_step (bX6_times 3) rfl rfl trivial ?_)
  refine zv_V1 (bX6_times 3) rfl rfl rfl rfl rfl rfl rfl ⟨rfl, rfl, rfl⟩ ⟨by decide, by decide⟩ ⟨Nat.zero_le _, Nat.zero_le _⟩ (pHas1 O P Y g _) ?_
  rintro _ _ ⟨rfl, ⟨h1, rfl⟩ | ⟨h1, rfl⟩⟩
  · iterate 1 (refine zv_step (bX6_times 3) rfl rfl trivial ?_)
    refine zv_iff (by decide) ?_
    iterate 3 (refine zv_step (bX6_times 3) rfl rfl trivial ?_)
    refine zv_V1 (bX6_times 3) rfl rfl rfl rfl rfl rfl rfl ⟨rfl, rfl, rfl⟩ ⟨by decide, by decide⟩ ⟨Nat.zero_le _, Nat.zero_le _⟩ (pHas1 O P Y g _) ?_
    rintro _ _ ⟨rfl, ⟨h2, rfl⟩ | ⟨h2, rfl⟩⟩
    · iterate 1 (refine zv_step (bX6_times 3) rfl rfl trivial ?_)
      refine zv_ift (by decide) ?_
      have hu : (O 1).toInt ≤ 120 := by rw [hO, nI_toInt (by omega)]; omega
      obtain ⟨j, hj, rfl⟩ : ∃ j : Nat, j < 120 ∧ x = nI j := by
        refine ⟨x.toInt.toNat, by omega, ?_⟩
        rw [← Int32.toInt_inj, nI_toInt (by omega)]
        omega
      iterate 4 (refine zv_step (bX6_times 3) rfl rfl trivial ?_)
      refine zv_V2 (bX6_times 3) rfl rfl rfl rfl rfl rfl rfl ⟨rfl, rfl, rfl⟩ ⟨by decide, by decide⟩ ⟨Nat.zero_le _, Nat.zero_le _⟩ (pTimes O P Y g hu (vp_in_iff.mpr ⟨h2.1, Int.lt_of_lt_of_le h2.2 hu⟩) hj) ?_
      rintro _ _ ⟨R1, v, rfl, rfl⟩
      exact zv_iret (bX6_times 3) rfl (Or.inl rfl) (Nat.zero_le _) (Nat.zero_le _) ⟨R1, _, rfl, rfl⟩
    · iterate 1 (refine zv_step (bX6_times 3) rfl rfl trivial ?_)
      refine zv_iff (by decide) ?_
      iterate 1 (refine zv_step (bX6_times 3) rfl rfl trivial ?_)
      exact zv_iret (bX6_times 3) rfl (Or.inl rfl) (Nat.zero_le _) (Nat.zero_le _) ⟨P 13, _, rfl, rfl⟩
  · iterate 1 (refine zv_step (bX6_times 3) rfl rfl trivial ?_)
    refine zv_ift (by decide) ?_
    iterate 1 (refine zv_step (bX6_times 3) rfl rfl trivial ?_)
    exact zv_iret (bX6_times 3) rfl (Or.inl rfl) (Nat.zero_le _) (Nat.zero_le _) ⟨P 13, _, rfl, rfl⟩
set_option maxHeartbeats 1000000 in
set_option maxRecDepth 20000 in
theorem cHush (O : Nat → Int32) (P : Nat → Nat → Int32) (Y : Nat → Nat → Int64) (g : Nat → zC) : zK 0 zX6_hush [.ref 0] (wX O P Y g) (fun r w' => r = some (.int (O 9)) ∧ w' = wX (upd O 9 (Int32.ofInt 0)) P Y g) := by
  refine zK_of qX6_hush (by decide +kernel) rfl ?_
  iterate 9 (refine zv_step (bX6_hush 0) rfl rfl trivial ?_)
  exact zv_iret (bX6_hush 0) rfl (Or.inl rfl) (Nat.zero_le _) (Nat.zero_le _) ⟨rfl, rfl⟩
set_option maxHeartbeats 1000000 in
set_option maxRecDepth 20000 in
theorem cEar (O : Nat → Int32) (P : Nat → Nat → Int32) (Y : Nat → Nat → Int64) (g : Nat → zC) {l : Nat} (hl : l ≤ 20) (hO : O 9 = nI l) (x : Int32) : zK 0 zX6_ear [.ref 0, .int x] (wX O P Y g) (fun r w' => w' = wX O P Y g ∧ ∃ v : Int32, r = some (.int v)) := by
  refine zK_of qX6_ear (by decide +kernel) rfl ?_
  iterate 2 (refine zv_step (bX6_ear 0) rfl rfl trivial ?_)
  refine zv_ifb (fun h1 => ?_) (fun h1 => ?_)
  · iterate 2 (refine zv_step (bX6_ear 0) rfl rfl trivial ?_)
    exact zv_iret (bX6_ear 0) rfl (Or.inl rfl) (Nat.zero_le _) (Nat.zero_le _) ⟨rfl, _, rfl⟩
  · iterate 5 (refine zv_step (bX6_ear 0) rfl rfl trivial ?_)
    refine zv_ifb (fun h2 => ?_) (fun h2 => ?_)
    · iterate 4 (refine zv_step (bX6_ear 0) rfl rfl trivial ?_)
      refine zv_step (bX6_ear 0) rfl rfl (by have h2 : x < O 9 := h2; rw [hO, Int32.lt_iff_toInt_lt, nI_toInt (by omega)] at h2; have h1 : ¬ x < 0 := h1; rw [Int32.lt_iff_toInt_lt, Int32.toInt_zero] at h1; exact vp_in_iff.mpr ⟨by omega, by omega⟩) ?_
      exact zv_iret (bX6_ear 0) rfl (Or.inl rfl) (Nat.zero_le _) (Nat.zero_le _) ⟨rfl, _, rfl⟩
    · iterate 2 (refine zv_step (bX6_ear 0) rfl rfl trivial ?_)
      exact zv_iret (bX6_ear 0) rfl (Or.inl rfl) (Nat.zero_le _) (Nat.zero_le _) ⟨rfl, _, rfl⟩
