set_option maxHeartbeats 1000000 in
set_option maxRecDepth 20000 in
theorem sAdd27 (O : Nat → Int32) (P : Nat → Nat → Int32) (Y : Nat → Nat → Int64) (g : Nat → zC) {q : Nat} (hq : q + 1 < 2 ^ 31) (row : Nat → Int32) (v : Int32) : zK 0 zX4_add [.ref 27, .int v] (wX (upd O 3 (nI (q))) (updA P 28 (row)) Y g) (fun r w' => r = none ∧ w' = (wX (upd O 3 (nI (q + 1))) (updA P 28 (ap1 row q v)) Y g)) := by
  refine zK_of qX4_add (by decide +kernel) rfl ?_
  iterate 4 (refine zv_step (bX4_add 0) rfl rfl trivial ?_)
  refine zv_ifb (fun hc => ?_) (fun hc => ?_)
  · have hc : c8 80 ≤ nI q := hc
    rw [e80, nI_leI (by decide) (by omega)] at hc
    iterate 6 (refine zv_step (bX4_add 0) rfl rfl trivial ?_)
    exact zv_ret (bX4_add 0) rfl rfl (Nat.zero_le _) (Nat.zero_le _) ⟨rfl, by unfold ap1; rw [if_neg (by omega), ← nI_1]; rfl⟩
  · have hc : ¬ c8 80 ≤ nI q := hc
    rw [e80, nI_leI (by decide) (by omega)] at hc
    iterate 5 (refine zv_step (bX4_add 0) rfl rfl trivial ?_)
    refine zv_step (bX4_add 0) rfl rfl (show vp_in (nI q) 80 from vp_in_nI (by omega) (by decide)) ?_
    iterate 6 (refine zv_step (bX4_add 0) rfl rfl trivial ?_)
    exact zv_ret (bX4_add 0) rfl rfl (Nat.zero_le _) (Nat.zero_le _) ⟨rfl, by unfold ap1; rw [if_pos (by omega)]; show wX (upd O 3 (nI q + Int32.ofInt 1)) (updA P 28 (upd row (nI q).toNatClampNeg v)) Y g = _; rw [nI_clamp (by omega), show nI q + Int32.ofInt 1 = nI (q + 1) from nI_1 q]⟩
set_option maxHeartbeats 1000000 in
set_option maxRecDepth 20000 in
theorem sLong27 (O : Nat → Int32) (P : Nat → Nat → Int32) (Y : Nat → Nat → Int64) (g : Nat → zC) : zK 0 zX4_isTooLong [.ref 27] (wX O P Y g) (fun r w' => w' = wX O P Y g ∧ ((80 < (O 3).toInt ∧ r = some (.int 1)) ∨ (¬ 80 < (O 3).toInt ∧ r = some (.int 0)))) := by
  refine zK_of qX4_isTooLong (by decide +kernel) rfl ?_
  iterate 4 (refine zv_step (bX4_isTooLong 0) rfl rfl trivial ?_)
  refine zv_ifb (fun hc => ?_) (fun hc => ?_)
  · have hc : O 3 ≤ c8 80 := hc
    rw [Int32.le_iff_toInt_le, i8c 80 (by decide)] at hc
    iterate 1 (refine zv_step (bX4_isTooLong 0) rfl rfl trivial ?_)
    exact zv_iret (bX4_isTooLong 0) rfl (Or.inr ⟨rfl, Or.inl rfl⟩) (Nat.zero_le _) (Nat.zero_le _) ⟨rfl, Or.inr ⟨by omega, rfl⟩⟩
  · have hc : ¬ O 3 ≤ c8 80 := hc
    rw [Int32.le_iff_toInt_le, i8c 80 (by decide)] at hc
    iterate 2 (refine zv_step (bX4_isTooLong 0) rfl rfl trivial ?_)
    exact zv_iret (bX4_isTooLong 0) rfl (Or.inr ⟨rfl, Or.inr rfl⟩) (Nat.zero_le _) (Nat.zero_le _) ⟨rfl, Or.inl ⟨by omega, rfl⟩⟩
set_option maxHeartbeats 1000000 in
set_option maxRecDepth 20000 in
theorem sDigits27 (O : Nat → Int32) (P : Nat → Nat → Int32) (Y : Nat → Nat → Int64) (g : Nat → zC) {q : Nat} (hq : q + 4 < 2 ^ 31) (row : Nat → Int32) (v : Int32) : zK 1 zX4_addDigits [.ref 27, .int v] (wX (upd O 3 (nI (q))) (updA P 28 (row)) Y g) (fun r w' => r = none ∧ w' = (wX (upd O 3 (nI (q + (dgW v).length))) (updA P 28 (ap8 row q (dgW v))) Y g)) := by
  refine zK_of qX4_addDigits (by decide +kernel) rfl ?_
  iterate 3 (refine zv_step (bX4_addDigits 1) rfl rfl trivial ?_)
  refine zv_ifb (fun h1 => ?_) (fun h1 => ?_)
  · iterate 3 (refine zv_step (bX4_addDigits 1) rfl rfl trivial ?_)
    refine zv_ifb (fun h2 => ?_) (fun h2 => ?_)
    · iterate 3 (refine zv_step (bX4_addDigits 1) rfl rfl trivial ?_)
      refine zv_ifb (fun h3 => ?_) (fun h3 => ?_)
      · iterate 4 (refine zv_step (bX4_addDigits 1) rfl rfl trivial ?_)
        show zV _ _ _ _ _ 39 [(3, .int 0), (2, .int (Int32.ofInt 1)), (0, .ref 27), (1, .int v)] [] (wX (upd O 3 (nI (q))) (updA P 28 (row)) Y g) _
        iterate 3 (refine zv_step (bX4_addDigits 1) rfl rfl trivial ?_)
        refine zv_iff (by decide) ?_
        iterate 2 (refine zv_step (bX4_addDigits 1) rfl rfl trivial ?_)
        refine zv_iff (by decide) ?_
        iterate 4 (refine zv_step (bX4_addDigits 1) rfl rfl trivial ?_)
        refine zv_step (bX4_addDigits 1) rfl rfl (by dsimp only; decide) ?_
        iterate 1 (refine zv_step (bX4_addDigits 1) rfl rfl trivial ?_)
        refine zv_step (bX4_addDigits 1) rfl rfl (by dsimp only; decide) ?_
        iterate 1 (refine zv_step (bX4_addDigits 1) rfl rfl trivial ?_)
        refine zv_V1 (bX4_addDigits 1) rfl rfl rfl rfl rfl rfl rfl ⟨rfl, rfl, rfl⟩ ⟨by decide, by decide⟩ ⟨Nat.zero_le _, Nat.zero_le _⟩ (sAdd27 O P Y g (by omega) _ _) ?_
        rintro _ _ ⟨rfl, rfl⟩
        iterate 2 (refine zv_step (bX4_addDigits 1) rfl rfl trivial ?_)
        refine zv_step (bX4_addDigits 1) rfl rfl (by dsimp only; decide) ?_
        iterate 3 (refine zv_step (bX4_addDigits 1) rfl rfl trivial ?_)
        show zV _ _ _ _ _ 39 [(3, .int 1), (2, .int ((Int32.ofInt 1 / c8 10))), (0, .ref 27), (1, .int v)] [] (wX (upd O 3 (nI (q + 1))) (updA P 28 (ap1 (row) (q) (c8 10 + (v / Int32.ofInt 1 - v / Int32.ofInt 1 / c8 10 * c8 10)))) Y g) _
        iterate 3 (refine zv_step (bX4_addDigits 1) rfl rfl trivial ?_)
        refine zv_iff (by decide) ?_
        iterate 2 (refine zv_step (bX4_addDigits 1) rfl rfl trivial ?_)
        refine zv_ift (by decide) ?_
        exact zv_ret (bX4_addDigits 1) rfl rfl (Nat.zero_le _) (Nat.zero_le _) ⟨rfl, by rw [show dgW v = [c8 10 + (v / Int32.ofInt 1 - v / Int32.ofInt 1 / c8 10 * c8 10)] by unfold dgW; rw [if_pos h1, if_pos h2, if_pos h3]]; rfl⟩
      · iterate 5 (refine zv_step (bX4_addDigits 1) rfl rfl trivial ?_)
        show zV _ _ _ _ _ 39 [(3, .int 0), (2, .int (c8 10)), (0, .ref 27), (1, .int v)] [] (wX (upd O 3 (nI (q))) (updA P 28 (row)) Y g) _
        iterate 3 (refine zv_step (bX4_addDigits 1) rfl rfl trivial ?_)
        refine zv_iff (by decide) ?_
        iterate 2 (refine zv_step (bX4_addDigits 1) rfl rfl trivial ?_)
        refine zv_iff (by decide) ?_
        iterate 4 (refine zv_step (bX4_addDigits 1) rfl rfl trivial ?_)
        refine zv_step (bX4_addDigits 1) rfl rfl (by dsimp only; decide) ?_
        iterate 1 (refine zv_step (bX4_addDigits 1) rfl rfl trivial ?_)
        refine zv_step (bX4_addDigits 1) rfl rfl (by dsimp only; decide) ?_
        iterate 1 (refine zv_step (bX4_addDigits 1) rfl rfl trivial ?_)
        refine zv_V1 (bX4_addDigits 1) rfl rfl rfl rfl rfl rfl rfl ⟨rfl, rfl, rfl⟩ ⟨by decide, by decide⟩ ⟨Nat.zero_le _, Nat.zero_le _⟩ (sAdd27 O P Y g (by omega) _ _) ?_
        rintro _ _ ⟨rfl, rfl⟩
        iterate 2 (refine zv_step (bX4_addDigits 1) rfl rfl trivial ?_)
        refine zv_step (bX4_addDigits 1) rfl rfl (by dsimp only; decide) ?_
        iterate 3 (refine zv_step (bX4_addDigits 1) rfl rfl trivial ?_)
        show zV _ _ _ _ _ 39 [(3, .int 1), (2, .int ((c8 10 / c8 10))), (0, .ref 27), (1, .int v)] [] (wX (upd O 3 (nI (q + 1))) (updA P 28 (ap1 (row) (q) (c8 10 + (v / c8 10 - v / c8 10 / c8 10 * c8 10)))) Y g) _
        iterate 3 (refine zv_step (bX4_addDigits 1) rfl rfl trivial ?_)
        refine zv_iff (by decide) ?_
        iterate 2 (refine zv_step (bX4_addDigits 1) rfl rfl trivial ?_)
        refine zv_iff (by decide) ?_
        iterate 4 (refine zv_step (bX4_addDigits 1) rfl rfl trivial ?_)
        refine zv_step (bX4_addDigits 1) rfl rfl (by dsimp only; decide) ?_
        iterate 1 (refine zv_step (bX4_addDigits 1) rfl rfl trivial ?_)
        refine zv_step (bX4_addDigits 1) rfl rfl (by dsimp only; decide) ?_
        iterate 1 (refine zv_step (bX4_addDigits 1) rfl rfl trivial ?_)
        refine zv_V1 (bX4_addDigits 1) rfl rfl rfl rfl rfl rfl rfl ⟨rfl, rfl, rfl⟩ ⟨by decide, by decide⟩ ⟨Nat.zero_le _, Nat.zero_le _⟩ (sAdd27 O P Y g (by omega) _ _) ?_
        rintro _ _ ⟨rfl, rfl⟩
        iterate 2 (refine zv_step (bX4_addDigits 1) rfl rfl trivial ?_)
        refine zv_step (bX4_addDigits 1) rfl rfl (by dsimp only; decide) ?_
        iterate 3 (refine zv_step (bX4_addDigits 1) rfl rfl trivial ?_)
        show zV _ _ _ _ _ 39 [(3, .int 2), (2, .int (((c8 10 / c8 10) / c8 10))), (0, .ref 27), (1, .int v)] [] (wX (upd O 3 (nI (q + 2))) (updA P 28 (ap1 (ap1 (row) (q) (c8 10 + (v / c8 10 - v / c8 10 / c8 10 * c8 10))) (q + 1) (c8 10 + (v / (c8 10 / c8 10) - v / (c8 10 / c8 10) / c8 10 * c8 10)))) Y g) _
        iterate 3 (refine zv_step (bX4_addDigits 1) rfl rfl trivial ?_)
        refine zv_iff (by decide) ?_
        iterate 2 (refine zv_step (bX4_addDigits 1) rfl rfl trivial ?_)
        refine zv_ift (by decide) ?_
        exact zv_ret (bX4_addDigits 1) rfl rfl (Nat.zero_le _) (Nat.zero_le _) ⟨rfl, by rw [show dgW v = [c8 10 + (v / c8 10 - v / c8 10 / c8 10 * c8 10), c8 10 + (v / (c8 10 / c8 10) - v / (c8 10 / c8 10) / c8 10 * c8 10)] by unfold dgW; rw [if_pos h1, if_pos h2, if_neg h3]]; rfl⟩
    · iterate 5 (refine zv_step (bX4_addDigits 1) rfl rfl trivial ?_)
      show zV _ _ _ _ _ 39 [(3, .int 0), (2, .int (c8 100)), (0, .ref 27), (1, .int v)] [] (wX (upd O 3 (nI (q))) (updA P 28 (row)) Y g) _
      iterate 3 (refine zv_step (bX4_addDigits 1) rfl rfl trivial ?_)
      refine zv_iff (by decide) ?_
      iterate 2 (refine zv_step (bX4_addDigits 1) rfl rfl trivial ?_)
      refine zv_iff (by decide) ?_
      iterate 4 (refine zv_step (bX4_addDigits 1) rfl rfl trivial ?_)
      refine zv_step (bX4_addDigits 1) rfl rfl (by dsimp only; decide) ?_
      iterate 1 (refine zv_step (bX4_addDigits 1) rfl rfl trivial ?_)
      refine zv_step (bX4_addDigits 1) rfl rfl (by dsimp only; decide) ?_
      iterate 1 (refine zv_step (bX4_addDigits 1) rfl rfl trivial ?_)
      refine zv_V1 (bX4_addDigits 1) rfl rfl rfl rfl rfl rfl rfl ⟨rfl, rfl, rfl⟩ ⟨by decide, by decide⟩ ⟨Nat.zero_le _, Nat.zero_le _⟩ (sAdd27 O P Y g (by omega) _ _) ?_
      rintro _ _ ⟨rfl, rfl⟩
      iterate 2 (refine zv_step (bX4_addDigits 1) rfl rfl trivial ?_)
      refine zv_step (bX4_addDigits 1) rfl rfl (by dsimp only; decide) ?_
      iterate 3 (refine zv_step (bX4_addDigits 1) rfl rfl trivial ?_)
      show zV _ _ _ _ _ 39 [(3, .int 1), (2, .int ((c8 100 / c8 10))), (0, .ref 27), (1, .int v)] [] (wX (upd O 3 (nI (q + 1))) (updA P 28 (ap1 (row) (q) (c8 10 + (v / c8 100 - v / c8 100 / c8 10 * c8 10)))) Y g) _
      iterate 3 (refine zv_step (bX4_addDigits 1) rfl rfl trivial ?_)
      refine zv_iff (by decide) ?_
      iterate 2 (refine zv_step (bX4_addDigits 1) rfl rfl trivial ?_)
      refine zv_iff (by decide) ?_
      iterate 4 (refine zv_step (bX4_addDigits 1) rfl rfl trivial ?_)
      refine zv_step (bX4_addDigits 1) rfl rfl (by dsimp only; decide) ?_
      iterate 1 (refine zv_step (bX4_addDigits 1) rfl rfl trivial ?_)
      refine zv_step (bX4_addDigits 1) rfl rfl (by dsimp only; decide) ?_
      iterate 1 (refine zv_step (bX4_addDigits 1) rfl rfl trivial ?_)
      refine zv_V1 (bX4_addDigits 1) rfl rfl rfl rfl rfl rfl rfl ⟨rfl, rfl, rfl⟩ ⟨by decide, by decide⟩ ⟨Nat.zero_le _, Nat.zero_le _⟩ (sAdd27 O P Y g (by omega) _ _) ?_
      rintro _ _ ⟨rfl, rfl⟩
      iterate 2 (refine zv_step (bX4_addDigits 1) rfl rfl trivial ?_)
      refine zv_step (bX4_addDigits 1) rfl rfl (by dsimp only; decide) ?_
      iterate 3 (refine zv_step (bX4_addDigits 1) rfl rfl trivial ?_)
      show zV _ _ _ _ _ 39 [(3, .int 2), (2, .int (((c8 100 / c8 10) / c8 10))), (0, .ref 27), (1, .int v)] [] (wX (upd O 3 (nI (q + 2))) (updA P 28 (ap1 (ap1 (row) (q) (c8 10 + (v / c8 100 - v / c8 100 / c8 10 * c8 10))) (q + 1) (c8 10 + (v / (c8 100 / c8 10) - v / (c8 100 / c8 10) / c8 10 * c8 10)))) Y g) _
      iterate 3 (refine zv_step (bX4_addDigits 1) rfl rfl trivial ?_)
      refine zv_iff (by decide) ?_
      iterate 2 (refine zv_step (bX4_addDigits 1) rfl rfl trivial ?_)
      refine zv_iff (by decide) ?_
      iterate 4 (refine zv_step (bX4_addDigits 1) rfl rfl trivial ?_)
      refine zv_step (bX4_addDigits 1) rfl rfl (by dsimp only; decide) ?_
      iterate 1 (refine zv_step (bX4_addDigits 1) rfl rfl trivial ?_)
      refine zv_step (bX4_addDigits 1) rfl rfl (by dsimp only; decide) ?_
      iterate 1 (refine zv_step (bX4_addDigits 1) rfl rfl trivial ?_)
      refine zv_V1 (bX4_addDigits 1) rfl rfl rfl rfl rfl rfl rfl ⟨rfl, rfl, rfl⟩ ⟨by decide, by decide⟩ ⟨Nat.zero_le _, Nat.zero_le _⟩ (sAdd27 O P Y g (by omega) _ _) ?_
      rintro _ _ ⟨rfl, rfl⟩
      iterate 2 (refine zv_step (bX4_addDigits 1) rfl rfl trivial ?_)
      refine zv_step (bX4_addDigits 1) rfl rfl (by dsimp only; decide) ?_
      iterate 3 (refine zv_step (bX4_addDigits 1) rfl rfl trivial ?_)
      show zV _ _ _ _ _ 39 [(3, .int 3), (2, .int ((((c8 100 / c8 10) / c8 10) / c8 10))), (0, .ref 27), (1, .int v)] [] (wX (upd O 3 (nI (q + 3))) (updA P 28 (ap1 (ap1 (ap1 (row) (q) (c8 10 + (v / c8 100 - v / c8 100 / c8 10 * c8 10))) (q + 1) (c8 10 + (v / (c8 100 / c8 10) - v / (c8 100 / c8 10) / c8 10 * c8 10))) (q + 2) (c8 10 + (v / ((c8 100 / c8 10) / c8 10) - v / ((c8 100 / c8 10) / c8 10) / c8 10 * c8 10)))) Y g) _
      iterate 3 (refine zv_step (bX4_addDigits 1) rfl rfl trivial ?_)
      refine zv_iff (by decide) ?_
      iterate 2 (refine zv_step (bX4_addDigits 1) rfl rfl trivial ?_)
      refine zv_ift (by decide) ?_
      exact zv_ret (bX4_addDigits 1) rfl rfl (Nat.zero_le _) (Nat.zero_le _) ⟨rfl, by rw [show dgW v = [c8 10 + (v / c8 100 - v / c8 100 / c8 10 * c8 10), c8 10 + (v / (c8 100 / c8 10) - v / (c8 100 / c8 10) / c8 10 * c8 10), c8 10 + (v / ((c8 100 / c8 10) / c8 10) - v / ((c8 100 / c8 10) / c8 10) / c8 10 * c8 10)] by unfold dgW; rw [if_pos h1, if_neg h2]]; rfl⟩
  · iterate 5 (refine zv_step (bX4_addDigits 1) rfl rfl trivial ?_)
    show zV _ _ _ _ _ 39 [(3, .int 0), (2, .int ((Int16.ofInt 1000).toInt32)), (0, .ref 27), (1, .int v)] [] (wX (upd O 3 (nI (q))) (updA P 28 (row)) Y g) _
    iterate 3 (refine zv_step (bX4_addDigits 1) rfl rfl trivial ?_)
    refine zv_iff (by decide) ?_
    iterate 2 (refine zv_step (bX4_addDigits 1) rfl rfl trivial ?_)
    refine zv_iff (by decide) ?_
    iterate 4 (refine zv_step (bX4_addDigits 1) rfl rfl trivial ?_)
    refine zv_step (bX4_addDigits 1) rfl rfl (by dsimp only; decide) ?_
    iterate 1 (refine zv_step (bX4_addDigits 1) rfl rfl trivial ?_)
    refine zv_step (bX4_addDigits 1) rfl rfl (by dsimp only; decide) ?_
    iterate 1 (refine zv_step (bX4_addDigits 1) rfl rfl trivial ?_)
    refine zv_V1 (bX4_addDigits 1) rfl rfl rfl rfl rfl rfl rfl ⟨rfl, rfl, rfl⟩ ⟨by decide, by decide⟩ ⟨Nat.zero_le _, Nat.zero_le _⟩ (sAdd27 O P Y g (by omega) _ _) ?_
    rintro _ _ ⟨rfl, rfl⟩
    iterate 2 (refine zv_step (bX4_addDigits 1) rfl rfl trivial ?_)
    refine zv_step (bX4_addDigits 1) rfl rfl (by dsimp only; decide) ?_
    iterate 3 (refine zv_step (bX4_addDigits 1) rfl rfl trivial ?_)
    show zV _ _ _ _ _ 39 [(3, .int 1), (2, .int (((Int16.ofInt 1000).toInt32 / c8 10))), (0, .ref 27), (1, .int v)] [] (wX (upd O 3 (nI (q + 1))) (updA P 28 (ap1 (row) (q) (c8 10 + (v / (Int16.ofInt 1000).toInt32 - v / (Int16.ofInt 1000).toInt32 / c8 10 * c8 10)))) Y g) _
    iterate 3 (refine zv_step (bX4_addDigits 1) rfl rfl trivial ?_)
    refine zv_iff (by decide) ?_
    iterate 2 (refine zv_step (bX4_addDigits 1) rfl rfl trivial ?_)
    refine zv_iff (by decide) ?_
    iterate 4 (refine zv_step (bX4_addDigits 1) rfl rfl trivial ?_)
    refine zv_step (bX4_addDigits 1) rfl rfl (by dsimp only; decide) ?_
    iterate 1 (refine zv_step (bX4_addDigits 1) rfl rfl trivial ?_)
    refine zv_step (bX4_addDigits 1) rfl rfl (by dsimp only; decide) ?_
    iterate 1 (refine zv_step (bX4_addDigits 1) rfl rfl trivial ?_)
    refine zv_V1 (bX4_addDigits 1) rfl rfl rfl rfl rfl rfl rfl ⟨rfl, rfl, rfl⟩ ⟨by decide, by decide⟩ ⟨Nat.zero_le _, Nat.zero_le _⟩ (sAdd27 O P Y g (by omega) _ _) ?_
    rintro _ _ ⟨rfl, rfl⟩
    iterate 2 (refine zv_step (bX4_addDigits 1) rfl rfl trivial ?_)
    refine zv_step (bX4_addDigits 1) rfl rfl (by dsimp only; decide) ?_
    iterate 3 (refine zv_step (bX4_addDigits 1) rfl rfl trivial ?_)
    show zV _ _ _ _ _ 39 [(3, .int 2), (2, .int ((((Int16.ofInt 1000).toInt32 / c8 10) / c8 10))), (0, .ref 27), (1, .int v)] [] (wX (upd O 3 (nI (q + 2))) (updA P 28 (ap1 (ap1 (row) (q) (c8 10 + (v / (Int16.ofInt 1000).toInt32 - v / (Int16.ofInt 1000).toInt32 / c8 10 * c8 10))) (q + 1) (c8 10 + (v / ((Int16.ofInt 1000).toInt32 / c8 10) - v / ((Int16.ofInt 1000).toInt32 / c8 10) / c8 10 * c8 10)))) Y g) _
    iterate 3 (refine zv_step (bX4_addDigits 1) rfl rfl trivial ?_)
    refine zv_iff (by decide) ?_
    iterate 2 (refine zv_step (bX4_addDigits 1) rfl rfl trivial ?_)
    refine zv_iff (by decide) ?_
    iterate 4 (refine zv_step (bX4_addDigits 1) rfl rfl trivial ?_)
    refine zv_step (bX4_addDigits 1) rfl rfl (by dsimp only; decide) ?_
    iterate 1 (refine zv_step (bX4_addDigits 1) rfl rfl trivial ?_)
    refine zv_step (bX4_addDigits 1) rfl rfl (by dsimp only; decide) ?_
    iterate 1 (refine zv_step (bX4_addDigits 1) rfl rfl trivial ?_)
    refine zv_V1 (bX4_addDigits 1) rfl rfl rfl rfl rfl rfl rfl ⟨rfl, rfl, rfl⟩ ⟨by decide, by decide⟩ ⟨Nat.zero_le _, Nat.zero_le _⟩ (sAdd27 O P Y g (by omega) _ _) ?_
    rintro _ _ ⟨rfl, rfl⟩
    iterate 2 (refine zv_step (bX4_addDigits 1) rfl rfl trivial ?_)
    refine zv_step (bX4_addDigits 1) rfl rfl (by dsimp only; decide) ?_
    iterate 3 (refine zv_step (bX4_addDigits 1) rfl rfl trivial ?_)
    show zV _ _ _ _ _ 39 [(3, .int 3), (2, .int (((((Int16.ofInt 1000).toInt32 / c8 10) / c8 10) / c8 10))), (0, .ref 27), (1, .int v)] [] (wX (upd O 3 (nI (q + 3))) (updA P 28 (ap1 (ap1 (ap1 (row) (q) (c8 10 + (v / (Int16.ofInt 1000).toInt32 - v / (Int16.ofInt 1000).toInt32 / c8 10 * c8 10))) (q + 1) (c8 10 + (v / ((Int16.ofInt 1000).toInt32 / c8 10) - v / ((Int16.ofInt 1000).toInt32 / c8 10) / c8 10 * c8 10))) (q + 2) (c8 10 + (v / (((Int16.ofInt 1000).toInt32 / c8 10) / c8 10) - v / (((Int16.ofInt 1000).toInt32 / c8 10) / c8 10) / c8 10 * c8 10)))) Y g) _
    iterate 3 (refine zv_step (bX4_addDigits 1) rfl rfl trivial ?_)
    refine zv_iff (by decide) ?_
    iterate 2 (refine zv_step (bX4_addDigits 1) rfl rfl trivial ?_)
    refine zv_iff (by decide) ?_
    iterate 4 (refine zv_step (bX4_addDigits 1) rfl rfl trivial ?_)
    refine zv_step (bX4_addDigits 1) rfl rfl (by dsimp only; decide) ?_
    iterate 1 (refine zv_step (bX4_addDigits 1) rfl rfl trivial ?_)
    refine zv_step (bX4_addDigits 1) rfl rfl (by dsimp only; decide) ?_
    iterate 1 (refine zv_step (bX4_addDigits 1) rfl rfl trivial ?_)
    refine zv_V1 (bX4_addDigits 1) rfl rfl rfl rfl rfl rfl rfl ⟨rfl, rfl, rfl⟩ ⟨by decide, by decide⟩ ⟨Nat.zero_le _, Nat.zero_le _⟩ (sAdd27 O P Y g (by omega) _ _) ?_
    rintro _ _ ⟨rfl, rfl⟩
    iterate 2 (refine zv_step (bX4_addDigits 1) rfl rfl trivial ?_)
    refine zv_step (bX4_addDigits 1) rfl rfl (by dsimp only; decide) ?_
    iterate 3 (refine zv_step (bX4_addDigits 1) rfl rfl trivial ?_)
    show zV _ _ _ _ _ 39 [(3, .int 4), (2, .int ((((((Int16.ofInt 1000).toInt32 / c8 10) / c8 10) / c8 10) / c8 10))), (0, .ref 27), (1, .int v)] [] (wX (upd O 3 (nI (q + 4))) (updA P 28 (ap1 (ap1 (ap1 (ap1 (row) (q) (c8 10 + (v / (Int16.ofInt 1000).toInt32 - v / (Int16.ofInt 1000).toInt32 / c8 10 * c8 10))) (q + 1) (c8 10 + (v / ((Int16.ofInt 1000).toInt32 / c8 10) - v / ((Int16.ofInt 1000).toInt32 / c8 10) / c8 10 * c8 10))) (q + 2) (c8 10 + (v / (((Int16.ofInt 1000).toInt32 / c8 10) / c8 10) - v / (((Int16.ofInt 1000).toInt32 / c8 10) / c8 10) / c8 10 * c8 10))) (q + 3) (c8 10 + (v / ((((Int16.ofInt 1000).toInt32 / c8 10) / c8 10) / c8 10) - v / ((((Int16.ofInt 1000).toInt32 / c8 10) / c8 10) / c8 10) / c8 10 * c8 10)))) Y g) _
    iterate 3 (refine zv_step (bX4_addDigits 1) rfl rfl trivial ?_)
    refine zv_ift (by decide) ?_
    exact zv_ret (bX4_addDigits 1) rfl rfl (Nat.zero_le _) (Nat.zero_le _) ⟨rfl, by rw [show dgW v = [c8 10 + (v / (Int16.ofInt 1000).toInt32 - v / (Int16.ofInt 1000).toInt32 / c8 10 * c8 10), c8 10 + (v / ((Int16.ofInt 1000).toInt32 / c8 10) - v / ((Int16.ofInt 1000).toInt32 / c8 10) / c8 10 * c8 10), c8 10 + (v / (((Int16.ofInt 1000).toInt32 / c8 10) / c8 10) - v / (((Int16.ofInt 1000).toInt32 / c8 10) / c8 10) / c8 10 * c8 10), c8 10 + (v / ((((Int16.ofInt 1000).toInt32 / c8 10) / c8 10) / c8 10) - v / ((((Int16.ofInt 1000).toInt32 / c8 10) / c8 10) / c8 10) / c8 10 * c8 10)] by unfold dgW; rw [if_neg h1]]; rfl⟩
