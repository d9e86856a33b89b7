set_option maxHeartbeats 1000000 in
set_option maxRecDepth 20000 in
theorem cClear85 (O : Nat → Int32) (P : Nat → Nat → Int32) (Y : Nat → Nat → Int64) (g : Nat → zC) (x n a b e : Int32) {i n0 : Nat} {Q : Option Value → zW → Prop} (kk : ∀ b', zV (zMo 1 zX6_clear) false n0 0 0 34 [(5, .int (nI i + Int32.ofInt 1)), (4, .int (b')), (3, .int (a)), (0, .ref 0), (1, .int x), (2, .int n)] [] (wX O P Y g) Q) : zV (zMo 1 zX6_clear) false n0 0 0 85 [(3, .int a), (6, .int e), (5, .int (nI i)), (4, .int b), (0, .ref 0), (1, .int x), (2, .int n)] [] (wX O P Y g) Q := by
  iterate 2 (refine zv_step (bX6_clear 1) rfl rfl trivial ?_)
  refine zv_ifb (fun h1 => ?_) (fun h1 => ?_)
  · iterate 5 (refine zv_step (bX6_clear 1) rfl rfl trivial ?_)
    refine zv_locals (l := [(5, .int (nI i + Int32.ofInt 1)), (4, .int (Int32.ofInt 1)), (3, .int a), (6, .int e), (0, .ref 0), (1, .int x), (2, .int n)]) (l' := [(5, .int (nI i + Int32.ofInt 1)), (4, .int (Int32.ofInt 1)), (3, .int (a)), (0, .ref 0), (1, .int x), (2, .int n)]) ?_ (kk _)
    simp
  · iterate 2 (refine zv_step (bX6_clear 1) rfl rfl trivial ?_)
    refine zv_ifb (fun h2 => ?_) (fun h2 => ?_)
    · iterate 4 (refine zv_step (bX6_clear 1) rfl rfl trivial ?_)
      refine zv_locals (l := [(5, .int (nI i + Int32.ofInt 1)), (4, .int (Int32.ofInt 0)), (3, .int a), (6, .int e), (0, .ref 0), (1, .int x), (2, .int n)]) (l' := [(5, .int (nI i + Int32.ofInt 1)), (4, .int (Int32.ofInt 0)), (3, .int (a)), (0, .ref 0), (1, .int x), (2, .int n)]) ?_ (kk _)
      simp
    · iterate 1 (refine zv_step (bX6_clear 1) rfl rfl trivial ?_)
      refine zv_S1 (bX6_clear 1) rfl rfl rfl rfl ⟨rfl, rfl, rfl⟩ ⟨by decide, by decide⟩ ⟨Nat.zero_le _, Nat.zero_le _⟩ (hX1_isPrefix _ _) ?_
      rintro _ _ ⟨rfl, ⟨h3, rfl⟩ | ⟨h3, rfl⟩⟩
      · iterate 1 (refine zv_step (bX6_clear 1) rfl rfl trivial ?_)
        refine zv_iff (by decide) ?_
        iterate 5 (refine zv_step (bX6_clear 1) rfl rfl trivial ?_)
        refine zv_locals (l := [(5, .int (nI i + Int32.ofInt 1)), (4, .int (Int32.ofInt 1)), (3, .int a), (6, .int e), (0, .ref 0), (1, .int x), (2, .int n)]) (l' := [(5, .int (nI i + Int32.ofInt 1)), (4, .int (Int32.ofInt 1)), (3, .int (a)), (0, .ref 0), (1, .int x), (2, .int n)]) ?_ (kk _)
        simp
      · iterate 1 (refine zv_step (bX6_clear 1) rfl rfl trivial ?_)
        refine zv_ift (by decide) ?_
        iterate 4 (refine zv_step (bX6_clear 1) rfl rfl trivial ?_)
        refine zv_locals (l := [(5, .int (nI i + Int32.ofInt 1)), (4, .int (Int32.ofInt 0)), (3, .int a), (6, .int e), (0, .ref 0), (1, .int x), (2, .int n)]) (l' := [(5, .int (nI i + Int32.ofInt 1)), (4, .int (Int32.ofInt 0)), (3, .int (a)), (0, .ref 0), (1, .int x), (2, .int n)]) ?_ (kk _)
        simp
set_option maxHeartbeats 1000000 in
set_option maxRecDepth 20000 in
theorem cClearL (O : Nat → Int32) (P : Nat → Nat → Int32) (Y : Nat → Nat → Int64) (g : Nat → zC) {x : Int32} (hv : vp_in x 8) (n : Int32) {n0 : Nat} : ∀ (c i : Nat), i + c = 10 → ∀ {x5 b a : Int32}, x5 = nI i → zV (zMo 1 zX6_clear) false n0 0 0 34 [(5, .int (x5)), (4, .int (b)), (3, .int (a)), (0, .ref 0), (1, .int x), (2, .int n)] [] (wX O P Y g) (fun r w' => w' = wX O P Y g ∧ ∃ v : Int32, r = some (.int v)) := by
  intro c
  induction c with
  | zero =>
    intro i hc x5 b a e5
    subst e5
    iterate 3 (refine zv_step (bX6_clear 1) rfl rfl trivial ?_)
    refine zv_ift (show c8 9 < nI i by rw [show c8 9 = nI 9 from rfl]; exact nI_lt (by omega) (by omega)) ?_
    iterate 2 (refine zv_step (bX6_clear 1) rfl rfl trivial ?_)
    refine zv_ifb (fun h1 => ?_) (fun h1 => ?_)
    · iterate 1 (refine zv_step (bX6_clear 1) rfl rfl trivial ?_)
      exact zv_iret (bX6_clear 1) rfl (Or.inl rfl) (Nat.zero_le _) (Nat.zero_le _) ⟨rfl, _, rfl⟩
    · iterate 2 (refine zv_step (bX6_clear 1) rfl rfl trivial ?_)
      refine zv_ifb (fun h2 => ?_) (fun h2 => ?_)
      · iterate 1 (refine zv_step (bX6_clear 1) rfl rfl trivial ?_)
        exact zv_iret (bX6_clear 1) rfl (Or.inl rfl) (Nat.zero_le _) (Nat.zero_le _) ⟨rfl, _, rfl⟩
      · iterate 2 (refine zv_step (bX6_clear 1) rfl rfl trivial ?_)
        exact zv_iret (bX6_clear 1) rfl (Or.inl rfl) (Nat.zero_le _) (Nat.zero_le _) ⟨rfl, _, rfl⟩
  | succ c ih =>
    intro i hc x5 b a e5
    subst e5
    iterate 3 (refine zv_step (bX6_clear 1) rfl rfl trivial ?_)
    refine zv_iff (show ¬ c8 9 < nI i by rw [show c8 9 = nI 9 from rfl]; exact nI_nlt (by omega) (by omega)) ?_
    iterate 3 (refine zv_step (bX6_clear 1) rfl rfl trivial ?_)
    refine zv_step (bX6_clear 1) rfl rfl (hv) ?_
    iterate 1 (refine zv_step (bX6_clear 1) rfl rfl trivial ?_)
    refine zv_S2 (bX6_clear 1) rfl rfl rfl rfl ⟨rfl, rfl, rfl⟩ ⟨by decide, by decide⟩ ⟨Nat.zero_le _, Nat.zero_le _⟩ (pHasBitW _ _ _) ?_
    rintro _ _ ⟨rfl, rfl⟩
    iterate 1 (refine zv_step (bX6_clear 1) rfl rfl trivial ?_)
    refine zv_ifb (fun h1 => ?_) (fun h1 => ?_)
    · iterate 4 (refine zv_step (bX6_clear 1) rfl rfl trivial ?_)
      refine zv_ifb (fun h3 => ?_) (fun h3 => ?_)
      · iterate 3 (refine zv_step (bX6_clear 1) rfl rfl trivial ?_)
        exact cClear85 O P Y g x n _ _ _ (fun b' => ih (i + 1) (by omega) (nI_1 i))
      · iterate 2 (refine zv_step (bX6_clear 1) rfl rfl trivial ?_)
        refine zv_ift (by decide) ?_
        iterate 2 (refine zv_step (bX6_clear 1) rfl rfl trivial ?_)
        exact cClear85 O P Y g x n _ _ _ (fun b' => ih (i + 1) (by omega) (nI_1 i))
    · iterate 5 (refine zv_step (bX6_clear 1) rfl rfl trivial ?_)
      refine zv_ifb (fun h3 => ?_) (fun h3 => ?_)
      · iterate 3 (refine zv_step (bX6_clear 1) rfl rfl trivial ?_)
        exact cClear85 O P Y g x n _ _ _ (fun b' => ih (i + 1) (by omega) (nI_1 i))
      · iterate 2 (refine zv_step (bX6_clear 1) rfl rfl trivial ?_)
        refine zv_iff (by decide) ?_
        iterate 1 (refine zv_step (bX6_clear 1) rfl rfl trivial ?_)
        refine zv_S1 (bX6_clear 1) rfl rfl rfl rfl ⟨rfl, rfl, rfl⟩ ⟨by decide, by decide⟩ ⟨Nat.zero_le _, Nat.zero_le _⟩ (hX1_isPair _ _) ?_
        rintro _ _ ⟨rfl, ⟨h4, rfl⟩ | ⟨h4, rfl⟩⟩
        · iterate 1 (refine zv_step (bX6_clear 1) rfl rfl trivial ?_)
          refine zv_iff (by decide) ?_
          iterate 3 (refine zv_step (bX6_clear 1) rfl rfl trivial ?_)
          exact cClear85 O P Y g x n _ _ _ (fun b' => ih (i + 1) (by omega) (nI_1 i))
        · iterate 1 (refine zv_step (bX6_clear 1) rfl rfl trivial ?_)
          refine zv_ift (by decide) ?_
          iterate 2 (refine zv_step (bX6_clear 1) rfl rfl trivial ?_)
          exact cClear85 O P Y g x n _ _ _ (fun b' => ih (i + 1) (by omega) (nI_1 i))
set_option maxHeartbeats 1000000 in
set_option maxRecDepth 20000 in
theorem cClear (O : Nat → Int32) (P : Nat → Nat → Int32) (Y : Nat → Nat → Int64) (g : Nat → zC) (x n : Int32) : zK 1 zX6_clear [.ref 0, .int x, .int n] (wX O P Y g) (fun r w' => w' = wX O P Y g ∧ ∃ v : Int32, r = some (.int v)) := by
  refine zK_of qX6_clear (by decide +kernel) rfl ?_
  iterate 1 (refine zv_step (bX6_clear 1) rfl rfl trivial ?_)
  refine zv_S1 (bX6_clear 1) rfl rfl rfl rfl ⟨rfl, rfl, rfl⟩ ⟨by decide, by decide⟩ ⟨Nat.zero_le _, Nat.zero_le _⟩ (hX6_isStyle _ _) ?_
  rintro _ _ ⟨rfl, ⟨hx, rfl⟩ | ⟨hx, rfl⟩⟩
  · iterate 1 (refine zv_step (bX6_clear 1) rfl rfl trivial ?_)
    refine zv_iff (by decide) ?_
    iterate 3 (refine zv_step (bX6_clear 1) rfl rfl trivial ?_)
    refine zv_ifb (fun h1 => ?_) (fun h1 => ?_)
    · iterate 1 (refine zv_step (bX6_clear 1) rfl rfl trivial ?_)
      exact zv_iret (bX6_clear 1) rfl (Or.inl rfl) (Nat.zero_le _) (Nat.zero_le _) ⟨rfl, _, rfl⟩
    · iterate 3 (refine zv_step (bX6_clear 1) rfl rfl trivial ?_)
      refine zv_ifb (fun h2 => ?_) (fun h2 => ?_)
      · iterate 3 (refine zv_step (bX6_clear 1) rfl rfl trivial ?_)
        refine zv_ifb (fun h3 => ?_) (fun h3 => ?_)
        · iterate 6 (refine zv_step (bX6_clear 1) rfl rfl trivial ?_)
          exact cClearL O P Y g (vp_in_iff.mpr ⟨hx.1, Int.lt_of_le_of_lt hx.2 (by decide)⟩) n 8 2 rfl rfl
        · iterate 1 (refine zv_step (bX6_clear 1) rfl rfl trivial ?_)
          exact zv_iret (bX6_clear 1) rfl (Or.inl rfl) (Nat.zero_le _) (Nat.zero_le _) ⟨rfl, _, rfl⟩
      · iterate 1 (refine zv_step (bX6_clear 1) rfl rfl trivial ?_)
        exact zv_iret (bX6_clear 1) rfl (Or.inl rfl) (Nat.zero_le _) (Nat.zero_le _) ⟨rfl, _, rfl⟩
  · iterate 1 (refine zv_step (bX6_clear 1) rfl rfl trivial ?_)
    refine zv_ift (by decide) ?_
    iterate 1 (refine zv_step (bX6_clear 1) rfl rfl trivial ?_)
    exact zv_iret (bX6_clear 1) rfl (Or.inl rfl) (Nat.zero_le _) (Nat.zero_le _) ⟨rfl, _, rfl⟩
