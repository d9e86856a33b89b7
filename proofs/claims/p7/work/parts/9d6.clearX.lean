def clP (x k a : Int32) : Int32 := if ¬ a = 0 ∨ (hbW x k = 0 ∧ (2 ≤ k.toInt ∧ k.toInt ≤ 6)) then 1 else 0
def clQ (x k a : Int32) : Int32 := if ¬ a = 0 ∨ (hbW x k = 0 ∧ (k.toInt = 7 ∨ k.toInt = 9)) then 1 else 0
/-- the two flags of clear behind the KINDS i .. i + c -/
def clS (x : Int32) : Nat → Nat → Int32 → Int32 → Int32
  | 0, _, a, b => if ¬ a = 0 ∧ ¬ b = 0 then 0 else 1
  | c + 1, i, a, b => clS x c (i + 1) (clP x (nI i) a) (clQ x (nI i) b)
set_option maxHeartbeats 1000000 in
set_option maxRecDepth 20000 in
theorem cClrX (O : Nat → Int32) (P : Nat → Nat → Int32) (Y : Nat → Nat → Int64) (g : Nat → zC) {x : Int32} (hv : vp_in x 8) (n : Int32) {n0 : Nat} : ∀ (c i : Nat), i + c = 10 → ∀ {x5 b a : Int32}, x5 = nI i → zV (zMo 1 zX6_clear) false n0 0 0 34 [(5, .int x5), (4, .int b), (3, .int a), (0, .ref 0), (1, .int x), (2, .int n)] [] (wX O P Y g) (fun r w' => w' = wX O P Y g ∧ r = some (.int (clS (P 75 x.toNatClampNeg) c i a b))) := by
  intro c
  induction c with
  | zero =>
    intro i hc x5 b a e5
    subst e5
    iterate 3 (refine zv_step (bX6_clear 1) rfl rfl trivial ?_)
    refine zv_ift (show c8 9 < nI i from show nI 9 < nI i from nI_lt (by omega) (by omega)) ?_
    iterate 2 (refine zv_step (bX6_clear 1) rfl rfl trivial ?_)
    refine zv_ifb (fun h117 => ?_) (fun h117 => ?_)
    · iterate 1 (refine zv_step (bX6_clear 1) rfl rfl trivial ?_)
      exact zv_iret (bX6_clear 1) rfl (Or.inl rfl) (Nat.zero_le _) (Nat.zero_le _) ⟨rfl, by show _ = some (Value.int (if ¬ a = 0 ∧ ¬ b = 0 then 0 else 1)); rw [if_neg (fun q => q.1 h117)]; rfl⟩
    · iterate 2 (refine zv_step (bX6_clear 1) rfl rfl trivial ?_)
      refine zv_ifb (fun h122 => ?_) (fun h122 => ?_)
      · iterate 1 (refine zv_step (bX6_clear 1) rfl rfl trivial ?_)
        exact zv_iret (bX6_clear 1) rfl (Or.inl rfl) (Nat.zero_le _) (Nat.zero_le _) ⟨rfl, by show _ = some (Value.int (if ¬ a = 0 ∧ ¬ b = 0 then 0 else 1)); rw [if_neg (fun q => q.2 h122)]; rfl⟩
      · iterate 2 (refine zv_step (bX6_clear 1) rfl rfl trivial ?_)
        exact zv_iret (bX6_clear 1) rfl (Or.inl rfl) (Nat.zero_le _) (Nat.zero_le _) ⟨rfl, by show _ = some (Value.int (if ¬ a = 0 ∧ ¬ b = 0 then 0 else 1)); rw [if_pos ⟨h117, h122⟩]; rfl⟩
  | succ c ih =>
    intro i hc x5 b a e5
    subst e5
    iterate 3 (refine zv_step (bX6_clear 1) rfl rfl trivial ?_)
    refine zv_iff (show ¬ c8 9 < nI i from show ¬ nI 9 < nI i from nI_nlt (by omega) (by omega)) ?_
    iterate 3 (refine zv_step (bX6_clear 1) rfl rfl trivial ?_)
    refine zv_step (bX6_clear 1) rfl rfl (hv) ?_
    iterate 1 (refine zv_step (bX6_clear 1) rfl rfl trivial ?_)
    refine zv_S2 (bX6_clear 1) rfl rfl rfl rfl ⟨rfl, rfl, rfl⟩ ⟨by decide, by decide⟩ ⟨Nat.zero_le _, Nat.zero_le _⟩ (pHasBitW _ _ _) ?_
    rintro _ _ ⟨rfl, rfl⟩
    iterate 1 (refine zv_step (bX6_clear 1) rfl rfl trivial ?_)
    refine zv_ifb (fun h52 => ?_) (fun h52 => ?_)
    · have q52 : ¬ hbW (P 75 x.toNatClampNeg) (nI i) = 0 := h52
      iterate 4 (refine zv_step (bX6_clear 1) rfl rfl trivial ?_)
      refine zv_ifb (fun h63 => ?_) (fun h63 => ?_)
      · iterate 5 (refine zv_step (bX6_clear 1) rfl rfl trivial ?_)
        refine zv_ifb (fun h87 => ?_) (fun h87 => ?_)
        · iterate 5 (refine zv_step (bX6_clear 1) rfl rfl trivial ?_)
          have ea : clP (P 75 x.toNatClampNeg) (nI i) a = Int32.ofInt 1 := if_pos (Or.inl h63)
          have eb : clQ (P 75 x.toNatClampNeg) (nI i) b = Int32.ofInt 1 := if_pos (Or.inl h87)
          have h9 := ih (i + 1) (by omega) (a := clP (P 75 x.toNatClampNeg) (nI i) a) (b := clQ (P 75 x.toNatClampNeg) (nI i) b) (x5 := nI i + Int32.ofInt 1) (nI_1 i)
          rw [ea, eb] at h9
          refine zv_locals (l := [(5, .int (nI i + Int32.ofInt 1)), (4, .int (Int32.ofInt 1)), (3, .int (Int32.ofInt 1)), (6, .int (Int32.ofInt 0)), (0, .ref 0), (1, .int x), (2, .int n)]) (l' := [(5, .int (nI i + Int32.ofInt 1)), (4, .int (Int32.ofInt 1)), (3, .int (Int32.ofInt 1)), (0, .ref 0), (1, .int x), (2, .int n)]) ?_ ?_
          · simp
          · show zV (zMo 1 zX6_clear) false n0 0 0 34 _ [] (wX O P Y g) (fun r w' => w' = wX O P Y g ∧ r = some (.int (clS (P 75 x.toNatClampNeg) c (i + 1) (clP (P 75 x.toNatClampNeg) (nI i) a) (clQ (P 75 x.toNatClampNeg) (nI i) b))))
            rw [ea, eb]
            exact h9
        · iterate 2 (refine zv_step (bX6_clear 1) rfl rfl trivial ?_)
          refine zv_ift (by decide) ?_
          iterate 4 (refine zv_step (bX6_clear 1) rfl rfl trivial ?_)
          have ea : clP (P 75 x.toNatClampNeg) (nI i) a = Int32.ofInt 1 := if_pos (Or.inl h63)
          have eb : clQ (P 75 x.toNatClampNeg) (nI i) b = Int32.ofInt 0 := if_neg (fun q => q.elim h87 (fun w => q52 w.1))
          have h9 := ih (i + 1) (by omega) (a := clP (P 75 x.toNatClampNeg) (nI i) a) (b := clQ (P 75 x.toNatClampNeg) (nI i) b) (x5 := nI i + Int32.ofInt 1) (nI_1 i)
          rw [ea, eb] at h9
          refine zv_locals (l := [(5, .int (nI i + Int32.ofInt 1)), (4, .int (Int32.ofInt 0)), (3, .int (Int32.ofInt 1)), (6, .int (Int32.ofInt 0)), (0, .ref 0), (1, .int x), (2, .int n)]) (l' := [(5, .int (nI i + Int32.ofInt 1)), (4, .int (Int32.ofInt 0)), (3, .int (Int32.ofInt 1)), (0, .ref 0), (1, .int x), (2, .int n)]) ?_ ?_
          · simp
          · show zV (zMo 1 zX6_clear) false n0 0 0 34 _ [] (wX O P Y g) (fun r w' => w' = wX O P Y g ∧ r = some (.int (clS (P 75 x.toNatClampNeg) c (i + 1) (clP (P 75 x.toNatClampNeg) (nI i) a) (clQ (P 75 x.toNatClampNeg) (nI i) b))))
            rw [ea, eb]
            exact h9
      · iterate 2 (refine zv_step (bX6_clear 1) rfl rfl trivial ?_)
        refine zv_ift (by decide) ?_
        iterate 4 (refine zv_step (bX6_clear 1) rfl rfl trivial ?_)
        refine zv_ifb (fun h87 => ?_) (fun h87 => ?_)
        · iterate 5 (refine zv_step (bX6_clear 1) rfl rfl trivial ?_)
          have ea : clP (P 75 x.toNatClampNeg) (nI i) a = Int32.ofInt 0 := if_neg (fun q => q.elim h63 (fun w => q52 w.1))
          have eb : clQ (P 75 x.toNatClampNeg) (nI i) b = Int32.ofInt 1 := if_pos (Or.inl h87)
          have h9 := ih (i + 1) (by omega) (a := clP (P 75 x.toNatClampNeg) (nI i) a) (b := clQ (P 75 x.toNatClampNeg) (nI i) b) (x5 := nI i + Int32.ofInt 1) (nI_1 i)
          rw [ea, eb] at h9
          refine zv_locals (l := [(5, .int (nI i + Int32.ofInt 1)), (4, .int (Int32.ofInt 1)), (3, .int (Int32.ofInt 0)), (6, .int (Int32.ofInt 0)), (0, .ref 0), (1, .int x), (2, .int n)]) (l' := [(5, .int (nI i + Int32.ofInt 1)), (4, .int (Int32.ofInt 1)), (3, .int (Int32.ofInt 0)), (0, .ref 0), (1, .int x), (2, .int n)]) ?_ ?_
          · simp
          · show zV (zMo 1 zX6_clear) false n0 0 0 34 _ [] (wX O P Y g) (fun r w' => w' = wX O P Y g ∧ r = some (.int (clS (P 75 x.toNatClampNeg) c (i + 1) (clP (P 75 x.toNatClampNeg) (nI i) a) (clQ (P 75 x.toNatClampNeg) (nI i) b))))
            rw [ea, eb]
            exact h9
        · iterate 2 (refine zv_step (bX6_clear 1) rfl rfl trivial ?_)
          refine zv_ift (by decide) ?_
          iterate 4 (refine zv_step (bX6_clear 1) rfl rfl trivial ?_)
          have ea : clP (P 75 x.toNatClampNeg) (nI i) a = Int32.ofInt 0 := if_neg (fun q => q.elim h63 (fun w => q52 w.1))
          have eb : clQ (P 75 x.toNatClampNeg) (nI i) b = Int32.ofInt 0 := if_neg (fun q => q.elim h87 (fun w => q52 w.1))
          have h9 := ih (i + 1) (by omega) (a := clP (P 75 x.toNatClampNeg) (nI i) a) (b := clQ (P 75 x.toNatClampNeg) (nI i) b) (x5 := nI i + Int32.ofInt 1) (nI_1 i)
          rw [ea, eb] at h9
          refine zv_locals (l := [(5, .int (nI i + Int32.ofInt 1)), (4, .int (Int32.ofInt 0)), (3, .int (Int32.ofInt 0)), (6, .int (Int32.ofInt 0)), (0, .ref 0), (1, .int x), (2, .int n)]) (l' := [(5, .int (nI i + Int32.ofInt 1)), (4, .int (Int32.ofInt 0)), (3, .int (Int32.ofInt 0)), (0, .ref 0), (1, .int x), (2, .int n)]) ?_ ?_
          · simp
          · show zV (zMo 1 zX6_clear) false n0 0 0 34 _ [] (wX O P Y g) (fun r w' => w' = wX O P Y g ∧ r = some (.int (clS (P 75 x.toNatClampNeg) c (i + 1) (clP (P 75 x.toNatClampNeg) (nI i) a) (clQ (P 75 x.toNatClampNeg) (nI i) b))))
            rw [ea, eb]
            exact h9
    · have q52 : hbW (P 75 x.toNatClampNeg) (nI i) = 0 := Decidable.not_not.mp h52
      iterate 5 (refine zv_step (bX6_clear 1) rfl rfl trivial ?_)
      refine zv_ifb (fun h63 => ?_) (fun h63 => ?_)
      · iterate 5 (refine zv_step (bX6_clear 1) rfl rfl trivial ?_)
        refine zv_ifb (fun h87 => ?_) (fun h87 => ?_)
        · iterate 5 (refine zv_step (bX6_clear 1) rfl rfl trivial ?_)
          have ea : clP (P 75 x.toNatClampNeg) (nI i) a = Int32.ofInt 1 := if_pos (Or.inl h63)
          have eb : clQ (P 75 x.toNatClampNeg) (nI i) b = Int32.ofInt 1 := if_pos (Or.inl h87)
          have h9 := ih (i + 1) (by omega) (a := clP (P 75 x.toNatClampNeg) (nI i) a) (b := clQ (P 75 x.toNatClampNeg) (nI i) b) (x5 := nI i + Int32.ofInt 1) (nI_1 i)
          rw [ea, eb] at h9
          refine zv_locals (l := [(5, .int (nI i + Int32.ofInt 1)), (4, .int (Int32.ofInt 1)), (3, .int (Int32.ofInt 1)), (6, .int (Int32.ofInt 1)), (0, .ref 0), (1, .int x), (2, .int n)]) (l' := [(5, .int (nI i + Int32.ofInt 1)), (4, .int (Int32.ofInt 1)), (3, .int (Int32.ofInt 1)), (0, .ref 0), (1, .int x), (2, .int n)]) ?_ ?_
          · simp
          · show zV (zMo 1 zX6_clear) false n0 0 0 34 _ [] (wX O P Y g) (fun r w' => w' = wX O P Y g ∧ r = some (.int (clS (P 75 x.toNatClampNeg) c (i + 1) (clP (P 75 x.toNatClampNeg) (nI i) a) (clQ (P 75 x.toNatClampNeg) (nI i) b))))
            rw [ea, eb]
            exact h9
        · iterate 2 (refine zv_step (bX6_clear 1) rfl rfl trivial ?_)
          refine zv_iff (by decide) ?_
          iterate 1 (refine zv_step (bX6_clear 1) rfl rfl trivial ?_)
          refine zv_S1 (bX6_clear 1) rfl rfl rfl rfl ⟨rfl, rfl, rfl⟩ ⟨by decide, by decide⟩ ⟨Nat.zero_le _, Nat.zero_le _⟩ (hX1_isPrefix _ _) ?_
          rintro _ _ ⟨rfl, ⟨g2, rfl⟩ | ⟨g2, rfl⟩⟩
          · skip
            iterate 1 (refine zv_step (bX6_clear 1) rfl rfl trivial ?_)
            refine zv_iff (by decide) ?_
            iterate 5 (refine zv_step (bX6_clear 1) rfl rfl trivial ?_)
            have ea : clP (P 75 x.toNatClampNeg) (nI i) a = Int32.ofInt 1 := if_pos (Or.inl h63)
            have eb : clQ (P 75 x.toNatClampNeg) (nI i) b = Int32.ofInt 1 := if_pos (Or.inr ⟨q52, g2⟩)
            have h9 := ih (i + 1) (by omega) (a := clP (P 75 x.toNatClampNeg) (nI i) a) (b := clQ (P 75 x.toNatClampNeg) (nI i) b) (x5 := nI i + Int32.ofInt 1) (nI_1 i)
            rw [ea, eb] at h9
            refine zv_locals (l := [(5, .int (nI i + Int32.ofInt 1)), (4, .int (Int32.ofInt 1)), (3, .int (Int32.ofInt 1)), (6, .int (Int32.ofInt 1)), (0, .ref 0), (1, .int x), (2, .int n)]) (l' := [(5, .int (nI i + Int32.ofInt 1)), (4, .int (Int32.ofInt 1)), (3, .int (Int32.ofInt 1)), (0, .ref 0), (1, .int x), (2, .int n)]) ?_ ?_
            · simp
            · show zV (zMo 1 zX6_clear) false n0 0 0 34 _ [] (wX O P Y g) (fun r w' => w' = wX O P Y g ∧ r = some (.int (clS (P 75 x.toNatClampNeg) c (i + 1) (clP (P 75 x.toNatClampNeg) (nI i) a) (clQ (P 75 x.toNatClampNeg) (nI i) b))))
              rw [ea, eb]
              exact h9
          · skip
            iterate 1 (refine zv_step (bX6_clear 1) rfl rfl trivial ?_)
            refine zv_ift (by decide) ?_
            iterate 4 (refine zv_step (bX6_clear 1) rfl rfl trivial ?_)
            have ea : clP (P 75 x.toNatClampNeg) (nI i) a = Int32.ofInt 1 := if_pos (Or.inl h63)
            have eb : clQ (P 75 x.toNatClampNeg) (nI i) b = Int32.ofInt 0 := if_neg (fun q => q.elim h87 (fun w => g2 w.2))
            have h9 := ih (i + 1) (by omega) (a := clP (P 75 x.toNatClampNeg) (nI i) a) (b := clQ (P 75 x.toNatClampNeg) (nI i) b) (x5 := nI i + Int32.ofInt 1) (nI_1 i)
            rw [ea, eb] at h9
            refine zv_locals (l := [(5, .int (nI i + Int32.ofInt 1)), (4, .int (Int32.ofInt 0)), (3, .int (Int32.ofInt 1)), (6, .int (Int32.ofInt 1)), (0, .ref 0), (1, .int x), (2, .int n)]) (l' := [(5, .int (nI i + Int32.ofInt 1)), (4, .int (Int32.ofInt 0)), (3, .int (Int32.ofInt 1)), (0, .ref 0), (1, .int x), (2, .int n)]) ?_ ?_
            · simp
            · show zV (zMo 1 zX6_clear) false n0 0 0 34 _ [] (wX O P Y g) (fun r w' => w' = wX O P Y g ∧ r = some (.int (clS (P 75 x.toNatClampNeg) c (i + 1) (clP (P 75 x.toNatClampNeg) (nI i) a) (clQ (P 75 x.toNatClampNeg) (nI i) b))))
              rw [ea, eb]
              exact h9
      · iterate 2 (refine zv_step (bX6_clear 1) rfl rfl trivial ?_)
        refine zv_iff (by decide) ?_
        iterate 1 (refine zv_step (bX6_clear 1) rfl rfl trivial ?_)
        refine zv_S1 (bX6_clear 1) rfl rfl rfl rfl ⟨rfl, rfl, rfl⟩ ⟨by decide, by decide⟩ ⟨Nat.zero_le _, Nat.zero_le _⟩ (hX1_isPair _ _) ?_
        rintro _ _ ⟨rfl, ⟨g1, rfl⟩ | ⟨g1, rfl⟩⟩
        · skip
          iterate 1 (refine zv_step (bX6_clear 1) rfl rfl trivial ?_)
          refine zv_iff (by decide) ?_
          iterate 5 (refine zv_step (bX6_clear 1) rfl rfl trivial ?_)
          refine zv_ifb (fun h87 => ?_) (fun h87 => ?_)
          · iterate 5 (refine zv_step (bX6_clear 1) rfl rfl trivial ?_)
            have ea : clP (P 75 x.toNatClampNeg) (nI i) a = Int32.ofInt 1 := if_pos (Or.inr ⟨q52, g1⟩)
            have eb : clQ (P 75 x.toNatClampNeg) (nI i) b = Int32.ofInt 1 := if_pos (Or.inl h87)
            have h9 := ih (i + 1) (by omega) (a := clP (P 75 x.toNatClampNeg) (nI i) a) (b := clQ (P 75 x.toNatClampNeg) (nI i) b) (x5 := nI i + Int32.ofInt 1) (nI_1 i)
            rw [ea, eb] at h9
            refine zv_locals (l := [(5, .int (nI i + Int32.ofInt 1)), (4, .int (Int32.ofInt 1)), (3, .int (Int32.ofInt 1)), (6, .int (Int32.ofInt 1)), (0, .ref 0), (1, .int x), (2, .int n)]) (l' := [(5, .int (nI i + Int32.ofInt 1)), (4, .int (Int32.ofInt 1)), (3, .int (Int32.ofInt 1)), (0, .ref 0), (1, .int x), (2, .int n)]) ?_ ?_
            · simp
            · show zV (zMo 1 zX6_clear) false n0 0 0 34 _ [] (wX O P Y g) (fun r w' => w' = wX O P Y g ∧ r = some (.int (clS (P 75 x.toNatClampNeg) c (i + 1) (clP (P 75 x.toNatClampNeg) (nI i) a) (clQ (P 75 x.toNatClampNeg) (nI i) b))))
              rw [ea, eb]
              exact h9
          · iterate 2 (refine zv_step (bX6_clear 1) rfl rfl trivial ?_)
            refine zv_iff (by decide) ?_
            iterate 1 (refine zv_step (bX6_clear 1) rfl rfl trivial ?_)
            refine zv_S1 (bX6_clear 1) rfl rfl rfl rfl ⟨rfl, rfl, rfl⟩ ⟨by decide, by decide⟩ ⟨Nat.zero_le _, Nat.zero_le _⟩ (hX1_isPrefix _ _) ?_
            rintro _ _ ⟨rfl, ⟨g2, rfl⟩ | ⟨g2, rfl⟩⟩
            · skip
              iterate 1 (refine zv_step (bX6_clear 1) rfl rfl trivial ?_)
              refine zv_iff (by decide) ?_
              iterate 5 (refine zv_step (bX6_clear 1) rfl rfl trivial ?_)
              have ea : clP (P 75 x.toNatClampNeg) (nI i) a = Int32.ofInt 1 := if_pos (Or.inr ⟨q52, g1⟩)
              have eb : clQ (P 75 x.toNatClampNeg) (nI i) b = Int32.ofInt 1 := if_pos (Or.inr ⟨q52, g2⟩)
              have h9 := ih (i + 1) (by omega) (a := clP (P 75 x.toNatClampNeg) (nI i) a) (b := clQ (P 75 x.toNatClampNeg) (nI i) b) (x5 := nI i + Int32.ofInt 1) (nI_1 i)
              rw [ea, eb] at h9
              refine zv_locals (l := [(5, .int (nI i + Int32.ofInt 1)), (4, .int (Int32.ofInt 1)), (3, .int (Int32.ofInt 1)), (6, .int (Int32.ofInt 1)), (0, .ref 0), (1, .int x), (2, .int n)]) (l' := [(5, .int (nI i + Int32.ofInt 1)), (4, .int (Int32.ofInt 1)), (3, .int (Int32.ofInt 1)), (0, .ref 0), (1, .int x), (2, .int n)]) ?_ ?_
              · simp
              · show zV (zMo 1 zX6_clear) false n0 0 0 34 _ [] (wX O P Y g) (fun r w' => w' = wX O P Y g ∧ r = some (.int (clS (P 75 x.toNatClampNeg) c (i + 1) (clP (P 75 x.toNatClampNeg) (nI i) a) (clQ (P 75 x.toNatClampNeg) (nI i) b))))
                rw [ea, eb]
                exact h9
            · skip
              iterate 1 (refine zv_step (bX6_clear 1) rfl rfl trivial ?_)
              refine zv_ift (by decide) ?_
              iterate 4 (refine zv_step (bX6_clear 1) rfl rfl trivial ?_)
              have ea : clP (P 75 x.toNatClampNeg) (nI i) a = Int32.ofInt 1 := if_pos (Or.inr ⟨q52, g1⟩)
              have eb : clQ (P 75 x.toNatClampNeg) (nI i) b = Int32.ofInt 0 := if_neg (fun q => q.elim h87 (fun w => g2 w.2))
              have h9 := ih (i + 1) (by omega) (a := clP (P 75 x.toNatClampNeg) (nI i) a) (b := clQ (P 75 x.toNatClampNeg) (nI i) b) (x5 := nI i + Int32.ofInt 1) (nI_1 i)
              rw [ea, eb] at h9
              refine zv_locals (l := [(5, .int (nI i + Int32.ofInt 1)), (4, .int (Int32.ofInt 0)), (3, .int (Int32.ofInt 1)), (6, .int (Int32.ofInt 1)), (0, .ref 0), (1, .int x), (2, .int n)]) (l' := [(5, .int (nI i + Int32.ofInt 1)), (4, .int (Int32.ofInt 0)), (3, .int (Int32.ofInt 1)), (0, .ref 0), (1, .int x), (2, .int n)]) ?_ ?_
              · simp
              · show zV (zMo 1 zX6_clear) false n0 0 0 34 _ [] (wX O P Y g) (fun r w' => w' = wX O P Y g ∧ r = some (.int (clS (P 75 x.toNatClampNeg) c (i + 1) (clP (P 75 x.toNatClampNeg) (nI i) a) (clQ (P 75 x.toNatClampNeg) (nI i) b))))
                rw [ea, eb]
                exact h9
        · skip
          iterate 1 (refine zv_step (bX6_clear 1) rfl rfl trivial ?_)
          refine zv_ift (by decide) ?_
          iterate 4 (refine zv_step (bX6_clear 1) rfl rfl trivial ?_)
          refine zv_ifb (fun h87 => ?_) (fun h87 => ?_)
          · iterate 5 (refine zv_step (bX6_clear 1) rfl rfl trivial ?_)
            have ea : clP (P 75 x.toNatClampNeg) (nI i) a = Int32.ofInt 0 := if_neg (fun q => q.elim h63 (fun w => g1 w.2))
            have eb : clQ (P 75 x.toNatClampNeg) (nI i) b = Int32.ofInt 1 := if_pos (Or.inl h87)
            have h9 := ih (i + 1) (by omega) (a := clP (P 75 x.toNatClampNeg) (nI i) a) (b := clQ (P 75 x.toNatClampNeg) (nI i) b) (x5 := nI i + Int32.ofInt 1) (nI_1 i)
            rw [ea, eb] at h9
            refine zv_locals (l := [(5, .int (nI i + Int32.ofInt 1)), (4, .int (Int32.ofInt 1)), (3, .int (Int32.ofInt 0)), (6, .int (Int32.ofInt 1)), (0, .ref 0), (1, .int x), (2, .int n)]) (l' := [(5, .int (nI i + Int32.ofInt 1)), (4, .int (Int32.ofInt 1)), (3, .int (Int32.ofInt 0)), (0, .ref 0), (1, .int x), (2, .int n)]) ?_ ?_
            · simp
            · show zV (zMo 1 zX6_clear) false n0 0 0 34 _ [] (wX O P Y g) (fun r w' => w' = wX O P Y g ∧ r = some (.int (clS (P 75 x.toNatClampNeg) c (i + 1) (clP (P 75 x.toNatClampNeg) (nI i) a) (clQ (P 75 x.toNatClampNeg) (nI i) b))))
              rw [ea, eb]
              exact h9
          · iterate 2 (refine zv_step (bX6_clear 1) rfl rfl trivial ?_)
            refine zv_iff (by decide) ?_
            iterate 1 (refine zv_step (bX6_clear 1) rfl rfl trivial ?_)
            refine zv_S1 (bX6_clear 1) rfl rfl rfl rfl ⟨rfl, rfl, rfl⟩ ⟨by decide, by decide⟩ ⟨Nat.zero_le _, Nat.zero_le _⟩ (hX1_isPrefix _ _) ?_
            rintro _ _ ⟨rfl, ⟨g2, rfl⟩ | ⟨g2, rfl⟩⟩
            · skip
              iterate 1 (refine zv_step (bX6_clear 1) rfl rfl trivial ?_)
              refine zv_iff (by decide) ?_
              iterate 5 (refine zv_step (bX6_clear 1) rfl rfl trivial ?_)
              have ea : clP (P 75 x.toNatClampNeg) (nI i) a = Int32.ofInt 0 := if_neg (fun q => q.elim h63 (fun w => g1 w.2))
              have eb : clQ (P 75 x.toNatClampNeg) (nI i) b = Int32.ofInt 1 := if_pos (Or.inr ⟨q52, g2⟩)
              have h9 := ih (i + 1) (by omega) (a := clP (P 75 x.toNatClampNeg) (nI i) a) (b := clQ (P 75 x.toNatClampNeg) (nI i) b) (x5 := nI i + Int32.ofInt 1) (nI_1 i)
              rw [ea, eb] at h9
              refine zv_locals (l := [(5, .int (nI i + Int32.ofInt 1)), (4, .int (Int32.ofInt 1)), (3, .int (Int32.ofInt 0)), (6, .int (Int32.ofInt 1)), (0, .ref 0), (1, .int x), (2, .int n)]) (l' := [(5, .int (nI i + Int32.ofInt 1)), (4, .int (Int32.ofInt 1)), (3, .int (Int32.ofInt 0)), (0, .ref 0), (1, .int x), (2, .int n)]) ?_ ?_
              · simp
              · show zV (zMo 1 zX6_clear) false n0 0 0 34 _ [] (wX O P Y g) (fun r w' => w' = wX O P Y g ∧ r = some (.int (clS (P 75 x.toNatClampNeg) c (i + 1) (clP (P 75 x.toNatClampNeg) (nI i) a) (clQ (P 75 x.toNatClampNeg) (nI i) b))))
                rw [ea, eb]
                exact h9
            · skip
              iterate 1 (refine zv_step (bX6_clear 1) rfl rfl trivial ?_)
              refine zv_ift (by decide) ?_
              iterate 4 (refine zv_step (bX6_clear 1) rfl rfl trivial ?_)
              have ea : clP (P 75 x.toNatClampNeg) (nI i) a = Int32.ofInt 0 := if_neg (fun q => q.elim h63 (fun w => g1 w.2))
              have eb : clQ (P 75 x.toNatClampNeg) (nI i) b = Int32.ofInt 0 := if_neg (fun q => q.elim h87 (fun w => g2 w.2))
              have h9 := ih (i + 1) (by omega) (a := clP (P 75 x.toNatClampNeg) (nI i) a) (b := clQ (P 75 x.toNatClampNeg) (nI i) b) (x5 := nI i + Int32.ofInt 1) (nI_1 i)
              rw [ea, eb] at h9
              refine zv_locals (l := [(5, .int (nI i + Int32.ofInt 1)), (4, .int (Int32.ofInt 0)), (3, .int (Int32.ofInt 0)), (6, .int (Int32.ofInt 1)), (0, .ref 0), (1, .int x), (2, .int n)]) (l' := [(5, .int (nI i + Int32.ofInt 1)), (4, .int (Int32.ofInt 0)), (3, .int (Int32.ofInt 0)), (0, .ref 0), (1, .int x), (2, .int n)]) ?_ ?_
              · simp
              · show zV (zMo 1 zX6_clear) false n0 0 0 34 _ [] (wX O P Y g) (fun r w' => w' = wX O P Y g ∧ r = some (.int (clS (P 75 x.toNatClampNeg) c (i + 1) (clP (P 75 x.toNatClampNeg) (nI i) a) (clQ (P 75 x.toNatClampNeg) (nI i) b))))
                rw [ea, eb]
                exact h9
