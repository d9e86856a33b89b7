def brW (R : Nat → Int32) (a b : Nat) : Prop := 2 < b - a ∧ R a = c8 29 ∧ R (b - 1) = c8 30
theorem sub_le {a b n : Nat} (h : a ≤ b) (hb : b ≤ 100) (hn : n < 100) : nI b - nI a ≤ nI n ↔ b - a ≤ n := by
  rw [pk_sub h]
  exact nI_leI (by omega) (by omega)
theorem sub_1 {b : Nat} (h : 1 ≤ b) : nI b - Int32.ofInt 1 = nI (b - 1) := by
  obtain ⟨k, rfl⟩ : ∃ k, b = k + 1 := ⟨b - 1, by omega⟩
  exact nI_pred k
set_option maxHeartbeats 1000000 in
set_option maxRecDepth 20000 in
theorem hBr (O : Nat → Int32) (P : Nat → Nat → Int32) (Y : Nat → Nat → Int64) (g : Nat → zC) {a b : Nat} (hab : a < b) (hb : b ≤ 20) : zK 0 zX0_isBracketed [.ref 31, .int (nI a), .int (nI b)] (wX O P Y g) (fun r w' => w' = wX O P Y g ∧ ((brW (P 32) a b ∧ r = some (.int 1)) ∨ (¬ brW (P 32) a b ∧ r = some (.int 0)))) := by
  refine zK_of qX0_isBracketed (by decide +kernel) rfl ?_
  iterate 5 (refine zv_step (bX0_isBracketed 0) rfl rfl trivial ?_)
  refine zv_ifb (fun hc => ?_) (fun hc => ?_)
  · have hc : nI b - nI a ≤ Int32.ofInt 2 := hc
    rw [show Int32.ofInt 2 = nI 2 from rfl, sub_le (by omega) (by omega) (by decide)] at hc
    iterate 1 (refine zv_step (bX0_isBracketed 0) rfl rfl trivial ?_)
    exact zv_iret (bX0_isBracketed 0) rfl (Or.inr ⟨rfl, Or.inl rfl⟩) (Nat.zero_le _) (Nat.zero_le _) ⟨rfl, Or.inr ⟨fun q => by have := q.1; omega, rfl⟩⟩
  · have hc : ¬ nI b - nI a ≤ Int32.ofInt 2 := hc
    rw [show Int32.ofInt 2 = nI 2 from rfl, sub_le (by omega) (by omega) (by decide)] at hc
    iterate 3 (refine zv_step (bX0_isBracketed 0) rfl rfl trivial ?_)
    refine zv_iale (bX0_isBracketed 0) rfl rfl (show vp_in (nI a) 20 by exact vp_in_nI (by omega) (by decide)) (show P 32 (nI a).toNatClampNeg = P 32 (a) by rw [nI_clamp (by omega)]) ?_
    iterate 2 (refine zv_step (bX0_isBracketed 0) rfl rfl trivial ?_)
    refine zv_ifb (fun h1 => ?_) (fun h1 => ?_)
    · iterate 1 (refine zv_step (bX0_isBracketed 0) rfl rfl trivial ?_)
      exact zv_iret (bX0_isBracketed 0) rfl (Or.inr ⟨rfl, Or.inl rfl⟩) (Nat.zero_le _) (Nat.zero_le _) ⟨rfl, Or.inr ⟨fun q => h1 q.2.1, rfl⟩⟩
    · iterate 5 (refine zv_step (bX0_isBracketed 0) rfl rfl trivial ?_)
      refine zv_iale (bX0_isBracketed 0) rfl rfl (show vp_in (nI b - Int32.ofInt 1) 20 by rw [sub_1 (by omega)]; exact vp_in_nI (by omega) (by decide)) (show P 32 (nI b - Int32.ofInt 1).toNatClampNeg = P 32 (b - 1) by rw [sub_1 (by omega), nI_clamp (by omega)]) ?_
      iterate 2 (refine zv_step (bX0_isBracketed 0) rfl rfl trivial ?_)
      refine zv_ifb (fun h2 => ?_) (fun h2 => ?_)
      · iterate 1 (refine zv_step (bX0_isBracketed 0) rfl rfl trivial ?_)
        exact zv_iret (bX0_isBracketed 0) rfl (Or.inr ⟨rfl, Or.inl rfl⟩) (Nat.zero_le _) (Nat.zero_le _) ⟨rfl, Or.inr ⟨fun q => h2 q.2.2, rfl⟩⟩
      · iterate 2 (refine zv_step (bX0_isBracketed 0) rfl rfl trivial ?_)
        exact zv_iret (bX0_isBracketed 0) rfl (Or.inr ⟨rfl, Or.inr rfl⟩) (Nat.zero_le _) (Nat.zero_le _) ⟨rfl, Or.inl ⟨⟨by omega, Decidable.not_not.mp h1, Decidable.not_not.mp h2⟩, rfl⟩⟩
def pfW (k i : Int32) : Int32 := if k = c8 9 then i + Int32.ofInt 2 else i + Int32.ofInt 1
def ptoW (k j : Int32) : Int32 := if k = c8 8 then j - Int32.ofInt 1 else j
set_option maxHeartbeats 1000000 in
set_option maxRecDepth 20000 in
theorem hFrom (w : zW) (k i : Int32) : zK 0 zX0_partFrom [.int k, .int i] w (fun r w' => w' = w ∧ r = some (.int (pfW k i))) := by
  refine zK_of qX0_partFrom (by decide +kernel) rfl ?_
  iterate 3 (refine zv_step (bX0_partFrom 0) rfl rfl trivial ?_)
  refine zv_ifb (fun hc => ?_) (fun hc => ?_)
  · iterate 3 (refine zv_step (bX0_partFrom 0) rfl rfl trivial ?_)
    exact zv_iret (bX0_partFrom 0) rfl (Or.inl rfl) (Nat.zero_le _) (Nat.zero_le _) ⟨rfl, by unfold pfW; rw [if_neg hc]⟩
  · iterate 4 (refine zv_step (bX0_partFrom 0) rfl rfl trivial ?_)
    exact zv_iret (bX0_partFrom 0) rfl (Or.inl rfl) (Nat.zero_le _) (Nat.zero_le _) ⟨rfl, by unfold pfW; rw [if_pos (Decidable.not_not.mp hc)]⟩
set_option maxHeartbeats 1000000 in
set_option maxRecDepth 20000 in
theorem hTo (w : zW) (k i : Int32) : zK 0 zX0_partTo [.int k, .int i] w (fun r w' => w' = w ∧ r = some (.int (ptoW k i))) := by
  refine zK_of qX0_partTo (by decide +kernel) rfl ?_
  iterate 3 (refine zv_step (bX0_partTo 0) rfl rfl trivial ?_)
  refine zv_ifb (fun hc => ?_) (fun hc => ?_)
  · iterate 1 (refine zv_step (bX0_partTo 0) rfl rfl trivial ?_)
    exact zv_iret (bX0_partTo 0) rfl (Or.inl rfl) (Nat.zero_le _) (Nat.zero_le _) ⟨rfl, by unfold ptoW; rw [if_neg hc]⟩
  · iterate 4 (refine zv_step (bX0_partTo 0) rfl rfl trivial ?_)
    exact zv_iret (bX0_partTo 0) rfl (Or.inl rfl) (Nat.zero_le _) (Nat.zero_le _) ⟨rfl, by unfold ptoW; rw [if_pos (Decidable.not_not.mp hc)]⟩
/-- the NUMBER that words m .. say behind t, or -1 -/
def nmL (R : Nat → Int32) : Nat → Nat → Int32 → Int32
  | 0, _, t => t
  | c + 1, m, t => if R m - c8 10 < 0 then Int32.ofInt (-1) else if R m - c8 10 ≤ c8 9 then nmL R c (m + 1) (t * c8 10 + (R m - c8 10)) else Int32.ofInt (-1)
theorem nmL_s (R : Nat → Int32) (c m : Nat) (t : Int32) : nmL R (c + 1) m t = (if R m - c8 10 < 0 then Int32.ofInt (-1) else if R m - c8 10 ≤ c8 9 then nmL R c (m + 1) (t * c8 10 + (R m - c8 10)) else Int32.ofInt (-1)) := rfl
def nmW (R : Nat → Int32) (a b : Nat) : Int32 := if 4 < b - a ∨ (1 < b - a ∧ R a = c8 10) then Int32.ofInt (-1) else nmL R (b - a) a (Int32.ofInt 0)
set_option maxHeartbeats 1000000 in
set_option maxRecDepth 20000 in
theorem hNumL (O : Nat → Int32) (P : Nat → Nat → Int32) (Y : Nat → Nat → Int64) (g : Nat → zC) {a b : Nat} (hab : a < b) (hb : b ≤ 20) {n0 : Nat} : ∀ (c m : Nat), m + c = b → ∀ {x4 t : Int32}, x4 = nI m → zV (zMo 0 zX0_numberIn) false n0 0 0 32 [(4, .int x4), (3, .int t), (0, .ref 31), (1, .int (nI a)), (2, .int (nI b))] [] (wX O P Y g) (fun r w' => w' = wX O P Y g ∧ r = some (.int (nmL (P 32) c m t))) := by
  intro c
  induction c with
  | zero =>
    intro m hm x4 t e4
    subst e4
    iterate 3 (refine zv_step (bX0_numberIn 0) rfl rfl trivial ?_)
    refine zv_ift (nI_le (by omega) (by omega)) ?_
    iterate 1 (refine zv_step (bX0_numberIn 0) rfl rfl trivial ?_)
    exact zv_iret (bX0_numberIn 0) rfl (Or.inl rfl) (Nat.zero_le _) (Nat.zero_le _) ⟨rfl, rfl⟩
  | succ c ih =>
    intro m hm x4 t e4
    subst e4
    rw [nmL_s]
    iterate 3 (refine zv_step (bX0_numberIn 0) rfl rfl trivial ?_)
    refine zv_iff (nI_ge (by omega) (by omega)) ?_
    iterate 3 (refine zv_step (bX0_numberIn 0) rfl rfl trivial ?_)
    refine zv_iale (bX0_numberIn 0) rfl rfl (show vp_in (nI m) 20 by exact vp_in_nI (by omega) (by decide)) (show P 32 (nI m).toNatClampNeg = P 32 (m) by rw [nI_clamp (by omega)]) ?_
    iterate 5 (refine zv_step (bX0_numberIn 0) rfl rfl trivial ?_)
    refine zv_ifb (fun h1 => ?_) (fun h1 => ?_)
    · rw [if_pos h1]
      iterate 1 (refine zv_step (bX0_numberIn 0) rfl rfl trivial ?_)
      exact zv_iret (bX0_numberIn 0) rfl (Or.inl rfl) (Nat.zero_le _) (Nat.zero_le _) ⟨rfl, rfl⟩
    · rw [if_neg h1]
      iterate 3 (refine zv_step (bX0_numberIn 0) rfl rfl trivial ?_)
      refine zv_ifb (fun h2 => ?_) (fun h2 => ?_)
      · rw [if_pos h2]
        iterate 8 (refine zv_step (bX0_numberIn 0) rfl rfl trivial ?_)
        refine zv_locals (l := [(4, .int (nI m + Int32.ofInt 1)), (3, .int (t * c8 10 + (P 32 m - c8 10))), (5, .int (P 32 m - c8 10)), (0, .ref 31), (1, .int (nI a)), (2, .int (nI b))]) (l' := [(4, .int (nI m + Int32.ofInt 1)), (3, .int (t * c8 10 + (P 32 m - c8 10))), (0, .ref 31), (1, .int (nI a)), (2, .int (nI b))]) ?_ (ih (m + 1) (by omega) (nI_1 m))
        simp
      · rw [if_neg h2]
        iterate 1 (refine zv_step (bX0_numberIn 0) rfl rfl trivial ?_)
        exact zv_iret (bX0_numberIn 0) rfl (Or.inl rfl) (Nat.zero_le _) (Nat.zero_le _) ⟨rfl, rfl⟩
set_option maxHeartbeats 1000000 in
set_option maxRecDepth 20000 in
theorem hNum (O : Nat → Int32) (P : Nat → Nat → Int32) (Y : Nat → Nat → Int64) (g : Nat → zC) {a b : Nat} (hab : a < b) (hb : b ≤ 20) : zK 0 zX0_numberIn [.ref 31, .int (nI a), .int (nI b)] (wX O P Y g) (fun r w' => w' = wX O P Y g ∧ r = some (.int (nmW (P 32) a b))) := by
  refine zK_of qX0_numberIn (by decide +kernel) rfl ?_
  iterate 5 (refine zv_step (bX0_numberIn 0) rfl rfl trivial ?_)
  refine zv_ifb (fun hc => ?_) (fun hc => ?_)
  · have hc : Int32.ofInt 4 < nI b - nI a := hc
    rw [show Int32.ofInt 4 = nI 4 from rfl, pk_sub (by omega), nI_ltI (by decide) (by omega)] at hc
    iterate 1 (refine zv_step (bX0_numberIn 0) rfl rfl trivial ?_)
    exact zv_iret (bX0_numberIn 0) rfl (Or.inl rfl) (Nat.zero_le _) (Nat.zero_le _) ⟨rfl, by rw [show nmW (P 32) a b = Int32.ofInt (-1) from if_pos (Or.inl hc)]⟩
  · have hc : ¬ Int32.ofInt 4 < nI b - nI a := hc
    rw [show Int32.ofInt 4 = nI 4 from rfl, pk_sub (by omega), nI_ltI (by decide) (by omega)] at hc
    iterate 5 (refine zv_step (bX0_numberIn 0) rfl rfl trivial ?_)
    refine zv_ifb (fun hd => ?_) (fun hd => ?_)
    · have hd : nI b - nI a ≤ Int32.ofInt 1 := hd
      rw [show Int32.ofInt 1 = nI 1 from rfl, sub_le (by omega) (by omega) (by decide)] at hd
      iterate 4 (refine zv_step (bX0_numberIn 0) rfl rfl trivial ?_)
      rw [show nmW (P 32) a b = nmL (P 32) (b - a) a (Int32.ofInt 0) from if_neg (fun q => q.elim hc (fun z => by have := z.1; omega))]
      exact hNumL O P Y g hab hb (b - a) a (by omega) rfl
    · have hd : ¬ nI b - nI a ≤ Int32.ofInt 1 := hd
      rw [show Int32.ofInt 1 = nI 1 from rfl, sub_le (by omega) (by omega) (by decide)] at hd
      iterate 3 (refine zv_step (bX0_numberIn 0) rfl rfl trivial ?_)
      refine zv_iale (bX0_numberIn 0) rfl rfl (show vp_in (nI a) 20 by exact vp_in_nI (by omega) (by decide)) (show P 32 (nI a).toNatClampNeg = P 32 (a) by rw [nI_clamp (by omega)]) ?_
      iterate 2 (refine zv_step (bX0_numberIn 0) rfl rfl trivial ?_)
      refine zv_ifb (fun he => ?_) (fun he => ?_)
      · iterate 4 (refine zv_step (bX0_numberIn 0) rfl rfl trivial ?_)
        rw [show nmW (P 32) a b = nmL (P 32) (b - a) a (Int32.ofInt 0) from if_neg (fun q => q.elim hc (fun z => he z.2))]
        exact hNumL O P Y g hab hb (b - a) a (by omega) rfl
      · iterate 1 (refine zv_step (bX0_numberIn 0) rfl rfl trivial ?_)
        exact zv_iret (bX0_numberIn 0) rfl (Or.inl rfl) (Nat.zero_le _) (Nat.zero_le _) ⟨rfl, by rw [show nmW (P 32) a b = Int32.ofInt (-1) from if_pos (Or.inr ⟨by omega, Decidable.not_not.mp he⟩)]⟩
