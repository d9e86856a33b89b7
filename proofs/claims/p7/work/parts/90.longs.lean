def cap : Nat := 1000000000000000
theorem lN_T {n : Nat} (h : n < 2 ^ 62) : (lN n).toInt = (n : Int) := lg_ofNat_toInt (by omega)
theorem lN_leJ {a b : Nat} (ha : a < 2 ^ 62) (hb : b < 2 ^ 62) : lN a ≤ lN b ↔ a ≤ b := by
  rw [Int64.le_iff_toInt_le, lN_T ha, lN_T hb]
  omega
theorem lN_ltJ {a b : Nat} (ha : a < 2 ^ 62) (hb : b < 2 ^ 62) : lN a < lN b ↔ a < b := by
  rw [Int64.lt_iff_toInt_lt, lN_T ha, lN_T hb]
  omega
theorem lN_eqJ {a b : Nat} (ha : a < 2 ^ 62) (hb : b < 2 ^ 62) : lN a = lN b ↔ a = b := by
  rw [← Int64.toInt_inj, lN_T ha, lN_T hb]
  omega
theorem lN_divJ {a b : Nat} (ha : a < 2 ^ 62) (hb : b < 2 ^ 62) : lN a / lN b = lN (a / b) := by
  have hq : a / b ≤ a := Nat.div_le_self a b
  rw [← Int64.toInt_inj, lN_T (by omega), Int64.toInt_div, lN_T ha, lN_T hb, ← Int.ofNat_tdiv]
  generalize a / b = c at hq ⊢
  exact Int.bmod_eq_of_le (by omega) (by omega)
theorem lN_cl {n : Nat} (h : n < 2 ^ 62) : (lN n).toInt.toNat = n := by
  rw [lN_T h]
  omega
def plW (a b : Nat) : Nat := if a + b ≤ cap then a + b else cap
def tmW (a b : Nat) : Nat := if a * b ≤ cap then a * b else cap
theorem plW_le (a b : Nat) : plW a b ≤ cap ∧ plW a b ≤ a + b := by
  unfold plW
  split <;> omega
theorem tmW_le (a b : Nat) : tmW a b ≤ cap ∧ tmW a b ≤ a * b := by
  unfold tmW
  split
  · exact ⟨by assumption, Nat.le_refl _⟩
  · exact ⟨Nat.le_refl _, by omega⟩
section ZLA
variable {M : zM} {al : Bool} {n0 kc ks pc nxt a b : Nat} {c0 : Int} {l : zL} {st : List Value} {w : zW} {Q : Option Value → zW → Prop} {tb : List zE}
theorem zv_lale (ok : zTb M tb) (hlook : zlook tb pc = some (.laload, nxt, a, b, c0)) {k n : Nat} {f : Nat → Int64} {i : Int32} {v : Int64} (hw : w[k]? = some (zJ n f)) (hi : vp_in i n) (hv : f i.toNatClampNeg = v) (kk : zV M al n0 kc ks nxt l (.long v :: st) w Q) : zV M al n0 kc ks pc l (.int i :: .ref k :: st) w Q := by
  subst hv
  exact zv_lald ok hlook hw hi kk
end ZLA
theorem cap_e : Int64.ofInt 1000000000000000 = lN cap := by decide +kernel
theorem l_0 : Int64.ofNat ((0 : Fin 2) : Nat) = lN 0 := rfl
theorem tm_0 {a b : Nat} (h : a = 0) : some (Value.long (lN a * lN b)) = some (.long (lN (tmW a b))) := by
  subst h
  unfold tmW
  rw [if_pos (by rw [Nat.zero_mul]; exact Nat.zero_le _), lN_mul]
theorem tm_1 {a b : Nat} (h : a ≠ 0) (hb : b ≤ cap / a) : some (Value.long (lN a * lN b)) = some (.long (lN (tmW a b))) := by
  have q : a * b ≤ cap := by
    rw [Nat.mul_comm]
    exact (Nat.le_div_iff_mul_le (by omega)).mp hb
  unfold tmW
  rw [if_pos q, lN_mul]
theorem tm_2 {a b : Nat} (h : a ≠ 0) (hb : ¬ b ≤ cap / a) : some (Value.long (Int64.ofInt 1000000000000000)) = some (.long (lN (tmW a b))) := by
  have q : ¬ a * b ≤ cap := fun e => hb ((Nat.le_div_iff_mul_le (by omega)).mpr (by rw [Nat.mul_comm]; exact e))
  unfold tmW
  rw [if_neg q, cap_e]
set_option maxHeartbeats 1000000 in
set_option maxRecDepth 20000 in
theorem mMul (w : zW) {a b : Nat} (ha : a ≤ cap) (hb : b ≤ cap) : zK 0 zX7_times_ [.long (lN a), .long (lN b)] w (fun r w' => w' = w ∧ r = some (.long (lN (tmW a b)))) := by
  refine zK_of qX7_times_ (by decide +kernel) rfl ?_
  iterate 4 (refine zv_step (bX7_times_ 0) rfl rfl trivial ?_)
  refine zv_ifb (fun h3 => ?_) (fun h3 => ?_)
  · have q3 : a = 0 := by
      rw [lg_cmp_eq] at h3
      exact (lN_eqJ (by unfold cap at *; omega) (by decide)).mp h3
    iterate 3 (refine zv_step (bX7_times_ 0) rfl rfl trivial ?_)
    exact zv_lret (bX7_times_ 0) rfl rfl (Nat.zero_le _) (Nat.zero_le _) ⟨rfl, tm_0 q3⟩
  · have q3 : a ≠ 0 := fun e => h3 (by rw [lg_cmp_eq, e]; rfl)
    iterate 3 (refine zv_step (bX7_times_ 0) rfl rfl trivial ?_)
    refine zv_step (bX7_times_ 0) rfl rfl (fun e => q3 ((lN_eqJ (by unfold cap at *; omega) (by decide)).mp e)) ?_
    iterate 2 (refine zv_step (bX7_times_ 0) rfl rfl trivial ?_)
    refine zv_ifb (fun h13 => ?_) (fun h13 => ?_)
    · have q13 : b ≤ cap / a := by
        have hd : cap / a ≤ cap := Nat.div_le_self _ _
        rw [lg_cmp_le] at h13
        have h9 : lN b ≤ Int64.ofInt 1000000000000000 / lN a := h13
        rw [cap_e, lN_divJ (by unfold cap; omega) (by unfold cap at *; omega), lN_leJ (by unfold cap at *; omega) (by unfold cap at *; omega)] at h9
        exact h9
      iterate 3 (refine zv_step (bX7_times_ 0) rfl rfl trivial ?_)
      exact zv_lret (bX7_times_ 0) rfl rfl (Nat.zero_le _) (Nat.zero_le _) ⟨rfl, tm_1 q3 q13⟩
    · have q13 : ¬ b ≤ cap / a := fun e => h13 (by
        have hd : cap / a ≤ cap := Nat.div_le_self _ _
        rw [lg_cmp_le]
        show lN b ≤ Int64.ofInt 1000000000000000 / lN a
        rw [cap_e, lN_divJ (by unfold cap; omega) (by unfold cap at *; omega), lN_leJ (by unfold cap at *; omega) (by unfold cap at *; omega)]
        exact e)
      iterate 2 (refine zv_step (bX7_times_ 0) rfl rfl trivial ?_)
      exact zv_lret (bX7_times_ 0) rfl rfl (Nat.zero_le _) (Nat.zero_le _) ⟨rfl, tm_2 q3 q13⟩
theorem pl_1 {a b : Nat} (h : a + b ≤ cap) : some (Value.long (lN a + lN b)) = some (.long (lN (plW a b))) := by
  unfold plW
  rw [if_pos h, lN_add]
theorem pl_2 {a b : Nat} (h : ¬ a + b ≤ cap) : some (Value.long (Int64.ofInt 1000000000000000)) = some (.long (lN (plW a b))) := by
  unfold plW
  rw [if_neg h, cap_e]
set_option maxHeartbeats 1000000 in
set_option maxRecDepth 20000 in
theorem mPlus (w : zW) {a b : Nat} (ha : a ≤ cap) (hb : b ≤ cap) : zK 0 zX7_plus [.long (lN a), .long (lN b)] w (fun r w' => w' = w ∧ r = some (.long (lN (plW a b)))) := by
  refine zK_of qX7_plus (by decide +kernel) rfl ?_
  iterate 6 (refine zv_step (bX7_plus 0) rfl rfl trivial ?_)
  refine zv_ifb (fun h7 => ?_) (fun h7 => ?_)
  · have q7 : a + b ≤ cap := by
      rw [lg_cmp_le] at h7
      have h9 : lN a + lN b ≤ Int64.ofInt 1000000000000000 := h7
      rwa [cap_e, lN_add, lN_leJ (by unfold cap at *; omega) (by unfold cap at *; omega)] at h9
    iterate 3 (refine zv_step (bX7_plus 0) rfl rfl trivial ?_)
    exact zv_lret (bX7_plus 0) rfl rfl (Nat.zero_le _) (Nat.zero_le _) ⟨rfl, pl_1 q7⟩
  · have q7 : ¬ a + b ≤ cap := fun e => h7 (by
      rw [lg_cmp_le]
      show lN a + lN b ≤ Int64.ofInt 1000000000000000
      rwa [cap_e, lN_add, lN_leJ (by unfold cap at *; omega) (by unfold cap at *; omega)])
    iterate 2 (refine zv_step (bX7_plus 0) rfl rfl trivial ?_)
    exact zv_lret (bX7_plus 0) rfl rfl (Nat.zero_le _) (Nat.zero_le _) ⟨rfl, pl_2 q7⟩
def mayN (k : Nat) : Bool := decide (2 ≤ k) && decide (k ≤ 9) && decide (k ≠ 8)
/-- may a KIND be said so (b = 1: between begin and end) -/
def ltW (A : Nat → Nat → Int32) (s k b : Nat) : Bool := if s = 8 then (decide (b = 0) || mayN k) else decide (A 7 (10 * s + k) = nI b)
theorem ltW_8 {A : Nat → Nat → Int32} {s k b : Nat} (h : s = 8) : ltW A s k b = (decide (b = 0) || mayN k) := if_pos h
theorem ltW_n {A : Nat → Nat → Int32} {s k b : Nat} (h : s ≠ 8) : ltW A s k b = decide (A 7 (10 * s + k) = nI b) := if_neg h
set_option maxHeartbeats 1000000 in
set_option maxRecDepth 20000 in
theorem mIsLet (f : Nat → zC) (o : Nat → Int32) (A : Nat → Nat → Int32) (J : Nat → Nat → Int64) {s k b : Nat} (hs : s ≤ 8) (ho : o 28 = nI s) (hk : k < 10) (hb : b ≤ 1) : zK 1 zX7_isLet [.ref 76, .int (nI k), .int (nI b)] (wR f o A J) (fun r w' => w' = (wR f o A J) ∧ ((ltW A s k b = true ∧ r = some (.int 1)) ∨ (ltW A s k b = false ∧ r = some (.int 0)))) := by
  refine zK_of qX7_isLet (by decide +kernel) rfl ?_
  iterate 4 (refine zv_step (bX7_isLet 1) rfl rfl trivial ?_)
  refine zv_ifb (fun h6 => ?_) (fun h6 => ?_)
  · have q6 : s ≠ 8 := fun e => h6 (by show o 28 = c8 8; rw [ho, e]; rfl)
    iterate 8 (refine zv_step (bX7_isLet 1) rfl rfl trivial ?_)
    refine zv_zale (bX7_isLet 1) rfl rfl (show vp_in (c8 10 * o 28 + nI k) 90 by rw [ho, ix10]; exact vp_in_nI (by omega) (by decide)) (show A 7 (c8 10 * o 28 + nI k).toNatClampNeg = A 7 (10 * s + k) by rw [ho, ix10, nI_clamp (by omega)]) ?_
    iterate 2 (refine zv_step (bX7_isLet 1) rfl rfl trivial ?_)
    refine zv_ifb (fun h43 => ?_) (fun h43 => ?_)
    · iterate 1 (refine zv_step (bX7_isLet 1) rfl rfl trivial ?_)
      exact zv_iret (bX7_isLet 1) rfl (Or.inr ⟨rfl, Or.inl rfl⟩) (Nat.zero_le _) (Nat.zero_le _) ⟨rfl, Or.inr ⟨by rw [ltW_n q6]; exact decide_eq_false h43, rfl⟩⟩
    · iterate 2 (refine zv_step (bX7_isLet 1) rfl rfl trivial ?_)
      exact zv_iret (bX7_isLet 1) rfl (Or.inr ⟨rfl, Or.inr rfl⟩) (Nat.zero_le _) (Nat.zero_le _) ⟨rfl, Or.inl ⟨by rw [ltW_n q6]; exact decide_eq_true (Decidable.not_not.mp h43), rfl⟩⟩
  · have q6 : s = 8 := (nI_eq (by omega) (by decide)).mp (show nI s = nI 8 from by rw [← ho]; exact Decidable.not_not.mp h6)
    iterate 2 (refine zv_step (bX7_isLet 1) rfl rfl trivial ?_)
    refine zv_ifb (fun h10 => ?_) (fun h10 => ?_)
    · have q10 : b = 0 := (nI_eq (by omega) (by decide)).mp h10
      iterate 2 (refine zv_step (bX7_isLet 1) rfl rfl trivial ?_)
      exact zv_iret (bX7_isLet 1) rfl (Or.inr ⟨rfl, Or.inr rfl⟩) (Nat.zero_le _) (Nat.zero_le _) ⟨rfl, Or.inl ⟨by rw [ltW_8 q6, q10]; rfl, rfl⟩⟩
    · have q10 : b ≠ 0 := fun e => h10 (by rw [e]; rfl)
      iterate 1 (refine zv_step (bX7_isLet 1) rfl rfl trivial ?_)
      refine zv_S1 (bX7_isLet 1) rfl rfl rfl rfl ⟨rfl, rfl, rfl⟩ ⟨by decide, by decide⟩ ⟨Nat.zero_le _, Nat.zero_le _⟩ (hX7_mayKeep _ _) ?_
      rintro _ _ ⟨rfl, ⟨g1, rfl⟩ | ⟨g1, rfl⟩⟩
      · have q14 : mayN k = true := by
          rw [nI_toInt (by omega)] at g1
          unfold mayN
          simp only [Bool.and_eq_true, decide_eq_true_eq]
          omega
        iterate 1 (refine zv_step (bX7_isLet 1) rfl rfl trivial ?_)
        refine zv_iff (by decide) ?_
        iterate 2 (refine zv_step (bX7_isLet 1) rfl rfl trivial ?_)
        exact zv_iret (bX7_isLet 1) rfl (Or.inr ⟨rfl, Or.inr rfl⟩) (Nat.zero_le _) (Nat.zero_le _) ⟨rfl, Or.inl ⟨by rw [ltW_8 q6, q14, Bool.or_true], rfl⟩⟩
      · have q14 : mayN k = false := by
          rw [nI_toInt (by omega)] at g1
          unfold mayN
          simp only [Bool.and_eq_false_iff, decide_eq_false_iff_not]
          omega
        iterate 1 (refine zv_step (bX7_isLet 1) rfl rfl trivial ?_)
        refine zv_ift (by decide) ?_
        iterate 2 (refine zv_step (bX7_isLet 1) rfl rfl trivial ?_)
        exact zv_iret (bX7_isLet 1) rfl (Or.inr ⟨rfl, Or.inl rfl⟩) (Nat.zero_le _) (Nat.zero_le _) ⟨rfl, Or.inr ⟨by rw [ltW_8 q6, q14, Bool.or_false]; exact decide_eq_false q10, rfl⟩⟩
def eW (A : Nat → Nat → Int32) (i : Nat) : Nat := (A 8 i).toNatClampNeg
theorem eW_of {A : Nat → Nat → Int32} {h i : Nat} (hw : nnW h (A 8)) (hi : i < h) : A 8 i = nI (eW A i) ∧ eW A i ≤ 31 := by
  obtain ⟨e, he, q⟩ := hw i hi
  unfold eW
  rw [q, nI_clamp (by omega)]
  exact ⟨rfl, he⟩
def numAll (E : Nat → Nat) : Nat → Nat → Bool
  | 0, _ => true
  | c + 1, k => (decide (10 ≤ E k) && decide (E k ≤ 19)) && numAll E c (k + 1)
def isNumB (E : Nat → Nat) (i j : Nat) : Bool := (decide (j - i ≤ 4) && (decide (E i ≠ 10) || decide (j - i = 1))) && numAll E (j - i) i
set_option maxHeartbeats 1000000 in
set_option maxRecDepth 20000 in
theorem numL0 (f : Nat → zC) (o : Nat → Int32) (A : Nat → Nat → Int32) (J : Nat → Nat → Int64) {i j : Nat} {x : Int32} {n0 : Nat} {Q : Option Value → zW → Prop} (hQ : Q (some (.int 0)) (wR f o A J)) : zV (zMo 1 zX7_isNumber) false n0 0 0 41 [(4, .int x), (3, .int 0), (0, .ref 76), (1, .int (nI i)), (2, .int (nI j))] [] (wR f o A J) Q := by
  iterate 3 (refine zv_step (bX7_isNumber 1) rfl rfl trivial ?_)
  refine zv_ifb (fun h44 => ?_) (fun h44 => ?_)
  · iterate 1 (refine zv_step (bX7_isNumber 1) rfl rfl trivial ?_)
    exact zv_iret (bX7_isNumber 1) rfl (Or.inr ⟨rfl, Or.inl rfl⟩) (Nat.zero_le _) (Nat.zero_le _) hQ
  · iterate 2 (refine zv_step (bX7_isNumber 1) rfl rfl trivial ?_)
    refine zv_ift (by decide) ?_
    iterate 1 (refine zv_step (bX7_isNumber 1) rfl rfl trivial ?_)
    exact zv_iret (bX7_isNumber 1) rfl (Or.inr ⟨rfl, Or.inl rfl⟩) (Nat.zero_le _) (Nat.zero_le _) hQ
set_option maxHeartbeats 1000000 in
set_option maxRecDepth 20000 in
theorem numL (f : Nat → zC) (o : Nat → Int32) (A : Nat → Nat → Int32) (J : Nat → Nat → Int64) {h : Nat} (hh : h ≤ 20) (hw : nnW h (A 8)) {i j : Nat} (hj : j ≤ h) {n0 : Nat} {Q : Option Value → zW → Prop} : ∀ (c k : Nat), k + c = j → ∀ {x4 : Int32}, x4 = nI k → (numAll (eW A) c k = true → Q (some (.int 1)) (wR f o A J)) → (numAll (eW A) c k = false → Q (some (.int 0)) (wR f o A J)) → zV (zMo 1 zX7_isNumber) false n0 0 0 41 [(4, .int x4), (3, .int 1), (0, .ref 76), (1, .int (nI i)), (2, .int (nI j))] [] (wR f o A J) Q := by
  intro c
  induction c with
  | zero =>
    intro k hk x4 e4 hQ hQ0
    subst e4
    iterate 3 (refine zv_step (bX7_isNumber 1) rfl rfl trivial ?_)
    refine zv_ift (nI_le (by omega) (by omega)) ?_
    iterate 1 (refine zv_step (bX7_isNumber 1) rfl rfl trivial ?_)
    exact zv_iret (bX7_isNumber 1) rfl (Or.inr ⟨rfl, Or.inr rfl⟩) (Nat.zero_le _) (Nat.zero_le _) (hQ rfl)
  | succ c ih =>
    intro k hk x4 e4 hQ hQ0
    subst e4
    iterate 3 (refine zv_step (bX7_isNumber 1) rfl rfl trivial ?_)
    refine zv_iff (fun h => absurd ((nI_leI (by omega) (by omega)).mp h) (by omega)) ?_
    iterate 2 (refine zv_step (bX7_isNumber 1) rfl rfl trivial ?_)
    refine zv_iff (by decide) ?_
    iterate 3 (refine zv_step (bX7_isNumber 1) rfl rfl trivial ?_)
    refine zv_iale (bX7_isNumber 1) rfl rfl (vp_in_nI (by omega) (by decide)) (show A 8 (nI k).toNatClampNeg = nI (eW A k) by rw [nI_clamp (by omega)]; exact (eW_of hw (by omega)).1) ?_
    iterate 3 (refine zv_step (bX7_isNumber 1) rfl rfl trivial ?_)
    refine zv_S3 (bX7_isNumber 1) rfl rfl rfl rfl ⟨rfl, rfl, rfl⟩ ⟨by decide, by decide⟩ ⟨Nat.zero_le _, Nat.zero_le _⟩ (mIn _ _ _ _ (a := 10) (b := 19) (by decide) (by decide)) ?_
    rintro _ _ ⟨rfl, ⟨g1, rfl⟩ | ⟨g1, rfl⟩⟩
    · have q1 : (decide (10 ≤ eW A k) && decide (eW A k ≤ 19)) = true := by
        have := (eW_of hw (show k < h by omega)).2
        rw [nI_toInt (by omega)] at g1
        simp only [Bool.and_eq_true, decide_eq_true_eq]
        omega
      iterate 3 (refine zv_step (bX7_isNumber 1) rfl rfl trivial ?_)
      have e9 : numAll (eW A) (c + 1) k = numAll (eW A) c (k + 1) := by
        show (_ && _) = _
        rw [q1, Bool.true_and]
      rw [e9] at hQ hQ0
      refine zv_locals (l := [(4, .int (nI k + Int32.ofInt 1)), (3, .int 1), (0, .ref 76), (1, .int (nI i)), (2, .int (nI j))]) (l' := [(4, .int (nI k + Int32.ofInt 1)), (3, .int 1), (0, .ref 76), (1, .int (nI i)), (2, .int (nI j))]) (fun q h => h) (ih (k + 1) (by omega) (nI_1 k) hQ hQ0)
    · have q1 : (decide (10 ≤ eW A k) && decide (eW A k ≤ 19)) = false := by
        have := (eW_of hw (show k < h by omega)).2
        rw [nI_toInt (by omega)] at g1
        simp only [Bool.and_eq_false_iff, decide_eq_false_iff_not]
        omega
      iterate 3 (refine zv_step (bX7_isNumber 1) rfl rfl trivial ?_)
      have e9 : numAll (eW A) (c + 1) k = false := by
        show (_ && _) = _
        rw [q1, Bool.false_and]
      refine zv_locals (l := [(4, .int (nI k + Int32.ofInt 1)), (3, .int 0), (0, .ref 76), (1, .int (nI i)), (2, .int (nI j))]) (l' := [(4, .int (nI k + Int32.ofInt 1)), (3, .int 0), (0, .ref 76), (1, .int (nI i)), (2, .int (nI j))]) (fun q h => h) (numL0 f o A J (hQ0 e9))
set_option maxHeartbeats 1000000 in
set_option maxRecDepth 20000 in
theorem mIsNumber (f : Nat → zC) (o : Nat → Int32) (A : Nat → Nat → Int32) (J : Nat → Nat → Int64) {h : Nat} (hh : h ≤ 20) (hw : nnW h (A 8)) {i j : Nat} (hij : i < j) (hj : j ≤ h) : zK 1 zX7_isNumber [.ref 76, .int (nI i), .int (nI j)] (wR f o A J) (fun r w' => w' = (wR f o A J) ∧ ((isNumB (eW A) i j = true ∧ r = some (.int 1)) ∨ (isNumB (eW A) i j = false ∧ r = some (.int 0)))) := by
  refine zK_of qX7_isNumber (by decide +kernel) rfl ?_
  iterate 5 (refine zv_step (bX7_isNumber 1) rfl rfl trivial ?_)
  refine zv_iff (show ¬ nI j - nI i < nI 1 by rw [nI_sub (a := j) (b := i) (by omega)]; exact nI_nlt (by omega) (by omega)) ?_
  iterate 5 (refine zv_step (bX7_isNumber 1) rfl rfl trivial ?_)
  refine zv_ifb (fun h11 => ?_) (fun h11 => ?_)
  · have q11 : 4 < j - i := by
      have h9 : nI 4 < nI j - nI i := h11
      rwa [nI_sub (a := j) (b := i) (by omega), nI_ltI (by decide) (by omega)] at h9
    iterate 4 (refine zv_step (bX7_isNumber 1) rfl rfl trivial ?_)
    refine zv_locals (l := [(4, .int (nI i)), (3, .int (Int32.ofInt 0)), (0, .ref 76), (1, .int (nI i)), (2, .int (nI j))]) (l' := [(4, .int (nI i)), (3, .int 0), (0, .ref 76), (1, .int (nI i)), (2, .int (nI j))]) (fun q h => h) (numL0 f o A J ⟨rfl, Or.inr ⟨by unfold isNumB; rw [decide_eq_false (by omega), Bool.false_and, Bool.false_and], rfl⟩⟩)
  · have q11 : ¬ 4 < j - i := fun e => h11 (by show nI 4 < nI j - nI i; rwa [nI_sub (a := j) (b := i) (by omega), nI_ltI (by decide) (by omega)])
    iterate 3 (refine zv_step (bX7_isNumber 1) rfl rfl trivial ?_)
    refine zv_iale (bX7_isNumber 1) rfl rfl (vp_in_nI (by omega) (by decide)) (show A 8 (nI i).toNatClampNeg = nI (eW A i) by rw [nI_clamp (by omega)]; exact (eW_of hw (by omega)).1) ?_
    iterate 2 (refine zv_step (bX7_isNumber 1) rfl rfl trivial ?_)
    refine zv_ifb (fun h22 => ?_) (fun h22 => ?_)
    · have q22 : eW A i ≠ 10 := fun e => h22 (by rw [e]; rfl)
      iterate 5 (refine zv_step (bX7_isNumber 1) rfl rfl trivial ?_)
      have e9 : isNumB (eW A) i j = numAll (eW A) (j - i) i := by
        unfold isNumB
        rw [show (decide (j - i ≤ 4) && (decide (eW A i ≠ 10) || decide (j - i = 1))) = true by rw [decide_eq_true (by omega), decide_eq_true q22, Bool.true_or]; rfl, Bool.true_and]
      refine zv_locals (l := [(4, .int (nI i)), (3, .int (Int32.ofInt 1)), (0, .ref 76), (1, .int (nI i)), (2, .int (nI j))]) (l' := [(4, .int (nI i)), (3, .int 1), (0, .ref 76), (1, .int (nI i)), (2, .int (nI j))]) (fun q h => h) (numL f o A J hh hw hj (j - i) i (by omega) rfl (fun q => ⟨rfl, Or.inl ⟨e9.trans q, rfl⟩⟩) (fun q => ⟨rfl, Or.inr ⟨e9.trans q, rfl⟩⟩))
    · have q22 : eW A i = 10 := (nI_eq (by have := (eW_of hw (show i < h by omega)).2; omega) (by decide)).mp (Decidable.not_not.mp h22)
      iterate 5 (refine zv_step (bX7_isNumber 1) rfl rfl trivial ?_)
      refine zv_ifb (fun h29 => ?_) (fun h29 => ?_)
      · have q29 : ¬ j - i = 1 := fun e => h29 (by show nI j - nI i = nI 1; rw [nI_sub (a := j) (b := i) (by omega), e])
        iterate 4 (refine zv_step (bX7_isNumber 1) rfl rfl trivial ?_)
        refine zv_locals (l := [(4, .int (nI i)), (3, .int (Int32.ofInt 0)), (0, .ref 76), (1, .int (nI i)), (2, .int (nI j))]) (l' := [(4, .int (nI i)), (3, .int 0), (0, .ref 76), (1, .int (nI i)), (2, .int (nI j))]) (fun q h => h) (numL0 f o A J ⟨rfl, Or.inr ⟨by unfold isNumB; rw [decide_eq_false (p := eW A i ≠ 10) (fun h => h q22), decide_eq_false q29, Bool.false_or, Bool.and_false, Bool.false_and], rfl⟩⟩)
      · have q29 : j - i = 1 := by
          have h9 : nI j - nI i = nI 1 := Decidable.not_not.mp h29
          rwa [nI_sub (a := j) (b := i) (by omega), nI_eq (by omega) (by decide)] at h9
        iterate 5 (refine zv_step (bX7_isNumber 1) rfl rfl trivial ?_)
        have e9 : isNumB (eW A) i j = numAll (eW A) (j - i) i := by
          unfold isNumB
          rw [show (decide (j - i ≤ 4) && (decide (eW A i ≠ 10) || decide (j - i = 1))) = true by rw [decide_eq_true (by omega), decide_eq_true q29, Bool.or_true]; rfl, Bool.true_and]
        refine zv_locals (l := [(4, .int (nI i)), (3, .int (Int32.ofInt 1)), (0, .ref 76), (1, .int (nI i)), (2, .int (nI j))]) (l' := [(4, .int (nI i)), (3, .int 1), (0, .ref 76), (1, .int (nI i)), (2, .int (nI j))]) (fun q h => h) (numL f o A J hh hw hj (j - i) i (by omega) rfl (fun q => ⟨rfl, Or.inl ⟨e9.trans q, rfl⟩⟩) (fun q => ⟨rfl, Or.inr ⟨e9.trans q, rfl⟩⟩))
