noncomputable def coF (A : Nat → Nat → Int32) (X Y : List Int32) (n : Nat) : List Int32 :=
  if A 0 n = nI 0 then [A 1 n] else if A 0 n = nI 1 then dgL (A 1 n) (dgN (A 1 n)) else if A 0 n = nI 7 then c8 25 :: X else if A 0 n = nI 8 then c8 26 :: (X ++ [c8 27]) else if A 0 n = nI 9 then A 1 n :: c8 28 :: X else X ++ ((c8 18 + A 0 n) :: Y)
theorem coF_0 {A : Nat → Nat → Int32} {X Y : List Int32} {n : Nat} (h0 : A 0 n = nI 0) : coF A X Y n = [A 1 n] := if_pos h0
theorem coF_1 {A : Nat → Nat → Int32} {X Y : List Int32} {n : Nat} (h0 : A 0 n = nI 1) : coF A X Y n = dgL (A 1 n) (dgN (A 1 n)) := by
  unfold coF
  rw [h0, if_neg (nIne (by decide) (by decide) (by decide)), if_pos rfl]
theorem coF_7 {A : Nat → Nat → Int32} {X Y : List Int32} {n : Nat} (h0 : A 0 n = nI 7) : coF A X Y n = c8 25 :: X := by
  unfold coF
  rw [h0, if_neg (nIne (by decide) (by decide) (by decide)), if_neg (nIne (by decide) (by decide) (by decide)), if_pos rfl]
theorem coF_8 {A : Nat → Nat → Int32} {X Y : List Int32} {n : Nat} (h0 : A 0 n = nI 8) : coF A X Y n = c8 26 :: (X ++ [c8 27]) := by
  unfold coF
  rw [h0, if_neg (nIne (by decide) (by decide) (by decide)), if_neg (nIne (by decide) (by decide) (by decide)), if_neg (nIne (by decide) (by decide) (by decide)), if_pos rfl]
theorem coF_9 {A : Nat → Nat → Int32} {X Y : List Int32} {n : Nat} (h0 : A 0 n = nI 9) : coF A X Y n = A 1 n :: c8 28 :: X := by
  unfold coF
  rw [h0, if_neg (nIne (by decide) (by decide) (by decide)), if_neg (nIne (by decide) (by decide) (by decide)), if_neg (nIne (by decide) (by decide) (by decide)), if_neg (nIne (by decide) (by decide) (by decide)), if_pos rfl]
theorem coF_2 {A : Nat → Nat → Int32} {X Y : List Int32} {n k : Nat} (h1 : 2 ≤ k) (h2 : k ≤ 6) (h0 : A 0 n = nI k) : coF A X Y n = X ++ ((c8 18 + nI k) :: Y) := by
  unfold coF
  rw [h0, if_neg (nIne (by omega) (by decide) (by omega)), if_neg (nIne (by omega) (by decide) (by omega)), if_neg (nIne (by omega) (by decide) (by omega)), if_neg (nIne (by omega) (by decide) (by omega)), if_neg (nIne (by omega) (by decide) (by omega))]
def i1W (k i : Nat) : Nat := i + if mayN k = true then 1 else 0
def kpB (b : Nat → Bool) (k i : Nat) : Int32 := if mayN k = true ∧ b i = true then 1 else 0
/-- the words of a NODE, the bits from i on tell what is KEPT -/
noncomputable def wdF (A : Nat → Nat → Int32) (b : Nat → Bool) : Nat → Int32 → Nat → List Int32
  | 0, _, _ => []
  | z + 1, x, i => if x < 0 then [] else brL (kpB b (A 0 x.toNatClampNeg).toNatClampNeg i) (coF A (wdF A b z (A 2 x.toNatClampNeg) (i1W (A 0 x.toNatClampNeg).toNatClampNeg i)) (wdF A b z (A 3 x.toNatClampNeg) (i1W (A 0 x.toNatClampNeg).toNatClampNeg i + kbW A z (A 2 x.toNatClampNeg))) x.toNatClampNeg)
theorem wdF_m2 (A : Nat → Nat → Int32) (b : Nat → Bool) (z i : Nat) : wdF A b z m2 i = [] := by
  cases z with
  | zero => rfl
  | succ z => exact if_pos (by decide)
theorem wdF_nI {A : Nat → Nat → Int32} {b : Nat → Bool} {z n k i : Nat} (hn : n < 450) (hk : k < 10) (h0 : A 0 n = nI k) : wdF A b (z + 1) (nI n) i = brL (kpB b k i) (coF A (wdF A b z (A 2 n) (i1W k i)) (wdF A b z (A 3 n) (i1W k i + kbW A z (A 2 n))) n) := by
  show (if nI n < 0 then [] else brL (kpB b (A 0 (nI n).toNatClampNeg).toNatClampNeg i) (coF A (wdF A b z (A 2 (nI n).toNatClampNeg) (i1W (A 0 (nI n).toNatClampNeg).toNatClampNeg i)) (wdF A b z (A 3 (nI n).toNatClampNeg) (i1W (A 0 (nI n).toNatClampNeg).toNatClampNeg i + kbW A z (A 2 (nI n).toNatClampNeg))) (nI n).toNatClampNeg)) = _
  rw [if_neg (nI_pos (by omega)), nI_clamp (show n < 2 ^ 31 by omega), h0, nI_clamp (show k < 2 ^ 31 by omega)]
theorem kbW_m2 (A : Nat → Nat → Int32) (z : Nat) : kbW A z m2 = 0 := by
  cases z with
  | zero => rfl
  | succ z => exact if_pos (by decide)
theorem kbW_nI {A : Nat → Nat → Int32} {z n k : Nat} (hn : n < 450) (hk : k < 10) (h0 : A 0 n = nI k) : kbW A (z + 1) (nI n) = (if mayN k = true then 1 else 0) + kbW A z (A 2 n) + kbW A z (A 3 n) := by
  show (if nI n < 0 then 0 else (if mayN (A 0 (nI n).toNatClampNeg).toNatClampNeg = true then 1 else 0) + kbW A z (A 2 (nI n).toNatClampNeg) + kbW A z (A 3 (nI n).toNatClampNeg)) = _
  rw [if_neg (nI_pos (by omega)), nI_clamp (show n < 2 ^ 31 by omega), h0, nI_clamp (show k < 2 ^ 31 by omega)]
set_option maxRecDepth 100000 in
theorem bit_w : ∀ w, w < 256 → ∀ t, t < 8 → ((nI w >>> (nI t &&& 31)) &&& Int32.ofInt 1 = Int32.ofInt 1 ↔ w.testBit t = true) := by decide +kernel
/-- no style keeps LETTERS, NUMBERS, FENCED ones -/
def kp0 (A : Nat → Nat → Int32) : Prop := ∀ s, s < 8 → A 7 (10 * s + 0) = 0 ∧ A 7 (10 * s + 1) = 0 ∧ A 7 (10 * s + 8) = 0
theorem kp0_k {A : Nat → Nat → Int32} (h : kp0 A) {k : Nat} (hk : k < 10) (hm : ¬ mayN k = true) : A 7 (10 * 0 + k) = 0 := by
  obtain ⟨a, b, c⟩ := h 0 (by decide)
  have : k = 0 ∨ k = 1 ∨ k = 8 := by
    rcases (show k = 0 ∨ k = 1 ∨ k = 2 ∨ k = 3 ∨ k = 4 ∨ k = 5 ∨ k = 6 ∨ k = 7 ∨ k = 8 ∨ k = 9 by omega) with rfl | rfl | rfl | rfl | rfl | rfl | rfl | rfl | rfl | rfl
    · exact Or.inl rfl
    · exact Or.inr (Or.inl rfl)
    · exact absurd rfl hm
    · exact absurd rfl hm
    · exact absurd rfl hm
    · exact absurd rfl hm
    · exact absurd rfl hm
    · exact absurd rfl hm
    · exact Or.inr (Or.inr rfl)
    · exact absurd rfl hm
  rcases this with rfl | rfl | rfl
  · exact a
  · exact b
  · exact c
theorem may_iff {k : Nat} : mayN k = true ↔ (2 ≤ k ∧ k ≤ 9 ∧ k ≠ 8) := by
  unfold mayN
  simp only [Bool.and_eq_true, decide_eq_true_eq]
  constructor
  · rintro ⟨⟨h1, h2⟩, h3⟩
    exact ⟨h1, h2, h3⟩
  · rintro ⟨h1, h2, h3⟩
    exact ⟨⟨h1, h2⟩, h3⟩
def btN (w N i : Nat) : Bool := w.testBit (N - (i + 1))
set_option maxHeartbeats 1000000 in
set_option maxRecDepth 20000 in
theorem mKeepsItM (f : Nat → zC) (o : Nat → Int32) (A : Nat → Nat → Int32) (J : Nat → Nat → Int64) {w N : Nat} (hw : w < 256) (hN : N ≤ 8) (hm19 : o 19 = nI w) (hm21 : o 21 = nI N) (hz0 : kp0 A) {n kd i : Nat} (hn : n < 450) (hkd : kd < 10) (h0 : A 0 n = nI kd) (hi : mayN kd = true → i < N) (q : Nat) (g : Nat → Int32) : zK 1 zX7_keepsIt [.ref 76, .int (nI 0), .int (nI n)] (wZ f o A J q (nI i) g) (fun r w' => w' = wZ f o A J q (nI (i1W kd i)) g ∧ r = some (.int (kpB (btN w N) kd i))) := by
  refine zK_of qX7_keepsIt (by decide +kernel) rfl ?_
  iterate 3 (refine zv_step (bX7_keepsIt 1) rfl rfl trivial ?_)
  refine zv_iff (show ¬ o 19 < 0 by rw [hm19]; exact nI_pos (by omega)) ?_
  iterate 3 (refine zv_step (bX7_keepsIt 1) rfl rfl trivial ?_)
  refine zv_iale (bX7_keepsIt 1) rfl rfl (vp_in_nI (by omega) (by decide)) (show A 0 (nI n).toNatClampNeg = nI kd by rw [nI_clamp (by omega)]; exact h0) ?_
  refine zv_S1 (bX7_keepsIt 1) rfl rfl rfl rfl ⟨rfl, rfl, rfl⟩ ⟨by decide, by decide⟩ ⟨Nat.zero_le _, Nat.zero_le _⟩ (hX7_mayKeep _ _) ?_
  rintro _ _ ⟨rfl, ⟨g1, rfl⟩ | ⟨g1, rfl⟩⟩
  · rw [nI_toInt (by omega)] at g1
    have hmk : mayN kd = true := may_iff.mpr ⟨by omega, by omega, by omega⟩
    iterate 1 (refine zv_step (bX7_keepsIt 1) rfl rfl trivial ?_)
    refine zv_ift (by decide) ?_
    iterate 18 (refine zv_step (bX7_keepsIt 1) rfl rfl trivial ?_)
    refine zv_ifb (fun h63 => ?_) (fun h63 => ?_)
    · have q63 : ¬ btN w N i = true := fun q => h63 (by
        show (o 19 >>> ((o 21 - (nI i + Int32.ofInt 1)) &&& 31)) &&& Int32.ofInt 1 = Int32.ofInt 1
        rw [hm19, hm21, show nI i + Int32.ofInt 1 = nI (i + 1) from nI_1 i, nI_sub (by have := hi hmk; omega)]
        exact (bit_w w hw _ (by have := hi hmk; omega)).mpr q)
      iterate 1 (refine zv_step (bX7_keepsIt 1) rfl rfl trivial ?_)
      refine zv_iret (bX7_keepsIt 1) rfl (Or.inr ⟨rfl, Or.inl rfl⟩) (Nat.zero_le _) (Nat.zero_le _) ⟨by unfold i1W; rw [if_pos hmk, ← show nI i + Int32.ofInt 1 = nI (i + 1) from nI_1 i]; rfl, by unfold kpB; rw [if_neg (fun q => q63 q.2)]; rfl⟩
    · have q63 : btN w N i = true := by
        have h9 : (o 19 >>> ((o 21 - (nI i + Int32.ofInt 1)) &&& 31)) &&& Int32.ofInt 1 = Int32.ofInt 1 := Decidable.not_not.mp h63
        rw [hm19, hm21, show nI i + Int32.ofInt 1 = nI (i + 1) from nI_1 i, nI_sub (by have := hi hmk; omega)] at h9
        exact (bit_w w hw _ (by have := hi hmk; omega)).mp h9
      iterate 2 (refine zv_step (bX7_keepsIt 1) rfl rfl trivial ?_)
      refine zv_iret (bX7_keepsIt 1) rfl (Or.inr ⟨rfl, Or.inr rfl⟩) (Nat.zero_le _) (Nat.zero_le _) ⟨by unfold i1W; rw [if_pos hmk, ← show nI i + Int32.ofInt 1 = nI (i + 1) from nI_1 i]; rfl, by unfold kpB; rw [if_pos ⟨hmk, q63⟩]; rfl⟩
  · have hmk : ¬ mayN kd = true := fun q => g1 (by have := may_iff.mp q; rw [nI_toInt (by omega)]; omega)
    iterate 1 (refine zv_step (bX7_keepsIt 1) rfl rfl trivial ?_)
    refine zv_iff (by decide) ?_
    iterate 8 (refine zv_step (bX7_keepsIt 1) rfl rfl trivial ?_)
    refine zv_iale (bX7_keepsIt 1) rfl rfl (vp_in_nI (by omega) (by decide)) (show A 0 (nI n).toNatClampNeg = nI kd by rw [nI_clamp (by omega)]; exact h0) ?_
    iterate 1 (refine zv_step (bX7_keepsIt 1) rfl rfl trivial ?_)
    refine zv_zale (bX7_keepsIt 1) rfl rfl (show vp_in (c8 10 * nI 0 + nI kd) 90 by rw [ix10]; exact vp_in_nI (by omega) (by decide)) (show A 7 (c8 10 * nI 0 + nI kd).toNatClampNeg = 0 by rw [ix10, nI_clamp (by omega)]; exact kp0_k hz0 hkd hmk) ?_
    refine zv_iret (bX7_keepsIt 1) rfl (Or.inr ⟨rfl, Or.inl rfl⟩) (Nat.zero_le _) (Nat.zero_le _) ⟨by unfold i1W; rw [if_neg hmk]; rfl, by unfold kpB; rw [if_neg (fun q => hmk q.1)]⟩
set_option maxHeartbeats 1000000 in
set_option maxRecDepth 20000 in
theorem sayF2 (f : Nat → zC) (o : Nat → Int32) (A : Nat → Nat → Int32) (J : Nat → Nat → Int64) {lo hi : Nat} (hh : hi ≤ 450) {N : Nat} {b : Nat → Bool} {n z : Nat} (hn : n < 450) {c : Int32} (ih : ∀ (x : Nat), lo ≤ x → x < hi → szN A x ≤ z → ∀ (q i : Nat) (g : Nat → Int32), i + kbW A z (nI x) ≤ N → q + (wdF A b z (nI x) i).length ≤ 256 → zK (z + 2) zX7_say [.ref 76, .int (nI 0), .int (nI x)] (wZ f o A J q (nI i) g) (fun r w' => r = none ∧ w' = wZ f o A J (q + (wdF A b z (nI x) i).length) (nI (i + kbW A z (nI x))) (appA g q (wdF A b z (nI x) i)))) {n0 : Nat} {Q : Option Value → zW → Prop} {q i : Nat} {g : Nat → Int32} (hi9 : i + kbW A z (A 2 n) + kbW A z (A 3 n) ≤ N) (hq : q + (coF A (wdF A b z (A 2 n) i) (wdF A b z (A 3 n) (i + kbW A z (A 2 n))) n).length ≤ 256) (kk : zV (zMo (z + 1 + 2) zX7_say) false n0 0 0 270 [(3, .int c), (0, .ref 76), (1, .int (nI 0)), (2, .int (nI n))] [] (wZ f o A J (q + (coF A (wdF A b z (A 2 n) i) (wdF A b z (A 3 n) (i + kbW A z (A 2 n))) n).length) (nI (i + kbW A z (A 2 n) + kbW A z (A 3 n))) (appA g q (coF A (wdF A b z (A 2 n) i) (wdF A b z (A 3 n) (i + kbW A z (A 2 n))) n))) Q) {k a b' : Nat} (hk1 : 2 ≤ k) (hk2 : k ≤ 6) (h0 : A 0 n = nI k) (h2 : A 2 n = nI a) (la : lo ≤ a) (ha : a < n) (h3 : A 3 n = nI b') (lb : lo ≤ b') (hb : b' < n) (hnh : n < hi) (hsz : szN A n ≤ z + 1) (es : szN A n = 1 + szN A a + szN A b') : zV (zMo (z + 1 + 2) zX7_say) false n0 0 0 17 [(3, .int c), (0, .ref 76), (1, .int (nI 0)), (2, .int (nI n))] [] (wZ f o A J q (nI i) g) Q := by
  have e1 : (nI n).toNatClampNeg = n := nI_clamp (by omega)
  have hv : vp_in (nI n) 450 := vp_in_nI (by omega) (by decide)
  rw [coF_2 hk1 hk2 h0, h2, h3] at kk hq
  rw [h2, h3] at hi9
  simp only [List.length_append, List.length_cons, List.length_nil] at hq
  iterate 3 (refine zv_step (bX7_say (z + 1 + 2)) rfl rfl trivial ?_)
  refine zv_iale (bX7_say (z + 1 + 2)) rfl rfl hv (show A 0 (nI n).toNatClampNeg = nI k by rw [e1]; exact h0) ?_
  refine zv_S1 (bX7_say (z + 1 + 2)) rfl rfl rfl rfl ⟨rfl, rfl, rfl⟩ ⟨by show 0 + 1 ≤ z + 1 + 2; omega, by show 8 + (1 + 11) + 64 * (0) ≤ 64 * (z + 1 + 2); omega⟩ ⟨Nat.zero_le _, Nat.zero_le _⟩ (hX7_isTwo _ _) ?_
  rintro _ _ ⟨rfl, ⟨g1, rfl⟩ | ⟨g1, rfl⟩⟩
  · skip
    iterate 1 (refine zv_step (bX7_say (z + 1 + 2)) rfl rfl trivial ?_)
    refine zv_iff (by decide) ?_
    iterate 5 (refine zv_step (bX7_say (z + 1 + 2)) rfl rfl trivial ?_)
    refine zv_iale (bX7_say (z + 1 + 2)) rfl rfl hv (show A 2 (nI n).toNatClampNeg = nI a by rw [e1]; exact h2) ?_
    refine zv_V2 (bX7_say (z + 1 + 2)) rfl rfl rfl rfl rfl rfl rfl ⟨rfl, rfl, rfl⟩ ⟨by show z + 2 + 1 ≤ z + 1 + 2; omega, by show 8 + (6 + 11) + 64 * (z + 2) ≤ 64 * (z + 1 + 2); omega⟩ ⟨Nat.zero_le _, Nat.zero_le _⟩ (ih a (by omega) (by omega) (by omega) _ (i) _ (by omega) (by omega)) ?_
    rintro _ _ ⟨rfl, rfl⟩
    iterate 5 (refine zv_step (bX7_say (z + 1 + 2)) rfl rfl trivial ?_)
    refine zv_iale (bX7_say (z + 1 + 2)) rfl rfl hv (show A 0 (nI n).toNatClampNeg = nI k by rw [e1]; exact h0) ?_
    iterate 1 (refine zv_step (bX7_say (z + 1 + 2)) rfl rfl trivial ?_)
    refine zv_V1 (bX7_say (z + 1 + 2)) rfl rfl rfl rfl rfl rfl rfl ⟨rfl, rfl, rfl⟩ ⟨by show 0 + 1 ≤ z + 1 + 2; omega, by show 8 + (2 + 11) + 64 * (0) ≤ 64 * (z + 1 + 2); omega⟩ ⟨Nat.zero_le _, Nat.zero_le _⟩ (mSays f (upd o 20 _) A J _ _ (by omega) _) ?_
    rintro _ _ ⟨rfl, rfl⟩
    iterate 5 (refine zv_step (bX7_say (z + 1 + 2)) rfl rfl trivial ?_)
    refine zv_iale (bX7_say (z + 1 + 2)) rfl rfl hv (show A 3 (nI n).toNatClampNeg = nI b' by rw [e1]; exact h3) ?_
    refine zv_V2 (bX7_say (z + 1 + 2)) rfl rfl rfl rfl rfl rfl rfl ⟨rfl, rfl, rfl⟩ ⟨by show z + 2 + 1 ≤ z + 1 + 2; omega, by show 8 + (6 + 11) + 64 * (z + 2) ≤ 64 * (z + 1 + 2); omega⟩ ⟨Nat.zero_le _, Nat.zero_le _⟩ (ih b' (by omega) (by omega) (by omega) _ (i + kbW A z (nI a)) _ (by omega) (by omega)) ?_
    rintro _ _ ⟨rfl, rfl⟩
    iterate 1 (refine zv_step (bX7_say (z + 1 + 2)) rfl rfl trivial ?_)
    rw [appA_app] at kk
    simp only [List.length_append, List.length_cons] at kk
    rw [show q + ((wdF A b z (nI a) i).length + ((wdF A b z (nI b') (i + kbW A z (nI a))).length + 1)) = q + (wdF A b z (nI a) i).length + 1 + (wdF A b z (nI b') (i + kbW A z (nI a))).length by omega] at kk
    exact kk
  · skip
    iterate 1 (refine zv_step (bX7_say (z + 1 + 2)) rfl rfl trivial ?_)
    refine zv_ift (by decide) ?_
    exact absurd ⟨by rw [nI_toInt (by omega)]; omega, by rw [nI_toInt (by omega)]; omega⟩ g1
set_option maxHeartbeats 1000000 in
set_option maxRecDepth 20000 in
theorem sayF0 (f : Nat → zC) (o : Nat → Int32) (A : Nat → Nat → Int32) (J : Nat → Nat → Int64) {lo hi : Nat} (hh : hi ≤ 450) {N : Nat} {b : Nat → Bool} {n z : Nat} (hn : n < 450) {c : Int32} (ih : ∀ (x : Nat), lo ≤ x → x < hi → szN A x ≤ z → ∀ (q i : Nat) (g : Nat → Int32), i + kbW A z (nI x) ≤ N → q + (wdF A b z (nI x) i).length ≤ 256 → zK (z + 2) zX7_say [.ref 76, .int (nI 0), .int (nI x)] (wZ f o A J q (nI i) g) (fun r w' => r = none ∧ w' = wZ f o A J (q + (wdF A b z (nI x) i).length) (nI (i + kbW A z (nI x))) (appA g q (wdF A b z (nI x) i)))) {n0 : Nat} {Q : Option Value → zW → Prop} {q i : Nat} {g : Nat → Int32} (hi9 : i + kbW A z (A 2 n) + kbW A z (A 3 n) ≤ N) (hq : q + (coF A (wdF A b z (A 2 n) i) (wdF A b z (A 3 n) (i + kbW A z (A 2 n))) n).length ≤ 256) (kk : zV (zMo (z + 1 + 2) zX7_say) false n0 0 0 270 [(3, .int c), (0, .ref 76), (1, .int (nI 0)), (2, .int (nI n))] [] (wZ f o A J (q + (coF A (wdF A b z (A 2 n) i) (wdF A b z (A 3 n) (i + kbW A z (A 2 n))) n).length) (nI (i + kbW A z (A 2 n) + kbW A z (A 3 n))) (appA g q (coF A (wdF A b z (A 2 n) i) (wdF A b z (A 3 n) (i + kbW A z (A 2 n))) n))) Q) (h0 : A 0 n = nI 0) (h2 : A 2 n = m2) (h3 : A 3 n = m2) : zV (zMo (z + 1 + 2) zX7_say) false n0 0 0 17 [(3, .int c), (0, .ref 76), (1, .int (nI 0)), (2, .int (nI n))] [] (wZ f o A J q (nI i) g) Q := by
  have e1 : (nI n).toNatClampNeg = n := nI_clamp (by omega)
  have hv : vp_in (nI n) 450 := vp_in_nI (by omega) (by decide)
  rw [coF_0 h0] at kk hq
  simp only [List.length_append, List.length_cons, List.length_nil] at hq
  rw [h2, h3, kbW_m2, Nat.add_zero, Nat.add_zero] at kk
  iterate 3 (refine zv_step (bX7_say (z + 1 + 2)) rfl rfl trivial ?_)
  refine zv_iale (bX7_say (z + 1 + 2)) rfl rfl hv (show A 0 (nI n).toNatClampNeg = nI 0 by rw [e1]; exact h0) ?_
  refine zv_S1 (bX7_say (z + 1 + 2)) rfl rfl rfl rfl ⟨rfl, rfl, rfl⟩ ⟨by show 0 + 1 ≤ z + 1 + 2; omega, by show 8 + (1 + 11) + 64 * (0) ≤ 64 * (z + 1 + 2); omega⟩ ⟨Nat.zero_le _, Nat.zero_le _⟩ (hX7_isTwo _ _) ?_
  rintro _ _ ⟨rfl, ⟨g1, rfl⟩ | ⟨g1, rfl⟩⟩
  · skip
    iterate 1 (refine zv_step (bX7_say (z + 1 + 2)) rfl rfl trivial ?_)
    refine zv_iff (by decide) ?_
    exact absurd g1 (by decide)
  · skip
    iterate 1 (refine zv_step (bX7_say (z + 1 + 2)) rfl rfl trivial ?_)
    refine zv_ift (by decide) ?_
    iterate 3 (refine zv_step (bX7_say (z + 1 + 2)) rfl rfl trivial ?_)
    refine zv_iale (bX7_say (z + 1 + 2)) rfl rfl hv (show A 0 (nI n).toNatClampNeg = nI 0 by rw [e1]; exact h0) ?_
    iterate 2 (refine zv_step (bX7_say (z + 1 + 2)) rfl rfl trivial ?_)
    refine zv_ift (by decide) ?_
    iterate 3 (refine zv_step (bX7_say (z + 1 + 2)) rfl rfl trivial ?_)
    refine zv_iale (bX7_say (z + 1 + 2)) rfl rfl hv (show A 0 (nI n).toNatClampNeg = nI 0 by rw [e1]; exact h0) ?_
    iterate 1 (refine zv_step (bX7_say (z + 1 + 2)) rfl rfl trivial ?_)
    refine zv_iff (by decide) ?_
    iterate 4 (refine zv_step (bX7_say (z + 1 + 2)) rfl rfl trivial ?_)
    refine zv_iale (bX7_say (z + 1 + 2)) rfl rfl hv (show A 1 (nI n).toNatClampNeg = A 1 n by rw [e1]) ?_
    refine zv_V1 (bX7_say (z + 1 + 2)) rfl rfl rfl rfl rfl rfl rfl ⟨rfl, rfl, rfl⟩ ⟨by show 0 + 1 ≤ z + 1 + 2; omega, by show 8 + (2 + 11) + 64 * (0) ≤ 64 * (z + 1 + 2); omega⟩ ⟨Nat.zero_le _, Nat.zero_le _⟩ (mSays f (upd o 20 _) A J _ _ (by omega) _) ?_
    rintro _ _ ⟨rfl, rfl⟩
    iterate 1 (refine zv_step (bX7_say (z + 1 + 2)) rfl rfl trivial ?_)
    exact kk
set_option maxHeartbeats 1000000 in
set_option maxRecDepth 20000 in
theorem sayF1 (f : Nat → zC) (o : Nat → Int32) (A : Nat → Nat → Int32) (J : Nat → Nat → Int64) {lo hi : Nat} (hh : hi ≤ 450) {N : Nat} {b : Nat → Bool} {n z : Nat} (hn : n < 450) {c : Int32} (ih : ∀ (x : Nat), lo ≤ x → x < hi → szN A x ≤ z → ∀ (q i : Nat) (g : Nat → Int32), i + kbW A z (nI x) ≤ N → q + (wdF A b z (nI x) i).length ≤ 256 → zK (z + 2) zX7_say [.ref 76, .int (nI 0), .int (nI x)] (wZ f o A J q (nI i) g) (fun r w' => r = none ∧ w' = wZ f o A J (q + (wdF A b z (nI x) i).length) (nI (i + kbW A z (nI x))) (appA g q (wdF A b z (nI x) i)))) {n0 : Nat} {Q : Option Value → zW → Prop} {q i : Nat} {g : Nat → Int32} (hi9 : i + kbW A z (A 2 n) + kbW A z (A 3 n) ≤ N) (hq : q + (coF A (wdF A b z (A 2 n) i) (wdF A b z (A 3 n) (i + kbW A z (A 2 n))) n).length ≤ 256) (kk : zV (zMo (z + 1 + 2) zX7_say) false n0 0 0 270 [(3, .int c), (0, .ref 76), (1, .int (nI 0)), (2, .int (nI n))] [] (wZ f o A J (q + (coF A (wdF A b z (A 2 n) i) (wdF A b z (A 3 n) (i + kbW A z (A 2 n))) n).length) (nI (i + kbW A z (A 2 n) + kbW A z (A 3 n))) (appA g q (coF A (wdF A b z (A 2 n) i) (wdF A b z (A 3 n) (i + kbW A z (A 2 n))) n))) Q) (h0 : A 0 n = nI 1) (h2 : A 2 n = m2) (h3 : A 3 n = m2) : zV (zMo (z + 1 + 2) zX7_say) false n0 0 0 17 [(3, .int c), (0, .ref 76), (1, .int (nI 0)), (2, .int (nI n))] [] (wZ f o A J q (nI i) g) Q := by
  have e1 : (nI n).toNatClampNeg = n := nI_clamp (by omega)
  have hv : vp_in (nI n) 450 := vp_in_nI (by omega) (by decide)
  rw [coF_1 h0] at kk hq
  rw [dgL_len] at kk hq
  rw [h2, h3, kbW_m2, Nat.add_zero, Nat.add_zero] at kk
  iterate 3 (refine zv_step (bX7_say (z + 1 + 2)) rfl rfl trivial ?_)
  refine zv_iale (bX7_say (z + 1 + 2)) rfl rfl hv (show A 0 (nI n).toNatClampNeg = nI 1 by rw [e1]; exact h0) ?_
  refine zv_S1 (bX7_say (z + 1 + 2)) rfl rfl rfl rfl ⟨rfl, rfl, rfl⟩ ⟨by show 0 + 1 ≤ z + 1 + 2; omega, by show 8 + (1 + 11) + 64 * (0) ≤ 64 * (z + 1 + 2); omega⟩ ⟨Nat.zero_le _, Nat.zero_le _⟩ (hX7_isTwo _ _) ?_
  rintro _ _ ⟨rfl, ⟨g1, rfl⟩ | ⟨g1, rfl⟩⟩
  · skip
    iterate 1 (refine zv_step (bX7_say (z + 1 + 2)) rfl rfl trivial ?_)
    refine zv_iff (by decide) ?_
    exact absurd g1 (by decide)
  · skip
    iterate 1 (refine zv_step (bX7_say (z + 1 + 2)) rfl rfl trivial ?_)
    refine zv_ift (by decide) ?_
    iterate 3 (refine zv_step (bX7_say (z + 1 + 2)) rfl rfl trivial ?_)
    refine zv_iale (bX7_say (z + 1 + 2)) rfl rfl hv (show A 0 (nI n).toNatClampNeg = nI 1 by rw [e1]; exact h0) ?_
    iterate 2 (refine zv_step (bX7_say (z + 1 + 2)) rfl rfl trivial ?_)
    refine zv_iff (by decide) ?_
    iterate 4 (refine zv_step (bX7_say (z + 1 + 2)) rfl rfl trivial ?_)
    refine zv_locals (l := [(5, .int (Int32.ofInt 1)), (4, .int (Int32.ofInt 1)), (3, .int c), (0, .ref 76), (1, .int (nI 0)), (2, .int (nI n))]) (l' := [(5, .int (Int32.ofInt 1)), (4, .int (Int32.ofInt 1)), (3, .int c), (0, .ref 76), (1, .int (nI 0)), (2, .int (nI n))]) ?_ (sayXN1 f o A J hn rfl (dgN_le _).2 hq kk (dgN (A 1 n) - 1) 1 (by have := (dgN_le (A 1 n)).1; omega) (Nat.le_refl _) rfl rfl)
    simp
set_option maxHeartbeats 1000000 in
set_option maxRecDepth 20000 in
theorem sayF7 (f : Nat → zC) (o : Nat → Int32) (A : Nat → Nat → Int32) (J : Nat → Nat → Int64) {lo hi : Nat} (hh : hi ≤ 450) {N : Nat} {b : Nat → Bool} {n z : Nat} (hn : n < 450) {c : Int32} (ih : ∀ (x : Nat), lo ≤ x → x < hi → szN A x ≤ z → ∀ (q i : Nat) (g : Nat → Int32), i + kbW A z (nI x) ≤ N → q + (wdF A b z (nI x) i).length ≤ 256 → zK (z + 2) zX7_say [.ref 76, .int (nI 0), .int (nI x)] (wZ f o A J q (nI i) g) (fun r w' => r = none ∧ w' = wZ f o A J (q + (wdF A b z (nI x) i).length) (nI (i + kbW A z (nI x))) (appA g q (wdF A b z (nI x) i)))) {n0 : Nat} {Q : Option Value → zW → Prop} {q i : Nat} {g : Nat → Int32} (hi9 : i + kbW A z (A 2 n) + kbW A z (A 3 n) ≤ N) (hq : q + (coF A (wdF A b z (A 2 n) i) (wdF A b z (A 3 n) (i + kbW A z (A 2 n))) n).length ≤ 256) (kk : zV (zMo (z + 1 + 2) zX7_say) false n0 0 0 270 [(3, .int c), (0, .ref 76), (1, .int (nI 0)), (2, .int (nI n))] [] (wZ f o A J (q + (coF A (wdF A b z (A 2 n) i) (wdF A b z (A 3 n) (i + kbW A z (A 2 n))) n).length) (nI (i + kbW A z (A 2 n) + kbW A z (A 3 n))) (appA g q (coF A (wdF A b z (A 2 n) i) (wdF A b z (A 3 n) (i + kbW A z (A 2 n))) n))) Q) {a : Nat} (h0 : A 0 n = nI 7) (h2 : A 2 n = nI a) (h3 : A 3 n = m2) (la : lo ≤ a) (ha : a < n) (hnh : n < hi) (hsz : szN A n ≤ z + 1) (es : szN A n = 1 + szN A a) : zV (zMo (z + 1 + 2) zX7_say) false n0 0 0 17 [(3, .int c), (0, .ref 76), (1, .int (nI 0)), (2, .int (nI n))] [] (wZ f o A J q (nI i) g) Q := by
  have e1 : (nI n).toNatClampNeg = n := nI_clamp (by omega)
  have hv : vp_in (nI n) 450 := vp_in_nI (by omega) (by decide)
  rw [coF_7 h0, h2, h3, kbW_m2, Nat.add_zero] at kk
  rw [coF_7 h0, h2] at hq
  rw [h2, h3, kbW_m2, Nat.add_zero] at hi9
  simp only [List.length_append, List.length_cons, List.length_nil] at hq
  iterate 3 (refine zv_step (bX7_say (z + 1 + 2)) rfl rfl trivial ?_)
  refine zv_iale (bX7_say (z + 1 + 2)) rfl rfl hv (show A 0 (nI n).toNatClampNeg = nI 7 by rw [e1]; exact h0) ?_
  refine zv_S1 (bX7_say (z + 1 + 2)) rfl rfl rfl rfl ⟨rfl, rfl, rfl⟩ ⟨by show 0 + 1 ≤ z + 1 + 2; omega, by show 8 + (1 + 11) + 64 * (0) ≤ 64 * (z + 1 + 2); omega⟩ ⟨Nat.zero_le _, Nat.zero_le _⟩ (hX7_isTwo _ _) ?_
  rintro _ _ ⟨rfl, ⟨g1, rfl⟩ | ⟨g1, rfl⟩⟩
  · skip
    iterate 1 (refine zv_step (bX7_say (z + 1 + 2)) rfl rfl trivial ?_)
    refine zv_iff (by decide) ?_
    exact absurd g1 (by decide)
  · skip
    iterate 1 (refine zv_step (bX7_say (z + 1 + 2)) rfl rfl trivial ?_)
    refine zv_ift (by decide) ?_
    iterate 3 (refine zv_step (bX7_say (z + 1 + 2)) rfl rfl trivial ?_)
    refine zv_iale (bX7_say (z + 1 + 2)) rfl rfl hv (show A 0 (nI n).toNatClampNeg = nI 7 by rw [e1]; exact h0) ?_
    iterate 2 (refine zv_step (bX7_say (z + 1 + 2)) rfl rfl trivial ?_)
    refine zv_ift (by decide) ?_
    iterate 3 (refine zv_step (bX7_say (z + 1 + 2)) rfl rfl trivial ?_)
    refine zv_iale (bX7_say (z + 1 + 2)) rfl rfl hv (show A 0 (nI n).toNatClampNeg = nI 7 by rw [e1]; exact h0) ?_
    iterate 1 (refine zv_step (bX7_say (z + 1 + 2)) rfl rfl trivial ?_)
    refine zv_ift (by decide) ?_
    iterate 4 (refine zv_step (bX7_say (z + 1 + 2)) rfl rfl trivial ?_)
    refine zv_iale (bX7_say (z + 1 + 2)) rfl rfl hv (show A 0 (nI n).toNatClampNeg = nI 7 by rw [e1]; exact h0) ?_
    iterate 2 (refine zv_step (bX7_say (z + 1 + 2)) rfl rfl trivial ?_)
    refine zv_iff (by decide) ?_
    iterate 2 (refine zv_step (bX7_say (z + 1 + 2)) rfl rfl trivial ?_)
    refine zv_V1 (bX7_say (z + 1 + 2)) rfl rfl rfl rfl rfl rfl rfl ⟨rfl, rfl, rfl⟩ ⟨by show 0 + 1 ≤ z + 1 + 2; omega, by show 8 + (2 + 11) + 64 * (0) ≤ 64 * (z + 1 + 2); omega⟩ ⟨Nat.zero_le _, Nat.zero_le _⟩ (mSays f (upd o 20 _) A J _ _ (by omega) _) ?_
    rintro _ _ ⟨rfl, rfl⟩
    iterate 3 (refine zv_step (bX7_say (z + 1 + 2)) rfl rfl trivial ?_)
    refine zv_iale (bX7_say (z + 1 + 2)) rfl rfl hv (show A 0 (nI n).toNatClampNeg = nI 7 by rw [e1]; exact h0) ?_
    iterate 2 (refine zv_step (bX7_say (z + 1 + 2)) rfl rfl trivial ?_)
    refine zv_ift (by decide) ?_
    iterate 5 (refine zv_step (bX7_say (z + 1 + 2)) rfl rfl trivial ?_)
    refine zv_iale (bX7_say (z + 1 + 2)) rfl rfl hv (show A 2 (nI n).toNatClampNeg = nI a by rw [e1]; exact h2) ?_
    refine zv_V2 (bX7_say (z + 1 + 2)) rfl rfl rfl rfl rfl rfl rfl ⟨rfl, rfl, rfl⟩ ⟨by show z + 2 + 1 ≤ z + 1 + 2; omega, by show 8 + (6 + 11) + 64 * (z + 2) ≤ 64 * (z + 1 + 2); omega⟩ ⟨Nat.zero_le _, Nat.zero_le _⟩ (ih a (by omega) (by omega) (by omega) _ (i) _ (by omega) (by omega)) ?_
    rintro _ _ ⟨rfl, rfl⟩
    iterate 3 (refine zv_step (bX7_say (z + 1 + 2)) rfl rfl trivial ?_)
    refine zv_iale (bX7_say (z + 1 + 2)) rfl rfl hv (show A 0 (nI n).toNatClampNeg = nI 7 by rw [e1]; exact h0) ?_
    iterate 2 (refine zv_step (bX7_say (z + 1 + 2)) rfl rfl trivial ?_)
    refine zv_ift (by decide) ?_
    simp only [List.length_cons] at kk
    rw [show q + ((wdF A b z (nI a) i).length + 1) = q + 1 + (wdF A b z (nI a) i).length by omega] at kk
    exact kk
set_option maxHeartbeats 1000000 in
set_option maxRecDepth 20000 in
theorem sayF8 (f : Nat → zC) (o : Nat → Int32) (A : Nat → Nat → Int32) (J : Nat → Nat → Int64) {lo hi : Nat} (hh : hi ≤ 450) {N : Nat} {b : Nat → Bool} {n z : Nat} (hn : n < 450) {c : Int32} (ih : ∀ (x : Nat), lo ≤ x → x < hi → szN A x ≤ z → ∀ (q i : Nat) (g : Nat → Int32), i + kbW A z (nI x) ≤ N → q + (wdF A b z (nI x) i).length ≤ 256 → zK (z + 2) zX7_say [.ref 76, .int (nI 0), .int (nI x)] (wZ f o A J q (nI i) g) (fun r w' => r = none ∧ w' = wZ f o A J (q + (wdF A b z (nI x) i).length) (nI (i + kbW A z (nI x))) (appA g q (wdF A b z (nI x) i)))) {n0 : Nat} {Q : Option Value → zW → Prop} {q i : Nat} {g : Nat → Int32} (hi9 : i + kbW A z (A 2 n) + kbW A z (A 3 n) ≤ N) (hq : q + (coF A (wdF A b z (A 2 n) i) (wdF A b z (A 3 n) (i + kbW A z (A 2 n))) n).length ≤ 256) (kk : zV (zMo (z + 1 + 2) zX7_say) false n0 0 0 270 [(3, .int c), (0, .ref 76), (1, .int (nI 0)), (2, .int (nI n))] [] (wZ f o A J (q + (coF A (wdF A b z (A 2 n) i) (wdF A b z (A 3 n) (i + kbW A z (A 2 n))) n).length) (nI (i + kbW A z (A 2 n) + kbW A z (A 3 n))) (appA g q (coF A (wdF A b z (A 2 n) i) (wdF A b z (A 3 n) (i + kbW A z (A 2 n))) n))) Q) {a : Nat} (h0 : A 0 n = nI 8) (h2 : A 2 n = nI a) (h3 : A 3 n = m2) (la : lo ≤ a) (ha : a < n) (hnh : n < hi) (hsz : szN A n ≤ z + 1) (es : szN A n = 1 + szN A a) : zV (zMo (z + 1 + 2) zX7_say) false n0 0 0 17 [(3, .int c), (0, .ref 76), (1, .int (nI 0)), (2, .int (nI n))] [] (wZ f o A J q (nI i) g) Q := by
  have e1 : (nI n).toNatClampNeg = n := nI_clamp (by omega)
  have hv : vp_in (nI n) 450 := vp_in_nI (by omega) (by decide)
  rw [coF_8 h0, h2, h3, kbW_m2, Nat.add_zero] at kk
  rw [coF_8 h0, h2] at hq
  rw [h2, h3, kbW_m2, Nat.add_zero] at hi9
  simp only [List.length_append, List.length_cons, List.length_nil] at hq
  iterate 3 (refine zv_step (bX7_say (z + 1 + 2)) rfl rfl trivial ?_)
  refine zv_iale (bX7_say (z + 1 + 2)) rfl rfl hv (show A 0 (nI n).toNatClampNeg = nI 8 by rw [e1]; exact h0) ?_
  refine zv_S1 (bX7_say (z + 1 + 2)) rfl rfl rfl rfl ⟨rfl, rfl, rfl⟩ ⟨by show 0 + 1 ≤ z + 1 + 2; omega, by show 8 + (1 + 11) + 64 * (0) ≤ 64 * (z + 1 + 2); omega⟩ ⟨Nat.zero_le _, Nat.zero_le _⟩ (hX7_isTwo _ _) ?_
  rintro _ _ ⟨rfl, ⟨g1, rfl⟩ | ⟨g1, rfl⟩⟩
  · skip
    iterate 1 (refine zv_step (bX7_say (z + 1 + 2)) rfl rfl trivial ?_)
    refine zv_iff (by decide) ?_
    exact absurd g1 (by decide)
  · skip
    iterate 1 (refine zv_step (bX7_say (z + 1 + 2)) rfl rfl trivial ?_)
    refine zv_ift (by decide) ?_
    iterate 3 (refine zv_step (bX7_say (z + 1 + 2)) rfl rfl trivial ?_)
    refine zv_iale (bX7_say (z + 1 + 2)) rfl rfl hv (show A 0 (nI n).toNatClampNeg = nI 8 by rw [e1]; exact h0) ?_
    iterate 2 (refine zv_step (bX7_say (z + 1 + 2)) rfl rfl trivial ?_)
    refine zv_ift (by decide) ?_
    iterate 3 (refine zv_step (bX7_say (z + 1 + 2)) rfl rfl trivial ?_)
    refine zv_iale (bX7_say (z + 1 + 2)) rfl rfl hv (show A 0 (nI n).toNatClampNeg = nI 8 by rw [e1]; exact h0) ?_
    iterate 1 (refine zv_step (bX7_say (z + 1 + 2)) rfl rfl trivial ?_)
    refine zv_ift (by decide) ?_
    iterate 4 (refine zv_step (bX7_say (z + 1 + 2)) rfl rfl trivial ?_)
    refine zv_iale (bX7_say (z + 1 + 2)) rfl rfl hv (show A 0 (nI n).toNatClampNeg = nI 8 by rw [e1]; exact h0) ?_
    iterate 2 (refine zv_step (bX7_say (z + 1 + 2)) rfl rfl trivial ?_)
    refine zv_ift (by decide) ?_
    iterate 3 (refine zv_step (bX7_say (z + 1 + 2)) rfl rfl trivial ?_)
    refine zv_iale (bX7_say (z + 1 + 2)) rfl rfl hv (show A 0 (nI n).toNatClampNeg = nI 8 by rw [e1]; exact h0) ?_
    iterate 2 (refine zv_step (bX7_say (z + 1 + 2)) rfl rfl trivial ?_)
    refine zv_iff (by decide) ?_
    iterate 2 (refine zv_step (bX7_say (z + 1 + 2)) rfl rfl trivial ?_)
    refine zv_V1 (bX7_say (z + 1 + 2)) rfl rfl rfl rfl rfl rfl rfl ⟨rfl, rfl, rfl⟩ ⟨by show 0 + 1 ≤ z + 1 + 2; omega, by show 8 + (2 + 11) + 64 * (0) ≤ 64 * (z + 1 + 2); omega⟩ ⟨Nat.zero_le _, Nat.zero_le _⟩ (mSays f (upd o 20 _) A J _ _ (by omega) _) ?_
    rintro _ _ ⟨rfl, rfl⟩
    iterate 3 (refine zv_step (bX7_say (z + 1 + 2)) rfl rfl trivial ?_)
    refine zv_iale (bX7_say (z + 1 + 2)) rfl rfl hv (show A 0 (nI n).toNatClampNeg = nI 8 by rw [e1]; exact h0) ?_
    iterate 2 (refine zv_step (bX7_say (z + 1 + 2)) rfl rfl trivial ?_)
    refine zv_ift (by decide) ?_
    iterate 5 (refine zv_step (bX7_say (z + 1 + 2)) rfl rfl trivial ?_)
    refine zv_iale (bX7_say (z + 1 + 2)) rfl rfl hv (show A 2 (nI n).toNatClampNeg = nI a by rw [e1]; exact h2) ?_
    refine zv_V2 (bX7_say (z + 1 + 2)) rfl rfl rfl rfl rfl rfl rfl ⟨rfl, rfl, rfl⟩ ⟨by show z + 2 + 1 ≤ z + 1 + 2; omega, by show 8 + (6 + 11) + 64 * (z + 2) ≤ 64 * (z + 1 + 2); omega⟩ ⟨Nat.zero_le _, Nat.zero_le _⟩ (ih a (by omega) (by omega) (by omega) _ (i) _ (by omega) (by omega)) ?_
    rintro _ _ ⟨rfl, rfl⟩
    iterate 3 (refine zv_step (bX7_say (z + 1 + 2)) rfl rfl trivial ?_)
    refine zv_iale (bX7_say (z + 1 + 2)) rfl rfl hv (show A 0 (nI n).toNatClampNeg = nI 8 by rw [e1]; exact h0) ?_
    iterate 2 (refine zv_step (bX7_say (z + 1 + 2)) rfl rfl trivial ?_)
    refine zv_iff (by decide) ?_
    iterate 2 (refine zv_step (bX7_say (z + 1 + 2)) rfl rfl trivial ?_)
    refine zv_V1 (bX7_say (z + 1 + 2)) rfl rfl rfl rfl rfl rfl rfl ⟨rfl, rfl, rfl⟩ ⟨by show 0 + 1 ≤ z + 1 + 2; omega, by show 8 + (2 + 11) + 64 * (0) ≤ 64 * (z + 1 + 2); omega⟩ ⟨Nat.zero_le _, Nat.zero_le _⟩ (mSays f (upd o 20 _) A J _ _ (by omega) _) ?_
    rintro _ _ ⟨rfl, rfl⟩
    rw [show c8 26 :: (wdF A b z (nI a) i ++ [c8 27]) = (c8 26 :: wdF A b z (nI a) i) ++ [c8 27] from rfl, appA_app] at kk
    simp only [List.length_cons, List.length_append, List.length_nil] at kk
    rw [show q + ((wdF A b z (nI a) i).length + 1 + (0 + 1)) = q + 1 + (wdF A b z (nI a) i).length + 1 by omega, show q + ((wdF A b z (nI a) i).length + 1) = q + 1 + (wdF A b z (nI a) i).length by omega] at kk
    exact kk
set_option maxHeartbeats 1000000 in
set_option maxRecDepth 20000 in
theorem sayF9 (f : Nat → zC) (o : Nat → Int32) (A : Nat → Nat → Int32) (J : Nat → Nat → Int64) {lo hi : Nat} (hh : hi ≤ 450) {N : Nat} {b : Nat → Bool} {n z : Nat} (hn : n < 450) {c : Int32} (ih : ∀ (x : Nat), lo ≤ x → x < hi → szN A x ≤ z → ∀ (q i : Nat) (g : Nat → Int32), i + kbW A z (nI x) ≤ N → q + (wdF A b z (nI x) i).length ≤ 256 → zK (z + 2) zX7_say [.ref 76, .int (nI 0), .int (nI x)] (wZ f o A J q (nI i) g) (fun r w' => r = none ∧ w' = wZ f o A J (q + (wdF A b z (nI x) i).length) (nI (i + kbW A z (nI x))) (appA g q (wdF A b z (nI x) i)))) {n0 : Nat} {Q : Option Value → zW → Prop} {q i : Nat} {g : Nat → Int32} (hi9 : i + kbW A z (A 2 n) + kbW A z (A 3 n) ≤ N) (hq : q + (coF A (wdF A b z (A 2 n) i) (wdF A b z (A 3 n) (i + kbW A z (A 2 n))) n).length ≤ 256) (kk : zV (zMo (z + 1 + 2) zX7_say) false n0 0 0 270 [(3, .int c), (0, .ref 76), (1, .int (nI 0)), (2, .int (nI n))] [] (wZ f o A J (q + (coF A (wdF A b z (A 2 n) i) (wdF A b z (A 3 n) (i + kbW A z (A 2 n))) n).length) (nI (i + kbW A z (A 2 n) + kbW A z (A 3 n))) (appA g q (coF A (wdF A b z (A 2 n) i) (wdF A b z (A 3 n) (i + kbW A z (A 2 n))) n))) Q) {a : Nat} (h0 : A 0 n = nI 9) (h2 : A 2 n = nI a) (h3 : A 3 n = m2) (la : lo ≤ a) (ha : a < n) (hnh : n < hi) (hsz : szN A n ≤ z + 1) (es : szN A n = 1 + szN A a) : zV (zMo (z + 1 + 2) zX7_say) false n0 0 0 17 [(3, .int c), (0, .ref 76), (1, .int (nI 0)), (2, .int (nI n))] [] (wZ f o A J q (nI i) g) Q := by
  have e1 : (nI n).toNatClampNeg = n := nI_clamp (by omega)
  have hv : vp_in (nI n) 450 := vp_in_nI (by omega) (by decide)
  rw [coF_9 h0, h2, h3, kbW_m2, Nat.add_zero] at kk
  rw [coF_9 h0, h2] at hq
  rw [h2, h3, kbW_m2, Nat.add_zero] at hi9
  simp only [List.length_append, List.length_cons, List.length_nil] at hq
  iterate 3 (refine zv_step (bX7_say (z + 1 + 2)) rfl rfl trivial ?_)
  refine zv_iale (bX7_say (z + 1 + 2)) rfl rfl hv (show A 0 (nI n).toNatClampNeg = nI 9 by rw [e1]; exact h0) ?_
  refine zv_S1 (bX7_say (z + 1 + 2)) rfl rfl rfl rfl ⟨rfl, rfl, rfl⟩ ⟨by show 0 + 1 ≤ z + 1 + 2; omega, by show 8 + (1 + 11) + 64 * (0) ≤ 64 * (z + 1 + 2); omega⟩ ⟨Nat.zero_le _, Nat.zero_le _⟩ (hX7_isTwo _ _) ?_
  rintro _ _ ⟨rfl, ⟨g1, rfl⟩ | ⟨g1, rfl⟩⟩
  · skip
    iterate 1 (refine zv_step (bX7_say (z + 1 + 2)) rfl rfl trivial ?_)
    refine zv_iff (by decide) ?_
    exact absurd g1 (by decide)
  · skip
    iterate 1 (refine zv_step (bX7_say (z + 1 + 2)) rfl rfl trivial ?_)
    refine zv_ift (by decide) ?_
    iterate 3 (refine zv_step (bX7_say (z + 1 + 2)) rfl rfl trivial ?_)
    refine zv_iale (bX7_say (z + 1 + 2)) rfl rfl hv (show A 0 (nI n).toNatClampNeg = nI 9 by rw [e1]; exact h0) ?_
    iterate 2 (refine zv_step (bX7_say (z + 1 + 2)) rfl rfl trivial ?_)
    refine zv_ift (by decide) ?_
    iterate 3 (refine zv_step (bX7_say (z + 1 + 2)) rfl rfl trivial ?_)
    refine zv_iale (bX7_say (z + 1 + 2)) rfl rfl hv (show A 0 (nI n).toNatClampNeg = nI 9 by rw [e1]; exact h0) ?_
    iterate 1 (refine zv_step (bX7_say (z + 1 + 2)) rfl rfl trivial ?_)
    refine zv_ift (by decide) ?_
    iterate 4 (refine zv_step (bX7_say (z + 1 + 2)) rfl rfl trivial ?_)
    refine zv_iale (bX7_say (z + 1 + 2)) rfl rfl hv (show A 0 (nI n).toNatClampNeg = nI 9 by rw [e1]; exact h0) ?_
    iterate 2 (refine zv_step (bX7_say (z + 1 + 2)) rfl rfl trivial ?_)
    refine zv_ift (by decide) ?_
    iterate 3 (refine zv_step (bX7_say (z + 1 + 2)) rfl rfl trivial ?_)
    refine zv_iale (bX7_say (z + 1 + 2)) rfl rfl hv (show A 0 (nI n).toNatClampNeg = nI 9 by rw [e1]; exact h0) ?_
    iterate 2 (refine zv_step (bX7_say (z + 1 + 2)) rfl rfl trivial ?_)
    refine zv_ift (by decide) ?_
    iterate 3 (refine zv_step (bX7_say (z + 1 + 2)) rfl rfl trivial ?_)
    refine zv_iale (bX7_say (z + 1 + 2)) rfl rfl hv (show A 1 (nI n).toNatClampNeg = A 1 n by rw [e1]) ?_
    refine zv_V1 (bX7_say (z + 1 + 2)) rfl rfl rfl rfl rfl rfl rfl ⟨rfl, rfl, rfl⟩ ⟨by show 0 + 1 ≤ z + 1 + 2; omega, by show 8 + (2 + 11) + 64 * (0) ≤ 64 * (z + 1 + 2); omega⟩ ⟨Nat.zero_le _, Nat.zero_le _⟩ (mSays f (upd o 20 _) A J _ _ (by omega) _) ?_
    rintro _ _ ⟨rfl, rfl⟩
    iterate 3 (refine zv_step (bX7_say (z + 1 + 2)) rfl rfl trivial ?_)
    refine zv_iale (bX7_say (z + 1 + 2)) rfl rfl hv (show A 0 (nI n).toNatClampNeg = nI 9 by rw [e1]; exact h0) ?_
    iterate 2 (refine zv_step (bX7_say (z + 1 + 2)) rfl rfl trivial ?_)
    refine zv_iff (by decide) ?_
    iterate 2 (refine zv_step (bX7_say (z + 1 + 2)) rfl rfl trivial ?_)
    refine zv_V1 (bX7_say (z + 1 + 2)) rfl rfl rfl rfl rfl rfl rfl ⟨rfl, rfl, rfl⟩ ⟨by show 0 + 1 ≤ z + 1 + 2; omega, by show 8 + (2 + 11) + 64 * (0) ≤ 64 * (z + 1 + 2); omega⟩ ⟨Nat.zero_le _, Nat.zero_le _⟩ (mSays f (upd o 20 _) A J _ _ (by omega) _) ?_
    rintro _ _ ⟨rfl, rfl⟩
    iterate 5 (refine zv_step (bX7_say (z + 1 + 2)) rfl rfl trivial ?_)
    refine zv_iale (bX7_say (z + 1 + 2)) rfl rfl hv (show A 2 (nI n).toNatClampNeg = nI a by rw [e1]; exact h2) ?_
    refine zv_V2 (bX7_say (z + 1 + 2)) rfl rfl rfl rfl rfl rfl rfl ⟨rfl, rfl, rfl⟩ ⟨by show z + 2 + 1 ≤ z + 1 + 2; omega, by show 8 + (6 + 11) + 64 * (z + 2) ≤ 64 * (z + 1 + 2); omega⟩ ⟨Nat.zero_le _, Nat.zero_le _⟩ (ih a (by omega) (by omega) (by omega) _ (i) _ (by omega) (by omega)) ?_
    rintro _ _ ⟨rfl, rfl⟩
    iterate 3 (refine zv_step (bX7_say (z + 1 + 2)) rfl rfl trivial ?_)
    refine zv_iale (bX7_say (z + 1 + 2)) rfl rfl hv (show A 0 (nI n).toNatClampNeg = nI 9 by rw [e1]; exact h0) ?_
    iterate 2 (refine zv_step (bX7_say (z + 1 + 2)) rfl rfl trivial ?_)
    refine zv_ift (by decide) ?_
    simp only [List.length_cons] at kk
    rw [show q + ((wdF A b z (nI a) i).length + 1 + 1) = q + 1 + 1 + (wdF A b z (nI a) i).length by omega] at kk
    exact kk
set_option maxHeartbeats 1000000 in
set_option maxRecDepth 20000 in
theorem mSayF (f : Nat → zC) (o : Nat → Int32) (A : Nat → Nat → Int32) (J : Nat → Nat → Int64) {lo hi : Nat} (hh : hi ≤ 450) (hT : tbI lo hi A) {w N : Nat} (hw : w < 256) (hN : N ≤ 8) (hm19 : o 19 = nI w) (hm21 : o 21 = nI N) (hz0 : kp0 A) : ∀ (z n : Nat), lo ≤ n → n < hi → szN A n ≤ z → ∀ (q i : Nat) (g : Nat → Int32), i + kbW A z (nI n) ≤ N → q + (wdF A (btN w N) z (nI n) i).length ≤ 256 → zK (z + 2) zX7_say [.ref 76, .int (nI 0), .int (nI n)] (wZ f o A J q (nI i) g) (fun r w' => r = none ∧ w' = wZ f o A J (q + (wdF A (btN w N) z (nI n) i).length) (nI (i + kbW A z (nI n))) (appA g q (wdF A (btN w N) z (nI n) i))) := by
  intro z
  induction z with
  | zero =>
    intro n hlo hn hz
    have := (rN_sz (hT n hlo hn)).1
    omega
  | succ z ih =>
    intro n hlo hn hz q i g hi hq
    obtain ⟨kd, hkd, h0⟩ := rN_kd (hT n hlo hn)
    refine zK_of qX7_say (by decide +kernel) rfl ?_
    iterate 3 (refine zv_step (bX7_say (z + 1 + 2)) rfl rfl trivial ?_)
    refine zv_V2 (bX7_say (z + 1 + 2)) rfl rfl rfl rfl rfl rfl rfl ⟨rfl, rfl, rfl⟩ ⟨by show 1 + 1 ≤ z + 1 + 2; omega, by show 8 + (3 + 11) + 64 * (1) ≤ 64 * (z + 1 + 2); omega⟩ ⟨Nat.zero_le _, Nat.zero_le _⟩ (mKeepsItM f o A J hw hN hm19 hm21 hz0 (by omega) hkd h0 (i := i) (fun q => by rw [kbW_nI (by omega) hkd h0, if_pos q] at hi; omega) q g) ?_
    rintro _ _ ⟨rfl, rfl⟩
    rcases (show kpB (btN w N) kd i = 0 ∨ kpB (btN w N) kd i = 1 by unfold kpB; split; exact Or.inr rfl; exact Or.inl rfl) with hc9 | hc9
    · rw [hc9]
      iterate 3 (refine zv_step (bX7_say (z + 1 + 2)) rfl rfl trivial ?_)
      refine zv_ift (rfl) ?_
      have eW9 : wdF A (btN w N) (z + 1) (nI n) i = (coF A (wdF A (btN w N) z (A 2 n) (i1W kd i)) (wdF A (btN w N) z (A 3 n) (i1W kd i + kbW A z (A 2 n))) n) := by
        rw [wdF_nI (by omega) hkd h0, hc9]
        exact if_pos rfl
      have eK9 : i + kbW A (z + 1) (nI n) = i1W kd i + kbW A z (A 2 n) + kbW A z (A 3 n) := by
        rw [kbW_nI (by omega) hkd h0]
        unfold i1W
        omega
      have hi8 : i1W kd i + kbW A z (A 2 n) + kbW A z (A 3 n) ≤ N := by omega
      rw [eW9] at hq
      have K : ∀ (n1 : Nat), zV (zMo (z + 1 + 2) zX7_say) false n1 0 0 270 [(3, .int 0), (0, .ref 76), (1, .int (nI 0)), (2, .int (nI n))] [] (wZ f o A J (q + (coF A (wdF A (btN w N) z (A 2 n) (i1W kd i)) (wdF A (btN w N) z (A 3 n) (i1W kd i + kbW A z (A 2 n))) n).length) (nI (i1W kd i + kbW A z (A 2 n) + kbW A z (A 3 n))) (appA g q (coF A (wdF A (btN w N) z (A 2 n) (i1W kd i)) (wdF A (btN w N) z (A 3 n) (i1W kd i + kbW A z (A 2 n))) n))) (fun r w' => r = none ∧ w' = wZ f o A J (q + (wdF A (btN w N) (z + 1) (nI n) i).length) (nI (i + kbW A (z + 1) (nI n))) (appA g q (wdF A (btN w N) (z + 1) (nI n) i))) := by
        intro n1
        iterate 2 (refine zv_step (bX7_say (z + 1 + 2)) rfl rfl trivial ?_)
        refine zv_ift (rfl) ?_
        exact zv_ret (bX7_say (z + 1 + 2)) rfl rfl (Nat.zero_le _) (Nat.zero_le _) ⟨rfl, by rw [eW9, eK9]⟩
      obtain ⟨k9, y9, h0', hk9, h4, hy, hs9, _⟩ := hT n hlo hn
      have es := szN_of h4 hy
      have kd9 : k9 = kd := (nI_eq (by omega) (by omega)).mp (h0'.symm.trans h0)
      subst kd9
      rcases hs9 with ⟨k1, h2, h3, e⟩ | ⟨k1, k2, a, b', h2, la, ha, h3, lb, hb, e⟩ | ⟨k1, a, h2, la, ha, h3, e⟩
      · rcases (show k9 = 0 ∨ k9 = 1 by omega) with rfl | rfl
        · exact sayF0 f o A J hh (by omega) ih hi8 (by omega) (K _) h0 h2 h3
        · exact sayF1 f o A J hh (by omega) ih hi8 (by omega) (K _) h0 h2 h3
      · exact sayF2 f o A J hh (by omega) ih hi8 (by omega) (K _) k1 k2 h0 h2 la ha h3 lb hb hn hz (by omega)
      · rcases (show k9 = 7 ∨ k9 = 8 ∨ k9 = 9 by omega) with rfl | rfl | rfl
        · exact sayF7 f o A J hh (by omega) ih hi8 (by omega) (K _) h0 h2 h3 la ha hn hz (by omega)
        · exact sayF8 f o A J hh (by omega) ih hi8 (by omega) (K _) h0 h2 h3 la ha hn hz (by omega)
        · exact sayF9 f o A J hh (by omega) ih hi8 (by omega) (K _) h0 h2 h3 la ha hn hz (by omega)
    · rw [hc9]
      iterate 3 (refine zv_step (bX7_say (z + 1 + 2)) rfl rfl trivial ?_)
      refine zv_iff (by decide) ?_
      iterate 2 (refine zv_step (bX7_say (z + 1 + 2)) rfl rfl trivial ?_)
      refine zv_V1 (bX7_say (z + 1 + 2)) rfl rfl rfl rfl rfl rfl rfl ⟨rfl, rfl, rfl⟩ ⟨by show 0 + 1 ≤ z + 1 + 2; omega, by show 8 + (2 + 11) + 64 * (0) ≤ 64 * (z + 1 + 2); omega⟩ ⟨Nat.zero_le _, Nat.zero_le _⟩ (mSays f (upd o 20 _) A J _ _ (by have := hq; rw [wdF_nI (by omega) hkd h0, hc9] at this; unfold brL at this; rw [if_neg (by decide)] at this; simp only [List.length_append, List.length_cons, List.length_nil] at this; omega) _) ?_
      rintro _ _ ⟨rfl, rfl⟩
      have eW9 : wdF A (btN w N) (z + 1) (nI n) i = c8 29 :: ((coF A (wdF A (btN w N) z (A 2 n) (i1W kd i)) (wdF A (btN w N) z (A 3 n) (i1W kd i + kbW A z (A 2 n))) n) ++ [c8 30]) := by
        rw [wdF_nI (by omega) hkd h0, hc9]
        exact if_neg (by decide)
      have eK9 : i + kbW A (z + 1) (nI n) = i1W kd i + kbW A z (A 2 n) + kbW A z (A 3 n) := by
        rw [kbW_nI (by omega) hkd h0]
        unfold i1W
        omega
      have hi8 : i1W kd i + kbW A z (A 2 n) + kbW A z (A 3 n) ≤ N := by omega
      rw [eW9] at hq
      simp only [List.length_append, List.length_cons, List.length_nil] at hq
      have K : ∀ (n1 : Nat), zV (zMo (z + 1 + 2) zX7_say) false n1 0 0 270 [(3, .int 1), (0, .ref 76), (1, .int (nI 0)), (2, .int (nI n))] [] (wZ f o A J ((q + 1) + (coF A (wdF A (btN w N) z (A 2 n) (i1W kd i)) (wdF A (btN w N) z (A 3 n) (i1W kd i + kbW A z (A 2 n))) n).length) (nI (i1W kd i + kbW A z (A 2 n) + kbW A z (A 3 n))) (appA (upd g q (c8 29)) (q + 1) (coF A (wdF A (btN w N) z (A 2 n) (i1W kd i)) (wdF A (btN w N) z (A 3 n) (i1W kd i + kbW A z (A 2 n))) n))) (fun r w' => r = none ∧ w' = wZ f o A J (q + (wdF A (btN w N) (z + 1) (nI n) i).length) (nI (i + kbW A (z + 1) (nI n))) (appA g q (wdF A (btN w N) (z + 1) (nI n) i))) := by
        intro n1
        iterate 2 (refine zv_step (bX7_say (z + 1 + 2)) rfl rfl trivial ?_)
        refine zv_iff (by decide) ?_
        iterate 2 (refine zv_step (bX7_say (z + 1 + 2)) rfl rfl trivial ?_)
        refine zv_V1 (bX7_say (z + 1 + 2)) rfl rfl rfl rfl rfl rfl rfl ⟨rfl, rfl, rfl⟩ ⟨by show 0 + 1 ≤ z + 1 + 2; omega, by show 8 + (2 + 11) + 64 * (0) ≤ 64 * (z + 1 + 2); omega⟩ ⟨Nat.zero_le _, Nat.zero_le _⟩ (mSays f (upd o 20 _) A J _ _ (by omega) _) ?_
        rintro _ _ ⟨rfl, rfl⟩
        exact zv_ret (bX7_say (z + 1 + 2)) rfl rfl (Nat.zero_le _) (Nat.zero_le _) ⟨rfl, by rw [eW9, eK9, show c8 29 :: ((coF A (wdF A (btN w N) z (A 2 n) (i1W kd i)) (wdF A (btN w N) z (A 3 n) (i1W kd i + kbW A z (A 2 n))) n) ++ [c8 30]) = (c8 29 :: (coF A (wdF A (btN w N) z (A 2 n) (i1W kd i)) (wdF A (btN w N) z (A 3 n) (i1W kd i + kbW A z (A 2 n))) n)) ++ [c8 30] from rfl, appA_app]; simp only [List.length_cons, List.length_append, List.length_nil]; rw [show q + ((coF A (wdF A (btN w N) z (A 2 n) (i1W kd i)) (wdF A (btN w N) z (A 3 n) (i1W kd i + kbW A z (A 2 n))) n).length + 1 + (0 + 1)) = q + 1 + (coF A (wdF A (btN w N) z (A 2 n) (i1W kd i)) (wdF A (btN w N) z (A 3 n) (i1W kd i + kbW A z (A 2 n))) n).length + 1 by omega, show q + ((coF A (wdF A (btN w N) z (A 2 n) (i1W kd i)) (wdF A (btN w N) z (A 3 n) (i1W kd i + kbW A z (A 2 n))) n).length + 1) = q + 1 + (coF A (wdF A (btN w N) z (A 2 n) (i1W kd i)) (wdF A (btN w N) z (A 3 n) (i1W kd i + kbW A z (A 2 n))) n).length by omega]; rfl⟩
      obtain ⟨k9, y9, h0', hk9, h4, hy, hs9, _⟩ := hT n hlo hn
      have es := szN_of h4 hy
      have kd9 : k9 = kd := (nI_eq (by omega) (by omega)).mp (h0'.symm.trans h0)
      subst kd9
      rcases hs9 with ⟨k1, h2, h3, e⟩ | ⟨k1, k2, a, b', h2, la, ha, h3, lb, hb, e⟩ | ⟨k1, a, h2, la, ha, h3, e⟩
      · rcases (show k9 = 0 ∨ k9 = 1 by omega) with rfl | rfl
        · exact sayF0 f o A J hh (by omega) ih hi8 (by omega) (K _) h0 h2 h3
        · exact sayF1 f o A J hh (by omega) ih hi8 (by omega) (K _) h0 h2 h3
      · exact sayF2 f o A J hh (by omega) ih hi8 (by omega) (K _) k1 k2 h0 h2 la ha h3 lb hb hn hz (by omega)
      · rcases (show k9 = 7 ∨ k9 = 8 ∨ k9 = 9 by omega) with rfl | rfl | rfl
        · exact sayF7 f o A J hh (by omega) ih hi8 (by omega) (K _) h0 h2 h3 la ha hn hz (by omega)
        · exact sayF8 f o A J hh (by omega) ih hi8 (by omega) (K _) h0 h2 h3 la ha hn hz (by omega)
        · exact sayF9 f o A J hh (by omega) ih hi8 (by omega) (K _) h0 h2 h3 la ha hn hz (by omega)
