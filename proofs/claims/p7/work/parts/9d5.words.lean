/-- the words of a number's last k digits -/
def dgL (x : Int32) : Nat → List Int32
  | 0 => []
  | k + 1 => (c8 10 + (x / nI (10 ^ k) - x / nI (10 ^ k) / c8 10 * c8 10)) :: dgL x k
theorem dgL_len (x : Int32) : ∀ k, (dgL x k).length = k
  | 0 => rfl
  | k + 1 => by
    show (dgL x k).length + 1 = k + 1
    rw [dgL_len x k]
/-- a NODE's words without begin and end of its own, out of those of its PARTS -/
noncomputable def coL (A : Nat → Nat → Int32) (R : Int32 → List Int32) (n : Nat) : List Int32 :=
  if A 0 n = nI 0 then [A 1 n] else if A 0 n = nI 1 then dgL (A 1 n) (dgN (A 1 n)) else if A 0 n = nI 7 then c8 25 :: R (A 2 n) else if A 0 n = nI 8 then c8 26 :: (R (A 2 n) ++ [c8 27]) else if A 0 n = nI 9 then A 1 n :: c8 28 :: R (A 2 n) else R (A 2 n) ++ ((c8 18 + A 0 n) :: R (A 3 n))
def brL (c : Int32) (L : List Int32) : List Int32 := if c = 0 then L else c8 29 :: (L ++ [c8 30])
noncomputable def wdW (A : Nat → Nat → Int32) (s : Nat) : Nat → Int32 → List Int32
  | 0, _ => []
  | z + 1, x => if x < 0 then [] else brL (A 7 (10 * s + (A 0 x.toNatClampNeg).toNatClampNeg)) (coL A (wdW A s z) x.toNatClampNeg)
theorem wdW_m2 (A : Nat → Nat → Int32) (s z : Nat) : wdW A s z m2 = [] := by
  cases z with
  | zero => rfl
  | succ z => exact if_pos (by decide)
theorem wdW_nI {A : Nat → Nat → Int32} {s z n k : Nat} (hn : n < 450) (hk : k < 10) (h0 : A 0 n = nI k) : wdW A s (z + 1) (nI n) = brL (A 7 (10 * s + k)) (coL A (wdW A s z) n) := by
  show (if nI n < 0 then [] else _) = _
  rw [if_neg (nI_pos (by omega)), nI_clamp (by omega), h0, nI_clamp (by omega)]
theorem nIne {a b : Nat} (ha : a < 10) (hb : b < 10) (h : a ≠ b) : ¬ nI a = nI b := fun e => h ((nI_eq (by omega) (by omega)).mp e)
theorem coL_0 {A : Nat → Nat → Int32} {R : Int32 → List Int32} {n : Nat} (h0 : A 0 n = nI 0) : coL A R n = [A 1 n] := if_pos h0
theorem coL_1 {A : Nat → Nat → Int32} {R : Int32 → List Int32} {n : Nat} (h0 : A 0 n = nI 1) : coL A R n = dgL (A 1 n) (dgN (A 1 n)) := by
  unfold coL
  rw [h0, if_neg (nIne (by decide) (by decide) (by decide)), if_pos rfl]
theorem coL_7 {A : Nat → Nat → Int32} {R : Int32 → List Int32} {n : Nat} (h0 : A 0 n = nI 7) : coL A R n = c8 25 :: R (A 2 n) := by
  unfold coL
  rw [h0, if_neg (nIne (by decide) (by decide) (by decide)), if_neg (nIne (by decide) (by decide) (by decide)), if_pos rfl]
theorem coL_8 {A : Nat → Nat → Int32} {R : Int32 → List Int32} {n : Nat} (h0 : A 0 n = nI 8) : coL A R n = c8 26 :: (R (A 2 n) ++ [c8 27]) := by
  unfold coL
  rw [h0, if_neg (nIne (by decide) (by decide) (by decide)), if_neg (nIne (by decide) (by decide) (by decide)), if_neg (nIne (by decide) (by decide) (by decide)), if_pos rfl]
theorem coL_9 {A : Nat → Nat → Int32} {R : Int32 → List Int32} {n : Nat} (h0 : A 0 n = nI 9) : coL A R n = A 1 n :: c8 28 :: R (A 2 n) := by
  unfold coL
  rw [h0, if_neg (nIne (by decide) (by decide) (by decide)), if_neg (nIne (by decide) (by decide) (by decide)), if_neg (nIne (by decide) (by decide) (by decide)), if_neg (nIne (by decide) (by decide) (by decide)), if_pos rfl]
theorem coL_2 {A : Nat → Nat → Int32} {R : Int32 → List Int32} {n k : Nat} (h1 : 2 ≤ k) (h2 : k ≤ 6) (h0 : A 0 n = nI k) : coL A R n = R (A 2 n) ++ ((c8 18 + nI k) :: R (A 3 n)) := by
  unfold coL
  rw [h0, if_neg (nIne (by omega) (by decide) (by omega)), if_neg (nIne (by omega) (by decide) (by omega)), if_neg (nIne (by omega) (by decide) (by omega)), if_neg (nIne (by omega) (by decide) (by omega)), if_neg (nIne (by omega) (by decide) (by omega))]
theorem brL_len (c : Int32) (L : List Int32) : (brL c L).length = L.length + (if c = 0 then 0 else 2) := by
  unfold brL
  split
  · rfl
  · rw [List.length_cons, List.length_append]
    rfl
/-- as many as length says -/
theorem wdW_len {lo hi : Nat} {A : Nat → Nat → Int32} (hh : hi ≤ 450) (hT : tbI lo hi A) (s : Nat) : ∀ (z : Nat) (x : Int32), pt lo hi A z x → (wdW A s z x).length = lnW A s z x := by
  intro z
  induction z with
  | zero => exact fun x _ => rfl
  | succ z ih =>
    intro x hx
    rcases hx with rfl | ⟨n, rfl, hlo, hn, hz⟩
    · rw [wdW_m2, lnW_m2]
      rfl
    · obtain ⟨hp2, hp3⟩ := rN_parts hT hlo hn hz
      have i2 := ih _ hp2
      have i3 := ih _ hp3
      obtain ⟨k, y, h0, hk, h4, hy, hs, _⟩ := hT n hlo hn
      rw [wdW_nI (by omega) hk h0, lnW_nI (by omega) hk h0, brL_len]
      have hown := ownW_c k h0
      rcases hs with ⟨k1, h2, h3, e⟩ | ⟨k1, k6, a, b, h2, la, ha, h3, lb, hb, e⟩ | ⟨k1, a, h2, la, ha, h3, e⟩
      · rcases (show k = 0 ∨ k = 1 by omega) with rfl | rfl
        · rw [coL_0 h0, hown.1 rfl, h2, h3, lnW_m2]
          show 1 + _ = _
          omega
        · rw [coL_1 h0, hown.2.1 rfl, h2, h3, lnW_m2, dgL_len]
          omega
      · rw [coL_2 k1 k6 h0, ownW_2 k1 k6 h0, List.length_append, List.length_cons, i2, i3]
        omega
      · rcases (show k = 7 ∨ k = 8 ∨ k = 9 by omega) with rfl | rfl | rfl
        · rw [coL_7 h0, hown.2.2.1 rfl, List.length_cons, i2, h3, lnW_m2]
          omega
        · rw [coL_8 h0, hown.2.2.2.1 rfl, List.length_cons, List.length_append, i2, h3, lnW_m2]
          show _ + 1 + 1 + _ = _
          omega
        · rw [coL_9 h0, hown.2.2.2.2 rfl, List.length_cons, List.length_cons, i2, h3, lnW_m2]
          omega
set_option maxHeartbeats 1000000 in
set_option maxRecDepth 20000 in
theorem sayXN2 (f : Nat → zC) (o : Nat → Int32) (A : Nat → Nat → Int32) (J : Nat → Nat → Int64) {s n z : Nat} (hn : n < 450) {c m : Int32} {n0 : Nat} {Q : Option Value → zW → Prop} : ∀ (k q : Nat) (g : Nat → Int32), k ≤ 4 → q + k ≤ 256 → ∀ {x5 x4 : Int32}, x5 = nI k → (1 ≤ k → x4 = nI (10 ^ (k - 1))) → zV (zMo (z + 1 + 2) zX7_say) false n0 0 0 270 [(3, .int c), (0, .ref 76), (1, .int (nI s)), (2, .int (nI n))] [] (wZ f o A J (q + k) m (appA g q (dgL (A 1 n) k))) Q → zV (zMo (z + 1 + 2) zX7_say) false n0 0 0 121 [(5, .int x5), (4, .int x4), (3, .int c), (0, .ref 76), (1, .int (nI s)), (2, .int (nI n))] [] (wZ f o A J q m g) Q := by
  have e1 : (nI n).toNatClampNeg = n := nI_clamp (by omega)
  have hv : vp_in (nI n) 450 := vp_in_nI (by omega) (by decide)
  intro k
  induction k with
  | zero =>
    intro q g hk hq x5 x4 e5 e4 kk
    subst e5
    iterate 2 (refine zv_step (bX7_say (z + 1 + 2)) rfl rfl trivial ?_)
    refine zv_ift (show nI 0 ≤ 0 by decide) ?_
    iterate 1 (refine zv_step (bX7_say (z + 1 + 2)) rfl rfl trivial ?_)
    refine zv_locals (l := [(5, .int (nI 0)), (4, .int x4), (3, .int c), (0, .ref 76), (1, .int (nI s)), (2, .int (nI n))]) (l' := [(3, .int c), (0, .ref 76), (1, .int (nI s)), (2, .int (nI n))]) ?_ kk
    simp
  | succ k ih =>
    intro q g hk hq x5 x4 e5 e4 kk
    subst e5
    iterate 2 (refine zv_step (bX7_say (z + 1 + 2)) rfl rfl trivial ?_)
    refine zv_iff (nI_nle (by omega) (by omega)) ?_
    iterate 5 (refine zv_step (bX7_say (z + 1 + 2)) rfl rfl trivial ?_)
    refine zv_iale (bX7_say (z + 1 + 2)) rfl rfl hv (show A 1 (nI n).toNatClampNeg = A 1 n by rw [e1]) ?_
    iterate 1 (refine zv_step (bX7_say (z + 1 + 2)) rfl rfl trivial ?_)
    refine zv_step (bX7_say (z + 1 + 2)) rfl rfl (by rw [e4 (by omega)]; exact nI_ne0 (Nat.pow_pos (by decide)) (by have := pw k hk; omega)) ?_
    iterate 1 (refine zv_step (bX7_say (z + 1 + 2)) rfl rfl trivial ?_)
    refine zv_step (bX7_say (z + 1 + 2)) rfl rfl (show ¬ c8 10 = 0 by decide) ?_
    iterate 1 (refine zv_step (bX7_say (z + 1 + 2)) rfl rfl trivial ?_)
    refine zv_V1 (bX7_say (z + 1 + 2)) rfl rfl rfl rfl rfl rfl rfl ⟨rfl, rfl, rfl⟩ ⟨by show 0 + 1 ≤ z + 1 + 2; omega, by show 8 + (2 + 11) + 64 * (0) ≤ 64 * (z + 1 + 2); omega⟩ ⟨Nat.zero_le _, Nat.zero_le _⟩ (mSays f (upd o 20 _) A J _ _ (by omega) _) ?_
    rintro _ _ ⟨rfl, rfl⟩
    iterate 2 (refine zv_step (bX7_say (z + 1 + 2)) rfl rfl trivial ?_)
    refine zv_step (bX7_say (z + 1 + 2)) rfl rfl (show ¬ c8 10 = 0 by decide) ?_
    iterate 3 (refine zv_step (bX7_say (z + 1 + 2)) rfl rfl trivial ?_)
    refine ih (q + 1) _ (by omega) (by omega) (nI_dec k) (fun h => by rw [e4 (by omega)]; exact pwd k h hk) ?_
    rw [show q + 1 + k = q + (k + 1) by omega, e4 (by omega)]
    exact kk
set_option maxHeartbeats 1000000 in
set_option maxRecDepth 20000 in
theorem sayXN1 (f : Nat → zC) (o : Nat → Int32) (A : Nat → Nat → Int32) (J : Nat → Nat → Int64) {s n z : Nat} (hn : n < 450) {c m : Int32} {d : Nat} (hd : dgN (A 1 n) = d) (hd4 : d ≤ 4) {q : Nat} {g : Nat → Int32} (hq : q + d ≤ 256) {n0 : Nat} {Q : Option Value → zW → Prop} (kk : zV (zMo (z + 1 + 2) zX7_say) false n0 0 0 270 [(3, .int c), (0, .ref 76), (1, .int (nI s)), (2, .int (nI n))] [] (wZ f o A J (q + d) m (appA g q (dgL (A 1 n) d))) Q) : ∀ (j k : Nat), k + j = d → 1 ≤ k → ∀ {x5 x4 : Int32}, x5 = nI k → x4 = nI (10 ^ (k - 1)) → zV (zMo (z + 1 + 2) zX7_say) false n0 0 0 83 [(5, .int x5), (4, .int x4), (3, .int c), (0, .ref 76), (1, .int (nI s)), (2, .int (nI n))] [] (wZ f o A J q m g) Q := by
  have e1 : (nI n).toNatClampNeg = n := nI_clamp (by omega)
  have hv : vp_in (nI n) 450 := vp_in_nI (by omega) (by decide)
  intro j
  induction j with
  | zero =>
    intro k hj h1 x5 x4 e5 e4
    subst e5
    iterate 4 (refine zv_step (bX7_say (z + 1 + 2)) rfl rfl trivial ?_)
    refine zv_iale (bX7_say (z + 1 + 2)) rfl rfl hv (show A 1 (nI n).toNatClampNeg = A 1 n by rw [e1]) ?_
    refine zv_S1 (bX7_say (z + 1 + 2)) rfl rfl rfl rfl ⟨rfl, rfl, rfl⟩ ⟨by show 0 + 1 ≤ z + 1 + 2; omega, by show 8 + (1 + 11) + 64 * (0) ≤ 64 * (z + 1 + 2); omega⟩ ⟨Nat.zero_le _, Nat.zero_le _⟩ (mDigitsE _ hd) ?_
    rintro _ _ ⟨rfl, rfl⟩
    iterate 1 (refine zv_step (bX7_say (z + 1 + 2)) rfl rfl trivial ?_)
    refine zv_ift (nI_le (by omega) (by omega)) ?_
    iterate 3 (refine zv_step (bX7_say (z + 1 + 2)) rfl rfl trivial ?_)
    refine zv_iale (bX7_say (z + 1 + 2)) rfl rfl hv (show A 1 (nI n).toNatClampNeg = A 1 n by rw [e1]) ?_
    refine zv_S1 (bX7_say (z + 1 + 2)) rfl rfl rfl rfl ⟨rfl, rfl, rfl⟩ ⟨by show 0 + 1 ≤ z + 1 + 2; omega, by show 8 + (1 + 11) + 64 * (0) ≤ 64 * (z + 1 + 2); omega⟩ ⟨Nat.zero_le _, Nat.zero_le _⟩ (mDigitsE _ hd) ?_
    rintro _ _ ⟨rfl, rfl⟩
    iterate 1 (refine zv_step (bX7_say (z + 1 + 2)) rfl rfl trivial ?_)
    refine zv_locals (l := [(5, .int (nI d)), (4, .int x4), (3, .int c), (0, .ref 76), (1, .int (nI s)), (2, .int (nI n))]) (l' := [(5, .int (nI d)), (4, .int x4), (3, .int c), (0, .ref 76), (1, .int (nI s)), (2, .int (nI n))]) ?_ (sayXN2 f o A J hn d q g hd4 hq rfl (fun _ => by rw [e4, show k = d by omega]) kk)
    simp
  | succ j ih =>
    intro k hj h1 x5 x4 e5 e4
    subst e5
    iterate 4 (refine zv_step (bX7_say (z + 1 + 2)) rfl rfl trivial ?_)
    refine zv_iale (bX7_say (z + 1 + 2)) rfl rfl hv (show A 1 (nI n).toNatClampNeg = A 1 n by rw [e1]) ?_
    refine zv_S1 (bX7_say (z + 1 + 2)) rfl rfl rfl rfl ⟨rfl, rfl, rfl⟩ ⟨by show 0 + 1 ≤ z + 1 + 2; omega, by show 8 + (1 + 11) + 64 * (0) ≤ 64 * (z + 1 + 2); omega⟩ ⟨Nat.zero_le _, Nat.zero_le _⟩ (mDigitsE _ hd) ?_
    rintro _ _ ⟨rfl, rfl⟩
    iterate 1 (refine zv_step (bX7_say (z + 1 + 2)) rfl rfl trivial ?_)
    refine zv_iff (fun h => absurd ((nI_leI (by omega) (by omega)).mp h) (by omega)) ?_
    iterate 6 (refine zv_step (bX7_say (z + 1 + 2)) rfl rfl trivial ?_)
    refine zv_locals (l := [(5, .int (nI k + Int32.ofInt 1)), (4, .int (x4 * c8 10)), (3, .int c), (0, .ref 76), (1, .int (nI s)), (2, .int (nI n))]) (l' := [(5, .int (nI k + Int32.ofInt 1)), (4, .int (x4 * c8 10)), (3, .int c), (0, .ref 76), (1, .int (nI s)), (2, .int (nI n))]) ?_ (ih (k + 1) (by omega) (by omega) (nI_1 k) (by rw [e4]; exact pwm k h1 (by omega)))
    simp
set_option maxHeartbeats 1000000 in
set_option maxRecDepth 20000 in
theorem sayX2 (f : Nat → zC) (o : Nat → Int32) (A : Nat → Nat → Int32) (J : Nat → Nat → Int64) {lo hi : Nat} (hh : hi ≤ 450) {s n z : Nat} (hn : n < 450) {c : Int32} (ih : ∀ (x : Nat), lo ≤ x → x < hi → szN A x ≤ z → ∀ (q : Nat) (m : Int32) (g : Nat → Int32), q + (wdW A s z (nI x)).length ≤ 256 → zK (z + 2) zX7_say [.ref 76, .int (nI s), .int (nI x)] (wZ f o A J q m g) (fun r w' => r = none ∧ ∃ m' : Int32, w' = wZ f o A J (q + (wdW A s z (nI x)).length) m' (appA g q (wdW A s z (nI x))))) {n0 : Nat} {Q : Option Value → zW → Prop} {q : Nat} {m : Int32} {g : Nat → Int32} (hq : q + (coL A (wdW A s z) n).length ≤ 256) (kk : ∀ m' : Int32, zV (zMo (z + 1 + 2) zX7_say) false n0 0 0 270 [(3, .int c), (0, .ref 76), (1, .int (nI s)), (2, .int (nI n))] [] (wZ f o A J (q + (coL A (wdW A s z) n).length) m' (appA g q (coL A (wdW A s z) n))) Q) {k a b : Nat} (hk1 : 2 ≤ k) (hk2 : k ≤ 6) (h0 : A 0 n = nI k) (h2 : A 2 n = nI a) (la : lo ≤ a) (ha : a < n) (h3 : A 3 n = nI b) (lb : lo ≤ b) (hb : b < n) (hnh : n < hi) (hsz : szN A n ≤ z + 1) (es : szN A n = 1 + szN A a + szN A b) : zV (zMo (z + 1 + 2) zX7_say) false n0 0 0 17 [(3, .int c), (0, .ref 76), (1, .int (nI s)), (2, .int (nI n))] [] (wZ f o A J q m g) Q := by
  have e1 : (nI n).toNatClampNeg = n := nI_clamp (by omega)
  have hv : vp_in (nI n) 450 := vp_in_nI (by omega) (by decide)
  rw [coL_2 hk1 hk2 h0, h2, h3] at kk hq
  simp only [List.length_append, List.length_cons, List.length_nil] at hq
  iterate 3 (refine zv_step (bX7_say (z + 1 + 2)) rfl rfl trivial ?_)
  refine zv_iale (bX7_say (z + 1 + 2)) rfl rfl hv (show A 0 (nI n).toNatClampNeg = nI k by rw [e1]; exact h0) ?_
  refine zv_S1 (bX7_say (z + 1 + 2)) rfl rfl rfl rfl ⟨rfl, rfl, rfl⟩ ⟨by show 0 + 1 ≤ z + 1 + 2; omega, by show 8 + (1 + 11) + 64 * (0) ≤ 64 * (z + 1 + 2); omega⟩ ⟨Nat.zero_le _, Nat.zero_le _⟩ (hX7_isTwo _ _) ?_
  rintro _ _ ⟨rfl, ⟨g1, rfl⟩ | ⟨g1, rfl⟩⟩
  · skip
    iterate 1 (refine zv_step (bX7_say (z + 1 + 2)) rfl rfl trivial ?_)
    refine zv_iff (by decide) ?_
    iterate 5 (refine zv_step (bX7_say (z + 1 + 2)) rfl rfl trivial ?_)
    refine zv_iale (bX7_say (z + 1 + 2)) rfl rfl hv (show A 2 (nI n).toNatClampNeg = nI a by rw [e1]; exact h2) ?_
    refine zv_V2 (bX7_say (z + 1 + 2)) rfl rfl rfl rfl rfl rfl rfl ⟨rfl, rfl, rfl⟩ ⟨by show z + 2 + 1 ≤ z + 1 + 2; omega, by show 8 + (6 + 11) + 64 * (z + 2) ≤ 64 * (z + 1 + 2); omega⟩ ⟨Nat.zero_le _, Nat.zero_le _⟩ (ih a (by omega) (by omega) (by omega) _ _ _ (by omega)) ?_
    rintro _ _ ⟨rfl, m1, rfl⟩
    iterate 5 (refine zv_step (bX7_say (z + 1 + 2)) rfl rfl trivial ?_)
    refine zv_iale (bX7_say (z + 1 + 2)) rfl rfl hv (show A 0 (nI n).toNatClampNeg = nI k by rw [e1]; exact h0) ?_
    iterate 1 (refine zv_step (bX7_say (z + 1 + 2)) rfl rfl trivial ?_)
    refine zv_V1 (bX7_say (z + 1 + 2)) rfl rfl rfl rfl rfl rfl rfl ⟨rfl, rfl, rfl⟩ ⟨by show 0 + 1 ≤ z + 1 + 2; omega, by show 8 + (2 + 11) + 64 * (0) ≤ 64 * (z + 1 + 2); omega⟩ ⟨Nat.zero_le _, Nat.zero_le _⟩ (mSays f (upd o 20 _) A J _ _ (by omega) _) ?_
    rintro _ _ ⟨rfl, rfl⟩
    iterate 5 (refine zv_step (bX7_say (z + 1 + 2)) rfl rfl trivial ?_)
    refine zv_iale (bX7_say (z + 1 + 2)) rfl rfl hv (show A 3 (nI n).toNatClampNeg = nI b by rw [e1]; exact h3) ?_
    refine zv_V2 (bX7_say (z + 1 + 2)) rfl rfl rfl rfl rfl rfl rfl ⟨rfl, rfl, rfl⟩ ⟨by show z + 2 + 1 ≤ z + 1 + 2; omega, by show 8 + (6 + 11) + 64 * (z + 2) ≤ 64 * (z + 1 + 2); omega⟩ ⟨Nat.zero_le _, Nat.zero_le _⟩ (ih b (by omega) (by omega) (by omega) _ _ _ (by omega)) ?_
    rintro _ _ ⟨rfl, m2, rfl⟩
    iterate 1 (refine zv_step (bX7_say (z + 1 + 2)) rfl rfl trivial ?_)
    have kk := kk m2
    rw [appA_app] at kk
    simp only [List.length_append, List.length_cons] at kk
    rw [show q + ((wdW A s z (nI a)).length + ((wdW A s z (nI b)).length + 1)) = q + (wdW A s z (nI a)).length + 1 + (wdW A s z (nI b)).length by omega] at kk
    exact kk
  · skip
    iterate 1 (refine zv_step (bX7_say (z + 1 + 2)) rfl rfl trivial ?_)
    refine zv_ift (by decide) ?_
    exact absurd ⟨by rw [nI_toInt (by omega)]; omega, by rw [nI_toInt (by omega)]; omega⟩ g1
set_option maxHeartbeats 1000000 in
set_option maxRecDepth 20000 in
theorem sayX0 (f : Nat → zC) (o : Nat → Int32) (A : Nat → Nat → Int32) (J : Nat → Nat → Int64) {lo hi : Nat} (hh : hi ≤ 450) {s n z : Nat} (hn : n < 450) {c : Int32} (ih : ∀ (x : Nat), lo ≤ x → x < hi → szN A x ≤ z → ∀ (q : Nat) (m : Int32) (g : Nat → Int32), q + (wdW A s z (nI x)).length ≤ 256 → zK (z + 2) zX7_say [.ref 76, .int (nI s), .int (nI x)] (wZ f o A J q m g) (fun r w' => r = none ∧ ∃ m' : Int32, w' = wZ f o A J (q + (wdW A s z (nI x)).length) m' (appA g q (wdW A s z (nI x))))) {n0 : Nat} {Q : Option Value → zW → Prop} {q : Nat} {m : Int32} {g : Nat → Int32} (hq : q + (coL A (wdW A s z) n).length ≤ 256) (kk : ∀ m' : Int32, zV (zMo (z + 1 + 2) zX7_say) false n0 0 0 270 [(3, .int c), (0, .ref 76), (1, .int (nI s)), (2, .int (nI n))] [] (wZ f o A J (q + (coL A (wdW A s z) n).length) m' (appA g q (coL A (wdW A s z) n))) Q) (h0 : A 0 n = nI 0) : zV (zMo (z + 1 + 2) zX7_say) false n0 0 0 17 [(3, .int c), (0, .ref 76), (1, .int (nI s)), (2, .int (nI n))] [] (wZ f o A J q m g) Q := by
  have e1 : (nI n).toNatClampNeg = n := nI_clamp (by omega)
  have hv : vp_in (nI n) 450 := vp_in_nI (by omega) (by decide)
  rw [coL_0 h0] at kk hq
  simp only [List.length_append, List.length_cons, List.length_nil] at hq
  iterate 3 (refine zv_step (bX7_say (z + 1 + 2)) rfl rfl trivial ?_)
  refine zv_iale (bX7_say (z + 1 + 2)) rfl rfl hv (show A 0 (nI n).toNatClampNeg = nI 0 by rw [e1]; exact h0) ?_
  refine zv_S1 (bX7_say (z + 1 + 2)) rfl rfl rfl rfl ⟨rfl, rfl, rfl⟩ ⟨by show 0 + 1 ≤ z + 1 + 2; omega, by show 8 + (1 + 11) + 64 * (0) ≤ 64 * (z + 1 + 2); omega⟩ ⟨Nat.zero_le _, Nat.zero_le _⟩ (hX7_isTwo _ _) ?_
  rintro _ _ ⟨rfl, ⟨g1, rfl⟩ | ⟨g1, rfl⟩⟩
  · skip
    iterate 1 (refine zv_step (bX7_say (z + 1 + 2)) rfl rfl trivial ?_)
    refine zv_iff (by decide) ?_
    exact absurd g1 (by decide)
  · skip
    iterate 1 (refine zv_step (bX7_say (z + 1 + 2)) rfl rfl trivial ?_)
    refine zv_ift (by decide) ?_
    iterate 3 (refine zv_step (bX7_say (z + 1 + 2)) rfl rfl trivial ?_)
    refine zv_iale (bX7_say (z + 1 + 2)) rfl rfl hv (show A 0 (nI n).toNatClampNeg = nI 0 by rw [e1]; exact h0) ?_
    iterate 2 (refine zv_step (bX7_say (z + 1 + 2)) rfl rfl trivial ?_)
    refine zv_ift (by decide) ?_
    iterate 3 (refine zv_step (bX7_say (z + 1 + 2)) rfl rfl trivial ?_)
    refine zv_iale (bX7_say (z + 1 + 2)) rfl rfl hv (show A 0 (nI n).toNatClampNeg = nI 0 by rw [e1]; exact h0) ?_
    iterate 1 (refine zv_step (bX7_say (z + 1 + 2)) rfl rfl trivial ?_)
    refine zv_iff (by decide) ?_
    iterate 4 (refine zv_step (bX7_say (z + 1 + 2)) rfl rfl trivial ?_)
    refine zv_iale (bX7_say (z + 1 + 2)) rfl rfl hv (show A 1 (nI n).toNatClampNeg = A 1 n by rw [e1]) ?_
    refine zv_V1 (bX7_say (z + 1 + 2)) rfl rfl rfl rfl rfl rfl rfl ⟨rfl, rfl, rfl⟩ ⟨by show 0 + 1 ≤ z + 1 + 2; omega, by show 8 + (2 + 11) + 64 * (0) ≤ 64 * (z + 1 + 2); omega⟩ ⟨Nat.zero_le _, Nat.zero_le _⟩ (mSays f (upd o 20 _) A J _ _ (by omega) _) ?_
    rintro _ _ ⟨rfl, rfl⟩
    iterate 1 (refine zv_step (bX7_say (z + 1 + 2)) rfl rfl trivial ?_)
    exact kk _
set_option maxHeartbeats 1000000 in
set_option maxRecDepth 20000 in
theorem sayX1 (f : Nat → zC) (o : Nat → Int32) (A : Nat → Nat → Int32) (J : Nat → Nat → Int64) {lo hi : Nat} (hh : hi ≤ 450) {s n z : Nat} (hn : n < 450) {c : Int32} (ih : ∀ (x : Nat), lo ≤ x → x < hi → szN A x ≤ z → ∀ (q : Nat) (m : Int32) (g : Nat → Int32), q + (wdW A s z (nI x)).length ≤ 256 → zK (z + 2) zX7_say [.ref 76, .int (nI s), .int (nI x)] (wZ f o A J q m g) (fun r w' => r = none ∧ ∃ m' : Int32, w' = wZ f o A J (q + (wdW A s z (nI x)).length) m' (appA g q (wdW A s z (nI x))))) {n0 : Nat} {Q : Option Value → zW → Prop} {q : Nat} {m : Int32} {g : Nat → Int32} (hq : q + (coL A (wdW A s z) n).length ≤ 256) (kk : ∀ m' : Int32, zV (zMo (z + 1 + 2) zX7_say) false n0 0 0 270 [(3, .int c), (0, .ref 76), (1, .int (nI s)), (2, .int (nI n))] [] (wZ f o A J (q + (coL A (wdW A s z) n).length) m' (appA g q (coL A (wdW A s z) n))) Q) (h0 : A 0 n = nI 1) : zV (zMo (z + 1 + 2) zX7_say) false n0 0 0 17 [(3, .int c), (0, .ref 76), (1, .int (nI s)), (2, .int (nI n))] [] (wZ f o A J q m g) Q := by
  have e1 : (nI n).toNatClampNeg = n := nI_clamp (by omega)
  have hv : vp_in (nI n) 450 := vp_in_nI (by omega) (by decide)
  rw [coL_1 h0] at kk hq
  rw [dgL_len] at kk hq
  iterate 3 (refine zv_step (bX7_say (z + 1 + 2)) rfl rfl trivial ?_)
  refine zv_iale (bX7_say (z + 1 + 2)) rfl rfl hv (show A 0 (nI n).toNatClampNeg = nI 1 by rw [e1]; exact h0) ?_
  refine zv_S1 (bX7_say (z + 1 + 2)) rfl rfl rfl rfl ⟨rfl, rfl, rfl⟩ ⟨by show 0 + 1 ≤ z + 1 + 2; omega, by show 8 + (1 + 11) + 64 * (0) ≤ 64 * (z + 1 + 2); omega⟩ ⟨Nat.zero_le _, Nat.zero_le _⟩ (hX7_isTwo _ _) ?_
  rintro _ _ ⟨rfl, ⟨g1, rfl⟩ | ⟨g1, rfl⟩⟩
  · skip
    iterate 1 (refine zv_step (bX7_say (z + 1 + 2)) rfl rfl trivial ?_)
    refine zv_iff (by decide) ?_
    exact absurd g1 (by decide)
  · skip
    iterate 1 (refine zv_step (bX7_say (z + 1 + 2)) rfl rfl trivial ?_)
    refine zv_ift (by decide) ?_
    iterate 3 (refine zv_step (bX7_say (z + 1 + 2)) rfl rfl trivial ?_)
    refine zv_iale (bX7_say (z + 1 + 2)) rfl rfl hv (show A 0 (nI n).toNatClampNeg = nI 1 by rw [e1]; exact h0) ?_
    iterate 2 (refine zv_step (bX7_say (z + 1 + 2)) rfl rfl trivial ?_)
    refine zv_iff (by decide) ?_
    iterate 4 (refine zv_step (bX7_say (z + 1 + 2)) rfl rfl trivial ?_)
    refine zv_locals (l := [(5, .int (Int32.ofInt 1)), (4, .int (Int32.ofInt 1)), (3, .int c), (0, .ref 76), (1, .int (nI s)), (2, .int (nI n))]) (l' := [(5, .int (Int32.ofInt 1)), (4, .int (Int32.ofInt 1)), (3, .int c), (0, .ref 76), (1, .int (nI s)), (2, .int (nI n))]) ?_ (sayXN1 f o A J hn rfl (dgN_le _).2 hq (kk _) (dgN (A 1 n) - 1) 1 (by have := (dgN_le (A 1 n)).1; omega) (Nat.le_refl _) rfl rfl)
    simp
set_option maxHeartbeats 1000000 in
set_option maxRecDepth 20000 in
theorem sayX7 (f : Nat → zC) (o : Nat → Int32) (A : Nat → Nat → Int32) (J : Nat → Nat → Int64) {lo hi : Nat} (hh : hi ≤ 450) {s n z : Nat} (hn : n < 450) {c : Int32} (ih : ∀ (x : Nat), lo ≤ x → x < hi → szN A x ≤ z → ∀ (q : Nat) (m : Int32) (g : Nat → Int32), q + (wdW A s z (nI x)).length ≤ 256 → zK (z + 2) zX7_say [.ref 76, .int (nI s), .int (nI x)] (wZ f o A J q m g) (fun r w' => r = none ∧ ∃ m' : Int32, w' = wZ f o A J (q + (wdW A s z (nI x)).length) m' (appA g q (wdW A s z (nI x))))) {n0 : Nat} {Q : Option Value → zW → Prop} {q : Nat} {m : Int32} {g : Nat → Int32} (hq : q + (coL A (wdW A s z) n).length ≤ 256) (kk : ∀ m' : Int32, zV (zMo (z + 1 + 2) zX7_say) false n0 0 0 270 [(3, .int c), (0, .ref 76), (1, .int (nI s)), (2, .int (nI n))] [] (wZ f o A J (q + (coL A (wdW A s z) n).length) m' (appA g q (coL A (wdW A s z) n))) Q) {a : Nat} (h0 : A 0 n = nI 7) (h2 : A 2 n = nI a) (la : lo ≤ a) (ha : a < n) (hnh : n < hi) (hsz : szN A n ≤ z + 1) (es : szN A n = 1 + szN A a) : zV (zMo (z + 1 + 2) zX7_say) false n0 0 0 17 [(3, .int c), (0, .ref 76), (1, .int (nI s)), (2, .int (nI n))] [] (wZ f o A J q m g) Q := by
  have e1 : (nI n).toNatClampNeg = n := nI_clamp (by omega)
  have hv : vp_in (nI n) 450 := vp_in_nI (by omega) (by decide)
  rw [coL_7 h0, h2] at kk hq
  simp only [List.length_append, List.length_cons, List.length_nil] at hq
  iterate 3 (refine zv_step (bX7_say (z + 1 + 2)) rfl rfl trivial ?_)
  refine zv_iale (bX7_say (z + 1 + 2)) rfl rfl hv (show A 0 (nI n).toNatClampNeg = nI 7 by rw [e1]; exact h0) ?_
  refine zv_S1 (bX7_say (z + 1 + 2)) rfl rfl rfl rfl ⟨rfl, rfl, rfl⟩ ⟨by show 0 + 1 ≤ z + 1 + 2; omega, by show 8 + (1 + 11) + 64 * (0) ≤ 64 * (z + 1 + 2); omega⟩ ⟨Nat.zero_le _, Nat.zero_le _⟩ (hX7_isTwo _ _) ?_
  rintro _ _ ⟨rfl, ⟨g1, rfl⟩ | ⟨g1, rfl⟩⟩
  · skip
    iterate 1 (refine zv_step (bX7_say (z + 1 + 2)) rfl rfl trivial ?_)
    refine zv_iff (by decide) ?_
    exact absurd g1 (by decide)
  · skip
    iterate 1 (refine zv_step (bX7_say (z + 1 + 2)) rfl rfl trivial ?_)
    refine zv_ift (by decide) ?_
    iterate 3 (refine zv_step (bX7_say (z + 1 + 2)) rfl rfl trivial ?_)
    refine zv_iale (bX7_say (z + 1 + 2)) rfl rfl hv (show A 0 (nI n).toNatClampNeg = nI 7 by rw [e1]; exact h0) ?_
    iterate 2 (refine zv_step (bX7_say (z + 1 + 2)) rfl rfl trivial ?_)
    refine zv_ift (by decide) ?_
    iterate 3 (refine zv_step (bX7_say (z + 1 + 2)) rfl rfl trivial ?_)
    refine zv_iale (bX7_say (z + 1 + 2)) rfl rfl hv (show A 0 (nI n).toNatClampNeg = nI 7 by rw [e1]; exact h0) ?_
    iterate 1 (refine zv_step (bX7_say (z + 1 + 2)) rfl rfl trivial ?_)
    refine zv_ift (by decide) ?_
    iterate 4 (refine zv_step (bX7_say (z + 1 + 2)) rfl rfl trivial ?_)
    refine zv_iale (bX7_say (z + 1 + 2)) rfl rfl hv (show A 0 (nI n).toNatClampNeg = nI 7 by rw [e1]; exact h0) ?_
    iterate 2 (refine zv_step (bX7_say (z + 1 + 2)) rfl rfl trivial ?_)
    refine zv_iff (by decide) ?_
    iterate 2 (refine zv_step (bX7_say (z + 1 + 2)) rfl rfl trivial ?_)
    refine zv_V1 (bX7_say (z + 1 + 2)) rfl rfl rfl rfl rfl rfl rfl ⟨rfl, rfl, rfl⟩ ⟨by show 0 + 1 ≤ z + 1 + 2; omega, by show 8 + (2 + 11) + 64 * (0) ≤ 64 * (z + 1 + 2); omega⟩ ⟨Nat.zero_le _, Nat.zero_le _⟩ (mSays f (upd o 20 _) A J _ _ (by omega) _) ?_
    rintro _ _ ⟨rfl, rfl⟩
    iterate 3 (refine zv_step (bX7_say (z + 1 + 2)) rfl rfl trivial ?_)
    refine zv_iale (bX7_say (z + 1 + 2)) rfl rfl hv (show A 0 (nI n).toNatClampNeg = nI 7 by rw [e1]; exact h0) ?_
    iterate 2 (refine zv_step (bX7_say (z + 1 + 2)) rfl rfl trivial ?_)
    refine zv_ift (by decide) ?_
    iterate 5 (refine zv_step (bX7_say (z + 1 + 2)) rfl rfl trivial ?_)
    refine zv_iale (bX7_say (z + 1 + 2)) rfl rfl hv (show A 2 (nI n).toNatClampNeg = nI a by rw [e1]; exact h2) ?_
    refine zv_V2 (bX7_say (z + 1 + 2)) rfl rfl rfl rfl rfl rfl rfl ⟨rfl, rfl, rfl⟩ ⟨by show z + 2 + 1 ≤ z + 1 + 2; omega, by show 8 + (6 + 11) + 64 * (z + 2) ≤ 64 * (z + 1 + 2); omega⟩ ⟨Nat.zero_le _, Nat.zero_le _⟩ (ih a (by omega) (by omega) (by omega) _ _ _ (by omega)) ?_
    rintro _ _ ⟨rfl, m1, rfl⟩
    iterate 3 (refine zv_step (bX7_say (z + 1 + 2)) rfl rfl trivial ?_)
    refine zv_iale (bX7_say (z + 1 + 2)) rfl rfl hv (show A 0 (nI n).toNatClampNeg = nI 7 by rw [e1]; exact h0) ?_
    iterate 2 (refine zv_step (bX7_say (z + 1 + 2)) rfl rfl trivial ?_)
    refine zv_ift (by decide) ?_
    have kk := kk m1
    simp only [List.length_cons] at kk
    rw [show q + ((wdW A s z (nI a)).length + 1) = q + 1 + (wdW A s z (nI a)).length by omega] at kk
    exact kk
set_option maxHeartbeats 1000000 in
set_option maxRecDepth 20000 in
theorem sayX8 (f : Nat → zC) (o : Nat → Int32) (A : Nat → Nat → Int32) (J : Nat → Nat → Int64) {lo hi : Nat} (hh : hi ≤ 450) {s n z : Nat} (hn : n < 450) {c : Int32} (ih : ∀ (x : Nat), lo ≤ x → x < hi → szN A x ≤ z → ∀ (q : Nat) (m : Int32) (g : Nat → Int32), q + (wdW A s z (nI x)).length ≤ 256 → zK (z + 2) zX7_say [.ref 76, .int (nI s), .int (nI x)] (wZ f o A J q m g) (fun r w' => r = none ∧ ∃ m' : Int32, w' = wZ f o A J (q + (wdW A s z (nI x)).length) m' (appA g q (wdW A s z (nI x))))) {n0 : Nat} {Q : Option Value → zW → Prop} {q : Nat} {m : Int32} {g : Nat → Int32} (hq : q + (coL A (wdW A s z) n).length ≤ 256) (kk : ∀ m' : Int32, zV (zMo (z + 1 + 2) zX7_say) false n0 0 0 270 [(3, .int c), (0, .ref 76), (1, .int (nI s)), (2, .int (nI n))] [] (wZ f o A J (q + (coL A (wdW A s z) n).length) m' (appA g q (coL A (wdW A s z) n))) Q) {a : Nat} (h0 : A 0 n = nI 8) (h2 : A 2 n = nI a) (la : lo ≤ a) (ha : a < n) (hnh : n < hi) (hsz : szN A n ≤ z + 1) (es : szN A n = 1 + szN A a) : zV (zMo (z + 1 + 2) zX7_say) false n0 0 0 17 [(3, .int c), (0, .ref 76), (1, .int (nI s)), (2, .int (nI n))] [] (wZ f o A J q m g) Q := by
  have e1 : (nI n).toNatClampNeg = n := nI_clamp (by omega)
  have hv : vp_in (nI n) 450 := vp_in_nI (by omega) (by decide)
  rw [coL_8 h0, h2] at kk hq
  simp only [List.length_append, List.length_cons, List.length_nil] at hq
  iterate 3 (refine zv_step (bX7_say (z + 1 + 2)) rfl rfl trivial ?_)
  refine zv_iale (bX7_say (z + 1 + 2)) rfl rfl hv (show A 0 (nI n).toNatClampNeg = nI 8 by rw [e1]; exact h0) ?_
  refine zv_S1 (bX7_say (z + 1 + 2)) rfl rfl rfl rfl ⟨rfl, rfl, rfl⟩ ⟨by show 0 + 1 ≤ z + 1 + 2; omega, by show 8 + (1 + 11) + 64 * (0) ≤ 64 * (z + 1 + 2); omega⟩ ⟨Nat.zero_le _, Nat.zero_le _⟩ (hX7_isTwo _ _) ?_
  rintro _ _ ⟨rfl, ⟨g1, rfl⟩ | ⟨g1, rfl⟩⟩
  · skip
    iterate 1 (refine zv_step (bX7_say (z + 1 + 2)) rfl rfl trivial ?_)
    refine zv_iff (by decide) ?_
    exact absurd g1 (by decide)
  · skip
    iterate 1 (refine zv_step (bX7_say (z + 1 + 2)) rfl rfl trivial ?_)
    refine zv_ift (by decide) ?_
    iterate 3 (refine zv_step (bX7_say (z + 1 + 2)) rfl rfl trivial ?_)
    refine zv_iale (bX7_say (z + 1 + 2)) rfl rfl hv (show A 0 (nI n).toNatClampNeg = nI 8 by rw [e1]; exact h0) ?_
    iterate 2 (refine zv_step (bX7_say (z + 1 + 2)) rfl rfl trivial ?_)
    refine zv_ift (by decide) ?_
    iterate 3 (refine zv_step (bX7_say (z + 1 + 2)) rfl rfl trivial ?_)
    refine zv_iale (bX7_say (z + 1 + 2)) rfl rfl hv (show A 0 (nI n).toNatClampNeg = nI 8 by rw [e1]; exact h0) ?_
    iterate 1 (refine zv_step (bX7_say (z + 1 + 2)) rfl rfl trivial ?_)
    refine zv_ift (by decide) ?_
    iterate 4 (refine zv_step (bX7_say (z + 1 + 2)) rfl rfl trivial ?_)
    refine zv_iale (bX7_say (z + 1 + 2)) rfl rfl hv (show A 0 (nI n).toNatClampNeg = nI 8 by rw [e1]; exact h0) ?_
    iterate 2 (refine zv_step (bX7_say (z + 1 + 2)) rfl rfl trivial ?_)
    refine zv_ift (by decide) ?_
    iterate 3 (refine zv_step (bX7_say (z + 1 + 2)) rfl rfl trivial ?_)
    refine zv_iale (bX7_say (z + 1 + 2)) rfl rfl hv (show A 0 (nI n).toNatClampNeg = nI 8 by rw [e1]; exact h0) ?_
    iterate 2 (refine zv_step (bX7_say (z + 1 + 2)) rfl rfl trivial ?_)
    refine zv_iff (by decide) ?_
    iterate 2 (refine zv_step (bX7_say (z + 1 + 2)) rfl rfl trivial ?_)
    refine zv_V1 (bX7_say (z + 1 + 2)) rfl rfl rfl rfl rfl rfl rfl ⟨rfl, rfl, rfl⟩ ⟨by show 0 + 1 ≤ z + 1 + 2; omega, by show 8 + (2 + 11) + 64 * (0) ≤ 64 * (z + 1 + 2); omega⟩ ⟨Nat.zero_le _, Nat.zero_le _⟩ (mSays f (upd o 20 _) A J _ _ (by omega) _) ?_
    rintro _ _ ⟨rfl, rfl⟩
    iterate 3 (refine zv_step (bX7_say (z + 1 + 2)) rfl rfl trivial ?_)
    refine zv_iale (bX7_say (z + 1 + 2)) rfl rfl hv (show A 0 (nI n).toNatClampNeg = nI 8 by rw [e1]; exact h0) ?_
    iterate 2 (refine zv_step (bX7_say (z + 1 + 2)) rfl rfl trivial ?_)
    refine zv_ift (by decide) ?_
    iterate 5 (refine zv_step (bX7_say (z + 1 + 2)) rfl rfl trivial ?_)
    refine zv_iale (bX7_say (z + 1 + 2)) rfl rfl hv (show A 2 (nI n).toNatClampNeg = nI a by rw [e1]; exact h2) ?_
    refine zv_V2 (bX7_say (z + 1 + 2)) rfl rfl rfl rfl rfl rfl rfl ⟨rfl, rfl, rfl⟩ ⟨by show z + 2 + 1 ≤ z + 1 + 2; omega, by show 8 + (6 + 11) + 64 * (z + 2) ≤ 64 * (z + 1 + 2); omega⟩ ⟨Nat.zero_le _, Nat.zero_le _⟩ (ih a (by omega) (by omega) (by omega) _ _ _ (by omega)) ?_
    rintro _ _ ⟨rfl, m1, rfl⟩
    iterate 3 (refine zv_step (bX7_say (z + 1 + 2)) rfl rfl trivial ?_)
    refine zv_iale (bX7_say (z + 1 + 2)) rfl rfl hv (show A 0 (nI n).toNatClampNeg = nI 8 by rw [e1]; exact h0) ?_
    iterate 2 (refine zv_step (bX7_say (z + 1 + 2)) rfl rfl trivial ?_)
    refine zv_iff (by decide) ?_
    iterate 2 (refine zv_step (bX7_say (z + 1 + 2)) rfl rfl trivial ?_)
    refine zv_V1 (bX7_say (z + 1 + 2)) rfl rfl rfl rfl rfl rfl rfl ⟨rfl, rfl, rfl⟩ ⟨by show 0 + 1 ≤ z + 1 + 2; omega, by show 8 + (2 + 11) + 64 * (0) ≤ 64 * (z + 1 + 2); omega⟩ ⟨Nat.zero_le _, Nat.zero_le _⟩ (mSays f (upd o 20 _) A J _ _ (by omega) _) ?_
    rintro _ _ ⟨rfl, rfl⟩
    have kk := kk m1
    rw [show c8 26 :: (wdW A s z (nI a) ++ [c8 27]) = (c8 26 :: wdW A s z (nI a)) ++ [c8 27] from rfl, appA_app] at kk
    simp only [List.length_cons, List.length_append, List.length_nil] at kk
    rw [show q + ((wdW A s z (nI a)).length + 1 + (0 + 1)) = q + 1 + (wdW A s z (nI a)).length + 1 by omega, show q + ((wdW A s z (nI a)).length + 1) = q + 1 + (wdW A s z (nI a)).length by omega] at kk
    exact kk
set_option maxHeartbeats 1000000 in
set_option maxRecDepth 20000 in
theorem sayX9 (f : Nat → zC) (o : Nat → Int32) (A : Nat → Nat → Int32) (J : Nat → Nat → Int64) {lo hi : Nat} (hh : hi ≤ 450) {s n z : Nat} (hn : n < 450) {c : Int32} (ih : ∀ (x : Nat), lo ≤ x → x < hi → szN A x ≤ z → ∀ (q : Nat) (m : Int32) (g : Nat → Int32), q + (wdW A s z (nI x)).length ≤ 256 → zK (z + 2) zX7_say [.ref 76, .int (nI s), .int (nI x)] (wZ f o A J q m g) (fun r w' => r = none ∧ ∃ m' : Int32, w' = wZ f o A J (q + (wdW A s z (nI x)).length) m' (appA g q (wdW A s z (nI x))))) {n0 : Nat} {Q : Option Value → zW → Prop} {q : Nat} {m : Int32} {g : Nat → Int32} (hq : q + (coL A (wdW A s z) n).length ≤ 256) (kk : ∀ m' : Int32, zV (zMo (z + 1 + 2) zX7_say) false n0 0 0 270 [(3, .int c), (0, .ref 76), (1, .int (nI s)), (2, .int (nI n))] [] (wZ f o A J (q + (coL A (wdW A s z) n).length) m' (appA g q (coL A (wdW A s z) n))) Q) {a : Nat} (h0 : A 0 n = nI 9) (h2 : A 2 n = nI a) (la : lo ≤ a) (ha : a < n) (hnh : n < hi) (hsz : szN A n ≤ z + 1) (es : szN A n = 1 + szN A a) : zV (zMo (z + 1 + 2) zX7_say) false n0 0 0 17 [(3, .int c), (0, .ref 76), (1, .int (nI s)), (2, .int (nI n))] [] (wZ f o A J q m g) Q := by
  have e1 : (nI n).toNatClampNeg = n := nI_clamp (by omega)
  have hv : vp_in (nI n) 450 := vp_in_nI (by omega) (by decide)
  rw [coL_9 h0, h2] at kk hq
  simp only [List.length_append, List.length_cons, List.length_nil] at hq
  iterate 3 (refine zv_step (bX7_say (z + 1 + 2)) rfl rfl trivial ?_)
  refine zv_iale (bX7_say (z + 1 + 2)) rfl rfl hv (show A 0 (nI n).toNatClampNeg = nI 9 by rw [e1]; exact h0) ?_
  refine zv_S1 (bX7_say (z + 1 + 2)) rfl rfl rfl rfl ⟨rfl, rfl, rfl⟩ ⟨by show 0 + 1 ≤ z + 1 + 2; omega, by show 8 + (1 + 11) + 64 * (0) ≤ 64 * (z + 1 + 2); omega⟩ ⟨Nat.zero_le _, Nat.zero_le _⟩ (hX7_isTwo _ _) ?_
  rintro _ _ ⟨rfl, ⟨g1, rfl⟩ | ⟨g1, rfl⟩⟩
  · skip
    iterate 1 (refine zv_step (bX7_say (z + 1 + 2)) rfl rfl trivial ?_)
    refine zv_iff (by decide) ?_
    exact absurd g1 (by decide)
  · skip
    iterate 1 (refine zv_step (bX7_say (z + 1 + 2)) rfl rfl trivial ?_)
    refine zv_ift (by decide) ?_
    iterate 3 (refine zv_step (bX7_say (z + 1 + 2)) rfl rfl trivial ?_)
    refine zv_iale (bX7_say (z + 1 + 2)) rfl rfl hv (show A 0 (nI n).toNatClampNeg = nI 9 by rw [e1]; exact h0) ?_
    iterate 2 (refine zv_step (bX7_say (z + 1 + 2)) rfl rfl trivial ?_)
    refine zv_ift (by decide) ?_
    iterate 3 (refine zv_step (bX7_say (z + 1 + 2)) rfl rfl trivial ?_)
    refine zv_iale (bX7_say (z + 1 + 2)) rfl rfl hv (show A 0 (nI n).toNatClampNeg = nI 9 by rw [e1]; exact h0) ?_
    iterate 1 (refine zv_step (bX7_say (z + 1 + 2)) rfl rfl trivial ?_)
    refine zv_ift (by decide) ?_
    iterate 4 (refine zv_step (bX7_say (z + 1 + 2)) rfl rfl trivial ?_)
    refine zv_iale (bX7_say (z + 1 + 2)) rfl rfl hv (show A 0 (nI n).toNatClampNeg = nI 9 by rw [e1]; exact h0) ?_
    iterate 2 (refine zv_step (bX7_say (z + 1 + 2)) rfl rfl trivial ?_)
    refine zv_ift (by decide) ?_
    iterate 3 (refine zv_step (bX7_say (z + 1 + 2)) rfl rfl trivial ?_)
    refine zv_iale (bX7_say (z + 1 + 2)) rfl rfl hv (show A 0 (nI n).toNatClampNeg = nI 9 by rw [e1]; exact h0) ?_
    iterate 2 (refine zv_step (bX7_say (z + 1 + 2)) rfl rfl trivial ?_)
    refine zv_ift (by decide) ?_
    iterate 3 (refine zv_step (bX7_say (z + 1 + 2)) rfl rfl trivial ?_)
    refine zv_iale (bX7_say (z + 1 + 2)) rfl rfl hv (show A 1 (nI n).toNatClampNeg = A 1 n by rw [e1]) ?_
    refine zv_V1 (bX7_say (z + 1 + 2)) rfl rfl rfl rfl rfl rfl rfl ⟨rfl, rfl, rfl⟩ ⟨by show 0 + 1 ≤ z + 1 + 2; omega, by show 8 + (2 + 11) + 64 * (0) ≤ 64 * (z + 1 + 2); omega⟩ ⟨Nat.zero_le _, Nat.zero_le _⟩ (mSays f (upd o 20 _) A J _ _ (by omega) _) ?_
    rintro _ _ ⟨rfl, rfl⟩
    iterate 3 (refine zv_step (bX7_say (z + 1 + 2)) rfl rfl trivial ?_)
    refine zv_iale (bX7_say (z + 1 + 2)) rfl rfl hv (show A 0 (nI n).toNatClampNeg = nI 9 by rw [e1]; exact h0) ?_
    iterate 2 (refine zv_step (bX7_say (z + 1 + 2)) rfl rfl trivial ?_)
    refine zv_iff (by decide) ?_
    iterate 2 (refine zv_step (bX7_say (z + 1 + 2)) rfl rfl trivial ?_)
    refine zv_V1 (bX7_say (z + 1 + 2)) rfl rfl rfl rfl rfl rfl rfl ⟨rfl, rfl, rfl⟩ ⟨by show 0 + 1 ≤ z + 1 + 2; omega, by show 8 + (2 + 11) + 64 * (0) ≤ 64 * (z + 1 + 2); omega⟩ ⟨Nat.zero_le _, Nat.zero_le _⟩ (mSays f (upd o 20 _) A J _ _ (by omega) _) ?_
    rintro _ _ ⟨rfl, rfl⟩
    iterate 5 (refine zv_step (bX7_say (z + 1 + 2)) rfl rfl trivial ?_)
    refine zv_iale (bX7_say (z + 1 + 2)) rfl rfl hv (show A 2 (nI n).toNatClampNeg = nI a by rw [e1]; exact h2) ?_
    refine zv_V2 (bX7_say (z + 1 + 2)) rfl rfl rfl rfl rfl rfl rfl ⟨rfl, rfl, rfl⟩ ⟨by show z + 2 + 1 ≤ z + 1 + 2; omega, by show 8 + (6 + 11) + 64 * (z + 2) ≤ 64 * (z + 1 + 2); omega⟩ ⟨Nat.zero_le _, Nat.zero_le _⟩ (ih a (by omega) (by omega) (by omega) _ _ _ (by omega)) ?_
    rintro _ _ ⟨rfl, m1, rfl⟩
    iterate 3 (refine zv_step (bX7_say (z + 1 + 2)) rfl rfl trivial ?_)
    refine zv_iale (bX7_say (z + 1 + 2)) rfl rfl hv (show A 0 (nI n).toNatClampNeg = nI 9 by rw [e1]; exact h0) ?_
    iterate 2 (refine zv_step (bX7_say (z + 1 + 2)) rfl rfl trivial ?_)
    refine zv_ift (by decide) ?_
    have kk := kk m1
    simp only [List.length_cons] at kk
    rw [show q + ((wdW A s z (nI a)).length + 1 + 1) = q + 1 + 1 + (wdW A s z (nI a)).length by omega] at kk
    exact kk
set_option maxHeartbeats 1000000 in
set_option maxRecDepth 20000 in
theorem mSayX (f : Nat → zC) (o : Nat → Int32) (A : Nat → Nat → Int32) (J : Nat → Nat → Int64) {lo hi : Nat} (hh : hi ≤ 450) (hT : tbI lo hi A) (hB : blI A) (hm : o 19 < 0) {s : Nat} (hs : s < 8) : ∀ (z n : Nat), lo ≤ n → n < hi → szN A n ≤ z → ∀ (q : Nat) (m : Int32) (g : Nat → Int32), q + (wdW A s z (nI n)).length ≤ 256 → zK (z + 2) zX7_say [.ref 76, .int (nI s), .int (nI n)] (wZ f o A J q m g) (fun r w' => r = none ∧ ∃ m' : Int32, w' = wZ f o A J (q + (wdW A s z (nI n)).length) m' (appA g q (wdW A s z (nI n)))) := by
  intro z
  induction z with
  | zero =>
    intro n hlo hn hz
    have := (rN_sz (hT n hlo hn)).1
    omega
  | succ z ih =>
    intro n hlo hn hz q m g hq
    obtain ⟨kd, hkd, h0⟩ := rN_kd (hT n hlo hn)
    refine zK_of qX7_say (by decide +kernel) rfl ?_
    iterate 3 (refine zv_step (bX7_say (z + 1 + 2)) rfl rfl trivial ?_)
    refine zv_V2 (bX7_say (z + 1 + 2)) rfl rfl rfl rfl rfl rfl rfl ⟨rfl, rfl, rfl⟩ ⟨by show 1 + 1 ≤ z + 1 + 2; omega, by show 8 + (3 + 11) + 64 * (1) ≤ 64 * (z + 1 + 2); omega⟩ ⟨Nat.zero_le _, Nat.zero_le _⟩ (mKeepsIt f o A J hB hs (by omega) hkd h0 q m g) ?_
    rintro _ _ ⟨m1, c, rfl, rfl, rfl | rfl, hc⟩
    · skip
      iterate 3 (refine zv_step (bX7_say (z + 1 + 2)) rfl rfl trivial ?_)
      refine zv_ift (rfl) ?_
      have eW9 : wdW A s (z + 1) (nI n) = (coL A (wdW A s z) n) := by
        rw [wdW_nI (by omega) hkd h0, ← hc hm]
        exact if_pos rfl
      rw [eW9] at hq
      have K : ∀ (n1 : Nat) (m' : Int32), zV (zMo (z + 1 + 2) zX7_say) false n1 0 0 270 [(3, .int 0), (0, .ref 76), (1, .int (nI s)), (2, .int (nI n))] [] (wZ f o A J (q + (coL A (wdW A s z) n).length) m' (appA g q (coL A (wdW A s z) n))) (fun r w' => r = none ∧ ∃ m' : Int32, w' = wZ f o A J (q + (wdW A s (z + 1) (nI n)).length) m' (appA g q (wdW A s (z + 1) (nI n)))) := by
        intro n1 m'
        iterate 2 (refine zv_step (bX7_say (z + 1 + 2)) rfl rfl trivial ?_)
        refine zv_ift (rfl) ?_
        exact zv_ret (bX7_say (z + 1 + 2)) rfl rfl (Nat.zero_le _) (Nat.zero_le _) ⟨rfl, m', by rw [eW9]⟩
      obtain ⟨k9, y9, h0', hk9, h4, hy, hs9, _⟩ := hT n hlo hn
      have es := szN_of h4 hy
      have kd9 : k9 = kd := (nI_eq (by omega) (by omega)).mp (h0'.symm.trans h0)
      subst kd9
      rcases hs9 with ⟨k1, h2, h3, e⟩ | ⟨k1, k2, a, b, h2, la, ha, h3, lb, hb, e⟩ | ⟨k1, a, h2, la, ha, h3, e⟩
      · rcases (show k9 = 0 ∨ k9 = 1 by omega) with rfl | rfl
        · exact sayX0 f o A J hh (by omega) ih (by omega) (K _) h0
        · exact sayX1 f o A J hh (by omega) ih (by omega) (K _) h0
      · exact sayX2 f o A J hh (by omega) ih (by omega) (K _) k1 k2 h0 h2 la ha h3 lb hb hn hz (by omega)
      · rcases (show k9 = 7 ∨ k9 = 8 ∨ k9 = 9 by omega) with rfl | rfl | rfl
        · exact sayX7 f o A J hh (by omega) ih (by omega) (K _) h0 h2 la ha hn hz (by omega)
        · exact sayX8 f o A J hh (by omega) ih (by omega) (K _) h0 h2 la ha hn hz (by omega)
        · exact sayX9 f o A J hh (by omega) ih (by omega) (K _) h0 h2 la ha hn hz (by omega)
    · skip
      iterate 3 (refine zv_step (bX7_say (z + 1 + 2)) rfl rfl trivial ?_)
      refine zv_iff (by decide) ?_
      iterate 2 (refine zv_step (bX7_say (z + 1 + 2)) rfl rfl trivial ?_)
      refine zv_V1 (bX7_say (z + 1 + 2)) rfl rfl rfl rfl rfl rfl rfl ⟨rfl, rfl, rfl⟩ ⟨by show 0 + 1 ≤ z + 1 + 2; omega, by show 8 + (2 + 11) + 64 * (0) ≤ 64 * (z + 1 + 2); omega⟩ ⟨Nat.zero_le _, Nat.zero_le _⟩ (mSays f (upd o 20 _) A J _ _ (by have := hq; rw [wdW_nI (by omega) hkd h0, ← hc hm] at this; unfold brL at this; rw [if_neg (by decide)] at this; simp only [List.length_append, List.length_cons, List.length_nil] at this; omega) _) ?_
      rintro _ _ ⟨rfl, rfl⟩
      have eW9 : wdW A s (z + 1) (nI n) = c8 29 :: ((coL A (wdW A s z) n) ++ [c8 30]) := by
        rw [wdW_nI (by omega) hkd h0, ← hc hm]
        exact if_neg (by decide)
      rw [eW9] at hq
      simp only [List.length_append, List.length_cons, List.length_nil] at hq
      have K : ∀ (n1 : Nat) (m' : Int32), zV (zMo (z + 1 + 2) zX7_say) false n1 0 0 270 [(3, .int 1), (0, .ref 76), (1, .int (nI s)), (2, .int (nI n))] [] (wZ f o A J ((q + 1) + (coL A (wdW A s z) n).length) m' (appA (upd g q (c8 29)) (q + 1) (coL A (wdW A s z) n))) (fun r w' => r = none ∧ ∃ m' : Int32, w' = wZ f o A J (q + (wdW A s (z + 1) (nI n)).length) m' (appA g q (wdW A s (z + 1) (nI n)))) := by
        intro n1 m'
        iterate 2 (refine zv_step (bX7_say (z + 1 + 2)) rfl rfl trivial ?_)
        refine zv_iff (by decide) ?_
        iterate 2 (refine zv_step (bX7_say (z + 1 + 2)) rfl rfl trivial ?_)
        refine zv_V1 (bX7_say (z + 1 + 2)) rfl rfl rfl rfl rfl rfl rfl ⟨rfl, rfl, rfl⟩ ⟨by show 0 + 1 ≤ z + 1 + 2; omega, by show 8 + (2 + 11) + 64 * (0) ≤ 64 * (z + 1 + 2); omega⟩ ⟨Nat.zero_le _, Nat.zero_le _⟩ (mSays f (upd o 20 _) A J _ _ (by omega) _) ?_
        rintro _ _ ⟨rfl, rfl⟩
        exact zv_ret (bX7_say (z + 1 + 2)) rfl rfl (Nat.zero_le _) (Nat.zero_le _) ⟨rfl, m', by rw [eW9, show c8 29 :: ((coL A (wdW A s z) n) ++ [c8 30]) = (c8 29 :: (coL A (wdW A s z) n)) ++ [c8 30] from rfl, appA_app]; simp only [List.length_cons, List.length_append, List.length_nil]; rw [show q + ((coL A (wdW A s z) n).length + 1 + (0 + 1)) = q + 1 + (coL A (wdW A s z) n).length + 1 by omega, show q + ((coL A (wdW A s z) n).length + 1) = q + 1 + (coL A (wdW A s z) n).length by omega]; rfl⟩
      obtain ⟨k9, y9, h0', hk9, h4, hy, hs9, _⟩ := hT n hlo hn
      have es := szN_of h4 hy
      have kd9 : k9 = kd := (nI_eq (by omega) (by omega)).mp (h0'.symm.trans h0)
      subst kd9
      rcases hs9 with ⟨k1, h2, h3, e⟩ | ⟨k1, k2, a, b, h2, la, ha, h3, lb, hb, e⟩ | ⟨k1, a, h2, la, ha, h3, e⟩
      · rcases (show k9 = 0 ∨ k9 = 1 by omega) with rfl | rfl
        · exact sayX0 f o A J hh (by omega) ih (by omega) (K _) h0
        · exact sayX1 f o A J hh (by omega) ih (by omega) (K _) h0
      · exact sayX2 f o A J hh (by omega) ih (by omega) (K _) k1 k2 h0 h2 la ha h3 lb hb hn hz (by omega)
      · rcases (show k9 = 7 ∨ k9 = 8 ∨ k9 = 9 by omega) with rfl | rfl | rfl
        · exact sayX7 f o A J hh (by omega) ih (by omega) (K _) h0 h2 la ha hn hz (by omega)
        · exact sayX8 f o A J hh (by omega) ih (by omega) (K _) h0 h2 la ha hn hz (by omega)
        · exact sayX9 f o A J hh (by omega) ih (by omega) (K _) h0 h2 la ha hn hz (by omega)
set_option maxHeartbeats 1000000 in
set_option maxRecDepth 20000 in
theorem mSayAllX (f : Nat → zC) (o : Nat → Int32) (A : Nat → Nat → Int32) (J : Nat → Nat → Int64) {lo hi : Nat} (hh : hi ≤ 450) (hT : tbI lo hi A) (hB : blI A) {s n : Nat} (hs : s < 8) (hlo : lo ≤ n) (hn : n < hi) : zK 43 zX7_sayAll [.ref 76, .int (nI s), .int (nI n)] (wR f o A J) (fun r w' => r = none ∧ ∃ m' : Int32, w' = wZ f (upd o 19 (Int32.ofInt (-1))) A J (wdW A s 40 (nI n)).length m' (appA (A 14) 0 (wdW A s 40 (nI n)))) := by
  refine zK_of qX7_sayAll (by decide +kernel) rfl ?_
  iterate 6 (refine zv_step (bX7_sayAll 43) rfl rfl trivial ?_)
  have hlen : 0 + (wdW A s 40 (nI n)).length ≤ 256 := by
    rw [wdW_len hh hT s 40 (nI n) (pt_of hT hlo hn)]
    have hl := lnW_le hh hT s 40 (nI n) (pt_of hT hlo hn)
    have hz := (rN_sz (hT n hlo hn)).2.1
    rw [if_neg (nI_pos (by omega)), nI_clamp (by omega)] at hl
    omega
  refine zv_world (show _ = wZ f (upd o 19 (Int32.ofInt (-1))) A J 0 (o 20) (A 14) from rfl) ?_
  iterate 3 (refine zv_step (bX7_sayAll 43) rfl rfl trivial ?_)
  refine zv_V2 (bX7_sayAll 43) rfl rfl rfl rfl rfl rfl rfl ⟨rfl, rfl, rfl⟩ ⟨by decide, by decide⟩ ⟨Nat.zero_le _, Nat.zero_le _⟩ (mSayX f (upd o 19 (Int32.ofInt (-1))) A J hh hT hB (show upd o 19 (Int32.ofInt (-1)) 19 < 0 by rw [upd_self]; decide) hs 40 n hlo hn (rN_sz (hT n hlo hn)).2.1 0 _ _ hlen) ?_
  rintro _ _ ⟨rfl, m1, rfl⟩
  rw [Nat.zero_add]
  exact zv_ret (bX7_sayAll 43) rfl rfl (Nat.zero_le _) (Nat.zero_le _) ⟨rfl, m1, rfl⟩
