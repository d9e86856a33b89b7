section
/-- the reference's world with q words said, m NODES asked, the words g -/
abbrev wZ (f : Nat → zC) (o : Nat → Int32) (A : Nat → Nat → Int32) (J : Nat → Nat → Int64) (q : Nat) (m : Int32) (g : Nat → Int32) : zW := wQ f (upd o 20 m) A J q g
theorem nI_dec (k : Nat) : nI (k + 1) + Int32.ofInt (-1) = nI k := by
  rw [nI_succ, Int32.add_assoc, show (1 : Int32) + Int32.ofInt (-1) = 0 from rfl, Int32.add_zero]
/-- all words so far are words -/
def nnW (q : Nat) (g : Nat → Int32) : Prop := ∀ i, i < q → ∃ e : Nat, e ≤ 31 ∧ g i = nI e
theorem nnW_s {q : Nat} {g : Nat → Int32} {v : Int32} (h : nnW q g) (hv : ∃ e : Nat, e ≤ 31 ∧ v = nI e) : nnW (q + 1) (upd g q v) := by
  intro i hi
  by_cases e : i = q
  · subst e
    rw [upd_self]
    exact hv
  · rw [upd_ne _ _ e]
    exact h i (by omega)
theorem nI_div {a b : Nat} (ha : a < 2 ^ 31) (hb : b < 2 ^ 31) (h0 : 0 < b) : nI a / nI b = nI (a / b) := by
  have hq : a / b ≤ a := Nat.div_le_self a b
  rw [← Int32.toInt_inj, nI_toInt (by omega), Int32.toInt_div, nI_toInt ha, nI_toInt hb, ← Int.ofNat_tdiv]
  generalize a / b = c at hq ⊢
  exact Int.bmod_eq_of_le (by omega) (by omega)
theorem nI_mul (a b : Nat) : nI a * nI b = nI (a * b) := (Int32.ofNat_mul a b).symm
theorem nI_sub {a b : Nat} (h : b ≤ a) : nI a - nI b = nI (a - b) := by
  have e : nI (a - b) + nI b = nI a := by rw [nI_add, Nat.sub_add_cancel h]
  rw [← e, Int32.add_sub_cancel]
theorem nI_rem {a : Nat} (ha : a < 2 ^ 31) : nI a - nI a / c8 10 * c8 10 = nI (a % 10) := by
  rw [show c8 10 = nI 10 from rfl, nI_div ha (by decide) (by decide), nI_mul, nI_sub (Nat.div_mul_le_self a 10)]
  congr 1
  have := Nat.div_add_mod a 10
  omega
theorem dig_w {x : Int32} {v k : Nat} (e : x = nI v) (hv : v ≤ 9999) (hk : k ≤ 3) : ∃ w : Nat, w ≤ 31 ∧ c8 10 + (x / nI (10 ^ k) - x / nI (10 ^ k) / c8 10 * c8 10) = nI w := by
  have hp : 0 < 10 ^ k := Nat.pow_pos (by decide)
  have hp2 : 10 ^ k ≤ 10 ^ 3 := Nat.pow_le_pow_right (by decide) hk
  have hq : v / 10 ^ k ≤ v := Nat.div_le_self v _
  subst e
  rw [nI_div (by omega) (by omega) hp, nI_rem (by omega)]
  exact ⟨10 + v / 10 ^ k % 10, by omega, (nI_add 10 _)⟩
theorem mDigitsE (w : zW) {x : Int32} {d : Nat} (h : dgN x = d) : zK 0 zX7_digits [.int x] w (fun r w' => w' = w ∧ r = some (.int (nI d))) := h ▸ mDigits w x
set_option maxHeartbeats 1000000 in
set_option maxRecDepth 20000 in
theorem mKeepsIt (f : Nat → zC) (o : Nat → Int32) (A : Nat → Nat → Int32) (J : Nat → Nat → Int64) (hB : blI A) {s n kd : Nat} (hs : s < 8) (hn : n < 450) (hkd : kd < 10) (h0 : A 0 n = nI kd) (q : Nat) (m : Int32) (g : Nat → Int32) : zK 1 zX7_keepsIt [.ref 76, .int (nI s), .int (nI n)] (wZ f o A J q m g) (fun r w' => ∃ (m' c : Int32), w' = wZ f o A J q m' g ∧ r = some (.int c) ∧ (c = 0 ∨ c = 1) ∧ (o 19 < 0 → c = A 7 (10 * s + kd))) := by
  have e1 : (nI n).toNatClampNeg = n := nI_clamp (by omega)
  have hv : vp_in (nI n) 450 := vp_in_nI (by omega) (by decide)
  refine zK_of qX7_keepsIt (by decide +kernel) rfl ?_
  iterate 3 (refine zv_step (bX7_keepsIt 1) rfl rfl trivial ?_)
  refine zv_ifb (fun h4 => ?_) (fun h4 => ?_)
  · iterate 8 (refine zv_step (bX7_keepsIt 1) rfl rfl trivial ?_)
    refine zv_iale (bX7_keepsIt 1) rfl rfl hv (show A 0 (nI n).toNatClampNeg = A 0 n by rw [e1]) ?_
    iterate 1 (refine zv_step (bX7_keepsIt 1) rfl rfl trivial ?_)
    refine zv_zale (bX7_keepsIt 1) rfl rfl (show vp_in (c8 10 * nI s + A 0 n) 90 by rw [h0, ix10]; exact vp_in_nI (by omega) (by decide)) (show A 7 (c8 10 * nI s + A 0 n).toNatClampNeg = A 7 (10 * s + kd) by rw [h0, ix10, nI_clamp (by omega)]) ?_
    exact zv_iret (bX7_keepsIt 1) rfl (Or.inr ⟨rfl, hB.2 _⟩) (Nat.zero_le _) (Nat.zero_le _) ⟨m, _, rfl, rfl, hB.2 _, fun _ => rfl⟩
  · iterate 3 (refine zv_step (bX7_keepsIt 1) rfl rfl trivial ?_)
    refine zv_iale (bX7_keepsIt 1) rfl rfl hv (show A 0 (nI n).toNatClampNeg = A 0 n by rw [e1]) ?_
    refine zv_S1 (bX7_keepsIt 1) rfl rfl rfl rfl ⟨rfl, rfl, rfl⟩ ⟨by show 0 + 1 ≤ 1; omega, by show 8 + (1 + 11) + 64 * (0) ≤ 64 * (1); omega⟩ ⟨Nat.zero_le _, Nat.zero_le _⟩ (hX7_mayKeep _ _) ?_
    rintro _ _ ⟨rfl, ⟨g1, rfl⟩ | ⟨g1, rfl⟩⟩
    · skip
      iterate 1 (refine zv_step (bX7_keepsIt 1) rfl rfl trivial ?_)
      refine zv_ift (by decide) ?_
      iterate 18 (refine zv_step (bX7_keepsIt 1) rfl rfl trivial ?_)
      refine zv_ifb (fun h63 => ?_) (fun h63 => ?_)
      · iterate 1 (refine zv_step (bX7_keepsIt 1) rfl rfl trivial ?_)
        exact zv_iret (bX7_keepsIt 1) rfl (Or.inr ⟨rfl, Or.inl rfl⟩) (Nat.zero_le _) (Nat.zero_le _) ⟨m + Int32.ofInt 1, _, rfl, rfl, Or.inl rfl, fun q => absurd q h4⟩
      · iterate 2 (refine zv_step (bX7_keepsIt 1) rfl rfl trivial ?_)
        exact zv_iret (bX7_keepsIt 1) rfl (Or.inr ⟨rfl, Or.inr rfl⟩) (Nat.zero_le _) (Nat.zero_le _) ⟨m + Int32.ofInt 1, _, rfl, rfl, Or.inr rfl, fun q => absurd q h4⟩
    · skip
      iterate 1 (refine zv_step (bX7_keepsIt 1) rfl rfl trivial ?_)
      refine zv_iff (by decide) ?_
      iterate 8 (refine zv_step (bX7_keepsIt 1) rfl rfl trivial ?_)
      refine zv_iale (bX7_keepsIt 1) rfl rfl hv (show A 0 (nI n).toNatClampNeg = A 0 n by rw [e1]) ?_
      iterate 1 (refine zv_step (bX7_keepsIt 1) rfl rfl trivial ?_)
      refine zv_zale (bX7_keepsIt 1) rfl rfl (show vp_in (c8 10 * nI s + A 0 n) 90 by rw [h0, ix10]; exact vp_in_nI (by omega) (by decide)) (show A 7 (c8 10 * nI s + A 0 n).toNatClampNeg = A 7 (10 * s + kd) by rw [h0, ix10, nI_clamp (by omega)]) ?_
      exact zv_iret (bX7_keepsIt 1) rfl (Or.inr ⟨rfl, hB.2 _⟩) (Nat.zero_le _) (Nat.zero_le _) ⟨m, _, rfl, rfl, hB.2 _, fun _ => rfl⟩
theorem pw : ∀ k, k + 1 ≤ 4 → 10 ^ (k + 1 - 1) ≤ 1000 := by
  intro k h
  match k, h with
  | 0, _ => decide
  | 1, _ => decide
  | 2, _ => decide
  | 3, _ => decide
  | k + 4, h => exact absurd h (by omega)
theorem pwd : ∀ k, 1 ≤ k → k + 1 ≤ 4 → nI (10 ^ (k + 1 - 1)) / c8 10 = nI (10 ^ (k - 1)) := by
  intro k h1 h2
  match k, h1, h2 with
  | 1, _, _ => decide +kernel
  | 2, _, _ => decide +kernel
  | 3, _, _ => decide +kernel
  | k + 4, _, h => exact absurd h (by omega)
theorem pwm : ∀ k, 1 ≤ k → k ≤ 3 → nI (10 ^ (k - 1)) * c8 10 = nI (10 ^ (k + 1 - 1)) := by
  intro k h1 h2
  match k, h1, h2 with
  | 1, _, _ => decide +kernel
  | 2, _, _ => decide +kernel
  | 3, _, _ => decide +kernel
  | k + 4, _, h => exact absurd h (by omega)
set_option maxHeartbeats 1000000 in
set_option maxRecDepth 20000 in
theorem sayN2 (f : Nat → zC) (o : Nat → Int32) (A : Nat → Nat → Int32) (J : Nat → Nat → Int64) {s n z : Nat} (hn : n < 450) {v : Nat} (hv9 : v ≤ 9999) (ev : A 1 n = nI v) {c m : Int32} {n0 : Nat} {Q : Option Value → zW → Prop} : ∀ (k q : Nat) (g : Nat → Int32), k ≤ 4 → q + k ≤ 256 → nnW q g → ∀ {x5 x4 : Int32}, x5 = nI k → (1 ≤ k → x4 = nI (10 ^ (k - 1))) → (∀ g', nnW (q + k) g' → zV (zMo (z + 1 + 2) zX7_say) false n0 0 0 270 [(3, .int c), (0, .ref 76), (1, .int (nI s)), (2, .int (nI n))] [] (wZ f o A J (q + k) m g') Q) → zV (zMo (z + 1 + 2) zX7_say) false n0 0 0 121 [(5, .int x5), (4, .int x4), (3, .int c), (0, .ref 76), (1, .int (nI s)), (2, .int (nI n))] [] (wZ f o A J q m g) Q := by
  have e1 : (nI n).toNatClampNeg = n := nI_clamp (by omega)
  have hv : vp_in (nI n) 450 := vp_in_nI (by omega) (by decide)
  intro k
  induction k with
  | zero =>
    intro q g hk hq hg x5 x4 e5 e4 kk
    subst e5
    iterate 2 (refine zv_step (bX7_say (z + 1 + 2)) rfl rfl trivial ?_)
    refine zv_ift (show nI 0 ≤ 0 by decide) ?_
    iterate 1 (refine zv_step (bX7_say (z + 1 + 2)) rfl rfl trivial ?_)
    refine zv_locals (l := [(5, .int (nI 0)), (4, .int x4), (3, .int c), (0, .ref 76), (1, .int (nI s)), (2, .int (nI n))]) (l' := [(3, .int c), (0, .ref 76), (1, .int (nI s)), (2, .int (nI n))]) ?_ (kk g hg)
    simp
  | succ k ih =>
    intro q g hk hq hg x5 x4 e5 e4 kk
    subst e5
    iterate 2 (refine zv_step (bX7_say (z + 1 + 2)) rfl rfl trivial ?_)
    refine zv_iff (nI_nle (by omega) (by omega)) ?_
    iterate 5 (refine zv_step (bX7_say (z + 1 + 2)) rfl rfl trivial ?_)
    refine zv_iale (bX7_say (z + 1 + 2)) rfl rfl hv (show A 1 (nI n).toNatClampNeg = A 1 n by rw [e1]) ?_
    iterate 1 (refine zv_step (bX7_say (z + 1 + 2)) rfl rfl trivial ?_)
    refine zv_step (bX7_say (z + 1 + 2)) rfl rfl (by rw [e4 (by omega)]; exact nI_ne0 (Nat.pow_pos (by decide)) (by have := pw k hk; omega)) ?_
    iterate 1 (refine zv_step (bX7_say (z + 1 + 2)) rfl rfl trivial ?_)
    refine zv_step (bX7_say (z + 1 + 2)) rfl rfl (show ¬ c8 10 = 0 by decide) ?_
    iterate 1 (refine zv_step (bX7_say (z + 1 + 2)) rfl rfl trivial ?_)
    refine zv_V1 (bX7_say (z + 1 + 2)) rfl rfl rfl rfl rfl rfl rfl ⟨rfl, rfl, rfl⟩ ⟨by show 0 + 1 ≤ z + 1 + 2; omega, by show 8 + (2 + 11) + 64 * (0) ≤ 64 * (z + 1 + 2); omega⟩ ⟨Nat.zero_le _, Nat.zero_le _⟩ (mSays f (upd o 20 m) A J _ _ (by omega) _) ?_
    rintro _ _ ⟨rfl, rfl⟩
    iterate 2 (refine zv_step (bX7_say (z + 1 + 2)) rfl rfl trivial ?_)
    refine zv_step (bX7_say (z + 1 + 2)) rfl rfl (show ¬ c8 10 = 0 by decide) ?_
    iterate 3 (refine zv_step (bX7_say (z + 1 + 2)) rfl rfl trivial ?_)
    exact ih _ _ (by omega) (by omega) (nnW_s hg (by rw [e4 (by omega)]; exact dig_w ev hv9 (show k ≤ 3 by omega))) (nI_dec k) (fun h => by rw [e4 (by omega)]; exact pwd k h hk) (fun g' hg' => (by rw [show q + 1 + k = q + (k + 1) by omega] at hg' ⊢; exact kk g' hg'))
set_option maxHeartbeats 1000000 in
set_option maxRecDepth 20000 in
theorem sayN1 (f : Nat → zC) (o : Nat → Int32) (A : Nat → Nat → Int32) (J : Nat → Nat → Int64) {s n z : Nat} (hn : n < 450) {v : Nat} (hv9 : v ≤ 9999) (ev : A 1 n = nI v) {c m : Int32} {d : Nat} (hd : dgN (A 1 n) = d) (hd4 : d ≤ 4) {q : Nat} {g : Nat → Int32} (hq : q + d ≤ 256) (hg : nnW q g) {n0 : Nat} {Q : Option Value → zW → Prop} (kk : ∀ g', nnW (q + d) g' → zV (zMo (z + 1 + 2) zX7_say) false n0 0 0 270 [(3, .int c), (0, .ref 76), (1, .int (nI s)), (2, .int (nI n))] [] (wZ f o A J (q + d) m g') Q) : ∀ (j k : Nat), k + j = d → 1 ≤ k → ∀ {x5 x4 : Int32}, x5 = nI k → x4 = nI (10 ^ (k - 1)) → zV (zMo (z + 1 + 2) zX7_say) false n0 0 0 83 [(5, .int x5), (4, .int x4), (3, .int c), (0, .ref 76), (1, .int (nI s)), (2, .int (nI n))] [] (wZ f o A J q m g) Q := by
  have e1 : (nI n).toNatClampNeg = n := nI_clamp (by omega)
  have hv : vp_in (nI n) 450 := vp_in_nI (by omega) (by decide)
  intro j
  induction j with
  | zero =>
    intro k hj h1 x5 x4 e5 e4
    subst e5
    iterate 4 (refine zv_step (bX7_say (z + 1 + 2)) rfl rfl trivial ?_)
    refine zv_iale (bX7_say (z + 1 + 2)) rfl rfl hv (show A 1 (nI n).toNatClampNeg = A 1 n by rw [e1]) ?_
    refine zv_S1 (bX7_say (z + 1 + 2)) rfl rfl rfl rfl ⟨rfl, rfl, rfl⟩ ⟨by show 0 + 1 ≤ z + 1 + 2; omega, by show 8 + (1 + 11) + 64 * (0) ≤ 64 * (z + 1 + 2); omega⟩ ⟨Nat.zero_le _, Nat.zero_le _⟩ (mDigitsE _ hd) ?_
    rintro _ _ ⟨rfl, rfl⟩
    iterate 1 (refine zv_step (bX7_say (z + 1 + 2)) rfl rfl trivial ?_)
    refine zv_ift (nI_le (by omega) (by omega)) ?_
    iterate 3 (refine zv_step (bX7_say (z + 1 + 2)) rfl rfl trivial ?_)
    refine zv_iale (bX7_say (z + 1 + 2)) rfl rfl hv (show A 1 (nI n).toNatClampNeg = A 1 n by rw [e1]) ?_
    refine zv_S1 (bX7_say (z + 1 + 2)) rfl rfl rfl rfl ⟨rfl, rfl, rfl⟩ ⟨by show 0 + 1 ≤ z + 1 + 2; omega, by show 8 + (1 + 11) + 64 * (0) ≤ 64 * (z + 1 + 2); omega⟩ ⟨Nat.zero_le _, Nat.zero_le _⟩ (mDigitsE _ hd) ?_
    rintro _ _ ⟨rfl, rfl⟩
    iterate 1 (refine zv_step (bX7_say (z + 1 + 2)) rfl rfl trivial ?_)
    refine zv_locals (l := [(5, .int (nI d)), (4, .int x4), (3, .int c), (0, .ref 76), (1, .int (nI s)), (2, .int (nI n))]) (l' := [(5, .int (nI d)), (4, .int x4), (3, .int c), (0, .ref 76), (1, .int (nI s)), (2, .int (nI n))]) ?_ (sayN2 f o A J hn hv9 ev d q g hd4 hq hg rfl (fun _ => by rw [e4, show k = d by omega]) kk)
    simp
  | succ j ih =>
    intro k hj h1 x5 x4 e5 e4
    subst e5
    iterate 4 (refine zv_step (bX7_say (z + 1 + 2)) rfl rfl trivial ?_)
    refine zv_iale (bX7_say (z + 1 + 2)) rfl rfl hv (show A 1 (nI n).toNatClampNeg = A 1 n by rw [e1]) ?_
    refine zv_S1 (bX7_say (z + 1 + 2)) rfl rfl rfl rfl ⟨rfl, rfl, rfl⟩ ⟨by show 0 + 1 ≤ z + 1 + 2; omega, by show 8 + (1 + 11) + 64 * (0) ≤ 64 * (z + 1 + 2); omega⟩ ⟨Nat.zero_le _, Nat.zero_le _⟩ (mDigitsE _ hd) ?_
    rintro _ _ ⟨rfl, rfl⟩
    iterate 1 (refine zv_step (bX7_say (z + 1 + 2)) rfl rfl trivial ?_)
    refine zv_iff (fun h => absurd ((nI_leI (by omega) (by omega)).mp h) (by omega)) ?_
    iterate 6 (refine zv_step (bX7_say (z + 1 + 2)) rfl rfl trivial ?_)
    refine zv_locals (l := [(5, .int (nI k + Int32.ofInt 1)), (4, .int (x4 * c8 10)), (3, .int c), (0, .ref 76), (1, .int (nI s)), (2, .int (nI n))]) (l' := [(5, .int (nI k + Int32.ofInt 1)), (4, .int (x4 * c8 10)), (3, .int c), (0, .ref 76), (1, .int (nI s)), (2, .int (nI n))]) ?_ (ih (k + 1) (by omega) (by omega) (nI_1 k) (by rw [e4]; exact pwm k h1 (by omega)))
    simp
theorem ownW_2 {A : Nat → Nat → Int32} {n k : Nat} (h1 : 2 ≤ k) (h2 : k ≤ 6) (h0 : A 0 n = nI k) : ownW A n = 1 := by
  unfold ownW
  rw [h0, if_neg (fun e => by rw [show Int32.ofInt 1 = nI 1 from rfl, nI_eq (by omega) (by omega)] at e; omega), if_neg]
  rintro (e | e)
  · rw [show c8 8 = nI 8 from rfl, nI_eq (by omega) (by omega)] at e; omega
  · rw [show c8 9 = nI 9 from rfl, nI_eq (by omega) (by omega)] at e; omega
theorem ownW_c {A : Nat → Nat → Int32} {n : Nat} (k : Nat) (h0 : A 0 n = nI k) : (k = 0 → ownW A n = 1) ∧ (k = 1 → ownW A n = dgN (A 1 n)) ∧ (k = 7 → ownW A n = 1) ∧ (k = 8 → ownW A n = 2) ∧ (k = 9 → ownW A n = 2) := by
  unfold ownW
  rw [h0]
  refine ⟨?_, ?_, ?_, ?_, ?_⟩ <;> rintro rfl
  · rw [if_neg (by decide), if_neg (by decide)]
  · rw [if_pos (by decide)]
  · rw [if_neg (by decide), if_neg (by decide)]
  · rw [if_neg (by decide), if_pos (by decide)]
  · rw [if_neg (by decide), if_pos (by decide)]
set_option maxHeartbeats 1000000 in
set_option maxRecDepth 20000 in
theorem sayM2 (f : Nat → zC) (o : Nat → Int32) (A : Nat → Nat → Int32) (J : Nat → Nat → Int64) {lo hi : Nat} (hh : hi ≤ 450) {s n z : Nat} (hn : n < 450) {c : Int32} (ih : ∀ (x : Nat), lo ≤ x → x < hi → szN A x ≤ z → ∀ (q : Nat) (m : Int32) (g : Nat → Int32), q + 6 * szN A x ≤ 256 → nnW q g → zK (z + 2) zX7_say [.ref 76, .int (nI s), .int (nI x)] (wZ f o A J q m g) (fun r w' => r = none ∧ ∃ (q' : Nat) (m' : Int32) (g' : Nat → Int32), w' = wZ f o A J q' m' g' ∧ q ≤ q' ∧ q' ≤ q + 6 * szN A x ∧ nnW q' g' ∧ (o 19 < 0 → q' = q + lnW A s z (nI x)))) {n0 : Nat} {Q : Option Value → zW → Prop} {q : Nat} {m : Int32} {g : Nat → Int32} (hq : q + 6 * szN A n ≤ 256 + 2) (hg : nnW q g) (kk : ∀ (q' : Nat) (m' : Int32) (g' : Nat → Int32), nnW q' g' → q + 1 ≤ q' → q' + 2 ≤ q + 6 * szN A n → (o 19 < 0 → q' = q + ownW A n + lnW A s z (A 2 n) + lnW A s z (A 3 n)) → zV (zMo (z + 1 + 2) zX7_say) false n0 0 0 270 [(3, .int c), (0, .ref 76), (1, .int (nI s)), (2, .int (nI n))] [] (wZ f o A J q' m' g') Q) {k a b : Nat} (hk1 : 2 ≤ k) (hk2 : k ≤ 6) (h0 : A 0 n = nI k) (h2 : A 2 n = nI a) (la : lo ≤ a) (ha : a < n) (h3 : A 3 n = nI b) (lb : lo ≤ b) (hb : b < n) (hnh : n < hi) (hsz : szN A n ≤ z + 1) (es : szN A n = 1 + szN A a + szN A b) : zV (zMo (z + 1 + 2) zX7_say) false n0 0 0 17 [(3, .int c), (0, .ref 76), (1, .int (nI s)), (2, .int (nI n))] [] (wZ f o A J q m g) Q := by
  have e1 : (nI n).toNatClampNeg = n := nI_clamp (by omega)
  have hv : vp_in (nI n) 450 := vp_in_nI (by omega) (by decide)
  iterate 3 (refine zv_step (bX7_say (z + 1 + 2)) rfl rfl trivial ?_)
  refine zv_iale (bX7_say (z + 1 + 2)) rfl rfl hv (show A 0 (nI n).toNatClampNeg = nI k by rw [e1]; exact h0) ?_
  refine zv_S1 (bX7_say (z + 1 + 2)) rfl rfl rfl rfl ⟨rfl, rfl, rfl⟩ ⟨by show 0 + 1 ≤ z + 1 + 2; omega, by show 8 + (1 + 11) + 64 * (0) ≤ 64 * (z + 1 + 2); omega⟩ ⟨Nat.zero_le _, Nat.zero_le _⟩ (hX7_isTwo _ _) ?_
  rintro _ _ ⟨rfl, ⟨g1, rfl⟩ | ⟨g1, rfl⟩⟩
  · skip
    iterate 1 (refine zv_step (bX7_say (z + 1 + 2)) rfl rfl trivial ?_)
    refine zv_iff (by decide) ?_
    iterate 5 (refine zv_step (bX7_say (z + 1 + 2)) rfl rfl trivial ?_)
    refine zv_iale (bX7_say (z + 1 + 2)) rfl rfl hv (show A 2 (nI n).toNatClampNeg = nI a by rw [e1]; exact h2) ?_
    refine zv_V2 (bX7_say (z + 1 + 2)) rfl rfl rfl rfl rfl rfl rfl ⟨rfl, rfl, rfl⟩ ⟨by show z + 2 + 1 ≤ z + 1 + 2; omega, by show 8 + (6 + 11) + 64 * (z + 2) ≤ 64 * (z + 1 + 2); omega⟩ ⟨Nat.zero_le _, Nat.zero_le _⟩ (ih a (by omega) (by omega) (by omega) _ _ _ (by omega) (hg)) ?_
    rintro _ _ ⟨rfl, q1, m1, g1, rfl, l1, u1, w1, n1⟩
    iterate 5 (refine zv_step (bX7_say (z + 1 + 2)) rfl rfl trivial ?_)
    refine zv_iale (bX7_say (z + 1 + 2)) rfl rfl hv (show A 0 (nI n).toNatClampNeg = nI k by rw [e1]; exact h0) ?_
    iterate 1 (refine zv_step (bX7_say (z + 1 + 2)) rfl rfl trivial ?_)
    refine zv_V1 (bX7_say (z + 1 + 2)) rfl rfl rfl rfl rfl rfl rfl ⟨rfl, rfl, rfl⟩ ⟨by show 0 + 1 ≤ z + 1 + 2; omega, by show 8 + (2 + 11) + 64 * (0) ≤ 64 * (z + 1 + 2); omega⟩ ⟨Nat.zero_le _, Nat.zero_le _⟩ (mSays f (upd o 20 _) A J _ _ (by omega) _) ?_
    rintro _ _ ⟨rfl, rfl⟩
    iterate 5 (refine zv_step (bX7_say (z + 1 + 2)) rfl rfl trivial ?_)
    refine zv_iale (bX7_say (z + 1 + 2)) rfl rfl hv (show A 3 (nI n).toNatClampNeg = nI b by rw [e1]; exact h3) ?_
    refine zv_V2 (bX7_say (z + 1 + 2)) rfl rfl rfl rfl rfl rfl rfl ⟨rfl, rfl, rfl⟩ ⟨by show z + 2 + 1 ≤ z + 1 + 2; omega, by show 8 + (6 + 11) + 64 * (z + 2) ≤ 64 * (z + 1 + 2); omega⟩ ⟨Nat.zero_le _, Nat.zero_le _⟩ (ih b (by omega) (by omega) (by omega) _ _ _ (by omega) (nnW_s w1 ⟨18 + k, by omega, nI_add 18 k⟩)) ?_
    rintro _ _ ⟨rfl, q2, m2, g2, rfl, l2, u2, w2, n2⟩
    iterate 1 (refine zv_step (bX7_say (z + 1 + 2)) rfl rfl trivial ?_)
    exact kk _ _ _ w2 (by omega) (by omega) (fun hm => by have e := ownW_2 hk1 hk2 h0; have a1 := n1 hm; have a2 := n2 hm; rw [h2, h3, e]; omega)
  · skip
    iterate 1 (refine zv_step (bX7_say (z + 1 + 2)) rfl rfl trivial ?_)
    refine zv_ift (by decide) ?_
    exact absurd ⟨by rw [nI_toInt (by omega)]; omega, by rw [nI_toInt (by omega)]; omega⟩ g1
set_option maxHeartbeats 1000000 in
set_option maxRecDepth 20000 in
theorem sayM0 (f : Nat → zC) (o : Nat → Int32) (A : Nat → Nat → Int32) (J : Nat → Nat → Int64) {lo hi : Nat} (hh : hi ≤ 450) {s n z : Nat} (hn : n < 450) {c : Int32} (ih : ∀ (x : Nat), lo ≤ x → x < hi → szN A x ≤ z → ∀ (q : Nat) (m : Int32) (g : Nat → Int32), q + 6 * szN A x ≤ 256 → nnW q g → zK (z + 2) zX7_say [.ref 76, .int (nI s), .int (nI x)] (wZ f o A J q m g) (fun r w' => r = none ∧ ∃ (q' : Nat) (m' : Int32) (g' : Nat → Int32), w' = wZ f o A J q' m' g' ∧ q ≤ q' ∧ q' ≤ q + 6 * szN A x ∧ nnW q' g' ∧ (o 19 < 0 → q' = q + lnW A s z (nI x)))) {n0 : Nat} {Q : Option Value → zW → Prop} {q : Nat} {m : Int32} {g : Nat → Int32} (hq : q + 6 * szN A n ≤ 256 + 2) (hg : nnW q g) (kk : ∀ (q' : Nat) (m' : Int32) (g' : Nat → Int32), nnW q' g' → q + 1 ≤ q' → q' + 2 ≤ q + 6 * szN A n → (o 19 < 0 → q' = q + ownW A n + lnW A s z (A 2 n) + lnW A s z (A 3 n)) → zV (zMo (z + 1 + 2) zX7_say) false n0 0 0 270 [(3, .int c), (0, .ref 76), (1, .int (nI s)), (2, .int (nI n))] [] (wZ f o A J q' m' g') Q) (hval : ∃ e : Nat, e ≤ 31 ∧ A 1 n = nI e) (h0 : A 0 n = nI 0) (h2 : A 2 n = m2) (h3 : A 3 n = m2) (es : szN A n = 1) : zV (zMo (z + 1 + 2) zX7_say) false n0 0 0 17 [(3, .int c), (0, .ref 76), (1, .int (nI s)), (2, .int (nI n))] [] (wZ f o A J q m g) Q := by
  have e1 : (nI n).toNatClampNeg = n := nI_clamp (by omega)
  have hv : vp_in (nI n) 450 := vp_in_nI (by omega) (by decide)
  iterate 3 (refine zv_step (bX7_say (z + 1 + 2)) rfl rfl trivial ?_)
  refine zv_iale (bX7_say (z + 1 + 2)) rfl rfl hv (show A 0 (nI n).toNatClampNeg = nI 0 by rw [e1]; exact h0) ?_
  refine zv_S1 (bX7_say (z + 1 + 2)) rfl rfl rfl rfl ⟨rfl, rfl, rfl⟩ ⟨by show 0 + 1 ≤ z + 1 + 2; omega, by show 8 + (1 + 11) + 64 * (0) ≤ 64 * (z + 1 + 2); omega⟩ ⟨Nat.zero_le _, Nat.zero_le _⟩ (hX7_isTwo _ _) ?_
  rintro _ _ ⟨rfl, ⟨g1, rfl⟩ | ⟨g1, rfl⟩⟩
  · skip
    iterate 1 (refine zv_step (bX7_say (z + 1 + 2)) rfl rfl trivial ?_)
    refine zv_iff (by decide) ?_
    exact absurd g1 (by decide)
  · skip
    iterate 1 (refine zv_step (bX7_say (z + 1 + 2)) rfl rfl trivial ?_)
    refine zv_ift (by decide) ?_
    iterate 3 (refine zv_step (bX7_say (z + 1 + 2)) rfl rfl trivial ?_)
    refine zv_iale (bX7_say (z + 1 + 2)) rfl rfl hv (show A 0 (nI n).toNatClampNeg = nI 0 by rw [e1]; exact h0) ?_
    iterate 2 (refine zv_step (bX7_say (z + 1 + 2)) rfl rfl trivial ?_)
    refine zv_ift (by decide) ?_
    iterate 3 (refine zv_step (bX7_say (z + 1 + 2)) rfl rfl trivial ?_)
    refine zv_iale (bX7_say (z + 1 + 2)) rfl rfl hv (show A 0 (nI n).toNatClampNeg = nI 0 by rw [e1]; exact h0) ?_
    iterate 1 (refine zv_step (bX7_say (z + 1 + 2)) rfl rfl trivial ?_)
    refine zv_iff (by decide) ?_
    iterate 4 (refine zv_step (bX7_say (z + 1 + 2)) rfl rfl trivial ?_)
    refine zv_iale (bX7_say (z + 1 + 2)) rfl rfl hv (show A 1 (nI n).toNatClampNeg = A 1 n by rw [e1]) ?_
    refine zv_V1 (bX7_say (z + 1 + 2)) rfl rfl rfl rfl rfl rfl rfl ⟨rfl, rfl, rfl⟩ ⟨by show 0 + 1 ≤ z + 1 + 2; omega, by show 8 + (2 + 11) + 64 * (0) ≤ 64 * (z + 1 + 2); omega⟩ ⟨Nat.zero_le _, Nat.zero_le _⟩ (mSays f (upd o 20 _) A J _ _ (by omega) _) ?_
    rintro _ _ ⟨rfl, rfl⟩
    iterate 1 (refine zv_step (bX7_say (z + 1 + 2)) rfl rfl trivial ?_)
    exact kk _ _ _ (nnW_s hg hval) (by omega) (by omega) (fun _ => by rw [(ownW_c 0 h0).1 rfl, h2, h3, lnW_m2])
set_option maxHeartbeats 1000000 in
set_option maxRecDepth 20000 in
theorem sayM1 (f : Nat → zC) (o : Nat → Int32) (A : Nat → Nat → Int32) (J : Nat → Nat → Int64) {lo hi : Nat} (hh : hi ≤ 450) {s n z : Nat} (hn : n < 450) {c : Int32} (ih : ∀ (x : Nat), lo ≤ x → x < hi → szN A x ≤ z → ∀ (q : Nat) (m : Int32) (g : Nat → Int32), q + 6 * szN A x ≤ 256 → nnW q g → zK (z + 2) zX7_say [.ref 76, .int (nI s), .int (nI x)] (wZ f o A J q m g) (fun r w' => r = none ∧ ∃ (q' : Nat) (m' : Int32) (g' : Nat → Int32), w' = wZ f o A J q' m' g' ∧ q ≤ q' ∧ q' ≤ q + 6 * szN A x ∧ nnW q' g' ∧ (o 19 < 0 → q' = q + lnW A s z (nI x)))) {n0 : Nat} {Q : Option Value → zW → Prop} {q : Nat} {m : Int32} {g : Nat → Int32} (hq : q + 6 * szN A n ≤ 256 + 2) (hg : nnW q g) (kk : ∀ (q' : Nat) (m' : Int32) (g' : Nat → Int32), nnW q' g' → q + 1 ≤ q' → q' + 2 ≤ q + 6 * szN A n → (o 19 < 0 → q' = q + ownW A n + lnW A s z (A 2 n) + lnW A s z (A 3 n)) → zV (zMo (z + 1 + 2) zX7_say) false n0 0 0 270 [(3, .int c), (0, .ref 76), (1, .int (nI s)), (2, .int (nI n))] [] (wZ f o A J q' m' g') Q) {v : Nat} (hv9 : v ≤ 9999) (ev : A 1 n = nI v) (h0 : A 0 n = nI 1) (h2 : A 2 n = m2) (h3 : A 3 n = m2) (es : szN A n = 1) : zV (zMo (z + 1 + 2) zX7_say) false n0 0 0 17 [(3, .int c), (0, .ref 76), (1, .int (nI s)), (2, .int (nI n))] [] (wZ f o A J q m g) Q := by
  have e1 : (nI n).toNatClampNeg = n := nI_clamp (by omega)
  have hv : vp_in (nI n) 450 := vp_in_nI (by omega) (by decide)
  iterate 3 (refine zv_step (bX7_say (z + 1 + 2)) rfl rfl trivial ?_)
  refine zv_iale (bX7_say (z + 1 + 2)) rfl rfl hv (show A 0 (nI n).toNatClampNeg = nI 1 by rw [e1]; exact h0) ?_
  refine zv_S1 (bX7_say (z + 1 + 2)) rfl rfl rfl rfl ⟨rfl, rfl, rfl⟩ ⟨by show 0 + 1 ≤ z + 1 + 2; omega, by show 8 + (1 + 11) + 64 * (0) ≤ 64 * (z + 1 + 2); omega⟩ ⟨Nat.zero_le _, Nat.zero_le _⟩ (hX7_isTwo _ _) ?_
  rintro _ _ ⟨rfl, ⟨g1, rfl⟩ | ⟨g1, rfl⟩⟩
  · skip
    iterate 1 (refine zv_step (bX7_say (z + 1 + 2)) rfl rfl trivial ?_)
    refine zv_iff (by decide) ?_
    exact absurd g1 (by decide)
  · skip
    iterate 1 (refine zv_step (bX7_say (z + 1 + 2)) rfl rfl trivial ?_)
    refine zv_ift (by decide) ?_
    iterate 3 (refine zv_step (bX7_say (z + 1 + 2)) rfl rfl trivial ?_)
    refine zv_iale (bX7_say (z + 1 + 2)) rfl rfl hv (show A 0 (nI n).toNatClampNeg = nI 1 by rw [e1]; exact h0) ?_
    iterate 2 (refine zv_step (bX7_say (z + 1 + 2)) rfl rfl trivial ?_)
    refine zv_iff (by decide) ?_
    iterate 4 (refine zv_step (bX7_say (z + 1 + 2)) rfl rfl trivial ?_)
    refine zv_locals (l := [(5, .int (Int32.ofInt 1)), (4, .int (Int32.ofInt 1)), (3, .int c), (0, .ref 76), (1, .int (nI s)), (2, .int (nI n))]) (l' := [(5, .int (Int32.ofInt 1)), (4, .int (Int32.ofInt 1)), (3, .int c), (0, .ref 76), (1, .int (nI s)), (2, .int (nI n))]) ?_ (sayN1 f o A J hn hv9 ev rfl (dgN_le _).2 (by have := (dgN_le (A 1 n)).2; omega) hg (fun g' hg' => kk _ _ g' hg' (by have := (dgN_le (A 1 n)).1; omega) (by have := (dgN_le (A 1 n)).2; omega) (fun _ => by rw [(ownW_c 1 h0).2.1 rfl, h2, h3, lnW_m2] <;> omega)) (dgN (A 1 n) - 1) 1 (by have := (dgN_le (A 1 n)).1; omega) (Nat.le_refl _) rfl rfl)
    simp
set_option maxHeartbeats 1000000 in
set_option maxRecDepth 20000 in
theorem sayM7 (f : Nat → zC) (o : Nat → Int32) (A : Nat → Nat → Int32) (J : Nat → Nat → Int64) {lo hi : Nat} (hh : hi ≤ 450) {s n z : Nat} (hn : n < 450) {c : Int32} (ih : ∀ (x : Nat), lo ≤ x → x < hi → szN A x ≤ z → ∀ (q : Nat) (m : Int32) (g : Nat → Int32), q + 6 * szN A x ≤ 256 → nnW q g → zK (z + 2) zX7_say [.ref 76, .int (nI s), .int (nI x)] (wZ f o A J q m g) (fun r w' => r = none ∧ ∃ (q' : Nat) (m' : Int32) (g' : Nat → Int32), w' = wZ f o A J q' m' g' ∧ q ≤ q' ∧ q' ≤ q + 6 * szN A x ∧ nnW q' g' ∧ (o 19 < 0 → q' = q + lnW A s z (nI x)))) {n0 : Nat} {Q : Option Value → zW → Prop} {q : Nat} {m : Int32} {g : Nat → Int32} (hq : q + 6 * szN A n ≤ 256 + 2) (hg : nnW q g) (kk : ∀ (q' : Nat) (m' : Int32) (g' : Nat → Int32), nnW q' g' → q + 1 ≤ q' → q' + 2 ≤ q + 6 * szN A n → (o 19 < 0 → q' = q + ownW A n + lnW A s z (A 2 n) + lnW A s z (A 3 n)) → zV (zMo (z + 1 + 2) zX7_say) false n0 0 0 270 [(3, .int c), (0, .ref 76), (1, .int (nI s)), (2, .int (nI n))] [] (wZ f o A J q' m' g') Q) {a : Nat} (hval : 7 = 9 → ∃ e : Nat, e ≤ 31 ∧ A 1 n = nI e) (h0 : A 0 n = nI 7) (h2 : A 2 n = nI a) (la : lo ≤ a) (ha : a < n) (h3 : A 3 n = m2) (hnh : n < hi) (hsz : szN A n ≤ z + 1) (es : szN A n = 1 + szN A a) : zV (zMo (z + 1 + 2) zX7_say) false n0 0 0 17 [(3, .int c), (0, .ref 76), (1, .int (nI s)), (2, .int (nI n))] [] (wZ f o A J q m g) Q := by
  have e1 : (nI n).toNatClampNeg = n := nI_clamp (by omega)
  have hv : vp_in (nI n) 450 := vp_in_nI (by omega) (by decide)
  iterate 3 (refine zv_step (bX7_say (z + 1 + 2)) rfl rfl trivial ?_)
  refine zv_iale (bX7_say (z + 1 + 2)) rfl rfl hv (show A 0 (nI n).toNatClampNeg = nI 7 by rw [e1]; exact h0) ?_
  refine zv_S1 (bX7_say (z + 1 + 2)) rfl rfl rfl rfl ⟨rfl, rfl, rfl⟩ ⟨by show 0 + 1 ≤ z + 1 + 2; omega, by show 8 + (1 + 11) + 64 * (0) ≤ 64 * (z + 1 + 2); omega⟩ ⟨Nat.zero_le _, Nat.zero_le _⟩ (hX7_isTwo _ _) ?_
  rintro _ _ ⟨rfl, ⟨g1, rfl⟩ | ⟨g1, rfl⟩⟩
  · skip
    iterate 1 (refine zv_step (bX7_say (z + 1 + 2)) rfl rfl trivial ?_)
    refine zv_iff (by decide) ?_
    exact absurd g1 (by decide)
  · skip
    iterate 1 (refine zv_step (bX7_say (z + 1 + 2)) rfl rfl trivial ?_)
    refine zv_ift (by decide) ?_
    iterate 3 (refine zv_step (bX7_say (z + 1 + 2)) rfl rfl trivial ?_)
    refine zv_iale (bX7_say (z + 1 + 2)) rfl rfl hv (show A 0 (nI n).toNatClampNeg = nI 7 by rw [e1]; exact h0) ?_
    iterate 2 (refine zv_step (bX7_say (z + 1 + 2)) rfl rfl trivial ?_)
    refine zv_ift (by decide) ?_
    iterate 3 (refine zv_step (bX7_say (z + 1 + 2)) rfl rfl trivial ?_)
    refine zv_iale (bX7_say (z + 1 + 2)) rfl rfl hv (show A 0 (nI n).toNatClampNeg = nI 7 by rw [e1]; exact h0) ?_
    iterate 1 (refine zv_step (bX7_say (z + 1 + 2)) rfl rfl trivial ?_)
    refine zv_ift (by decide) ?_
    iterate 4 (refine zv_step (bX7_say (z + 1 + 2)) rfl rfl trivial ?_)
    refine zv_iale (bX7_say (z + 1 + 2)) rfl rfl hv (show A 0 (nI n).toNatClampNeg = nI 7 by rw [e1]; exact h0) ?_
    iterate 2 (refine zv_step (bX7_say (z + 1 + 2)) rfl rfl trivial ?_)
    refine zv_iff (by decide) ?_
    iterate 2 (refine zv_step (bX7_say (z + 1 + 2)) rfl rfl trivial ?_)
    refine zv_V1 (bX7_say (z + 1 + 2)) rfl rfl rfl rfl rfl rfl rfl ⟨rfl, rfl, rfl⟩ ⟨by show 0 + 1 ≤ z + 1 + 2; omega, by show 8 + (2 + 11) + 64 * (0) ≤ 64 * (z + 1 + 2); omega⟩ ⟨Nat.zero_le _, Nat.zero_le _⟩ (mSays f (upd o 20 _) A J _ _ (by omega) _) ?_
    rintro _ _ ⟨rfl, rfl⟩
    iterate 3 (refine zv_step (bX7_say (z + 1 + 2)) rfl rfl trivial ?_)
    refine zv_iale (bX7_say (z + 1 + 2)) rfl rfl hv (show A 0 (nI n).toNatClampNeg = nI 7 by rw [e1]; exact h0) ?_
    iterate 2 (refine zv_step (bX7_say (z + 1 + 2)) rfl rfl trivial ?_)
    refine zv_ift (by decide) ?_
    iterate 5 (refine zv_step (bX7_say (z + 1 + 2)) rfl rfl trivial ?_)
    refine zv_iale (bX7_say (z + 1 + 2)) rfl rfl hv (show A 2 (nI n).toNatClampNeg = nI a by rw [e1]; exact h2) ?_
    refine zv_V2 (bX7_say (z + 1 + 2)) rfl rfl rfl rfl rfl rfl rfl ⟨rfl, rfl, rfl⟩ ⟨by show z + 2 + 1 ≤ z + 1 + 2; omega, by show 8 + (6 + 11) + 64 * (z + 2) ≤ 64 * (z + 1 + 2); omega⟩ ⟨Nat.zero_le _, Nat.zero_le _⟩ (ih a (by omega) (by omega) (by omega) _ _ _ (by omega) (nnW_s hg ⟨25, by decide, rfl⟩)) ?_
    rintro _ _ ⟨rfl, q1, m1, g1, rfl, l1, u1, w1, n1⟩
    iterate 3 (refine zv_step (bX7_say (z + 1 + 2)) rfl rfl trivial ?_)
    refine zv_iale (bX7_say (z + 1 + 2)) rfl rfl hv (show A 0 (nI n).toNatClampNeg = nI 7 by rw [e1]; exact h0) ?_
    iterate 2 (refine zv_step (bX7_say (z + 1 + 2)) rfl rfl trivial ?_)
    refine zv_ift (by decide) ?_
    exact kk _ _ _ w1 (by omega) (by omega) (fun hm => by have e := (ownW_c 7 h0).2.2.1 rfl; have a1 := n1 hm; rw [h2, h3, lnW_m2, e]; omega)
set_option maxHeartbeats 1000000 in
set_option maxRecDepth 20000 in
theorem sayM8 (f : Nat → zC) (o : Nat → Int32) (A : Nat → Nat → Int32) (J : Nat → Nat → Int64) {lo hi : Nat} (hh : hi ≤ 450) {s n z : Nat} (hn : n < 450) {c : Int32} (ih : ∀ (x : Nat), lo ≤ x → x < hi → szN A x ≤ z → ∀ (q : Nat) (m : Int32) (g : Nat → Int32), q + 6 * szN A x ≤ 256 → nnW q g → zK (z + 2) zX7_say [.ref 76, .int (nI s), .int (nI x)] (wZ f o A J q m g) (fun r w' => r = none ∧ ∃ (q' : Nat) (m' : Int32) (g' : Nat → Int32), w' = wZ f o A J q' m' g' ∧ q ≤ q' ∧ q' ≤ q + 6 * szN A x ∧ nnW q' g' ∧ (o 19 < 0 → q' = q + lnW A s z (nI x)))) {n0 : Nat} {Q : Option Value → zW → Prop} {q : Nat} {m : Int32} {g : Nat → Int32} (hq : q + 6 * szN A n ≤ 256 + 2) (hg : nnW q g) (kk : ∀ (q' : Nat) (m' : Int32) (g' : Nat → Int32), nnW q' g' → q + 1 ≤ q' → q' + 2 ≤ q + 6 * szN A n → (o 19 < 0 → q' = q + ownW A n + lnW A s z (A 2 n) + lnW A s z (A 3 n)) → zV (zMo (z + 1 + 2) zX7_say) false n0 0 0 270 [(3, .int c), (0, .ref 76), (1, .int (nI s)), (2, .int (nI n))] [] (wZ f o A J q' m' g') Q) {a : Nat} (hval : 8 = 9 → ∃ e : Nat, e ≤ 31 ∧ A 1 n = nI e) (h0 : A 0 n = nI 8) (h2 : A 2 n = nI a) (la : lo ≤ a) (ha : a < n) (h3 : A 3 n = m2) (hnh : n < hi) (hsz : szN A n ≤ z + 1) (es : szN A n = 1 + szN A a) : zV (zMo (z + 1 + 2) zX7_say) false n0 0 0 17 [(3, .int c), (0, .ref 76), (1, .int (nI s)), (2, .int (nI n))] [] (wZ f o A J q m g) Q := by
  have e1 : (nI n).toNatClampNeg = n := nI_clamp (by omega)
  have hv : vp_in (nI n) 450 := vp_in_nI (by omega) (by decide)
  iterate 3 (refine zv_step (bX7_say (z + 1 + 2)) rfl rfl trivial ?_)
  refine zv_iale (bX7_say (z + 1 + 2)) rfl rfl hv (show A 0 (nI n).toNatClampNeg = nI 8 by rw [e1]; exact h0) ?_
  refine zv_S1 (bX7_say (z + 1 + 2)) rfl rfl rfl rfl ⟨rfl, rfl, rfl⟩ ⟨by show 0 + 1 ≤ z + 1 + 2; omega, by show 8 + (1 + 11) + 64 * (0) ≤ 64 * (z + 1 + 2); omega⟩ ⟨Nat.zero_le _, Nat.zero_le _⟩ (hX7_isTwo _ _) ?_
  rintro _ _ ⟨rfl, ⟨g1, rfl⟩ | ⟨g1, rfl⟩⟩
  · skip
    iterate 1 (refine zv_step (bX7_say (z + 1 + 2)) rfl rfl trivial ?_)
    refine zv_iff (by decide) ?_
    exact absurd g1 (by decide)
  · skip
    iterate 1 (refine zv_step (bX7_say (z + 1 + 2)) rfl rfl trivial ?_)
    refine zv_ift (by decide) ?_
    iterate 3 (refine zv_step (bX7_say (z + 1 + 2)) rfl rfl trivial ?_)
    refine zv_iale (bX7_say (z + 1 + 2)) rfl rfl hv (show A 0 (nI n).toNatClampNeg = nI 8 by rw [e1]; exact h0) ?_
    iterate 2 (refine zv_step (bX7_say (z + 1 + 2)) rfl rfl trivial ?_)
    refine zv_ift (by decide) ?_
    iterate 3 (refine zv_step (bX7_say (z + 1 + 2)) rfl rfl trivial ?_)
    refine zv_iale (bX7_say (z + 1 + 2)) rfl rfl hv (show A 0 (nI n).toNatClampNeg = nI 8 by rw [e1]; exact h0) ?_
    iterate 1 (refine zv_step (bX7_say (z + 1 + 2)) rfl rfl trivial ?_)
    refine zv_ift (by decide) ?_
    iterate 4 (refine zv_step (bX7_say (z + 1 + 2)) rfl rfl trivial ?_)
    refine zv_iale (bX7_say (z + 1 + 2)) rfl rfl hv (show A 0 (nI n).toNatClampNeg = nI 8 by rw [e1]; exact h0) ?_
    iterate 2 (refine zv_step (bX7_say (z + 1 + 2)) rfl rfl trivial ?_)
    refine zv_ift (by decide) ?_
    iterate 3 (refine zv_step (bX7_say (z + 1 + 2)) rfl rfl trivial ?_)
    refine zv_iale (bX7_say (z + 1 + 2)) rfl rfl hv (show A 0 (nI n).toNatClampNeg = nI 8 by rw [e1]; exact h0) ?_
    iterate 2 (refine zv_step (bX7_say (z + 1 + 2)) rfl rfl trivial ?_)
    refine zv_iff (by decide) ?_
    iterate 2 (refine zv_step (bX7_say (z + 1 + 2)) rfl rfl trivial ?_)
    refine zv_V1 (bX7_say (z + 1 + 2)) rfl rfl rfl rfl rfl rfl rfl ⟨rfl, rfl, rfl⟩ ⟨by show 0 + 1 ≤ z + 1 + 2; omega, by show 8 + (2 + 11) + 64 * (0) ≤ 64 * (z + 1 + 2); omega⟩ ⟨Nat.zero_le _, Nat.zero_le _⟩ (mSays f (upd o 20 _) A J _ _ (by omega) _) ?_
    rintro _ _ ⟨rfl, rfl⟩
    iterate 3 (refine zv_step (bX7_say (z + 1 + 2)) rfl rfl trivial ?_)
    refine zv_iale (bX7_say (z + 1 + 2)) rfl rfl hv (show A 0 (nI n).toNatClampNeg = nI 8 by rw [e1]; exact h0) ?_
    iterate 2 (refine zv_step (bX7_say (z + 1 + 2)) rfl rfl trivial ?_)
    refine zv_ift (by decide) ?_
    iterate 5 (refine zv_step (bX7_say (z + 1 + 2)) rfl rfl trivial ?_)
    refine zv_iale (bX7_say (z + 1 + 2)) rfl rfl hv (show A 2 (nI n).toNatClampNeg = nI a by rw [e1]; exact h2) ?_
    refine zv_V2 (bX7_say (z + 1 + 2)) rfl rfl rfl rfl rfl rfl rfl ⟨rfl, rfl, rfl⟩ ⟨by show z + 2 + 1 ≤ z + 1 + 2; omega, by show 8 + (6 + 11) + 64 * (z + 2) ≤ 64 * (z + 1 + 2); omega⟩ ⟨Nat.zero_le _, Nat.zero_le _⟩ (ih a (by omega) (by omega) (by omega) _ _ _ (by omega) (nnW_s hg ⟨26, by decide, rfl⟩)) ?_
    rintro _ _ ⟨rfl, q1, m1, g1, rfl, l1, u1, w1, n1⟩
    iterate 3 (refine zv_step (bX7_say (z + 1 + 2)) rfl rfl trivial ?_)
    refine zv_iale (bX7_say (z + 1 + 2)) rfl rfl hv (show A 0 (nI n).toNatClampNeg = nI 8 by rw [e1]; exact h0) ?_
    iterate 2 (refine zv_step (bX7_say (z + 1 + 2)) rfl rfl trivial ?_)
    refine zv_iff (by decide) ?_
    iterate 2 (refine zv_step (bX7_say (z + 1 + 2)) rfl rfl trivial ?_)
    refine zv_V1 (bX7_say (z + 1 + 2)) rfl rfl rfl rfl rfl rfl rfl ⟨rfl, rfl, rfl⟩ ⟨by show 0 + 1 ≤ z + 1 + 2; omega, by show 8 + (2 + 11) + 64 * (0) ≤ 64 * (z + 1 + 2); omega⟩ ⟨Nat.zero_le _, Nat.zero_le _⟩ (mSays f (upd o 20 _) A J _ _ (by omega) _) ?_
    rintro _ _ ⟨rfl, rfl⟩
    exact kk _ _ _ (nnW_s w1 ⟨27, by decide, rfl⟩) (by omega) (by omega) (fun hm => by have e := (ownW_c 8 h0).2.2.2.1 rfl; have a1 := n1 hm; rw [h2, h3, lnW_m2, e]; omega)
set_option maxHeartbeats 1000000 in
set_option maxRecDepth 20000 in
theorem sayM9 (f : Nat → zC) (o : Nat → Int32) (A : Nat → Nat → Int32) (J : Nat → Nat → Int64) {lo hi : Nat} (hh : hi ≤ 450) {s n z : Nat} (hn : n < 450) {c : Int32} (ih : ∀ (x : Nat), lo ≤ x → x < hi → szN A x ≤ z → ∀ (q : Nat) (m : Int32) (g : Nat → Int32), q + 6 * szN A x ≤ 256 → nnW q g → zK (z + 2) zX7_say [.ref 76, .int (nI s), .int (nI x)] (wZ f o A J q m g) (fun r w' => r = none ∧ ∃ (q' : Nat) (m' : Int32) (g' : Nat → Int32), w' = wZ f o A J q' m' g' ∧ q ≤ q' ∧ q' ≤ q + 6 * szN A x ∧ nnW q' g' ∧ (o 19 < 0 → q' = q + lnW A s z (nI x)))) {n0 : Nat} {Q : Option Value → zW → Prop} {q : Nat} {m : Int32} {g : Nat → Int32} (hq : q + 6 * szN A n ≤ 256 + 2) (hg : nnW q g) (kk : ∀ (q' : Nat) (m' : Int32) (g' : Nat → Int32), nnW q' g' → q + 1 ≤ q' → q' + 2 ≤ q + 6 * szN A n → (o 19 < 0 → q' = q + ownW A n + lnW A s z (A 2 n) + lnW A s z (A 3 n)) → zV (zMo (z + 1 + 2) zX7_say) false n0 0 0 270 [(3, .int c), (0, .ref 76), (1, .int (nI s)), (2, .int (nI n))] [] (wZ f o A J q' m' g') Q) {a : Nat} (hval : 9 = 9 → ∃ e : Nat, e ≤ 31 ∧ A 1 n = nI e) (h0 : A 0 n = nI 9) (h2 : A 2 n = nI a) (la : lo ≤ a) (ha : a < n) (h3 : A 3 n = m2) (hnh : n < hi) (hsz : szN A n ≤ z + 1) (es : szN A n = 1 + szN A a) : zV (zMo (z + 1 + 2) zX7_say) false n0 0 0 17 [(3, .int c), (0, .ref 76), (1, .int (nI s)), (2, .int (nI n))] [] (wZ f o A J q m g) Q := by
  have e1 : (nI n).toNatClampNeg = n := nI_clamp (by omega)
  have hv : vp_in (nI n) 450 := vp_in_nI (by omega) (by decide)
  iterate 3 (refine zv_step (bX7_say (z + 1 + 2)) rfl rfl trivial ?_)
  refine zv_iale (bX7_say (z + 1 + 2)) rfl rfl hv (show A 0 (nI n).toNatClampNeg = nI 9 by rw [e1]; exact h0) ?_
  refine zv_S1 (bX7_say (z + 1 + 2)) rfl rfl rfl rfl ⟨rfl, rfl, rfl⟩ ⟨by show 0 + 1 ≤ z + 1 + 2; omega, by show 8 + (1 + 11) + 64 * (0) ≤ 64 * (z + 1 + 2); omega⟩ ⟨Nat.zero_le _, Nat.zero_le _⟩ (hX7_isTwo _ _) ?_
  rintro _ _ ⟨rfl, ⟨g1, rfl⟩ | ⟨g1, rfl⟩⟩
  · skip
    iterate 1 (refine zv_step (bX7_say (z + 1 + 2)) rfl rfl trivial ?_)
    refine zv_iff (by decide) ?_
    exact absurd g1 (by decide)
  · skip
    iterate 1 (refine zv_step (bX7_say (z + 1 + 2)) rfl rfl trivial ?_)
    refine zv_ift (by decide) ?_
    iterate 3 (refine zv_step (bX7_say (z + 1 + 2)) rfl rfl trivial ?_)
    refine zv_iale (bX7_say (z + 1 + 2)) rfl rfl hv (show A 0 (nI n).toNatClampNeg = nI 9 by rw [e1]; exact h0) ?_
    iterate 2 (refine zv_step (bX7_say (z + 1 + 2)) rfl rfl trivial ?_)
    refine zv_ift (by decide) ?_
    iterate 3 (refine zv_step (bX7_say (z + 1 + 2)) rfl rfl trivial ?_)
    refine zv_iale (bX7_say (z + 1 + 2)) rfl rfl hv (show A 0 (nI n).toNatClampNeg = nI 9 by rw [e1]; exact h0) ?_
    iterate 1 (refine zv_step (bX7_say (z + 1 + 2)) rfl rfl trivial ?_)
    refine zv_ift (by decide) ?_
    iterate 4 (refine zv_step (bX7_say (z + 1 + 2)) rfl rfl trivial ?_)
    refine zv_iale (bX7_say (z + 1 + 2)) rfl rfl hv (show A 0 (nI n).toNatClampNeg = nI 9 by rw [e1]; exact h0) ?_
    iterate 2 (refine zv_step (bX7_say (z + 1 + 2)) rfl rfl trivial ?_)
    refine zv_ift (by decide) ?_
    iterate 3 (refine zv_step (bX7_say (z + 1 + 2)) rfl rfl trivial ?_)
    refine zv_iale (bX7_say (z + 1 + 2)) rfl rfl hv (show A 0 (nI n).toNatClampNeg = nI 9 by rw [e1]; exact h0) ?_
    iterate 2 (refine zv_step (bX7_say (z + 1 + 2)) rfl rfl trivial ?_)
    refine zv_ift (by decide) ?_
    iterate 3 (refine zv_step (bX7_say (z + 1 + 2)) rfl rfl trivial ?_)
    refine zv_iale (bX7_say (z + 1 + 2)) rfl rfl hv (show A 1 (nI n).toNatClampNeg = A 1 n by rw [e1]) ?_
    refine zv_V1 (bX7_say (z + 1 + 2)) rfl rfl rfl rfl rfl rfl rfl ⟨rfl, rfl, rfl⟩ ⟨by show 0 + 1 ≤ z + 1 + 2; omega, by show 8 + (2 + 11) + 64 * (0) ≤ 64 * (z + 1 + 2); omega⟩ ⟨Nat.zero_le _, Nat.zero_le _⟩ (mSays f (upd o 20 _) A J _ _ (by omega) _) ?_
    rintro _ _ ⟨rfl, rfl⟩
    iterate 3 (refine zv_step (bX7_say (z + 1 + 2)) rfl rfl trivial ?_)
    refine zv_iale (bX7_say (z + 1 + 2)) rfl rfl hv (show A 0 (nI n).toNatClampNeg = nI 9 by rw [e1]; exact h0) ?_
    iterate 2 (refine zv_step (bX7_say (z + 1 + 2)) rfl rfl trivial ?_)
    refine zv_iff (by decide) ?_
    iterate 2 (refine zv_step (bX7_say (z + 1 + 2)) rfl rfl trivial ?_)
    refine zv_V1 (bX7_say (z + 1 + 2)) rfl rfl rfl rfl rfl rfl rfl ⟨rfl, rfl, rfl⟩ ⟨by show 0 + 1 ≤ z + 1 + 2; omega, by show 8 + (2 + 11) + 64 * (0) ≤ 64 * (z + 1 + 2); omega⟩ ⟨Nat.zero_le _, Nat.zero_le _⟩ (mSays f (upd o 20 _) A J _ _ (by omega) _) ?_
    rintro _ _ ⟨rfl, rfl⟩
    iterate 5 (refine zv_step (bX7_say (z + 1 + 2)) rfl rfl trivial ?_)
    refine zv_iale (bX7_say (z + 1 + 2)) rfl rfl hv (show A 2 (nI n).toNatClampNeg = nI a by rw [e1]; exact h2) ?_
    refine zv_V2 (bX7_say (z + 1 + 2)) rfl rfl rfl rfl rfl rfl rfl ⟨rfl, rfl, rfl⟩ ⟨by show z + 2 + 1 ≤ z + 1 + 2; omega, by show 8 + (6 + 11) + 64 * (z + 2) ≤ 64 * (z + 1 + 2); omega⟩ ⟨Nat.zero_le _, Nat.zero_le _⟩ (ih a (by omega) (by omega) (by omega) _ _ _ (by omega) (nnW_s (nnW_s hg (hval rfl)) ⟨28, by decide, rfl⟩)) ?_
    rintro _ _ ⟨rfl, q1, m1, g1, rfl, l1, u1, w1, n1⟩
    iterate 3 (refine zv_step (bX7_say (z + 1 + 2)) rfl rfl trivial ?_)
    refine zv_iale (bX7_say (z + 1 + 2)) rfl rfl hv (show A 0 (nI n).toNatClampNeg = nI 9 by rw [e1]; exact h0) ?_
    iterate 2 (refine zv_step (bX7_say (z + 1 + 2)) rfl rfl trivial ?_)
    refine zv_ift (by decide) ?_
    exact kk _ _ _ w1 (by omega) (by omega) (fun hm => by have e := (ownW_c 9 h0).2.2.2.2 rfl; have a1 := n1 hm; rw [h2, h3, lnW_m2, e]; omega)
set_option maxHeartbeats 1000000 in
set_option maxRecDepth 20000 in
theorem mSay (f : Nat → zC) (o : Nat → Int32) (A : Nat → Nat → Int32) (J : Nat → Nat → Int64) {lo hi : Nat} (hh : hi ≤ 450) (hT : tbI lo hi A) (hB : blI A) {s : Nat} (hs : s < 8) : ∀ (z n : Nat), lo ≤ n → n < hi → szN A n ≤ z → ∀ (q : Nat) (m : Int32) (g : Nat → Int32), q + 6 * szN A n ≤ 256 → nnW q g → zK (z + 2) zX7_say [.ref 76, .int (nI s), .int (nI n)] (wZ f o A J q m g) (fun r w' => r = none ∧ ∃ (q' : Nat) (m' : Int32) (g' : Nat → Int32), w' = wZ f o A J q' m' g' ∧ q ≤ q' ∧ q' ≤ q + 6 * szN A n ∧ nnW q' g' ∧ (o 19 < 0 → q' = q + lnW A s z (nI n))) := by
  intro z
  induction z with
  | zero =>
    intro n hlo hn hz
    have := (rN_sz (hT n hlo hn)).1
    omega
  | succ z ih =>
    intro n hlo hn hz q m g hq hg
    obtain ⟨kd, hkd, h0⟩ := rN_kd (hT n hlo hn)
    have hs1 := (rN_sz (hT n hlo hn)).1
    refine zK_of qX7_say (by decide +kernel) rfl ?_
    iterate 3 (refine zv_step (bX7_say (z + 1 + 2)) rfl rfl trivial ?_)
    refine zv_V2 (bX7_say (z + 1 + 2)) rfl rfl rfl rfl rfl rfl rfl ⟨rfl, rfl, rfl⟩ ⟨by show 1 + 1 ≤ z + 1 + 2; omega, by show 8 + (3 + 11) + 64 * (1) ≤ 64 * (z + 1 + 2); omega⟩ ⟨Nat.zero_le _, Nat.zero_le _⟩ (mKeepsIt f o A J hB hs (by omega) hkd h0 q m g) ?_
    rintro _ _ ⟨m1, c, rfl, rfl, rfl | rfl, hc⟩
    · skip
      iterate 3 (refine zv_step (bX7_say (z + 1 + 2)) rfl rfl trivial ?_)
      refine zv_ift (rfl) ?_
      have K : ∀ (n1 q' : Nat) (m' : Int32) (g' : Nat → Int32), nnW q' g' → q + 1 ≤ q' → q' + 2 ≤ q + 6 * szN A n → (o 19 < 0 → q' = q + ownW A n + lnW A s z (A 2 n) + lnW A s z (A 3 n)) → zV (zMo (z + 1 + 2) zX7_say) false n1 0 0 270 [(3, .int 0), (0, .ref 76), (1, .int (nI s)), (2, .int (nI n))] [] (wZ f o A J q' m' g') (fun r w' => r = none ∧ ∃ (q' : Nat) (m' : Int32) (g' : Nat → Int32), w' = wZ f o A J q' m' g' ∧ q ≤ q' ∧ q' ≤ q + 6 * szN A n ∧ nnW q' g' ∧ (o 19 < 0 → q' = q + lnW A s (z + 1) (nI n))) := by
        intro n1 q' m' g' hg' l1 u1 nn
        iterate 2 (refine zv_step (bX7_say (z + 1 + 2)) rfl rfl trivial ?_)
        refine zv_ift (rfl) ?_
        exact zv_ret (bX7_say (z + 1 + 2)) rfl rfl (Nat.zero_le _) (Nat.zero_le _) ⟨rfl, _, _, _, rfl, by omega, by omega, hg', (fun hm => by have e := hc hm; have a := nn hm; rw [lnW_nI (by omega) hkd h0, ← e, if_pos rfl]; omega)⟩
      obtain ⟨k9, y9, h0', hk9, h4, hy, hs9, hv0, hv1, _⟩ := hT n hlo hn
      have es := szN_of h4 hy
      have kd9 : k9 = kd := (nI_eq (by omega) (by omega)).mp (h0'.symm.trans h0)
      subst kd9
      rcases hs9 with ⟨k1, h2, h3, e⟩ | ⟨k1, k2, a, b, h2, la, ha, h3, lb, hb, e⟩ | ⟨k1, a, h2, la, ha, h3, e⟩
      · rcases (show k9 = 0 ∨ k9 = 1 by omega) with rfl | rfl
        · exact sayM0 f o A J hh (by omega) ih (by omega) hg (K _) (by obtain ⟨v, hv, e⟩ := hv0 (Or.inl rfl); exact ⟨v, by omega, e⟩) h0 h2 h3 (by omega)
        · obtain ⟨v, hv9, ev⟩ := hv1 rfl
          exact sayM1 f o A J hh (by omega) ih (by omega) hg (K _) hv9 ev h0 h2 h3 (by omega)
      · exact sayM2 f o A J hh (by omega) ih (by omega) hg (K _) k1 k2 h0 h2 la ha h3 lb hb hn hz (by omega)
      · rcases (show k9 = 7 ∨ k9 = 8 ∨ k9 = 9 by omega) with rfl | rfl | rfl
        · exact sayM7 f o A J hh (by omega) ih (by omega) hg (K _) (fun h => absurd h (by decide)) h0 h2 la ha h3 hn hz (by omega)
        · exact sayM8 f o A J hh (by omega) ih (by omega) hg (K _) (fun h => absurd h (by decide)) h0 h2 la ha h3 hn hz (by omega)
        · exact sayM9 f o A J hh (by omega) ih (by omega) hg (K _) (fun _ => by obtain ⟨v, hv, e⟩ := hv0 (Or.inr rfl); exact ⟨v, by omega, e⟩) h0 h2 la ha h3 hn hz (by omega)
    · skip
      iterate 3 (refine zv_step (bX7_say (z + 1 + 2)) rfl rfl trivial ?_)
      refine zv_iff (by decide) ?_
      iterate 2 (refine zv_step (bX7_say (z + 1 + 2)) rfl rfl trivial ?_)
      refine zv_V1 (bX7_say (z + 1 + 2)) rfl rfl rfl rfl rfl rfl rfl ⟨rfl, rfl, rfl⟩ ⟨by show 0 + 1 ≤ z + 1 + 2; omega, by show 8 + (2 + 11) + 64 * (0) ≤ 64 * (z + 1 + 2); omega⟩ ⟨Nat.zero_le _, Nat.zero_le _⟩ (mSays f (upd o 20 _) A J _ _ (by omega) _) ?_
      rintro _ _ ⟨rfl, rfl⟩
      have K : ∀ (n1 q' : Nat) (m' : Int32) (g' : Nat → Int32), nnW q' g' → (q + 1) + 1 ≤ q' → q' + 2 ≤ (q + 1) + 6 * szN A n → (o 19 < 0 → q' = (q + 1) + ownW A n + lnW A s z (A 2 n) + lnW A s z (A 3 n)) → zV (zMo (z + 1 + 2) zX7_say) false n1 0 0 270 [(3, .int 1), (0, .ref 76), (1, .int (nI s)), (2, .int (nI n))] [] (wZ f o A J q' m' g') (fun r w' => r = none ∧ ∃ (q' : Nat) (m' : Int32) (g' : Nat → Int32), w' = wZ f o A J q' m' g' ∧ q ≤ q' ∧ q' ≤ q + 6 * szN A n ∧ nnW q' g' ∧ (o 19 < 0 → q' = q + lnW A s (z + 1) (nI n))) := by
        intro n1 q' m' g' hg' l1 u1 nn
        iterate 2 (refine zv_step (bX7_say (z + 1 + 2)) rfl rfl trivial ?_)
        refine zv_iff (by decide) ?_
        iterate 2 (refine zv_step (bX7_say (z + 1 + 2)) rfl rfl trivial ?_)
        refine zv_V1 (bX7_say (z + 1 + 2)) rfl rfl rfl rfl rfl rfl rfl ⟨rfl, rfl, rfl⟩ ⟨by show 0 + 1 ≤ z + 1 + 2; omega, by show 8 + (2 + 11) + 64 * (0) ≤ 64 * (z + 1 + 2); omega⟩ ⟨Nat.zero_le _, Nat.zero_le _⟩ (mSays f (upd o 20 _) A J _ _ (by omega) _) ?_
        rintro _ _ ⟨rfl, rfl⟩
        exact zv_ret (bX7_say (z + 1 + 2)) rfl rfl (Nat.zero_le _) (Nat.zero_le _) ⟨rfl, _, _, _, rfl, by omega, by omega, nnW_s hg' ⟨30, by decide, rfl⟩, (fun hm => by have e := hc hm; have a := nn hm; rw [lnW_nI (by omega) hkd h0, ← e, if_neg (by decide)]; omega)⟩
      obtain ⟨k9, y9, h0', hk9, h4, hy, hs9, hv0, hv1, _⟩ := hT n hlo hn
      have es := szN_of h4 hy
      have kd9 : k9 = kd := (nI_eq (by omega) (by omega)).mp (h0'.symm.trans h0)
      subst kd9
      rcases hs9 with ⟨k1, h2, h3, e⟩ | ⟨k1, k2, a, b, h2, la, ha, h3, lb, hb, e⟩ | ⟨k1, a, h2, la, ha, h3, e⟩
      · rcases (show k9 = 0 ∨ k9 = 1 by omega) with rfl | rfl
        · exact sayM0 f o A J hh (by omega) ih (by omega) (nnW_s hg ⟨29, by decide, rfl⟩) (K _) (by obtain ⟨v, hv, e⟩ := hv0 (Or.inl rfl); exact ⟨v, by omega, e⟩) h0 h2 h3 (by omega)
        · obtain ⟨v, hv9, ev⟩ := hv1 rfl
          exact sayM1 f o A J hh (by omega) ih (by omega) (nnW_s hg ⟨29, by decide, rfl⟩) (K _) hv9 ev h0 h2 h3 (by omega)
      · exact sayM2 f o A J hh (by omega) ih (by omega) (nnW_s hg ⟨29, by decide, rfl⟩) (K _) k1 k2 h0 h2 la ha h3 lb hb hn hz (by omega)
      · rcases (show k9 = 7 ∨ k9 = 8 ∨ k9 = 9 by omega) with rfl | rfl | rfl
        · exact sayM7 f o A J hh (by omega) ih (by omega) (nnW_s hg ⟨29, by decide, rfl⟩) (K _) (fun h => absurd h (by decide)) h0 h2 la ha h3 hn hz (by omega)
        · exact sayM8 f o A J hh (by omega) ih (by omega) (nnW_s hg ⟨29, by decide, rfl⟩) (K _) (fun h => absurd h (by decide)) h0 h2 la ha h3 hn hz (by omega)
        · exact sayM9 f o A J hh (by omega) ih (by omega) (nnW_s hg ⟨29, by decide, rfl⟩) (K _) (fun _ => by obtain ⟨v, hv, e⟩ := hv0 (Or.inr rfl); exact ⟨v, by omega, e⟩) h0 h2 la ha h3 hn hz (by omega)
set_option maxHeartbeats 1000000 in
set_option maxRecDepth 20000 in
theorem mSayAll (f : Nat → zC) (o : Nat → Int32) (A : Nat → Nat → Int32) (J : Nat → Nat → Int64) {lo hi : Nat} (hh : hi ≤ 450) (hT : tbI lo hi A) (hB : blI A) {s n : Nat} (hs : s < 8) (hlo : lo ≤ n) (hn : n < hi) : zK 43 zX7_sayAll [.ref 76, .int (nI s), .int (nI n)] (wR f o A J) (fun r w' => r = none ∧ ∃ (m' : Int32) (g' : Nat → Int32), w' = wZ f (upd o 19 (Int32.ofInt (-1))) A J (lnW A s 40 (nI n)) m' g' ∧ nnW (lnW A s 40 (nI n)) g') := by
  refine zK_of qX7_sayAll (by decide +kernel) rfl ?_
  iterate 6 (refine zv_step (bX7_sayAll 43) rfl rfl trivial ?_)
  refine zv_world (show _ = wZ f (upd o 19 (Int32.ofInt (-1))) A J 0 (o 20) (A 14) from rfl) ?_
  iterate 3 (refine zv_step (bX7_sayAll 43) rfl rfl trivial ?_)
  refine zv_V2 (bX7_sayAll 43) rfl rfl rfl rfl rfl rfl rfl ⟨rfl, rfl, rfl⟩ ⟨by decide, by decide⟩ ⟨Nat.zero_le _, Nat.zero_le _⟩ (mSay f (upd o 19 (Int32.ofInt (-1))) A J hh hT hB hs 40 n hlo hn (rN_sz (hT n hlo hn)).2.1 0 _ _ (by have := (rN_sz (hT n hlo hn)).2.1; omega) (fun i hi => absurd hi (by omega))) ?_
  rintro _ _ ⟨rfl, q1, m1, g1, rfl, l1, u1, w1, n1⟩
  have e9 : q1 = lnW A s 40 (nI n) := by have := n1 (show upd o 19 (Int32.ofInt (-1)) 19 < 0 by rw [upd_self]; decide); omega
  subst e9
  exact zv_ret (bX7_sayAll 43) rfl rfl (Nat.zero_le _) (Nat.zero_le _) ⟨rfl, _, _, rfl, w1⟩
end
section
theorem mIn (w : zW) (x : Int32) (l u : Int64) {a b : Int} (hl : l.toInt = a) (hu : u.toInt = b) : zK 0 zX7_in [.long x.toInt64, .long l, .long u] w (fun r w' => w' = w ∧ (((a ≤ x.toInt ∧ x.toInt ≤ b) ∧ r = some (.int 1)) ∨ (¬ (a ≤ x.toInt ∧ x.toInt ≤ b) ∧ r = some (.int 0)))) := by
  have h := hX7_in w x.toInt64 l u
  rw [Int32.toInt_toInt64, hl, hu] at h
  exact h
theorem in_nat {x : Int32} {b : Nat} (hb : b < 2 ^ 31) (h : (0 : Int) ≤ x.toInt ∧ x.toInt ≤ b) : ∃ n : Nat, n ≤ b ∧ x = nI n := by
  refine ⟨x.toInt.toNat, by omega, ?_⟩
  rw [← Int32.toInt_inj, nI_toInt (by omega)]
  omega
theorem pred_toInt {u : Nat} (h : u ≤ 450) : (nI u - Int32.ofInt 1).toInt = (u : Int) - 1 := by
  cases u with
  | zero => decide
  | succ u =>
    rw [show nI (u + 1) - Int32.ofInt 1 = nI u from nI_m1 u, nI_toInt (by omega)]
    omega
theorem mSetsE (f : Nat → zC) (o : Nat → Int32) (A : Nat → Nat → Int32) (J : Nat → Nat → Int64) {n : Nat} {x0 k v x y : Int32} (e : x0 = nI n) (hn : n < 450) (hx : 0 ≤ x → vp_in x 450) (hy : 0 ≤ y → vp_in y 450) : zK 0 zX7_sets [.ref 76, .int x0, .int k, .int v, .int x, .int y] (wR f o A J) (fun r w' => r = none ∧ w' = wR f o (setsA A n k v x y) J) := by
  subst e
  have h := mSets f o A J (n := nI n) (k := k) (v := v) (vp_in_nI hn (by decide)) hx hy
  rw [nI_clamp (by omega)] at h
  exact h
set_option maxHeartbeats 1000000 in
set_option maxRecDepth 20000 in
theorem mIsNode0 (f : Nat → zC) (o : Nat → Int32) (A : Nat → Nat → Int32) (J : Nat → Nat → Int64) (x : Int32) : zK 1 zX7_isNode [.ref 76, .int x] (wR f o A J) (fun r w' => w' = (wR f o A J) ∧ (((0 ≤ x.toInt ∧ x.toInt ≤ (o 0 - Int32.ofInt 1).toInt) ∧ r = some (.int 1)) ∨ (¬ (0 ≤ x.toInt ∧ x.toInt ≤ (o 0 - Int32.ofInt 1).toInt) ∧ r = some (.int 0)))) := by
  refine zK_of qX7_isNode (by decide +kernel) rfl ?_
  iterate 8 (refine zv_step (bX7_isNode 1) rfl rfl trivial ?_)
  refine zv_S3 (bX7_isNode 1) rfl rfl rfl rfl ⟨rfl, rfl, rfl⟩ ⟨by decide, by decide⟩ ⟨Nat.zero_le _, Nat.zero_le _⟩ (mIn _ _ _ _ (a := 0) (by decide) (Int32.toInt_toInt64 _)) ?_
  rintro _ _ ⟨rfl, ⟨g1, rfl⟩ | ⟨g1, rfl⟩⟩
  · skip
    exact zv_iret (bX7_isNode 1) rfl (Or.inr ⟨rfl, Or.inr rfl⟩) (Nat.zero_le _) (Nat.zero_le _) ⟨rfl, Or.inl ⟨g1, rfl⟩⟩
  · skip
    exact zv_iret (bX7_isNode 1) rfl (Or.inr ⟨rfl, Or.inl rfl⟩) (Nat.zero_le _) (Nat.zero_le _) ⟨rfl, Or.inr ⟨g1, rfl⟩⟩
theorem mIsNode (f : Nat → zC) (o : Nat → Int32) (A : Nat → Nat → Int32) (J : Nat → Nat → Int64) {u : Nat} (hu : u ≤ 120) (ho : o 0 = nI u) (x : Int32) : zK 1 zX7_isNode [.ref 76, .int x] (wR f o A J) (fun r w' => w' = (wR f o A J) ∧ (((0 ≤ x.toInt ∧ x.toInt ≤ (u : Int) - 1) ∧ r = some (.int 1)) ∨ (¬ (0 ≤ x.toInt ∧ x.toInt ≤ (u : Int) - 1) ∧ r = some (.int 0)))) := by
  have h := mIsNode0 f o A J x
  rw [ho, pred_toInt (by omega)] at h
  exact h
theorem nd_of {x : Int32} {u : Nat} (hu : u ≤ 450) (h : (0 : Int) ≤ x.toInt ∧ x.toInt ≤ (u : Int) - 1) : ∃ n : Nat, n < u ∧ x = nI n := by
  obtain ⟨n, hn, e⟩ := in_nat (b := u - 1) (by omega) ⟨h.1, by omega⟩
  subst e
  rw [nI_toInt (by omega)] at h
  exact ⟨n, by omega, rfl⟩
/-- NODES may have come -/
def ndX (u : Nat) (A : Nat → Nat → Int32) (u' : Nat) (A' : Nat → Nat → Int32) : Prop := u ≤ u' ∧ u' ≤ 120 ∧ tbI 0 u' A' ∧ (∀ r, 6 ≤ r → A' r = A r) ∧ (∀ r i, i < u → A' r i = A r i)
set_option maxHeartbeats 1000000 in
set_option maxRecDepth 20000 in
theorem mTwoY (w : zW) {k : Nat} (h1 : 2 ≤ k) (h2 : k ≤ 6) : zK 0 zX7_isTwo [.int (nI k)] w (fun r w' => w' = w ∧ r = some (.int 1)) := by
  refine zK_of qX7_isTwo (by decide +kernel) rfl ?_
  iterate 3 (refine zv_step (bX7_isTwo 0) rfl rfl trivial ?_)
  refine zv_iff (show ¬ nI k < nI 2 from nI_nlt h1 (by omega)) ?_
  iterate 3 (refine zv_step (bX7_isTwo 0) rfl rfl trivial ?_)
  refine zv_iff (show ¬ nI 6 < nI k from nI_nlt h2 (by omega)) ?_
  iterate 2 (refine zv_step (bX7_isTwo 0) rfl rfl trivial ?_)
  exact zv_iret (bX7_isTwo 0) rfl (Or.inr ⟨rfl, Or.inr rfl⟩) (Nat.zero_le _) (Nat.zero_le _) ⟨rfl, rfl⟩
set_option maxHeartbeats 1000000 in
set_option maxRecDepth 20000 in
theorem mTwoN (w : zW) {k : Nat} (h1 : 7 ≤ k) (h2 : k < 10) : zK 0 zX7_isTwo [.int (nI k)] w (fun r w' => w' = w ∧ r = some (.int 0)) := by
  refine zK_of qX7_isTwo (by decide +kernel) rfl ?_
  iterate 3 (refine zv_step (bX7_isTwo 0) rfl rfl trivial ?_)
  refine zv_iff (show ¬ nI k < nI 2 from nI_nlt (by omega) (by omega)) ?_
  iterate 3 (refine zv_step (bX7_isTwo 0) rfl rfl trivial ?_)
  refine zv_ift (show nI 6 < nI k from nI_lt (by omega) (by omega)) ?_
  iterate 1 (refine zv_step (bX7_isTwo 0) rfl rfl trivial ?_)
  exact zv_iret (bX7_isTwo 0) rfl (Or.inr ⟨rfl, Or.inl rfl⟩) (Nat.zero_le _) (Nat.zero_le _) ⟨rfl, rfl⟩
theorem nar_b {x : Int32} (h : x = 0 ∨ x = 1) : vp_nar .boolean x = x := by
  rcases h with rfl | rfl <;> decide
set_option maxHeartbeats 1000000 in
set_option maxRecDepth 20000 in
theorem mMeans (f : Nat → zC) (o : Nat → Int32) (A : Nat → Nat → Int32) (J : Nat → Nat → Int64) (x on : Int32) (hon : on = 0 ∨ on = 1) : zK 1 zX7_means [.ref 76, .int x, .int on] (wR f o A J) (fun r w' => (∃ v : Nat, v ≤ 9 ∧ x = nI v ∧ w' = wR f o (updA A 6 (upd (A 6) v on)) J ∧ ((A 6 v = on ∧ r = some (.int (Int32.ofInt 0))) ∨ (¬ A 6 v = on ∧ r = some (.int (Int32.ofInt 1))))) ∨ (¬ (0 ≤ x.toInt ∧ x.toInt ≤ 9) ∧ w' = (wR f o A J) ∧ r = some (.int (Int32.ofInt (-1))))) := by
  refine zK_of qX7_means (by decide +kernel) rfl ?_
  iterate 4 (refine zv_step (bX7_means 1) rfl rfl trivial ?_)
  refine zv_S3 (bX7_means 1) rfl rfl rfl rfl ⟨rfl, rfl, rfl⟩ ⟨by decide, by decide⟩ ⟨Nat.zero_le _, Nat.zero_le _⟩ (mIn _ _ _ _ (a := 0) (b := 9) (by decide) (by decide)) ?_
  rintro _ _ ⟨rfl, ⟨g1, rfl⟩ | ⟨g1, rfl⟩⟩
  · obtain ⟨v, hv, rfl⟩ := in_nat (x := x) (b := 9) (by decide) g1
    iterate 1 (refine zv_step (bX7_means 1) rfl rfl trivial ?_)
    refine zv_ift (by decide) ?_
    iterate 3 (refine zv_step (bX7_means 1) rfl rfl trivial ?_)
    refine zv_zale (bX7_means 1) rfl rfl (vp_in_nI (by omega) (by decide)) (show A 6 (nI v).toNatClampNeg = A 6 v by rw [nI_clamp (by omega)]) ?_
    iterate 2 (refine zv_step (bX7_means 1) rfl rfl trivial ?_)
    refine zv_ifb (fun h21 => ?_) (fun h21 => ?_)
    · iterate 6 (refine zv_step (bX7_means 1) rfl rfl trivial ?_)
      refine zv_step (bX7_means 1) rfl rfl (vp_in_nI (by omega) (by decide)) ?_
      iterate 1 (refine zv_step (bX7_means 1) rfl rfl trivial ?_)
      exact zv_iret (bX7_means 1) rfl (Or.inl rfl) (Nat.zero_le _) (Nat.zero_le _) (Or.inl ⟨v, hv, rfl, by show wR f o (updA A 6 (upd (A 6) (nI v).toNatClampNeg (vp_nar .boolean on))) J = _; rw [nI_clamp (by omega), nar_b hon], Or.inl ⟨h21, rfl⟩⟩)
    · iterate 7 (refine zv_step (bX7_means 1) rfl rfl trivial ?_)
      refine zv_step (bX7_means 1) rfl rfl (vp_in_nI (by omega) (by decide)) ?_
      iterate 1 (refine zv_step (bX7_means 1) rfl rfl trivial ?_)
      exact zv_iret (bX7_means 1) rfl (Or.inl rfl) (Nat.zero_le _) (Nat.zero_le _) (Or.inl ⟨v, hv, rfl, by show wR f o (updA A 6 (upd (A 6) (nI v).toNatClampNeg (vp_nar .boolean on))) J = _; rw [nI_clamp (by omega), nar_b hon], Or.inr ⟨h21, rfl⟩⟩)
  · skip
    iterate 1 (refine zv_step (bX7_means 1) rfl rfl trivial ?_)
    refine zv_iff (by decide) ?_
    iterate 1 (refine zv_step (bX7_means 1) rfl rfl trivial ?_)
    exact zv_iret (bX7_means 1) rfl (Or.inl rfl) (Nat.zero_le _) (Nat.zero_le _) (Or.inr ⟨g1, rfl, rfl⟩)
set_option maxHeartbeats 1000000 in
set_option maxRecDepth 20000 in
theorem mKeeps (f : Nat → zC) (o : Nat → Int32) (A : Nat → Nat → Int32) (J : Nat → Nat → Int64) (x y on : Int32) (hon : on = 0 ∨ on = 1) : zK 2 zX7_keeps [.ref 76, .int x, .int y, .int on] (wR f o A J) (fun r w' => (∃ s k : Nat, s < 8 ∧ (2 ≤ k ∧ k ≤ 9) ∧ k ≠ 8 ∧ x = nI s ∧ y = nI k ∧ w' = wR f o (updA A 7 (upd (A 7) (10 * s + k) on)) J ∧ ((A 7 (10 * s + k) = on ∧ r = some (.int (Int32.ofInt 0))) ∨ (¬ A 7 (10 * s + k) = on ∧ r = some (.int (Int32.ofInt 1))))) ∨ (¬ ((0 ≤ x.toInt ∧ x.toInt ≤ 7) ∧ (2 ≤ y.toInt ∧ y.toInt ≤ 9 ∧ y.toInt ≠ 8)) ∧ w' = (wR f o A J) ∧ r = some (.int (Int32.ofInt (-1))))) := by
  refine zK_of qX7_keeps (by decide +kernel) rfl ?_
  iterate 1 (refine zv_step (bX7_keeps 2) rfl rfl trivial ?_)
  refine zv_S1 (bX7_keeps 2) rfl rfl rfl rfl ⟨rfl, rfl, rfl⟩ ⟨by decide, by decide⟩ ⟨Nat.zero_le _, Nat.zero_le _⟩ (hX7_isStyle _ _) ?_
  rintro _ _ ⟨rfl, ⟨g1, rfl⟩ | ⟨g1, rfl⟩⟩
  · obtain ⟨s, hs, rfl⟩ := in_nat (x := x) (b := 7) (by decide) g1
    iterate 1 (refine zv_step (bX7_keeps 2) rfl rfl trivial ?_)
    refine zv_iff (by decide) ?_
    iterate 1 (refine zv_step (bX7_keeps 2) rfl rfl trivial ?_)
    refine zv_S1 (bX7_keeps 2) rfl rfl rfl rfl ⟨rfl, rfl, rfl⟩ ⟨by decide, by decide⟩ ⟨Nat.zero_le _, Nat.zero_le _⟩ (hX7_mayKeep _ _) ?_
    rintro _ _ ⟨rfl, ⟨g2, rfl⟩ | ⟨g2, rfl⟩⟩
    · obtain ⟨k, hk, rfl⟩ := in_nat (x := y) (b := 9) (by decide) ⟨by omega, by omega⟩
      rw [nI_toInt (by omega)] at g2
      iterate 1 (refine zv_step (bX7_keeps 2) rfl rfl trivial ?_)
      refine zv_ift (by decide) ?_
      iterate 7 (refine zv_step (bX7_keeps 2) rfl rfl trivial ?_)
      refine zv_zale (bX7_keeps 2) rfl rfl (show vp_in (c8 10 * nI s + nI k) 90 by rw [ix10]; exact vp_in_nI (by omega) (by decide)) (show A 7 (c8 10 * nI s + nI k).toNatClampNeg = A 7 (10 * s + k) by rw [ix10, nI_clamp (by omega)]) ?_
      iterate 2 (refine zv_step (bX7_keeps 2) rfl rfl trivial ?_)
      refine zv_ifb (fun h28 => ?_) (fun h28 => ?_)
      · iterate 10 (refine zv_step (bX7_keeps 2) rfl rfl trivial ?_)
        refine zv_step (bX7_keeps 2) rfl rfl (show vp_in (c8 10 * nI s + nI k) 90 by rw [ix10]; exact vp_in_nI (by omega) (by decide)) ?_
        iterate 1 (refine zv_step (bX7_keeps 2) rfl rfl trivial ?_)
        exact zv_iret (bX7_keeps 2) rfl (Or.inl rfl) (Nat.zero_le _) (Nat.zero_le _) (Or.inl ⟨s, k, by omega, by omega, by omega, rfl, rfl, by show wR f o (updA A 7 (upd (A 7) (c8 10 * nI s + nI k).toNatClampNeg (vp_nar .boolean on))) J = _; rw [ix10, nI_clamp (by omega), nar_b hon], Or.inl ⟨h28, rfl⟩⟩)
      · iterate 11 (refine zv_step (bX7_keeps 2) rfl rfl trivial ?_)
        refine zv_step (bX7_keeps 2) rfl rfl (show vp_in (c8 10 * nI s + nI k) 90 by rw [ix10]; exact vp_in_nI (by omega) (by decide)) ?_
        iterate 1 (refine zv_step (bX7_keeps 2) rfl rfl trivial ?_)
        exact zv_iret (bX7_keeps 2) rfl (Or.inl rfl) (Nat.zero_le _) (Nat.zero_le _) (Or.inl ⟨s, k, by omega, by omega, by omega, rfl, rfl, by show wR f o (updA A 7 (upd (A 7) (c8 10 * nI s + nI k).toNatClampNeg (vp_nar .boolean on))) J = _; rw [ix10, nI_clamp (by omega), nar_b hon], Or.inr ⟨h28, rfl⟩⟩)
    · skip
      iterate 1 (refine zv_step (bX7_keeps 2) rfl rfl trivial ?_)
      refine zv_iff (by decide) ?_
      iterate 1 (refine zv_step (bX7_keeps 2) rfl rfl trivial ?_)
      exact zv_iret (bX7_keeps 2) rfl (Or.inl rfl) (Nat.zero_le _) (Nat.zero_le _) (Or.inr ⟨fun q => g2 q.2, rfl, rfl⟩)
  · skip
    iterate 1 (refine zv_step (bX7_keeps 2) rfl rfl trivial ?_)
    refine zv_ift (by decide) ?_
    iterate 1 (refine zv_step (bX7_keeps 2) rfl rfl trivial ?_)
    exact zv_iret (bX7_keeps 2) rfl (Or.inl rfl) (Nat.zero_le _) (Nat.zero_le _) (Or.inr ⟨fun q => g1 q.1, rfl, rfl⟩)
set_option maxHeartbeats 1000000 in
set_option maxRecDepth 20000 in
theorem mLook (f : Nat → zC) (o : Nat → Int32) (A : Nat → Nat → Int32) (J : Nat → Nat → Int64) {u : Nat} (hu : u ≤ 120) (ho : o 0 = nI u) (hT : tbI 0 u A) (x y : Int32) : zK 42 zX7_look [.ref 76, .int x, .int y] (wR f o A J) (fun r w' => w' = (wR f o A J) ∧ ∃ v : Int32, r = some (.int v)) := by
  refine zK_of qX7_look (by decide +kernel) rfl ?_
  iterate 2 (refine zv_step (bX7_look 42) rfl rfl trivial ?_)
  refine zv_V1 (bX7_look 42) rfl rfl rfl rfl rfl rfl rfl ⟨rfl, rfl, rfl⟩ ⟨by decide, by decide⟩ ⟨Nat.zero_le _, Nat.zero_le _⟩ (mIsNode f o A J hu ho _) ?_
  rintro _ _ ⟨rfl, ⟨g1, rfl⟩ | ⟨g1, rfl⟩⟩
  · obtain ⟨n, hn, rfl⟩ := nd_of (by omega) g1
    iterate 1 (refine zv_step (bX7_look 42) rfl rfl trivial ?_)
    refine zv_iff (by decide) ?_
    iterate 4 (refine zv_step (bX7_look 42) rfl rfl trivial ?_)
    refine zv_S3 (bX7_look 42) rfl rfl rfl rfl ⟨rfl, rfl, rfl⟩ ⟨by decide, by decide⟩ ⟨Nat.zero_le _, Nat.zero_le _⟩ (mIn _ _ _ _ (a := 0) (b := 6) (by decide) (by decide)) ?_
    rintro _ _ ⟨rfl, ⟨g2, rfl⟩ | ⟨g2, rfl⟩⟩
    · skip
      iterate 1 (refine zv_step (bX7_look 42) rfl rfl trivial ?_)
      refine zv_ift (by decide) ?_
      have e1 : (nI n).toNatClampNeg = n := nI_clamp (by omega)
      have hv : vp_in (nI n) 450 := vp_in_nI (by omega) (by decide)
      obtain ⟨c, hc, rfl⟩ := in_nat (x := y) (b := 6) (by decide) g2
      refine zv_step (bX7_look 42) rfl rfl trivial ?_
      match c, hc with
      | 0, _ =>
        refine zv_step (bX7_look 42) rfl rfl (by decide) ?_
        iterate 3 (refine zv_step (bX7_look 42) rfl rfl trivial ?_)
        refine zv_iale (bX7_look 42) rfl rfl hv (show A 0 (nI n).toNatClampNeg = A 0 n by rw [e1]) ?_
        exact zv_iret (bX7_look 42) rfl (Or.inl rfl) (Nat.zero_le _) (Nat.zero_le _) ⟨rfl, _, rfl⟩
      | 1, _ =>
        refine zv_step (bX7_look 42) rfl rfl (by decide) ?_
        iterate 3 (refine zv_step (bX7_look 42) rfl rfl trivial ?_)
        refine zv_iale (bX7_look 42) rfl rfl hv (show A 1 (nI n).toNatClampNeg = A 1 n by rw [e1]) ?_
        exact zv_iret (bX7_look 42) rfl (Or.inl rfl) (Nat.zero_le _) (Nat.zero_le _) ⟨rfl, _, rfl⟩
      | 2, _ =>
        refine zv_step (bX7_look 42) rfl rfl (by decide) ?_
        iterate 3 (refine zv_step (bX7_look 42) rfl rfl trivial ?_)
        refine zv_iale (bX7_look 42) rfl rfl hv (show A 2 (nI n).toNatClampNeg = A 2 n by rw [e1]) ?_
        exact zv_iret (bX7_look 42) rfl (Or.inl rfl) (Nat.zero_le _) (Nat.zero_le _) ⟨rfl, _, rfl⟩
      | 3, _ =>
        refine zv_step (bX7_look 42) rfl rfl (by decide) ?_
        iterate 3 (refine zv_step (bX7_look 42) rfl rfl trivial ?_)
        refine zv_iale (bX7_look 42) rfl rfl hv (show A 3 (nI n).toNatClampNeg = A 3 n by rw [e1]) ?_
        exact zv_iret (bX7_look 42) rfl (Or.inl rfl) (Nat.zero_le _) (Nat.zero_le _) ⟨rfl, _, rfl⟩
      | 4, _ =>
        refine zv_step (bX7_look 42) rfl rfl (by decide) ?_
        iterate 3 (refine zv_step (bX7_look 42) rfl rfl trivial ?_)
        refine zv_iale (bX7_look 42) rfl rfl hv (show A 4 (nI n).toNatClampNeg = A 4 n by rw [e1]) ?_
        exact zv_iret (bX7_look 42) rfl (Or.inl rfl) (Nat.zero_le _) (Nat.zero_le _) ⟨rfl, _, rfl⟩
      | 5, _ =>
        refine zv_step (bX7_look 42) rfl rfl (by decide) ?_
        iterate 3 (refine zv_step (bX7_look 42) rfl rfl trivial ?_)
        refine zv_iale (bX7_look 42) rfl rfl hv (show A 5 (nI n).toNatClampNeg = A 5 n by rw [e1]) ?_
        exact zv_iret (bX7_look 42) rfl (Or.inl rfl) (Nat.zero_le _) (Nat.zero_le _) ⟨rfl, _, rfl⟩
      | 6, _ =>
        refine zv_step (bX7_look 42) rfl rfl (by decide) ?_
        iterate 2 (refine zv_step (bX7_look 42) rfl rfl trivial ?_)
        refine zv_V1 (bX7_look 42) rfl rfl rfl rfl rfl rfl rfl ⟨rfl, rfl, rfl⟩ ⟨by decide, by decide⟩ ⟨Nat.zero_le _, Nat.zero_le _⟩ (mRight f o A J (by omega) hT 40 _ (pt_of hT (Nat.zero_le _) hn)) ?_
        rintro _ _ ⟨rfl, rfl | rfl⟩
        · skip
          iterate 1 (refine zv_step (bX7_look 42) rfl rfl trivial ?_)
          refine zv_iff (by decide) ?_
          iterate 2 (refine zv_step (bX7_look 42) rfl rfl trivial ?_)
          exact zv_iret (bX7_look 42) rfl (Or.inl rfl) (Nat.zero_le _) (Nat.zero_le _) ⟨rfl, _, rfl⟩
        · skip
          iterate 1 (refine zv_step (bX7_look 42) rfl rfl trivial ?_)
          refine zv_ift (by decide) ?_
          iterate 1 (refine zv_step (bX7_look 42) rfl rfl trivial ?_)
          exact zv_iret (bX7_look 42) rfl (Or.inl rfl) (Nat.zero_le _) (Nat.zero_le _) ⟨rfl, _, rfl⟩
      | c + 7, h => exact absurd h (by omega)
    · skip
      iterate 1 (refine zv_step (bX7_look 42) rfl rfl trivial ?_)
      refine zv_iff (by decide) ?_
      iterate 1 (refine zv_step (bX7_look 42) rfl rfl trivial ?_)
      exact zv_iret (bX7_look 42) rfl (Or.inl rfl) (Nat.zero_le _) (Nat.zero_le _) ⟨rfl, _, rfl⟩
  · skip
    iterate 1 (refine zv_step (bX7_look 42) rfl rfl trivial ?_)
    refine zv_ift (by decide) ?_
    iterate 1 (refine zv_step (bX7_look 42) rfl rfl trivial ?_)
    exact zv_iret (bX7_look 42) rfl (Or.inl rfl) (Nat.zero_le _) (Nat.zero_le _) ⟨rfl, _, rfl⟩
set_option maxHeartbeats 1000000 in
set_option maxRecDepth 20000 in
theorem mAlikeP (f : Nat → zC) (o : Nat → Int32) (A : Nat → Nat → Int32) (J : Nat → Nat → Int64) {u : Nat} (hu : u ≤ 120) (ho : o 0 = nI u) (hT : tbI 0 u A) (x y : Int32) : zK 42 zX7_alike [.ref 76, .int x, .int y] (wR f o A J) (fun r w' => w' = (wR f o A J) ∧ ∃ v : Int32, r = some (.int v)) := by
  refine zK_of qX7_alike (by decide +kernel) rfl ?_
  iterate 2 (refine zv_step (bX7_alike 42) rfl rfl trivial ?_)
  refine zv_V1 (bX7_alike 42) rfl rfl rfl rfl rfl rfl rfl ⟨rfl, rfl, rfl⟩ ⟨by decide, by decide⟩ ⟨Nat.zero_le _, Nat.zero_le _⟩ (mIsNode f o A J hu ho _) ?_
  rintro _ _ ⟨rfl, ⟨g1, rfl⟩ | ⟨g1, rfl⟩⟩
  · obtain ⟨n, hn, rfl⟩ := nd_of (by omega) g1
    iterate 1 (refine zv_step (bX7_alike 42) rfl rfl trivial ?_)
    refine zv_iff (by decide) ?_
    iterate 2 (refine zv_step (bX7_alike 42) rfl rfl trivial ?_)
    refine zv_V1 (bX7_alike 42) rfl rfl rfl rfl rfl rfl rfl ⟨rfl, rfl, rfl⟩ ⟨by decide, by decide⟩ ⟨Nat.zero_le _, Nat.zero_le _⟩ (mIsNode f o A J hu ho _) ?_
    rintro _ _ ⟨rfl, ⟨g2, rfl⟩ | ⟨g2, rfl⟩⟩
    · obtain ⟨m, hm, rfl⟩ := nd_of (by omega) g2
      iterate 1 (refine zv_step (bX7_alike 42) rfl rfl trivial ?_)
      refine zv_ift (by decide) ?_
      iterate 3 (refine zv_step (bX7_alike 42) rfl rfl trivial ?_)
      refine zv_V2 (bX7_alike 42) rfl rfl rfl rfl rfl rfl rfl ⟨rfl, rfl, rfl⟩ ⟨by decide, by decide⟩ ⟨Nat.zero_le _, Nat.zero_le _⟩ (mAlike f o A J (by omega) hT 40 _ _ (pt_of hT (Nat.zero_le _) hn) (pt_of hT (Nat.zero_le _) hm)) ?_
      rintro _ _ ⟨rfl, ⟨g3, rfl⟩ | ⟨g3, rfl⟩⟩
      · skip
        iterate 1 (refine zv_step (bX7_alike 42) rfl rfl trivial ?_)
        refine zv_iff (by decide) ?_
        iterate 2 (refine zv_step (bX7_alike 42) rfl rfl trivial ?_)
        exact zv_iret (bX7_alike 42) rfl (Or.inl rfl) (Nat.zero_le _) (Nat.zero_le _) ⟨rfl, _, rfl⟩
      · skip
        iterate 1 (refine zv_step (bX7_alike 42) rfl rfl trivial ?_)
        refine zv_ift (by decide) ?_
        iterate 1 (refine zv_step (bX7_alike 42) rfl rfl trivial ?_)
        exact zv_iret (bX7_alike 42) rfl (Or.inl rfl) (Nat.zero_le _) (Nat.zero_le _) ⟨rfl, _, rfl⟩
    · skip
      iterate 1 (refine zv_step (bX7_alike 42) rfl rfl trivial ?_)
      refine zv_iff (by decide) ?_
      iterate 2 (refine zv_step (bX7_alike 42) rfl rfl trivial ?_)
      exact zv_iret (bX7_alike 42) rfl (Or.inl rfl) (Nat.zero_le _) (Nat.zero_le _) ⟨rfl, _, rfl⟩
  · skip
    iterate 1 (refine zv_step (bX7_alike 42) rfl rfl trivial ?_)
    refine zv_ift (by decide) ?_
    iterate 2 (refine zv_step (bX7_alike 42) rfl rfl trivial ?_)
    exact zv_iret (bX7_alike 42) rfl (Or.inl rfl) (Nat.zero_le _) (Nat.zero_le _) ⟨rfl, _, rfl⟩
set_option maxHeartbeats 1000000 in
set_option maxRecDepth 20000 in
theorem mTimes (f : Nat → zC) (o : Nat → Int32) (A : Nat → Nat → Int32) (J : Nat → Nat → Int64) {u : Nat} (hu : u ≤ 120) (ho : o 0 = nI u) (hT : tbI 0 u A) (x y : Int32) : zK 83 zX7_times [.ref 76, .int x, .int y] (wR f o A J) (fun r w' => w' = (wR f o A J) ∧ ∃ v : Int32, r = some (.int v)) := by
  refine zK_of qX7_times (by decide +kernel) rfl ?_
  iterate 2 (refine zv_step (bX7_times 83) rfl rfl trivial ?_)
  refine zv_V1 (bX7_times 83) rfl rfl rfl rfl rfl rfl rfl ⟨rfl, rfl, rfl⟩ ⟨by decide, by decide⟩ ⟨Nat.zero_le _, Nat.zero_le _⟩ (mIsNode f o A J hu ho _) ?_
  rintro _ _ ⟨rfl, ⟨g1, rfl⟩ | ⟨g1, rfl⟩⟩
  · obtain ⟨n, hn, rfl⟩ := nd_of (by omega) g1
    iterate 1 (refine zv_step (bX7_times 83) rfl rfl trivial ?_)
    refine zv_iff (by decide) ?_
    iterate 2 (refine zv_step (bX7_times 83) rfl rfl trivial ?_)
    refine zv_V1 (bX7_times 83) rfl rfl rfl rfl rfl rfl rfl ⟨rfl, rfl, rfl⟩ ⟨by decide, by decide⟩ ⟨Nat.zero_le _, Nat.zero_le _⟩ (mIsNode f o A J hu ho _) ?_
    rintro _ _ ⟨rfl, ⟨g2, rfl⟩ | ⟨g2, rfl⟩⟩
    · obtain ⟨m, hm, rfl⟩ := nd_of (by omega) g2
      iterate 1 (refine zv_step (bX7_times 83) rfl rfl trivial ?_)
      refine zv_iff (by decide) ?_
      iterate 3 (refine zv_step (bX7_times 83) rfl rfl trivial ?_)
      refine zv_V2 (bX7_times 83) rfl rfl rfl rfl rfl rfl rfl ⟨rfl, rfl, rfl⟩ ⟨by decide, by decide⟩ ⟨Nat.zero_le _, Nat.zero_le _⟩ (mHas f o A J (by omega) hT (pt_of hT (Nat.zero_le _) hm) 40 _ (pt_of hT (Nat.zero_le _) hn)) ?_
      rintro _ _ ⟨rfl, v, rfl⟩
      iterate 1 (refine zv_step (bX7_times 83) rfl rfl trivial ?_)
      exact zv_iret (bX7_times 83) rfl (Or.inl rfl) (Nat.zero_le _) (Nat.zero_le _) ⟨rfl, _, rfl⟩
    · skip
      iterate 1 (refine zv_step (bX7_times 83) rfl rfl trivial ?_)
      refine zv_ift (by decide) ?_
      iterate 1 (refine zv_step (bX7_times 83) rfl rfl trivial ?_)
      exact zv_iret (bX7_times 83) rfl (Or.inl rfl) (Nat.zero_le _) (Nat.zero_le _) ⟨rfl, _, rfl⟩
  · skip
    iterate 1 (refine zv_step (bX7_times 83) rfl rfl trivial ?_)
    refine zv_ift (by decide) ?_
    iterate 1 (refine zv_step (bX7_times 83) rfl rfl trivial ?_)
    exact zv_iret (bX7_times 83) rfl (Or.inl rfl) (Nat.zero_le _) (Nat.zero_le _) ⟨rfl, _, rfl⟩
end
section
set_option maxHeartbeats 1000000 in
set_option maxRecDepth 20000 in
theorem mWords (f : Nat → zC) (o : Nat → Int32) (A : Nat → Nat → Int32) (J : Nat → Nat → Int64) {u : Nat} (hu : u ≤ 120) (ho : o 0 = nI u) (hT : tbI 0 u A) (x y : Int32) : zK 43 zX7_words [.ref 76, .int x, .int y] (wR f o A J) (fun r w' => w' = (wR f o A J) ∧ ∃ v : Int32, r = some (.int v)) := by
  refine zK_of qX7_words (by decide +kernel) rfl ?_
  iterate 1 (refine zv_step (bX7_words 43) rfl rfl trivial ?_)
  refine zv_S1 (bX7_words 43) rfl rfl rfl rfl ⟨rfl, rfl, rfl⟩ ⟨by decide, by decide⟩ ⟨Nat.zero_le _, Nat.zero_le _⟩ (hX7_isStyle _ _) ?_
  rintro _ _ ⟨rfl, ⟨g1, rfl⟩ | ⟨g1, rfl⟩⟩
  · obtain ⟨s, hs, rfl⟩ := in_nat (x := x) (b := 7) (by decide) g1
    iterate 1 (refine zv_step (bX7_words 43) rfl rfl trivial ?_)
    refine zv_iff (by decide) ?_
    iterate 2 (refine zv_step (bX7_words 43) rfl rfl trivial ?_)
    refine zv_V1 (bX7_words 43) rfl rfl rfl rfl rfl rfl rfl ⟨rfl, rfl, rfl⟩ ⟨by decide, by decide⟩ ⟨Nat.zero_le _, Nat.zero_le _⟩ (mIsNode f o A J hu ho _) ?_
    rintro _ _ ⟨rfl, ⟨g2, rfl⟩ | ⟨g2, rfl⟩⟩
    · obtain ⟨n, hn, rfl⟩ := nd_of (by omega) g2
      iterate 1 (refine zv_step (bX7_words 43) rfl rfl trivial ?_)
      refine zv_ift (by decide) ?_
      iterate 3 (refine zv_step (bX7_words 43) rfl rfl trivial ?_)
      refine zv_V2 (bX7_words 43) rfl rfl rfl rfl rfl rfl rfl ⟨rfl, rfl, rfl⟩ ⟨by decide, by decide⟩ ⟨Nat.zero_le _, Nat.zero_le _⟩ (mLength f o A J (by omega) hT (by omega) 40 _ (pt_of hT (Nat.zero_le _) hn)) ?_
      rintro _ _ ⟨rfl, rfl⟩
      iterate 4 (refine zv_step (bX7_words 43) rfl rfl trivial ?_)
      refine zv_ifb (fun h27 => ?_) (fun h27 => ?_)
      · iterate 1 (refine zv_step (bX7_words 43) rfl rfl trivial ?_)
        exact zv_iret (bX7_words 43) rfl (Or.inl rfl) (Nat.zero_le _) (Nat.zero_le _) ⟨rfl, _, rfl⟩
      · iterate 2 (refine zv_step (bX7_words 43) rfl rfl trivial ?_)
        exact zv_iret (bX7_words 43) rfl (Or.inl rfl) (Nat.zero_le _) (Nat.zero_le _) ⟨rfl, _, rfl⟩
    · skip
      iterate 1 (refine zv_step (bX7_words 43) rfl rfl trivial ?_)
      refine zv_iff (by decide) ?_
      iterate 1 (refine zv_step (bX7_words 43) rfl rfl trivial ?_)
      exact zv_iret (bX7_words 43) rfl (Or.inl rfl) (Nat.zero_le _) (Nat.zero_le _) ⟨rfl, _, rfl⟩
  · skip
    iterate 1 (refine zv_step (bX7_words 43) rfl rfl trivial ?_)
    refine zv_ift (by decide) ?_
    iterate 1 (refine zv_step (bX7_words 43) rfl rfl trivial ?_)
    exact zv_iret (bX7_words 43) rfl (Or.inl rfl) (Nat.zero_le _) (Nat.zero_le _) ⟨rfl, _, rfl⟩
theorem tbI_u {lo hi : Nat} {A : Nat → Nat → Int32} (h : tbI lo hi A) {k : Nat} (hk : 5 ≤ k) (g : Nat → Int32) : tbI lo hi (updA A k g) := tbI_fr h (fun r hr i _ _ => by rw [updA_ne _ _ (by omega)])
/-- only what is said has changed -/
def qX (o : Nat → Int32) (A : Nat → Nat → Int32) (o' : Nat → Int32) (A' : Nat → Nat → Int32) : Prop := (∀ j, ¬ (18 ≤ j ∧ j ≤ 20) → o' j = o j) ∧ (∀ r, r ≠ 14 → r ≠ 15 → A' r = A r)
theorem qX_refl (o : Nat → Int32) (A : Nat → Nat → Int32) : qX o A o A := ⟨fun _ _ => rfl, fun _ _ _ => rfl⟩
theorem qX_trans {o o1 o2 : Nat → Int32} {A A1 A2 : Nat → Nat → Int32} (h : qX o A o1 A1) (k : qX o1 A1 o2 A2) : qX o A o2 A2 := ⟨fun j hj => (k.1 j hj).trans (h.1 j hj), fun r a b => (k.2 r a b).trans (h.2 r a b)⟩
theorem qX_say (o : Nat → Int32) (A : Nat → Nat → Int32) (a m q : Int32) (g : Nat → Int32) : qX o A (upd (upd (upd o 19 a) 20 m) 18 q) (updA A 14 g) := ⟨fun j hj => by rw [upd_ne _ _ (by omega), upd_ne _ _ (by omega), upd_ne _ _ (by omega)], fun r a b => updA_ne _ _ a⟩
theorem qX_15 (o : Nat → Int32) (A : Nat → Nat → Int32) (g : Nat → Int32) : qX o A o (updA A 15 g) := ⟨fun _ _ => rfl, fun r a b => updA_ne _ _ b⟩
theorem blI_q {A A' : Nat → Nat → Int32} {o o' : Nat → Int32} (h : blI A) (q : qX o A o' A') : blI A' := ⟨fun i => by rw [q.2 6 (by decide) (by decide)]; exact h.1 i, fun i => by rw [q.2 7 (by decide) (by decide)]; exact h.2 i⟩
theorem tbI_q {A A' : Nat → Nat → Int32} {o o' : Nat → Int32} {lo hi : Nat} (h : tbI lo hi A) (q : qX o A o' A') : tbI lo hi A' := tbI_fr h (fun r hr i _ _ => by rw [q.2 r (by omega) (by omega)])
set_option maxHeartbeats 1000000 in
set_option maxRecDepth 20000 in
theorem mWord (f : Nat → zC) (o : Nat → Int32) (A : Nat → Nat → Int32) (J : Nat → Nat → Int64) {u : Nat} (hu : u ≤ 120) (ho : o 0 = nI u) (hT : tbI 0 u A) (hB : blI A) (x y k : Int32) : zK 44 zX7_word [.ref 76, .int x, .int y, .int k] (wR f o A J) (fun r w' => ∃ (o' : Nat → Int32) (A' : Nat → Nat → Int32) (R : Int32), r = some (.int R) ∧ w' = wR f o' A' J ∧ qX o A o' A') := by
  refine zK_of qX7_word (by decide +kernel) rfl ?_
  iterate 1 (refine zv_step (bX7_word 44) rfl rfl trivial ?_)
  refine zv_S1 (bX7_word 44) rfl rfl rfl rfl ⟨rfl, rfl, rfl⟩ ⟨by decide, by decide⟩ ⟨Nat.zero_le _, Nat.zero_le _⟩ (hX7_isStyle _ _) ?_
  rintro _ _ ⟨rfl, ⟨g1, rfl⟩ | ⟨g1, rfl⟩⟩
  · obtain ⟨s, hs, rfl⟩ := in_nat (x := x) (b := 7) (by decide) g1
    iterate 1 (refine zv_step (bX7_word 44) rfl rfl trivial ?_)
    refine zv_iff (by decide) ?_
    iterate 2 (refine zv_step (bX7_word 44) rfl rfl trivial ?_)
    refine zv_V1 (bX7_word 44) rfl rfl rfl rfl rfl rfl rfl ⟨rfl, rfl, rfl⟩ ⟨by decide, by decide⟩ ⟨Nat.zero_le _, Nat.zero_le _⟩ (mIsNode f o A J hu ho _) ?_
    rintro _ _ ⟨rfl, ⟨g2, rfl⟩ | ⟨g2, rfl⟩⟩
    · obtain ⟨n, hn, rfl⟩ := nd_of (by omega) g2
      iterate 1 (refine zv_step (bX7_word 44) rfl rfl trivial ?_)
      refine zv_iff (by decide) ?_
      iterate 2 (refine zv_step (bX7_word 44) rfl rfl trivial ?_)
      refine zv_ifb (fun h16 => ?_) (fun h16 => ?_)
      · iterate 3 (refine zv_step (bX7_word 44) rfl rfl trivial ?_)
        refine zv_V2 (bX7_word 44) rfl rfl rfl rfl rfl rfl rfl ⟨rfl, rfl, rfl⟩ ⟨by decide, by decide⟩ ⟨Nat.zero_le _, Nat.zero_le _⟩ (mLength f o A J (by omega) hT (by omega) 40 _ (pt_of hT (Nat.zero_le _) hn)) ?_
        rintro _ _ ⟨rfl, rfl⟩
        iterate 4 (refine zv_step (bX7_word 44) rfl rfl trivial ?_)
        refine zv_ifb (fun h33 => ?_) (fun h33 => ?_)
        · iterate 3 (refine zv_step (bX7_word 44) rfl rfl trivial ?_)
          refine zv_ifb (fun h42 => ?_) (fun h42 => ?_)
          · iterate 3 (refine zv_step (bX7_word 44) rfl rfl trivial ?_)
            refine zv_V2 (bX7_word 44) rfl rfl rfl rfl rfl rfl rfl ⟨rfl, rfl, rfl⟩ ⟨by decide, by decide⟩ ⟨Nat.zero_le _, Nat.zero_le _⟩ (mSayAll f o A J (by omega) hT hB (by omega) (Nat.zero_le _) hn) ?_
            rintro _ _ ⟨rfl, m1, g9, rfl, w9⟩
            iterate 3 (refine zv_step (bX7_word 44) rfl rfl trivial ?_)
            refine zv_step (bX7_word 44) rfl rfl (vp_in_iff.mpr (by have hl := lnW_le (by omega) hT s 40 (nI n) (pt_of hT (Nat.zero_le _) hn); have hz := (rN_sz (hT n (Nat.zero_le _) hn)).2.1; rw [if_neg (nI_pos (by omega)), nI_clamp (by omega)] at hl; have a1 : (0 : Int32) ≤ k := h16; have a2 : k < nI (lnW A s 40 (nI n)) := h42; rw [Int32.le_iff_toInt_le, Int32.toInt_zero] at a1; rw [Int32.lt_iff_toInt_lt, nI_toInt (by omega)] at a2; omega)) ?_
            exact zv_iret (bX7_word 44) rfl (Or.inl rfl) (Nat.zero_le _) (Nat.zero_le _) ⟨_, _, _, rfl, rfl, qX_say o A _ _ _ _⟩
          · iterate 1 (refine zv_step (bX7_word 44) rfl rfl trivial ?_)
            exact zv_iret (bX7_word 44) rfl (Or.inl rfl) (Nat.zero_le _) (Nat.zero_le _) ⟨o, A, _, rfl, rfl, qX_refl o A⟩
        · iterate 1 (refine zv_step (bX7_word 44) rfl rfl trivial ?_)
          exact zv_iret (bX7_word 44) rfl (Or.inl rfl) (Nat.zero_le _) (Nat.zero_le _) ⟨o, A, _, rfl, rfl, qX_refl o A⟩
      · iterate 1 (refine zv_step (bX7_word 44) rfl rfl trivial ?_)
        exact zv_iret (bX7_word 44) rfl (Or.inl rfl) (Nat.zero_le _) (Nat.zero_le _) ⟨o, A, _, rfl, rfl, qX_refl o A⟩
    · skip
      iterate 1 (refine zv_step (bX7_word 44) rfl rfl trivial ?_)
      refine zv_ift (by decide) ?_
      iterate 1 (refine zv_step (bX7_word 44) rfl rfl trivial ?_)
      exact zv_iret (bX7_word 44) rfl (Or.inl rfl) (Nat.zero_le _) (Nat.zero_le _) ⟨o, A, _, rfl, rfl, qX_refl o A⟩
  · skip
    iterate 1 (refine zv_step (bX7_word 44) rfl rfl trivial ?_)
    refine zv_ift (by decide) ?_
    iterate 1 (refine zv_step (bX7_word 44) rfl rfl trivial ?_)
    exact zv_iret (bX7_word 44) rfl (Or.inl rfl) (Nat.zero_le _) (Nat.zero_le _) ⟨o, A, _, rfl, rfl, qX_refl o A⟩
set_option maxHeartbeats 1000000 in
set_option maxRecDepth 20000 in
theorem sound1 (f : Nat → zC) (o : Nat → Int32) (A : Nat → Nat → Int32) (J : Nat → Nat → Int64) {n m : Nat} (hn : n ≤ 80) {x y z : Int32} {n0 : Nat} {Q : Option Value → zW → Prop} (kk : ∀ g, zV (zMo 44 zX7_sound) false n0 0 0 94 [(6, .int (nI n)), (5, .int (nI m)), (4, .int (nI n)), (0, .ref 76), (1, .int x), (2, .int y), (3, .int z)] [] (wR f o (updA A 15 g) J) Q) : ∀ (c k : Nat) (g : Nat → Int32), k + c = n → ∀ {x6 : Int32}, x6 = nI k → zV (zMo 44 zX7_sound) false n0 0 0 67 [(6, .int x6), (5, .int (nI m)), (4, .int (nI n)), (0, .ref 76), (1, .int x), (2, .int y), (3, .int z)] [] (wR f o (updA A 15 g) J) Q := by
  intro c
  induction c with
  | zero =>
    intro k g hc x6 e6
    subst e6
    obtain rfl : k = n := by omega
    iterate 3 (refine zv_step (bX7_sound 44) rfl rfl trivial ?_)
    refine zv_ift (nI_le (by omega) (by omega)) ?_
    exact kk g
  | succ c ih =>
    intro k g hc x6 e6
    subst e6
    iterate 3 (refine zv_step (bX7_sound 44) rfl rfl trivial ?_)
    refine zv_iff (fun h => absurd ((nI_leI (by omega) (by omega)).mp h) (by omega)) ?_
    iterate 6 (refine zv_step (bX7_sound 44) rfl rfl trivial ?_)
    refine zv_iale (bX7_sound 44) rfl rfl (vp_in_nI (by omega) (by decide)) (show A 14 (nI k).toNatClampNeg = A 14 k by rw [nI_clamp (by omega)]) ?_
    refine zv_step (bX7_sound 44) rfl rfl (vp_in_nI (by omega) (by decide)) ?_
    iterate 2 (refine zv_step (bX7_sound 44) rfl rfl trivial ?_)
    refine zv_world (show _ = wR f o (updA A 15 (upd g k (A 14 k))) J from by rw [show upd g k (A 14 k) = upd g (nI k).toNatClampNeg (A 14 k) by rw [nI_clamp (by omega)]]; rfl) ?_
    exact ih (k + 1) _ (by omega) (nI_1 k)
set_option maxHeartbeats 1000000 in
set_option maxRecDepth 20000 in
theorem sound2 (f : Nat → zC) (o : Nat → Int32) (A : Nat → Nat → Int32) (J : Nat → Nat → Int64) {n m : Nat} (hn : n ≤ 80) {x y z : Int32} {n0 : Nat} {Q : Option Value → zW → Prop} (hQ : ∀ v : Int32, Q (some (.int v)) (wR f o A J)) : ∀ (c k : Nat), k + c = n → ∀ {x7 b : Int32}, x7 = nI k → zV (zMo 44 zX7_sound) false n0 0 0 117 [(7, .int x7), (6, .int b), (5, .int (nI m)), (4, .int (nI n)), (0, .ref 76), (1, .int x), (2, .int y), (3, .int z)] [] (wR f o A J) Q := by
  intro c
  induction c with
  | zero =>
    intro k hc x7 b e7
    subst e7
    obtain rfl : k = n := by omega
    iterate 3 (refine zv_step (bX7_sound 44) rfl rfl trivial ?_)
    refine zv_ift (nI_le (by omega) (by omega)) ?_
    iterate 2 (refine zv_step (bX7_sound 44) rfl rfl trivial ?_)
    refine zv_ifb (fun h161 => ?_) (fun h161 => ?_)
    · iterate 1 (refine zv_step (bX7_sound 44) rfl rfl trivial ?_)
      exact zv_iret (bX7_sound 44) rfl (Or.inl rfl) (Nat.zero_le _) (Nat.zero_le _) (hQ _)
    · iterate 2 (refine zv_step (bX7_sound 44) rfl rfl trivial ?_)
      exact zv_iret (bX7_sound 44) rfl (Or.inl rfl) (Nat.zero_le _) (Nat.zero_le _) (hQ _)
  | succ c ih =>
    intro k hc x7 b e7
    subst e7
    iterate 3 (refine zv_step (bX7_sound 44) rfl rfl trivial ?_)
    refine zv_iff (fun h => absurd ((nI_leI (by omega) (by omega)).mp h) (by omega)) ?_
    iterate 2 (refine zv_step (bX7_sound 44) rfl rfl trivial ?_)
    refine zv_ifb (fun h126 => ?_) (fun h126 => ?_)
    · iterate 2 (refine zv_step (bX7_sound 44) rfl rfl trivial ?_)
      refine zv_ifb (fun h161 => ?_) (fun h161 => ?_)
      · iterate 1 (refine zv_step (bX7_sound 44) rfl rfl trivial ?_)
        exact zv_iret (bX7_sound 44) rfl (Or.inl rfl) (Nat.zero_le _) (Nat.zero_le _) (hQ _)
      · iterate 2 (refine zv_step (bX7_sound 44) rfl rfl trivial ?_)
        exact zv_iret (bX7_sound 44) rfl (Or.inl rfl) (Nat.zero_le _) (Nat.zero_le _) (hQ _)
    · iterate 3 (refine zv_step (bX7_sound 44) rfl rfl trivial ?_)
      refine zv_iale (bX7_sound 44) rfl rfl (vp_in_nI (by omega) (by decide)) (show A 15 (nI k).toNatClampNeg = A 15 k by rw [nI_clamp (by omega)]) ?_
      iterate 3 (refine zv_step (bX7_sound 44) rfl rfl trivial ?_)
      refine zv_iale (bX7_sound 44) rfl rfl (vp_in_nI (by omega) (by decide)) (show A 14 (nI k).toNatClampNeg = A 14 k by rw [nI_clamp (by omega)]) ?_
      iterate 1 (refine zv_step (bX7_sound 44) rfl rfl trivial ?_)
      refine zv_ifb (fun h143 => ?_) (fun h143 => ?_)
      · iterate 4 (refine zv_step (bX7_sound 44) rfl rfl trivial ?_)
        refine zv_locals (l := [(7, .int (nI k + Int32.ofInt 1)), (6, .int (Int32.ofInt 0)), (5, .int (nI m)), (4, .int (nI n)), (0, .ref 76), (1, .int x), (2, .int y), (3, .int z)]) (l' := [(7, .int (nI k + Int32.ofInt 1)), (6, .int (Int32.ofInt 0)), (5, .int (nI m)), (4, .int (nI n)), (0, .ref 76), (1, .int x), (2, .int y), (3, .int z)]) ?_ (ih (k + 1) (by omega) (nI_1 k))
        simp
      · iterate 5 (refine zv_step (bX7_sound 44) rfl rfl trivial ?_)
        refine zv_locals (l := [(7, .int (nI k + Int32.ofInt 1)), (6, .int (Int32.ofInt 1)), (5, .int (nI m)), (4, .int (nI n)), (0, .ref 76), (1, .int x), (2, .int y), (3, .int z)]) (l' := [(7, .int (nI k + Int32.ofInt 1)), (6, .int (Int32.ofInt 1)), (5, .int (nI m)), (4, .int (nI n)), (0, .ref 76), (1, .int x), (2, .int y), (3, .int z)]) ?_ (ih (k + 1) (by omega) (nI_1 k))
        simp
set_option maxHeartbeats 1000000 in
set_option maxRecDepth 20000 in
theorem mSound (f : Nat → zC) (o : Nat → Int32) (A : Nat → Nat → Int32) (J : Nat → Nat → Int64) {u : Nat} (hu : u ≤ 120) (ho : o 0 = nI u) (hT : tbI 0 u A) (hB : blI A) (x y z : Int32) : zK 44 zX7_sound [.ref 76, .int x, .int y, .int z] (wR f o A J) (fun r w' => ∃ (o' : Nat → Int32) (A' : Nat → Nat → Int32) (R : Int32), r = some (.int R) ∧ w' = wR f o' A' J ∧ qX o A o' A') := by
  refine zK_of qX7_sound (by decide +kernel) rfl ?_
  iterate 1 (refine zv_step (bX7_sound 44) rfl rfl trivial ?_)
  refine zv_S1 (bX7_sound 44) rfl rfl rfl rfl ⟨rfl, rfl, rfl⟩ ⟨by decide, by decide⟩ ⟨Nat.zero_le _, Nat.zero_le _⟩ (hX7_isStyle _ _) ?_
  rintro _ _ ⟨rfl, ⟨g1, rfl⟩ | ⟨g1, rfl⟩⟩
  · obtain ⟨s, hs, rfl⟩ := in_nat (x := x) (b := 7) (by decide) g1
    iterate 1 (refine zv_step (bX7_sound 44) rfl rfl trivial ?_)
    refine zv_iff (by decide) ?_
    iterate 2 (refine zv_step (bX7_sound 44) rfl rfl trivial ?_)
    refine zv_V1 (bX7_sound 44) rfl rfl rfl rfl rfl rfl rfl ⟨rfl, rfl, rfl⟩ ⟨by decide, by decide⟩ ⟨Nat.zero_le _, Nat.zero_le _⟩ (mIsNode f o A J hu ho _) ?_
    rintro _ _ ⟨rfl, ⟨g2, rfl⟩ | ⟨g2, rfl⟩⟩
    · obtain ⟨n, hn, rfl⟩ := nd_of (by omega) g2
      iterate 1 (refine zv_step (bX7_sound 44) rfl rfl trivial ?_)
      refine zv_iff (by decide) ?_
      iterate 2 (refine zv_step (bX7_sound 44) rfl rfl trivial ?_)
      refine zv_V1 (bX7_sound 44) rfl rfl rfl rfl rfl rfl rfl ⟨rfl, rfl, rfl⟩ ⟨by decide, by decide⟩ ⟨Nat.zero_le _, Nat.zero_le _⟩ (mIsNode f o A J hu ho _) ?_
      rintro _ _ ⟨rfl, ⟨g3, rfl⟩ | ⟨g3, rfl⟩⟩
      · obtain ⟨m, hm, rfl⟩ := nd_of (by omega) g3
        iterate 1 (refine zv_step (bX7_sound 44) rfl rfl trivial ?_)
        refine zv_ift (by decide) ?_
        iterate 3 (refine zv_step (bX7_sound 44) rfl rfl trivial ?_)
        refine zv_V2 (bX7_sound 44) rfl rfl rfl rfl rfl rfl rfl ⟨rfl, rfl, rfl⟩ ⟨by decide, by decide⟩ ⟨Nat.zero_le _, Nat.zero_le _⟩ (mLength f o A J (by omega) hT (by omega) 40 _ (pt_of hT (Nat.zero_le _) hn)) ?_
        rintro _ _ ⟨rfl, rfl⟩
        iterate 4 (refine zv_step (bX7_sound 44) rfl rfl trivial ?_)
        refine zv_V2 (bX7_sound 44) rfl rfl rfl rfl rfl rfl rfl ⟨rfl, rfl, rfl⟩ ⟨by decide, by decide⟩ ⟨Nat.zero_le _, Nat.zero_le _⟩ (mLength f o A J (by omega) hT (by omega) 40 _ (pt_of hT (Nat.zero_le _) hm)) ?_
        rintro _ _ ⟨rfl, rfl⟩
        iterate 4 (refine zv_step (bX7_sound 44) rfl rfl trivial ?_)
        refine zv_ifb (fun h45 => ?_) (fun h45 => ?_)
        · iterate 1 (refine zv_step (bX7_sound 44) rfl rfl trivial ?_)
          exact zv_iret (bX7_sound 44) rfl (Or.inl rfl) (Nat.zero_le _) (Nat.zero_le _) ⟨o, A, _, rfl, rfl, qX_refl o A⟩
        · have hl0 : nI (lnW A s 40 (nI n)) ≤ nI 80 := Int32.not_lt.mp h45
          iterate 3 (refine zv_step (bX7_sound 44) rfl rfl trivial ?_)
          refine zv_ifb (fun h52 => ?_) (fun h52 => ?_)
          · iterate 3 (refine zv_step (bX7_sound 44) rfl rfl trivial ?_)
            refine zv_V2 (bX7_sound 44) rfl rfl rfl rfl rfl rfl rfl ⟨rfl, rfl, rfl⟩ ⟨by decide, by decide⟩ ⟨Nat.zero_le _, Nat.zero_le _⟩ (mSayAll f o A J (by omega) hT hB (by omega) (Nat.zero_le _) hn) ?_
            rintro _ _ ⟨rfl, m1, g9, rfl, w9⟩
            iterate 2 (refine zv_step (bX7_sound 44) rfl rfl trivial ?_)
            have hl1 : nI (lnW A s 40 (nI n)) ≤ nI 80 := hl0
            have hl2 : lnW A s 40 (nI n) ≤ 80 := by
              have hl := lnW_le (by omega) hT s 40 (nI n) (pt_of hT (Nat.zero_le _) hn)
              have hz := (rN_sz (hT n (Nat.zero_le _) hn)).2.1
              rw [if_neg (nI_pos (by omega)), nI_clamp (by omega)] at hl
              rwa [nI_leI (by omega) (by decide)] at hl1
            refine zv_world (show _ = wR f (upd (upd (upd o 19 (Int32.ofInt (-1))) 20 m1) 18 (nI (lnW A s 40 (nI n)))) (updA (updA A 14 g9) 15 (A 15)) J from rfl) ?_
            refine zv_locals (l := [(6, .int (Int32.ofInt 0)), (5, .int (nI (lnW A s 40 (nI m)))), (4, .int (nI (lnW A s 40 (nI n)))), (0, .ref 76), (1, .int (nI s)), (2, .int (nI n)), (3, .int (nI m))]) (l' := [(6, .int (Int32.ofInt 0)), (5, .int (nI (lnW A s 40 (nI m)))), (4, .int (nI (lnW A s 40 (nI n)))), (0, .ref 76), (1, .int (nI s)), (2, .int (nI n)), (3, .int (nI m))]) (fun q h => h) (sound1 f (upd (upd (upd o 19 (Int32.ofInt (-1))) 20 m1) 18 (nI (lnW A s 40 (nI n)))) (updA A 14 g9) J hl2 (fun ga => ?_) (lnW A s 40 (nI n)) 0 (A 15) (by omega) rfl)
            have hq1 := qX_trans (qX_say o A (Int32.ofInt (-1)) m1 (nI (lnW A s 40 (nI n))) g9) (qX_15 _ _ ga)
            iterate 3 (refine zv_step (bX7_sound 44) rfl rfl trivial ?_)
            refine zv_V2 (bX7_sound 44) rfl rfl rfl rfl rfl rfl rfl ⟨rfl, rfl, rfl⟩ ⟨by decide, by decide⟩ ⟨Nat.zero_le _, Nat.zero_le _⟩ (mSayAll f (upd (upd (upd o 19 (Int32.ofInt (-1))) 20 m1) 18 (nI (lnW A s 40 (nI n)))) (updA (updA A 14 g9) 15 ga) J (by omega) (tbI_u (tbI_u hT (by decide) g9) (by decide) ga) (blI_q hB hq1) (by omega) (Nat.zero_le _) hm) ?_
            rintro _ _ ⟨rfl, m3, g8, rfl, w8⟩
            have hq2 := qX_trans hq1 (qX_say _ _ (Int32.ofInt (-1)) m3 (nI (lnW (updA (updA A 14 g9) 15 ga) s 40 (nI m))) g8)
            iterate 3 (refine zv_step (bX7_sound 44) rfl rfl trivial ?_)
            refine zv_ifb (fun h104 => ?_) (fun h104 => ?_)
            · iterate 4 (refine zv_step (bX7_sound 44) rfl rfl trivial ?_)
              refine zv_locals (l := [(7, .int (Int32.ofInt 0)), (6, .int (Int32.ofInt 0)), (5, .int (nI (lnW A s 40 (nI m)))), (4, .int (nI (lnW A s 40 (nI n)))), (0, .ref 76), (1, .int (nI s)), (2, .int (nI n)), (3, .int (nI m))]) (l' := [(7, .int (Int32.ofInt 0)), (6, .int (Int32.ofInt 0)), (5, .int (nI (lnW A s 40 (nI m)))), (4, .int (nI (lnW A s 40 (nI n)))), (0, .ref 76), (1, .int (nI s)), (2, .int (nI n)), (3, .int (nI m))]) ?_ (sound2 f _ _ J hl2 (fun v => ⟨_, _, _, rfl, rfl, hq2⟩) (lnW A s 40 (nI n)) 0 (by omega) rfl)
              simp
            · iterate 5 (refine zv_step (bX7_sound 44) rfl rfl trivial ?_)
              refine zv_locals (l := [(7, .int (Int32.ofInt 0)), (6, .int (Int32.ofInt 1)), (5, .int (nI (lnW A s 40 (nI m)))), (4, .int (nI (lnW A s 40 (nI n)))), (0, .ref 76), (1, .int (nI s)), (2, .int (nI n)), (3, .int (nI m))]) (l' := [(7, .int (Int32.ofInt 0)), (6, .int (Int32.ofInt 1)), (5, .int (nI (lnW A s 40 (nI m)))), (4, .int (nI (lnW A s 40 (nI n)))), (0, .ref 76), (1, .int (nI s)), (2, .int (nI n)), (3, .int (nI m))]) ?_ (sound2 f _ _ J hl2 (fun v => ⟨_, _, _, rfl, rfl, hq2⟩) (lnW A s 40 (nI n)) 0 (by omega) rfl)
              simp
          · iterate 1 (refine zv_step (bX7_sound 44) rfl rfl trivial ?_)
            exact zv_iret (bX7_sound 44) rfl (Or.inl rfl) (Nat.zero_le _) (Nat.zero_le _) ⟨o, A, _, rfl, rfl, qX_refl o A⟩
      · skip
        iterate 1 (refine zv_step (bX7_sound 44) rfl rfl trivial ?_)
        refine zv_iff (by decide) ?_
        iterate 1 (refine zv_step (bX7_sound 44) rfl rfl trivial ?_)
        exact zv_iret (bX7_sound 44) rfl (Or.inl rfl) (Nat.zero_le _) (Nat.zero_le _) ⟨o, A, _, rfl, rfl, qX_refl o A⟩
    · skip
      iterate 1 (refine zv_step (bX7_sound 44) rfl rfl trivial ?_)
      refine zv_ift (by decide) ?_
      iterate 1 (refine zv_step (bX7_sound 44) rfl rfl trivial ?_)
      exact zv_iret (bX7_sound 44) rfl (Or.inl rfl) (Nat.zero_le _) (Nat.zero_le _) ⟨o, A, _, rfl, rfl, qX_refl o A⟩
  · skip
    iterate 1 (refine zv_step (bX7_sound 44) rfl rfl trivial ?_)
    refine zv_ift (by decide) ?_
    iterate 1 (refine zv_step (bX7_sound 44) rfl rfl trivial ?_)
    exact zv_iret (bX7_sound 44) rfl (Or.inl rfl) (Nat.zero_le _) (Nat.zero_le _) ⟨o, A, _, rfl, rfl, qX_refl o A⟩
/-- the ear may have changed, and what is said -/
def eX (o : Nat → Int32) (A : Nat → Nat → Int32) (o' : Nat → Int32) (A' : Nat → Nat → Int32) : Prop := (∃ h : Nat, h ≤ 20 ∧ o' 10 = nI h ∧ nnW h (A' 8)) ∧ (∀ j, j ≠ 10 → ¬ (18 ≤ j ∧ j ≤ 20) → o' j = o j) ∧ (∀ r, r ≠ 8 → r ≠ 14 → r ≠ 15 → A' r = A r)
theorem eX_q {o o' : Nat → Int32} {A A' : Nat → Nat → Int32} {h : Nat} (hh : h ≤ 20) (e : o 10 = nI h) (hw : nnW h (A 8)) (q : qX o A o' A') : eX o A o' A' := ⟨⟨h, hh, (q.1 10 (by decide)).trans e, by rw [q.2 8 (by decide) (by decide)]; exact hw⟩, fun j _ a => q.1 j a, fun r _ a b => q.2 r a b⟩
set_option maxHeartbeats 1000000 in
set_option maxRecDepth 20000 in
theorem mEar (f : Nat → zC) (o : Nat → Int32) (A : Nat → Nat → Int32) (J : Nat → Nat → Int64) {h : Nat} (hh : h ≤ 20) (ho10 : o 10 = nI h) (x : Int32) : zK 1 zX7_ear [.ref 76, .int x] (wR f o A J) (fun r w' => w' = (wR f o A J) ∧ ∃ v : Int32, r = some (.int v)) := by
  refine zK_of qX7_ear (by decide +kernel) rfl ?_
  iterate 8 (refine zv_step (bX7_ear 1) rfl rfl trivial ?_)
  refine zv_S3 (bX7_ear 1) rfl rfl rfl rfl ⟨rfl, rfl, rfl⟩ ⟨by decide, by decide⟩ ⟨Nat.zero_le _, Nat.zero_le _⟩ (mIn _ _ _ _ (a := 0) (b := (h : Int) - 1) (by decide) (by rw [Int32.toInt_toInt64]; show (o 10 - Int32.ofInt 1).toInt = _; rw [ho10, pred_toInt (by omega)])) ?_
  rintro _ _ ⟨rfl, ⟨g1, rfl⟩ | ⟨g1, rfl⟩⟩
  · skip
    iterate 1 (refine zv_step (bX7_ear 1) rfl rfl trivial ?_)
    refine zv_iff (by decide) ?_
    iterate 3 (refine zv_step (bX7_ear 1) rfl rfl trivial ?_)
    refine zv_step (bX7_ear 1) rfl rfl (vp_in_iff.mpr (by omega)) ?_
    iterate 1 (refine zv_step (bX7_ear 1) rfl rfl trivial ?_)
    exact zv_iret (bX7_ear 1) rfl (Or.inl rfl) (Nat.zero_le _) (Nat.zero_le _) ⟨rfl, _, rfl⟩
  · skip
    iterate 1 (refine zv_step (bX7_ear 1) rfl rfl trivial ?_)
    refine zv_ift (by decide) ?_
    iterate 1 (refine zv_step (bX7_ear 1) rfl rfl trivial ?_)
    exact zv_iret (bX7_ear 1) rfl (Or.inl rfl) (Nat.zero_le _) (Nat.zero_le _) ⟨rfl, _, rfl⟩
theorem and31 (x : Int32) : ∃ e : Nat, e ≤ 31 ∧ x &&& c8 31 = nI e := by
  refine ⟨(x &&& c8 31).toBitVec.toNat, ?_, ?_⟩
  · rw [Int32.toBitVec_and, BitVec.toNat_and]
    exact Nat.and_le_right
  · rw [← Int32.toBitVec_inj]
    show _ = BitVec.ofNat 32 _
    rw [BitVec.ofNat_toNat, BitVec.setWidth_eq]
theorem nI_dec2 (k : Nat) : nI k + Int32.ofInt (-1) = nI k - Int32.ofInt 1 := by
  rw [Int32.sub_eq_add_neg]
  rfl
end
section
/-- the walk: its top, and each NODE gone through, its SIZE and how deep -/
def rtM (A : Nat → Nat → Int32) (t d : Nat) (N : Nat → Int32) : Prop := N 0 = nI t ∧ ∀ i, i ≤ d → ∃ j, j ≤ t ∧ N i = nI j ∧ szN A j + i ≤ 40
theorem rtM_up {A : Nat → Nat → Int32} {t d d' : Nat} {N : Nat → Int32} (h : rtM A t d N) (hd : d' ≤ d) : rtM A t d' N := ⟨h.1, fun i hi => h.2 i (by omega)⟩
theorem rtM_set {A : Nat → Nat → Int32} {t d : Nat} {N : Nat → Int32} (h : rtM A t d N) {a : Nat} (ha : a ≤ t) (hz : szN A a + (d + 1) ≤ 40) : rtM A t (d + 1) (upd N (d + 1) (nI a)) := by
  refine ⟨(upd_ne _ _ (by omega)).trans h.1, fun i hi => ?_⟩
  by_cases c : i = d + 1
  · subst c
    exact ⟨a, ha, upd_self _ _ _, hz⟩
  · obtain ⟨j, hj, e2, hz2⟩ := h.2 i (by omega)
    exact ⟨j, hj, (upd_ne _ _ c).trans e2, hz2⟩
theorem rtM_d {A : Nat → Nat → Int32} {u t d : Nat} {N : Nat → Int32} (hT : tbI 0 u A) (ht : t < u) (h : rtM A t d N) : d ≤ 39 := by
  obtain ⟨j, hj, _, hz⟩ := h.2 d (Nat.le_refl _)
  have := (rN_sz (hT j (Nat.zero_le _) (by omega))).1
  omega
theorem rN_dn {lo n : Nat} {A : Nat → Nat → Int32} (h : rN lo A n) : (A 2 n = m2 ∨ ∃ a, A 2 n = nI a ∧ a < n ∧ szN A a + 1 ≤ szN A n) ∧ (A 3 n = m2 ∨ ∃ a, A 3 n = nI a ∧ a < n ∧ szN A a + 1 ≤ szN A n) := by
  obtain ⟨k, y, _, _, h4, hy, hs, _⟩ := h
  rw [szN_of h4 hy]
  rcases hs with ⟨_, h2, h3, e⟩ | ⟨_, _, a, b, h2, la, ha, h3, lb, hb, e⟩ | ⟨_, a, h2, la, ha, h3, e⟩
  · exact ⟨Or.inl h2, Or.inl h3⟩
  · exact ⟨Or.inr ⟨a, h2, ha, by omega⟩, Or.inr ⟨b, h3, hb, by omega⟩⟩
  · exact ⟨Or.inr ⟨a, h2, ha, by omega⟩, Or.inl h3⟩
set_option maxHeartbeats 1000000 in
set_option maxRecDepth 20000 in
theorem whereL (f : Nat → zC) (o : Nat → Int32) (A : Nat → Nat → Int32) (J : Nat → Nat → Int64) {n0 : Nat} (x : Int32) : ∀ (k : Nat), k ≤ 40 → ∀ {x3 v : Int32}, x3 = nI k → zV (zMo 2 zX7_where) false n0 0 0 78 [(3, .int x3), (2, .int v), (0, .ref 76), (1, .int x)] [] (wR f (upd o 16 (Int32.ofInt 0)) A J) (fun r w' => ∃ (R t : Int32), r = some (.int R) ∧ w' = wR f (upd o 16 t) A J) := by
  intro k
  induction k with
  | zero =>
    intro hk x3 v e3
    subst e3
    iterate 2 (refine zv_step (bX7_where 2) rfl rfl trivial ?_)
    refine zv_ift (show nI 0 ≤ 0 by decide) ?_
    iterate 1 (refine zv_step (bX7_where 2) rfl rfl trivial ?_)
    exact zv_iret (bX7_where 2) rfl (Or.inl rfl) (Nat.zero_le _) (Nat.zero_le _) ⟨_, Int32.ofInt 0, rfl, rfl⟩
  | succ k ih =>
    intro hk x3 v e3
    subst e3
    iterate 2 (refine zv_step (bX7_where 2) rfl rfl trivial ?_)
    refine zv_iff (nI_nle (by omega) (by omega)) ?_
    iterate 6 (refine zv_step (bX7_where 2) rfl rfl trivial ?_)
    refine zv_step (bX7_where 2) rfl rfl (show vp_in (nI (k + 1)) 41 from vp_in_nI (by omega) (by decide)) ?_
    iterate 6 (refine zv_step (bX7_where 2) rfl rfl trivial ?_)
    refine zv_locals (l := [(3, .int (nI (k + 1) + Int32.ofInt (-1))), (2, .int (Int32.ofInt 3 * v + A 21 (nI (k + 1)).toNatClampNeg + Int32.ofInt 1)), (0, .ref 76), (1, .int x)]) (l' := [(3, .int (nI (k + 1) + Int32.ofInt (-1))), (2, .int (Int32.ofInt 3 * v + A 21 (nI (k + 1)).toNatClampNeg + Int32.ofInt 1)), (0, .ref 76), (1, .int x)]) (fun q h => h) (ih (by omega) (nI_dec k))
set_option maxHeartbeats 1000000 in
set_option maxRecDepth 20000 in
theorem mWhere (f : Nat → zC) (o : Nat → Int32) (A : Nat → Nat → Int32) (J : Nat → Nat → Int64) {d : Nat} (hd : d ≤ 39) (ho33 : o 33 = nI d) (x : Int32) : zK 2 zX7_where [.ref 76, .int x] (wR f o A J) (fun r w' => ∃ (R t : Int32), r = some (.int R) ∧ w' = wR f (upd o 16 t) A J) := by
  refine zK_of qX7_where (by decide +kernel) rfl ?_
  iterate 7 (refine zv_step (bX7_where 2) rfl rfl trivial ?_)
  refine zv_S3 (bX7_where 2) rfl rfl rfl rfl ⟨rfl, rfl, rfl⟩ ⟨by decide, by decide⟩ ⟨Nat.zero_le _, Nat.zero_le _⟩ (mIn _ _ _ _ (a := 0) (b := 2) (by decide) (by decide)) ?_
  rintro _ _ ⟨rfl, ⟨g1, rfl⟩ | ⟨g1, rfl⟩⟩
  · skip
    iterate 1 (refine zv_step (bX7_where 2) rfl rfl trivial ?_)
    refine zv_ift (by decide) ?_
    iterate 3 (refine zv_step (bX7_where 2) rfl rfl trivial ?_)
    refine zv_ifb (fun h23 => ?_) (fun h23 => ?_)
    · iterate 2 (refine zv_step (bX7_where 2) rfl rfl trivial ?_)
      refine zv_ifb (fun h30 => ?_) (fun h30 => ?_)
      · iterate 4 (refine zv_step (bX7_where 2) rfl rfl trivial ?_)
        refine zv_ifb (fun h61 => ?_) (fun h61 => ?_)
        · iterate 5 (refine zv_step (bX7_where 2) rfl rfl trivial ?_)
          exact whereL f o A J x d (by omega) ho33
        · iterate 4 (refine zv_step (bX7_where 2) rfl rfl trivial ?_)
          exact zv_iret (bX7_where 2) rfl (Or.inl rfl) (Nat.zero_le _) (Nat.zero_le _) ⟨_, Int32.ofInt 1, rfl, rfl⟩
      · iterate 3 (refine zv_step (bX7_where 2) rfl rfl trivial ?_)
        refine zv_ifb (fun h35 => ?_) (fun h35 => ?_)
        · iterate 4 (refine zv_step (bX7_where 2) rfl rfl trivial ?_)
          refine zv_step (bX7_where 2) rfl rfl (show vp_in (o 33) 41 by rw [ho33]; exact vp_in_nI (by omega) (by decide)) ?_
          exact zv_iret (bX7_where 2) rfl (Or.inl rfl) (Nat.zero_le _) (Nat.zero_le _) ⟨_, Int32.ofInt 0, rfl, rfl⟩
        · iterate 3 (refine zv_step (bX7_where 2) rfl rfl trivial ?_)
          exact zv_iret (bX7_where 2) rfl (Or.inl rfl) (Nat.zero_le _) (Nat.zero_le _) ⟨_, Int32.ofInt 0, rfl, rfl⟩
    · iterate 1 (refine zv_step (bX7_where 2) rfl rfl trivial ?_)
      exact zv_iret (bX7_where 2) rfl (Or.inl rfl) (Nat.zero_le _) (Nat.zero_le _) ⟨_, Int32.ofInt 0, rfl, rfl⟩
  · skip
    iterate 1 (refine zv_step (bX7_where 2) rfl rfl trivial ?_)
    refine zv_iff (by decide) ?_
    iterate 1 (refine zv_step (bX7_where 2) rfl rfl trivial ?_)
    exact zv_iret (bX7_where 2) rfl (Or.inl rfl) (Nat.zero_le _) (Nat.zero_le _) ⟨_, Int32.ofInt 0, rfl, rfl⟩
theorem div3 {x : Int32} (h : 0 < x.toInt) : (x / Int32.ofInt 3).toInt = x.toInt / 3 := by
  have h2 := Int32.toInt_lt x
  rw [Int32.toInt_div, show (Int32.ofInt 3).toInt = 3 from rfl, Int.tdiv_eq_ediv_of_nonneg (by omega)]
  exact Int.bmod_eq_of_le (by omega) (by omega)
theorem pq {u n : Nat} {A : Nat → Nat → Int32} (hT : tbI 0 u A) (hn : n < u) {x : Int32} (h : x = m2 ∨ ∃ a, x = nI a ∧ a < n ∧ szN A a + 1 ≤ szN A n) : x = m2 ∨ ∃ m : Nat, x = nI m ∧ m < u := h.imp id (fun ⟨a, e, ha, _⟩ => ⟨a, e, by omega⟩)
theorem zv_weak {M : zM} {al : Bool} {n0 kc ks pc : Nat} {l : zL} {st : List Value} {w : zW} {Q Q' : Option Value → zW → Prop} (h : ∀ r w, Q r w → Q' r w) (k : zV M al n0 kc ks pc l st w Q) : zV M al n0 kc ks pc l st w Q' := by
  intro p l0 e s m args below meth c dC dI dA ad0 A Z h9t hctx hfin ad H locs ls hrel hl
  exact k p l0 e s m args below meth c dC dI dA ad0 A Z h9t hctx (fun ad H locs kc ks pc ls v w a b => hfin ad H locs kc ks pc ls v w a (h v w b)) ad H locs ls hrel hl
set_option maxHeartbeats 1000000 in
set_option maxRecDepth 20000 in
theorem mGlance (f : Nat → zC) (o : Nat → Int32) (A : Nat → Nat → Int32) (J : Nat → Nat → Int64) {u : Nat} (hu : u ≤ 120) (hT : tbI 0 u A) {d : Nat} (hd : d ≤ 39) (ho33 : o 33 = nI d) (hb : o 30 = 0 ∨ o 30 = 1) (hr : o 30 = 1 → ∃ t, t < u ∧ rtM A t d (A 20)) (x y : Int32) : zK 43 zX7_glance [.ref 76, .int x, .int y] (wR f o A J) (fun r w' => w' = (wR f o A J) ∧ ∃ v : Int32, r = some (.int v)) := by
  refine zK_of qX7_glance (by decide +kernel) rfl ?_
  iterate 1 (refine zv_step (bX7_glance 43) rfl rfl trivial ?_)
  refine zv_S1 (bX7_glance 43) rfl rfl rfl rfl ⟨rfl, rfl, rfl⟩ ⟨by decide, by decide⟩ ⟨Nat.zero_le _, Nat.zero_le _⟩ (hX7_isStyle _ _) ?_
  rintro _ _ ⟨rfl, ⟨g1, rfl⟩ | ⟨g1, rfl⟩⟩
  · obtain ⟨s, hs, rfl⟩ := in_nat (x := x) (b := 7) (by decide) g1
    iterate 1 (refine zv_step (bX7_glance 43) rfl rfl trivial ?_)
    refine zv_iff (by decide) ?_
    iterate 4 (refine zv_step (bX7_glance 43) rfl rfl trivial ?_)
    refine zv_S3 (bX7_glance 43) rfl rfl rfl rfl ⟨rfl, rfl, rfl⟩ ⟨by decide, by decide⟩ ⟨Nat.zero_le _, Nat.zero_le _⟩ (mIn _ _ _ _ (a := 0) (b := 9) (by decide) (by decide)) ?_
    rintro _ _ ⟨rfl, ⟨g2, rfl⟩ | ⟨g2, rfl⟩⟩
    · skip
      iterate 1 (refine zv_step (bX7_glance 43) rfl rfl trivial ?_)
      refine zv_ift (by decide) ?_
      iterate 3 (refine zv_step (bX7_glance 43) rfl rfl trivial ?_)
      refine zv_ifb (fun h25 => ?_) (fun h25 => ?_)
      · obtain ⟨t, ht, hr0⟩ := hr (hb.resolve_left h25)
        obtain ⟨j, hj, ej, hz⟩ := hr0.2 d (Nat.le_refl _)
        iterate 6 (refine zv_step (bX7_glance 43) rfl rfl trivial ?_)
        refine zv_iale (bX7_glance 43) rfl rfl (show vp_in (o 33) 41 by rw [ho33]; exact vp_in_nI (by omega) (by decide)) (show A 20 (o 33).toNatClampNeg = nI j by rw [ho33, nI_clamp (by omega)]; exact ej) ?_
        iterate 1 (refine zv_step (bX7_glance 43) rfl rfl trivial ?_)
        refine zv_V3 (bX7_glance 43) rfl rfl rfl rfl rfl rfl rfl ⟨rfl, rfl, rfl⟩ ⟨by decide, by decide⟩ ⟨Nat.zero_le _, Nat.zero_le _⟩ (mGlanced f o A J (by omega) hT (by omega) 40 _ _ (pt_of hT (Nat.zero_le _) (by omega))) ?_
        rintro _ _ ⟨rfl, v, rfl⟩
        iterate 4 (refine zv_step (bX7_glance 43) rfl rfl trivial ?_)
        refine zv_ifb (fun h50 => ?_) (fun h50 => ?_)
        · iterate 1 (refine zv_step (bX7_glance 43) rfl rfl trivial ?_)
          exact zv_iret (bX7_glance 43) rfl (Or.inl rfl) (Nat.zero_le _) (Nat.zero_le _) ⟨rfl, _, rfl⟩
        · iterate 2 (refine zv_step (bX7_glance 43) rfl rfl trivial ?_)
          exact zv_iret (bX7_glance 43) rfl (Or.inl rfl) (Nat.zero_le _) (Nat.zero_le _) ⟨rfl, _, rfl⟩
      · iterate 1 (refine zv_step (bX7_glance 43) rfl rfl trivial ?_)
        exact zv_iret (bX7_glance 43) rfl (Or.inl rfl) (Nat.zero_le _) (Nat.zero_le _) ⟨rfl, _, rfl⟩
    · skip
      iterate 1 (refine zv_step (bX7_glance 43) rfl rfl trivial ?_)
      refine zv_iff (by decide) ?_
      iterate 1 (refine zv_step (bX7_glance 43) rfl rfl trivial ?_)
      exact zv_iret (bX7_glance 43) rfl (Or.inl rfl) (Nat.zero_le _) (Nat.zero_le _) ⟨rfl, _, rfl⟩
  · skip
    iterate 1 (refine zv_step (bX7_glance 43) rfl rfl trivial ?_)
    refine zv_ift (by decide) ?_
    iterate 1 (refine zv_step (bX7_glance 43) rfl rfl trivial ?_)
    exact zv_iret (bX7_glance 43) rfl (Or.inl rfl) (Nat.zero_le _) (Nat.zero_le _) ⟨rfl, _, rfl⟩
end
section
/-- NODES of one KIND have PARTS alike -/
theorem rN_same {lo n m : Nat} {A : Nat → Nat → Int32} (h : rN lo A n) (k : rN lo A m) (e : A 0 n = A 0 m) : ((A 2 n = m2 ∧ A 2 m = m2) ∨ ∃ a b : Nat, A 2 n = nI a ∧ A 2 m = nI b ∧ lo ≤ a ∧ a < n ∧ lo ≤ b ∧ b < m ∧ szN A a + 1 ≤ szN A n) ∧ ((A 3 n = m2 ∧ A 3 m = m2) ∨ ∃ a b : Nat, A 3 n = nI a ∧ A 3 m = nI b ∧ lo ≤ a ∧ a < n ∧ lo ≤ b ∧ b < m ∧ szN A a + 1 ≤ szN A n) := by
  obtain ⟨k1, y1, f0, l1, h4, hy, hs, _⟩ := h
  obtain ⟨k2, y2, g0, l2, i4, iy, is, _⟩ := k
  rw [f0, g0, nI_eq (by omega) (by omega)] at e
  subst e
  rw [szN_of h4 hy]
  rcases hs with ⟨c1, h2, h3, e1⟩ | ⟨c1, c2, a, b, h2, la, ha, h3, lb, hb, e1⟩ | ⟨c1, a, h2, la, ha, h3, e1⟩ <;> rcases is with ⟨d1, i2, i3, e2⟩ | ⟨d1, d2, a', b', i2, la', ha', i3, lb', hb', e2⟩ | ⟨d1, a', i2, la', ha', i3, e2⟩
  · exact ⟨Or.inl ⟨h2, i2⟩, Or.inl ⟨h3, i3⟩⟩
  · omega
  · omega
  · omega
  · exact ⟨Or.inr ⟨a, a', h2, i2, la, ha, la', ha', by omega⟩, Or.inr ⟨b, b', h3, i3, lb, hb, lb', hb', by omega⟩⟩
  · omega
  · omega
  · omega
  · exact ⟨Or.inr ⟨a, a', h2, i2, la, ha, la', ha', by omega⟩, Or.inl ⟨h3, i3⟩⟩
set_option maxHeartbeats 1000000 in
set_option maxRecDepth 20000 in
theorem mInside (f : Nat → zC) (o : Nat → Int32) (A : Nat → Nat → Int32) (J : Nat → Nat → Int64) {lo hi : Nat} (hh : hi ≤ 450) (hT : tbI lo hi A) {z : Nat} (ih : ∀ (n m : Nat), lo ≤ n → n < hi → lo ≤ m → m < hi → szN A n ≤ z → zK (2 * z + 1) zX7_difference [.ref 76, .int (nI n), .int (nI m)] (wR f o A J) (fun r w' => w' = (wR f o A J) ∧ ∃ v : Int32, r = some (.int v))) {n m : Nat} (hlo : lo ≤ n) (hn : n < hi) (hlo2 : lo ≤ m) (hm : m < hi) (hz : szN A n ≤ z + 1) (hk : A 0 n = A 0 m) : zK (2 * z + 2) zX7_inside [.ref 76, .int (nI n), .int (nI m)] (wR f o A J) (fun r w' => w' = (wR f o A J) ∧ ∃ v : Int32, r = some (.int v)) := by
  obtain ⟨s2, s3⟩ := rN_same (hT n hlo hn) (hT m hlo2 hm) hk
  refine zK_of qX7_inside (by decide +kernel) rfl ?_
  iterate 3 (refine zv_step (bX7_inside (2 * z + 2)) rfl rfl trivial ?_)
  refine zv_iale (bX7_inside (2 * z + 2)) rfl rfl (vp_in_nI (by omega) (by decide)) (show A 1 (nI n).toNatClampNeg = A 1 n by rw [nI_clamp (by omega)]) ?_
  iterate 3 (refine zv_step (bX7_inside (2 * z + 2)) rfl rfl trivial ?_)
  refine zv_iale (bX7_inside (2 * z + 2)) rfl rfl (vp_in_nI (by omega) (by decide)) (show A 1 (nI m).toNatClampNeg = A 1 m by rw [nI_clamp (by omega)]) ?_
  iterate 1 (refine zv_step (bX7_inside (2 * z + 2)) rfl rfl trivial ?_)
  refine zv_ifb (fun h12 => ?_) (fun h12 => ?_)
  · iterate 3 (refine zv_step (bX7_inside (2 * z + 2)) rfl rfl trivial ?_)
    rcases s2 with ⟨e2, f2⟩ | ⟨a, b, e2, f2, la, ha, lb, hb, hza⟩
    · skip
      iterate 3 (refine zv_step (bX7_inside (2 * z + 2)) rfl rfl trivial ?_)
      refine zv_iale (bX7_inside (2 * z + 2)) rfl rfl (vp_in_nI (by omega) (by decide)) (show A 2 (nI n).toNatClampNeg = m2 by rw [nI_clamp (by omega)]; exact e2) ?_
      iterate 1 (refine zv_step (bX7_inside (2 * z + 2)) rfl rfl trivial ?_)
      refine zv_iff (by decide) ?_
      iterate 3 (refine zv_step (bX7_inside (2 * z + 2)) rfl rfl trivial ?_)
      rcases s3 with ⟨e2, f2⟩ | ⟨a, b, e2, f2, la, ha, lb, hb, hza⟩
      · skip
        iterate 3 (refine zv_step (bX7_inside (2 * z + 2)) rfl rfl trivial ?_)
        refine zv_iale (bX7_inside (2 * z + 2)) rfl rfl (vp_in_nI (by omega) (by decide)) (show A 3 (nI n).toNatClampNeg = m2 by rw [nI_clamp (by omega)]; exact e2) ?_
        iterate 1 (refine zv_step (bX7_inside (2 * z + 2)) rfl rfl trivial ?_)
        refine zv_iff (by decide) ?_
        iterate 3 (refine zv_step (bX7_inside (2 * z + 2)) rfl rfl trivial ?_)
        exact zv_iret (bX7_inside (2 * z + 2)) rfl (Or.inl rfl) (Nat.zero_le _) (Nat.zero_le _) ⟨rfl, _, rfl⟩
      · skip
        iterate 3 (refine zv_step (bX7_inside (2 * z + 2)) rfl rfl trivial ?_)
        refine zv_iale (bX7_inside (2 * z + 2)) rfl rfl (vp_in_nI (by omega) (by decide)) (show A 3 (nI n).toNatClampNeg = nI a by rw [nI_clamp (by omega)]; exact e2) ?_
        iterate 1 (refine zv_step (bX7_inside (2 * z + 2)) rfl rfl trivial ?_)
        refine zv_ift (nI_pos' (by omega)) ?_
        iterate 4 (refine zv_step (bX7_inside (2 * z + 2)) rfl rfl trivial ?_)
        refine zv_iale (bX7_inside (2 * z + 2)) rfl rfl (vp_in_nI (by omega) (by decide)) (show A 3 (nI n).toNatClampNeg = nI a by rw [nI_clamp (by omega)]; exact e2) ?_
        iterate 3 (refine zv_step (bX7_inside (2 * z + 2)) rfl rfl trivial ?_)
        refine zv_iale (bX7_inside (2 * z + 2)) rfl rfl (vp_in_nI (by omega) (by decide)) (show A 3 (nI m).toNatClampNeg = nI b by rw [nI_clamp (by omega)]; exact f2) ?_
        refine zv_V2 (bX7_inside (2 * z + 2)) rfl rfl rfl rfl rfl rfl rfl ⟨rfl, rfl, rfl⟩ ⟨by show 2 * z + 1 + 1 ≤ 2 * z + 2; omega, by show 8 + (5 + 11) + 64 * (2 * z + 1) ≤ 64 * (2 * z + 2); omega⟩ ⟨Nat.zero_le _, Nat.zero_le _⟩ (ih a b (by omega) (by omega) (by omega) (by omega) (by omega)) ?_
        rintro _ _ ⟨rfl, v78, rfl⟩
        iterate 1 (refine zv_step (bX7_inside (2 * z + 2)) rfl rfl trivial ?_)
        exact zv_iret (bX7_inside (2 * z + 2)) rfl (Or.inl rfl) (Nat.zero_le _) (Nat.zero_le _) ⟨rfl, _, rfl⟩
    · skip
      iterate 3 (refine zv_step (bX7_inside (2 * z + 2)) rfl rfl trivial ?_)
      refine zv_iale (bX7_inside (2 * z + 2)) rfl rfl (vp_in_nI (by omega) (by decide)) (show A 2 (nI n).toNatClampNeg = nI a by rw [nI_clamp (by omega)]; exact e2) ?_
      iterate 1 (refine zv_step (bX7_inside (2 * z + 2)) rfl rfl trivial ?_)
      refine zv_ift (nI_pos' (by omega)) ?_
      iterate 4 (refine zv_step (bX7_inside (2 * z + 2)) rfl rfl trivial ?_)
      refine zv_iale (bX7_inside (2 * z + 2)) rfl rfl (vp_in_nI (by omega) (by decide)) (show A 2 (nI n).toNatClampNeg = nI a by rw [nI_clamp (by omega)]; exact e2) ?_
      iterate 3 (refine zv_step (bX7_inside (2 * z + 2)) rfl rfl trivial ?_)
      refine zv_iale (bX7_inside (2 * z + 2)) rfl rfl (vp_in_nI (by omega) (by decide)) (show A 2 (nI m).toNatClampNeg = nI b by rw [nI_clamp (by omega)]; exact f2) ?_
      refine zv_V2 (bX7_inside (2 * z + 2)) rfl rfl rfl rfl rfl rfl rfl ⟨rfl, rfl, rfl⟩ ⟨by show 2 * z + 1 + 1 ≤ 2 * z + 2; omega, by show 8 + (5 + 11) + 64 * (2 * z + 1) ≤ 64 * (2 * z + 2); omega⟩ ⟨Nat.zero_le _, Nat.zero_le _⟩ (ih a b (by omega) (by omega) (by omega) (by omega) (by omega)) ?_
      rintro _ _ ⟨rfl, v48, rfl⟩
      iterate 1 (refine zv_step (bX7_inside (2 * z + 2)) rfl rfl trivial ?_)
      rcases s3 with ⟨e2, f2⟩ | ⟨a, b, e2, f2, la, ha, lb, hb, hza⟩
      · skip
        iterate 3 (refine zv_step (bX7_inside (2 * z + 2)) rfl rfl trivial ?_)
        refine zv_iale (bX7_inside (2 * z + 2)) rfl rfl (vp_in_nI (by omega) (by decide)) (show A 3 (nI n).toNatClampNeg = m2 by rw [nI_clamp (by omega)]; exact e2) ?_
        iterate 1 (refine zv_step (bX7_inside (2 * z + 2)) rfl rfl trivial ?_)
        refine zv_iff (by decide) ?_
        iterate 3 (refine zv_step (bX7_inside (2 * z + 2)) rfl rfl trivial ?_)
        exact zv_iret (bX7_inside (2 * z + 2)) rfl (Or.inl rfl) (Nat.zero_le _) (Nat.zero_le _) ⟨rfl, _, rfl⟩
      · skip
        iterate 3 (refine zv_step (bX7_inside (2 * z + 2)) rfl rfl trivial ?_)
        refine zv_iale (bX7_inside (2 * z + 2)) rfl rfl (vp_in_nI (by omega) (by decide)) (show A 3 (nI n).toNatClampNeg = nI a by rw [nI_clamp (by omega)]; exact e2) ?_
        iterate 1 (refine zv_step (bX7_inside (2 * z + 2)) rfl rfl trivial ?_)
        refine zv_ift (nI_pos' (by omega)) ?_
        iterate 4 (refine zv_step (bX7_inside (2 * z + 2)) rfl rfl trivial ?_)
        refine zv_iale (bX7_inside (2 * z + 2)) rfl rfl (vp_in_nI (by omega) (by decide)) (show A 3 (nI n).toNatClampNeg = nI a by rw [nI_clamp (by omega)]; exact e2) ?_
        iterate 3 (refine zv_step (bX7_inside (2 * z + 2)) rfl rfl trivial ?_)
        refine zv_iale (bX7_inside (2 * z + 2)) rfl rfl (vp_in_nI (by omega) (by decide)) (show A 3 (nI m).toNatClampNeg = nI b by rw [nI_clamp (by omega)]; exact f2) ?_
        refine zv_V2 (bX7_inside (2 * z + 2)) rfl rfl rfl rfl rfl rfl rfl ⟨rfl, rfl, rfl⟩ ⟨by show 2 * z + 1 + 1 ≤ 2 * z + 2; omega, by show 8 + (5 + 11) + 64 * (2 * z + 1) ≤ 64 * (2 * z + 2); omega⟩ ⟨Nat.zero_le _, Nat.zero_le _⟩ (ih a b (by omega) (by omega) (by omega) (by omega) (by omega)) ?_
        rintro _ _ ⟨rfl, v78, rfl⟩
        iterate 1 (refine zv_step (bX7_inside (2 * z + 2)) rfl rfl trivial ?_)
        exact zv_iret (bX7_inside (2 * z + 2)) rfl (Or.inl rfl) (Nat.zero_le _) (Nat.zero_le _) ⟨rfl, _, rfl⟩
  · iterate 4 (refine zv_step (bX7_inside (2 * z + 2)) rfl rfl trivial ?_)
    rcases s2 with ⟨e2, f2⟩ | ⟨a, b, e2, f2, la, ha, lb, hb, hza⟩
    · skip
      iterate 3 (refine zv_step (bX7_inside (2 * z + 2)) rfl rfl trivial ?_)
      refine zv_iale (bX7_inside (2 * z + 2)) rfl rfl (vp_in_nI (by omega) (by decide)) (show A 2 (nI n).toNatClampNeg = m2 by rw [nI_clamp (by omega)]; exact e2) ?_
      iterate 1 (refine zv_step (bX7_inside (2 * z + 2)) rfl rfl trivial ?_)
      refine zv_iff (by decide) ?_
      iterate 3 (refine zv_step (bX7_inside (2 * z + 2)) rfl rfl trivial ?_)
      rcases s3 with ⟨e2, f2⟩ | ⟨a, b, e2, f2, la, ha, lb, hb, hza⟩
      · skip
        iterate 3 (refine zv_step (bX7_inside (2 * z + 2)) rfl rfl trivial ?_)
        refine zv_iale (bX7_inside (2 * z + 2)) rfl rfl (vp_in_nI (by omega) (by decide)) (show A 3 (nI n).toNatClampNeg = m2 by rw [nI_clamp (by omega)]; exact e2) ?_
        iterate 1 (refine zv_step (bX7_inside (2 * z + 2)) rfl rfl trivial ?_)
        refine zv_iff (by decide) ?_
        iterate 3 (refine zv_step (bX7_inside (2 * z + 2)) rfl rfl trivial ?_)
        exact zv_iret (bX7_inside (2 * z + 2)) rfl (Or.inl rfl) (Nat.zero_le _) (Nat.zero_le _) ⟨rfl, _, rfl⟩
      · skip
        iterate 3 (refine zv_step (bX7_inside (2 * z + 2)) rfl rfl trivial ?_)
        refine zv_iale (bX7_inside (2 * z + 2)) rfl rfl (vp_in_nI (by omega) (by decide)) (show A 3 (nI n).toNatClampNeg = nI a by rw [nI_clamp (by omega)]; exact e2) ?_
        iterate 1 (refine zv_step (bX7_inside (2 * z + 2)) rfl rfl trivial ?_)
        refine zv_ift (nI_pos' (by omega)) ?_
        iterate 4 (refine zv_step (bX7_inside (2 * z + 2)) rfl rfl trivial ?_)
        refine zv_iale (bX7_inside (2 * z + 2)) rfl rfl (vp_in_nI (by omega) (by decide)) (show A 3 (nI n).toNatClampNeg = nI a by rw [nI_clamp (by omega)]; exact e2) ?_
        iterate 3 (refine zv_step (bX7_inside (2 * z + 2)) rfl rfl trivial ?_)
        refine zv_iale (bX7_inside (2 * z + 2)) rfl rfl (vp_in_nI (by omega) (by decide)) (show A 3 (nI m).toNatClampNeg = nI b by rw [nI_clamp (by omega)]; exact f2) ?_
        refine zv_V2 (bX7_inside (2 * z + 2)) rfl rfl rfl rfl rfl rfl rfl ⟨rfl, rfl, rfl⟩ ⟨by show 2 * z + 1 + 1 ≤ 2 * z + 2; omega, by show 8 + (5 + 11) + 64 * (2 * z + 1) ≤ 64 * (2 * z + 2); omega⟩ ⟨Nat.zero_le _, Nat.zero_le _⟩ (ih a b (by omega) (by omega) (by omega) (by omega) (by omega)) ?_
        rintro _ _ ⟨rfl, v78, rfl⟩
        iterate 1 (refine zv_step (bX7_inside (2 * z + 2)) rfl rfl trivial ?_)
        exact zv_iret (bX7_inside (2 * z + 2)) rfl (Or.inl rfl) (Nat.zero_le _) (Nat.zero_le _) ⟨rfl, _, rfl⟩
    · skip
      iterate 3 (refine zv_step (bX7_inside (2 * z + 2)) rfl rfl trivial ?_)
      refine zv_iale (bX7_inside (2 * z + 2)) rfl rfl (vp_in_nI (by omega) (by decide)) (show A 2 (nI n).toNatClampNeg = nI a by rw [nI_clamp (by omega)]; exact e2) ?_
      iterate 1 (refine zv_step (bX7_inside (2 * z + 2)) rfl rfl trivial ?_)
      refine zv_ift (nI_pos' (by omega)) ?_
      iterate 4 (refine zv_step (bX7_inside (2 * z + 2)) rfl rfl trivial ?_)
      refine zv_iale (bX7_inside (2 * z + 2)) rfl rfl (vp_in_nI (by omega) (by decide)) (show A 2 (nI n).toNatClampNeg = nI a by rw [nI_clamp (by omega)]; exact e2) ?_
      iterate 3 (refine zv_step (bX7_inside (2 * z + 2)) rfl rfl trivial ?_)
      refine zv_iale (bX7_inside (2 * z + 2)) rfl rfl (vp_in_nI (by omega) (by decide)) (show A 2 (nI m).toNatClampNeg = nI b by rw [nI_clamp (by omega)]; exact f2) ?_
      refine zv_V2 (bX7_inside (2 * z + 2)) rfl rfl rfl rfl rfl rfl rfl ⟨rfl, rfl, rfl⟩ ⟨by show 2 * z + 1 + 1 ≤ 2 * z + 2; omega, by show 8 + (5 + 11) + 64 * (2 * z + 1) ≤ 64 * (2 * z + 2); omega⟩ ⟨Nat.zero_le _, Nat.zero_le _⟩ (ih a b (by omega) (by omega) (by omega) (by omega) (by omega)) ?_
      rintro _ _ ⟨rfl, v48, rfl⟩
      iterate 1 (refine zv_step (bX7_inside (2 * z + 2)) rfl rfl trivial ?_)
      rcases s3 with ⟨e2, f2⟩ | ⟨a, b, e2, f2, la, ha, lb, hb, hza⟩
      · skip
        iterate 3 (refine zv_step (bX7_inside (2 * z + 2)) rfl rfl trivial ?_)
        refine zv_iale (bX7_inside (2 * z + 2)) rfl rfl (vp_in_nI (by omega) (by decide)) (show A 3 (nI n).toNatClampNeg = m2 by rw [nI_clamp (by omega)]; exact e2) ?_
        iterate 1 (refine zv_step (bX7_inside (2 * z + 2)) rfl rfl trivial ?_)
        refine zv_iff (by decide) ?_
        iterate 3 (refine zv_step (bX7_inside (2 * z + 2)) rfl rfl trivial ?_)
        exact zv_iret (bX7_inside (2 * z + 2)) rfl (Or.inl rfl) (Nat.zero_le _) (Nat.zero_le _) ⟨rfl, _, rfl⟩
      · skip
        iterate 3 (refine zv_step (bX7_inside (2 * z + 2)) rfl rfl trivial ?_)
        refine zv_iale (bX7_inside (2 * z + 2)) rfl rfl (vp_in_nI (by omega) (by decide)) (show A 3 (nI n).toNatClampNeg = nI a by rw [nI_clamp (by omega)]; exact e2) ?_
        iterate 1 (refine zv_step (bX7_inside (2 * z + 2)) rfl rfl trivial ?_)
        refine zv_ift (nI_pos' (by omega)) ?_
        iterate 4 (refine zv_step (bX7_inside (2 * z + 2)) rfl rfl trivial ?_)
        refine zv_iale (bX7_inside (2 * z + 2)) rfl rfl (vp_in_nI (by omega) (by decide)) (show A 3 (nI n).toNatClampNeg = nI a by rw [nI_clamp (by omega)]; exact e2) ?_
        iterate 3 (refine zv_step (bX7_inside (2 * z + 2)) rfl rfl trivial ?_)
        refine zv_iale (bX7_inside (2 * z + 2)) rfl rfl (vp_in_nI (by omega) (by decide)) (show A 3 (nI m).toNatClampNeg = nI b by rw [nI_clamp (by omega)]; exact f2) ?_
        refine zv_V2 (bX7_inside (2 * z + 2)) rfl rfl rfl rfl rfl rfl rfl ⟨rfl, rfl, rfl⟩ ⟨by show 2 * z + 1 + 1 ≤ 2 * z + 2; omega, by show 8 + (5 + 11) + 64 * (2 * z + 1) ≤ 64 * (2 * z + 2); omega⟩ ⟨Nat.zero_le _, Nat.zero_le _⟩ (ih a b (by omega) (by omega) (by omega) (by omega) (by omega)) ?_
        rintro _ _ ⟨rfl, v78, rfl⟩
        iterate 1 (refine zv_step (bX7_inside (2 * z + 2)) rfl rfl trivial ?_)
        exact zv_iret (bX7_inside (2 * z + 2)) rfl (Or.inl rfl) (Nat.zero_le _) (Nat.zero_le _) ⟨rfl, _, rfl⟩
set_option maxHeartbeats 1000000 in
set_option maxRecDepth 20000 in
theorem mDiff (f : Nat → zC) (o : Nat → Int32) (A : Nat → Nat → Int32) (J : Nat → Nat → Int64) {lo hi : Nat} (hh : hi ≤ 450) (hT : tbI lo hi A) : ∀ (z n m : Nat), lo ≤ n → n < hi → lo ≤ m → m < hi → szN A n ≤ z → zK (2 * z + 1) zX7_difference [.ref 76, .int (nI n), .int (nI m)] (wR f o A J) (fun r w' => w' = (wR f o A J) ∧ ∃ v : Int32, r = some (.int v)) := by
  intro z
  induction z with
  | zero =>
    intro n m hlo hn _ _ hz
    have := (rN_sz (hT n hlo hn)).1
    omega
  | succ z ih =>
    intro n m hlo hn hlo2 hm hz
    refine zK_of qX7_difference (by decide +kernel) rfl ?_
    iterate 3 (refine zv_step (bX7_difference (2 * (z + 1) + 1)) rfl rfl trivial ?_)
    refine zv_iale (bX7_difference (2 * (z + 1) + 1)) rfl rfl (vp_in_nI (by omega) (by decide)) (show A 4 (nI n).toNatClampNeg = A 4 n by rw [nI_clamp (by omega)]) ?_
    iterate 3 (refine zv_step (bX7_difference (2 * (z + 1) + 1)) rfl rfl trivial ?_)
    refine zv_iale (bX7_difference (2 * (z + 1) + 1)) rfl rfl (vp_in_nI (by omega) (by decide)) (show A 4 (nI m).toNatClampNeg = A 4 m by rw [nI_clamp (by omega)]) ?_
    iterate 5 (refine zv_step (bX7_difference (2 * (z + 1) + 1)) rfl rfl trivial ?_)
    refine zv_iale (bX7_difference (2 * (z + 1) + 1)) rfl rfl (vp_in_nI (by omega) (by decide)) (show A 0 (nI n).toNatClampNeg = A 0 n by rw [nI_clamp (by omega)]) ?_
    iterate 3 (refine zv_step (bX7_difference (2 * (z + 1) + 1)) rfl rfl trivial ?_)
    refine zv_iale (bX7_difference (2 * (z + 1) + 1)) rfl rfl (vp_in_nI (by omega) (by decide)) (show A 0 (nI m).toNatClampNeg = A 0 m by rw [nI_clamp (by omega)]) ?_
    iterate 1 (refine zv_step (bX7_difference (2 * (z + 1) + 1)) rfl rfl trivial ?_)
    refine zv_ifb (fun h26 => ?_) (fun h26 => ?_)
    · iterate 5 (refine zv_step (bX7_difference (2 * (z + 1) + 1)) rfl rfl trivial ?_)
      refine zv_ifb (fun h44 => ?_) (fun h44 => ?_)
      · iterate 1 (refine zv_step (bX7_difference (2 * (z + 1) + 1)) rfl rfl trivial ?_)
        exact zv_iret (bX7_difference (2 * (z + 1) + 1)) rfl (Or.inl rfl) (Nat.zero_le _) (Nat.zero_le _) ⟨rfl, _, rfl⟩
      · iterate 2 (refine zv_step (bX7_difference (2 * (z + 1) + 1)) rfl rfl trivial ?_)
        exact zv_iret (bX7_difference (2 * (z + 1) + 1)) rfl (Or.inl rfl) (Nat.zero_le _) (Nat.zero_le _) ⟨rfl, _, rfl⟩
    · iterate 3 (refine zv_step (bX7_difference (2 * (z + 1) + 1)) rfl rfl trivial ?_)
      refine zv_V2 (bX7_difference (2 * (z + 1) + 1)) rfl rfl rfl rfl rfl rfl rfl ⟨rfl, rfl, rfl⟩ ⟨by show 2 * z + 2 + 1 ≤ 2 * (z + 1) + 1; omega, by show 8 + (4 + 11) + 64 * (2 * z + 2) ≤ 64 * (2 * (z + 1) + 1); omega⟩ ⟨Nat.zero_le _, Nat.zero_le _⟩ (mInside f o A J hh hT ih hlo hn hlo2 hm hz (Decidable.not_not.mp h26)) ?_
      rintro _ _ ⟨rfl, v, rfl⟩
      iterate 5 (refine zv_step (bX7_difference (2 * (z + 1) + 1)) rfl rfl trivial ?_)
      refine zv_ifb (fun h44 => ?_) (fun h44 => ?_)
      · iterate 1 (refine zv_step (bX7_difference (2 * (z + 1) + 1)) rfl rfl trivial ?_)
        exact zv_iret (bX7_difference (2 * (z + 1) + 1)) rfl (Or.inl rfl) (Nat.zero_le _) (Nat.zero_le _) ⟨rfl, _, rfl⟩
      · iterate 2 (refine zv_step (bX7_difference (2 * (z + 1) + 1)) rfl rfl trivial ?_)
        exact zv_iret (bX7_difference (2 * (z + 1) + 1)) rfl (Or.inl rfl) (Nat.zero_le _) (Nat.zero_le _) ⟨rfl, _, rfl⟩
set_option maxHeartbeats 1000000 in
set_option maxRecDepth 20000 in
theorem mWholes (f : Nat → zC) (o : Nat → Int32) (A : Nat → Nat → Int32) (J : Nat → Nat → Int64) {lo hi : Nat} (hh : hi ≤ 450) (hT : tbI lo hi A) : ∀ (z n m : Nat), lo ≤ n → n < hi → lo ≤ m → m < hi → szN A n ≤ z → zK (z + 84) zX7_wholes [.ref 76, .int (nI n), .int (nI m)] (wR f o A J) (fun r w' => w' = (wR f o A J) ∧ ∃ v : Int32, r = some (.int v)) := by
  intro z
  induction z with
  | zero =>
    intro n m hlo hn _ _ hz
    have := (rN_sz (hT n hlo hn)).1
    omega
  | succ z ih =>
    intro n m hlo hn hlo2 hm hz
    refine zK_of qX7_wholes (by decide +kernel) rfl ?_
    iterate 3 (refine zv_step (bX7_wholes (z + 1 + 84)) rfl rfl trivial ?_)
    refine zv_iale (bX7_wholes (z + 1 + 84)) rfl rfl (vp_in_nI (by omega) (by decide)) (show A 0 (nI n).toNatClampNeg = A 0 n by rw [nI_clamp (by omega)]) ?_
    iterate 3 (refine zv_step (bX7_wholes (z + 1 + 84)) rfl rfl trivial ?_)
    refine zv_iale (bX7_wholes (z + 1 + 84)) rfl rfl (vp_in_nI (by omega) (by decide)) (show A 0 (nI m).toNatClampNeg = A 0 m by rw [nI_clamp (by omega)]) ?_
    iterate 1 (refine zv_step (bX7_wholes (z + 1 + 84)) rfl rfl trivial ?_)
    refine zv_ifb (fun h12 => ?_) (fun h12 => ?_)
    · iterate 1 (refine zv_step (bX7_wholes (z + 1 + 84)) rfl rfl trivial ?_)
      exact zv_iret (bX7_wholes (z + 1 + 84)) rfl (Or.inl rfl) (Nat.zero_le _) (Nat.zero_le _) ⟨rfl, _, rfl⟩
    · iterate 3 (refine zv_step (bX7_wholes (z + 1 + 84)) rfl rfl trivial ?_)
      refine zv_V2 (bX7_wholes (z + 1 + 84)) rfl rfl rfl rfl rfl rfl rfl ⟨rfl, rfl, rfl⟩ ⟨by show 2 * 40 + 2 + 1 ≤ z + 1 + 84; omega, by show 8 + (4 + 11) + 64 * (2 * 40 + 2) ≤ 64 * (z + 1 + 84); omega⟩ ⟨Nat.zero_le _, Nat.zero_le _⟩ (mInside f o A J hh hT (z := 40) (mDiff f o A J hh hT 40) hlo hn hlo2 hm (by have := (rN_sz (hT n hlo hn)).2.1; omega) (Decidable.not_not.mp h12)) ?_
      rintro _ _ ⟨rfl, v, rfl⟩
      iterate 3 (refine zv_step (bX7_wholes (z + 1 + 84)) rfl rfl trivial ?_)
      refine zv_iale (bX7_wholes (z + 1 + 84)) rfl rfl (vp_in_nI (by omega) (by decide)) (show A 4 (nI n).toNatClampNeg = A 4 n by rw [nI_clamp (by omega)]) ?_
      iterate 3 (refine zv_step (bX7_wholes (z + 1 + 84)) rfl rfl trivial ?_)
      refine zv_iale (bX7_wholes (z + 1 + 84)) rfl rfl (vp_in_nI (by omega) (by decide)) (show A 4 (nI m).toNatClampNeg = A 4 m by rw [nI_clamp (by omega)]) ?_
      iterate 2 (refine zv_step (bX7_wholes (z + 1 + 84)) rfl rfl trivial ?_)
      refine zv_ifb (fun h34 => ?_) (fun h34 => ?_)
      · obtain ⟨s2, s3⟩ := rN_same (hT n hlo hn) (hT m hlo2 hm) (Decidable.not_not.mp h12)
        rcases s2 with ⟨e2, f2⟩ | ⟨a, b, e2, f2, la, ha, lb, hb, hza⟩
        · skip
          iterate 3 (refine zv_step (bX7_wholes (z + 1 + 84)) rfl rfl trivial ?_)
          refine zv_iale (bX7_wholes (z + 1 + 84)) rfl rfl (vp_in_nI (by omega) (by decide)) (show A 2 (nI n).toNatClampNeg = m2 by rw [nI_clamp (by omega)]; exact e2) ?_
          iterate 1 (refine zv_step (bX7_wholes (z + 1 + 84)) rfl rfl trivial ?_)
          refine zv_iff (by decide) ?_
          iterate 2 (refine zv_step (bX7_wholes (z + 1 + 84)) rfl rfl trivial ?_)
          rcases s3 with ⟨e2, f2⟩ | ⟨a, b, e2, f2, la, ha, lb, hb, hza⟩
          · skip
            iterate 3 (refine zv_step (bX7_wholes (z + 1 + 84)) rfl rfl trivial ?_)
            refine zv_iale (bX7_wholes (z + 1 + 84)) rfl rfl (vp_in_nI (by omega) (by decide)) (show A 3 (nI n).toNatClampNeg = m2 by rw [nI_clamp (by omega)]; exact e2) ?_
            iterate 1 (refine zv_step (bX7_wholes (z + 1 + 84)) rfl rfl trivial ?_)
            refine zv_iff (by decide) ?_
            iterate 3 (refine zv_step (bX7_wholes (z + 1 + 84)) rfl rfl trivial ?_)
            exact zv_iret (bX7_wholes (z + 1 + 84)) rfl (Or.inl rfl) (Nat.zero_le _) (Nat.zero_le _) ⟨rfl, _, rfl⟩
          · skip
            iterate 3 (refine zv_step (bX7_wholes (z + 1 + 84)) rfl rfl trivial ?_)
            refine zv_iale (bX7_wholes (z + 1 + 84)) rfl rfl (vp_in_nI (by omega) (by decide)) (show A 3 (nI n).toNatClampNeg = nI a by rw [nI_clamp (by omega)]; exact e2) ?_
            iterate 1 (refine zv_step (bX7_wholes (z + 1 + 84)) rfl rfl trivial ?_)
            refine zv_ift (nI_pos' (by omega)) ?_
            iterate 4 (refine zv_step (bX7_wholes (z + 1 + 84)) rfl rfl trivial ?_)
            refine zv_iale (bX7_wholes (z + 1 + 84)) rfl rfl (vp_in_nI (by omega) (by decide)) (show A 3 (nI n).toNatClampNeg = nI a by rw [nI_clamp (by omega)]; exact e2) ?_
            iterate 3 (refine zv_step (bX7_wholes (z + 1 + 84)) rfl rfl trivial ?_)
            refine zv_iale (bX7_wholes (z + 1 + 84)) rfl rfl (vp_in_nI (by omega) (by decide)) (show A 3 (nI m).toNatClampNeg = nI b by rw [nI_clamp (by omega)]; exact f2) ?_
            refine zv_V2 (bX7_wholes (z + 1 + 84)) rfl rfl rfl rfl rfl rfl rfl ⟨rfl, rfl, rfl⟩ ⟨by show z + 84 + 1 ≤ z + 1 + 84; omega, by show 8 + (3 + 11) + 64 * (z + 84) ≤ 64 * (z + 1 + 84); omega⟩ ⟨Nat.zero_le _, Nat.zero_le _⟩ (ih a b (by omega) (by omega) (by omega) (by omega) (by omega)) ?_
            rintro _ _ ⟨rfl, v94, rfl⟩
            iterate 1 (refine zv_step (bX7_wholes (z + 1 + 84)) rfl rfl trivial ?_)
            exact zv_iret (bX7_wholes (z + 1 + 84)) rfl (Or.inl rfl) (Nat.zero_le _) (Nat.zero_le _) ⟨rfl, _, rfl⟩
        · skip
          iterate 3 (refine zv_step (bX7_wholes (z + 1 + 84)) rfl rfl trivial ?_)
          refine zv_iale (bX7_wholes (z + 1 + 84)) rfl rfl (vp_in_nI (by omega) (by decide)) (show A 2 (nI n).toNatClampNeg = nI a by rw [nI_clamp (by omega)]; exact e2) ?_
          iterate 1 (refine zv_step (bX7_wholes (z + 1 + 84)) rfl rfl trivial ?_)
          refine zv_ift (nI_pos' (by omega)) ?_
          iterate 4 (refine zv_step (bX7_wholes (z + 1 + 84)) rfl rfl trivial ?_)
          refine zv_iale (bX7_wholes (z + 1 + 84)) rfl rfl (vp_in_nI (by omega) (by decide)) (show A 2 (nI n).toNatClampNeg = nI a by rw [nI_clamp (by omega)]; exact e2) ?_
          iterate 3 (refine zv_step (bX7_wholes (z + 1 + 84)) rfl rfl trivial ?_)
          refine zv_iale (bX7_wholes (z + 1 + 84)) rfl rfl (vp_in_nI (by omega) (by decide)) (show A 2 (nI m).toNatClampNeg = nI b by rw [nI_clamp (by omega)]; exact f2) ?_
          refine zv_V2 (bX7_wholes (z + 1 + 84)) rfl rfl rfl rfl rfl rfl rfl ⟨rfl, rfl, rfl⟩ ⟨by show z + 84 + 1 ≤ z + 1 + 84; omega, by show 8 + (3 + 11) + 64 * (z + 84) ≤ 64 * (z + 1 + 84); omega⟩ ⟨Nat.zero_le _, Nat.zero_le _⟩ (ih a b (by omega) (by omega) (by omega) (by omega) (by omega)) ?_
          rintro _ _ ⟨rfl, v65, rfl⟩
          rcases s3 with ⟨e2, f2⟩ | ⟨a, b, e2, f2, la, ha, lb, hb, hza⟩
          · skip
            iterate 3 (refine zv_step (bX7_wholes (z + 1 + 84)) rfl rfl trivial ?_)
            refine zv_iale (bX7_wholes (z + 1 + 84)) rfl rfl (vp_in_nI (by omega) (by decide)) (show A 3 (nI n).toNatClampNeg = m2 by rw [nI_clamp (by omega)]; exact e2) ?_
            iterate 1 (refine zv_step (bX7_wholes (z + 1 + 84)) rfl rfl trivial ?_)
            refine zv_iff (by decide) ?_
            iterate 3 (refine zv_step (bX7_wholes (z + 1 + 84)) rfl rfl trivial ?_)
            exact zv_iret (bX7_wholes (z + 1 + 84)) rfl (Or.inl rfl) (Nat.zero_le _) (Nat.zero_le _) ⟨rfl, _, rfl⟩
          · skip
            iterate 3 (refine zv_step (bX7_wholes (z + 1 + 84)) rfl rfl trivial ?_)
            refine zv_iale (bX7_wholes (z + 1 + 84)) rfl rfl (vp_in_nI (by omega) (by decide)) (show A 3 (nI n).toNatClampNeg = nI a by rw [nI_clamp (by omega)]; exact e2) ?_
            iterate 1 (refine zv_step (bX7_wholes (z + 1 + 84)) rfl rfl trivial ?_)
            refine zv_ift (nI_pos' (by omega)) ?_
            iterate 4 (refine zv_step (bX7_wholes (z + 1 + 84)) rfl rfl trivial ?_)
            refine zv_iale (bX7_wholes (z + 1 + 84)) rfl rfl (vp_in_nI (by omega) (by decide)) (show A 3 (nI n).toNatClampNeg = nI a by rw [nI_clamp (by omega)]; exact e2) ?_
            iterate 3 (refine zv_step (bX7_wholes (z + 1 + 84)) rfl rfl trivial ?_)
            refine zv_iale (bX7_wholes (z + 1 + 84)) rfl rfl (vp_in_nI (by omega) (by decide)) (show A 3 (nI m).toNatClampNeg = nI b by rw [nI_clamp (by omega)]; exact f2) ?_
            refine zv_V2 (bX7_wholes (z + 1 + 84)) rfl rfl rfl rfl rfl rfl rfl ⟨rfl, rfl, rfl⟩ ⟨by show z + 84 + 1 ≤ z + 1 + 84; omega, by show 8 + (3 + 11) + 64 * (z + 84) ≤ 64 * (z + 1 + 84); omega⟩ ⟨Nat.zero_le _, Nat.zero_le _⟩ (ih a b (by omega) (by omega) (by omega) (by omega) (by omega)) ?_
            rintro _ _ ⟨rfl, v94, rfl⟩
            iterate 1 (refine zv_step (bX7_wholes (z + 1 + 84)) rfl rfl trivial ?_)
            exact zv_iret (bX7_wholes (z + 1 + 84)) rfl (Or.inl rfl) (Nat.zero_le _) (Nat.zero_le _) ⟨rfl, _, rfl⟩
      · iterate 1 (refine zv_step (bX7_wholes (z + 1 + 84)) rfl rfl trivial ?_)
        exact zv_iret (bX7_wholes (z + 1 + 84)) rfl (Or.inl rfl) (Nat.zero_le _) (Nat.zero_le _) ⟨rfl, _, rfl⟩
set_option maxHeartbeats 1000000 in
set_option maxRecDepth 20000 in
theorem mChanged (f : Nat → zC) (o : Nat → Int32) (A : Nat → Nat → Int32) (J : Nat → Nat → Int64) {u : Nat} (hu : u ≤ 120) (ho : o 0 = nI u) (hT : tbI 0 u A) (x y : Int32) : zK 82 zX7_changed [.ref 76, .int x, .int y] (wR f o A J) (fun r w' => w' = (wR f o A J) ∧ ∃ v : Int32, r = some (.int v)) := by
  refine zK_of qX7_changed (by decide +kernel) rfl ?_
  iterate 2 (refine zv_step (bX7_changed 82) rfl rfl trivial ?_)
  refine zv_V1 (bX7_changed 82) rfl rfl rfl rfl rfl rfl rfl ⟨rfl, rfl, rfl⟩ ⟨by decide, by decide⟩ ⟨Nat.zero_le _, Nat.zero_le _⟩ (mIsNode f o A J hu ho _) ?_
  rintro _ _ ⟨rfl, ⟨g1, rfl⟩ | ⟨g1, rfl⟩⟩
  · obtain ⟨n, hn, rfl⟩ := nd_of (by omega) g1
    iterate 1 (refine zv_step (bX7_changed 82) rfl rfl trivial ?_)
    refine zv_iff (by decide) ?_
    iterate 2 (refine zv_step (bX7_changed 82) rfl rfl trivial ?_)
    refine zv_V1 (bX7_changed 82) rfl rfl rfl rfl rfl rfl rfl ⟨rfl, rfl, rfl⟩ ⟨by decide, by decide⟩ ⟨Nat.zero_le _, Nat.zero_le _⟩ (mIsNode f o A J hu ho _) ?_
    rintro _ _ ⟨rfl, ⟨g2, rfl⟩ | ⟨g2, rfl⟩⟩
    · obtain ⟨m, hm, rfl⟩ := nd_of (by omega) g2
      iterate 1 (refine zv_step (bX7_changed 82) rfl rfl trivial ?_)
      refine zv_iff (by decide) ?_
      iterate 3 (refine zv_step (bX7_changed 82) rfl rfl trivial ?_)
      refine zv_V2 (bX7_changed 82) rfl rfl rfl rfl rfl rfl rfl ⟨rfl, rfl, rfl⟩ ⟨by decide, by decide⟩ ⟨Nat.zero_le _, Nat.zero_le _⟩ (mDiff f o A J (by omega) hT 40 n m (Nat.zero_le _) hn (Nat.zero_le _) hm (rN_sz (hT n (Nat.zero_le _) hn)).2.1) ?_
      rintro _ _ ⟨rfl, v, rfl⟩
      iterate 1 (refine zv_step (bX7_changed 82) rfl rfl trivial ?_)
      exact zv_iret (bX7_changed 82) rfl (Or.inl rfl) (Nat.zero_le _) (Nat.zero_le _) ⟨rfl, _, rfl⟩
    · skip
      iterate 1 (refine zv_step (bX7_changed 82) rfl rfl trivial ?_)
      refine zv_ift (by decide) ?_
      iterate 1 (refine zv_step (bX7_changed 82) rfl rfl trivial ?_)
      exact zv_iret (bX7_changed 82) rfl (Or.inl rfl) (Nat.zero_le _) (Nat.zero_le _) ⟨rfl, _, rfl⟩
  · skip
    iterate 1 (refine zv_step (bX7_changed 82) rfl rfl trivial ?_)
    refine zv_ift (by decide) ?_
    iterate 1 (refine zv_step (bX7_changed 82) rfl rfl trivial ?_)
    exact zv_iret (bX7_changed 82) rfl (Or.inl rfl) (Nat.zero_le _) (Nat.zero_le _) ⟨rfl, _, rfl⟩
set_option maxHeartbeats 1000000 in
set_option maxRecDepth 20000 in
theorem mExchanged (f : Nat → zC) (o : Nat → Int32) (A : Nat → Nat → Int32) (J : Nat → Nat → Int64) {u : Nat} (hu : u ≤ 120) (ho : o 0 = nI u) (hT : tbI 0 u A) (x y : Int32) : zK 125 zX7_exchanged [.ref 76, .int x, .int y] (wR f o A J) (fun r w' => w' = (wR f o A J) ∧ ∃ v : Int32, r = some (.int v)) := by
  refine zK_of qX7_exchanged (by decide +kernel) rfl ?_
  iterate 2 (refine zv_step (bX7_exchanged 125) rfl rfl trivial ?_)
  refine zv_V1 (bX7_exchanged 125) rfl rfl rfl rfl rfl rfl rfl ⟨rfl, rfl, rfl⟩ ⟨by decide, by decide⟩ ⟨Nat.zero_le _, Nat.zero_le _⟩ (mIsNode f o A J hu ho _) ?_
  rintro _ _ ⟨rfl, ⟨g1, rfl⟩ | ⟨g1, rfl⟩⟩
  · obtain ⟨n, hn, rfl⟩ := nd_of (by omega) g1
    iterate 1 (refine zv_step (bX7_exchanged 125) rfl rfl trivial ?_)
    refine zv_iff (by decide) ?_
    iterate 2 (refine zv_step (bX7_exchanged 125) rfl rfl trivial ?_)
    refine zv_V1 (bX7_exchanged 125) rfl rfl rfl rfl rfl rfl rfl ⟨rfl, rfl, rfl⟩ ⟨by decide, by decide⟩ ⟨Nat.zero_le _, Nat.zero_le _⟩ (mIsNode f o A J hu ho _) ?_
    rintro _ _ ⟨rfl, ⟨g2, rfl⟩ | ⟨g2, rfl⟩⟩
    · obtain ⟨m, hm, rfl⟩ := nd_of (by omega) g2
      iterate 1 (refine zv_step (bX7_exchanged 125) rfl rfl trivial ?_)
      refine zv_iff (by decide) ?_
      iterate 3 (refine zv_step (bX7_exchanged 125) rfl rfl trivial ?_)
      refine zv_V2 (bX7_exchanged 125) rfl rfl rfl rfl rfl rfl rfl ⟨rfl, rfl, rfl⟩ ⟨by decide, by decide⟩ ⟨Nat.zero_le _, Nat.zero_le _⟩ (mWholes f o A J (by omega) hT 40 n m (Nat.zero_le _) hn (Nat.zero_le _) hm (rN_sz (hT n (Nat.zero_le _) hn)).2.1) ?_
      rintro _ _ ⟨rfl, v, rfl⟩
      iterate 1 (refine zv_step (bX7_exchanged 125) rfl rfl trivial ?_)
      exact zv_iret (bX7_exchanged 125) rfl (Or.inl rfl) (Nat.zero_le _) (Nat.zero_le _) ⟨rfl, _, rfl⟩
    · skip
      iterate 1 (refine zv_step (bX7_exchanged 125) rfl rfl trivial ?_)
      refine zv_ift (by decide) ?_
      iterate 1 (refine zv_step (bX7_exchanged 125) rfl rfl trivial ?_)
      exact zv_iret (bX7_exchanged 125) rfl (Or.inl rfl) (Nat.zero_le _) (Nat.zero_le _) ⟨rfl, _, rfl⟩
  · skip
    iterate 1 (refine zv_step (bX7_exchanged 125) rfl rfl trivial ?_)
    refine zv_ift (by decide) ?_
    iterate 1 (refine zv_step (bX7_exchanged 125) rfl rfl trivial ?_)
    exact zv_iret (bX7_exchanged 125) rfl (Or.inl rfl) (Nat.zero_le _) (Nat.zero_le _) ⟨rfl, _, rfl⟩
set_option maxHeartbeats 1000000 in
set_option maxRecDepth 20000 in
theorem funL (f : Nat → zC) (o : Nat → Int32) (A : Nat → Nat → Int32) (J : Nat → Nat → Int64) {n0 : Nat} : ∀ (c k : Nat), k + c = 10 → ∀ {x2 v : Int32}, x2 = nI k → zV (zMo 0 zX7_functions) false n0 0 0 4 [(2, .int x2), (1, .int v), (0, .ref 76)] [] (wR f o A J) (fun r w' => w' = (wR f o A J) ∧ ∃ v : Int32, r = some (.int v)) := by
  intro c
  induction c with
  | zero =>
    intro k hc x2 v e2
    subst e2
    iterate 3 (refine zv_step (bX7_functions 0) rfl rfl trivial ?_)
    refine zv_ift (show nI 10 ≤ nI k from nI_le (by omega) (by omega)) ?_
    iterate 1 (refine zv_step (bX7_functions 0) rfl rfl trivial ?_)
    exact zv_iret (bX7_functions 0) rfl (Or.inl rfl) (Nat.zero_le _) (Nat.zero_le _) ⟨rfl, _, rfl⟩
  | succ c ih =>
    intro k hc x2 v e2
    subst e2
    iterate 3 (refine zv_step (bX7_functions 0) rfl rfl trivial ?_)
    refine zv_iff (show ¬ nI 10 ≤ nI k from fun h => absurd ((nI_leI (by omega) (by omega)).mp h) (by omega)) ?_
    iterate 4 (refine zv_step (bX7_functions 0) rfl rfl trivial ?_)
    refine zv_step (bX7_functions 0) rfl rfl (vp_in_nI (by omega) (by decide)) ?_
    iterate 1 (refine zv_step (bX7_functions 0) rfl rfl trivial ?_)
    refine zv_ifb (fun h17 => ?_) (fun h17 => ?_)
    · iterate 5 (refine zv_step (bX7_functions 0) rfl rfl trivial ?_)
      refine zv_locals (l := [(2, .int (nI k + Int32.ofInt 1)), (1, .int (v + Int32.ofInt 0)), (0, .ref 76)]) (l' := [(2, .int (nI k + Int32.ofInt 1)), (1, .int (v + Int32.ofInt 0)), (0, .ref 76)]) (fun q h => h) (ih (k + 1) (by omega) (nI_1 k))
    · iterate 6 (refine zv_step (bX7_functions 0) rfl rfl trivial ?_)
      refine zv_locals (l := [(2, .int (nI k + Int32.ofInt 1)), (1, .int (v + Int32.ofInt 1)), (0, .ref 76)]) (l' := [(2, .int (nI k + Int32.ofInt 1)), (1, .int (v + Int32.ofInt 1)), (0, .ref 76)]) (fun q h => h) (ih (k + 1) (by omega) (nI_1 k))
set_option maxHeartbeats 1000000 in
set_option maxRecDepth 20000 in
theorem mFunctions (f : Nat → zC) (o : Nat → Int32) (A : Nat → Nat → Int32) (J : Nat → Nat → Int64) : zK 0 zX7_functions [.ref 76] (wR f o A J) (fun r w' => w' = (wR f o A J) ∧ ∃ v : Int32, r = some (.int v)) := by
  refine zK_of qX7_functions (by decide +kernel) rfl ?_
  iterate 4 (refine zv_step (bX7_functions 0) rfl rfl trivial ?_)
  refine zv_locals (l := [(2, .int (Int32.ofInt 0)), (1, .int (Int32.ofInt 0)), (0, .ref 76)]) (l' := [(2, .int (Int32.ofInt 0)), (1, .int (Int32.ofInt 0)), (0, .ref 76)]) (fun q h => h) (funL f o A J 10 0 rfl rfl)
set_option maxHeartbeats 1000000 in
set_option maxRecDepth 20000 in
theorem mCount (f : Nat → zC) (o : Nat → Int32) (A : Nat → Nat → Int32) (J : Nat → Nat → Int64) (x : Int32) : zK 1 zX7_count [.ref 76, .int x] (wR f o A J) (fun r w' => w' = (wR f o A J) ∧ ∃ v : Int32, r = some (.int v)) := by
  refine zK_of qX7_count (by decide +kernel) rfl ?_
  iterate 2 (refine zv_step (bX7_count 1) rfl rfl trivial ?_)
  refine zv_ifb (fun h1 => ?_) (fun h1 => ?_)
  · iterate 3 (refine zv_step (bX7_count 1) rfl rfl trivial ?_)
    refine zv_ifb (fun h13 => ?_) (fun h13 => ?_)
    · iterate 3 (refine zv_step (bX7_count 1) rfl rfl trivial ?_)
      refine zv_ifb (fun h25 => ?_) (fun h25 => ?_)
      · iterate 1 (refine zv_step (bX7_count 1) rfl rfl trivial ?_)
        exact zv_iret (bX7_count 1) rfl (Or.inl rfl) (Nat.zero_le _) (Nat.zero_le _) ⟨rfl, _, rfl⟩
      · iterate 1 (refine zv_step (bX7_count 1) rfl rfl trivial ?_)
        refine zv_V0 (bX7_count 1) rfl rfl rfl rfl rfl rfl rfl ⟨rfl, rfl, rfl⟩ ⟨by decide, by decide⟩ ⟨Nat.zero_le _, Nat.zero_le _⟩ (mFunctions f o A J) ?_
        rintro _ _ ⟨rfl, v, rfl⟩
        iterate 1 (refine zv_step (bX7_count 1) rfl rfl trivial ?_)
        exact zv_iret (bX7_count 1) rfl (Or.inl rfl) (Nat.zero_le _) (Nat.zero_le _) ⟨rfl, _, rfl⟩
    · iterate 3 (refine zv_step (bX7_count 1) rfl rfl trivial ?_)
      exact zv_iret (bX7_count 1) rfl (Or.inl rfl) (Nat.zero_le _) (Nat.zero_le _) ⟨rfl, _, rfl⟩
  · iterate 3 (refine zv_step (bX7_count 1) rfl rfl trivial ?_)
    exact zv_iret (bX7_count 1) rfl (Or.inl rfl) (Nat.zero_le _) (Nat.zero_le _) ⟨rfl, _, rfl⟩
end
