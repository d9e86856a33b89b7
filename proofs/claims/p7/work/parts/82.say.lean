/-- the reference's world with q words said, m NODES asked, the words g -/
abbrev wZ (f : Nat → zC) (o : Nat → Int32) (A : Nat → Nat → Int32) (J : Nat → Nat → Int64) (q : Nat) (m : Int32) (g : Nat → Int32) : zW := wQ f (upd o 20 m) A J q g
theorem nI_dec (k : Nat) : nI (k + 1) + Int32.ofInt (-1) = nI k := by
  rw [nI_succ, Int32.add_assoc, show (1 : Int32) + Int32.ofInt (-1) = 0 from rfl, Int32.add_zero]
/-- all words so far are words -/
def nnW (q : Nat) (g : Nat → Int32) : Prop := ∀ i, i < q → ∃ e : Nat, e ≤ 31 ∧ g i = nI e
theorem nnW_s {q : Nat} {g : Nat → Int32} {v : Int32} (h : nnW q g) (hv : ∃ e : Nat, e ≤ 31 ∧ v = nI e) : nnW (q + 1) (upd g q v) := by
  intro i hi
  by_cases e : i = q
  · subst e
    rw [upd_self]
    exact hv
  · rw [upd_ne _ _ e]
    exact h i (by omega)
theorem nI_div {a b : Nat} (ha : a < 2 ^ 31) (hb : b < 2 ^ 31) (h0 : 0 < b) : nI a / nI b = nI (a / b) := by
  have hq : a / b ≤ a := Nat.div_le_self a b
  rw [← Int32.toInt_inj, nI_toInt (by omega), Int32.toInt_div, nI_toInt ha, nI_toInt hb, ← Int.ofNat_tdiv]
  generalize a / b = c at hq ⊢
  exact Int.bmod_eq_of_le (by omega) (by omega)
theorem nI_mul (a b : Nat) : nI a * nI b = nI (a * b) := (Int32.ofNat_mul a b).symm
theorem nI_sub {a b : Nat} (h : b ≤ a) : nI a - nI b = nI (a - b) := by
  have e : nI (a - b) + nI b = nI a := by rw [nI_add, Nat.sub_add_cancel h]
  rw [← e, Int32.add_sub_cancel]
theorem nI_rem {a : Nat} (ha : a < 2 ^ 31) : nI a - nI a / c8 10 * c8 10 = nI (a % 10) := by
  rw [show c8 10 = nI 10 from rfl, nI_div ha (by decide) (by decide), nI_mul, nI_sub (Nat.div_mul_le_self a 10)]
  congr 1
  have := Nat.div_add_mod a 10
  omega
theorem dig_w {x : Int32} {v k : Nat} (e : x = nI v) (hv : v ≤ 9999) (hk : k ≤ 3) : ∃ w : Nat, w ≤ 31 ∧ c8 10 + (x / nI (10 ^ k) - x / nI (10 ^ k) / c8 10 * c8 10) = nI w := by
  have hp : 0 < 10 ^ k := Nat.pow_pos (by decide)
  have hp2 : 10 ^ k ≤ 10 ^ 3 := Nat.pow_le_pow_right (by decide) hk
  have hq : v / 10 ^ k ≤ v := Nat.div_le_self v _
  subst e
  rw [nI_div (by omega) (by omega) hp, nI_rem (by omega)]
  exact ⟨10 + v / 10 ^ k % 10, by omega, (nI_add 10 _)⟩
theorem mDigitsE (w : zW) {x : Int32} {d : Nat} (h : dgN x = d) : zK 0 zX7_digits [.int x] w (fun r w' => w' = w ∧ r = some (.int (nI d))) := h ▸ mDigits w x
set_option maxHeartbeats 1000000 in
set_option maxRecDepth 20000 in
theorem mKeepsIt (f : Nat → zC) (o : Nat → Int32) (A : Nat → Nat → Int32) (J : Nat → Nat → Int64) (hB : blI A) {s n kd : Nat} (hs : s < 8) (hn : n < 450) (hkd : kd < 10) (h0 : A 0 n = nI kd) (q : Nat) (m : Int32) (g : Nat → Int32) : zK 1 zX7_keepsIt [.ref 76, .int (nI s), .int (nI n)] (wZ f o A J q m g) (fun r w' => ∃ (m' c : Int32), w' = wZ f o A J q m' g ∧ r = some (.int c) ∧ (c = 0 ∨ c = 1) ∧ (o 19 < 0 → c = A 7 (10 * s + kd))) := by
  have e1 : (nI n).toNatClampNeg = n := nI_clamp (by omega)
  have hv : vp_in (nI n) 450 := vp_in_nI (by omega) (by decide)
  refine zK_of qX7_keepsIt (by decide +kernel) rfl ?_
  iterate 3 (refine zv_step (bX7_keepsIt 1) rfl rfl trivial ?_)
  refine zv_ifb (fun h4 => ?_) (fun h4 => ?_)
  · iterate 8 (refine zv_step (bX7_keepsIt 1) rfl rfl trivial ?_)
    refine zv_iale (bX7_keepsIt 1) rfl rfl hv (show A 0 (nI n).toNatClampNeg = A 0 n by rw [e1]) ?_
    iterate 1 (refine zv_step (bX7_keepsIt 1) rfl rfl trivial ?_)
    refine zv_zale (bX7_keepsIt 1) rfl rfl (show vp_in (c8 10 * nI s + A 0 n) 90 by rw [h0, ix10]; exact vp_in_nI (by omega) (by decide)) (show A 7 (c8 10 * nI s + A 0 n).toNatClampNeg = A 7 (10 * s + kd) by rw [h0, ix10, nI_clamp (by omega)]) ?_
    exact zv_iret (bX7_keepsIt 1) rfl (Or.inr ⟨rfl, hB.2 _⟩) (Nat.zero_le _) (Nat.zero_le _) ⟨m, _, rfl, rfl, hB.2 _, fun _ => rfl⟩
  · iterate 3 (refine zv_step (bX7_keepsIt 1) rfl rfl trivial ?_)
    refine zv_iale (bX7_keepsIt 1) rfl rfl hv (show A 0 (nI n).toNatClampNeg = A 0 n by rw [e1]) ?_
    refine zv_S1 (bX7_keepsIt 1) rfl rfl rfl rfl ⟨rfl, rfl, rfl⟩ ⟨by show 0 + 1 ≤ 1; omega, by show 8 + (1 + 11) + 64 * (0) ≤ 64 * (1); omega⟩ ⟨Nat.zero_le _, Nat.zero_le _⟩ (hX7_mayKeep _ _) ?_
    rintro _ _ ⟨rfl, ⟨g1, rfl⟩ | ⟨g1, rfl⟩⟩
    · skip
      iterate 1 (refine zv_step (bX7_keepsIt 1) rfl rfl trivial ?_)
      refine zv_ift (by decide) ?_
      iterate 18 (refine zv_step (bX7_keepsIt 1) rfl rfl trivial ?_)
      refine zv_ifb (fun h63 => ?_) (fun h63 => ?_)
      · iterate 1 (refine zv_step (bX7_keepsIt 1) rfl rfl trivial ?_)
        exact zv_iret (bX7_keepsIt 1) rfl (Or.inr ⟨rfl, Or.inl rfl⟩) (Nat.zero_le _) (Nat.zero_le _) ⟨m + Int32.ofInt 1, _, rfl, rfl, Or.inl rfl, fun q => absurd q h4⟩
      · iterate 2 (refine zv_step (bX7_keepsIt 1) rfl rfl trivial ?_)
        exact zv_iret (bX7_keepsIt 1) rfl (Or.inr ⟨rfl, Or.inr rfl⟩) (Nat.zero_le _) (Nat.zero_le _) ⟨m + Int32.ofInt 1, _, rfl, rfl, Or.inr rfl, fun q => absurd q h4⟩
    · skip
      iterate 1 (refine zv_step (bX7_keepsIt 1) rfl rfl trivial ?_)
      refine zv_iff (by decide) ?_
      iterate 8 (refine zv_step (bX7_keepsIt 1) rfl rfl trivial ?_)
      refine zv_iale (bX7_keepsIt 1) rfl rfl hv (show A 0 (nI n).toNatClampNeg = A 0 n by rw [e1]) ?_
      iterate 1 (refine zv_step (bX7_keepsIt 1) rfl rfl trivial ?_)
      refine zv_zale (bX7_keepsIt 1) rfl rfl (show vp_in (c8 10 * nI s + A 0 n) 90 by rw [h0, ix10]; exact vp_in_nI (by omega) (by decide)) (show A 7 (c8 10 * nI s + A 0 n).toNatClampNeg = A 7 (10 * s + kd) by rw [h0, ix10, nI_clamp (by omega)]) ?_
      exact zv_iret (bX7_keepsIt 1) rfl (Or.inr ⟨rfl, hB.2 _⟩) (Nat.zero_le _) (Nat.zero_le _) ⟨m, _, rfl, rfl, hB.2 _, fun _ => rfl⟩
theorem pw : ∀ k, k + 1 ≤ 4 → 10 ^ (k + 1 - 1) ≤ 1000 := by
  intro k h
  match k, h with
  | 0, _ => decide
  | 1, _ => decide
  | 2, _ => decide
  | 3, _ => decide
  | k + 4, h => exact absurd h (by omega)
theorem pwd : ∀ k, 1 ≤ k → k + 1 ≤ 4 → nI (10 ^ (k + 1 - 1)) / c8 10 = nI (10 ^ (k - 1)) := by
  intro k h1 h2
  match k, h1, h2 with
  | 1, _, _ => decide +kernel
  | 2, _, _ => decide +kernel
  | 3, _, _ => decide +kernel
  | k + 4, _, h => exact absurd h (by omega)
theorem pwm : ∀ k, 1 ≤ k → k ≤ 3 → nI (10 ^ (k - 1)) * c8 10 = nI (10 ^ (k + 1 - 1)) := by
  intro k h1 h2
  match k, h1, h2 with
  | 1, _, _ => decide +kernel
  | 2, _, _ => decide +kernel
  | 3, _, _ => decide +kernel
  | k + 4, _, h => exact absurd h (by omega)
set_option maxHeartbeats 1000000 in
set_option maxRecDepth 20000 in
theorem sayN2 (f : Nat → zC) (o : Nat → Int32) (A : Nat → Nat → Int32) (J : Nat → Nat → Int64) {s n z : Nat} (hn : n < 450) {v : Nat} (hv9 : v ≤ 9999) (ev : A 1 n = nI v) {c m : Int32} {n0 : Nat} {Q : Option Value → zW → Prop} : ∀ (k q : Nat) (g : Nat → Int32), k ≤ 4 → q + k ≤ 256 → nnW q g → ∀ {x5 x4 : Int32}, x5 = nI k → (1 ≤ k → x4 = nI (10 ^ (k - 1))) → (∀ g', nnW (q + k) g' → zV (zMo (z + 1 + 2) zX7_say) false n0 0 0 270 [(3, .int c), (0, .ref 76), (1, .int (nI s)), (2, .int (nI n))] [] (wZ f o A J (q + k) m g') Q) → zV (zMo (z + 1 + 2) zX7_say) false n0 0 0 121 [(5, .int x5), (4, .int x4), (3, .int c), (0, .ref 76), (1, .int (nI s)), (2, .int (nI n))] [] (wZ f o A J q m g) Q := by
  have e1 : (nI n).toNatClampNeg = n := nI_clamp (by omega)
  have hv : vp_in (nI n) 450 := vp_in_nI (by omega) (by decide)
  intro k
  induction k with
  | zero =>
    intro q g hk hq hg x5 x4 e5 e4 kk
    subst e5
    iterate 2 (refine zv_step (bX7_say (z + 1 + 2)) rfl rfl trivial ?_)
    refine zv_ift (show nI 0 ≤ 0 by decide) ?_
    iterate 1 (refine zv_step (bX7_say (z + 1 + 2)) rfl rfl trivial ?_)
    refine zv_locals (l := [(5, .int (nI 0)), (4, .int x4), (3, .int c), (0, .ref 76), (1, .int (nI s)), (2, .int (nI n))]) (l' := [(3, .int c), (0, .ref 76), (1, .int (nI s)), (2, .int (nI n))]) ?_ (kk g hg)
    simp
  | succ k ih =>
    intro q g hk hq hg x5 x4 e5 e4 kk
    subst e5
    iterate 2 (refine zv_step (bX7_say (z + 1 + 2)) rfl rfl trivial ?_)
    refine zv_iff (nI_nle (by omega) (by omega)) ?_
    iterate 5 (refine zv_step (bX7_say (z + 1 + 2)) rfl rfl trivial ?_)
    refine zv_iale (bX7_say (z + 1 + 2)) rfl rfl hv (show A 1 (nI n).toNatClampNeg = A 1 n by rw [e1]) ?_
    iterate 1 (refine zv_step (bX7_say (z + 1 + 2)) rfl rfl trivial ?_)
    refine zv_step (bX7_say (z + 1 + 2)) rfl rfl (by rw [e4 (by omega)]; exact nI_ne0 (Nat.pow_pos (by decide)) (by have := pw k hk; omega)) ?_
    iterate 1 (refine zv_step (bX7_say (z + 1 + 2)) rfl rfl trivial ?_)
    refine zv_step (bX7_say (z + 1 + 2)) rfl rfl (show ¬ c8 10 = 0 by decide) ?_
    iterate 1 (refine zv_step (bX7_say (z + 1 + 2)) rfl rfl trivial ?_)
    refine zv_V1 (bX7_say (z + 1 + 2)) rfl rfl rfl rfl rfl rfl rfl ⟨rfl, rfl, rfl⟩ ⟨by show 0 + 1 ≤ z + 1 + 2; omega, by show 8 + (2 + 11) + 64 * (0) ≤ 64 * (z + 1 + 2); omega⟩ ⟨Nat.zero_le _, Nat.zero_le _⟩ (mSays f (upd o 20 m) A J _ _ (by omega) _) ?_
    rintro _ _ ⟨rfl, rfl⟩
    iterate 2 (refine zv_step (bX7_say (z + 1 + 2)) rfl rfl trivial ?_)
    refine zv_step (bX7_say (z + 1 + 2)) rfl rfl (show ¬ c8 10 = 0 by decide) ?_
    iterate 3 (refine zv_step (bX7_say (z + 1 + 2)) rfl rfl trivial ?_)
    exact ih _ _ (by omega) (by omega) (nnW_s hg (by rw [e4 (by omega)]; exact dig_w ev hv9 (show k ≤ 3 by omega))) (nI_dec k) (fun h => by rw [e4 (by omega)]; exact pwd k h hk) (fun g' hg' => (by rw [show q + 1 + k = q + (k + 1) by omega] at hg' ⊢; exact kk g' hg'))
set_option maxHeartbeats 1000000 in
set_option maxRecDepth 20000 in
theorem sayN1 (f : Nat → zC) (o : Nat → Int32) (A : Nat → Nat → Int32) (J : Nat → Nat → Int64) {s n z : Nat} (hn : n < 450) {v : Nat} (hv9 : v ≤ 9999) (ev : A 1 n = nI v) {c m : Int32} {d : Nat} (hd : dgN (A 1 n) = d) (hd4 : d ≤ 4) {q : Nat} {g : Nat → Int32} (hq : q + d ≤ 256) (hg : nnW q g) {n0 : Nat} {Q : Option Value → zW → Prop} (kk : ∀ g', nnW (q + d) g' → zV (zMo (z + 1 + 2) zX7_say) false n0 0 0 270 [(3, .int c), (0, .ref 76), (1, .int (nI s)), (2, .int (nI n))] [] (wZ f o A J (q + d) m g') Q) : ∀ (j k : Nat), k + j = d → 1 ≤ k → ∀ {x5 x4 : Int32}, x5 = nI k → x4 = nI (10 ^ (k - 1)) → zV (zMo (z + 1 + 2) zX7_say) false n0 0 0 83 [(5, .int x5), (4, .int x4), (3, .int c), (0, .ref 76), (1, .int (nI s)), (2, .int (nI n))] [] (wZ f o A J q m g) Q := by
  have e1 : (nI n).toNatClampNeg = n := nI_clamp (by omega)
  have hv : vp_in (nI n) 450 := vp_in_nI (by omega) (by decide)
  intro j
  induction j with
  | zero =>
    intro k hj h1 x5 x4 e5 e4
    subst e5
    iterate 4 (refine zv_step (bX7_say (z + 1 + 2)) rfl rfl trivial ?_)
    refine zv_iale (bX7_say (z + 1 + 2)) rfl rfl hv (show A 1 (nI n).toNatClampNeg = A 1 n by rw [e1]) ?_
    refine zv_S1 (bX7_say (z + 1 + 2)) rfl rfl rfl rfl ⟨rfl, rfl, rfl⟩ ⟨by show 0 + 1 ≤ z + 1 + 2; omega, by show 8 + (1 + 11) + 64 * (0) ≤ 64 * (z + 1 + 2); omega⟩ ⟨Nat.zero_le _, Nat.zero_le _⟩ (mDigitsE _ hd) ?_
    rintro _ _ ⟨rfl, rfl⟩
    iterate 1 (refine zv_step (bX7_say (z + 1 + 2)) rfl rfl trivial ?_)
    refine zv_ift (nI_le (by omega) (by omega)) ?_
    iterate 3 (refine zv_step (bX7_say (z + 1 + 2)) rfl rfl trivial ?_)
    refine zv_iale (bX7_say (z + 1 + 2)) rfl rfl hv (show A 1 (nI n).toNatClampNeg = A 1 n by rw [e1]) ?_
    refine zv_S1 (bX7_say (z + 1 + 2)) rfl rfl rfl rfl ⟨rfl, rfl, rfl⟩ ⟨by show 0 + 1 ≤ z + 1 + 2; omega, by show 8 + (1 + 11) + 64 * (0) ≤ 64 * (z + 1 + 2); omega⟩ ⟨Nat.zero_le _, Nat.zero_le _⟩ (mDigitsE _ hd) ?_
    rintro _ _ ⟨rfl, rfl⟩
    iterate 1 (refine zv_step (bX7_say (z + 1 + 2)) rfl rfl trivial ?_)
    refine zv_locals (l := [(5, .int (nI d)), (4, .int x4), (3, .int c), (0, .ref 76), (1, .int (nI s)), (2, .int (nI n))]) (l' := [(5, .int (nI d)), (4, .int x4), (3, .int c), (0, .ref 76), (1, .int (nI s)), (2, .int (nI n))]) ?_ (sayN2 f o A J hn hv9 ev d q g hd4 hq hg rfl (fun _ => by rw [e4, show k = d by omega]) kk)
    simp
  | succ j ih =>
    intro k hj h1 x5 x4 e5 e4
    subst e5
    iterate 4 (refine zv_step (bX7_say (z + 1 + 2)) rfl rfl trivial ?_)
    refine zv_iale (bX7_say (z + 1 + 2)) rfl rfl hv (show A 1 (nI n).toNatClampNeg = A 1 n by rw [e1]) ?_
    refine zv_S1 (bX7_say (z + 1 + 2)) rfl rfl rfl rfl ⟨rfl, rfl, rfl⟩ ⟨by show 0 + 1 ≤ z + 1 + 2; omega, by show 8 + (1 + 11) + 64 * (0) ≤ 64 * (z + 1 + 2); omega⟩ ⟨Nat.zero_le _, Nat.zero_le _⟩ (mDigitsE _ hd) ?_
    rintro _ _ ⟨rfl, rfl⟩
    iterate 1 (refine zv_step (bX7_say (z + 1 + 2)) rfl rfl trivial ?_)
    refine zv_iff (fun h => absurd ((nI_leI (by omega) (by omega)).mp h) (by omega)) ?_
    iterate 6 (refine zv_step (bX7_say (z + 1 + 2)) rfl rfl trivial ?_)
    refine zv_locals (l := [(5, .int (nI k + Int32.ofInt 1)), (4, .int (x4 * c8 10)), (3, .int c), (0, .ref 76), (1, .int (nI s)), (2, .int (nI n))]) (l' := [(5, .int (nI k + Int32.ofInt 1)), (4, .int (x4 * c8 10)), (3, .int c), (0, .ref 76), (1, .int (nI s)), (2, .int (nI n))]) ?_ (ih (k + 1) (by omega) (by omega) (nI_1 k) (by rw [e4]; exact pwm k h1 (by omega)))
    simp
theorem ownW_2 {A : Nat → Nat → Int32} {n k : Nat} (h1 : 2 ≤ k) (h2 : k ≤ 6) (h0 : A 0 n = nI k) : ownW A n = 1 := by
  unfold ownW
  rw [h0, if_neg (fun e => by rw [show Int32.ofInt 1 = nI 1 from rfl, nI_eq (by omega) (by omega)] at e; omega), if_neg]
  rintro (e | e)
  · rw [show c8 8 = nI 8 from rfl, nI_eq (by omega) (by omega)] at e; omega
  · rw [show c8 9 = nI 9 from rfl, nI_eq (by omega) (by omega)] at e; omega
theorem ownW_c {A : Nat → Nat → Int32} {n : Nat} (k : Nat) (h0 : A 0 n = nI k) : (k = 0 → ownW A n = 1) ∧ (k = 1 → ownW A n = dgN (A 1 n)) ∧ (k = 7 → ownW A n = 1) ∧ (k = 8 → ownW A n = 2) ∧ (k = 9 → ownW A n = 2) := by
  unfold ownW
  rw [h0]
  refine ⟨?_, ?_, ?_, ?_, ?_⟩ <;> rintro rfl
  · rw [if_neg (by decide), if_neg (by decide)]
  · rw [if_pos (by decide)]
  · rw [if_neg (by decide), if_neg (by decide)]
  · rw [if_neg (by decide), if_pos (by decide)]
  · rw [if_neg (by decide), if_pos (by decide)]
set_option maxHeartbeats 1000000 in
set_option maxRecDepth 20000 in
theorem sayM2 (f : Nat → zC) (o : Nat → Int32) (A : Nat → Nat → Int32) (J : Nat → Nat → Int64) {lo hi : Nat} (hh : hi ≤ 450) {s n z : Nat} (hn : n < 450) {c : Int32} (ih : ∀ (x : Nat), lo ≤ x → x < hi → szN A x ≤ z → ∀ (q : Nat) (m : Int32) (g : Nat → Int32), q + 6 * szN A x ≤ 256 → nnW q g → zK (z + 2) zX7_say [.ref 76, .int (nI s), .int (nI x)] (wZ f o A J q m g) (fun r w' => r = none ∧ ∃ (q' : Nat) (m' : Int32) (g' : Nat → Int32), w' = wZ f o A J q' m' g' ∧ q ≤ q' ∧ q' ≤ q + 6 * szN A x ∧ nnW q' g' ∧ (o 19 < 0 → q' = q + lnW A s z (nI x)))) {n0 : Nat} {Q : Option Value → zW → Prop} {q : Nat} {m : Int32} {g : Nat → Int32} (hq : q + 6 * szN A n ≤ 256 + 2) (hg : nnW q g) (kk : ∀ (q' : Nat) (m' : Int32) (g' : Nat → Int32), nnW q' g' → q + 1 ≤ q' → q' + 2 ≤ q + 6 * szN A n → (o 19 < 0 → q' = q + ownW A n + lnW A s z (A 2 n) + lnW A s z (A 3 n)) → zV (zMo (z + 1 + 2) zX7_say) false n0 0 0 270 [(3, .int c), (0, .ref 76), (1, .int (nI s)), (2, .int (nI n))] [] (wZ f o A J q' m' g') Q) {k a b : Nat} (hk1 : 2 ≤ k) (hk2 : k ≤ 6) (h0 : A 0 n = nI k) (h2 : A 2 n = nI a) (la : lo ≤ a) (ha : a < n) (h3 : A 3 n = nI b) (lb : lo ≤ b) (hb : b < n) (hnh : n < hi) (hsz : szN A n ≤ z + 1) (es : szN A n = 1 + szN A a + szN A b) : zV (zMo (z + 1 + 2) zX7_say) false n0 0 0 17 [(3, .int c), (0, .ref 76), (1, .int (nI s)), (2, .int (nI n))] [] (wZ f o A J q m g) Q := by
  have e1 : (nI n).toNatClampNeg = n := nI_clamp (by omega)
  have hv : vp_in (nI n) 450 := vp_in_nI (by omega) (by decide)
  iterate 3 (refine zv_step (bX7_say (z + 1 + 2)) rfl rfl trivial ?_)
  refine zv_iale (bX7_say (z + 1 + 2)) rfl rfl hv (show A 0 (nI n).toNatClampNeg = nI k by rw [e1]; exact h0) ?_
  refine zv_S1 (bX7_say (z + 1 + 2)) rfl rfl rfl rfl ⟨rfl, rfl, rfl⟩ ⟨by show 0 + 1 ≤ z + 1 + 2; omega, by show 8 + (1 + 11) + 64 * (0) ≤ 64 * (z + 1 + 2); omega⟩ ⟨Nat.zero_le _, Nat.zero_le _⟩ (hX7_isTwo _ _) ?_
  rintro _ _ ⟨rfl, ⟨g1, rfl⟩ | ⟨g1, rfl⟩⟩
  · skip
    iterate 1 (refine zv_step (bX7_say (z + 1 + 2)) rfl rfl trivial ?_)
    refine zv_iff (by decide) ?_
    iterate 5 (refine zv_step (bX7_say (z + 1 + 2)) rfl rfl trivial ?_)
    refine zv_iale (bX7_say (z + 1 + 2)) rfl rfl hv (show A 2 (nI n).toNatClampNeg = nI a by rw [e1]; exact h2) ?_
    refine zv_V2 (bX7_say (z + 1 + 2)) rfl rfl rfl rfl rfl rfl rfl ⟨rfl, rfl, rfl⟩ ⟨by show z + 2 + 1 ≤ z + 1 + 2; omega, by show 8 + (6 + 11) + 64 * (z + 2) ≤ 64 * (z + 1 + 2); omega⟩ ⟨Nat.zero_le _, Nat.zero_le _⟩ (ih a (by omega) (by omega) (by omega) _ _ _ (by omega) (hg)) ?_
    rintro _ _ ⟨rfl, q1, m1, g1, rfl, l1, u1, w1, n1⟩
    iterate 5 (refine zv_step (bX7_say (z + 1 + 2)) rfl rfl trivial ?_)
    refine zv_iale (bX7_say (z + 1 + 2)) rfl rfl hv (show A 0 (nI n).toNatClampNeg = nI k by rw [e1]; exact h0) ?_
    iterate 1 (refine zv_step (bX7_say (z + 1 + 2)) rfl rfl trivial ?_)
    refine zv_V1 (bX7_say (z + 1 + 2)) rfl rfl rfl rfl rfl rfl rfl ⟨rfl, rfl, rfl⟩ ⟨by show 0 + 1 ≤ z + 1 + 2; omega, by show 8 + (2 + 11) + 64 * (0) ≤ 64 * (z + 1 + 2); omega⟩ ⟨Nat.zero_le _, Nat.zero_le _⟩ (mSays f (upd o 20 _) A J _ _ (by omega) _) ?_
    rintro _ _ ⟨rfl, rfl⟩
    iterate 5 (refine zv_step (bX7_say (z + 1 + 2)) rfl rfl trivial ?_)
    refine zv_iale (bX7_say (z + 1 + 2)) rfl rfl hv (show A 3 (nI n).toNatClampNeg = nI b by rw [e1]; exact h3) ?_
    refine zv_V2 (bX7_say (z + 1 + 2)) rfl rfl rfl rfl rfl rfl rfl ⟨rfl, rfl, rfl⟩ ⟨by show z + 2 + 1 ≤ z + 1 + 2; omega, by show 8 + (6 + 11) + 64 * (z + 2) ≤ 64 * (z + 1 + 2); omega⟩ ⟨Nat.zero_le _, Nat.zero_le _⟩ (ih b (by omega) (by omega) (by omega) _ _ _ (by omega) (nnW_s w1 ⟨18 + k, by omega, nI_add 18 k⟩)) ?_
    rintro _ _ ⟨rfl, q2, m2, g2, rfl, l2, u2, w2, n2⟩
    iterate 1 (refine zv_step (bX7_say (z + 1 + 2)) rfl rfl trivial ?_)
    exact kk _ _ _ w2 (by omega) (by omega) (fun hm => by have e := ownW_2 hk1 hk2 h0; have a1 := n1 hm; have a2 := n2 hm; rw [h2, h3, e]; omega)
  · skip
    iterate 1 (refine zv_step (bX7_say (z + 1 + 2)) rfl rfl trivial ?_)
    refine zv_ift (by decide) ?_
    exact absurd ⟨by rw [nI_toInt (by omega)]; omega, by rw [nI_toInt (by omega)]; omega⟩ g1
set_option maxHeartbeats 1000000 in
set_option maxRecDepth 20000 in
theorem sayM0 (f : Nat → zC) (o : Nat → Int32) (A : Nat → Nat → Int32) (J : Nat → Nat → Int64) {lo hi : Nat} (hh : hi ≤ 450) {s n z : Nat} (hn : n < 450) {c : Int32} (ih : ∀ (x : Nat), lo ≤ x → x < hi → szN A x ≤ z → ∀ (q : Nat) (m : Int32) (g : Nat → Int32), q + 6 * szN A x ≤ 256 → nnW q g → zK (z + 2) zX7_say [.ref 76, .int (nI s), .int (nI x)] (wZ f o A J q m g) (fun r w' => r = none ∧ ∃ (q' : Nat) (m' : Int32) (g' : Nat → Int32), w' = wZ f o A J q' m' g' ∧ q ≤ q' ∧ q' ≤ q + 6 * szN A x ∧ nnW q' g' ∧ (o 19 < 0 → q' = q + lnW A s z (nI x)))) {n0 : Nat} {Q : Option Value → zW → Prop} {q : Nat} {m : Int32} {g : Nat → Int32} (hq : q + 6 * szN A n ≤ 256 + 2) (hg : nnW q g) (kk : ∀ (q' : Nat) (m' : Int32) (g' : Nat → Int32), nnW q' g' → q + 1 ≤ q' → q' + 2 ≤ q + 6 * szN A n → (o 19 < 0 → q' = q + ownW A n + lnW A s z (A 2 n) + lnW A s z (A 3 n)) → zV (zMo (z + 1 + 2) zX7_say) false n0 0 0 270 [(3, .int c), (0, .ref 76), (1, .int (nI s)), (2, .int (nI n))] [] (wZ f o A J q' m' g') Q) (hval : ∃ e : Nat, e ≤ 31 ∧ A 1 n = nI e) (h0 : A 0 n = nI 0) (h2 : A 2 n = m2) (h3 : A 3 n = m2) (es : szN A n = 1) : zV (zMo (z + 1 + 2) zX7_say) false n0 0 0 17 [(3, .int c), (0, .ref 76), (1, .int (nI s)), (2, .int (nI n))] [] (wZ f o A J q m g) Q := by
  have e1 : (nI n).toNatClampNeg = n := nI_clamp (by omega)
  have hv : vp_in (nI n) 450 := vp_in_nI (by omega) (by decide)
  iterate 3 (refine zv_step (bX7_say (z + 1 + 2)) rfl rfl trivial ?_)
  refine zv_iale (bX7_say (z + 1 + 2)) rfl rfl hv (show A 0 (nI n).toNatClampNeg = nI 0 by rw [e1]; exact h0) ?_
  refine zv_S1 (bX7_say (z + 1 + 2)) rfl rfl rfl rfl ⟨rfl, rfl, rfl⟩ ⟨by show 0 + 1 ≤ z + 1 + 2; omega, by show 8 + (1 + 11) + 64 * (0) ≤ 64 * (z + 1 + 2); omega⟩ ⟨Nat.zero_le _, Nat.zero_le _⟩ (hX7_isTwo _ _) ?_
  rintro _ _ ⟨rfl, ⟨g1, rfl⟩ | ⟨g1, rfl⟩⟩
  · skip
    iterate 1 (refine zv_step (bX7_say (z + 1 + 2)) rfl rfl trivial ?_)
    refine zv_iff (by decide) ?_
    exact absurd g1 (by decide)
  · skip
    iterate 1 (refine zv_step (bX7_say (z + 1 + 2)) rfl rfl trivial ?_)
    refine zv_ift (by decide) ?_
    iterate 3 (refine zv_step (bX7_say (z + 1 + 2)) rfl rfl trivial ?_)
    refine zv_iale (bX7_say (z + 1 + 2)) rfl rfl hv (show A 0 (nI n).toNatClampNeg = nI 0 by rw [e1]; exact h0) ?_
    iterate 2 (refine zv_step (bX7_say (z + 1 + 2)) rfl rfl trivial ?_)
    refine zv_ift (by decide) ?_
    iterate 3 (refine zv_step (bX7_say (z + 1 + 2)) rfl rfl trivial ?_)
    refine zv_iale (bX7_say (z + 1 + 2)) rfl rfl hv (show A 0 (nI n).toNatClampNeg = nI 0 by rw [e1]; exact h0) ?_
    iterate 1 (refine zv_step (bX7_say (z + 1 + 2)) rfl rfl trivial ?_)
    refine zv_iff (by decide) ?_
    iterate 4 (refine zv_step (bX7_say (z + 1 + 2)) rfl rfl trivial ?_)
    refine zv_iale (bX7_say (z + 1 + 2)) rfl rfl hv (show A 1 (nI n).toNatClampNeg = A 1 n by rw [e1]) ?_
    refine zv_V1 (bX7_say (z + 1 + 2)) rfl rfl rfl rfl rfl rfl rfl ⟨rfl, rfl, rfl⟩ ⟨by show 0 + 1 ≤ z + 1 + 2; omega, by show 8 + (2 + 11) + 64 * (0) ≤ 64 * (z + 1 + 2); omega⟩ ⟨Nat.zero_le _, Nat.zero_le _⟩ (mSays f (upd o 20 _) A J _ _ (by omega) _) ?_
    rintro _ _ ⟨rfl, rfl⟩
    iterate 1 (refine zv_step (bX7_say (z + 1 + 2)) rfl rfl trivial ?_)
    exact kk _ _ _ (nnW_s hg hval) (by omega) (by omega) (fun _ => by rw [(ownW_c 0 h0).1 rfl, h2, h3, lnW_m2])
set_option maxHeartbeats 1000000 in
set_option maxRecDepth 20000 in
theorem sayM1 (f : Nat → zC) (o : Nat → Int32) (A : Nat → Nat → Int32) (J : Nat → Nat → Int64) {lo hi : Nat} (hh : hi ≤ 450) {s n z : Nat} (hn : n < 450) {c : Int32} (ih : ∀ (x : Nat), lo ≤ x → x < hi → szN A x ≤ z → ∀ (q : Nat) (m : Int32) (g : Nat → Int32), q + 6 * szN A x ≤ 256 → nnW q g → zK (z + 2) zX7_say [.ref 76, .int (nI s), .int (nI x)] (wZ f o A J q m g) (fun r w' => r = none ∧ ∃ (q' : Nat) (m' : Int32) (g' : Nat → Int32), w' = wZ f o A J q' m' g' ∧ q ≤ q' ∧ q' ≤ q + 6 * szN A x ∧ nnW q' g' ∧ (o 19 < 0 → q' = q + lnW A s z (nI x)))) {n0 : Nat} {Q : Option Value → zW → Prop} {q : Nat} {m : Int32} {g : Nat → Int32} (hq : q + 6 * szN A n ≤ 256 + 2) (hg : nnW q g) (kk : ∀ (q' : Nat) (m' : Int32) (g' : Nat → Int32), nnW q' g' → q + 1 ≤ q' → q' + 2 ≤ q + 6 * szN A n → (o 19 < 0 → q' = q + ownW A n + lnW A s z (A 2 n) + lnW A s z (A 3 n)) → zV (zMo (z + 1 + 2) zX7_say) false n0 0 0 270 [(3, .int c), (0, .ref 76), (1, .int (nI s)), (2, .int (nI n))] [] (wZ f o A J q' m' g') Q) {v : Nat} (hv9 : v ≤ 9999) (ev : A 1 n = nI v) (h0 : A 0 n = nI 1) (h2 : A 2 n = m2) (h3 : A 3 n = m2) (es : szN A n = 1) : zV (zMo (z + 1 + 2) zX7_say) false n0 0 0 17 [(3, .int c), (0, .ref 76), (1, .int (nI s)), (2, .int (nI n))] [] (wZ f o A J q m g) Q := by
  have e1 : (nI n).toNatClampNeg = n := nI_clamp (by omega)
  have hv : vp_in (nI n) 450 := vp_in_nI (by omega) (by decide)
  iterate 3 (refine zv_step (bX7_say (z + 1 + 2)) rfl rfl trivial ?_)
  refine zv_iale (bX7_say (z + 1 + 2)) rfl rfl hv (show A 0 (nI n).toNatClampNeg = nI 1 by rw [e1]; exact h0) ?_
  refine zv_S1 (bX7_say (z + 1 + 2)) rfl rfl rfl rfl ⟨rfl, rfl, rfl⟩ ⟨by show 0 + 1 ≤ z + 1 + 2; omega, by show 8 + (1 + 11) + 64 * (0) ≤ 64 * (z + 1 + 2); omega⟩ ⟨Nat.zero_le _, Nat.zero_le _⟩ (hX7_isTwo _ _) ?_
  rintro _ _ ⟨rfl, ⟨g1, rfl⟩ | ⟨g1, rfl⟩⟩
  · skip
    iterate 1 (refine zv_step (bX7_say (z + 1 + 2)) rfl rfl trivial ?_)
    refine zv_iff (by decide) ?_
    exact absurd g1 (by decide)
  · skip
    iterate 1 (refine zv_step (bX7_say (z + 1 + 2)) rfl rfl trivial ?_)
    refine zv_ift (by decide) ?_
    iterate 3 (refine zv_step (bX7_say (z + 1 + 2)) rfl rfl trivial ?_)
    refine zv_iale (bX7_say (z + 1 + 2)) rfl rfl hv (show A 0 (nI n).toNatClampNeg = nI 1 by rw [e1]; exact h0) ?_
    iterate 2 (refine zv_step (bX7_say (z + 1 + 2)) rfl rfl trivial ?_)
    refine zv_iff (by decide) ?_
    iterate 4 (refine zv_step (bX7_say (z + 1 + 2)) rfl rfl trivial ?_)
    refine zv_locals (l := [(5, .int (Int32.ofInt 1)), (4, .int (Int32.ofInt 1)), (3, .int c), (0, .ref 76), (1, .int (nI s)), (2, .int (nI n))]) (l' := [(5, .int (Int32.ofInt 1)), (4, .int (Int32.ofInt 1)), (3, .int c), (0, .ref 76), (1, .int (nI s)), (2, .int (nI n))]) ?_ (sayN1 f o A J hn hv9 ev rfl (dgN_le _).2 (by have := (dgN_le (A 1 n)).2; omega) hg (fun g' hg' => kk _ _ g' hg' (by have := (dgN_le (A 1 n)).1; omega) (by have := (dgN_le (A 1 n)).2; omega) (fun _ => by rw [(ownW_c 1 h0).2.1 rfl, h2, h3, lnW_m2] <;> omega)) (dgN (A 1 n) - 1) 1 (by have := (dgN_le (A 1 n)).1; omega) (Nat.le_refl _) rfl rfl)
    simp
set_option maxHeartbeats 1000000 in
set_option maxRecDepth 20000 in
theorem sayM7 (f : Nat → zC) (o : Nat → Int32) (A : Nat → Nat → Int32) (J : Nat → Nat → Int64) {lo hi : Nat} (hh : hi ≤ 450) {s n z : Nat} (hn : n < 450) {c : Int32} (ih : ∀ (x : Nat), lo ≤ x → x < hi → szN A x ≤ z → ∀ (q : Nat) (m : Int32) (g : Nat → Int32), q + 6 * szN A x ≤ 256 → nnW q g → zK (z + 2) zX7_say [.ref 76, .int (nI s), .int (nI x)] (wZ f o A J q m g) (fun r w' => r = none ∧ ∃ (q' : Nat) (m' : Int32) (g' : Nat → Int32), w' = wZ f o A J q' m' g' ∧ q ≤ q' ∧ q' ≤ q + 6 * szN A x ∧ nnW q' g' ∧ (o 19 < 0 → q' = q + lnW A s z (nI x)))) {n0 : Nat} {Q : Option Value → zW → Prop} {q : Nat} {m : Int32} {g : Nat → Int32} (hq : q + 6 * szN A n ≤ 256 + 2) (hg : nnW q g) (kk : ∀ (q' : Nat) (m' : Int32) (g' : Nat → Int32), nnW q' g' → q + 1 ≤ q' → q' + 2 ≤ q + 6 * szN A n → (o 19 < 0 → q' = q + ownW A n + lnW A s z (A 2 n) + lnW A s z (A 3 n)) → zV (zMo (z + 1 + 2) zX7_say) false n0 0 0 270 [(3, .int c), (0, .ref 76), (1, .int (nI s)), (2, .int (nI n))] [] (wZ f o A J q' m' g') Q) {a : Nat} (hval : 7 = 9 → ∃ e : Nat, e ≤ 31 ∧ A 1 n = nI e) (h0 : A 0 n = nI 7) (h2 : A 2 n = nI a) (la : lo ≤ a) (ha : a < n) (h3 : A 3 n = m2) (hnh : n < hi) (hsz : szN A n ≤ z + 1) (es : szN A n = 1 + szN A a) : zV (zMo (z + 1 + 2) zX7_say) false n0 0 0 17 [(3, .int c), (0, .ref 76), (1, .int (nI s)), (2, .int (nI n))] [] (wZ f o A J q m g) Q := by
  have e1 : (nI n).toNatClampNeg = n := nI_clamp (by omega)
  have hv : vp_in (nI n) 450 := vp_in_nI (by omega) (by decide)
  iterate 3 (refine zv_step (bX7_say (z + 1 + 2)) rfl rfl trivial ?_)
  refine zv_iale (bX7_say (z + 1 + 2)) rfl rfl hv (show A 0 (nI n).toNatClampNeg = nI 7 by rw [e1]; exact h0) ?_
  refine zv_S1 (bX7_say (z + 1 + 2)) rfl rfl rfl rfl ⟨rfl, rfl, rfl⟩ ⟨by show 0 + 1 ≤ z + 1 + 2; omega, by show 8 + (1 + 11) + 64 * (0) ≤ 64 * (z + 1 + 2); omega⟩ ⟨Nat.zero_le _, Nat.zero_le _⟩ (hX7_isTwo _ _) ?_
  rintro _ _ ⟨rfl, ⟨g1, rfl⟩ | ⟨g1, rfl⟩⟩
  · skip
    iterate 1 (refine zv_step (bX7_say (z + 1 + 2)) rfl rfl trivial ?_)
    refine zv_iff (by decide) ?_
    exact absurd g1 (by decide)
  · skip
    iterate 1 (refine zv_step (bX7_say (z + 1 + 2)) rfl rfl trivial ?_)
    refine zv_ift (by decide) ?_
    iterate 3 (refine zv_step (bX7_say (z + 1 + 2)) rfl rfl trivial ?_)
    refine zv_iale (bX7_say (z + 1 + 2)) rfl rfl hv (show A 0 (nI n).toNatClampNeg = nI 7 by rw [e1]; exact h0) ?_
    iterate 2 (refine zv_step (bX7_say (z + 1 + 2)) rfl rfl trivial ?_)
    refine zv_ift (by decide) ?_
    iterate 3 (refine zv_step (bX7_say (z + 1 + 2)) rfl rfl trivial ?_)
    refine zv_iale (bX7_say (z + 1 + 2)) rfl rfl hv (show A 0 (nI n).toNatClampNeg = nI 7 by rw [e1]; exact h0) ?_
    iterate 1 (refine zv_step (bX7_say (z + 1 + 2)) rfl rfl trivial ?_)
    refine zv_ift (by decide) ?_
    iterate 4 (refine zv_step (bX7_say (z + 1 + 2)) rfl rfl trivial ?_)
    refine zv_iale (bX7_say (z + 1 + 2)) rfl rfl hv (show A 0 (nI n).toNatClampNeg = nI 7 by rw [e1]; exact h0) ?_
    iterate 2 (refine zv_step (bX7_say (z + 1 + 2)) rfl rfl trivial ?_)
    refine zv_iff (by decide) ?_
    iterate 2 (refine zv_step (bX7_say (z + 1 + 2)) rfl rfl trivial ?_)
    refine zv_V1 (bX7_say (z + 1 + 2)) rfl rfl rfl rfl rfl rfl rfl ⟨rfl, rfl, rfl⟩ ⟨by show 0 + 1 ≤ z + 1 + 2; omega, by show 8 + (2 + 11) + 64 * (0) ≤ 64 * (z + 1 + 2); omega⟩ ⟨Nat.zero_le _, Nat.zero_le _⟩ (mSays f (upd o 20 _) A J _ _ (by omega) _) ?_
    rintro _ _ ⟨rfl, rfl⟩
    iterate 3 (refine zv_step (bX7_say (z + 1 + 2)) rfl rfl trivial ?_)
    refine zv_iale (bX7_say (z + 1 + 2)) rfl rfl hv (show A 0 (nI n).toNatClampNeg = nI 7 by rw [e1]; exact h0) ?_
    iterate 2 (refine zv_step (bX7_say (z + 1 + 2)) rfl rfl trivial ?_)
    refine zv_ift (by decide) ?_
    iterate 5 (refine zv_step (bX7_say (z + 1 + 2)) rfl rfl trivial ?_)
    refine zv_iale (bX7_say (z + 1 + 2)) rfl rfl hv (show A 2 (nI n).toNatClampNeg = nI a by rw [e1]; exact h2) ?_
    refine zv_V2 (bX7_say (z + 1 + 2)) rfl rfl rfl rfl rfl rfl rfl ⟨rfl, rfl, rfl⟩ ⟨by show z + 2 + 1 ≤ z + 1 + 2; omega, by show 8 + (6 + 11) + 64 * (z + 2) ≤ 64 * (z + 1 + 2); omega⟩ ⟨Nat.zero_le _, Nat.zero_le _⟩ (ih a (by omega) (by omega) (by omega) _ _ _ (by omega) (nnW_s hg ⟨25, by decide, rfl⟩)) ?_
    rintro _ _ ⟨rfl, q1, m1, g1, rfl, l1, u1, w1, n1⟩
    iterate 3 (refine zv_step (bX7_say (z + 1 + 2)) rfl rfl trivial ?_)
    refine zv_iale (bX7_say (z + 1 + 2)) rfl rfl hv (show A 0 (nI n).toNatClampNeg = nI 7 by rw [e1]; exact h0) ?_
    iterate 2 (refine zv_step (bX7_say (z + 1 + 2)) rfl rfl trivial ?_)
    refine zv_ift (by decide) ?_
    exact kk _ _ _ w1 (by omega) (by omega) (fun hm => by have e := (ownW_c 7 h0).2.2.1 rfl; have a1 := n1 hm; rw [h2, h3, lnW_m2, e]; omega)
set_option maxHeartbeats 1000000 in
set_option maxRecDepth 20000 in
theorem sayM8 (f : Nat → zC) (o : Nat → Int32) (A : Nat → Nat → Int32) (J : Nat → Nat → Int64) {lo hi : Nat} (hh : hi ≤ 450) {s n z : Nat} (hn : n < 450) {c : Int32} (ih : ∀ (x : Nat), lo ≤ x → x < hi → szN A x ≤ z → ∀ (q : Nat) (m : Int32) (g : Nat → Int32), q + 6 * szN A x ≤ 256 → nnW q g → zK (z + 2) zX7_say [.ref 76, .int (nI s), .int (nI x)] (wZ f o A J q m g) (fun r w' => r = none ∧ ∃ (q' : Nat) (m' : Int32) (g' : Nat → Int32), w' = wZ f o A J q' m' g' ∧ q ≤ q' ∧ q' ≤ q + 6 * szN A x ∧ nnW q' g' ∧ (o 19 < 0 → q' = q + lnW A s z (nI x)))) {n0 : Nat} {Q : Option Value → zW → Prop} {q : Nat} {m : Int32} {g : Nat → Int32} (hq : q + 6 * szN A n ≤ 256 + 2) (hg : nnW q g) (kk : ∀ (q' : Nat) (m' : Int32) (g' : Nat → Int32), nnW q' g' → q + 1 ≤ q' → q' + 2 ≤ q + 6 * szN A n → (o 19 < 0 → q' = q + ownW A n + lnW A s z (A 2 n) + lnW A s z (A 3 n)) → zV (zMo (z + 1 + 2) zX7_say) false n0 0 0 270 [(3, .int c), (0, .ref 76), (1, .int (nI s)), (2, .int (nI n))] [] (wZ f o A J q' m' g') Q) {a : Nat} (hval : 8 = 9 → ∃ e : Nat, e ≤ 31 ∧ A 1 n = nI e) (h0 : A 0 n = nI 8) (h2 : A 2 n = nI a) (la : lo ≤ a) (ha : a < n) (h3 : A 3 n = m2) (hnh : n < hi) (hsz : szN A n ≤ z + 1) (es : szN A n = 1 + szN A a) : zV (zMo (z + 1 + 2) zX7_say) false n0 0 0 17 [(3, .int c), (0, .ref 76), (1, .int (nI s)), (2, .int (nI n))] [] (wZ f o A J q m g) Q := by
  have e1 : (nI n).toNatClampNeg = n := nI_clamp (by omega)
  have hv : vp_in (nI n) 450 := vp_in_nI (by omega) (by decide)
  iterate 3 (refine zv_step (bX7_say (z + 1 + 2)) rfl rfl trivial ?_)
  refine zv_iale (bX7_say (z + 1 + 2)) rfl rfl hv (show A 0 (nI n).toNatClampNeg = nI 8 by rw [e1]; exact h0) ?_
  refine zv_S1 (bX7_say (z + 1 + 2)) rfl rfl rfl rfl ⟨rfl, rfl, rfl⟩ ⟨by show 0 + 1 ≤ z + 1 + 2; omega, by show 8 + (1 + 11) + 64 * (0) ≤ 64 * (z + 1 + 2); omega⟩ ⟨Nat.zero_le _, Nat.zero_le _⟩ (hX7_isTwo _ _) ?_
  rintro _ _ ⟨rfl, ⟨g1, rfl⟩ | ⟨g1, rfl⟩⟩
  · skip
    iterate 1 (refine zv_step (bX7_say (z + 1 + 2)) rfl rfl trivial ?_)
    refine zv_iff (by decide) ?_
    exact absurd g1 (by decide)
  · skip
    iterate 1 (refine zv_step (bX7_say (z + 1 + 2)) rfl rfl trivial ?_)
    refine zv_ift (by decide) ?_
    iterate 3 (refine zv_step (bX7_say (z + 1 + 2)) rfl rfl trivial ?_)
    refine zv_iale (bX7_say (z + 1 + 2)) rfl rfl hv (show A 0 (nI n).toNatClampNeg = nI 8 by rw [e1]; exact h0) ?_
    iterate 2 (refine zv_step (bX7_say (z + 1 + 2)) rfl rfl trivial ?_)
    refine zv_ift (by decide) ?_
    iterate 3 (refine zv_step (bX7_say (z + 1 + 2)) rfl rfl trivial ?_)
    refine zv_iale (bX7_say (z + 1 + 2)) rfl rfl hv (show A 0 (nI n).toNatClampNeg = nI 8 by rw [e1]; exact h0) ?_
    iterate 1 (refine zv_step (bX7_say (z + 1 + 2)) rfl rfl trivial ?_)
    refine zv_ift (by decide) ?_
    iterate 4 (refine zv_step (bX7_say (z + 1 + 2)) rfl rfl trivial ?_)
    refine zv_iale (bX7_say (z + 1 + 2)) rfl rfl hv (show A 0 (nI n).toNatClampNeg = nI 8 by rw [e1]; exact h0) ?_
    iterate 2 (refine zv_step (bX7_say (z + 1 + 2)) rfl rfl trivial ?_)
    refine zv_ift (by decide) ?_
    iterate 3 (refine zv_step (bX7_say (z + 1 + 2)) rfl rfl trivial ?_)
    refine zv_iale (bX7_say (z + 1 + 2)) rfl rfl hv (show A 0 (nI n).toNatClampNeg = nI 8 by rw [e1]; exact h0) ?_
    iterate 2 (refine zv_step (bX7_say (z + 1 + 2)) rfl rfl trivial ?_)
    refine zv_iff (by decide) ?_
    iterate 2 (refine zv_step (bX7_say (z + 1 + 2)) rfl rfl trivial ?_)
    refine zv_V1 (bX7_say (z + 1 + 2)) rfl rfl rfl rfl rfl rfl rfl ⟨rfl, rfl, rfl⟩ ⟨by show 0 + 1 ≤ z + 1 + 2; omega, by show 8 + (2 + 11) + 64 * (0) ≤ 64 * (z + 1 + 2); omega⟩ ⟨Nat.zero_le _, Nat.zero_le _⟩ (mSays f (upd o 20 _) A J _ _ (by omega) _) ?_
    rintro _ _ ⟨rfl, rfl⟩
    iterate 3 (refine zv_step (bX7_say (z + 1 + 2)) rfl rfl trivial ?_)
    refine zv_iale (bX7_say (z + 1 + 2)) rfl rfl hv (show A 0 (nI n).toNatClampNeg = nI 8 by rw [e1]; exact h0) ?_
    iterate 2 (refine zv_step (bX7_say (z + 1 + 2)) rfl rfl trivial ?_)
    refine zv_ift (by decide) ?_
    iterate 5 (refine zv_step (bX7_say (z + 1 + 2)) rfl rfl trivial ?_)
    refine zv_iale (bX7_say (z + 1 + 2)) rfl rfl hv (show A 2 (nI n).toNatClampNeg = nI a by rw [e1]; exact h2) ?_
    refine zv_V2 (bX7_say (z + 1 + 2)) rfl rfl rfl rfl rfl rfl rfl ⟨rfl, rfl, rfl⟩ ⟨by show z + 2 + 1 ≤ z + 1 + 2; omega, by show 8 + (6 + 11) + 64 * (z + 2) ≤ 64 * (z + 1 + 2); omega⟩ ⟨Nat.zero_le _, Nat.zero_le _⟩ (ih a (by omega) (by omega) (by omega) _ _ _ (by omega) (nnW_s hg ⟨26, by decide, rfl⟩)) ?_
    rintro _ _ ⟨rfl, q1, m1, g1, rfl, l1, u1, w1, n1⟩
    iterate 3 (refine zv_step (bX7_say (z + 1 + 2)) rfl rfl trivial ?_)
    refine zv_iale (bX7_say (z + 1 + 2)) rfl rfl hv (show A 0 (nI n).toNatClampNeg = nI 8 by rw [e1]; exact h0) ?_
    iterate 2 (refine zv_step (bX7_say (z + 1 + 2)) rfl rfl trivial ?_)
    refine zv_iff (by decide) ?_
    iterate 2 (refine zv_step (bX7_say (z + 1 + 2)) rfl rfl trivial ?_)
    refine zv_V1 (bX7_say (z + 1 + 2)) rfl rfl rfl rfl rfl rfl rfl ⟨rfl, rfl, rfl⟩ ⟨by show 0 + 1 ≤ z + 1 + 2; omega, by show 8 + (2 + 11) + 64 * (0) ≤ 64 * (z + 1 + 2); omega⟩ ⟨Nat.zero_le _, Nat.zero_le _⟩ (mSays f (upd o 20 _) A J _ _ (by omega) _) ?_
    rintro _ _ ⟨rfl, rfl⟩
    exact kk _ _ _ (nnW_s w1 ⟨27, by decide, rfl⟩) (by omega) (by omega) (fun hm => by have e := (ownW_c 8 h0).2.2.2.1 rfl; have a1 := n1 hm; rw [h2, h3, lnW_m2, e]; omega)
set_option maxHeartbeats 1000000 in
set_option maxRecDepth 20000 in
theorem sayM9 (f : Nat → zC) (o : Nat → Int32) (A : Nat → Nat → Int32) (J : Nat → Nat → Int64) {lo hi : Nat} (hh : hi ≤ 450) {s n z : Nat} (hn : n < 450) {c : Int32} (ih : ∀ (x : Nat), lo ≤ x → x < hi → szN A x ≤ z → ∀ (q : Nat) (m : Int32) (g : Nat → Int32), q + 6 * szN A x ≤ 256 → nnW q g → zK (z + 2) zX7_say [.ref 76, .int (nI s), .int (nI x)] (wZ f o A J q m g) (fun r w' => r = none ∧ ∃ (q' : Nat) (m' : Int32) (g' : Nat → Int32), w' = wZ f o A J q' m' g' ∧ q ≤ q' ∧ q' ≤ q + 6 * szN A x ∧ nnW q' g' ∧ (o 19 < 0 → q' = q + lnW A s z (nI x)))) {n0 : Nat} {Q : Option Value → zW → Prop} {q : Nat} {m : Int32} {g : Nat → Int32} (hq : q + 6 * szN A n ≤ 256 + 2) (hg : nnW q g) (kk : ∀ (q' : Nat) (m' : Int32) (g' : Nat → Int32), nnW q' g' → q + 1 ≤ q' → q' + 2 ≤ q + 6 * szN A n → (o 19 < 0 → q' = q + ownW A n + lnW A s z (A 2 n) + lnW A s z (A 3 n)) → zV (zMo (z + 1 + 2) zX7_say) false n0 0 0 270 [(3, .int c), (0, .ref 76), (1, .int (nI s)), (2, .int (nI n))] [] (wZ f o A J q' m' g') Q) {a : Nat} (hval : 9 = 9 → ∃ e : Nat, e ≤ 31 ∧ A 1 n = nI e) (h0 : A 0 n = nI 9) (h2 : A 2 n = nI a) (la : lo ≤ a) (ha : a < n) (h3 : A 3 n = m2) (hnh : n < hi) (hsz : szN A n ≤ z + 1) (es : szN A n = 1 + szN A a) : zV (zMo (z + 1 + 2) zX7_say) false n0 0 0 17 [(3, .int c), (0, .ref 76), (1, .int (nI s)), (2, .int (nI n))] [] (wZ f o A J q m g) Q := by
  have e1 : (nI n).toNatClampNeg = n := nI_clamp (by omega)
  have hv : vp_in (nI n) 450 := vp_in_nI (by omega) (by decide)
  iterate 3 (refine zv_step (bX7_say (z + 1 + 2)) rfl rfl trivial ?_)
  refine zv_iale (bX7_say (z + 1 + 2)) rfl rfl hv (show A 0 (nI n).toNatClampNeg = nI 9 by rw [e1]; exact h0) ?_
  refine zv_S1 (bX7_say (z + 1 + 2)) rfl rfl rfl rfl ⟨rfl, rfl, rfl⟩ ⟨by show 0 + 1 ≤ z + 1 + 2; omega, by show 8 + (1 + 11) + 64 * (0) ≤ 64 * (z + 1 + 2); omega⟩ ⟨Nat.zero_le _, Nat.zero_le _⟩ (hX7_isTwo _ _) ?_
  rintro _ _ ⟨rfl, ⟨g1, rfl⟩ | ⟨g1, rfl⟩⟩
  · skip
    iterate 1 (refine zv_step (bX7_say (z + 1 + 2)) rfl rfl trivial ?_)
    refine zv_iff (by decide) ?_
    exact absurd g1 (by decide)
  · skip
    iterate 1 (refine zv_step (bX7_say (z + 1 + 2)) rfl rfl trivial ?_)
    refine zv_ift (by decide) ?_
    iterate 3 (refine zv_step (bX7_say (z + 1 + 2)) rfl rfl trivial ?_)
    refine zv_iale (bX7_say (z + 1 + 2)) rfl rfl hv (show A 0 (nI n).toNatClampNeg = nI 9 by rw [e1]; exact h0) ?_
    iterate 2 (refine zv_step (bX7_say (z + 1 + 2)) rfl rfl trivial ?_)
    refine zv_ift (by decide) ?_
    iterate 3 (refine zv_step (bX7_say (z + 1 + 2)) rfl rfl trivial ?_)
    refine zv_iale (bX7_say (z + 1 + 2)) rfl rfl hv (show A 0 (nI n).toNatClampNeg = nI 9 by rw [e1]; exact h0) ?_
    iterate 1 (refine zv_step (bX7_say (z + 1 + 2)) rfl rfl trivial ?_)
    refine zv_ift (by decide) ?_
    iterate 4 (refine zv_step (bX7_say (z + 1 + 2)) rfl rfl trivial ?_)
    refine zv_iale (bX7_say (z + 1 + 2)) rfl rfl hv (show A 0 (nI n).toNatClampNeg = nI 9 by rw [e1]; exact h0) ?_
    iterate 2 (refine zv_step (bX7_say (z + 1 + 2)) rfl rfl trivial ?_)
    refine zv_ift (by decide) ?_
    iterate 3 (refine zv_step (bX7_say (z + 1 + 2)) rfl rfl trivial ?_)
    refine zv_iale (bX7_say (z + 1 + 2)) rfl rfl hv (show A 0 (nI n).toNatClampNeg = nI 9 by rw [e1]; exact h0) ?_
    iterate 2 (refine zv_step (bX7_say (z + 1 + 2)) rfl rfl trivial ?_)
    refine zv_ift (by decide) ?_
    iterate 3 (refine zv_step (bX7_say (z + 1 + 2)) rfl rfl trivial ?_)
    refine zv_iale (bX7_say (z + 1 + 2)) rfl rfl hv (show A 1 (nI n).toNatClampNeg = A 1 n by rw [e1]) ?_
    refine zv_V1 (bX7_say (z + 1 + 2)) rfl rfl rfl rfl rfl rfl rfl ⟨rfl, rfl, rfl⟩ ⟨by show 0 + 1 ≤ z + 1 + 2; omega, by show 8 + (2 + 11) + 64 * (0) ≤ 64 * (z + 1 + 2); omega⟩ ⟨Nat.zero_le _, Nat.zero_le _⟩ (mSays f (upd o 20 _) A J _ _ (by omega) _) ?_
    rintro _ _ ⟨rfl, rfl⟩
    iterate 3 (refine zv_step (bX7_say (z + 1 + 2)) rfl rfl trivial ?_)
    refine zv_iale (bX7_say (z + 1 + 2)) rfl rfl hv (show A 0 (nI n).toNatClampNeg = nI 9 by rw [e1]; exact h0) ?_
    iterate 2 (refine zv_step (bX7_say (z + 1 + 2)) rfl rfl trivial ?_)
    refine zv_iff (by decide) ?_
    iterate 2 (refine zv_step (bX7_say (z + 1 + 2)) rfl rfl trivial ?_)
    refine zv_V1 (bX7_say (z + 1 + 2)) rfl rfl rfl rfl rfl rfl rfl ⟨rfl, rfl, rfl⟩ ⟨by show 0 + 1 ≤ z + 1 + 2; omega, by show 8 + (2 + 11) + 64 * (0) ≤ 64 * (z + 1 + 2); omega⟩ ⟨Nat.zero_le _, Nat.zero_le _⟩ (mSays f (upd o 20 _) A J _ _ (by omega) _) ?_
    rintro _ _ ⟨rfl, rfl⟩
    iterate 5 (refine zv_step (bX7_say (z + 1 + 2)) rfl rfl trivial ?_)
    refine zv_iale (bX7_say (z + 1 + 2)) rfl rfl hv (show A 2 (nI n).toNatClampNeg = nI a by rw [e1]; exact h2) ?_
    refine zv_V2 (bX7_say (z + 1 + 2)) rfl rfl rfl rfl rfl rfl rfl ⟨rfl, rfl, rfl⟩ ⟨by show z + 2 + 1 ≤ z + 1 + 2; omega, by show 8 + (6 + 11) + 64 * (z + 2) ≤ 64 * (z + 1 + 2); omega⟩ ⟨Nat.zero_le _, Nat.zero_le _⟩ (ih a (by omega) (by omega) (by omega) _ _ _ (by omega) (nnW_s (nnW_s hg (hval rfl)) ⟨28, by decide, rfl⟩)) ?_
    rintro _ _ ⟨rfl, q1, m1, g1, rfl, l1, u1, w1, n1⟩
    iterate 3 (refine zv_step (bX7_say (z + 1 + 2)) rfl rfl trivial ?_)
    refine zv_iale (bX7_say (z + 1 + 2)) rfl rfl hv (show A 0 (nI n).toNatClampNeg = nI 9 by rw [e1]; exact h0) ?_
    iterate 2 (refine zv_step (bX7_say (z + 1 + 2)) rfl rfl trivial ?_)
    refine zv_ift (by decide) ?_
    exact kk _ _ _ w1 (by omega) (by omega) (fun hm => by have e := (ownW_c 9 h0).2.2.2.2 rfl; have a1 := n1 hm; rw [h2, h3, lnW_m2, e]; omega)
set_option maxHeartbeats 1000000 in
set_option maxRecDepth 20000 in
theorem mSay (f : Nat → zC) (o : Nat → Int32) (A : Nat → Nat → Int32) (J : Nat → Nat → Int64) {lo hi : Nat} (hh : hi ≤ 450) (hT : tbI lo hi A) (hB : blI A) {s : Nat} (hs : s < 8) : ∀ (z n : Nat), lo ≤ n → n < hi → szN A n ≤ z → ∀ (q : Nat) (m : Int32) (g : Nat → Int32), q + 6 * szN A n ≤ 256 → nnW q g → zK (z + 2) zX7_say [.ref 76, .int (nI s), .int (nI n)] (wZ f o A J q m g) (fun r w' => r = none ∧ ∃ (q' : Nat) (m' : Int32) (g' : Nat → Int32), w' = wZ f o A J q' m' g' ∧ q ≤ q' ∧ q' ≤ q + 6 * szN A n ∧ nnW q' g' ∧ (o 19 < 0 → q' = q + lnW A s z (nI n))) := by
  intro z
  induction z with
  | zero =>
    intro n hlo hn hz
    have := (rN_sz (hT n hlo hn)).1
    omega
  | succ z ih =>
    intro n hlo hn hz q m g hq hg
    obtain ⟨kd, hkd, h0⟩ := rN_kd (hT n hlo hn)
    have hs1 := (rN_sz (hT n hlo hn)).1
    refine zK_of qX7_say (by decide +kernel) rfl ?_
    iterate 3 (refine zv_step (bX7_say (z + 1 + 2)) rfl rfl trivial ?_)
    refine zv_V2 (bX7_say (z + 1 + 2)) rfl rfl rfl rfl rfl rfl rfl ⟨rfl, rfl, rfl⟩ ⟨by show 1 + 1 ≤ z + 1 + 2; omega, by show 8 + (3 + 11) + 64 * (1) ≤ 64 * (z + 1 + 2); omega⟩ ⟨Nat.zero_le _, Nat.zero_le _⟩ (mKeepsIt f o A J hB hs (by omega) hkd h0 q m g) ?_
    rintro _ _ ⟨m1, c, rfl, rfl, rfl | rfl, hc⟩
    · skip
      iterate 3 (refine zv_step (bX7_say (z + 1 + 2)) rfl rfl trivial ?_)
      refine zv_ift (rfl) ?_
      have K : ∀ (n1 q' : Nat) (m' : Int32) (g' : Nat → Int32), nnW q' g' → q + 1 ≤ q' → q' + 2 ≤ q + 6 * szN A n → (o 19 < 0 → q' = q + ownW A n + lnW A s z (A 2 n) + lnW A s z (A 3 n)) → zV (zMo (z + 1 + 2) zX7_say) false n1 0 0 270 [(3, .int 0), (0, .ref 76), (1, .int (nI s)), (2, .int (nI n))] [] (wZ f o A J q' m' g') (fun r w' => r = none ∧ ∃ (q' : Nat) (m' : Int32) (g' : Nat → Int32), w' = wZ f o A J q' m' g' ∧ q ≤ q' ∧ q' ≤ q + 6 * szN A n ∧ nnW q' g' ∧ (o 19 < 0 → q' = q + lnW A s (z + 1) (nI n))) := by
        intro n1 q' m' g' hg' l1 u1 nn
        iterate 2 (refine zv_step (bX7_say (z + 1 + 2)) rfl rfl trivial ?_)
        refine zv_ift (rfl) ?_
        exact zv_ret (bX7_say (z + 1 + 2)) rfl rfl (Nat.zero_le _) (Nat.zero_le _) ⟨rfl, _, _, _, rfl, by omega, by omega, hg', (fun hm => by have e := hc hm; have a := nn hm; rw [lnW_nI (by omega) hkd h0, ← e, if_pos rfl]; omega)⟩
      obtain ⟨k9, y9, h0', hk9, h4, hy, hs9, hv0, hv1, _⟩ := hT n hlo hn
      have es := szN_of h4 hy
      have kd9 : k9 = kd := (nI_eq (by omega) (by omega)).mp (h0'.symm.trans h0)
      subst kd9
      rcases hs9 with ⟨k1, h2, h3, e⟩ | ⟨k1, k2, a, b, h2, la, ha, h3, lb, hb, e⟩ | ⟨k1, a, h2, la, ha, h3, e⟩
      · rcases (show k9 = 0 ∨ k9 = 1 by omega) with rfl | rfl
        · exact sayM0 f o A J hh (by omega) ih (by omega) hg (K _) (by obtain ⟨v, hv, e⟩ := hv0 (Or.inl rfl); exact ⟨v, by omega, e⟩) h0 h2 h3 (by omega)
        · obtain ⟨v, hv9, ev⟩ := hv1 rfl
          exact sayM1 f o A J hh (by omega) ih (by omega) hg (K _) hv9 ev h0 h2 h3 (by omega)
      · exact sayM2 f o A J hh (by omega) ih (by omega) hg (K _) k1 k2 h0 h2 la ha h3 lb hb hn hz (by omega)
      · rcases (show k9 = 7 ∨ k9 = 8 ∨ k9 = 9 by omega) with rfl | rfl | rfl
        · exact sayM7 f o A J hh (by omega) ih (by omega) hg (K _) (fun h => absurd h (by decide)) h0 h2 la ha h3 hn hz (by omega)
        · exact sayM8 f o A J hh (by omega) ih (by omega) hg (K _) (fun h => absurd h (by decide)) h0 h2 la ha h3 hn hz (by omega)
        · exact sayM9 f o A J hh (by omega) ih (by omega) hg (K _) (fun _ => by obtain ⟨v, hv, e⟩ := hv0 (Or.inr rfl); exact ⟨v, by omega, e⟩) h0 h2 la ha h3 hn hz (by omega)
    · skip
      iterate 3 (refine zv_step (bX7_say (z + 1 + 2)) rfl rfl trivial ?_)
      refine zv_iff (by decide) ?_
      iterate 2 (refine zv_step (bX7_say (z + 1 + 2)) rfl rfl trivial ?_)
      refine zv_V1 (bX7_say (z + 1 + 2)) rfl rfl rfl rfl rfl rfl rfl ⟨rfl, rfl, rfl⟩ ⟨by show 0 + 1 ≤ z + 1 + 2; omega, by show 8 + (2 + 11) + 64 * (0) ≤ 64 * (z + 1 + 2); omega⟩ ⟨Nat.zero_le _, Nat.zero_le _⟩ (mSays f (upd o 20 _) A J _ _ (by omega) _) ?_
      rintro _ _ ⟨rfl, rfl⟩
      have K : ∀ (n1 q' : Nat) (m' : Int32) (g' : Nat → Int32), nnW q' g' → (q + 1) + 1 ≤ q' → q' + 2 ≤ (q + 1) + 6 * szN A n → (o 19 < 0 → q' = (q + 1) + ownW A n + lnW A s z (A 2 n) + lnW A s z (A 3 n)) → zV (zMo (z + 1 + 2) zX7_say) false n1 0 0 270 [(3, .int 1), (0, .ref 76), (1, .int (nI s)), (2, .int (nI n))] [] (wZ f o A J q' m' g') (fun r w' => r = none ∧ ∃ (q' : Nat) (m' : Int32) (g' : Nat → Int32), w' = wZ f o A J q' m' g' ∧ q ≤ q' ∧ q' ≤ q + 6 * szN A n ∧ nnW q' g' ∧ (o 19 < 0 → q' = q + lnW A s (z + 1) (nI n))) := by
        intro n1 q' m' g' hg' l1 u1 nn
        iterate 2 (refine zv_step (bX7_say (z + 1 + 2)) rfl rfl trivial ?_)
        refine zv_iff (by decide) ?_
        iterate 2 (refine zv_step (bX7_say (z + 1 + 2)) rfl rfl trivial ?_)
        refine zv_V1 (bX7_say (z + 1 + 2)) rfl rfl rfl rfl rfl rfl rfl ⟨rfl, rfl, rfl⟩ ⟨by show 0 + 1 ≤ z + 1 + 2; omega, by show 8 + (2 + 11) + 64 * (0) ≤ 64 * (z + 1 + 2); omega⟩ ⟨Nat.zero_le _, Nat.zero_le _⟩ (mSays f (upd o 20 _) A J _ _ (by omega) _) ?_
        rintro _ _ ⟨rfl, rfl⟩
        exact zv_ret (bX7_say (z + 1 + 2)) rfl rfl (Nat.zero_le _) (Nat.zero_le _) ⟨rfl, _, _, _, rfl, by omega, by omega, nnW_s hg' ⟨30, by decide, rfl⟩, (fun hm => by have e := hc hm; have a := nn hm; rw [lnW_nI (by omega) hkd h0, ← e, if_neg (by decide)]; omega)⟩
      obtain ⟨k9, y9, h0', hk9, h4, hy, hs9, hv0, hv1, _⟩ := hT n hlo hn
      have es := szN_of h4 hy
      have kd9 : k9 = kd := (nI_eq (by omega) (by omega)).mp (h0'.symm.trans h0)
      subst kd9
      rcases hs9 with ⟨k1, h2, h3, e⟩ | ⟨k1, k2, a, b, h2, la, ha, h3, lb, hb, e⟩ | ⟨k1, a, h2, la, ha, h3, e⟩
      · rcases (show k9 = 0 ∨ k9 = 1 by omega) with rfl | rfl
        · exact sayM0 f o A J hh (by omega) ih (by omega) (nnW_s hg ⟨29, by decide, rfl⟩) (K _) (by obtain ⟨v, hv, e⟩ := hv0 (Or.inl rfl); exact ⟨v, by omega, e⟩) h0 h2 h3 (by omega)
        · obtain ⟨v, hv9, ev⟩ := hv1 rfl
          exact sayM1 f o A J hh (by omega) ih (by omega) (nnW_s hg ⟨29, by decide, rfl⟩) (K _) hv9 ev h0 h2 h3 (by omega)
      · exact sayM2 f o A J hh (by omega) ih (by omega) (nnW_s hg ⟨29, by decide, rfl⟩) (K _) k1 k2 h0 h2 la ha h3 lb hb hn hz (by omega)
      · rcases (show k9 = 7 ∨ k9 = 8 ∨ k9 = 9 by omega) with rfl | rfl | rfl
        · exact sayM7 f o A J hh (by omega) ih (by omega) (nnW_s hg ⟨29, by decide, rfl⟩) (K _) (fun h => absurd h (by decide)) h0 h2 la ha h3 hn hz (by omega)
        · exact sayM8 f o A J hh (by omega) ih (by omega) (nnW_s hg ⟨29, by decide, rfl⟩) (K _) (fun h => absurd h (by decide)) h0 h2 la ha h3 hn hz (by omega)
        · exact sayM9 f o A J hh (by omega) ih (by omega) (nnW_s hg ⟨29, by decide, rfl⟩) (K _) (fun _ => by obtain ⟨v, hv, e⟩ := hv0 (Or.inr rfl); exact ⟨v, by omega, e⟩) h0 h2 la ha h3 hn hz (by omega)
set_option maxHeartbeats 1000000 in
set_option maxRecDepth 20000 in
theorem mSayAll (f : Nat → zC) (o : Nat → Int32) (A : Nat → Nat → Int32) (J : Nat → Nat → Int64) {lo hi : Nat} (hh : hi ≤ 450) (hT : tbI lo hi A) (hB : blI A) {s n : Nat} (hs : s < 8) (hlo : lo ≤ n) (hn : n < hi) : zK 43 zX7_sayAll [.ref 76, .int (nI s), .int (nI n)] (wR f o A J) (fun r w' => r = none ∧ ∃ (m' : Int32) (g' : Nat → Int32), w' = wZ f (upd o 19 (Int32.ofInt (-1))) A J (lnW A s 40 (nI n)) m' g' ∧ nnW (lnW A s 40 (nI n)) g') := by
  refine zK_of qX7_sayAll (by decide +kernel) rfl ?_
  iterate 6 (refine zv_step (bX7_sayAll 43) rfl rfl trivial ?_)
  refine zv_world (show _ = wZ f (upd o 19 (Int32.ofInt (-1))) A J 0 (o 20) (A 14) from rfl) ?_
  iterate 3 (refine zv_step (bX7_sayAll 43) rfl rfl trivial ?_)
  refine zv_V2 (bX7_sayAll 43) rfl rfl rfl rfl rfl rfl rfl ⟨rfl, rfl, rfl⟩ ⟨by decide, by decide⟩ ⟨Nat.zero_le _, Nat.zero_le _⟩ (mSay f (upd o 19 (Int32.ofInt (-1))) A J hh hT hB hs 40 n hlo hn (rN_sz (hT n hlo hn)).2.1 0 _ _ (by have := (rN_sz (hT n hlo hn)).2.1; omega) (fun i hi => absurd hi (by omega))) ?_
  rintro _ _ ⟨rfl, q1, m1, g1, rfl, l1, u1, w1, n1⟩
  have e9 : q1 = lnW A s 40 (nI n) := by have := n1 (show upd o 19 (Int32.ofInt (-1)) 19 < 0 by rw [upd_self]; decide); omega
  subst e9
  exact zv_ret (bX7_sayAll 43) rfl rfl (Nat.zero_le _) (Nat.zero_le _) ⟨rfl, _, _, rfl, w1⟩
