def sW (g : Nat → Nat) : Nat → Nat
  | 0 => 0
  | c + 1 => sW g c + g c
theorem csW_s (g : Nat → Nat) : ∀ c, csW g c ≤ sW g c
  | 0 => Nat.le_refl _
  | c + 1 => Nat.le_trans (plW_le _ _).2 (Nat.add_le_add_right (csW_s g c) _)
/-- READINGS by a pair of KIND k whose word stands ahead of place a + 1 + c -/
def pfS (E : Nat → Nat) (L : Nat → Nat → Nat) (k a b : Nat) : Nat → Nat
  | 0 => 0
  | c + 1 => pfS E L k a b c + (if E (a + 1 + c) = 18 + k then tmW (L a (a + 1 + c)) (L (a + 1 + c + 1) b) else 0)
theorem wiP_pf {E : Nat → Nat} {L : Nat → Nat → Nat} {k a b : Nat} : ∀ (c d n : Nat), n ≤ pfS E L k a b d → wiP E L k a b c (a + 1 + d) n ≤ pfS E L k a b (d + c)
  | 0, d, n, h => h
  | c + 1, d, n, h => by
    show wiP E L k a b c (a + 1 + d + 1) _ ≤ _
    rw [show d + (c + 1) = d + 1 + c by omega]
    refine wiP_pf c (d + 1) _ ?_
    show _ ≤ pfS E L k a b d + _
    split
    · exact Nat.le_trans (plW_le _ _).2 (Nat.add_le_add_right h _)
    · exact h
/-- what a NODE of KIND k owes that says the words a .. b, PLACE q among those of its KIND -/
def Rk (E : Nat → Nat) (L : Nat → Nat → Nat) (A : Nat → Nat → Int32) (R : Nat → Nat → Nat → Nat → Prop) (k a b q n : Nat) : Prop :=
  (k = 0 ∧ A 2 n = m2 ∧ A 3 n = m2) ∨ (k = 1 ∧ A 2 n = m2 ∧ A 3 n = m2 ∧ dgN (A 1 n) = b - a) ∨
  (k = 7 ∧ ∃ x, 400 ≤ x ∧ x < n ∧ A 2 n = nI x ∧ A 3 n = m2 ∧ R (a + 1) b q x) ∨
  (k = 8 ∧ ∃ x, 400 ≤ x ∧ x < n ∧ A 2 n = nI x ∧ A 3 n = m2 ∧ R (a + 1) (b - 1) q x) ∨
  (k = 9 ∧ ∃ x, 400 ≤ x ∧ x < n ∧ A 2 n = nI x ∧ A 3 n = m2 ∧ R (a + 2) b q x) ∨
  (2 ≤ k ∧ k ≤ 6 ∧ ∃ c r x y, a + 1 + c + 1 < b ∧ E (a + 1 + c) = 18 + k ∧ q = pfS E L k a b c + r ∧ r < tmW (L a (a + 1 + c)) (L (a + 1 + c + 1) b) ∧ 400 ≤ x ∧ x < n ∧ 400 ≤ y ∧ y < n ∧ A 2 n = nI x ∧ A 3 n = nI y ∧ R a (a + 1 + c) (r / L (a + 1 + c + 1) b) x ∧ R (a + 1 + c + 1) b (r % L (a + 1 + c + 1) b) y)
/-- NODE n is READING p of the words i .. j -/
def Rd (E : Nat → Nat) (M : Nat → Nat → Nat → Nat) (L : Nat → Nat → Nat) (A : Nat → Nat → Int32) : Nat → Nat → Nat → Nat → Nat → Prop
  | 0, _, _, _, _ => False
  | f + 1, i, j, p, n => ∃ c q, c < 20 ∧ p = sW (M i j) c + q ∧ q < M i j c ∧ A 0 n = nI (c / 2) ∧ Rk E L A (Rd E M L A f) (c / 2) (i + c % 2) (j - c % 2) q n
theorem Rk_fr {E : Nat → Nat} {L : Nat → Nat → Nat} {A A' : Nat → Nat → Int32} {R R' : Nat → Nat → Nat → Nat → Prop} {k a b q n : Nat} (hn : 400 ≤ n) (e : ∀ r, r < 4 → ∀ x, 400 ≤ x → x ≤ n → A' r x = A r x) (hR : ∀ i j p x, 400 ≤ x → x < n → R i j p x → R' i j p x) (h : Rk E L A R k a b q n) : Rk E L A' R' k a b q n := by
  have e1 := e 1 (by decide) n hn (Nat.le_refl _)
  have e2 := e 2 (by decide) n hn (Nat.le_refl _)
  have e3 := e 3 (by decide) n hn (Nat.le_refl _)
  unfold Rk
  rw [e1, e2, e3]
  rcases h with h | h | ⟨k7, x, x1, x2, h2, h3, hr⟩ | ⟨k7, x, x1, x2, h2, h3, hr⟩ | ⟨k7, x, x1, x2, h2, h3, hr⟩ | ⟨k1, k6, c, r, x, y, hc, hE, hq, hr, x1, x2, y1, y2, h2, h3, rx, ry⟩
  · exact Or.inl h
  · exact Or.inr (Or.inl h)
  · exact Or.inr (Or.inr (Or.inl ⟨k7, x, x1, x2, h2, h3, hR _ _ _ _ x1 x2 hr⟩))
  · exact Or.inr (Or.inr (Or.inr (Or.inl ⟨k7, x, x1, x2, h2, h3, hR _ _ _ _ x1 x2 hr⟩)))
  · exact Or.inr (Or.inr (Or.inr (Or.inr (Or.inl ⟨k7, x, x1, x2, h2, h3, hR _ _ _ _ x1 x2 hr⟩))))
  · exact Or.inr (Or.inr (Or.inr (Or.inr (Or.inr ⟨k1, k6, c, r, x, y, hc, hE, hq, hr, x1, x2, y1, y2, h2, h3, hR _ _ _ _ x1 x2 rx, hR _ _ _ _ y1 y2 ry⟩))))
theorem Rd_fr {E : Nat → Nat} {M : Nat → Nat → Nat → Nat} {L : Nat → Nat → Nat} {A A' : Nat → Nat → Int32} : ∀ (f i j p n : Nat), 400 ≤ n → (∀ r, r < 4 → ∀ x, 400 ≤ x → x ≤ n → A' r x = A r x) → Rd E M L A f i j p n → Rd E M L A' f i j p n
  | 0, _, _, _, _, _, _, h => h
  | f + 1, i, j, p, n, hn, e, ⟨c, q, h1, h2, h3, h4, h5⟩ => ⟨c, q, h1, h2, h3, (e 0 (by decide) n hn (Nat.le_refl _)).trans h4, Rk_fr hn e (fun i j p x x1 x2 hr => Rd_fr f i j p x x1 (fun r hr0 y y1 y2 => e r hr0 y y1 (by omega)) hr) h5⟩
/-- NODES were made from place 400 + q on; the last is 400 + q1, and has them all -/
def tkF (A : Nat → Nat → Int32) (q : Nat) (A' : Nat → Nat → Int32) (q1 len : Nat) : Prop := (∀ r, 6 ≤ r → A' r = A r) ∧ tbI 400 (400 + (q1 + 1)) A' ∧ (∀ r x, x < 400 + q → A' r x = A r x) ∧ q ≤ q1 ∧ q1 + 1 - q ≤ len ∧ szN A' (400 + q1) = q1 + 1 - q
theorem szN_new {A : Nat → Nat → Int32} {n z : Nat} {k v x y : Int32} (h : Int32.ofInt 1 + rdv (A 4) x + rdv (A 4) y = nI z) (hz : z ≤ 40) : szN (setsA A n k v x y) n = z := szN_of (A := setsA A n k v x y) ((upd_self _ _ _).trans h) hz
theorem tkF_lf {A : Nat → Nat → Int32} {q : Nat} (hT : tbI 400 (400 + q) A) (hq : q < 45) {k : Nat} {v : Int32} (hk : k < 2) (hv : (k = 0 → ∃ w : Nat, w ≤ 9 ∧ v = nI w) ∧ (k = 1 → ∃ w : Nat, w ≤ 9999 ∧ v = nI w)) {len : Nat} (hl : 1 ≤ len) : tkF A q (setsA A (400 + q) (nI k) v m2 m2) q len :=
  ⟨fun r hr => setsA_r hr, tbI_sets hT (by omega) (by omega) (by omega) (Or.inl ⟨hk, rfl, rfl⟩) ⟨fun h => hv.1 (by omega), hv.2, fun h => absurd h (by omega)⟩, fun r x hx => setsA_o (by omega), Nat.le_refl _, by omega, by rw [szN_new (z := 1) (by rw [rdv_m2]; decide) (by decide)]; omega⟩
theorem tkF_un {A A1 : Nat → Nat → Int32} {q q1 l1 len : Nat} (h : tkF A q A1 q1 l1) (hl : l1 + 1 ≤ len) (h40 : len ≤ 40) (hq : q1 < 45) {k : Nat} {v : Int32} (k7 : 7 ≤ k) (k9 : k ≤ 9) (hv : (k = 9 → ∃ w : Nat, w ≤ 9 ∧ v = nI w) ∧ (k ≤ 8 → v = m2)) : tkF A q (setsA A1 (400 + (q1 + 1)) (nI k) v (nI (400 + q1)) m2) (q1 + 1) len := by
  obtain ⟨h1, h2, h3, h4, h5, h6⟩ := h
  refine ⟨fun r hr => (setsA_r hr).trans (h1 r hr), tbI_sets h2 (by omega) (by omega) (by omega) (Or.inr (Or.inr ⟨k7, 400 + q1, rfl, by omega, by omega, rfl, by omega⟩)) ⟨fun e => hv.1 (by omega), fun e => absurd e (by omega), fun _ e => hv.2 e⟩, fun r x hx => (setsA_o (by omega)).trans (h3 r x hx), by omega, by omega, ?_⟩
  rw [szN_new (z := q1 + 1 + 1 - q) ?_ (by omega)]
  rw [rdv_nI (by omega), rdv_m2, (rN_sz (h2 (400 + q1) (by omega) (by omega))).2.2, h6, show Int32.ofInt 1 = nI 1 from rfl, show Int32.ofInt 0 = nI 0 from rfl, nI_add, nI_add]
  congr 1
  omega
theorem tkF_bi {A A1 A2 : Nat → Nat → Int32} {q q1 q2 l1 l2 len : Nat} (h : tkF A q A1 q1 l1) (g : tkF A1 (q1 + 1) A2 q2 l2) (hl : l1 + l2 + 1 ≤ len) (h40 : len ≤ 40) (hq : q2 < 45) {k : Nat} (k2 : 2 ≤ k) (k6 : k ≤ 6) : tkF A q (setsA A2 (400 + (q2 + 1)) (nI k) m2 (nI (400 + q1)) (nI (400 + q2))) (q2 + 1) len := by
  obtain ⟨h1, h2, h3, h4, h5, h6⟩ := h
  obtain ⟨g1, g2, g3, g4, g5, g6⟩ := g
  have e1 : szN A2 (400 + q1) = q1 + 1 - q := by
    unfold szN at h6 ⊢
    rw [g3 4 (400 + q1) (by omega)]
    exact h6
  refine ⟨fun r hr => (setsA_r hr).trans ((g1 r hr).trans (h1 r hr)), tbI_sets g2 (by omega) (by omega) (by omega) (Or.inr (Or.inl ⟨k2, k6, 400 + q1, 400 + q2, rfl, by omega, by omega, rfl, by omega, by omega, by omega⟩)) ⟨fun e => absurd e (by omega), fun e => absurd e (by omega), fun _ _ => rfl⟩, fun r x hx => (setsA_o (by omega)).trans ((g3 r x (by omega)).trans (h3 r x hx)), by omega, by omega, ?_⟩
  rw [szN_new (z := q2 + 1 + 1 - q) ?_ (by omega)]
  rw [rdv_nI (by omega), rdv_nI (by omega), (rN_sz (g2 (400 + q1) (by omega) (by omega))).2.2, (rN_sz (g2 (400 + q2) (by omega) (by omega))).2.2, e1, g6, show Int32.ofInt 1 = nI 1 from rfl, nI_add, nI_add]
  congr 1
  omega
theorem e400 : (Int16.ofInt 400).toInt32 = nI 400 := by decide +kernel
set_option maxHeartbeats 1000000 in
set_option maxRecDepth 20000 in
theorem mMakes (f : Nat → zC) (o : Nat → Int32) (A : Nat → Nat → Int32) (J : Nat → Nat → Int64) {q : Nat} (hq : q < 50) {k v x y : Int32} (hx : 0 ≤ x → vp_in x 450) (hy : 0 ≤ y → vp_in y 450) : zK 1 zX7_makes [.ref 76, .int k, .int v, .int x, .int y] (wR f (upd o 29 (nI q)) A J) (fun r w' => r = some (.int (nI (400 + q))) ∧ w' = wR f (upd o 29 (nI (q + 1))) (setsA A (400 + q) k v x y) J) := by
  refine zK_of qX7_makes (by decide +kernel) rfl ?_
  iterate 9 (refine zv_step (bX7_makes 1) rfl rfl trivial ?_)
  refine zv_V5 (bX7_makes 1) rfl rfl rfl rfl rfl rfl rfl ⟨rfl, rfl, rfl⟩ ⟨by decide, by decide⟩ ⟨Nat.zero_le _, Nat.zero_le _⟩ (mSetsE f (upd o 29 (nI q)) A J (show (Int16.ofInt 400).toInt32 + nI q = nI (400 + q) by rw [e400, nI_add]) (by omega) hx hy) ?_
  rintro _ _ ⟨rfl, rfl⟩
  iterate 12 (refine zv_step (bX7_makes 1) rfl rfl trivial ?_)
  exact zv_iret (bX7_makes 1) rfl (Or.inl rfl) (Nat.zero_le _) (Nat.zero_le _) ⟨by show some (Value.int ((Int16.ofInt 400).toInt32 + (nI q + Int32.ofInt 1) - Int32.ofInt 1)) = _; rw [show nI q + Int32.ofInt 1 = nI (q + 1) from nI_1 q, e400, nI_add, show nI (400 + (q + 1)) - Int32.ofInt 1 = nI (400 + q) from nI_m1 (400 + q)], by rw [show nI (q + 1) = nI q + Int32.ofInt 1 from (nI_1 q).symm]; rfl⟩
