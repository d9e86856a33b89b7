/-- z NODES were copied behind u; the last is u1, and has them all -/
def cpF (u : Nat) (A A' : Nat → Nat → Int32) (u1 z : Nat) : Prop := tbI 0 (u1 + 1) A' ∧ (∀ r, 6 ≤ r → A' r = A r) ∧ (∀ r x, (x < u ∨ 120 ≤ x) → A' r x = A r x) ∧ u1 + 1 = u + z ∧ szN A' u1 = z
theorem rN_val {lo n : Nat} {A : Nat → Nat → Int32} (h : rN lo A n) : ∃ k : Nat, A 0 n = nI k ∧ k < 10 ∧ ((k < 2 ∧ A 2 n = m2 ∧ A 3 n = m2 ∧ szN A n = 1) ∨ (2 ≤ k ∧ k ≤ 6 ∧ ∃ a b : Nat, A 2 n = nI a ∧ lo ≤ a ∧ a < n ∧ A 3 n = nI b ∧ lo ≤ b ∧ b < n ∧ szN A n = 1 + szN A a + szN A b) ∨ (7 ≤ k ∧ ∃ a : Nat, A 2 n = nI a ∧ lo ≤ a ∧ a < n ∧ A 3 n = m2 ∧ szN A n = 1 + szN A a)) ∧ szN A n ≤ 40 ∧ ((k = 0 ∨ k = 9 → ∃ v : Nat, v ≤ 9 ∧ A 1 n = nI v) ∧ (k = 1 → ∃ v : Nat, v ≤ 9999 ∧ A 1 n = nI v) ∧ (2 ≤ k → k ≤ 8 → A 1 n = m2)) := by
  obtain ⟨k, z, h0, hk, h4, hz, hs, hv⟩ := h
  rw [szN_of h4 hz]
  exact ⟨k, h0, hk, hs, hz, hv⟩
theorem cpF_lf {u : Nat} {A : Nat → Nat → Int32} (hT : tbI 0 u A) (hu : u < 120) {k : Nat} {v : Int32} (hk : k < 2) (hv : (k = 0 ∨ k = 9 → ∃ w : Nat, w ≤ 9 ∧ v = nI w) ∧ (k = 1 → ∃ w : Nat, w ≤ 9999 ∧ v = nI w) ∧ (2 ≤ k → k ≤ 8 → v = m2)) : cpF u A (setsA A u (nI k) v m2 m2) u 1 :=
  ⟨tbI_sets hT (Nat.zero_le _) (by omega) (by omega) (Or.inl ⟨hk, rfl, rfl⟩) hv, fun r hr => setsA_r hr, fun r x hx => setsA_o (by omega), rfl, szN_new (z := 1) (by rw [rdv_m2]; decide) (by decide)⟩
theorem cpF_un {u u1 z : Nat} {A A1 : Nat → Nat → Int32} (h : cpF u A A1 u1 z) (hu : u1 + 1 < 120) (hz : z + 1 ≤ 40) {k : Nat} {v : Int32} (k7 : 7 ≤ k) (k9 : k < 10) (hv : (k = 0 ∨ k = 9 → ∃ w : Nat, w ≤ 9 ∧ v = nI w) ∧ (k = 1 → ∃ w : Nat, w ≤ 9999 ∧ v = nI w) ∧ (2 ≤ k → k ≤ 8 → v = m2)) : cpF u A (setsA A1 (u1 + 1) (nI k) v (nI u1) m2) (u1 + 1) (1 + z) := by
  obtain ⟨h1, h2, h3, h4, h5⟩ := h
  refine ⟨tbI_sets h1 (Nat.zero_le _) (by omega) k9 (Or.inr (Or.inr ⟨k7, u1, rfl, Nat.zero_le _, by omega, rfl, by omega⟩)) hv, fun r hr => (setsA_r hr).trans (h2 r hr), fun r x hx => (setsA_o (by omega)).trans (h3 r x hx), by omega, ?_⟩
  refine szN_new (z := 1 + z) ?_ (by omega)
  rw [rdv_nI (by omega), rdv_m2, (rN_sz (h1 u1 (Nat.zero_le _) (by omega))).2.2, h5, show Int32.ofInt 1 = nI 1 from rfl, show Int32.ofInt 0 = nI 0 from rfl, nI_add, nI_add]
  rfl
theorem cpF_bi {u u1 u2 z z2 : Nat} {A A1 A2 : Nat → Nat → Int32} (h : cpF u A A1 u1 z) (g : cpF (u1 + 1) A1 A2 u2 z2) (hu : u2 + 1 < 120) (hz : 1 + z + z2 ≤ 40) (hz2 : 1 ≤ z2) {k : Nat} {v : Int32} (k2 : 2 ≤ k) (k6 : k ≤ 6) (hv : (k = 0 ∨ k = 9 → ∃ w : Nat, w ≤ 9 ∧ v = nI w) ∧ (k = 1 → ∃ w : Nat, w ≤ 9999 ∧ v = nI w) ∧ (2 ≤ k → k ≤ 8 → v = m2)) : cpF u A (setsA A2 (u2 + 1) (nI k) v (nI u1) (nI u2)) (u2 + 1) (1 + z + z2) := by
  obtain ⟨h1, h2, h3, h4, h5⟩ := h
  obtain ⟨g1, g2, g3, g4, g5⟩ := g
  have e1 : szN A2 u1 = z := by
    unfold szN at h5 ⊢
    rw [g3 4 u1 (by omega)]
    exact h5
  refine ⟨tbI_sets g1 (Nat.zero_le _) (by omega) (by omega) (Or.inr (Or.inl ⟨k2, k6, u1, u2, rfl, Nat.zero_le _, by omega, rfl, Nat.zero_le _, by omega, by omega⟩)) hv, fun r hr => (setsA_r hr).trans ((g2 r hr).trans (h2 r hr)), fun r x hx => (setsA_o (by omega)).trans ((g3 r x (by omega)).trans (h3 r x hx)), by omega, ?_⟩
  refine szN_new (z := 1 + z + z2) ?_ (by omega)
  rw [rdv_nI (by omega), rdv_nI (by omega), (rN_sz (g1 u1 (Nat.zero_le _) (by omega))).2.2, (rN_sz (g1 u2 (Nat.zero_le _) (by omega))).2.2, e1, g5, show Int32.ofInt 1 = nI 1 from rfl, nI_add, nI_add]
set_option maxHeartbeats 1000000 in
set_option maxRecDepth 20000 in
theorem mCopies (f : Nat → zC) (o : Nat → Int32) (J : Nat → Nat → Int64) {hi : Nat} (hh : hi ≤ 450) : ∀ (z : Nat) (A : Nat → Nat → Int32) (n : Nat), 400 ≤ n → n < hi → szN A n ≤ z → ∀ (u : Nat), tbI 0 u A → tbI 400 hi A → u + szN A n ≤ 120 → zK (z + 1) zX7_copies [.ref 76, .int (nI n)] (wR f (upd o 0 (nI u)) A J) (fun r w' => ∃ (u1 : Nat) (A' : Nat → Nat → Int32), r = some (.int (nI u1)) ∧ w' = (wR f (upd o 0 (nI (u1 + 1))) A' J) ∧ cpF u A A' u1 (szN A n)) := by
  intro z
  induction z with
  | zero =>
    intro A n hlo hn hz u _ hO
    have := (rN_sz (hO n hlo hn)).1
    omega
  | succ z ih1 =>
    intro A n hlo hn hz u hT hO hu
    have ih := fun (n : Nat) (h1 : 400 ≤ n) (h2 : n < hi) (h3 : szN A n ≤ z) (u : Nat) (A' : Nat → Nat → Int32) (g1 : tbI 0 u A) (g2 : tbI 400 hi A) (g3 : u + szN A n ≤ 120) => ih1 A n h1 h2 h3 u g1 g2 g3
    obtain ⟨k, h0, hk, hs, h40, hv⟩ := rN_val (hO n hlo hn)
    refine zK_of qX7_copies (by decide +kernel) rfl ?_
    rcases hs with ⟨k1, h2, h3, es⟩ | ⟨k1, k6, a, b, h2, la, ha, h3, lb, hb, es⟩ | ⟨k1, a, h2, la, ha, h3, es⟩
    · iterate 3 (refine zv_step (bX7_copies (z + 1 + 1)) rfl rfl trivial ?_)
      refine zv_iale (bX7_copies (z + 1 + 1)) rfl rfl (vp_in_nI (by omega) (by decide)) (show A 2 (nI n).toNatClampNeg = m2 by rw [nI_clamp (by omega)]; exact h2) ?_
      iterate 1 (refine zv_step (bX7_copies (z + 1 + 1)) rfl rfl trivial ?_)
      refine zv_iff (by decide) ?_
      iterate 6 (refine zv_step (bX7_copies (z + 1 + 1)) rfl rfl trivial ?_)
      refine zv_iale (bX7_copies (z + 1 + 1)) rfl rfl (vp_in_nI (by omega) (by decide)) (show A 3 (nI n).toNatClampNeg = m2 by rw [nI_clamp (by omega)]; exact h3) ?_
      iterate 1 (refine zv_step (bX7_copies (z + 1 + 1)) rfl rfl trivial ?_)
      refine zv_iff (by decide) ?_
      iterate 9 (refine zv_step (bX7_copies (z + 1 + 1)) rfl rfl trivial ?_)
      refine zv_iale (bX7_copies (z + 1 + 1)) rfl rfl (vp_in_nI (by omega) (by decide)) (show A 0 (nI n).toNatClampNeg = nI k by rw [nI_clamp (by omega)]; exact h0) ?_
      iterate 3 (refine zv_step (bX7_copies (z + 1 + 1)) rfl rfl trivial ?_)
      refine zv_iale (bX7_copies (z + 1 + 1)) rfl rfl (vp_in_nI (by omega) (by decide)) (show A 1 (nI n).toNatClampNeg = A 1 n by rw [nI_clamp (by omega)]) ?_
      iterate 2 (refine zv_step (bX7_copies (z + 1 + 1)) rfl rfl trivial ?_)
      refine zv_V5 (bX7_copies (z + 1 + 1)) rfl rfl rfl rfl rfl rfl rfl ⟨rfl, rfl, rfl⟩ ⟨by show 0 + 1 ≤ z + 1 + 1; omega, by show 8 + (8 + 11) + 64 * (0) ≤ 64 * (z + 1 + 1); omega⟩ ⟨Nat.zero_le _, Nat.zero_le _⟩ (mSetsE f (upd o 0 (nI u)) A J (show upd o 0 (nI u) 0 = nI u from rfl) (by omega) vpm2 vpm2) ?_
      rintro _ _ ⟨rfl, rfl⟩
      iterate 10 (refine zv_step (bX7_copies (z + 1 + 1)) rfl rfl trivial ?_)
      exact zv_iret (bX7_copies (z + 1 + 1)) rfl (Or.inl rfl) (Nat.zero_le _) (Nat.zero_le _) ⟨u, _, by show some (Value.int (nI (u) + Int32.ofInt 1 - Int32.ofInt 1)) = _; rw [show nI (u) + Int32.ofInt 1 = nI (u + 1) from nI_1 _, show nI (u + 1) - Int32.ofInt 1 = nI (u) from nI_m1 _], by rw [show nI (u + 1) = nI (u) + Int32.ofInt 1 from (nI_1 _).symm]; rfl, by rw [es]; exact cpF_lf hT (by omega) k1 hv⟩
    · iterate 3 (refine zv_step (bX7_copies (z + 1 + 1)) rfl rfl trivial ?_)
      refine zv_iale (bX7_copies (z + 1 + 1)) rfl rfl (vp_in_nI (by omega) (by decide)) (show A 2 (nI n).toNatClampNeg = nI a by rw [nI_clamp (by omega)]; exact h2) ?_
      iterate 1 (refine zv_step (bX7_copies (z + 1 + 1)) rfl rfl trivial ?_)
      refine zv_ift (nI_pos' (by omega)) ?_
      iterate 4 (refine zv_step (bX7_copies (z + 1 + 1)) rfl rfl trivial ?_)
      refine zv_iale (bX7_copies (z + 1 + 1)) rfl rfl (vp_in_nI (by omega) (by decide)) (show A 2 (nI n).toNatClampNeg = nI a by rw [nI_clamp (by omega)]; exact h2) ?_
      refine zv_V1 (bX7_copies (z + 1 + 1)) rfl rfl rfl rfl rfl rfl rfl ⟨rfl, rfl, rfl⟩ ⟨by show z + 1 + 1 ≤ z + 1 + 1; omega, by show 8 + (4 + 11) + 64 * (z + 1) ≤ 64 * (z + 1 + 1); omega⟩ ⟨Nat.zero_le _, Nat.zero_le _⟩ (ih a (by omega) (by omega) (by omega) u A hT hO (by omega)) ?_
      rintro _ _ ⟨u1, A1, rfl, rfl, c1⟩
      have n1 := c1.2.2.2.1
      have eb : szN A1 b = szN A b := by
        unfold szN
        rw [c1.2.2.1 4 b (Or.inr (by omega))]
      have ih2 := fun (n : Nat) (h1 : 400 ≤ n) (h2 : n < hi) (h3 : szN A1 n ≤ z) => ih1 A1 n h1 h2 h3
      iterate 4 (refine zv_step (bX7_copies (z + 1 + 1)) rfl rfl trivial ?_)
      refine zv_iale (bX7_copies (z + 1 + 1)) rfl rfl (vp_in_nI (by omega) (by decide)) (show A1 3 (nI n).toNatClampNeg = nI b by rw [nI_clamp (by omega)]; exact (c1.2.2.1 3 n (Or.inr (by omega))).trans h3) ?_
      iterate 1 (refine zv_step (bX7_copies (z + 1 + 1)) rfl rfl trivial ?_)
      refine zv_ift (nI_pos' (by omega)) ?_
      iterate 4 (refine zv_step (bX7_copies (z + 1 + 1)) rfl rfl trivial ?_)
      refine zv_iale (bX7_copies (z + 1 + 1)) rfl rfl (vp_in_nI (by omega) (by decide)) (show A1 3 (nI n).toNatClampNeg = nI b by rw [nI_clamp (by omega)]; exact (c1.2.2.1 3 n (Or.inr (by omega))).trans h3) ?_
      refine zv_V1 (bX7_copies (z + 1 + 1)) rfl rfl rfl rfl rfl rfl rfl ⟨rfl, rfl, rfl⟩ ⟨by show z + 1 + 1 ≤ z + 1 + 1; omega, by show 8 + (4 + 11) + 64 * (z + 1) ≤ 64 * (z + 1 + 1); omega⟩ ⟨Nat.zero_le _, Nat.zero_le _⟩ (ih2 b (by omega) (by omega) (by omega) (u1 + 1) c1.1 (tbI_fr hO (fun r _ i hi _ => c1.2.2.1 r i (Or.inr (by omega)))) (by rw [eb]; omega)) ?_
      rintro _ _ ⟨u2, A2, rfl, rfl, c2⟩
      rw [eb] at c2
      have n2 := c2.2.2.2.1
      iterate 7 (refine zv_step (bX7_copies (z + 1 + 1)) rfl rfl trivial ?_)
      refine zv_iale (bX7_copies (z + 1 + 1)) rfl rfl (vp_in_nI (by omega) (by decide)) (show A2 0 (nI n).toNatClampNeg = nI k by rw [nI_clamp (by omega)]; exact ((c2.2.2.1 0 n (Or.inr (by omega))).trans (c1.2.2.1 0 n (Or.inr (by omega)))).trans h0) ?_
      iterate 3 (refine zv_step (bX7_copies (z + 1 + 1)) rfl rfl trivial ?_)
      refine zv_iale (bX7_copies (z + 1 + 1)) rfl rfl (vp_in_nI (by omega) (by decide)) (show A2 1 (nI n).toNatClampNeg = A 1 n by rw [nI_clamp (by omega)]; exact (c2.2.2.1 1 n (Or.inr (by omega))).trans (c1.2.2.1 1 n (Or.inr (by omega)))) ?_
      iterate 2 (refine zv_step (bX7_copies (z + 1 + 1)) rfl rfl trivial ?_)
      refine zv_V5 (bX7_copies (z + 1 + 1)) rfl rfl rfl rfl rfl rfl rfl ⟨rfl, rfl, rfl⟩ ⟨by show 0 + 1 ≤ z + 1 + 1; omega, by show 8 + (8 + 11) + 64 * (0) ≤ 64 * (z + 1 + 1); omega⟩ ⟨Nat.zero_le _, Nat.zero_le _⟩ (mSetsE f (upd o 0 (nI (u2 + 1))) A2 J (show upd o 0 (nI (u2 + 1)) 0 = nI (u2 + 1) from rfl) (by omega) (fun _ => vp_in_nI (by omega) (by decide)) (fun _ => vp_in_nI (by omega) (by decide))) ?_
      rintro _ _ ⟨rfl, rfl⟩
      iterate 10 (refine zv_step (bX7_copies (z + 1 + 1)) rfl rfl trivial ?_)
      exact zv_iret (bX7_copies (z + 1 + 1)) rfl (Or.inl rfl) (Nat.zero_le _) (Nat.zero_le _) ⟨u2 + 1, _, by show some (Value.int (nI (u2 + 1) + Int32.ofInt 1 - Int32.ofInt 1)) = _; rw [show nI (u2 + 1) + Int32.ofInt 1 = nI (u2 + 1 + 1) from nI_1 _, show nI (u2 + 1 + 1) - Int32.ofInt 1 = nI (u2 + 1) from nI_m1 _], by rw [show nI (u2 + 1 + 1) = nI (u2 + 1) + Int32.ofInt 1 from (nI_1 _).symm]; rfl, by rw [es]; exact cpF_bi c1 c2 (by omega) (by omega) (rN_sz (hO b (by omega) (by omega))).1 k1 k6 hv⟩
    · iterate 3 (refine zv_step (bX7_copies (z + 1 + 1)) rfl rfl trivial ?_)
      refine zv_iale (bX7_copies (z + 1 + 1)) rfl rfl (vp_in_nI (by omega) (by decide)) (show A 2 (nI n).toNatClampNeg = nI a by rw [nI_clamp (by omega)]; exact h2) ?_
      iterate 1 (refine zv_step (bX7_copies (z + 1 + 1)) rfl rfl trivial ?_)
      refine zv_ift (nI_pos' (by omega)) ?_
      iterate 4 (refine zv_step (bX7_copies (z + 1 + 1)) rfl rfl trivial ?_)
      refine zv_iale (bX7_copies (z + 1 + 1)) rfl rfl (vp_in_nI (by omega) (by decide)) (show A 2 (nI n).toNatClampNeg = nI a by rw [nI_clamp (by omega)]; exact h2) ?_
      refine zv_V1 (bX7_copies (z + 1 + 1)) rfl rfl rfl rfl rfl rfl rfl ⟨rfl, rfl, rfl⟩ ⟨by show z + 1 + 1 ≤ z + 1 + 1; omega, by show 8 + (4 + 11) + 64 * (z + 1) ≤ 64 * (z + 1 + 1); omega⟩ ⟨Nat.zero_le _, Nat.zero_le _⟩ (ih a (by omega) (by omega) (by omega) u A hT hO (by omega)) ?_
      rintro _ _ ⟨u1, A1, rfl, rfl, c1⟩
      have n1 := c1.2.2.2.1
      iterate 4 (refine zv_step (bX7_copies (z + 1 + 1)) rfl rfl trivial ?_)
      refine zv_iale (bX7_copies (z + 1 + 1)) rfl rfl (vp_in_nI (by omega) (by decide)) (show A1 3 (nI n).toNatClampNeg = m2 by rw [nI_clamp (by omega)]; exact (c1.2.2.1 3 n (Or.inr (by omega))).trans h3) ?_
      iterate 1 (refine zv_step (bX7_copies (z + 1 + 1)) rfl rfl trivial ?_)
      refine zv_iff (by decide) ?_
      iterate 9 (refine zv_step (bX7_copies (z + 1 + 1)) rfl rfl trivial ?_)
      refine zv_iale (bX7_copies (z + 1 + 1)) rfl rfl (vp_in_nI (by omega) (by decide)) (show A1 0 (nI n).toNatClampNeg = nI k by rw [nI_clamp (by omega)]; exact (c1.2.2.1 0 n (Or.inr (by omega))).trans h0) ?_
      iterate 3 (refine zv_step (bX7_copies (z + 1 + 1)) rfl rfl trivial ?_)
      refine zv_iale (bX7_copies (z + 1 + 1)) rfl rfl (vp_in_nI (by omega) (by decide)) (show A1 1 (nI n).toNatClampNeg = A 1 n by rw [nI_clamp (by omega)]; exact c1.2.2.1 1 n (Or.inr (by omega))) ?_
      iterate 2 (refine zv_step (bX7_copies (z + 1 + 1)) rfl rfl trivial ?_)
      refine zv_V5 (bX7_copies (z + 1 + 1)) rfl rfl rfl rfl rfl rfl rfl ⟨rfl, rfl, rfl⟩ ⟨by show 0 + 1 ≤ z + 1 + 1; omega, by show 8 + (8 + 11) + 64 * (0) ≤ 64 * (z + 1 + 1); omega⟩ ⟨Nat.zero_le _, Nat.zero_le _⟩ (mSetsE f (upd o 0 (nI (u1 + 1))) A1 J (show upd o 0 (nI (u1 + 1)) 0 = nI (u1 + 1) from rfl) (by omega) (fun _ => vp_in_nI (by omega) (by decide)) vpm2) ?_
      rintro _ _ ⟨rfl, rfl⟩
      iterate 10 (refine zv_step (bX7_copies (z + 1 + 1)) rfl rfl trivial ?_)
      exact zv_iret (bX7_copies (z + 1 + 1)) rfl (Or.inl rfl) (Nat.zero_le _) (Nat.zero_le _) ⟨u1 + 1, _, by show some (Value.int (nI (u1 + 1) + Int32.ofInt 1 - Int32.ofInt 1)) = _; rw [show nI (u1 + 1) + Int32.ofInt 1 = nI (u1 + 1 + 1) from nI_1 _, show nI (u1 + 1 + 1) - Int32.ofInt 1 = nI (u1 + 1) from nI_m1 _], by rw [show nI (u1 + 1 + 1) = nI (u1 + 1) + Int32.ofInt 1 from (nI_1 _).symm]; rfl, by rw [es]; exact cpF_un c1 (by omega) (by omega) k1 hk hv⟩
theorem l_nat {z : Int64} (h : 0 ≤ z.toInt) {c : Nat} (hc : c ≤ cap) (hz : z < lN c) : ∃ p : Nat, p < c ∧ z = lN p := by
  rw [Int64.lt_iff_toInt_lt, lN_T (by unfold cap at hc; omega)] at hz
  refine ⟨z.toInt.toNat, by omega, ?_⟩
  rw [← Int64.toInt_inj, lN_T (by unfold cap at hc; omega)]
  omega
theorem ctW_le {h : Nat} {A : Nat → Nat → Int32} {s : Nat} {J : Nat → Nat → Int64} (hJ : okJ h A s J) : ctW h J ≤ cap := by
  unfold ctW
  split
  · exact Nat.zero_le _
  · exact (okS_l (hJ 0 h (by omega) (Nat.le_refl _))).2.1
theorem ctW_lt {h p : Nat} {J : Nat → Nat → Int64} (hp : p < ctW h J) : 0 < h ∧ p < lW J 0 h := by
  unfold ctW at hp
  split at hp
  · omega
  · exact ⟨by omega, hp⟩
/-- NODES may have come, the OWN ones too -/
def ndY (o : Nat → Int32) (u : Nat) (A : Nat → Nat → Int32) (o' : Nat → Int32) (A' : Nat → Nat → Int32) : Prop := (∃ u' : Nat, u ≤ u' ∧ u' ≤ 120 ∧ o' 0 = nI u' ∧ tbI 0 u' A') ∧ (∀ j, j ≠ 0 → j ≠ 28 → j ≠ 29 → o' j = o j) ∧ (∀ r, 6 ≤ r → A' r = A r) ∧ (∀ r i, i < u → A' r i = A r i)
set_option maxHeartbeats 1000000 in
set_option maxRecDepth 20000 in
theorem mWrite (f : Nat → zC) (o : Nat → Int32) (A : Nat → Nat → Int32) (J : Nat → Nat → Int64) {u : Nat} (hu : u ≤ 120) (ho : o 0 = nI u) (hT : tbI 0 u A) {h : Nat} (hh : h ≤ 20) (hw : nnW h (A 8)) (ho10 : o 10 = nI h) (x : Int32) (z : Int64) : zK 50 zX7_write [.ref 76, .int x, .long z] (wR f o A J) (fun r w' => ∃ (o' : Nat → Int32) (A' : Nat → Nat → Int32) (J' : Nat → Nat → Int64) (R : Int32), r = some (.int R) ∧ w' = wR f o' A' J' ∧ ndY o u A o' A') := by
  refine zK_of qX7_write (by decide +kernel) rfl ?_
  iterate 4 (refine zv_step (bX7_write 50) rfl rfl trivial ?_)
  refine zv_S3 (bX7_write 50) rfl rfl rfl rfl ⟨rfl, rfl, rfl⟩ ⟨by decide, by decide⟩ ⟨Nat.zero_le _, Nat.zero_le _⟩ (mIn _ _ _ _ (a := 0) (b := 8) (by decide) (by decide)) ?_
  rintro _ _ ⟨rfl, ⟨g1, rfl⟩ | ⟨g1, rfl⟩⟩
  · obtain ⟨s, hs, rfl⟩ := in_nat (x := x) (b := 8) (by decide) g1
    iterate 1 (refine zv_step (bX7_write 50) rfl rfl trivial ?_)
    refine zv_iff (by decide) ?_
    iterate 4 (refine zv_step (bX7_write 50) rfl rfl trivial ?_)
    refine zv_ifb (fun h15 => ?_) (fun h15 => ?_)
    · have z0 : 0 ≤ z.toInt := by
        rw [lg_cmp_ge, Int64.le_iff_toInt_le] at h15
        exact h15
      iterate 3 (refine zv_step (bX7_write 50) rfl rfl trivial ?_)
      refine zv_V1 (bX7_write 50) rfl rfl rfl rfl rfl rfl rfl ⟨rfl, rfl, rfl⟩ ⟨by decide, by decide⟩ ⟨Nat.zero_le _, Nat.zero_le _⟩ (mCounted f o A J hh hw ho10 hs rfl) ?_
      rintro _ _ ⟨J1, rfl, rfl, hJ⟩
      iterate 2 (refine zv_step (bX7_write 50) rfl rfl trivial ?_)
      refine zv_ifb (fun h27 => ?_) (fun h27 => ?_)
      · obtain ⟨p, hp, rfl⟩ := l_nat z0 (ctW_le hJ) ((lg_cmp_lt _ _).mp h27)
        obtain ⟨h0, hp⟩ := ctW_lt hp
        iterate 3 (refine zv_step (bX7_write 50) rfl rfl trivial ?_)
        refine zv_world (show _ = wR f (upd (upd o 28 (nI s)) 29 (nI 0)) A J1 from rfl) ?_
        iterate 5 (refine zv_step (bX7_write 50) rfl rfl trivial ?_)
        refine zv_V3 (bX7_write 50) rfl rfl rfl rfl rfl rfl rfl ⟨rfl, rfl, rfl⟩ ⟨by show 2 * h + 3 + 1 ≤ 50; omega, by show 8 + (12 + 11) + 64 * (2 * h + 3) ≤ 64 * 50; omega⟩ ⟨Nat.zero_le _, Nat.zero_le _⟩ (mTakes f (upd o 28 (nI s)) A J1 hh hw hJ h 0 h p _ _ _ rfl ho10 rfl h0 (Nat.le_refl _) (by omega) hp 0 A (fun _ _ => rfl) (fun n h1 h2 => absurd h2 (by omega)) (by omega)) ?_
        rintro _ _ ⟨q1, A1, rfl, rfl, k1, r1⟩
        have l1 := k1.2.2.2.2.1
        have es := k1.2.2.2.2.2
        have hT1 : tbI 0 u A1 := tbI_fr hT (fun r _ i _ hi => k1.2.2.1 r i (by omega))
        iterate 8 (refine zv_step (bX7_write 50) rfl rfl trivial ?_)
        refine zv_ifb (fun h61 => ?_) (fun h61 => ?_)
        · have hfit : u + (q1 + 1) ≤ 120 := by
            have h9 : o 0 + nI (q1 + 1) ≤ nI 120 := h61
            rwa [ho, nI_add, nI_leI (by omega) (by decide)] at h9
          refine zv_world (show _ = wR f (upd (upd (upd o 28 (nI s)) 29 (nI (q1 + 1))) 0 (nI u)) A1 J1 from by rw [← ho]; rfl) ?_
          iterate 2 (refine zv_step (bX7_write 50) rfl rfl trivial ?_)
          refine zv_V1 (bX7_write 50) rfl rfl rfl rfl rfl rfl rfl ⟨rfl, rfl, rfl⟩ ⟨by decide, by decide⟩ ⟨Nat.zero_le _, Nat.zero_le _⟩ (mCopies f (upd (upd o 28 (nI s)) 29 (nI (q1 + 1))) J1 (hi := 400 + (q1 + 1)) (by omega) 40 A1 (400 + q1) (by omega) (by omega) (by omega) u hT1 k1.2.1 (by omega)) ?_
          rintro _ _ ⟨u1, A2, rfl, rfl, c1⟩
          exact zv_iret (bX7_write 50) rfl (Or.inl rfl) (Nat.zero_le _) (Nat.zero_le _) ⟨_, A2, J1, _, rfl, rfl, ⟨u1 + 1, by have := c1.2.2.2.1; omega, by have := c1.2.2.2.1; omega, upd_self _ _ _, c1.1⟩, fun j a b c => by rw [upd_ne _ _ a, upd_ne _ _ c, upd_ne _ _ b], fun r hr => (c1.2.1 r hr).trans (k1.1 r hr), fun r i hi => (c1.2.2.1 r i (Or.inl hi)).trans (k1.2.2.1 r i (by omega))⟩
        · iterate 1 (refine zv_step (bX7_write 50) rfl rfl trivial ?_)
          exact zv_iret (bX7_write 50) rfl (Or.inl rfl) (Nat.zero_le _) (Nat.zero_le _) ⟨upd (upd o 28 (nI s)) 29 (nI (q1 + 1)), A1, J1, _, rfl, rfl, ⟨u, Nat.le_refl _, hu, ho, hT1⟩, fun j a b c => by rw [upd_ne _ _ c, upd_ne _ _ b], k1.1, fun r i hi => k1.2.2.1 r i (by omega)⟩
      · iterate 1 (refine zv_step (bX7_write 50) rfl rfl trivial ?_)
        exact zv_iret (bX7_write 50) rfl (Or.inl rfl) (Nat.zero_le _) (Nat.zero_le _) ⟨(upd o 28 (nI s)), A, J1, _, rfl, rfl, ⟨u, Nat.le_refl _, hu, ho, hT⟩, fun j a b c => by rw [upd_ne _ _ b], fun _ _ => rfl, fun _ _ _ => rfl⟩
    · iterate 1 (refine zv_step (bX7_write 50) rfl rfl trivial ?_)
      exact zv_iret (bX7_write 50) rfl (Or.inl rfl) (Nat.zero_le _) (Nat.zero_le _) ⟨o, A, J, _, rfl, rfl, ⟨u, Nat.le_refl _, hu, ho, hT⟩, fun _ _ _ _ => rfl, fun _ _ => rfl, fun _ _ _ => rfl⟩
  · skip
    iterate 1 (refine zv_step (bX7_write 50) rfl rfl trivial ?_)
    refine zv_ift (by decide) ?_
    iterate 1 (refine zv_step (bX7_write 50) rfl rfl trivial ?_)
    exact zv_iret (bX7_write 50) rfl (Or.inl rfl) (Nat.zero_le _) (Nat.zero_le _) ⟨o, A, J, _, rfl, rfl, ⟨u, Nat.le_refl _, hu, ho, hT⟩, fun _ _ _ _ => rfl, fun _ _ => rfl, fun _ _ _ => rfl⟩
