section
/-- z NODES were copied behind u; the last is u1, and has them all -/
def cpF (u : Nat) (A A' : Nat → Nat → Int32) (u1 z : Nat) : Prop := tbI 0 (u1 + 1) A' ∧ (∀ r, 6 ≤ r → A' r = A r) ∧ (∀ r x, (x < u ∨ 120 ≤ x) → A' r x = A r x) ∧ u1 + 1 = u + z ∧ szN A' u1 = z
theorem rN_val {lo n : Nat} {A : Nat → Nat → Int32} (h : rN lo A n) : ∃ k : Nat, A 0 n = nI k ∧ k < 10 ∧ ((k < 2 ∧ A 2 n = m2 ∧ A 3 n = m2 ∧ szN A n = 1) ∨ (2 ≤ k ∧ k ≤ 6 ∧ ∃ a b : Nat, A 2 n = nI a ∧ lo ≤ a ∧ a < n ∧ A 3 n = nI b ∧ lo ≤ b ∧ b < n ∧ szN A n = 1 + szN A a + szN A b) ∨ (7 ≤ k ∧ ∃ a : Nat, A 2 n = nI a ∧ lo ≤ a ∧ a < n ∧ A 3 n = m2 ∧ szN A n = 1 + szN A a)) ∧ szN A n ≤ 40 ∧ ((k = 0 ∨ k = 9 → ∃ v : Nat, v ≤ 9 ∧ A 1 n = nI v) ∧ (k = 1 → ∃ v : Nat, v ≤ 9999 ∧ A 1 n = nI v) ∧ (2 ≤ k → k ≤ 8 → A 1 n = m2)) := by
  obtain ⟨k, z, h0, hk, h4, hz, hs, hv⟩ := h
  rw [szN_of h4 hz]
  exact ⟨k, h0, hk, hs, hz, hv⟩
theorem cpF_lf {u : Nat} {A : Nat → Nat → Int32} (hT : tbI 0 u A) (hu : u < 120) {k : Nat} {v : Int32} (hk : k < 2) (hv : (k = 0 ∨ k = 9 → ∃ w : Nat, w ≤ 9 ∧ v = nI w) ∧ (k = 1 → ∃ w : Nat, w ≤ 9999 ∧ v = nI w) ∧ (2 ≤ k → k ≤ 8 → v = m2)) : cpF u A (setsA A u (nI k) v m2 m2) u 1 :=
  ⟨tbI_sets hT (Nat.zero_le _) (by omega) (by omega) (Or.inl ⟨hk, rfl, rfl⟩) hv, fun r hr => setsA_r hr, fun r x hx => setsA_o (by omega), rfl, szN_new (z := 1) (by rw [rdv_m2]; decide) (by decide)⟩
theorem cpF_un {u u1 z : Nat} {A A1 : Nat → Nat → Int32} (h : cpF u A A1 u1 z) (hu : u1 + 1 < 120) (hz : z + 1 ≤ 40) {k : Nat} {v : Int32} (k7 : 7 ≤ k) (k9 : k < 10) (hv : (k = 0 ∨ k = 9 → ∃ w : Nat, w ≤ 9 ∧ v = nI w) ∧ (k = 1 → ∃ w : Nat, w ≤ 9999 ∧ v = nI w) ∧ (2 ≤ k → k ≤ 8 → v = m2)) : cpF u A (setsA A1 (u1 + 1) (nI k) v (nI u1) m2) (u1 + 1) (1 + z) := by
  obtain ⟨h1, h2, h3, h4, h5⟩ := h
  refine ⟨tbI_sets h1 (Nat.zero_le _) (by omega) k9 (Or.inr (Or.inr ⟨k7, u1, rfl, Nat.zero_le _, by omega, rfl, by omega⟩)) hv, fun r hr => (setsA_r hr).trans (h2 r hr), fun r x hx => (setsA_o (by omega)).trans (h3 r x hx), by omega, ?_⟩
  refine szN_new (z := 1 + z) ?_ (by omega)
  rw [rdv_nI (by omega), rdv_m2, (rN_sz (h1 u1 (Nat.zero_le _) (by omega))).2.2, h5, show Int32.ofInt 1 = nI 1 from rfl, show Int32.ofInt 0 = nI 0 from rfl, nI_add, nI_add]
  rfl
theorem cpF_bi {u u1 u2 z z2 : Nat} {A A1 A2 : Nat → Nat → Int32} (h : cpF u A A1 u1 z) (g : cpF (u1 + 1) A1 A2 u2 z2) (hu : u2 + 1 < 120) (hz : 1 + z + z2 ≤ 40) (hz2 : 1 ≤ z2) {k : Nat} {v : Int32} (k2 : 2 ≤ k) (k6 : k ≤ 6) (hv : (k = 0 ∨ k = 9 → ∃ w : Nat, w ≤ 9 ∧ v = nI w) ∧ (k = 1 → ∃ w : Nat, w ≤ 9999 ∧ v = nI w) ∧ (2 ≤ k → k ≤ 8 → v = m2)) : cpF u A (setsA A2 (u2 + 1) (nI k) v (nI u1) (nI u2)) (u2 + 1) (1 + z + z2) := by
  obtain ⟨h1, h2, h3, h4, h5⟩ := h
  obtain ⟨g1, g2, g3, g4, g5⟩ := g
  have e1 : szN A2 u1 = z := by
    unfold szN at h5 ⊢
    rw [g3 4 u1 (by omega)]
    exact h5
  refine ⟨tbI_sets g1 (Nat.zero_le _) (by omega) (by omega) (Or.inr (Or.inl ⟨k2, k6, u1, u2, rfl, Nat.zero_le _, by omega, rfl, Nat.zero_le _, by omega, by omega⟩)) hv, fun r hr => (setsA_r hr).trans ((g2 r hr).trans (h2 r hr)), fun r x hx => (setsA_o (by omega)).trans ((g3 r x (by omega)).trans (h3 r x hx)), by omega, ?_⟩
  refine szN_new (z := 1 + z + z2) ?_ (by omega)
  rw [rdv_nI (by omega), rdv_nI (by omega), (rN_sz (g1 u1 (Nat.zero_le _) (by omega))).2.2, (rN_sz (g1 u2 (Nat.zero_le _) (by omega))).2.2, e1, g5, show Int32.ofInt 1 = nI 1 from rfl, nI_add, nI_add]
set_option maxHeartbeats 1000000 in
set_option maxRecDepth 20000 in
theorem mCopies (f : Nat → zC) (o : Nat → Int32) (J : Nat → Nat → Int64) {hi : Nat} (hh : hi ≤ 450) : ∀ (z : Nat) (A : Nat → Nat → Int32) (n : Nat), 400 ≤ n → n < hi → szN A n ≤ z → ∀ (u : Nat), tbI 0 u A → tbI 400 hi A → u + szN A n ≤ 120 → zK (z + 1) zX7_copies [.ref 76, .int (nI n)] (wR f (upd o 0 (nI u)) A J) (fun r w' => ∃ (u1 : Nat) (A' : Nat → Nat → Int32), r = some (.int (nI u1)) ∧ w' = (wR f (upd o 0 (nI (u1 + 1))) A' J) ∧ cpF u A A' u1 (szN A n)) := by
  intro z
  induction z with
  | zero =>
    intro A n hlo hn hz u _ hO
    have := (rN_sz (hO n hlo hn)).1
    omega
  | succ z ih1 =>
    intro A n hlo hn hz u hT hO hu
    have ih := fun (n : Nat) (h1 : 400 ≤ n) (h2 : n < hi) (h3 : szN A n ≤ z) (u : Nat) (A' : Nat → Nat → Int32) (g1 : tbI 0 u A) (g2 : tbI 400 hi A) (g3 : u + szN A n ≤ 120) => ih1 A n h1 h2 h3 u g1 g2 g3
    obtain ⟨k, h0, hk, hs, h40, hv⟩ := rN_val (hO n hlo hn)
    refine zK_of qX7_copies (by decide +kernel) rfl ?_
    rcases hs with ⟨k1, h2, h3, es⟩ | ⟨k1, k6, a, b, h2, la, ha, h3, lb, hb, es⟩ | ⟨k1, a, h2, la, ha, h3, es⟩
    · iterate 3 (refine zv_step (bX7_copies (z + 1 + 1)) rfl rfl trivial ?_)
      refine zv_iale (bX7_copies (z + 1 + 1)) rfl rfl (vp_in_nI (by omega) (by decide)) (show A 2 (nI n).toNatClampNeg = m2 by rw [nI_clamp (by omega)]; exact h2) ?_
      iterate 1 (refine zv_step (bX7_copies (z + 1 + 1)) rfl rfl trivial ?_)
      refine zv_iff (by decide) ?_
      iterate 6 (refine zv_step (bX7_copies (z + 1 + 1)) rfl rfl trivial ?_)
      refine zv_iale (bX7_copies (z + 1 + 1)) rfl rfl (vp_in_nI (by omega) (by decide)) (show A 3 (nI n).toNatClampNeg = m2 by rw [nI_clamp (by omega)]; exact h3) ?_
      iterate 1 (refine zv_step (bX7_copies (z + 1 + 1)) rfl rfl trivial ?_)
      refine zv_iff (by decide) ?_
      iterate 9 (refine zv_step (bX7_copies (z + 1 + 1)) rfl rfl trivial ?_)
      refine zv_iale (bX7_copies (z + 1 + 1)) rfl rfl (vp_in_nI (by omega) (by decide)) (show A 0 (nI n).toNatClampNeg = nI k by rw [nI_clamp (by omega)]; exact h0) ?_
      iterate 3 (refine zv_step (bX7_copies (z + 1 + 1)) rfl rfl trivial ?_)
      refine zv_iale (bX7_copies (z + 1 + 1)) rfl rfl (vp_in_nI (by omega) (by decide)) (show A 1 (nI n).toNatClampNeg = A 1 n by rw [nI_clamp (by omega)]) ?_
      iterate 2 (refine zv_step (bX7_copies (z + 1 + 1)) rfl rfl trivial ?_)
      refine zv_V5 (bX7_copies (z + 1 + 1)) rfl rfl rfl rfl rfl rfl rfl ⟨rfl, rfl, rfl⟩ ⟨by show 0 + 1 ≤ z + 1 + 1; omega, by show 8 + (8 + 11) + 64 * (0) ≤ 64 * (z + 1 + 1); omega⟩ ⟨Nat.zero_le _, Nat.zero_le _⟩ (mSetsE f (upd o 0 (nI u)) A J (show upd o 0 (nI u) 0 = nI u from rfl) (by omega) vpm2 vpm2) ?_
      rintro _ _ ⟨rfl, rfl⟩
      iterate 10 (refine zv_step (bX7_copies (z + 1 + 1)) rfl rfl trivial ?_)
      exact zv_iret (bX7_copies (z + 1 + 1)) rfl (Or.inl rfl) (Nat.zero_le _) (Nat.zero_le _) ⟨u, _, by show some (Value.int (nI (u) + Int32.ofInt 1 - Int32.ofInt 1)) = _; rw [show nI (u) + Int32.ofInt 1 = nI (u + 1) from nI_1 _, show nI (u + 1) - Int32.ofInt 1 = nI (u) from nI_m1 _], by rw [show nI (u + 1) = nI (u) + Int32.ofInt 1 from (nI_1 _).symm]; rfl, by rw [es]; exact cpF_lf hT (by omega) k1 hv⟩
    · iterate 3 (refine zv_step (bX7_copies (z + 1 + 1)) rfl rfl trivial ?_)
      refine zv_iale (bX7_copies (z + 1 + 1)) rfl rfl (vp_in_nI (by omega) (by decide)) (show A 2 (nI n).toNatClampNeg = nI a by rw [nI_clamp (by omega)]; exact h2) ?_
      iterate 1 (refine zv_step (bX7_copies (z + 1 + 1)) rfl rfl trivial ?_)
      refine zv_ift (nI_pos' (by omega)) ?_
      iterate 4 (refine zv_step (bX7_copies (z + 1 + 1)) rfl rfl trivial ?_)
      refine zv_iale (bX7_copies (z + 1 + 1)) rfl rfl (vp_in_nI (by omega) (by decide)) (show A 2 (nI n).toNatClampNeg = nI a by rw [nI_clamp (by omega)]; exact h2) ?_
      refine zv_V1 (bX7_copies (z + 1 + 1)) rfl rfl rfl rfl rfl rfl rfl ⟨rfl, rfl, rfl⟩ ⟨by show z + 1 + 1 ≤ z + 1 + 1; omega, by show 8 + (4 + 11) + 64 * (z + 1) ≤ 64 * (z + 1 + 1); omega⟩ ⟨Nat.zero_le _, Nat.zero_le _⟩ (ih a (by omega) (by omega) (by omega) u A hT hO (by omega)) ?_
      rintro _ _ ⟨u1, A1, rfl, rfl, c1⟩
      have n1 := c1.2.2.2.1
      have eb : szN A1 b = szN A b := by
        unfold szN
        rw [c1.2.2.1 4 b (Or.inr (by omega))]
      have ih2 := fun (n : Nat) (h1 : 400 ≤ n) (h2 : n < hi) (h3 : szN A1 n ≤ z) => ih1 A1 n h1 h2 h3
      iterate 4 (refine zv_step (bX7_copies (z + 1 + 1)) rfl rfl trivial ?_)
      refine zv_iale (bX7_copies (z + 1 + 1)) rfl rfl (vp_in_nI (by omega) (by decide)) (show A1 3 (nI n).toNatClampNeg = nI b by rw [nI_clamp (by omega)]; exact (c1.2.2.1 3 n (Or.inr (by omega))).trans h3) ?_
      iterate 1 (refine zv_step (bX7_copies (z + 1 + 1)) rfl rfl trivial ?_)
      refine zv_ift (nI_pos' (by omega)) ?_
      iterate 4 (refine zv_step (bX7_copies (z + 1 + 1)) rfl rfl trivial ?_)
      refine zv_iale (bX7_copies (z + 1 + 1)) rfl rfl (vp_in_nI (by omega) (by decide)) (show A1 3 (nI n).toNatClampNeg = nI b by rw [nI_clamp (by omega)]; exact (c1.2.2.1 3 n (Or.inr (by omega))).trans h3) ?_
      refine zv_V1 (bX7_copies (z + 1 + 1)) rfl rfl rfl rfl rfl rfl rfl ⟨rfl, rfl, rfl⟩ ⟨by show z + 1 + 1 ≤ z + 1 + 1; omega, by show 8 + (4 + 11) + 64 * (z + 1) ≤ 64 * (z + 1 + 1); omega⟩ ⟨Nat.zero_le _, Nat.zero_le _⟩ (ih2 b (by omega) (by omega) (by omega) (u1 + 1) c1.1 (tbI_fr hO (fun r _ i hi _ => c1.2.2.1 r i (Or.inr (by omega)))) (by rw [eb]; omega)) ?_
      rintro _ _ ⟨u2, A2, rfl, rfl, c2⟩
      rw [eb] at c2
      have n2 := c2.2.2.2.1
      iterate 7 (refine zv_step (bX7_copies (z + 1 + 1)) rfl rfl trivial ?_)
      refine zv_iale (bX7_copies (z + 1 + 1)) rfl rfl (vp_in_nI (by omega) (by decide)) (show A2 0 (nI n).toNatClampNeg = nI k by rw [nI_clamp (by omega)]; exact ((c2.2.2.1 0 n (Or.inr (by omega))).trans (c1.2.2.1 0 n (Or.inr (by omega)))).trans h0) ?_
      iterate 3 (refine zv_step (bX7_copies (z + 1 + 1)) rfl rfl trivial ?_)
      refine zv_iale (bX7_copies (z + 1 + 1)) rfl rfl (vp_in_nI (by omega) (by decide)) (show A2 1 (nI n).toNatClampNeg = A 1 n by rw [nI_clamp (by omega)]; exact (c2.2.2.1 1 n (Or.inr (by omega))).trans (c1.2.2.1 1 n (Or.inr (by omega)))) ?_
      iterate 2 (refine zv_step (bX7_copies (z + 1 + 1)) rfl rfl trivial ?_)
      refine zv_V5 (bX7_copies (z + 1 + 1)) rfl rfl rfl rfl rfl rfl rfl ⟨rfl, rfl, rfl⟩ ⟨by show 0 + 1 ≤ z + 1 + 1; omega, by show 8 + (8 + 11) + 64 * (0) ≤ 64 * (z + 1 + 1); omega⟩ ⟨Nat.zero_le _, Nat.zero_le _⟩ (mSetsE f (upd o 0 (nI (u2 + 1))) A2 J (show upd o 0 (nI (u2 + 1)) 0 = nI (u2 + 1) from rfl) (by omega) (fun _ => vp_in_nI (by omega) (by decide)) (fun _ => vp_in_nI (by omega) (by decide))) ?_
      rintro _ _ ⟨rfl, rfl⟩
      iterate 10 (refine zv_step (bX7_copies (z + 1 + 1)) rfl rfl trivial ?_)
      exact zv_iret (bX7_copies (z + 1 + 1)) rfl (Or.inl rfl) (Nat.zero_le _) (Nat.zero_le _) ⟨u2 + 1, _, by show some (Value.int (nI (u2 + 1) + Int32.ofInt 1 - Int32.ofInt 1)) = _; rw [show nI (u2 + 1) + Int32.ofInt 1 = nI (u2 + 1 + 1) from nI_1 _, show nI (u2 + 1 + 1) - Int32.ofInt 1 = nI (u2 + 1) from nI_m1 _], by rw [show nI (u2 + 1 + 1) = nI (u2 + 1) + Int32.ofInt 1 from (nI_1 _).symm]; rfl, by rw [es]; exact cpF_bi c1 c2 (by omega) (by omega) (rN_sz (hO b (by omega) (by omega))).1 k1 k6 hv⟩
    · iterate 3 (refine zv_step (bX7_copies (z + 1 + 1)) rfl rfl trivial ?_)
      refine zv_iale (bX7_copies (z + 1 + 1)) rfl rfl (vp_in_nI (by omega) (by decide)) (show A 2 (nI n).toNatClampNeg = nI a by rw [nI_clamp (by omega)]; exact h2) ?_
      iterate 1 (refine zv_step (bX7_copies (z + 1 + 1)) rfl rfl trivial ?_)
      refine zv_ift (nI_pos' (by omega)) ?_
      iterate 4 (refine zv_step (bX7_copies (z + 1 + 1)) rfl rfl trivial ?_)
      refine zv_iale (bX7_copies (z + 1 + 1)) rfl rfl (vp_in_nI (by omega) (by decide)) (show A 2 (nI n).toNatClampNeg = nI a by rw [nI_clamp (by omega)]; exact h2) ?_
      refine zv_V1 (bX7_copies (z + 1 + 1)) rfl rfl rfl rfl rfl rfl rfl ⟨rfl, rfl, rfl⟩ ⟨by show z + 1 + 1 ≤ z + 1 + 1; omega, by show 8 + (4 + 11) + 64 * (z + 1) ≤ 64 * (z + 1 + 1); omega⟩ ⟨Nat.zero_le _, Nat.zero_le _⟩ (ih a (by omega) (by omega) (by omega) u A hT hO (by omega)) ?_
      rintro _ _ ⟨u1, A1, rfl, rfl, c1⟩
      have n1 := c1.2.2.2.1
      iterate 4 (refine zv_step (bX7_copies (z + 1 + 1)) rfl rfl trivial ?_)
      refine zv_iale (bX7_copies (z + 1 + 1)) rfl rfl (vp_in_nI (by omega) (by decide)) (show A1 3 (nI n).toNatClampNeg = m2 by rw [nI_clamp (by omega)]; exact (c1.2.2.1 3 n (Or.inr (by omega))).trans h3) ?_
      iterate 1 (refine zv_step (bX7_copies (z + 1 + 1)) rfl rfl trivial ?_)
      refine zv_iff (by decide) ?_
      iterate 9 (refine zv_step (bX7_copies (z + 1 + 1)) rfl rfl trivial ?_)
      refine zv_iale (bX7_copies (z + 1 + 1)) rfl rfl (vp_in_nI (by omega) (by decide)) (show A1 0 (nI n).toNatClampNeg = nI k by rw [nI_clamp (by omega)]; exact (c1.2.2.1 0 n (Or.inr (by omega))).trans h0) ?_
      iterate 3 (refine zv_step (bX7_copies (z + 1 + 1)) rfl rfl trivial ?_)
      refine zv_iale (bX7_copies (z + 1 + 1)) rfl rfl (vp_in_nI (by omega) (by decide)) (show A1 1 (nI n).toNatClampNeg = A 1 n by rw [nI_clamp (by omega)]; exact c1.2.2.1 1 n (Or.inr (by omega))) ?_
      iterate 2 (refine zv_step (bX7_copies (z + 1 + 1)) rfl rfl trivial ?_)
      refine zv_V5 (bX7_copies (z + 1 + 1)) rfl rfl rfl rfl rfl rfl rfl ⟨rfl, rfl, rfl⟩ ⟨by show 0 + 1 ≤ z + 1 + 1; omega, by show 8 + (8 + 11) + 64 * (0) ≤ 64 * (z + 1 + 1); omega⟩ ⟨Nat.zero_le _, Nat.zero_le _⟩ (mSetsE f (upd o 0 (nI (u1 + 1))) A1 J (show upd o 0 (nI (u1 + 1)) 0 = nI (u1 + 1) from rfl) (by omega) (fun _ => vp_in_nI (by omega) (by decide)) vpm2) ?_
      rintro _ _ ⟨rfl, rfl⟩
      iterate 10 (refine zv_step (bX7_copies (z + 1 + 1)) rfl rfl trivial ?_)
      exact zv_iret (bX7_copies (z + 1 + 1)) rfl (Or.inl rfl) (Nat.zero_le _) (Nat.zero_le _) ⟨u1 + 1, _, by show some (Value.int (nI (u1 + 1) + Int32.ofInt 1 - Int32.ofInt 1)) = _; rw [show nI (u1 + 1) + Int32.ofInt 1 = nI (u1 + 1 + 1) from nI_1 _, show nI (u1 + 1 + 1) - Int32.ofInt 1 = nI (u1 + 1) from nI_m1 _], by rw [show nI (u1 + 1 + 1) = nI (u1 + 1) + Int32.ofInt 1 from (nI_1 _).symm]; rfl, by rw [es]; exact cpF_un c1 (by omega) (by omega) k1 hk hv⟩
theorem l_nat {z : Int64} (h : 0 ≤ z.toInt) {c : Nat} (hc : c ≤ cap) (hz : z < lN c) : ∃ p : Nat, p < c ∧ z = lN p := by
  rw [Int64.lt_iff_toInt_lt, lN_T (by unfold cap at hc; omega)] at hz
  refine ⟨z.toInt.toNat, by omega, ?_⟩
  rw [← Int64.toInt_inj, lN_T (by unfold cap at hc; omega)]
  omega
theorem ctW_le {h : Nat} {A : Nat → Nat → Int32} {s : Nat} {J : Nat → Nat → Int64} (hJ : okJ h A s J) : ctW h J ≤ cap := by
  unfold ctW
  split
  · exact Nat.zero_le _
  · exact (okS_l (hJ 0 h (by omega) (Nat.le_refl _))).2.1
theorem ctW_lt {h p : Nat} {J : Nat → Nat → Int64} (hp : p < ctW h J) : 0 < h ∧ p < lW J 0 h := by
  unfold ctW at hp
  split at hp
  · omega
  · exact ⟨by omega, hp⟩
/-- NODES may have come, the OWN ones too -/
def ndY (o : Nat → Int32) (u : Nat) (A : Nat → Nat → Int32) (o' : Nat → Int32) (A' : Nat → Nat → Int32) : Prop := (∃ u' : Nat, u ≤ u' ∧ u' ≤ 120 ∧ o' 0 = nI u' ∧ tbI 0 u' A') ∧ (∀ j, j ≠ 0 → j ≠ 28 → j ≠ 29 → o' j = o j) ∧ (∀ r, 6 ≤ r → A' r = A r) ∧ (∀ r i, i < u → A' r i = A r i)
set_option maxHeartbeats 1000000 in
set_option maxRecDepth 20000 in
theorem mWrite (f : Nat → zC) (o : Nat → Int32) (A : Nat → Nat → Int32) (J : Nat → Nat → Int64) {u : Nat} (hu : u ≤ 120) (ho : o 0 = nI u) (hT : tbI 0 u A) {h : Nat} (hh : h ≤ 20) (hw : nnW h (A 8)) (ho10 : o 10 = nI h) (x : Int32) (z : Int64) : zK 50 zX7_write [.ref 76, .int x, .long z] (wR f o A J) (fun r w' => ∃ (o' : Nat → Int32) (A' : Nat → Nat → Int32) (J' : Nat → Nat → Int64) (R : Int32), r = some (.int R) ∧ w' = wR f o' A' J' ∧ ndY o u A o' A') := by
  refine zK_of qX7_write (by decide +kernel) rfl ?_
  iterate 4 (refine zv_step (bX7_write 50) rfl rfl trivial ?_)
  refine zv_S3 (bX7_write 50) rfl rfl rfl rfl ⟨rfl, rfl, rfl⟩ ⟨by decide, by decide⟩ ⟨Nat.zero_le _, Nat.zero_le _⟩ (mIn _ _ _ _ (a := 0) (b := 8) (by decide) (by decide)) ?_
  rintro _ _ ⟨rfl, ⟨g1, rfl⟩ | ⟨g1, rfl⟩⟩
  · obtain ⟨s, hs, rfl⟩ := in_nat (x := x) (b := 8) (by decide) g1
    iterate 1 (refine zv_step (bX7_write 50) rfl rfl trivial ?_)
    refine zv_iff (by decide) ?_
    iterate 4 (refine zv_step (bX7_write 50) rfl rfl trivial ?_)
    refine zv_ifb (fun h15 => ?_) (fun h15 => ?_)
    · have z0 : 0 ≤ z.toInt := by
        rw [lg_cmp_ge, Int64.le_iff_toInt_le] at h15
        exact h15
      iterate 3 (refine zv_step (bX7_write 50) rfl rfl trivial ?_)
      refine zv_V1 (bX7_write 50) rfl rfl rfl rfl rfl rfl rfl ⟨rfl, rfl, rfl⟩ ⟨by decide, by decide⟩ ⟨Nat.zero_le _, Nat.zero_le _⟩ (mCounted f o A J hh hw ho10 hs rfl) ?_
      rintro _ _ ⟨J1, rfl, rfl, hJ⟩
      iterate 2 (refine zv_step (bX7_write 50) rfl rfl trivial ?_)
      refine zv_ifb (fun h27 => ?_) (fun h27 => ?_)
      · obtain ⟨p, hp, rfl⟩ := l_nat z0 (ctW_le hJ) ((lg_cmp_lt _ _).mp h27)
        obtain ⟨h0, hp⟩ := ctW_lt hp
        iterate 3 (refine zv_step (bX7_write 50) rfl rfl trivial ?_)
        refine zv_world (show _ = wR f (upd (upd o 28 (nI s)) 29 (nI 0)) A J1 from rfl) ?_
        iterate 5 (refine zv_step (bX7_write 50) rfl rfl trivial ?_)
        refine zv_V3 (bX7_write 50) rfl rfl rfl rfl rfl rfl rfl ⟨rfl, rfl, rfl⟩ ⟨by show 2 * h + 3 + 1 ≤ 50; omega, by show 8 + (12 + 11) + 64 * (2 * h + 3) ≤ 64 * 50; omega⟩ ⟨Nat.zero_le _, Nat.zero_le _⟩ (mTakes f (upd o 28 (nI s)) A J1 hh hw hJ h 0 h p _ _ _ rfl ho10 rfl h0 (Nat.le_refl _) (by omega) hp 0 A (fun _ _ => rfl) (fun n h1 h2 => absurd h2 (by omega)) (by omega)) ?_
        rintro _ _ ⟨q1, A1, rfl, rfl, k1, r1⟩
        have l1 := k1.2.2.2.2.1
        have es := k1.2.2.2.2.2
        have hT1 : tbI 0 u A1 := tbI_fr hT (fun r _ i _ hi => k1.2.2.1 r i (by omega))
        iterate 8 (refine zv_step (bX7_write 50) rfl rfl trivial ?_)
        refine zv_ifb (fun h61 => ?_) (fun h61 => ?_)
        · have hfit : u + (q1 + 1) ≤ 120 := by
            have h9 : o 0 + nI (q1 + 1) ≤ nI 120 := h61
            rwa [ho, nI_add, nI_leI (by omega) (by decide)] at h9
          refine zv_world (show _ = wR f (upd (upd (upd o 28 (nI s)) 29 (nI (q1 + 1))) 0 (nI u)) A1 J1 from by rw [← ho]; rfl) ?_
          iterate 2 (refine zv_step (bX7_write 50) rfl rfl trivial ?_)
          refine zv_V1 (bX7_write 50) rfl rfl rfl rfl rfl rfl rfl ⟨rfl, rfl, rfl⟩ ⟨by decide, by decide⟩ ⟨Nat.zero_le _, Nat.zero_le _⟩ (mCopies f (upd (upd o 28 (nI s)) 29 (nI (q1 + 1))) J1 (hi := 400 + (q1 + 1)) (by omega) 40 A1 (400 + q1) (by omega) (by omega) (by omega) u hT1 k1.2.1 (by omega)) ?_
          rintro _ _ ⟨u1, A2, rfl, rfl, c1⟩
          exact zv_iret (bX7_write 50) rfl (Or.inl rfl) (Nat.zero_le _) (Nat.zero_le _) ⟨_, A2, J1, _, rfl, rfl, ⟨u1 + 1, by have := c1.2.2.2.1; omega, by have := c1.2.2.2.1; omega, upd_self _ _ _, c1.1⟩, fun j a b c => by rw [upd_ne _ _ a, upd_ne _ _ c, upd_ne _ _ b], fun r hr => (c1.2.1 r hr).trans (k1.1 r hr), fun r i hi => (c1.2.2.1 r i (Or.inl hi)).trans (k1.2.2.1 r i (by omega))⟩
        · iterate 1 (refine zv_step (bX7_write 50) rfl rfl trivial ?_)
          exact zv_iret (bX7_write 50) rfl (Or.inl rfl) (Nat.zero_le _) (Nat.zero_le _) ⟨upd (upd o 28 (nI s)) 29 (nI (q1 + 1)), A1, J1, _, rfl, rfl, ⟨u, Nat.le_refl _, hu, ho, hT1⟩, fun j a b c => by rw [upd_ne _ _ c, upd_ne _ _ b], k1.1, fun r i hi => k1.2.2.1 r i (by omega)⟩
      · iterate 1 (refine zv_step (bX7_write 50) rfl rfl trivial ?_)
        exact zv_iret (bX7_write 50) rfl (Or.inl rfl) (Nat.zero_le _) (Nat.zero_le _) ⟨(upd o 28 (nI s)), A, J1, _, rfl, rfl, ⟨u, Nat.le_refl _, hu, ho, hT⟩, fun j a b c => by rw [upd_ne _ _ b], fun _ _ => rfl, fun _ _ _ => rfl⟩
    · iterate 1 (refine zv_step (bX7_write 50) rfl rfl trivial ?_)
      exact zv_iret (bX7_write 50) rfl (Or.inl rfl) (Nat.zero_le _) (Nat.zero_le _) ⟨o, A, J, _, rfl, rfl, ⟨u, Nat.le_refl _, hu, ho, hT⟩, fun _ _ _ _ => rfl, fun _ _ => rfl, fun _ _ _ => rfl⟩
  · skip
    iterate 1 (refine zv_step (bX7_write 50) rfl rfl trivial ?_)
    refine zv_ift (by decide) ?_
    iterate 1 (refine zv_step (bX7_write 50) rfl rfl trivial ?_)
    exact zv_iret (bX7_write 50) rfl (Or.inl rfl) (Nat.zero_le _) (Nat.zero_le _) ⟨o, A, J, _, rfl, rfl, ⟨u, Nat.le_refl _, hu, ho, hT⟩, fun _ _ _ _ => rfl, fun _ _ => rfl, fun _ _ _ => rfl⟩
end
section
set_option maxHeartbeats 1000000 in
set_option maxRecDepth 20000 in
theorem inn2 (f : Nat → zC) (o : Nat → Int32) (A : Nat → Nat → Int32) (J : Nat → Nat → Int64) {lo hi : Nat} (hh0 : hi ≤ 450) (hT : tbI lo hi A) {h : Nat} (hh : h ≤ 20) (hw : nnW h (A 8)) {s : Nat} (hJ : okJ h A s J) {z : Nat} (ih : ∀ (n i j : Nat) (y z' : Int32), y = nI i → z' = nI j → lo ≤ n → n < hi → szN A n ≤ z → i ≤ 30 → j ≤ h → zK (3 * z + 3) zX7_rank [.ref 76, .int (nI n), .int y, .int z'] (wR f o A J) (fun r w' => w' = (wR f o A J) ∧ ∃ v : Int64, r = some (.long v))) {n a b : Nat} (hlo : lo ≤ n) (hn : n < hi) (hz : szN A n ≤ z + 1) (hab : a < b) (hb : b ≤ h) {x y : Nat} (h2 : A 2 n = nI x) (h3 : A 3 n = nI y) (lx : lo ≤ x) (hx : x < n) (ly : lo ≤ y) (hy : y < n) (hsx : szN A x ≤ z) (hsy : szN A y ≤ z) {n0 : Nat} : ∀ (w m : Nat), b - 1 - m = w → a + 1 ≤ m → m ≤ 21 → ∀ {x6 : Int32} {v4 : Int64}, x6 = nI m → zV (zMo (3 * z + 4) zX7_innerTwo) false n0 0 0 8 [(6, .int x6), (4, .long v4), (0, .ref 76), (1, .int (nI n)), (2, .int (nI a)), (3, .int (nI b))] [] (wR f o A J) (fun r w' => w' = (wR f o A J) ∧ ∃ v : Int64, r = some (.long v)) := by
  intro w
  induction w with
  | zero =>
    intro m hm hm1 hm2 x6 v4 e6
    subst e6
    iterate 5 (refine zv_step (bX7_innerTwo (3 * z + 4)) rfl rfl trivial ?_)
    refine zv_ift (show nI b - Int32.ofInt 1 ≤ nI m by rw [sub_1 (by omega)]; exact nI_le (by omega) (by omega)) ?_
    iterate 1 (refine zv_step (bX7_innerTwo (3 * z + 4)) rfl rfl trivial ?_)
    exact zv_lret (bX7_innerTwo (3 * z + 4)) rfl rfl (Nat.zero_le _) (Nat.zero_le _) ⟨rfl, _, rfl⟩
  | succ w ih2 =>
    intro m hm hm1 hm2 x6 v4 e6
    subst e6
    iterate 5 (refine zv_step (bX7_innerTwo (3 * z + 4)) rfl rfl trivial ?_)
    refine zv_iff (show ¬ nI b - Int32.ofInt 1 ≤ nI m by rw [sub_1 (by omega)]; exact fun h => absurd ((nI_leI (by omega) (by omega)).mp h) (by omega)) ?_
    iterate 3 (refine zv_step (bX7_innerTwo (3 * z + 4)) rfl rfl trivial ?_)
    refine zv_step (bX7_innerTwo (3 * z + 4)) rfl rfl (vp_in_nI (by omega) (by decide)) ?_
    iterate 4 (refine zv_step (bX7_innerTwo (3 * z + 4)) rfl rfl trivial ?_)
    refine zv_step (bX7_innerTwo (3 * z + 4)) rfl rfl (vp_in_nI (by omega) (by decide)) ?_
    iterate 2 (refine zv_step (bX7_innerTwo (3 * z + 4)) rfl rfl trivial ?_)
    refine zv_ifb (fun h32 => ?_) (fun h32 => ?_)
    · iterate 2 (refine zv_step (bX7_innerTwo (3 * z + 4)) rfl rfl trivial ?_)
      refine zv_locals (l := [(6, .int (nI m + Int32.ofInt 1)), (4, .long v4), (0, .ref 76), (1, .int (nI n)), (2, .int (nI a)), (3, .int (nI b))]) (l' := [(6, .int (nI m + Int32.ofInt 1)), (4, .long v4), (0, .ref 76), (1, .int (nI n)), (2, .int (nI a)), (3, .int (nI b))]) (fun q h => h) (ih2 (m + 1) (by omega) (by omega) (by omega) (nI_1 m))
    · iterate 9 (refine zv_step (bX7_innerTwo (3 * z + 4)) rfl rfl trivial ?_)
      refine zv_lale (bX7_innerTwo (3 * z + 4)) rfl rfl (show vp_in (c8 21 * (nI m + Int32.ofInt 1) + nI b) 441 by rw [show nI m + Int32.ofInt 1 = nI (m + 1) from nI_1 m, ix21]; exact vp_in_nI (by omega) (by decide)) (show J 1 (c8 21 * (nI m + Int32.ofInt 1) + nI b).toNatClampNeg = lN (lW J (m + 1) (b)) by rw [show nI m + Int32.ofInt 1 = nI (m + 1) from nI_1 m, ix21, nI_clamp (by omega)]; exact (okS_l (hJ (m + 1) (b) (by omega) (by omega))).2.2) ?_
      iterate 5 (refine zv_step (bX7_innerTwo (3 * z + 4)) rfl rfl trivial ?_)
      refine zv_ifb (fun h55 => ?_) (fun h55 => ?_)
      · iterate 6 (refine zv_step (bX7_innerTwo (3 * z + 4)) rfl rfl trivial ?_)
        refine zv_ifb (fun h100 => ?_) (fun h100 => ?_)
        · iterate 6 (refine zv_step (bX7_innerTwo (3 * z + 4)) rfl rfl trivial ?_)
          refine zv_ifb (fun h130 => ?_) (fun h130 => ?_)
          · iterate 8 (refine zv_step (bX7_innerTwo (3 * z + 4)) rfl rfl trivial ?_)
            refine zv_lale (bX7_innerTwo (3 * z + 4)) rfl rfl (show vp_in (c8 21 * nI a + nI m) 441 by rw [ix21]; exact vp_in_nI (by omega) (by decide)) (show J 1 (c8 21 * nI a + nI m).toNatClampNeg = lN (lW J (a) (m)) by rw [ix21, nI_clamp (by omega)]; exact (okS_l (hJ (a) (m) (by omega) (by omega))).2.2) ?_
            iterate 1 (refine zv_step (bX7_innerTwo (3 * z + 4)) rfl rfl trivial ?_)
            refine zv_S2 (bX7_innerTwo (3 * z + 4)) rfl rfl rfl rfl ⟨rfl, rfl, rfl⟩ ⟨by show 0 + 1 ≤ 3 * z + 4; omega, by show 8 + (4 + 11) + 64 * (0) ≤ 64 * (3 * z + 4); omega⟩ ⟨Nat.zero_le _, Nat.zero_le _⟩ (mMul _ (okS_l (hJ a m (by omega) (by omega))).2.1 (okS_l (hJ (m + 1) b (by omega) (by omega))).2.1) ?_
            rintro _ _ ⟨rfl, rfl⟩
            iterate 4 (refine zv_step (bX7_innerTwo (3 * z + 4)) rfl rfl trivial ?_)
            refine zv_locals (l := [(6, .int (nI m + Int32.ofInt 1)), (4, .long (v4 + lN (tmW (lW J a m) (lW J (m + 1) b)))), (11, .long (Int64.ofInt (-1))), (9, .long (Int64.ofInt (-1))), (7, .long (lN (lW J (m + 1) b))), (0, .ref 76), (1, .int (nI n)), (2, .int (nI a)), (3, .int (nI b))]) (l' := [(6, .int (nI m + Int32.ofInt 1)), (4, .long (v4 + lN (tmW (lW J a m) (lW J (m + 1) b)))), (0, .ref 76), (1, .int (nI n)), (2, .int (nI a)), (3, .int (nI b))]) ?_ (ih2 (m + 1) (by omega) (by omega) (by omega) (nI_1 m))
            simp
          · iterate 7 (refine zv_step (bX7_innerTwo (3 * z + 4)) rfl rfl trivial ?_)
            exact zv_lret (bX7_innerTwo (3 * z + 4)) rfl rfl (Nat.zero_le _) (Nat.zero_le _) ⟨rfl, _, rfl⟩
        · iterate 4 (refine zv_step (bX7_innerTwo (3 * z + 4)) rfl rfl trivial ?_)
          refine zv_iale (bX7_innerTwo (3 * z + 4)) rfl rfl (vp_in_nI (by omega) (by decide)) (show A 3 (nI n).toNatClampNeg = nI y by rw [nI_clamp (by omega)]; exact h3) ?_
          iterate 4 (refine zv_step (bX7_innerTwo (3 * z + 4)) rfl rfl trivial ?_)
          refine zv_V3 (bX7_innerTwo (3 * z + 4)) rfl rfl rfl rfl rfl rfl rfl ⟨rfl, rfl, rfl⟩ ⟨by show 3 * z + 3 + 1 ≤ 3 * z + 4; omega, by show 8 + (8 + 11) + 64 * (3 * z + 3) ≤ 64 * (3 * z + 4); omega⟩ ⟨Nat.zero_le _, Nat.zero_le _⟩ (ih y (m + 1) b _ _ (nI_1 m) rfl ly (by omega) hsy (by omega) (by omega)) ?_
          rintro _ _ ⟨rfl, v115, rfl⟩
          iterate 6 (refine zv_step (bX7_innerTwo (3 * z + 4)) rfl rfl trivial ?_)
          refine zv_ifb (fun h130 => ?_) (fun h130 => ?_)
          · iterate 8 (refine zv_step (bX7_innerTwo (3 * z + 4)) rfl rfl trivial ?_)
            refine zv_lale (bX7_innerTwo (3 * z + 4)) rfl rfl (show vp_in (c8 21 * nI a + nI m) 441 by rw [ix21]; exact vp_in_nI (by omega) (by decide)) (show J 1 (c8 21 * nI a + nI m).toNatClampNeg = lN (lW J (a) (m)) by rw [ix21, nI_clamp (by omega)]; exact (okS_l (hJ (a) (m) (by omega) (by omega))).2.2) ?_
            iterate 1 (refine zv_step (bX7_innerTwo (3 * z + 4)) rfl rfl trivial ?_)
            refine zv_S2 (bX7_innerTwo (3 * z + 4)) rfl rfl rfl rfl ⟨rfl, rfl, rfl⟩ ⟨by show 0 + 1 ≤ 3 * z + 4; omega, by show 8 + (4 + 11) + 64 * (0) ≤ 64 * (3 * z + 4); omega⟩ ⟨Nat.zero_le _, Nat.zero_le _⟩ (mMul _ (okS_l (hJ a m (by omega) (by omega))).2.1 (okS_l (hJ (m + 1) b (by omega) (by omega))).2.1) ?_
            rintro _ _ ⟨rfl, rfl⟩
            iterate 4 (refine zv_step (bX7_innerTwo (3 * z + 4)) rfl rfl trivial ?_)
            refine zv_locals (l := [(6, .int (nI m + Int32.ofInt 1)), (4, .long (v4 + lN (tmW (lW J a m) (lW J (m + 1) b)))), (11, .long (v115)), (9, .long (Int64.ofInt (-1))), (7, .long (lN (lW J (m + 1) b))), (0, .ref 76), (1, .int (nI n)), (2, .int (nI a)), (3, .int (nI b))]) (l' := [(6, .int (nI m + Int32.ofInt 1)), (4, .long (v4 + lN (tmW (lW J a m) (lW J (m + 1) b)))), (0, .ref 76), (1, .int (nI n)), (2, .int (nI a)), (3, .int (nI b))]) ?_ (ih2 (m + 1) (by omega) (by omega) (by omega) (nI_1 m))
            simp
          · iterate 7 (refine zv_step (bX7_innerTwo (3 * z + 4)) rfl rfl trivial ?_)
            exact zv_lret (bX7_innerTwo (3 * z + 4)) rfl rfl (Nat.zero_le _) (Nat.zero_le _) ⟨rfl, _, rfl⟩
      · iterate 7 (refine zv_step (bX7_innerTwo (3 * z + 4)) rfl rfl trivial ?_)
        refine zv_lale (bX7_innerTwo (3 * z + 4)) rfl rfl (show vp_in (c8 21 * nI a + nI m) 441 by rw [ix21]; exact vp_in_nI (by omega) (by decide)) (show J 1 (c8 21 * nI a + nI m).toNatClampNeg = lN (lW J (a) (m)) by rw [ix21, nI_clamp (by omega)]; exact (okS_l (hJ (a) (m) (by omega) (by omega))).2.2) ?_
        iterate 3 (refine zv_step (bX7_innerTwo (3 * z + 4)) rfl rfl trivial ?_)
        refine zv_ifb (fun h72 => ?_) (fun h72 => ?_)
        · iterate 6 (refine zv_step (bX7_innerTwo (3 * z + 4)) rfl rfl trivial ?_)
          refine zv_ifb (fun h100 => ?_) (fun h100 => ?_)
          · iterate 6 (refine zv_step (bX7_innerTwo (3 * z + 4)) rfl rfl trivial ?_)
            refine zv_ifb (fun h130 => ?_) (fun h130 => ?_)
            · iterate 8 (refine zv_step (bX7_innerTwo (3 * z + 4)) rfl rfl trivial ?_)
              refine zv_lale (bX7_innerTwo (3 * z + 4)) rfl rfl (show vp_in (c8 21 * nI a + nI m) 441 by rw [ix21]; exact vp_in_nI (by omega) (by decide)) (show J 1 (c8 21 * nI a + nI m).toNatClampNeg = lN (lW J (a) (m)) by rw [ix21, nI_clamp (by omega)]; exact (okS_l (hJ (a) (m) (by omega) (by omega))).2.2) ?_
              iterate 1 (refine zv_step (bX7_innerTwo (3 * z + 4)) rfl rfl trivial ?_)
              refine zv_S2 (bX7_innerTwo (3 * z + 4)) rfl rfl rfl rfl ⟨rfl, rfl, rfl⟩ ⟨by show 0 + 1 ≤ 3 * z + 4; omega, by show 8 + (4 + 11) + 64 * (0) ≤ 64 * (3 * z + 4); omega⟩ ⟨Nat.zero_le _, Nat.zero_le _⟩ (mMul _ (okS_l (hJ a m (by omega) (by omega))).2.1 (okS_l (hJ (m + 1) b (by omega) (by omega))).2.1) ?_
              rintro _ _ ⟨rfl, rfl⟩
              iterate 4 (refine zv_step (bX7_innerTwo (3 * z + 4)) rfl rfl trivial ?_)
              refine zv_locals (l := [(6, .int (nI m + Int32.ofInt 1)), (4, .long (v4 + lN (tmW (lW J a m) (lW J (m + 1) b)))), (11, .long (Int64.ofInt (-1))), (9, .long (Int64.ofInt (-1))), (7, .long (lN (lW J (m + 1) b))), (0, .ref 76), (1, .int (nI n)), (2, .int (nI a)), (3, .int (nI b))]) (l' := [(6, .int (nI m + Int32.ofInt 1)), (4, .long (v4 + lN (tmW (lW J a m) (lW J (m + 1) b)))), (0, .ref 76), (1, .int (nI n)), (2, .int (nI a)), (3, .int (nI b))]) ?_ (ih2 (m + 1) (by omega) (by omega) (by omega) (nI_1 m))
              simp
            · iterate 7 (refine zv_step (bX7_innerTwo (3 * z + 4)) rfl rfl trivial ?_)
              exact zv_lret (bX7_innerTwo (3 * z + 4)) rfl rfl (Nat.zero_le _) (Nat.zero_le _) ⟨rfl, _, rfl⟩
          · iterate 4 (refine zv_step (bX7_innerTwo (3 * z + 4)) rfl rfl trivial ?_)
            refine zv_iale (bX7_innerTwo (3 * z + 4)) rfl rfl (vp_in_nI (by omega) (by decide)) (show A 3 (nI n).toNatClampNeg = nI y by rw [nI_clamp (by omega)]; exact h3) ?_
            iterate 4 (refine zv_step (bX7_innerTwo (3 * z + 4)) rfl rfl trivial ?_)
            refine zv_V3 (bX7_innerTwo (3 * z + 4)) rfl rfl rfl rfl rfl rfl rfl ⟨rfl, rfl, rfl⟩ ⟨by show 3 * z + 3 + 1 ≤ 3 * z + 4; omega, by show 8 + (8 + 11) + 64 * (3 * z + 3) ≤ 64 * (3 * z + 4); omega⟩ ⟨Nat.zero_le _, Nat.zero_le _⟩ (ih y (m + 1) b _ _ (nI_1 m) rfl ly (by omega) hsy (by omega) (by omega)) ?_
            rintro _ _ ⟨rfl, v115, rfl⟩
            iterate 6 (refine zv_step (bX7_innerTwo (3 * z + 4)) rfl rfl trivial ?_)
            refine zv_ifb (fun h130 => ?_) (fun h130 => ?_)
            · iterate 8 (refine zv_step (bX7_innerTwo (3 * z + 4)) rfl rfl trivial ?_)
              refine zv_lale (bX7_innerTwo (3 * z + 4)) rfl rfl (show vp_in (c8 21 * nI a + nI m) 441 by rw [ix21]; exact vp_in_nI (by omega) (by decide)) (show J 1 (c8 21 * nI a + nI m).toNatClampNeg = lN (lW J (a) (m)) by rw [ix21, nI_clamp (by omega)]; exact (okS_l (hJ (a) (m) (by omega) (by omega))).2.2) ?_
              iterate 1 (refine zv_step (bX7_innerTwo (3 * z + 4)) rfl rfl trivial ?_)
              refine zv_S2 (bX7_innerTwo (3 * z + 4)) rfl rfl rfl rfl ⟨rfl, rfl, rfl⟩ ⟨by show 0 + 1 ≤ 3 * z + 4; omega, by show 8 + (4 + 11) + 64 * (0) ≤ 64 * (3 * z + 4); omega⟩ ⟨Nat.zero_le _, Nat.zero_le _⟩ (mMul _ (okS_l (hJ a m (by omega) (by omega))).2.1 (okS_l (hJ (m + 1) b (by omega) (by omega))).2.1) ?_
              rintro _ _ ⟨rfl, rfl⟩
              iterate 4 (refine zv_step (bX7_innerTwo (3 * z + 4)) rfl rfl trivial ?_)
              refine zv_locals (l := [(6, .int (nI m + Int32.ofInt 1)), (4, .long (v4 + lN (tmW (lW J a m) (lW J (m + 1) b)))), (11, .long (v115)), (9, .long (Int64.ofInt (-1))), (7, .long (lN (lW J (m + 1) b))), (0, .ref 76), (1, .int (nI n)), (2, .int (nI a)), (3, .int (nI b))]) (l' := [(6, .int (nI m + Int32.ofInt 1)), (4, .long (v4 + lN (tmW (lW J a m) (lW J (m + 1) b)))), (0, .ref 76), (1, .int (nI n)), (2, .int (nI a)), (3, .int (nI b))]) ?_ (ih2 (m + 1) (by omega) (by omega) (by omega) (nI_1 m))
              simp
            · iterate 7 (refine zv_step (bX7_innerTwo (3 * z + 4)) rfl rfl trivial ?_)
              exact zv_lret (bX7_innerTwo (3 * z + 4)) rfl rfl (Nat.zero_le _) (Nat.zero_le _) ⟨rfl, _, rfl⟩
        · iterate 4 (refine zv_step (bX7_innerTwo (3 * z + 4)) rfl rfl trivial ?_)
          refine zv_iale (bX7_innerTwo (3 * z + 4)) rfl rfl (vp_in_nI (by omega) (by decide)) (show A 2 (nI n).toNatClampNeg = nI x by rw [nI_clamp (by omega)]; exact h2) ?_
          iterate 2 (refine zv_step (bX7_innerTwo (3 * z + 4)) rfl rfl trivial ?_)
          refine zv_V3 (bX7_innerTwo (3 * z + 4)) rfl rfl rfl rfl rfl rfl rfl ⟨rfl, rfl, rfl⟩ ⟨by show 3 * z + 3 + 1 ≤ 3 * z + 4; omega, by show 8 + (8 + 11) + 64 * (3 * z + 3) ≤ 64 * (3 * z + 4); omega⟩ ⟨Nat.zero_le _, Nat.zero_le _⟩ (ih x a m _ _ rfl rfl lx (by omega) hsx (by omega) (by omega)) ?_
          rintro _ _ ⟨rfl, v85, rfl⟩
          iterate 6 (refine zv_step (bX7_innerTwo (3 * z + 4)) rfl rfl trivial ?_)
          refine zv_ifb (fun h100 => ?_) (fun h100 => ?_)
          · iterate 6 (refine zv_step (bX7_innerTwo (3 * z + 4)) rfl rfl trivial ?_)
            refine zv_ifb (fun h130 => ?_) (fun h130 => ?_)
            · iterate 8 (refine zv_step (bX7_innerTwo (3 * z + 4)) rfl rfl trivial ?_)
              refine zv_lale (bX7_innerTwo (3 * z + 4)) rfl rfl (show vp_in (c8 21 * nI a + nI m) 441 by rw [ix21]; exact vp_in_nI (by omega) (by decide)) (show J 1 (c8 21 * nI a + nI m).toNatClampNeg = lN (lW J (a) (m)) by rw [ix21, nI_clamp (by omega)]; exact (okS_l (hJ (a) (m) (by omega) (by omega))).2.2) ?_
              iterate 1 (refine zv_step (bX7_innerTwo (3 * z + 4)) rfl rfl trivial ?_)
              refine zv_S2 (bX7_innerTwo (3 * z + 4)) rfl rfl rfl rfl ⟨rfl, rfl, rfl⟩ ⟨by show 0 + 1 ≤ 3 * z + 4; omega, by show 8 + (4 + 11) + 64 * (0) ≤ 64 * (3 * z + 4); omega⟩ ⟨Nat.zero_le _, Nat.zero_le _⟩ (mMul _ (okS_l (hJ a m (by omega) (by omega))).2.1 (okS_l (hJ (m + 1) b (by omega) (by omega))).2.1) ?_
              rintro _ _ ⟨rfl, rfl⟩
              iterate 4 (refine zv_step (bX7_innerTwo (3 * z + 4)) rfl rfl trivial ?_)
              refine zv_locals (l := [(6, .int (nI m + Int32.ofInt 1)), (4, .long (v4 + lN (tmW (lW J a m) (lW J (m + 1) b)))), (11, .long (Int64.ofInt (-1))), (9, .long (v85)), (7, .long (lN (lW J (m + 1) b))), (0, .ref 76), (1, .int (nI n)), (2, .int (nI a)), (3, .int (nI b))]) (l' := [(6, .int (nI m + Int32.ofInt 1)), (4, .long (v4 + lN (tmW (lW J a m) (lW J (m + 1) b)))), (0, .ref 76), (1, .int (nI n)), (2, .int (nI a)), (3, .int (nI b))]) ?_ (ih2 (m + 1) (by omega) (by omega) (by omega) (nI_1 m))
              simp
            · iterate 7 (refine zv_step (bX7_innerTwo (3 * z + 4)) rfl rfl trivial ?_)
              exact zv_lret (bX7_innerTwo (3 * z + 4)) rfl rfl (Nat.zero_le _) (Nat.zero_le _) ⟨rfl, _, rfl⟩
          · iterate 4 (refine zv_step (bX7_innerTwo (3 * z + 4)) rfl rfl trivial ?_)
            refine zv_iale (bX7_innerTwo (3 * z + 4)) rfl rfl (vp_in_nI (by omega) (by decide)) (show A 3 (nI n).toNatClampNeg = nI y by rw [nI_clamp (by omega)]; exact h3) ?_
            iterate 4 (refine zv_step (bX7_innerTwo (3 * z + 4)) rfl rfl trivial ?_)
            refine zv_V3 (bX7_innerTwo (3 * z + 4)) rfl rfl rfl rfl rfl rfl rfl ⟨rfl, rfl, rfl⟩ ⟨by show 3 * z + 3 + 1 ≤ 3 * z + 4; omega, by show 8 + (8 + 11) + 64 * (3 * z + 3) ≤ 64 * (3 * z + 4); omega⟩ ⟨Nat.zero_le _, Nat.zero_le _⟩ (ih y (m + 1) b _ _ (nI_1 m) rfl ly (by omega) hsy (by omega) (by omega)) ?_
            rintro _ _ ⟨rfl, v115, rfl⟩
            iterate 6 (refine zv_step (bX7_innerTwo (3 * z + 4)) rfl rfl trivial ?_)
            refine zv_ifb (fun h130 => ?_) (fun h130 => ?_)
            · iterate 8 (refine zv_step (bX7_innerTwo (3 * z + 4)) rfl rfl trivial ?_)
              refine zv_lale (bX7_innerTwo (3 * z + 4)) rfl rfl (show vp_in (c8 21 * nI a + nI m) 441 by rw [ix21]; exact vp_in_nI (by omega) (by decide)) (show J 1 (c8 21 * nI a + nI m).toNatClampNeg = lN (lW J (a) (m)) by rw [ix21, nI_clamp (by omega)]; exact (okS_l (hJ (a) (m) (by omega) (by omega))).2.2) ?_
              iterate 1 (refine zv_step (bX7_innerTwo (3 * z + 4)) rfl rfl trivial ?_)
              refine zv_S2 (bX7_innerTwo (3 * z + 4)) rfl rfl rfl rfl ⟨rfl, rfl, rfl⟩ ⟨by show 0 + 1 ≤ 3 * z + 4; omega, by show 8 + (4 + 11) + 64 * (0) ≤ 64 * (3 * z + 4); omega⟩ ⟨Nat.zero_le _, Nat.zero_le _⟩ (mMul _ (okS_l (hJ a m (by omega) (by omega))).2.1 (okS_l (hJ (m + 1) b (by omega) (by omega))).2.1) ?_
              rintro _ _ ⟨rfl, rfl⟩
              iterate 4 (refine zv_step (bX7_innerTwo (3 * z + 4)) rfl rfl trivial ?_)
              refine zv_locals (l := [(6, .int (nI m + Int32.ofInt 1)), (4, .long (v4 + lN (tmW (lW J a m) (lW J (m + 1) b)))), (11, .long (v115)), (9, .long (v85)), (7, .long (lN (lW J (m + 1) b))), (0, .ref 76), (1, .int (nI n)), (2, .int (nI a)), (3, .int (nI b))]) (l' := [(6, .int (nI m + Int32.ofInt 1)), (4, .long (v4 + lN (tmW (lW J a m) (lW J (m + 1) b)))), (0, .ref 76), (1, .int (nI n)), (2, .int (nI a)), (3, .int (nI b))]) ?_ (ih2 (m + 1) (by omega) (by omega) (by omega) (nI_1 m))
              simp
            · iterate 7 (refine zv_step (bX7_innerTwo (3 * z + 4)) rfl rfl trivial ?_)
              exact zv_lret (bX7_innerTwo (3 * z + 4)) rfl rfl (Nat.zero_le _) (Nat.zero_le _) ⟨rfl, _, rfl⟩
set_option maxHeartbeats 1000000 in
set_option maxRecDepth 20000 in
theorem mInn2 (f : Nat → zC) (o : Nat → Int32) (A : Nat → Nat → Int32) (J : Nat → Nat → Int64) {lo hi : Nat} (hh0 : hi ≤ 450) (hT : tbI lo hi A) {h : Nat} (hh : h ≤ 20) (hw : nnW h (A 8)) {s : Nat} (hJ : okJ h A s J) {z : Nat} (ih : ∀ (n i j : Nat) (y z' : Int32), y = nI i → z' = nI j → lo ≤ n → n < hi → szN A n ≤ z → i ≤ 30 → j ≤ h → zK (3 * z + 3) zX7_rank [.ref 76, .int (nI n), .int y, .int z'] (wR f o A J) (fun r w' => w' = (wR f o A J) ∧ ∃ v : Int64, r = some (.long v))) {n a b : Nat} (hlo : lo ≤ n) (hn : n < hi) (hz : szN A n ≤ z + 1) (hab : a < b) (hb : b ≤ h) {x y : Nat} (h2 : A 2 n = nI x) (h3 : A 3 n = nI y) (lx : lo ≤ x) (hx : x < n) (ly : lo ≤ y) (hy : y < n) (hsx : szN A x ≤ z) (hsy : szN A y ≤ z) : zK (3 * z + 4) zX7_innerTwo [.ref 76, .int (nI n), .int (nI a), .int (nI b)] (wR f o A J) (fun r w' => w' = (wR f o A J) ∧ ∃ v : Int64, r = some (.long v)) := by
  refine zK_of qX7_innerTwo (by decide +kernel) rfl ?_
  iterate 6 (refine zv_step (bX7_innerTwo (3 * z + 4)) rfl rfl trivial ?_)
  refine zv_locals (l := [(6, .int (nI a + Int32.ofInt 1)), (4, .long (lN 0)), (0, .ref 76), (1, .int (nI n)), (2, .int (nI a)), (3, .int (nI b))]) (l' := [(6, .int (nI a + Int32.ofInt 1)), (4, .long (lN 0)), (0, .ref 76), (1, .int (nI n)), (2, .int (nI a)), (3, .int (nI b))]) (fun q h => h) (inn2 f o A J hh0 hT hh hw hJ ih hlo hn hz hab hb h2 h3 lx hx ly hy hsx hsy (b - 1 - (a + 1)) (a + 1) rfl (Nat.le_refl _) (by omega) (nI_1 a))
set_option maxHeartbeats 1000000 in
set_option maxRecDepth 20000 in
theorem innN (f : Nat → zC) (o : Nat → Int32) (A : Nat → Nat → Int32) (J : Nat → Nat → Int64) {n a b h z : Nat} (hn : n < 450) (hh : h ≤ 20) (hb : b ≤ h) {n0 : Nat} : ∀ (w m : Nat), m + w = b → ∀ {x5 v : Int32}, x5 = nI m → zV (zMo (3 * z + 5) zX7_inner) false n0 0 0 36 [(5, .int x5), (4, .int v), (0, .ref 76), (1, .int (nI n)), (2, .int (nI a)), (3, .int (nI b))] [] (wR f o A J) (fun r w' => w' = (wR f o A J) ∧ ∃ v : Int64, r = some (.long v)) := by
  intro w
  induction w with
  | zero =>
    intro m hm x5 v e5
    subst e5
    iterate 3 (refine zv_step (bX7_inner (3 * z + 5)) rfl rfl trivial ?_)
    refine zv_ift (nI_le (by omega) (by omega)) ?_
    iterate 4 (refine zv_step (bX7_inner (3 * z + 5)) rfl rfl trivial ?_)
    refine zv_step (bX7_inner (3 * z + 5)) rfl rfl (vp_in_nI (by omega) (by decide)) ?_
    iterate 1 (refine zv_step (bX7_inner (3 * z + 5)) rfl rfl trivial ?_)
    refine zv_ifb (fun h74 => ?_) (fun h74 => ?_)
    · iterate 1 (refine zv_step (bX7_inner (3 * z + 5)) rfl rfl trivial ?_)
      exact zv_lret (bX7_inner (3 * z + 5)) rfl rfl (Nat.zero_le _) (Nat.zero_le _) ⟨rfl, _, rfl⟩
    · iterate 2 (refine zv_step (bX7_inner (3 * z + 5)) rfl rfl trivial ?_)
      exact zv_lret (bX7_inner (3 * z + 5)) rfl rfl (Nat.zero_le _) (Nat.zero_le _) ⟨rfl, _, rfl⟩
  | succ w ih2 =>
    intro m hm x5 v e5
    subst e5
    iterate 3 (refine zv_step (bX7_inner (3 * z + 5)) rfl rfl trivial ?_)
    refine zv_iff (fun h => absurd ((nI_leI (by omega) (by omega)).mp h) (by omega)) ?_
    iterate 6 (refine zv_step (bX7_inner (3 * z + 5)) rfl rfl trivial ?_)
    refine zv_step (bX7_inner (3 * z + 5)) rfl rfl (vp_in_nI (by omega) (by decide)) ?_
    iterate 6 (refine zv_step (bX7_inner (3 * z + 5)) rfl rfl trivial ?_)
    refine zv_locals (l := [(5, .int (nI m + Int32.ofInt 1)), (4, .int (c8 10 * v + A 8 (nI m).toNatClampNeg - c8 10)), (0, .ref 76), (1, .int (nI n)), (2, .int (nI a)), (3, .int (nI b))]) (l' := [(5, .int (nI m + Int32.ofInt 1)), (4, .int (c8 10 * v + A 8 (nI m).toNatClampNeg - c8 10)), (0, .ref 76), (1, .int (nI n)), (2, .int (nI a)), (3, .int (nI b))]) (fun q h => h) (ih2 (m + 1) (by omega) (nI_1 m))
set_option maxHeartbeats 1000000 in
set_option maxRecDepth 20000 in
theorem mTwoL (w : zW) {k : Nat} (h1 : k < 2) : zK 0 zX7_isTwo [.int (nI k)] w (fun r w' => w' = w ∧ r = some (.int 0)) := by
  refine zK_of qX7_isTwo (by decide +kernel) rfl ?_
  iterate 3 (refine zv_step (bX7_isTwo 0) rfl rfl trivial ?_)
  refine zv_ift (show nI k < nI 2 from nI_lt h1 (by decide)) ?_
  iterate 1 (refine zv_step (bX7_isTwo 0) rfl rfl trivial ?_)
  exact zv_iret (bX7_isTwo 0) rfl (Or.inr ⟨rfl, Or.inl rfl⟩) (Nat.zero_le _) (Nat.zero_le _) ⟨rfl, rfl⟩
set_option maxHeartbeats 1000000 in
set_option maxRecDepth 20000 in
theorem mInner (f : Nat → zC) (o : Nat → Int32) (A : Nat → Nat → Int32) (J : Nat → Nat → Int64) {lo hi : Nat} (hh0 : hi ≤ 450) (hT : tbI lo hi A) {h : Nat} (hh : h ≤ 20) (hw : nnW h (A 8)) {s : Nat} (hJ : okJ h A s J) {z : Nat} (ih : ∀ (n i j : Nat) (y z' : Int32), y = nI i → z' = nI j → lo ≤ n → n < hi → szN A n ≤ z → i ≤ 30 → j ≤ h → zK (3 * z + 3) zX7_rank [.ref 76, .int (nI n), .int y, .int z'] (wR f o A J) (fun r w' => w' = (wR f o A J) ∧ ∃ v : Int64, r = some (.long v))) {n a b : Nat} (hlo : lo ≤ n) (hn : n < hi) (hz : szN A n ≤ z + 1) (hab : a < b) (hb : b ≤ h) {y z' : Int32} (ey : y = nI a) (ez : z' = nI b) : zK (3 * z + 5) zX7_inner [.ref 76, .int (nI n), .int y, .int z'] (wR f o A J) (fun r w' => w' = (wR f o A J) ∧ ∃ v : Int64, r = some (.long v)) := by
  subst ey ez
  obtain ⟨k, h0, hk, hs, h40, hv⟩ := rN_val (hT n hlo hn)
  refine zK_of qX7_inner (by decide +kernel) rfl ?_
  rcases hs with ⟨k1, h2, h3, es⟩ | ⟨k1, k6, x, y2, h2, la, ha, h3, lb, hb2, es⟩ | ⟨k1, x, h2, lx, hx, h3, es⟩
  · rcases (show k = 0 ∨ k = 1 by omega) with rfl | rfl
    · iterate 3 (refine zv_step (bX7_inner (3 * z + 5)) rfl rfl trivial ?_)
      refine zv_iale (bX7_inner (3 * z + 5)) rfl rfl (vp_in_nI (by omega) (by decide)) (show A 0 (nI n).toNatClampNeg = nI 0 by rw [nI_clamp (by omega)]; exact h0) ?_
      refine zv_S1 (bX7_inner (3 * z + 5)) rfl rfl rfl rfl ⟨rfl, rfl, rfl⟩ ⟨by show 0 + 1 ≤ 3 * z + 5; omega, by show 8 + (1 + 11) + 64 * (0) ≤ 64 * (3 * z + 5); omega⟩ ⟨Nat.zero_le _, Nat.zero_le _⟩ (mTwoL _ (k := 0) (by decide)) ?_
      rintro _ _ ⟨rfl, rfl⟩
      iterate 1 (refine zv_step (bX7_inner (3 * z + 5)) rfl rfl trivial ?_)
      refine zv_ift (by decide) ?_
      iterate 3 (refine zv_step (bX7_inner (3 * z + 5)) rfl rfl trivial ?_)
      refine zv_iale (bX7_inner (3 * z + 5)) rfl rfl (vp_in_nI (by omega) (by decide)) (show A 0 (nI n).toNatClampNeg = nI 0 by rw [nI_clamp (by omega)]; exact h0) ?_
      iterate 2 (refine zv_step (bX7_inner (3 * z + 5)) rfl rfl trivial ?_)
      refine zv_ift (by decide) ?_
      iterate 3 (refine zv_step (bX7_inner (3 * z + 5)) rfl rfl trivial ?_)
      refine zv_iale (bX7_inner (3 * z + 5)) rfl rfl (vp_in_nI (by omega) (by decide)) (show A 0 (nI n).toNatClampNeg = nI 0 by rw [nI_clamp (by omega)]; exact h0) ?_
      iterate 1 (refine zv_step (bX7_inner (3 * z + 5)) rfl rfl trivial ?_)
      refine zv_iff (by decide) ?_
      iterate 3 (refine zv_step (bX7_inner (3 * z + 5)) rfl rfl trivial ?_)
      refine zv_step (bX7_inner (3 * z + 5)) rfl rfl (vp_in_nI (by omega) (by decide)) ?_
      iterate 3 (refine zv_step (bX7_inner (3 * z + 5)) rfl rfl trivial ?_)
      refine zv_step (bX7_inner (3 * z + 5)) rfl rfl (vp_in_nI (by omega) (by decide)) ?_
      iterate 1 (refine zv_step (bX7_inner (3 * z + 5)) rfl rfl trivial ?_)
      refine zv_ifb (fun h106 => ?_) (fun h106 => ?_)
      · iterate 1 (refine zv_step (bX7_inner (3 * z + 5)) rfl rfl trivial ?_)
        exact zv_lret (bX7_inner (3 * z + 5)) rfl rfl (Nat.zero_le _) (Nat.zero_le _) ⟨rfl, _, rfl⟩
      · iterate 2 (refine zv_step (bX7_inner (3 * z + 5)) rfl rfl trivial ?_)
        exact zv_lret (bX7_inner (3 * z + 5)) rfl rfl (Nat.zero_le _) (Nat.zero_le _) ⟨rfl, _, rfl⟩
    · iterate 3 (refine zv_step (bX7_inner (3 * z + 5)) rfl rfl trivial ?_)
      refine zv_iale (bX7_inner (3 * z + 5)) rfl rfl (vp_in_nI (by omega) (by decide)) (show A 0 (nI n).toNatClampNeg = nI 1 by rw [nI_clamp (by omega)]; exact h0) ?_
      refine zv_S1 (bX7_inner (3 * z + 5)) rfl rfl rfl rfl ⟨rfl, rfl, rfl⟩ ⟨by show 0 + 1 ≤ 3 * z + 5; omega, by show 8 + (1 + 11) + 64 * (0) ≤ 64 * (3 * z + 5); omega⟩ ⟨Nat.zero_le _, Nat.zero_le _⟩ (mTwoL _ (k := 1) (by decide)) ?_
      rintro _ _ ⟨rfl, rfl⟩
      iterate 1 (refine zv_step (bX7_inner (3 * z + 5)) rfl rfl trivial ?_)
      refine zv_ift (by decide) ?_
      iterate 3 (refine zv_step (bX7_inner (3 * z + 5)) rfl rfl trivial ?_)
      refine zv_iale (bX7_inner (3 * z + 5)) rfl rfl (vp_in_nI (by omega) (by decide)) (show A 0 (nI n).toNatClampNeg = nI 1 by rw [nI_clamp (by omega)]; exact h0) ?_
      iterate 2 (refine zv_step (bX7_inner (3 * z + 5)) rfl rfl trivial ?_)
      refine zv_iff (by decide) ?_
      iterate 4 (refine zv_step (bX7_inner (3 * z + 5)) rfl rfl trivial ?_)
      refine zv_locals (l := [(5, .int (nI a)), (4, .int (Int32.ofInt 0)), (0, .ref 76), (1, .int (nI n)), (2, .int (nI a)), (3, .int (nI b))]) (l' := [(5, .int (nI a)), (4, .int (Int32.ofInt 0)), (0, .ref 76), (1, .int (nI n)), (2, .int (nI a)), (3, .int (nI b))]) (fun q h => h) (innN f o A J (by omega) hh hb (b - a) a (by omega) rfl)
  · have sx := (rN_sz (hT x la (by omega))).1
    have sy := (rN_sz (hT y2 lb (by omega))).1
    iterate 3 (refine zv_step (bX7_inner (3 * z + 5)) rfl rfl trivial ?_)
    refine zv_iale (bX7_inner (3 * z + 5)) rfl rfl (vp_in_nI (by omega) (by decide)) (show A 0 (nI n).toNatClampNeg = nI k by rw [nI_clamp (by omega)]; exact h0) ?_
    refine zv_S1 (bX7_inner (3 * z + 5)) rfl rfl rfl rfl ⟨rfl, rfl, rfl⟩ ⟨by show 0 + 1 ≤ 3 * z + 5; omega, by show 8 + (1 + 11) + 64 * (0) ≤ 64 * (3 * z + 5); omega⟩ ⟨Nat.zero_le _, Nat.zero_le _⟩ (mTwoY _ k1 k6) ?_
    rintro _ _ ⟨rfl, rfl⟩
    iterate 1 (refine zv_step (bX7_inner (3 * z + 5)) rfl rfl trivial ?_)
    refine zv_iff (by decide) ?_
    iterate 4 (refine zv_step (bX7_inner (3 * z + 5)) rfl rfl trivial ?_)
    refine zv_V3 (bX7_inner (3 * z + 5)) rfl rfl rfl rfl rfl rfl rfl ⟨rfl, rfl, rfl⟩ ⟨by show 3 * z + 4 + 1 ≤ 3 * z + 5; omega, by show 8 + (13 + 11) + 64 * (3 * z + 4) ≤ 64 * (3 * z + 5); omega⟩ ⟨Nat.zero_le _, Nat.zero_le _⟩ (mInn2 f o A J hh0 hT hh hw hJ ih hlo hn hz hab hb h2 h3 la ha lb hb2 (by omega) (by omega)) ?_
    rintro _ _ ⟨rfl, v, rfl⟩
    exact zv_lret (bX7_inner (3 * z + 5)) rfl rfl (Nat.zero_le _) (Nat.zero_le _) ⟨rfl, _, rfl⟩
  · rcases (show k = 7 ∨ k = 8 ∨ k = 9 by omega) with rfl | rfl | rfl
    · iterate 3 (refine zv_step (bX7_inner (3 * z + 5)) rfl rfl trivial ?_)
      refine zv_iale (bX7_inner (3 * z + 5)) rfl rfl (vp_in_nI (by omega) (by decide)) (show A 0 (nI n).toNatClampNeg = nI 7 by rw [nI_clamp (by omega)]; exact h0) ?_
      refine zv_S1 (bX7_inner (3 * z + 5)) rfl rfl rfl rfl ⟨rfl, rfl, rfl⟩ ⟨by show 0 + 1 ≤ 3 * z + 5; omega, by show 8 + (1 + 11) + 64 * (0) ≤ 64 * (3 * z + 5); omega⟩ ⟨Nat.zero_le _, Nat.zero_le _⟩ (mTwoN _ (k := 7) (by decide) (by decide)) ?_
      rintro _ _ ⟨rfl, rfl⟩
      iterate 1 (refine zv_step (bX7_inner (3 * z + 5)) rfl rfl trivial ?_)
      refine zv_ift (by decide) ?_
      iterate 3 (refine zv_step (bX7_inner (3 * z + 5)) rfl rfl trivial ?_)
      refine zv_iale (bX7_inner (3 * z + 5)) rfl rfl (vp_in_nI (by omega) (by decide)) (show A 0 (nI n).toNatClampNeg = nI 7 by rw [nI_clamp (by omega)]; exact h0) ?_
      iterate 2 (refine zv_step (bX7_inner (3 * z + 5)) rfl rfl trivial ?_)
      refine zv_ift (by decide) ?_
      iterate 3 (refine zv_step (bX7_inner (3 * z + 5)) rfl rfl trivial ?_)
      refine zv_iale (bX7_inner (3 * z + 5)) rfl rfl (vp_in_nI (by omega) (by decide)) (show A 0 (nI n).toNatClampNeg = nI 7 by rw [nI_clamp (by omega)]; exact h0) ?_
      iterate 1 (refine zv_step (bX7_inner (3 * z + 5)) rfl rfl trivial ?_)
      refine zv_ift (by decide) ?_
      iterate 3 (refine zv_step (bX7_inner (3 * z + 5)) rfl rfl trivial ?_)
      refine zv_iale (bX7_inner (3 * z + 5)) rfl rfl (vp_in_nI (by omega) (by decide)) (show A 0 (nI n).toNatClampNeg = nI 7 by rw [nI_clamp (by omega)]; exact h0) ?_
      iterate 2 (refine zv_step (bX7_inner (3 * z + 5)) rfl rfl trivial ?_)
      refine zv_ift (by decide) ?_
      iterate 4 (refine zv_step (bX7_inner (3 * z + 5)) rfl rfl trivial ?_)
      refine zv_iale (bX7_inner (3 * z + 5)) rfl rfl (vp_in_nI (by omega) (by decide)) (show A 2 (nI n).toNatClampNeg = nI x by rw [nI_clamp (by omega)]; exact h2) ?_
      iterate 6 (refine zv_step (bX7_inner (3 * z + 5)) rfl rfl trivial ?_)
      refine zv_iale (bX7_inner (3 * z + 5)) rfl rfl (vp_in_nI (by omega) (by decide)) (show A 0 (nI n).toNatClampNeg = nI 7 by rw [nI_clamp (by omega)]; exact h0) ?_
      iterate 2 (refine zv_step (bX7_inner (3 * z + 5)) rfl rfl trivial ?_)
      refine zv_ift (by decide) ?_
      iterate 1 (refine zv_step (bX7_inner (3 * z + 5)) rfl rfl trivial ?_)
      refine zv_V3 (bX7_inner (3 * z + 5)) rfl rfl rfl rfl rfl rfl rfl ⟨rfl, rfl, rfl⟩ ⟨by show 3 * z + 3 + 1 ≤ 3 * z + 5; omega, by show 8 + (8 + 11) + 64 * (3 * z + 3) ≤ 64 * (3 * z + 5); omega⟩ ⟨Nat.zero_le _, Nat.zero_le _⟩ (ih x (a + 1) (b) _ _ (nI_1 a) rfl lx (by omega) (by omega) (by omega) (by omega)) ?_
      rintro _ _ ⟨rfl, v, rfl⟩
      exact zv_lret (bX7_inner (3 * z + 5)) rfl rfl (Nat.zero_le _) (Nat.zero_le _) ⟨rfl, _, rfl⟩
    · iterate 3 (refine zv_step (bX7_inner (3 * z + 5)) rfl rfl trivial ?_)
      refine zv_iale (bX7_inner (3 * z + 5)) rfl rfl (vp_in_nI (by omega) (by decide)) (show A 0 (nI n).toNatClampNeg = nI 8 by rw [nI_clamp (by omega)]; exact h0) ?_
      refine zv_S1 (bX7_inner (3 * z + 5)) rfl rfl rfl rfl ⟨rfl, rfl, rfl⟩ ⟨by show 0 + 1 ≤ 3 * z + 5; omega, by show 8 + (1 + 11) + 64 * (0) ≤ 64 * (3 * z + 5); omega⟩ ⟨Nat.zero_le _, Nat.zero_le _⟩ (mTwoN _ (k := 8) (by decide) (by decide)) ?_
      rintro _ _ ⟨rfl, rfl⟩
      iterate 1 (refine zv_step (bX7_inner (3 * z + 5)) rfl rfl trivial ?_)
      refine zv_ift (by decide) ?_
      iterate 3 (refine zv_step (bX7_inner (3 * z + 5)) rfl rfl trivial ?_)
      refine zv_iale (bX7_inner (3 * z + 5)) rfl rfl (vp_in_nI (by omega) (by decide)) (show A 0 (nI n).toNatClampNeg = nI 8 by rw [nI_clamp (by omega)]; exact h0) ?_
      iterate 2 (refine zv_step (bX7_inner (3 * z + 5)) rfl rfl trivial ?_)
      refine zv_ift (by decide) ?_
      iterate 3 (refine zv_step (bX7_inner (3 * z + 5)) rfl rfl trivial ?_)
      refine zv_iale (bX7_inner (3 * z + 5)) rfl rfl (vp_in_nI (by omega) (by decide)) (show A 0 (nI n).toNatClampNeg = nI 8 by rw [nI_clamp (by omega)]; exact h0) ?_
      iterate 1 (refine zv_step (bX7_inner (3 * z + 5)) rfl rfl trivial ?_)
      refine zv_ift (by decide) ?_
      iterate 3 (refine zv_step (bX7_inner (3 * z + 5)) rfl rfl trivial ?_)
      refine zv_iale (bX7_inner (3 * z + 5)) rfl rfl (vp_in_nI (by omega) (by decide)) (show A 0 (nI n).toNatClampNeg = nI 8 by rw [nI_clamp (by omega)]; exact h0) ?_
      iterate 2 (refine zv_step (bX7_inner (3 * z + 5)) rfl rfl trivial ?_)
      refine zv_ift (by decide) ?_
      iterate 4 (refine zv_step (bX7_inner (3 * z + 5)) rfl rfl trivial ?_)
      refine zv_iale (bX7_inner (3 * z + 5)) rfl rfl (vp_in_nI (by omega) (by decide)) (show A 2 (nI n).toNatClampNeg = nI x by rw [nI_clamp (by omega)]; exact h2) ?_
      iterate 6 (refine zv_step (bX7_inner (3 * z + 5)) rfl rfl trivial ?_)
      refine zv_iale (bX7_inner (3 * z + 5)) rfl rfl (vp_in_nI (by omega) (by decide)) (show A 0 (nI n).toNatClampNeg = nI 8 by rw [nI_clamp (by omega)]; exact h0) ?_
      iterate 2 (refine zv_step (bX7_inner (3 * z + 5)) rfl rfl trivial ?_)
      refine zv_iff (by decide) ?_
      iterate 4 (refine zv_step (bX7_inner (3 * z + 5)) rfl rfl trivial ?_)
      refine zv_V3 (bX7_inner (3 * z + 5)) rfl rfl rfl rfl rfl rfl rfl ⟨rfl, rfl, rfl⟩ ⟨by show 3 * z + 3 + 1 ≤ 3 * z + 5; omega, by show 8 + (8 + 11) + 64 * (3 * z + 3) ≤ 64 * (3 * z + 5); omega⟩ ⟨Nat.zero_le _, Nat.zero_le _⟩ (ih x (a + 1) (b - 1) _ _ (nI_1 a) (sub_1 (by omega)) lx (by omega) (by omega) (by omega) (by omega)) ?_
      rintro _ _ ⟨rfl, v, rfl⟩
      exact zv_lret (bX7_inner (3 * z + 5)) rfl rfl (Nat.zero_le _) (Nat.zero_le _) ⟨rfl, _, rfl⟩
    · iterate 3 (refine zv_step (bX7_inner (3 * z + 5)) rfl rfl trivial ?_)
      refine zv_iale (bX7_inner (3 * z + 5)) rfl rfl (vp_in_nI (by omega) (by decide)) (show A 0 (nI n).toNatClampNeg = nI 9 by rw [nI_clamp (by omega)]; exact h0) ?_
      refine zv_S1 (bX7_inner (3 * z + 5)) rfl rfl rfl rfl ⟨rfl, rfl, rfl⟩ ⟨by show 0 + 1 ≤ 3 * z + 5; omega, by show 8 + (1 + 11) + 64 * (0) ≤ 64 * (3 * z + 5); omega⟩ ⟨Nat.zero_le _, Nat.zero_le _⟩ (mTwoN _ (k := 9) (by decide) (by decide)) ?_
      rintro _ _ ⟨rfl, rfl⟩
      iterate 1 (refine zv_step (bX7_inner (3 * z + 5)) rfl rfl trivial ?_)
      refine zv_ift (by decide) ?_
      iterate 3 (refine zv_step (bX7_inner (3 * z + 5)) rfl rfl trivial ?_)
      refine zv_iale (bX7_inner (3 * z + 5)) rfl rfl (vp_in_nI (by omega) (by decide)) (show A 0 (nI n).toNatClampNeg = nI 9 by rw [nI_clamp (by omega)]; exact h0) ?_
      iterate 2 (refine zv_step (bX7_inner (3 * z + 5)) rfl rfl trivial ?_)
      refine zv_ift (by decide) ?_
      iterate 3 (refine zv_step (bX7_inner (3 * z + 5)) rfl rfl trivial ?_)
      refine zv_iale (bX7_inner (3 * z + 5)) rfl rfl (vp_in_nI (by omega) (by decide)) (show A 0 (nI n).toNatClampNeg = nI 9 by rw [nI_clamp (by omega)]; exact h0) ?_
      iterate 1 (refine zv_step (bX7_inner (3 * z + 5)) rfl rfl trivial ?_)
      refine zv_ift (by decide) ?_
      iterate 3 (refine zv_step (bX7_inner (3 * z + 5)) rfl rfl trivial ?_)
      refine zv_iale (bX7_inner (3 * z + 5)) rfl rfl (vp_in_nI (by omega) (by decide)) (show A 0 (nI n).toNatClampNeg = nI 9 by rw [nI_clamp (by omega)]; exact h0) ?_
      iterate 2 (refine zv_step (bX7_inner (3 * z + 5)) rfl rfl trivial ?_)
      refine zv_iff (by decide) ?_
      iterate 3 (refine zv_step (bX7_inner (3 * z + 5)) rfl rfl trivial ?_)
      refine zv_step (bX7_inner (3 * z + 5)) rfl rfl (vp_in_nI (by omega) (by decide)) ?_
      iterate 3 (refine zv_step (bX7_inner (3 * z + 5)) rfl rfl trivial ?_)
      refine zv_step (bX7_inner (3 * z + 5)) rfl rfl (vp_in_nI (by omega) (by decide)) ?_
      iterate 1 (refine zv_step (bX7_inner (3 * z + 5)) rfl rfl trivial ?_)
      refine zv_ifb (fun h140 => ?_) (fun h140 => ?_)
      · iterate 1 (refine zv_step (bX7_inner (3 * z + 5)) rfl rfl trivial ?_)
        exact zv_lret (bX7_inner (3 * z + 5)) rfl rfl (Nat.zero_le _) (Nat.zero_le _) ⟨rfl, _, rfl⟩
      · iterate 4 (refine zv_step (bX7_inner (3 * z + 5)) rfl rfl trivial ?_)
        refine zv_iale (bX7_inner (3 * z + 5)) rfl rfl (vp_in_nI (by omega) (by decide)) (show A 2 (nI n).toNatClampNeg = nI x by rw [nI_clamp (by omega)]; exact h2) ?_
        iterate 4 (refine zv_step (bX7_inner (3 * z + 5)) rfl rfl trivial ?_)
        refine zv_V3 (bX7_inner (3 * z + 5)) rfl rfl rfl rfl rfl rfl rfl ⟨rfl, rfl, rfl⟩ ⟨by show 3 * z + 3 + 1 ≤ 3 * z + 5; omega, by show 8 + (8 + 11) + 64 * (3 * z + 3) ≤ 64 * (3 * z + 5); omega⟩ ⟨Nat.zero_le _, Nat.zero_le _⟩ (ih x (a + 2) b _ _ (nI_2 a) rfl lx (by omega) (by omega) (by omega) (by omega)) ?_
        rintro _ _ ⟨rfl, v, rfl⟩
        iterate 1 (refine zv_step (bX7_inner (3 * z + 5)) rfl rfl trivial ?_)
        exact zv_lret (bX7_inner (3 * z + 5)) rfl rfl (Nat.zero_le _) (Nat.zero_le _) ⟨rfl, _, rfl⟩
set_option maxHeartbeats 1000000 in
set_option maxRecDepth 20000 in
theorem rnkD (f : Nat → zC) (o : Nat → Int32) (A : Nat → Nat → Int32) (J : Nat → Nat → Int64) {n i j c z : Nat} (hij : i < j) (hj : j ≤ 20) (hc : c < 20) {n0 : Nat} {Q : Option Value → zW → Prop} (kk : ∀ v : Int64, zV (zMo (3 * (z + 1) + 3) zX7_rank) false n0 0 0 139 [(5, .long v), (4, .int (nI c)), (0, .ref 76), (1, .int (nI n)), (2, .int (nI i)), (3, .int (nI j))] [] (wR f o A J) Q) : ∀ (w d : Nat), d + w = c → ∀ {x7 : Int32} {v : Int64}, x7 = nI d → zV (zMo (3 * (z + 1) + 3) zX7_rank) false n0 0 0 97 [(7, .int x7), (5, .long v), (4, .int (nI c)), (0, .ref 76), (1, .int (nI n)), (2, .int (nI i)), (3, .int (nI j))] [] (wR f o A J) Q := by
  intro w
  induction w with
  | zero =>
    intro d hd x7 v e7
    subst e7
    iterate 3 (refine zv_step (bX7_rank (3 * (z + 1) + 3)) rfl rfl trivial ?_)
    refine zv_ift (nI_le (by omega) (by omega)) ?_
    refine zv_locals (l := [(7, .int (nI d)), (5, .long v), (4, .int (nI c)), (0, .ref 76), (1, .int (nI n)), (2, .int (nI i)), (3, .int (nI j))]) (l' := [(5, .long v), (4, .int (nI c)), (0, .ref 76), (1, .int (nI n)), (2, .int (nI i)), (3, .int (nI j))]) ?_ (kk v)
    simp
  | succ w ih2 =>
    intro d hd x7 v e7
    subst e7
    iterate 3 (refine zv_step (bX7_rank (3 * (z + 1) + 3)) rfl rfl trivial ?_)
    refine zv_iff (fun h => absurd ((nI_leI (by omega) (by omega)).mp h) (by omega)) ?_
    iterate 4 (refine zv_step (bX7_rank (3 * (z + 1) + 3)) rfl rfl trivial ?_)
    refine zv_ifb (fun h108 => ?_) (fun h108 => ?_)
    · refine zv_locals (l := [(7, .int (nI d)), (5, .long v), (4, .int (nI c)), (0, .ref 76), (1, .int (nI n)), (2, .int (nI i)), (3, .int (nI j))]) (l' := [(5, .long v), (4, .int (nI c)), (0, .ref 76), (1, .int (nI n)), (2, .int (nI i)), (3, .int (nI j))]) ?_ (kk v)
      simp
    · iterate 12 (refine zv_step (bX7_rank (3 * (z + 1) + 3)) rfl rfl trivial ?_)
      refine zv_step (bX7_rank (3 * (z + 1) + 3)) rfl rfl (show vp_in (c8 20 * (c8 21 * nI i + nI j) + nI d) 8820 by rw [show c8 20 * (c8 21 * nI i + nI j) + nI d = nI (20 * (21 * i + j) + d) by rw [ix21, ix20m]]; exact vp_in_nI (by omega) (by decide)) ?_
      iterate 4 (refine zv_step (bX7_rank (3 * (z + 1) + 3)) rfl rfl trivial ?_)
      refine zv_locals (l := [(7, .int (nI d + Int32.ofInt 1)), (5, .long (v + J 0 (c8 20 * (c8 21 * nI i + nI j) + nI d).toNatClampNeg)), (4, .int (nI c)), (0, .ref 76), (1, .int (nI n)), (2, .int (nI i)), (3, .int (nI j))]) (l' := [(7, .int (nI d + Int32.ofInt 1)), (5, .long (v + J 0 (c8 20 * (c8 21 * nI i + nI j) + nI d).toNatClampNeg)), (4, .int (nI c)), (0, .ref 76), (1, .int (nI n)), (2, .int (nI i)), (3, .int (nI j))]) (fun q h => h) (ih2 (d + 1) (by omega) (nI_1 d))
set_option maxHeartbeats 1000000 in
set_option maxRecDepth 20000 in
theorem rnkC (f : Nat → zC) (o : Nat → Int32) (A : Nat → Nat → Int32) (J : Nat → Nat → Int64) {lo hi : Nat} (hh0 : hi ≤ 450) (hT : tbI lo hi A) {h : Nat} (hh : h ≤ 20) (hw : nnW h (A 8)) {s : Nat} (hJ : okJ h A s J) {z : Nat} (ih : ∀ (n i j : Nat) (y z' : Int32), y = nI i → z' = nI j → lo ≤ n → n < hi → szN A n ≤ z → i ≤ 30 → j ≤ h → zK (3 * z + 3) zX7_rank [.ref 76, .int (nI n), .int y, .int z'] (wR f o A J) (fun r w' => w' = (wR f o A J) ∧ ∃ v : Int64, r = some (.long v))) {n i j k : Nat} (hlo : lo ≤ n) (hn : n < hi) (hz : szN A n ≤ z + 1) (hij : i < j) (hj : j ≤ h) (hk : k < 10) (h0 : A 0 n = nI k) {n0 : Nat} : ∀ (w c : Nat), c + w = 2 * k + 2 → ∀ {x4 : Int32}, x4 = nI c → zV (zMo (3 * (z + 1) + 3) zX7_rank) false n0 0 0 26 [(4, .int x4), (0, .ref 76), (1, .int (nI n)), (2, .int (nI i)), (3, .int (nI j))] [] (wR f o A J) (fun r w' => w' = (wR f o A J) ∧ ∃ v : Int64, r = some (.long v)) := by
  intro w
  induction w with
  | zero =>
    intro c hc x4 e4
    subst e4
    iterate 5 (refine zv_step (bX7_rank (3 * (z + 1) + 3)) rfl rfl trivial ?_)
    refine zv_iale (bX7_rank (3 * (z + 1) + 3)) rfl rfl (vp_in_nI (by omega) (by decide)) (show A 0 (nI n).toNatClampNeg = nI k by rw [nI_clamp (by omega)]; exact h0) ?_
    iterate 4 (refine zv_step (bX7_rank (3 * (z + 1) + 3)) rfl rfl trivial ?_)
    refine zv_ift (show Int32.ofInt 2 * nI k + Int32.ofInt 2 ≤ nI c by rw [show Int32.ofInt 2 * nI k + Int32.ofInt 2 = nI (2 * k + 2) by rw [show Int32.ofInt 2 * nI k = nI (2 * k) from nI_mul 2 k]; exact nI_2 _]; exact nI_le (by omega) (by omega)) ?_
    iterate 1 (refine zv_step (bX7_rank (3 * (z + 1) + 3)) rfl rfl trivial ?_)
    exact zv_lret (bX7_rank (3 * (z + 1) + 3)) rfl rfl (Nat.zero_le _) (Nat.zero_le _) ⟨rfl, _, rfl⟩
  | succ w ih2 =>
    intro c hc x4 e4
    subst e4
    iterate 5 (refine zv_step (bX7_rank (3 * (z + 1) + 3)) rfl rfl trivial ?_)
    refine zv_iale (bX7_rank (3 * (z + 1) + 3)) rfl rfl (vp_in_nI (by omega) (by decide)) (show A 0 (nI n).toNatClampNeg = nI k by rw [nI_clamp (by omega)]; exact h0) ?_
    iterate 4 (refine zv_step (bX7_rank (3 * (z + 1) + 3)) rfl rfl trivial ?_)
    refine zv_iff (show ¬ Int32.ofInt 2 * nI k + Int32.ofInt 2 ≤ nI c by rw [show Int32.ofInt 2 * nI k + Int32.ofInt 2 = nI (2 * k + 2) by rw [show Int32.ofInt 2 * nI k = nI (2 * k) from nI_mul 2 k]; exact nI_2 _]; exact fun h => absurd ((nI_leI (by omega) (by omega)).mp h) (by omega)) ?_
    iterate 11 (refine zv_step (bX7_rank (3 * (z + 1) + 3)) rfl rfl trivial ?_)
    refine zv_lale (bX7_rank (3 * (z + 1) + 3)) rfl rfl (show vp_in (c8 20 * (c8 21 * nI i + nI j) + nI c) 8820 by rw [show c8 20 * (c8 21 * nI i + nI j) + nI c = nI (20 * (21 * i + j) + c) by rw [ix21, ix20m]]; exact vp_in_nI (by omega) (by decide)) (show J 0 (c8 20 * (c8 21 * nI i + nI j) + nI c).toNatClampNeg = lN (mW A s (lW J) i j c) by rw [show c8 20 * (c8 21 * nI i + nI j) + nI c = nI (20 * (21 * i + j) + c) by rw [ix21, ix20m], nI_clamp (by omega)]; exact (hJ i j hij hj).1 c (by omega)) ?_
    iterate 3 (refine zv_step (bX7_rank (3 * (z + 1) + 3)) rfl rfl trivial ?_)
    refine zv_ifb (fun h60 => ?_) (fun h60 => ?_)
    · iterate 2 (refine zv_step (bX7_rank (3 * (z + 1) + 3)) rfl rfl trivial ?_)
      refine zv_locals (l := [(4, .int (nI c + Int32.ofInt 1)), (0, .ref 76), (1, .int (nI n)), (2, .int (nI i)), (3, .int (nI j))]) (l' := [(4, .int (nI c + Int32.ofInt 1)), (0, .ref 76), (1, .int (nI n)), (2, .int (nI i)), (3, .int (nI j))]) (fun q h => h) (ih2 (c + 1) (by omega) (nI_1 c))
    · have hp : 0 < mW A s (lW J) i j c := by
        have h9 : ¬ lN (mW A s (lW J) i j c) ≤ lN 0 := fun e => h60 ((lg_cmp_le _ _).mpr e)
        have hcap := mW_le hJ (i := i) (j := j) hj c
        rw [lN_leJ (by unfold cap at hcap; omega) (by decide)] at h9
        omega
      have hw2 := (mW_pos hp).1
      have hab : i + c % 2 < j - c % 2 := by
        rcases Nat.lt_or_ge (i + c % 2) (j - c % 2) with e | e
        · exact e
        · rw [wi_n e] at hw2
          omega
      iterate 2 (refine zv_step (bX7_rank (3 * (z + 1) + 3)) rfl rfl trivial ?_)
      refine zv_step (bX7_rank (3 * (z + 1) + 3)) rfl rfl (show ¬ Int32.ofInt 2 = 0 by decide) ?_
      iterate 2 (refine zv_step (bX7_rank (3 * (z + 1) + 3)) rfl rfl trivial ?_)
      refine zv_ifb (fun h68 => ?_) (fun h68 => ?_)
      · have q68 : c % 2 = 0 := by
          have h9 : ¬ nI c - nI c / Int32.ofInt 2 * Int32.ofInt 2 = nI 1 := h68
          rw [rem2 (by omega), nI_eq (by omega) (by decide)] at h9
          omega
        rw [q68] at hab
        iterate 4 (refine zv_step (bX7_rank (3 * (z + 1) + 3)) rfl rfl trivial ?_)
        refine zv_V3 (bX7_rank (3 * (z + 1) + 3)) rfl rfl rfl rfl rfl rfl rfl ⟨rfl, rfl, rfl⟩ ⟨by show 3 * z + 5 + 1 ≤ 3 * (z + 1) + 3; omega, by show 8 + (6 + 11) + 64 * (3 * z + 5) ≤ 64 * (3 * (z + 1) + 3); omega⟩ ⟨Nat.zero_le _, Nat.zero_le _⟩ (mInner f o A J hh0 hT hh hw hJ ih hlo hn hz (a := i) (b := j) hab (by omega) rfl rfl) ?_
        rintro _ _ ⟨rfl, v9, rfl⟩
        iterate 3 (refine zv_step (bX7_rank (3 * (z + 1) + 3)) rfl rfl trivial ?_)
        refine zv_locals (l := [(7, .int (Int32.ofInt 0)), (5, .long v9), (4, .int (nI c)), (0, .ref 76), (1, .int (nI n)), (2, .int (nI i)), (3, .int (nI j))]) (l' := [(7, .int (Int32.ofInt 0)), (5, .long v9), (4, .int (nI c)), (0, .ref 76), (1, .int (nI n)), (2, .int (nI i)), (3, .int (nI j))]) (fun q h => h) (rnkD f o A J hij (by omega) (by omega) (fun v => ?_) c 0 (by omega) rfl)
        iterate 4 (refine zv_step (bX7_rank (3 * (z + 1) + 3)) rfl rfl trivial ?_)
        refine zv_ifb (fun h143 => ?_) (fun h143 => ?_)
        · iterate 2 (refine zv_step (bX7_rank (3 * (z + 1) + 3)) rfl rfl trivial ?_)
          refine zv_locals (l := [(4, .int (nI c + Int32.ofInt 1)), (5, .long v), (0, .ref 76), (1, .int (nI n)), (2, .int (nI i)), (3, .int (nI j))]) (l' := [(4, .int (nI c + Int32.ofInt 1)), (0, .ref 76), (1, .int (nI n)), (2, .int (nI i)), (3, .int (nI j))]) ?_ (ih2 (c + 1) (by omega) (nI_1 c))
          simp
        · iterate 1 (refine zv_step (bX7_rank (3 * (z + 1) + 3)) rfl rfl trivial ?_)
          exact zv_lret (bX7_rank (3 * (z + 1) + 3)) rfl rfl (Nat.zero_le _) (Nat.zero_le _) ⟨rfl, _, rfl⟩
      · have q68 : c % 2 = 1 := by
          have h9 : nI c - nI c / Int32.ofInt 2 * Int32.ofInt 2 = nI 1 := Decidable.not_not.mp h68
          rwa [rem2 (by omega), nI_eq (by omega) (by decide)] at h9
        rw [q68] at hab
        iterate 8 (refine zv_step (bX7_rank (3 * (z + 1) + 3)) rfl rfl trivial ?_)
        refine zv_V3 (bX7_rank (3 * (z + 1) + 3)) rfl rfl rfl rfl rfl rfl rfl ⟨rfl, rfl, rfl⟩ ⟨by show 3 * z + 5 + 1 ≤ 3 * (z + 1) + 3; omega, by show 8 + (6 + 11) + 64 * (3 * z + 5) ≤ 64 * (3 * (z + 1) + 3); omega⟩ ⟨Nat.zero_le _, Nat.zero_le _⟩ (mInner f o A J hh0 hT hh hw hJ ih hlo hn hz (a := i + 1) (b := j - 1) hab (by omega) (nI_1 i) (sub_1 (by omega))) ?_
        rintro _ _ ⟨rfl, v9, rfl⟩
        iterate 4 (refine zv_step (bX7_rank (3 * (z + 1) + 3)) rfl rfl trivial ?_)
        refine zv_locals (l := [(7, .int (Int32.ofInt 0)), (5, .long v9), (4, .int (nI c)), (0, .ref 76), (1, .int (nI n)), (2, .int (nI i)), (3, .int (nI j))]) (l' := [(7, .int (Int32.ofInt 0)), (5, .long v9), (4, .int (nI c)), (0, .ref 76), (1, .int (nI n)), (2, .int (nI i)), (3, .int (nI j))]) (fun q h => h) (rnkD f o A J hij (by omega) (by omega) (fun v => ?_) c 0 (by omega) rfl)
        iterate 4 (refine zv_step (bX7_rank (3 * (z + 1) + 3)) rfl rfl trivial ?_)
        refine zv_ifb (fun h143 => ?_) (fun h143 => ?_)
        · iterate 2 (refine zv_step (bX7_rank (3 * (z + 1) + 3)) rfl rfl trivial ?_)
          refine zv_locals (l := [(4, .int (nI c + Int32.ofInt 1)), (5, .long v), (0, .ref 76), (1, .int (nI n)), (2, .int (nI i)), (3, .int (nI j))]) (l' := [(4, .int (nI c + Int32.ofInt 1)), (0, .ref 76), (1, .int (nI n)), (2, .int (nI i)), (3, .int (nI j))]) ?_ (ih2 (c + 1) (by omega) (nI_1 c))
          simp
        · iterate 1 (refine zv_step (bX7_rank (3 * (z + 1) + 3)) rfl rfl trivial ?_)
          exact zv_lret (bX7_rank (3 * (z + 1) + 3)) rfl rfl (Nat.zero_le _) (Nat.zero_le _) ⟨rfl, _, rfl⟩
set_option maxHeartbeats 1000000 in
set_option maxRecDepth 20000 in
theorem mRank (f : Nat → zC) (o : Nat → Int32) (A : Nat → Nat → Int32) (J : Nat → Nat → Int64) {lo hi : Nat} (hh0 : hi ≤ 450) (hT : tbI lo hi A) {h : Nat} (hh : h ≤ 20) (hw : nnW h (A 8)) {s : Nat} (hJ : okJ h A s J) : ∀ (z n i j : Nat) (y z' : Int32), y = nI i → z' = nI j → lo ≤ n → n < hi → szN A n ≤ z → i ≤ 30 → j ≤ h → zK (3 * z + 3) zX7_rank [.ref 76, .int (nI n), .int y, .int z'] (wR f o A J) (fun r w' => w' = (wR f o A J) ∧ ∃ v : Int64, r = some (.long v)) := by
  intro z
  induction z with
  | zero =>
    intro n i j y z' _ _ hlo hn hz
    have := (rN_sz (hT n hlo hn)).1
    omega
  | succ z ih =>
    intro n i j y z' ey ez hlo hn hz hi0 hj
    subst ey ez
    obtain ⟨k, hk, h0⟩ := rN_kd (hT n hlo hn)
    refine zK_of qX7_rank (by decide +kernel) rfl ?_
    iterate 3 (refine zv_step (bX7_rank (3 * (z + 1) + 3)) rfl rfl trivial ?_)
    refine zv_iale (bX7_rank (3 * (z + 1) + 3)) rfl rfl (vp_in_nI (by omega) (by decide)) (show A 4 (nI n).toNatClampNeg = nI (szN A n) by rw [nI_clamp (by omega)]; exact (rN_sz (hT n hlo hn)).2.2) ?_
    iterate 4 (refine zv_step (bX7_rank (3 * (z + 1) + 3)) rfl rfl trivial ?_)
    refine zv_ifb (fun h9 => ?_) (fun h9 => ?_)
    · have hij : i < j := by
        rcases Nat.lt_or_ge i j with e | e
        · exact e
        · exfalso
          have h9 : nI (szN A n) ≤ nI j - nI i := h9
          have s1 := (rN_sz (hT n hlo hn)).1
          have s2 := (rN_sz (hT n hlo hn)).2.1
          rw [Int32.le_iff_toInt_le, Int32.toInt_sub, nI_toInt (by omega), nI_toInt (by omega), nI_toInt (by omega), Int.bmod_eq_of_le (by omega) (by omega)] at h9
          omega
      iterate 4 (refine zv_step (bX7_rank (3 * (z + 1) + 3)) rfl rfl trivial ?_)
      refine zv_iale (bX7_rank (3 * (z + 1) + 3)) rfl rfl (vp_in_nI (by omega) (by decide)) (show A 0 (nI n).toNatClampNeg = nI k by rw [nI_clamp (by omega)]; exact h0) ?_
      iterate 2 (refine zv_step (bX7_rank (3 * (z + 1) + 3)) rfl rfl trivial ?_)
      refine zv_locals (l := [(4, .int (Int32.ofInt 2 * nI k)), (0, .ref 76), (1, .int (nI n)), (2, .int (nI i)), (3, .int (nI j))]) (l' := [(4, .int (Int32.ofInt 2 * nI k)), (0, .ref 76), (1, .int (nI n)), (2, .int (nI i)), (3, .int (nI j))]) (fun q h => h) (rnkC f o A J hh0 hT hh hw hJ ih hlo hn hz hij hj hk h0 2 (2 * k) (by omega) (nI_mul 2 k))
    · iterate 1 (refine zv_step (bX7_rank (3 * (z + 1) + 3)) rfl rfl trivial ?_)
      exact zv_lret (bX7_rank (3 * (z + 1) + 3)) rfl rfl (Nat.zero_le _) (Nat.zero_le _) ⟨rfl, _, rfl⟩
set_option maxHeartbeats 1000000 in
set_option maxRecDepth 20000 in
theorem mPlace (f : Nat → zC) (o : Nat → Int32) (A : Nat → Nat → Int32) (J : Nat → Nat → Int64) {u : Nat} (hu : u ≤ 120) (ho : o 0 = nI u) (hT : tbI 0 u A) {h : Nat} (hh : h ≤ 20) (hw : nnW h (A 8)) (ho10 : o 10 = nI h) (x y : Int32) : zK 124 zX7_place [.ref 76, .int x, .int y] (wR f o A J) (fun r w' => ∃ (o' : Nat → Int32) (J' : Nat → Nat → Int64) (R : Int64), r = some (.long R) ∧ w' = wR f o' A J' ∧ ∀ j, j ≠ 28 → o' j = o j) := by
  refine zK_of qX7_place (by decide +kernel) rfl ?_
  iterate 4 (refine zv_step (bX7_place 124) rfl rfl trivial ?_)
  refine zv_S3 (bX7_place 124) rfl rfl rfl rfl ⟨rfl, rfl, rfl⟩ ⟨by decide, by decide⟩ ⟨Nat.zero_le _, Nat.zero_le _⟩ (mIn _ _ _ _ (a := 0) (b := 8) (by decide) (by decide)) ?_
  rintro _ _ ⟨rfl, ⟨g1, rfl⟩ | ⟨g1, rfl⟩⟩
  · obtain ⟨s, hs, rfl⟩ := in_nat (x := x) (b := 8) (by decide) g1
    iterate 1 (refine zv_step (bX7_place 124) rfl rfl trivial ?_)
    refine zv_iff (by decide) ?_
    iterate 2 (refine zv_step (bX7_place 124) rfl rfl trivial ?_)
    refine zv_V1 (bX7_place 124) rfl rfl rfl rfl rfl rfl rfl ⟨rfl, rfl, rfl⟩ ⟨by decide, by decide⟩ ⟨Nat.zero_le _, Nat.zero_le _⟩ (mIsNode f o A J hu ho _) ?_
    rintro _ _ ⟨rfl, ⟨g2, rfl⟩ | ⟨g2, rfl⟩⟩
    · obtain ⟨n, hn, rfl⟩ := nd_of (by omega) g2
      iterate 1 (refine zv_step (bX7_place 124) rfl rfl trivial ?_)
      refine zv_ift (by decide) ?_
      iterate 2 (refine zv_step (bX7_place 124) rfl rfl trivial ?_)
      refine zv_V1 (bX7_place 124) rfl rfl rfl rfl rfl rfl rfl ⟨rfl, rfl, rfl⟩ ⟨by decide, by decide⟩ ⟨Nat.zero_le _, Nat.zero_le _⟩ (mCounted f o A J hh hw ho10 hs rfl) ?_
      rintro _ _ ⟨J1, rfl, rfl, hJ⟩
      iterate 3 (refine zv_step (bX7_place 124) rfl rfl trivial ?_)
      refine zv_ifb (fun h31 => ?_) (fun h31 => ?_)
      · iterate 5 (refine zv_step (bX7_place 124) rfl rfl trivial ?_)
        refine zv_V3 (bX7_place 124) rfl rfl rfl rfl rfl rfl rfl ⟨rfl, rfl, rfl⟩ ⟨by decide, by decide⟩ ⟨Nat.zero_le _, Nat.zero_le _⟩ (mRank f (upd o 28 (nI s)) A J1 (by omega) hT hh hw hJ 40 n 0 h _ _ rfl ho10 (Nat.zero_le _) hn (rN_sz (hT n (Nat.zero_le _) hn)).2.1 (by omega) (Nat.le_refl _)) ?_
        rintro _ _ ⟨rfl, v, rfl⟩
        iterate 5 (refine zv_step (bX7_place 124) rfl rfl trivial ?_)
        refine zv_ifb (fun h52 => ?_) (fun h52 => ?_)
        · iterate 1 (refine zv_step (bX7_place 124) rfl rfl trivial ?_)
          exact zv_lret (bX7_place 124) rfl rfl (Nat.zero_le _) (Nat.zero_le _) ⟨(upd o 28 (nI s)), J1, _, rfl, rfl, fun j a => upd_ne _ _ a⟩
        · iterate 2 (refine zv_step (bX7_place 124) rfl rfl trivial ?_)
          exact zv_lret (bX7_place 124) rfl rfl (Nat.zero_le _) (Nat.zero_le _) ⟨(upd o 28 (nI s)), J1, _, rfl, rfl, fun j a => upd_ne _ _ a⟩
      · iterate 1 (refine zv_step (bX7_place 124) rfl rfl trivial ?_)
        exact zv_lret (bX7_place 124) rfl rfl (Nat.zero_le _) (Nat.zero_le _) ⟨(upd o 28 (nI s)), J1, _, rfl, rfl, fun j a => upd_ne _ _ a⟩
    · skip
      iterate 1 (refine zv_step (bX7_place 124) rfl rfl trivial ?_)
      refine zv_iff (by decide) ?_
      iterate 1 (refine zv_step (bX7_place 124) rfl rfl trivial ?_)
      exact zv_lret (bX7_place 124) rfl rfl (Nat.zero_le _) (Nat.zero_le _) ⟨o, J, _, rfl, rfl, fun _ _ => rfl⟩
  · skip
    iterate 1 (refine zv_step (bX7_place 124) rfl rfl trivial ?_)
    refine zv_ift (by decide) ?_
    iterate 1 (refine zv_step (bX7_place 124) rfl rfl trivial ?_)
    exact zv_lret (bX7_place 124) rfl rfl (Nat.zero_le _) (Nat.zero_le _) ⟨o, J, _, rfl, rfl, fun _ _ => rfl⟩
end
section
/-- the sum of g over a span -/
def sm (g : Nat → Nat) : Nat → Nat → Nat
  | 0, _ => 0
  | c + 1, i => g i + sm g c (i + 1)
theorem sm_add (g : Nat → Nat) : ∀ (a b i : Nat), sm g (a + b) i = sm g a i + sm g b (i + a)
  | 0, b, i => by rw [Nat.zero_add, Nat.add_zero]; exact (Nat.zero_add _).symm
  | a + 1, b, i => by
    rw [show a + 1 + b = (a + b) + 1 by omega]
    show g i + sm g (a + b) (i + 1) = g i + sm g a (i + 1) + sm g b (i + (a + 1))
    rw [sm_add g a b (i + 1), show i + 1 + a = i + (a + 1) by omega]
    omega
def spn (g : Nat → Nat) (i j : Nat) : Nat := sm g (j - i) i
theorem spn_split (g : Nat → Nat) {i m j : Nat} (h1 : i ≤ m) (h2 : m ≤ j) : spn g i j = spn g i m + spn g m j := by
  unfold spn
  rw [show j - i = (m - i) + (j - m) by omega, sm_add, show i + (m - i) = m by omega]
theorem spn_one (g : Nat → Nat) (i : Nat) : spn g i (i + 1) = g i := by
  unfold spn
  rw [show i + 1 - i = 1 by omega]
  rfl
theorem spn_cons (g : Nat → Nat) {i j : Nat} (h : i < j) : spn g i j = g i + spn g (i + 1) j := by
  rw [spn_split g (show i ≤ i + 1 by omega) (show i + 1 ≤ j by omega), spn_one]
theorem spn_snoc (g : Nat → Nat) {i j : Nat} (h : i < j) : spn g i j = spn g i (j - 1) + g (j - 1) := by
  rw [spn_split g (show i ≤ j - 1 by omega) (show j - 1 ≤ j by omega)]
  congr 1
  have := spn_one g (j - 1)
  rwa [show j - 1 + 1 = j by omega] at this
theorem sm_c (g : Nat → Nat) {c : Nat} : ∀ (n i : Nat), (∀ x, i ≤ x → x < i + n → g x = c) → sm g n i = c * n
  | 0, _, _ => rfl
  | n + 1, i, h => by
    show g i + sm g n (i + 1) = c * (n + 1)
    rw [h i (Nat.le_refl _) (by omega), sm_c g n (i + 1) (fun x h1 h2 => h x (by omega) (by omega)), Nat.mul_succ]
    omega
theorem spn_c (g : Nat → Nat) {c i j : Nat} (h : ∀ x, i ≤ x → x < j → g x = c) (hij : i ≤ j) : spn g i j = c * (j - i) := sm_c g _ _ (fun x h1 h2 => h x h1 (by omega))
def gB (E : Nat → Nat) (x : Nat) : Nat := if E x = 29 then 1 else 0
def gC (E : Nat → Nat) (x : Nat) : Nat := if E x = 30 then 1 else 0
def gO (E : Nat → Nat) (x : Nat) : Nat := if E x = 29 ∨ E x = 30 then 0 else 1
theorem g_o {E : Nat → Nat} {x : Nat} (h : E x ≤ 28) : gB E x = 0 ∧ gC E x = 0 ∧ gO E x = 1 := ⟨if_neg (by omega), if_neg (by omega), if_neg (by omega)⟩
theorem g_b {E : Nat → Nat} {x : Nat} (h : E x = 29) : gB E x = 1 ∧ gC E x = 0 ∧ gO E x = 0 := ⟨if_pos h, if_neg (by omega), if_pos (Or.inl h)⟩
theorem g_c {E : Nat → Nat} {x : Nat} (h : E x = 30) : gB E x = 0 ∧ gC E x = 1 ∧ gO E x = 0 := ⟨if_neg (by omega), if_pos h, if_pos (Or.inr h)⟩
/-- a tree's words, begin and end left aside -/
noncomputable def bwW (A : Nat → Nat → Int32) : Nat → Int32 → Nat
  | 0, _ => 0
  | z + 1, x => if x < 0 then 0 else ownW A x.toNatClampNeg + bwW A z (A 2 x.toNatClampNeg) + bwW A z (A 3 x.toNatClampNeg)
theorem bwW_m2 (A : Nat → Nat → Int32) (z : Nat) : bwW A z m2 = 0 := by
  cases z with
  | zero => rfl
  | succ z => exact if_pos (by decide)
theorem bwW_nI {A : Nat → Nat → Int32} {z n : Nat} (hn : n < 450) : bwW A (z + 1) (nI n) = ownW A n + bwW A z (A 2 n) + bwW A z (A 3 n) := by
  show (if nI n < 0 then 0 else _) = _
  rw [if_neg (nI_pos (by omega)), nI_clamp (by omega)]
theorem bwW_alk {A : Nat → Nat → Int32} : ∀ (z f : Nat) (a b : Int32), alk A z a b → bwW A f a = bwW A f b := by
  intro z
  induction z with
  | zero =>
    rintro f a b ⟨rfl, rfl⟩
    rfl
  | succ z ih =>
    intro f a b h
    rcases h with ⟨rfl, rfl⟩ | ⟨i, j, hi, hj, rfl, rfl, e0, e1, e4, p2, p3⟩
    · rfl
    · cases f with
      | zero => rfl
      | succ f =>
        rw [bwW_nI hi, bwW_nI hj, ih f _ _ p2, ih f _ _ p3]
        unfold ownW
        rw [e0, e1]
theorem bal_o {E : Nat → Nat} {i j : Nat} (h : ∀ x, i ≤ x → x < j → E x ≤ 28) (hij : i ≤ j) : spn (gB E) i j = 0 ∧ spn (gC E) i j = 0 ∧ spn (gO E) i j = j - i := by
  refine ⟨?_, ?_, ?_⟩
  · rw [spn_c (gB E) (c := 0) (fun x h1 h2 => (g_o (h x h1 h2)).1) hij, Nat.zero_mul]
  · rw [spn_c (gC E) (c := 0) (fun x h1 h2 => (g_o (h x h1 h2)).2.1) hij, Nat.zero_mul]
  · rw [spn_c (gO E) (c := 1) (fun x h1 h2 => (g_o (h x h1 h2)).2.2) hij, Nat.one_mul]
theorem Rk_7 {E : Nat → Nat} {L : Nat → Nat → Nat} {A : Nat → Nat → Int32} {R : Nat → Nat → Nat → Nat → Prop} {k a b q n : Nat} (h : Rk E L A R k a b q n) (e : k = 7) : ∃ x, 400 ≤ x ∧ x < n ∧ A 2 n = nI x ∧ A 3 n = m2 ∧ R (a + 1) b q x := by
  rcases h with ⟨h, _⟩ | ⟨h, _⟩ | ⟨h, r⟩ | ⟨h, r⟩ | ⟨h, r⟩ | ⟨h, h6, _⟩ <;> first | exact r | omega
theorem Rk_8 {E : Nat → Nat} {L : Nat → Nat → Nat} {A : Nat → Nat → Int32} {R : Nat → Nat → Nat → Nat → Prop} {k a b q n : Nat} (h : Rk E L A R k a b q n) (e : k = 8) : ∃ x, 400 ≤ x ∧ x < n ∧ A 2 n = nI x ∧ A 3 n = m2 ∧ R (a + 1) (b - 1) q x := by
  rcases h with ⟨h, _⟩ | ⟨h, _⟩ | ⟨h, r⟩ | ⟨h, r⟩ | ⟨h, r⟩ | ⟨h, h6, _⟩ <;> first | exact r | omega
theorem Rk_9 {E : Nat → Nat} {L : Nat → Nat → Nat} {A : Nat → Nat → Int32} {R : Nat → Nat → Nat → Nat → Prop} {k a b q n : Nat} (h : Rk E L A R k a b q n) (e : k = 9) : ∃ x, 400 ≤ x ∧ x < n ∧ A 2 n = nI x ∧ A 3 n = m2 ∧ R (a + 2) b q x := by
  rcases h with ⟨h, _⟩ | ⟨h, _⟩ | ⟨h, r⟩ | ⟨h, r⟩ | ⟨h, r⟩ | ⟨h, h6, _⟩ <;> first | exact r | omega
theorem Rk_0 {E : Nat → Nat} {L : Nat → Nat → Nat} {A : Nat → Nat → Int32} {R : Nat → Nat → Nat → Nat → Prop} {k a b q n : Nat} (h : Rk E L A R k a b q n) (e : k < 2) : A 2 n = m2 ∧ A 3 n = m2 ∧ (k = 1 → dgN (A 1 n) = b - a) := by
  rcases h with ⟨h, h2, h3⟩ | ⟨h, h2, h3, h4⟩ | ⟨h, r⟩ | ⟨h, r⟩ | ⟨h, r⟩ | ⟨h, h6, _⟩
  · exact ⟨h2, h3, fun e => absurd e (by omega)⟩
  · exact ⟨h2, h3, fun _ => h4⟩
  · omega
  · omega
  · omega
  · omega
theorem Rk_P {E : Nat → Nat} {L : Nat → Nat → Nat} {A : Nat → Nat → Int32} {R : Nat → Nat → Nat → Nat → Prop} {k a b q n : Nat} (h : Rk E L A R k a b q n) (k2 : 2 ≤ k) (k6 : k ≤ 6) : ∃ c r x y, a + 1 + c + 1 < b ∧ E (a + 1 + c) = 18 + k ∧ q = pfS E L k a b c + r ∧ r < tmW (L a (a + 1 + c)) (L (a + 1 + c + 1) b) ∧ 400 ≤ x ∧ x < n ∧ 400 ≤ y ∧ y < n ∧ A 2 n = nI x ∧ A 3 n = nI y ∧ R a (a + 1 + c) (r / L (a + 1 + c + 1) b) x ∧ R (a + 1 + c + 1) b (r % L (a + 1 + c + 1) b) y := by
  rcases h with ⟨h, _⟩ | ⟨h, _⟩ | ⟨h, _⟩ | ⟨h, _⟩ | ⟨h, _⟩ | ⟨_, _, r⟩
  · omega
  · omega
  · omega
  · omega
  · omega
  · exact r
/-- what wi says of its ends -/
theorem wi_pos {E : Nat → Nat} {G : Nat → Int32} {L : Nat → Nat → Nat} {k a b q : Nat} (h : q < wi E G L k a b) : a < b ∧ (k = 0 → b - a = 1 ∧ E a < 10 ∧ q = 0) ∧ (k = 1 → isNumB E a b = true ∧ q = 0) ∧ (k = 7 → E a = 25 ∧ 1 < b - a) ∧ (k = 8 → E a = 26 ∧ E (b - 1) = 27 ∧ 2 < b - a) ∧ (k = 9 → E a < 10 ∧ 2 < b - a ∧ E (a + 1) = 28) := by
  have hab : a < b := by
    rcases Nat.lt_or_ge a b with e | e
    · exact e
    · rw [wi_n e] at h
      omega
  refine ⟨hab, ?_, ?_, ?_, ?_, ?_⟩
  · rintro rfl
    rw [wi_0 hab] at h
    split at h
    · rename_i e; exact ⟨e.1, e.2.1, by omega⟩
    · omega
  · rintro rfl
    rw [wi_1 hab] at h
    split at h
    · rename_i e; exact ⟨e, by omega⟩
    · omega
  · rintro rfl
    rw [wi_7 hab] at h
    split at h
    · assumption
    · omega
  · rintro rfl
    rw [wi_8 hab] at h
    split at h
    · assumption
    · omega
  · rintro rfl
    rw [wi_9 hab] at h
    split at h
    · rename_i e; exact ⟨e.1, e.2.2.1, e.2.2.2⟩
    · omega
/-- begin and end balance in a READING, and its other words are its tree's -/
theorem Rd_cnt {A0 : Nat → Nat → Int32} {s : Nat} {J : Nat → Nat → Int64} {A : Nat → Nat → Int32} : ∀ (f i j p n : Nat), n < 450 → Rd (eW A0) (mW A0 s (lW J)) (lW J) A f i j p n → spn (gB (eW A0)) i j = spn (gC (eW A0)) i j ∧ spn (gO (eW A0)) i j = bwW A f (nI n) := by
  intro f
  induction f with
  | zero => exact fun i j p n _ h => h.elim
  | succ f ih =>
    rintro i j p n hn ⟨c, q, hc, hp, hq, h0, hk⟩
    obtain ⟨hw, hbr⟩ := mW_pos hq
    generalize ha : i + c % 2 = a at hw hk
    generalize hb : j - c % 2 = b at hw hk
    generalize hk9 : c / 2 = k at hw hk h0
    have hk10 : k < 10 := by omega
    obtain ⟨hab, w0, w1, w7, w8, w9⟩ := wi_pos hw
    have hown := ownW_c k h0
    have core : spn (gB (eW A0)) a b = spn (gC (eW A0)) a b ∧ spn (gO (eW A0)) a b = bwW A (f + 1) (nI n) := by
      rw [bwW_nI hn]
      rcases (show k = 0 ∨ k = 1 ∨ (2 ≤ k ∧ k ≤ 6) ∨ k = 7 ∨ k = 8 ∨ k = 9 by omega) with e | e | ⟨k2, k6⟩ | e | e | e
      · obtain ⟨h2, h3, _⟩ := Rk_0 hk (by clear hown w0 w1 w7 w8 w9; omega)
        obtain ⟨d1, d2, _⟩ := w0 e
        replace hown := hown.1 e
        clear w0 w1 w7 w8 w9
        obtain ⟨b1, b2, b3⟩ := bal_o (E := eW A0) (i := a) (j := b) (fun x h1 h2 => by rw [show x = a by omega]; omega) (by omega)
        rw [h2, h3, bwW_m2, hown]
        omega
      · obtain ⟨h2, h3, h4⟩ := Rk_0 hk (by clear hown w0 w1 w7 w8 w9; omega)
        replace h4 := h4 e
        have hd := isNumB_at (w1 e).1
        replace hown := hown.2.1 e
        clear w0 w1 w7 w8 w9
        obtain ⟨b1, b2, b3⟩ := bal_o (E := eW A0) (i := a) (j := b) (fun x h1 h2 => by have := hd.2.2 x h1 h2; omega) (by omega)
        rw [h2, h3, bwW_m2, hown, h4]
        omega
      · obtain ⟨m, r, x, y, hm, hE, _, _, x1, x2, y1, y2, h2, h3, rx, ry⟩ := Rk_P hk k2 k6
        clear hown w0 w1 w7 w8 w9
        obtain ⟨i1, i2⟩ := ih _ _ _ x (by omega) rx
        obtain ⟨j1, j2⟩ := ih _ _ _ y (by omega) ry
        obtain ⟨g1, g2, g3⟩ := g_o (E := eW A0) (x := a + 1 + m) (by omega)
        rw [h2, h3, ownW_2 k2 k6 h0, spn_split (gB (eW A0)) (show a ≤ a + 1 + m by omega) (show a + 1 + m ≤ b by omega), spn_split (gC (eW A0)) (show a ≤ a + 1 + m by omega) (show a + 1 + m ≤ b by omega), spn_split (gO (eW A0)) (show a ≤ a + 1 + m by omega) (show a + 1 + m ≤ b by omega), spn_cons (gB (eW A0)) (show a + 1 + m < b by omega), spn_cons (gC (eW A0)) (show a + 1 + m < b by omega), spn_cons (gO (eW A0)) (show a + 1 + m < b by omega)]
        omega
      · obtain ⟨x, x1, x2, h2, h3, rx⟩ := Rk_7 hk e
        have w79 := (w7 e).1
        replace hown := hown.2.2.1 e
        clear w0 w1 w7 w8 w9
        obtain ⟨i1, i2⟩ := ih _ _ _ x (by omega) rx
        obtain ⟨g1, g2, g3⟩ := g_o (E := eW A0) (x := a) (by omega)
        rw [h2, h3, bwW_m2, hown, spn_cons (gB (eW A0)) hab, spn_cons (gC (eW A0)) hab, spn_cons (gO (eW A0)) hab]
        omega
      · obtain ⟨x, x1, x2, h2, h3, rx⟩ := Rk_8 hk e
        obtain ⟨e1, e2, e3⟩ := w8 e
        replace hown := hown.2.2.2.1 e
        clear w0 w1 w7 w8 w9
        obtain ⟨i1, i2⟩ := ih _ _ _ x (by omega) rx
        obtain ⟨g1, g2, g3⟩ := g_o (E := eW A0) (x := a) (by omega)
        obtain ⟨g4, g5, g6⟩ := g_o (E := eW A0) (x := b - 1) (by omega)
        rw [h2, h3, bwW_m2, hown, spn_cons (gB (eW A0)) hab, spn_cons (gC (eW A0)) hab, spn_cons (gO (eW A0)) hab, spn_snoc (gB (eW A0)) (show a + 1 < b by omega), spn_snoc (gC (eW A0)) (show a + 1 < b by omega), spn_snoc (gO (eW A0)) (show a + 1 < b by omega)]
        omega
      · obtain ⟨x, x1, x2, h2, h3, rx⟩ := Rk_9 hk e
        obtain ⟨e1, e2, e3⟩ := w9 e
        replace hown := hown.2.2.2.2 e
        clear w0 w1 w7 w8 w9
        obtain ⟨i1, i2⟩ := ih _ _ _ x (by omega) rx
        obtain ⟨g1, g2, g3⟩ := g_o (E := eW A0) (x := a) (by omega)
        obtain ⟨g4, g5, g6⟩ := g_o (E := eW A0) (x := a + 1) (by omega)
        rw [h2, h3, bwW_m2, hown, spn_cons (gB (eW A0)) hab, spn_cons (gC (eW A0)) hab, spn_cons (gO (eW A0)) hab, spn_cons (gB (eW A0)) (show a + 1 < b by omega), spn_cons (gC (eW A0)) (show a + 1 < b by omega), spn_cons (gO (eW A0)) (show a + 1 < b by omega)]
        rw [show a + 1 + 1 = a + 2 by omega]
        omega
    clear hown w0 w1 w7 w8 w9
    rcases (show c % 2 = 0 ∨ c % 2 = 1 by omega) with e | e
    · rw [e] at ha hb
      obtain rfl : i = a := by omega
      obtain rfl : j = b := by omega
      exact core
    · rw [e] at ha hb
      obtain ⟨e1, e2⟩ := hbr.resolve_left (by omega)
      obtain ⟨g1, g2, g3⟩ := g_b e1
      obtain ⟨g4, g5, g6⟩ := g_c e2
      rw [spn_cons (gB (eW A0)) (show i < j by omega), spn_cons (gC (eW A0)) (show i < j by omega), spn_cons (gO (eW A0)) (show i < j by omega), spn_snoc (gB (eW A0)) (show i + 1 < j by omega), spn_snoc (gC (eW A0)) (show i + 1 < j by omega), spn_snoc (gO (eW A0)) (show i + 1 < j by omega), ha, hb]
      rw [hb] at g4 g5 g6
      omega
/-- where one of two equal counts ends at a word, so does the other -/
theorem cut_eq {E : Nat → Nat} {i m m' : Nat} (h1 : i ≤ m) (h2 : i ≤ m') (e : spn (gO E) i m = spn (gO E) i m') (g : E m ≤ 28) (g' : E m' ≤ 28) : m = m' := by
  rcases Nat.lt_trichotomy m m' with h | h | h
  · have := spn_split (gO E) h1 (show m ≤ m' by omega)
    have := spn_cons (gO E) h
    have := (g_o g).2.2
    omega
  · exact h
  · have := spn_split (gO E) h2 (show m' ≤ m by omega)
    have := spn_cons (gO E) h
    have := (g_o g').2.2
    omega
/-- alike trees are the same READING -/
theorem Rd_inj {A0 : Nat → Nat → Int32} {s : Nat} {J : Nat → Nat → Int64} {A : Nat → Nat → Int32} : ∀ (f i j p p' n n' z : Nat), n < 450 → n' < 450 → Rd (eW A0) (mW A0 s (lW J)) (lW J) A f i j p n → Rd (eW A0) (mW A0 s (lW J)) (lW J) A f i j p' n' → alk A z (nI n) (nI n') → p = p' := by
  intro f
  induction f with
  | zero => exact fun i j p p' n n' z _ _ h => h.elim
  | succ f ih =>
    rintro i j p p' n n' z hn hn' ⟨c, q, hc, hp, hq, h0, hk⟩ ⟨c', q', hc', hp', hq', h0', hk'⟩ hal
    cases z with
    | zero => exact absurd hal.1.symm (m2_nI hn)
    | succ z =>
      obtain ⟨a0, a1, a4, al2, al3⟩ := (alk_nn hn hn').mp hal
      have ek : c / 2 = c' / 2 := (nI_eq (by omega) (by omega)).mp (h0.symm.trans (a0.trans h0'))
      obtain ⟨hw, hbr⟩ := mW_pos hq
      obtain ⟨hw', hbr'⟩ := mW_pos hq'
      suffices hs : c % 2 = c' % 2 ∧ q = q' by
        have : c = c' := by omega
        subst this
        omega
      rw [← ek] at hw' hk'
      generalize hk9 : c / 2 = k at hw hk hw' hk'
      have hk10 : k < 10 := by omega
      obtain ⟨hab, w0, w1, w7, w8, w9⟩ := wi_pos hw
      obtain ⟨hab', w0', w1', w7', w8', w9'⟩ := wi_pos hw'
      have par : ¬ (2 ≤ k ∧ k ≤ 6) → c % 2 = c' % 2 := by
        intro hnp
        have e1 : c % 2 = 0 → eW A0 i ≠ 29 := fun e => by
          rw [e] at w0 w1 w7 w8 w9
          rcases (show k = 0 ∨ k = 1 ∨ k = 7 ∨ k = 8 ∨ k = 9 by omega) with h | h | h | h | h
          · have := (w0 h).2.1; rw [Nat.add_zero] at this; omega
          · rw [e] at hab
            have := (isNumB_at (w1 h).1).2.2 (i + 0) (Nat.le_refl _) hab; rw [Nat.add_zero] at this; omega
          · have := (w7 h).1; rw [Nat.add_zero] at this; omega
          · have := (w8 h).1; rw [Nat.add_zero] at this; omega
          · have := (w9 h).1; rw [Nat.add_zero] at this; omega
        have e2 : c' % 2 = 0 → eW A0 i ≠ 29 := fun e => by
          rw [e] at w0' w1' w7' w8' w9'
          rcases (show k = 0 ∨ k = 1 ∨ k = 7 ∨ k = 8 ∨ k = 9 by omega) with h | h | h | h | h
          · have := (w0' h).2.1; rw [Nat.add_zero] at this; omega
          · rw [e] at hab'
            have := (isNumB_at (w1' h).1).2.2 (i + 0) (Nat.le_refl _) hab'; rw [Nat.add_zero] at this; omega
          · have := (w7' h).1; rw [Nat.add_zero] at this; omega
          · have := (w8' h).1; rw [Nat.add_zero] at this; omega
          · have := (w9' h).1; rw [Nat.add_zero] at this; omega
        rcases (show c % 2 = 0 ∨ c % 2 = 1 by omega) with h | h <;> rcases (show c' % 2 = 0 ∨ c' % 2 = 1 by omega) with h' | h'
        · omega
        · exact absurd (hbr'.resolve_left (by omega)).1 (e1 h)
        · exact absurd (hbr.resolve_left (by omega)).1 (e2 h')
        · omega
      rcases (show k = 0 ∨ k = 1 ∨ (2 ≤ k ∧ k ≤ 6) ∨ k = 7 ∨ k = 8 ∨ k = 9 by omega) with e | e | ⟨k2, k6⟩ | e | e | e
      · exact ⟨par (by omega), by have := (w0 e).2.2; have := (w0' e).2.2; omega⟩
      · exact ⟨par (by omega), by have := (w1 e).2; have := (w1' e).2; omega⟩
      · obtain ⟨m, r, x, y, hm, hE, hqr, hr, x1, x2, y1, y2, h2, h3, rx, ry⟩ := Rk_P hk k2 k6
        obtain ⟨m', r', x', y', hm', hE', hqr', hr', x1', x2', y1', y2', h2', h3', rx', ry'⟩ := Rk_P hk' k2 k6
        rw [h2, h2'] at al2
        rw [h3, h3'] at al3
        obtain ⟨i1, i2⟩ := Rd_cnt f _ _ _ x (by omega) rx
        obtain ⟨i1', i2'⟩ := Rd_cnt f _ _ _ x' (by omega) rx'
        have eb := bwW_alk z f _ _ al2
        have pe : c % 2 = c' % 2 := by
          rcases (show c % 2 = 0 ∨ c % 2 = 1 by omega) with h | h <;> rcases (show c' % 2 = 0 ∨ c' % 2 = 1 by omega) with h' | h'
          · omega
          · exfalso
            rw [h] at i1 i2 hE
            rw [h'] at i1' i2' hE'
            rw [Nat.add_zero] at i1 i2 hE
            obtain ⟨g1, g2, g3⟩ := g_b (hbr'.resolve_left (by omega)).1
            have s1 := spn_cons (gO (eW A0)) (show i < i + 1 + 1 + m' by omega)
            have s2 := spn_cons (gB (eW A0)) (show i < i + 1 + 1 + m' by omega)
            have s3 := spn_cons (gC (eW A0)) (show i < i + 1 + 1 + m' by omega)
            have em := cut_eq (E := eW A0) (i := i) (m := i + 1 + m) (m' := i + 1 + 1 + m') (by omega) (by omega) (by omega) (by omega) (by omega)
            rw [em] at i1
            omega
          · exfalso
            rw [h] at i1 i2 hE
            rw [h'] at i1' i2' hE'
            rw [Nat.add_zero] at i1' i2' hE'
            obtain ⟨g1, g2, g3⟩ := g_b (hbr.resolve_left (by omega)).1
            have s1 := spn_cons (gO (eW A0)) (show i < i + 1 + 1 + m by omega)
            have s2 := spn_cons (gB (eW A0)) (show i < i + 1 + 1 + m by omega)
            have s3 := spn_cons (gC (eW A0)) (show i < i + 1 + 1 + m by omega)
            have em := cut_eq (E := eW A0) (i := i) (m := i + 1 + m') (m' := i + 1 + 1 + m) (by omega) (by omega) (by omega) (by omega) (by omega)
            rw [em] at i1'
            omega
          · omega
        refine ⟨pe, ?_⟩
        rw [← pe] at rx' ry' hE' hm' hqr' hr' i2'
        have em := cut_eq (E := eW A0) (i := i + c % 2) (m := i + c % 2 + 1 + m) (m' := i + c % 2 + 1 + m') (by omega) (by omega) (by omega) (by omega) (by omega)
        obtain rfl : m = m' := by omega
        have f1 := ih _ _ _ _ x x' z (by omega) (by omega) rx rx' al2
        have f2 := ih _ _ _ _ y y' z (by omega) (by omega) ry ry' al3
        have d1 := Nat.div_add_mod r (lW J (i + c % 2 + 1 + m + 1) (j - c % 2))
        have d2 := Nat.div_add_mod r' (lW J (i + c % 2 + 1 + m + 1) (j - c % 2))
        rw [f1, f2] at d1
        omega
      · have pe := par (by omega)
        rw [← pe] at hk'
        obtain ⟨x, x1, x2, h2, h3, rx⟩ := Rk_7 hk e
        obtain ⟨x', x1', x2', h2', h3', rx'⟩ := Rk_7 hk' e
        rw [h2, h2'] at al2
        exact ⟨pe, ih _ _ _ _ x x' z (by omega) (by omega) rx rx' al2⟩
      · have pe := par (by omega)
        rw [← pe] at hk'
        obtain ⟨x, x1, x2, h2, h3, rx⟩ := Rk_8 hk e
        obtain ⟨x', x1', x2', h2', h3', rx'⟩ := Rk_8 hk' e
        rw [h2, h2'] at al2
        exact ⟨pe, ih _ _ _ _ x x' z (by omega) (by omega) rx rx' al2⟩
      · have pe := par (by omega)
        rw [← pe] at hk'
        obtain ⟨x, x1, x2, h2, h3, rx⟩ := Rk_9 hk e
        obtain ⟨x', x1', x2', h2', h3', rx'⟩ := Rk_9 hk' e
        rw [h2, h2'] at al2
        exact ⟨pe, ih _ _ _ _ x x' z (by omega) (by omega) rx rx' al2⟩
/-- the tables are what they are -/
theorem okJ_u {h : Nat} {A : Nat → Nat → Int32} {s : Nat} {J J' : Nat → Nat → Int64} (hJ : okJ h A s J) (hJ' : okJ h A s J') : ∀ (d i j : Nat), i < j → j ≤ h → j - i ≤ d → lW J i j = lW J' i j := by
  intro d
  induction d with
  | zero => exact fun i j h1 _ h3 => absurd h3 (by omega)
  | succ d ih =>
    intro i j h1 h2 h3
    rw [(okS_l (hJ i j h1 h2)).1, (okS_l (hJ' i j h1 h2)).1]
    exact csW_cg 20 (fun c _ => mW_cg (fun a b a1 a2 a3 a4 => ih a b a2 (by omega) (by omega)))
theorem ctW_u {h : Nat} {A : Nat → Nat → Int32} {s : Nat} {J J' : Nat → Nat → Int64} (hJ : okJ h A s J) (hJ' : okJ h A s J') : ctW h J = ctW h J' := by
  unfold ctW
  split
  · rfl
  · exact okJ_u hJ hJ' h 0 h (by omega) (Nat.le_refl _) (by omega)
end
section
theorem alk_sz {lo hi : Nat} {A : Nat → Nat → Int32} (hh : hi ≤ 450) {z a b : Nat} (ha : a < hi) (hb : b < hi) (h : alk A z (nI a) (nI b)) : szN A a = szN A b := by
  cases z with
  | zero => exact absurd h.1.symm (m2_nI (by omega))
  | succ z =>
    have := ((alk_nn (show a < 450 by omega) (show b < 450 by omega)).mp h).2.2.1
    unfold szN
    rw [this]
/-- two unlike NODES of one KIND and v: the first PARTS are unlike, or the second ones -/
theorem dn_un {lo hi : Nat} {A : Nat → Nat → Int32} (hh : hi ≤ 450) (hT : tbI lo hi A) {z n m : Nat} (hlo : lo ≤ n) (hn : n < hi) (hlo2 : lo ≤ m) (hm : m < hi) (hz : szN A n ≤ z + 1) (hu : ¬ alk A (z + 1) (nI n) (nI m)) (e0 : A 0 n = A 0 m) (e1 : A 1 n = A 1 m) : (¬ alk A z (A 2 n) (A 2 m) → ∃ a b : Nat, A 2 n = nI a ∧ A 2 m = nI b ∧ lo ≤ a ∧ a < hi ∧ lo ≤ b ∧ b < hi ∧ szN A a ≤ z ∧ ¬ alk A z (nI a) (nI b)) ∧ (alk A z (A 2 n) (A 2 m) → ∃ a b : Nat, A 3 n = nI a ∧ A 3 m = nI b ∧ lo ≤ a ∧ a < hi ∧ lo ≤ b ∧ b < hi ∧ szN A a ≤ z ∧ ¬ alk A z (nI a) (nI b)) := by
  obtain ⟨s2, s3⟩ := rN_same (hT n hlo hn) (hT m hlo2 hm) e0
  constructor
  · intro h
    rcases s2 with ⟨p, q⟩ | ⟨a, b, p, q, la, ha, lb, hb, hs⟩
    · rw [p, q] at h
      exact absurd (alk_mm A z) h
    · rw [p, q] at h
      exact ⟨a, b, p, q, la, by omega, lb, by omega, by omega, h⟩
  · intro h
    have h3 : ¬ alk A z (A 3 n) (A 3 m) := by
      intro h3
      refine hu ((alk_nn (by omega) (by omega)).mpr ⟨e0, e1, ?_, h, h3⟩)
      have hs : szN A n = szN A m := by
        have v1 := rN_sum (hT n hlo hn)
        have v2 := rN_sum (hT m hlo2 hm)
        rcases v1 with ⟨a1, a2, a3⟩ | ⟨x, a1, a2, lx, hx, a3⟩ | ⟨x, y, a1, a2, lx, hx, ly, hy, a3⟩ <;> rcases v2 with ⟨b1, b2, b3⟩ | ⟨x', b1, b2, lx', hx', b3⟩ | ⟨x', y', b1, b2, lx', hx', ly', hy', b3⟩
        · omega
        · rw [a1, b1] at h
          exact absurd h (alk_mn A z (by omega))
        · rw [a1, b1] at h
          exact absurd h (alk_mn A z (by omega))
        · rw [a1, b1] at h
          exact absurd h (alk_nm A z (by omega))
        · rw [a1, b1] at h
          have := alk_sz (lo := lo) hh (by omega) (by omega) h
          omega
        · rw [a2, b2] at h3
          exact absurd h3 (alk_mn A z (by omega))
        · rw [a1, b1] at h
          exact absurd h (alk_nm A z (by omega))
        · rw [a2, b2] at h3
          exact absurd h3 (alk_nm A z (by omega))
        · rw [a1, b1] at h
          rw [a2, b2] at h3
          have := alk_sz (lo := lo) hh (by omega) (by omega) h
          have := alk_sz (lo := lo) hh (by omega) (by omega) h3
          omega
      rw [(rN_sz (hT n hlo hn)).2.2, (rN_sz (hT m hlo2 hm)).2.2, hs]
    rcases s3 with ⟨p, q⟩ | ⟨a, b, p, q, la, ha, lb, hb, hs⟩
    · rw [p, q] at h3
      exact absurd (alk_mm A z) h3
    · rw [p, q] at h3
      exact ⟨a, b, p, q, la, by omega, lb, by omega, by omega, h3⟩
set_option maxHeartbeats 1000000 in
set_option maxRecDepth 20000 in
theorem dbtL (f : Nat → zC) (o : Nat → Int32) (A : Nat → Nat → Int32) (J : Nat → Nat → Int64) {lo hi : Nat} (hh : hi ≤ 450) (hT : tbI lo hi A) {x : Int32} {z1 z2 : Int64} {n0 : Nat} {Q : Option Value → zW → Prop} (hQ : ∀ v : Int32, Q (some (.int v)) (wR f o A J)) : ∀ (z n m : Nat), z ≤ 50 → lo ≤ n → n < hi → lo ≤ m → m < hi → szN A n ≤ z → ¬ alk A z (nI n) (nI m) → ∀ {st t : Int32}, zV (zMo 60 zX7_doubt) false n0 0 0 107 [(9, .int st), (8, .int t), (7, .int (nI m)), (6, .int (nI n)), (0, .ref 76), (1, .int x), (2, .long z1), (4, .long z2)] [] (wR f o A J) Q := by
  intro z
  induction z with
  | zero =>
    intro n m _ hlo hn _ _ hz
    have := (rN_sz (hT n hlo hn)).1
    omega
  | succ z ih0 =>
    intro n m hz50 hlo hn hlo2 hm hz hu st t
    have ih := fun n m => ih0 n m (by omega)
    iterate 3 (refine zv_step (bX7_doubt 60) rfl rfl trivial ?_)
    refine zv_iale (bX7_doubt 60) rfl rfl (vp_in_nI (by omega) (by decide)) (show A 0 (nI n).toNatClampNeg = A 0 n by rw [nI_clamp (by omega)]) ?_
    iterate 3 (refine zv_step (bX7_doubt 60) rfl rfl trivial ?_)
    refine zv_iale (bX7_doubt 60) rfl rfl (vp_in_nI (by omega) (by decide)) (show A 0 (nI m).toNatClampNeg = A 0 m by rw [nI_clamp (by omega)]) ?_
    iterate 1 (refine zv_step (bX7_doubt 60) rfl rfl trivial ?_)
    refine zv_ifb (fun h121 => ?_) (fun h121 => ?_)
    · iterate 1 (refine zv_step (bX7_doubt 60) rfl rfl trivial ?_)
      exact zv_iret (bX7_doubt 60) rfl (Or.inl rfl) (Nat.zero_le _) (Nat.zero_le _) (hQ _)
    · iterate 3 (refine zv_step (bX7_doubt 60) rfl rfl trivial ?_)
      refine zv_iale (bX7_doubt 60) rfl rfl (vp_in_nI (by omega) (by decide)) (show A 1 (nI n).toNatClampNeg = A 1 n by rw [nI_clamp (by omega)]) ?_
      iterate 3 (refine zv_step (bX7_doubt 60) rfl rfl trivial ?_)
      refine zv_iale (bX7_doubt 60) rfl rfl (vp_in_nI (by omega) (by decide)) (show A 1 (nI m).toNatClampNeg = A 1 m by rw [nI_clamp (by omega)]) ?_
      iterate 1 (refine zv_step (bX7_doubt 60) rfl rfl trivial ?_)
      refine zv_ifb (fun h138 => ?_) (fun h138 => ?_)
      · iterate 1 (refine zv_step (bX7_doubt 60) rfl rfl trivial ?_)
        exact zv_iret (bX7_doubt 60) rfl (Or.inl rfl) (Nat.zero_le _) (Nat.zero_le _) (hQ _)
      · obtain ⟨d1, d2⟩ := dn_un hh hT hlo hn hlo2 hm hz hu (Decidable.not_not.mp h121) (Decidable.not_not.mp h138)
        obtain ⟨hp2, hp3⟩ := rN_parts hT hlo hn hz
        obtain ⟨hq2, hq3⟩ := rN_parts (z := 40) hT hlo2 hm (by have := (rN_sz (hT m hlo2 hm)).2.1; omega)
        iterate 4 (refine zv_step (bX7_doubt 60) rfl rfl trivial ?_)
        refine zv_iale (bX7_doubt 60) rfl rfl (vp_in_nI (by omega) (by decide)) (show A 2 (nI n).toNatClampNeg = A 2 n by rw [nI_clamp (by omega)]) ?_
        iterate 3 (refine zv_step (bX7_doubt 60) rfl rfl trivial ?_)
        refine zv_iale (bX7_doubt 60) rfl rfl (vp_in_nI (by omega) (by decide)) (show A 2 (nI m).toNatClampNeg = A 2 m by rw [nI_clamp (by omega)]) ?_
        refine zv_V2 (bX7_doubt 60) rfl rfl rfl rfl rfl rfl rfl ⟨rfl, rfl, rfl⟩ ⟨by show z + 1 + 1 ≤ 60; omega, by show 8 + (3 + 11) + 64 * (z + 1) ≤ 64 * (60); omega⟩ ⟨Nat.zero_le _, Nat.zero_le _⟩ (mAlike f o A J hh hT z _ _ hp2 hq2) ?_
        rintro _ _ ⟨rfl, ⟨g1, rfl⟩ | ⟨g1, rfl⟩⟩
        · obtain ⟨a, b, ea, eb, la, ha, lb, hb, hsa, hab⟩ := d2 g1
          iterate 1 (refine zv_step (bX7_doubt 60) rfl rfl trivial ?_)
          refine zv_ift (by decide) ?_
          iterate 5 (refine zv_step (bX7_doubt 60) rfl rfl trivial ?_)
          refine zv_ift (by decide) ?_
          iterate 11 (refine zv_step (bX7_doubt 60) rfl rfl trivial ?_)
          refine zv_ift (by decide) ?_
          iterate 3 (refine zv_step (bX7_doubt 60) rfl rfl trivial ?_)
          refine zv_iale (bX7_doubt 60) rfl rfl (vp_in_nI (by omega) (by decide)) (show A 3 (nI n).toNatClampNeg = nI a by rw [nI_clamp (by omega)]; exact ea) ?_
          iterate 3 (refine zv_step (bX7_doubt 60) rfl rfl trivial ?_)
          refine zv_ift (by decide) ?_
          iterate 3 (refine zv_step (bX7_doubt 60) rfl rfl trivial ?_)
          refine zv_iale (bX7_doubt 60) rfl rfl (vp_in_nI (by omega) (by decide)) (show A 3 (nI m).toNatClampNeg = nI b by rw [nI_clamp (by omega)]; exact eb) ?_
          iterate 2 (refine zv_step (bX7_doubt 60) rfl rfl trivial ?_)
          refine zv_locals (l := [(7, .int (nI b)), (6, .int (nI a)), (9, .int (st * Int32.ofInt 3)), (8, .int (t + Int32.ofInt 2 * st)), (10, .int (Int32.ofInt 0)), (0, .ref 76), (1, .int x), (2, .long z1), (4, .long z2)]) (l' := [(9, .int (st * Int32.ofInt 3)), (8, .int (t + Int32.ofInt 2 * st)), (7, .int (nI b)), (6, .int (nI a)), (0, .ref 76), (1, .int x), (2, .long z1), (4, .long z2)]) ?_ (ih a b la ha lb hb hsa hab)
          simp
        · obtain ⟨a, b, ea, eb, la, ha, lb, hb, hsa, hab⟩ := d1 g1
          iterate 1 (refine zv_step (bX7_doubt 60) rfl rfl trivial ?_)
          refine zv_iff (by decide) ?_
          iterate 6 (refine zv_step (bX7_doubt 60) rfl rfl trivial ?_)
          refine zv_iff (by decide) ?_
          iterate 10 (refine zv_step (bX7_doubt 60) rfl rfl trivial ?_)
          refine zv_iff (by decide) ?_
          iterate 3 (refine zv_step (bX7_doubt 60) rfl rfl trivial ?_)
          refine zv_iale (bX7_doubt 60) rfl rfl (vp_in_nI (by omega) (by decide)) (show A 2 (nI n).toNatClampNeg = nI a by rw [nI_clamp (by omega)]; exact ea) ?_
          iterate 4 (refine zv_step (bX7_doubt 60) rfl rfl trivial ?_)
          refine zv_iff (by decide) ?_
          iterate 3 (refine zv_step (bX7_doubt 60) rfl rfl trivial ?_)
          refine zv_iale (bX7_doubt 60) rfl rfl (vp_in_nI (by omega) (by decide)) (show A 2 (nI m).toNatClampNeg = nI b by rw [nI_clamp (by omega)]; exact eb) ?_
          iterate 3 (refine zv_step (bX7_doubt 60) rfl rfl trivial ?_)
          refine zv_locals (l := [(7, .int (nI b)), (6, .int (nI a)), (9, .int (st * Int32.ofInt 3)), (8, .int (t + st)), (10, .int (Int32.ofInt 1)), (0, .ref 76), (1, .int x), (2, .long z1), (4, .long z2)]) (l' := [(9, .int (st * Int32.ofInt 3)), (8, .int (t + st)), (7, .int (nI b)), (6, .int (nI a)), (0, .ref 76), (1, .int x), (2, .long z1), (4, .long z2)]) ?_ (ih a b la ha lb hb hsa hab)
          simp
end
section
/-- fewest under way: the ear and what is said may have changed; the ear of before lies in row 15 -/
def fS (o0 : Nat → Int32) (A0 : Nat → Nat → Int32) (bf : Nat) (o : Nat → Int32) (A : Nat → Nat → Int32) : Prop := (∀ j, j ≠ 10 → ¬ (18 ≤ j ∧ j ≤ 21) → j ≠ 28 → o j = o0 j) ∧ (∀ r, r ≠ 8 → r ≠ 14 → r ≠ 15 → A r = A0 r) ∧ nnW bf (A 15) ∧ ∃ h : Nat, h ≤ 20 ∧ o 10 = nI h ∧ nnW h (A 8)
theorem fS_T {o0 o : Nat → Int32} {A0 A : Nat → Nat → Int32} {bf u : Nat} (h : fS o0 A0 bf o A) (hT : tbI 0 u A0) : tbI 0 u A := tbI_fr hT (fun r hr i _ _ => by rw [h.2.1 r (by omega) (by omega) (by omega)])
/-- what fewest changes -/
def fwX (o : Nat → Int32) (A : Nat → Nat → Int32) (o' : Nat → Int32) (A' : Nat → Nat → Int32) : Prop := (∃ h : Nat, h ≤ 20 ∧ o' 10 = nI h ∧ nnW h (A' 8)) ∧ (∀ j, j ≠ 10 → ¬ (18 ≤ j ∧ j ≤ 21) → j ≠ 28 → o' j = o j) ∧ (∀ r, r ≠ 8 → r ≠ 14 → r ≠ 15 → A' r = A r)
theorem fwX_S {o0 o : Nat → Int32} {A0 A : Nat → Nat → Int32} {bf : Nat} (h : fS o0 A0 bf o A) : fwX o0 A0 o A := ⟨h.2.2.2, h.1, h.2.1⟩
end
section
/-! methods that throw, and helpers that catch -/
theorem zTh.warm {A : Nat → Prop} {U V : State} {H : Heap} (hW : U.WarmedH V.vm) (h : zTh A U H) : zTh A V H := by
  obtain ⟨h1, h2, ⟨a1, h3⟩, ⟨a2, h4⟩, ⟨a3, h5⟩, ⟨a4, h6⟩, ⟨a5, h7⟩, h8, h9, h10⟩ := h
  exact ⟨vx_Zq.moved hW.alike h1, vx_Zq.moved hW.alike h2, ⟨a1, vk_R.warm hW h3⟩, ⟨a2, vk_R.warm hW h4⟩, ⟨a3, vk_R.warm hW h5⟩, ⟨a4, vk_R.warm hW h6⟩, ⟨a5, vk_R.warm hW h7⟩, va_Nw.warmC hW h8, va_Nw.warmC hW h9, va_Nc.moved hW.alike h10⟩
theorem zTh.kept {A : Nat → Prop} {U : State} {H H1 : Heap} (h : zTh A U H) (hq : ∀ a : Nat, a < H.size → ¬ A a → H1[a]? = H[a]?) : zTh A U H1 := ⟨h.1.kept hq, h.2.1.kept hq, h.2.2⟩
theorem zTh.narrow {A B : Nat → Prop} {U : State} {H : Heap} (h : zTh A U H) (hAB : ∀ q, B q → A q) : zTh B U H := ⟨h.1.narrow hAB, h.2.1.narrow hAB, h.2.2⟩
/-- that the constructors of the exceptions' upper classes are declared there -/
def zds : List Cond := [.declares (Bundle.initS "java/lang/RuntimeException"), .declares (Bundle.initS "java/lang/Exception"), .declares (Bundle.initS "java/lang/Throwable")]
theorem zdecl {args : Array Value} {s : State} {x : MethodName} {bytes : ByteArray} {n : Nat} {ret : Option FieldType} (h1 : (Cond.instanceMethod x).before args s = true) (h2 : (Cond.code x bytes n ret).before args s = true) : (Cond.declares x).before args s = true := by
  obtain ⟨m, meth, hn, hm, hst, -⟩ := Cond.instanceMethod_spec h1
  obtain ⟨meth', c, k1, -, -, -, -, -, -, hsig⟩ := Cond.code_spec hn h2
  cases Option.some.inj (k1.symm.trans hm)
  show (Cond.declares x).holds args s none s [] = true
  simp only [Cond.holds, Cond.value, hn, Option.bind_some, hm, Option.map_some, hst, hsig]
  decide
set_option maxRecDepth 100000 in
theorem zds_ok {args : Array Value} {s : State} (hts : ∀ w ∈ zG, w.before args s = true) : ∀ x ∈ zds, x.before args s = true := by
  intro x hx
  unfold zds at hx
  simp only [List.mem_cons, List.not_mem_nil, or_false] at hx
  rcases hx with rfl | rfl | rfl
  · exact zdecl (hts _ (zmemT 731 rfl rfl)) (hts _ (zmemT 732 (x := .code (Bundle.initS "java/lang/RuntimeException") prog_15_method_2_code 2 none) rfl rfl))
  · exact zdecl (hts _ (zmemT 734 rfl rfl)) (hts _ (zmemT 735 (x := .code (Bundle.initS "java/lang/Exception") prog_10_method_2_code 2 none) rfl rfl))
  · exact zdecl (hts _ (zmemT 737 rfl rfl)) (hts _ (zmemT 738 (x := .code (Bundle.initS "java/lang/Throwable") prog_18_method_2_code 2 none) rfl rfl))
def zrx (d : Nat) : Room := { frames := d, cells := 1, slots := 6, locals := 64 * d }
def zXC (dC : Nat → ClassId) (dI : Nat → Nat → Nat) (dA : Nat → ClassId) (ad : Nat → Nat) (A : Nat → Prop) (X : String → zW → Prop) : String → State → State → Prop := fun E st t =>
  (∃ w' : zW, X E w' ∧ va_P (dC, dI) vwCl (zw dA ad w') t.heap ∧ zKx dC dI dA t ∧ va_D A (zw dA ad w')) ∧ va_F A st t
def zAx (X : String → zW → Prop) (Q : Option Value → zW → Prop) (n1 : Nat) (_ : Program) (_ : Launch) (_ : Env) (s : State) (_ : MethodId) (args : Array Value) (below : List Frame) (meth : Method) (c : Code) (dC : Nat → ClassId) (dI : Nat → Nat → Nat) (dA : Nat → ClassId) (ad0 : Nat → Nat) (A : Nat → Prop) (Z : State → Prop) : Prop :=
  Z = vx_MQ below (zQc dC dI dA ad0 A n1 false Q) (zXC dC dI dA ad0 A X) args s 1 6 A ∧ zTh A s s.heap ∧ meth.locks = false ∧ ∀ x ∈ c.exceptionTable.toList, False
abbrev zMx (d : Nat) (z : zMt) (X : String → zW → Prop) (Q : Option Value → zW → Prop) (n1 : Nat) : zM := (z.1.cls, z.2.1, z.2.2.1, false, zrx d, z.2.2.2.1, zAx X Q n1)
def zPt (dC : Nat → ClassId) (dI : Nat → Nat → Nat) (dA : Nat → ClassId) (ad : Nat → Nat) (as : List Value) (w : zW) (sz : Nat) : Array Value → State → Prop := va_Pc (as.map (zv ad)) (fun U => U.heap.size = sz ∧ va_P (dC, dI) vwCl (zw dA ad w) U.heap ∧ zKx dC dI dA U ∧ va_D (fun _ => True) (zw dA ad w) ∧ zTh (va_A (zw dA ad w) sz) U U.heap)
theorem zblindT (dC : Nat → ClassId) (dI : Nat → Nat → Nat) (dA : Nat → ClassId) (ad : Nat → Nat) (as : List Value) (w : zW) (sz : Nat) : FrameBlind (zPt dC dI dA ad as w sz) := fun a U g mk q => by
  obtain ⟨q0, q1, qP, qK, qD, qT⟩ := q
  exact ⟨q0, q1, qP, zKx.moved (u := U) (U := U.calling g mk a) (Vm.Alike.refl U.vm) qK, qD, zTh.warm (U := U) (V := U.calling g mk a) (State.WarmedH.refl U) qT⟩
/-- a contract of a method that returns (Q) or throws (X) -/
def zKt (d : Nat) (z : zMt) (as : List Value) (w : zW) (Q : Option Value → zW → Prop) (X : String → zW → Prop) : Prop :=
  ∀ (l0 : Launch), l0.stackTraces = false → ∀ (dC : Nat → ClassId) (dI : Nat → Nat → Nat) (dA : Nat → ClassId) (ad : Nat → Nat) (sz : Nat), vx_Met l0 z.1 (zws z) (zrx d) (zPt dC dI dA ad as w sz) (zQc dC dI dA ad (va_A (zw dA ad w) sz) w.length false Q) (zXC dC dI dA ad (va_A (zw dA ad w) sz) X) 1 6 (va_A (zw dA ad w) sz)
set_option maxHeartbeats 1000000 in
theorem zKt_of {d : Nat} {z : zMt} {as : List Value} {w : zW} {Q : Option Value → zW → Prop} {X : String → zW → Prop} (hy : plainName z.1.cls = true) (hn : Nat.ble (lg_sl as).length z.2.2.1 = true) (h : zV (zMx d z X Q w.length) false w.length 0 0 0 (lv_args 0 as) [] w Q) : zKt d z as w Q X := by
  intro l0 h9t dC dI dA ad sz
  refine vx_ofW (cc := z.2.1) (maxL := z.2.2.1) (ret := z.2.2.2.1) hy rfl ?_
  intro p e s m args below meth c s₁ B hml htab hv
  obtain ⟨rfl, hsz, hP, hK, hD0, hTh⟩ := hv
  have hts := atoms_spec (ws := zws z) B.pre
  have hown : s.vm.findClass z.1.cls = some m.cls := findClass_of_methodNamed B.named
  subst hsz
  have hD := hD0.self (sz := s.heap.size)
  have hA : ∀ q : Nat, s.heap.size ≤ q → va_A (zw dA ad w) s.heap.size q := fun q h => Or.inr h
  have hl := lv_entry (as.map (zv ad)) (n := z.2.2.1) (by rw [zsl]; exact Nat.le_of_ble_eq_true hn)
  rw [lg_entry_eq]
  generalize (lg_sl (as.map (zv ad)) ++ List.replicate (z.2.2.1 - (lg_sl (as.map (zv ad))).length) Slot.unset).toArray = ls at hl ⊢
  rw [zargs] at hl
  have hlk : meth.locks = false := B.notSynchronized
  have hr := B.returns
  refine h p l0 e s m (as.map (zv ad)).toArray below meth c dC dI dA ad (va_A (zw dA ad w) s.heap.size) (vx_MQ below (zQc dC dI dA ad (va_A (zw dA ad w) s.heap.size) w.length false Q) (zXC dC dI dA ad (va_A (zw dA ad w) s.heap.size) X) (as.map (zv ad)).toArray s 1 6 (va_A (zw dA ad w) s.heap.size)) h9t ⟨B.exec, B.bytes, hml, hown, fun x hx => hts x (List.mem_cons_of_mem _ hx), hK, hA, (fun hi => by cases hi), rfl, hTh, hlk, htab⟩ ?_ ad s.heap [] ls ⟨fun _ => rfl, fun _ _ => rfl, hP, hD, va_S.rf⟩ hl
  intro ad' H locs kc ks pc ls' v w' hrel hqq hkc hks hrt
  refine W.widen (k := 1) (n := 6) hkc hks ?_
  refine vx_ret ?_
  have fin : ∀ t : State, t.heap = H → s.WarmedH t.vm → zQc dC dI dA ad (va_A (zw dA ad w) s.heap.size) w.length false Q (as.map (zv ad)).toArray s (.returned (v.map (zv ad'))) t := fun t ht hW =>
    ⟨⟨v, w', ad', rfl, hqq, hrel.1, hrel.2.1, by rw [ht]; exact hrel.2.2.1, zKx.moved hW.alike hK, hrel.2.2.2.1⟩, hrel.2.2.2.2.F ht⟩
  match v, hrt, fin with
  | none, hrt, fin => exact W.vret B.exec B.bytes (hr.trans hrt.1) fin hrel.2.2.2.2.2.2 hrt.2 hlk
  | some (.int x), hrt, fin =>
    rcases hrt with ⟨h1 | ⟨h1, h2⟩, h3⟩
    · exact W.iret B.exec B.bytes (hr.trans h1) fin hrel.2.2.2.2.2.2 h3 hlk
    · exact W.zret (ty := .boolean) B.exec B.bytes (hr.trans h1) (by rcases h2 with rfl | rfl <;> decide +kernel) fin hrel.2.2.2.2.2.2 h3 hlk
  | some (.long x), hrt, fin => exact W.lret B.exec B.bytes (hr.trans hrt.1) fin hrel.2.2.2.2.2.2 hrt.2 hlk
set_option maxHeartbeats 1000000 in
theorem zv_throwS {d : Nat} {z : zMt} {X : String → zW → Prop} {Q Q0 : Option Value → zW → Prop} {n0 n1 pc : Nat} {l : zL} {w : zW} {E text : String} {names : List String} {ik is ic : Nat} (d0 : decode z.2.1 pc = .ok (.new ik, 3)) (d3 : decode z.2.1 (pc + 3) = .ok (.dup, 1)) (d4 : decode z.2.1 (pc + 4) = .ok (.ldc is, 2)) (d6 : decode z.2.1 (pc + 6) = .ok (.invokespecial ic, 3)) (d9 : decode z.2.1 (pc + 9) = .ok (.athrow, 1))
    (hf : Bundle.fit E = true ∧ ∀ n ∈ names, Bundle.fit n = true) (hk : Cond.classLink z.1.cls ik E ∈ zG ∧ Cond.initialized E ∈ zG) (hat : ∀ x ∈ vx_atS z.1.cls ic E names, x ∈ zG ∨ x = .castable E E ∨ x ∈ zds) (hg : ∀ x ∈ Cond.classLink z.1.cls ik E :: Cond.initialized E :: vx_atS z.1.cls ic E names, vx_ot x = true)
    (hs : ∀ A U H, zTh A U H → (∃ a, vk_R z.1.cls is text a U) ∧ va_Nw (.castable E E) U) (hR : names.length + 3 < d ∧ 0 + (13 * (names.length + 1) + 43) ≤ 64 * d) (hX : X E w) : zV (zMx d z X Q0 n1) false n0 0 0 pc l [] w Q := by
  intro p l0 e s m args below meth c dC dI dA ad0 A Z h9t hctx hfin ad H locs ls hrel hl
  obtain ⟨hx, hb, hml, hown, hts, hKc, hA, hxn, hZ, hTh, hlk, htab⟩ := hctx
  subst hZ
  obtain ⟨e1, e2, hP, hD, hS⟩ := hrel
  have ea := e1 rfl
  subst ea
  obtain ⟨⟨sa, hstr⟩, hca⟩ := hs A s s.heap hTh
  refine vx_throwS (cc := z.2.1) (own := z.1.cls) (cls := E) (text := text) (names := names) (ik := ik) (is := is) (ic := ic) (A := A) (sa := sa) (rest := []) hx hb h9t hown hf.1 hf.2 (hts _ hk.1) (hts _ hk.2) hstr (fun x q => ?_) hg hTh.1 hTh.2.1 hS (hl.1.trans hml.symm) d0 d3 d4 d6 d9 (fun x q => absurd (htab x q) id) hR.1 hR.2 (Nat.le_refl 1) (Nat.le_refl 6) hlk ?_ hS.2.2 (Nat.le_refl 1) (Nat.le_refl 6)
  · rcases hat x q with h | rfl | h
    · exact hts _ h
    · exact va_Nw.use (A := args) rfl hca
    · exact zds_ok hts x h
  · intro t hal hsz hq
    exact ⟨⟨w, hX, va_P.kept hP (fun k q hk => hq q.1 (vx_lt hP hk)), zKx.moved hal hKc, hD⟩, Nat.le_trans hS.1 hsz, fun q h1 h2 => (hq q (Nat.lt_of_lt_of_le h1 hS.1)).trans (hS.2.1 q h1 h2)⟩
set_option maxHeartbeats 1000000 in
theorem zv_throwSW {d : Nat} {z : zMt} {X : String → zW → Prop} {Q Q0 : Option Value → zW → Prop} {n0 n1 pc : Nat} {l : zL} {w : zW} {E text : String} {names : List String} {ik is ic : Nat} (d0 : decode z.2.1 pc = .ok (.new ik, 3)) (d3 : decode z.2.1 (pc + 3) = .ok (.dup, 1)) (d4 : decode z.2.1 (pc + 4) = .ok (.ldc_w is, 3)) (d6 : decode z.2.1 (pc + 7) = .ok (.invokespecial ic, 3)) (d9 : decode z.2.1 (pc + 10) = .ok (.athrow, 1))
    (hf : Bundle.fit E = true ∧ ∀ n ∈ names, Bundle.fit n = true) (hk : Cond.classLink z.1.cls ik E ∈ zG ∧ Cond.initialized E ∈ zG) (hat : ∀ x ∈ vx_atS z.1.cls ic E names, x ∈ zG ∨ x = .castable E E ∨ x ∈ zds) (hg : ∀ x ∈ Cond.classLink z.1.cls ik E :: Cond.initialized E :: vx_atS z.1.cls ic E names, vx_ot x = true)
    (hs : ∀ A U H, zTh A U H → (∃ a, vk_R z.1.cls is text a U) ∧ va_Nw (.castable E E) U) (hR : names.length + 3 < d ∧ 0 + (13 * (names.length + 1) + 43) ≤ 64 * d) (hX : X E w) : zV (zMx d z X Q0 n1) false n0 0 0 pc l [] w Q := by
  intro p l0 e s m args below meth c dC dI dA ad0 A Z h9t hctx hfin ad H locs ls hrel hl
  obtain ⟨hx, hb, hml, hown, hts, hKc, hA, hxn, hZ, hTh, hlk, htab⟩ := hctx
  subst hZ
  obtain ⟨e1, e2, hP, hD, hS⟩ := hrel
  have ea := e1 rfl
  subst ea
  obtain ⟨⟨sa, hstr⟩, hca⟩ := hs A s s.heap hTh
  refine vx_throwSW (cc := z.2.1) (own := z.1.cls) (cls := E) (text := text) (names := names) (ik := ik) (is := is) (ic := ic) (A := A) (sa := sa) (rest := []) hx hb h9t hown hf.1 hf.2 (hts _ hk.1) (hts _ hk.2) hstr (fun x q => ?_) hg hTh.1 hTh.2.1 hS (hl.1.trans hml.symm) d0 d3 d4 d6 d9 (fun x q => absurd (htab x q) id) hR.1 hR.2 (Nat.le_refl 1) (Nat.le_refl 6) hlk ?_ hS.2.2 (Nat.le_refl 1) (Nat.le_refl 6)
  · rcases hat x q with h | rfl | h
    · exact hts _ h
    · exact va_Nw.use (A := args) rfl hca
    · exact zds_ok hts x h
  · intro t hal hsz hq
    exact ⟨⟨w, hX, va_P.kept hP (fun k q hk => hq q.1 (vx_lt hP hk)), zKx.moved hal hKc, hD⟩, Nat.le_trans hS.1 hsz, fun q h1 h2 => (hq q (Nat.lt_of_lt_of_le h1 hS.1)).trans (hS.2.1 q h1 h2)⟩
/-- a helper with handlers -/
abbrev zMh (d : Nat) (z : zMt) (hh : List (Nat × Nat × Nat × Nat)) : zM := (z.1.cls, z.2.1, z.2.2.1, false, zrx d, z.2.2.2.1, fun _ _ _ s _ _ _ _ c _ _ _ _ A _ => zTh A s s.heap ∧ c.exceptionTable.toList = tableOf hh)
def zKh (d : Nat) (z : zMt) (hh : List (Nat × Nat × Nat × Nat)) (as : List Value) (w : zW) (Q : Option Value → zW → Prop) : Prop :=
  ∀ (l0 : Launch), l0.stackTraces = false → ∀ (dC : Nat → ClassId) (dI : Nat → Nat → Nat) (dA : Nat → ClassId) (ad : Nat → Nat) (sz : Nat), vx_Met l0 z.1 (Cond.codeWith z.1 z.2.1 z.2.2.1 z.2.2.2.1 hh :: zG) (zrx d) (zPt dC dI dA ad as w sz) (zQc dC dI dA ad (va_A (zw dA ad w) sz) w.length false Q) (fun _ _ _ => False) 1 6 (va_A (zw dA ad w) sz)
set_option maxHeartbeats 1000000 in
theorem zKh_of {d : Nat} {z : zMt} {hh : List (Nat × Nat × Nat × Nat)} {as : List Value} {w : zW} {Q : Option Value → zW → Prop} (hy : plainName z.1.cls = true) (hn : Nat.ble (lg_sl as).length z.2.2.1 = true) (h : zV (zMh d z hh) false w.length 0 0 0 (lv_args 0 as) [] w Q) : zKh d z hh as w Q := by
  intro l0 h9t dC dI dA ad sz
  refine vx_ofWH (cc := z.2.1) (maxL := z.2.2.1) (ret := z.2.2.2.1) (hh := hh) hy rfl ?_
  intro p e s m args below meth c s₁ B hml hv
  obtain ⟨rfl, hsz, hP, hK, hD0, hTh⟩ := hv
  have hts := atoms_spec (ws := Cond.codeWith z.1 z.2.1 z.2.2.1 z.2.2.2.1 hh :: zG) B.pre
  have htb := vx_table (x := z.1) B (hts _ List.mem_cons_self)
  have hown : s.vm.findClass z.1.cls = some m.cls := findClass_of_methodNamed B.named
  subst hsz
  have hD := hD0.self (sz := s.heap.size)
  have hA : ∀ q : Nat, s.heap.size ≤ q → va_A (zw dA ad w) s.heap.size q := fun q h => Or.inr h
  have hl := lv_entry (as.map (zv ad)) (n := z.2.2.1) (by rw [zsl]; exact Nat.le_of_ble_eq_true hn)
  rw [lg_entry_eq]
  generalize (lg_sl (as.map (zv ad)) ++ List.replicate (z.2.2.1 - (lg_sl (as.map (zv ad))).length) Slot.unset).toArray = ls at hl ⊢
  rw [zargs] at hl
  have hlk : meth.locks = false := B.notSynchronized
  have hr := B.returns
  refine h p l0 e s m (as.map (zv ad)).toArray below meth c dC dI dA ad (va_A (zw dA ad w) s.heap.size) (vx_MQ below (zQc dC dI dA ad (va_A (zw dA ad w) s.heap.size) w.length false Q) (fun _ _ _ => False) (as.map (zv ad)).toArray s 1 6 (va_A (zw dA ad w) s.heap.size)) h9t ⟨B.exec, B.bytes, hml, hown, fun x hx => hts x (List.mem_cons_of_mem _ hx), hK, hA, (fun hi => by cases hi), hTh, htb⟩ ?_ ad s.heap [] ls ⟨fun _ => rfl, fun _ _ => rfl, hP, hD, va_S.rf⟩ hl
  intro ad' H locs kc ks pc ls' v w' hrel hqq hkc hks hrt
  refine W.widen (k := 1) (n := 6) hkc hks ?_
  refine vx_ret ?_
  have fin : ∀ t : State, t.heap = H → s.WarmedH t.vm → zQc dC dI dA ad (va_A (zw dA ad w) s.heap.size) w.length false Q (as.map (zv ad)).toArray s (.returned (v.map (zv ad'))) t := fun t ht hW =>
    ⟨⟨v, w', ad', rfl, hqq, hrel.1, hrel.2.1, by rw [ht]; exact hrel.2.2.1, zKx.moved hW.alike hK, hrel.2.2.2.1⟩, hrel.2.2.2.2.F ht⟩
  match v, hrt, fin with
  | none, hrt, fin => exact W.vret B.exec B.bytes (hr.trans hrt.1) fin hrel.2.2.2.2.2.2 hrt.2 hlk
  | some (.int x), hrt, fin =>
    rcases hrt with ⟨h1 | ⟨h1, h2⟩, h3⟩
    · exact W.iret B.exec B.bytes (hr.trans h1) fin hrel.2.2.2.2.2.2 h3 hlk
    · exact W.zret (ty := .boolean) B.exec B.bytes (hr.trans h1) (by rcases h2 with rfl | rfl <;> decide +kernel) fin hrel.2.2.2.2.2.2 h3 hlk
  | some (.long x), hrt, fin => exact W.lret B.exec B.bytes (hr.trans hrt.1) fin hrel.2.2.2.2.2.2 hrt.2 hlk
/-- what a handler's row owes: it takes an E that is thrown at pc, the rows ahead of it don't; it stores it in local i and goes on at nx -/
def zHd (own : String) (cc : ByteArray) (hh : List (Nat × Nat × Nat × Nat)) (pc : Nat) (E : String) (i nx nL : Nat) : Prop :=
  ∃ (pre : List ExceptionTableEntry) (x : ExceptionTableEntry) (suf : List ExceptionTableEntry) (name : String), tableOf hh = pre ++ x :: suf ∧
    (∀ y ∈ pre, covers y pc = false ∨ (y.catchType ≠ 0 ∧ ∃ nm : String, Cond.classLink own y.catchType nm ∈ zG ∧ ∀ A U H, zTh A U H → va_Nc E nm U)) ∧ covers x pc = true ∧ x.catchType ≠ 0 ∧ Cond.classLink own x.catchType name ∈ zG ∧ (∀ A U H, zTh A U H → va_Nw (.castable E name) U) ∧ i < nL ∧
    ((∃ k : Fin 4, (k : Nat) = i ∧ decode cc x.handlerPc = .ok (.astore_n k, 1) ∧ nx = x.handlerPc + 1) ∨ (decode cc x.handlerPc = .ok (.astore i, 2) ∧ nx = x.handlerPc + 2))
section ZCX
variable {d : Nat} {zh : zMt} {hh : List (Nat × Nat × Nat × Nat)} {n0 pc a b : Nat} {c0 : Int} {l : zL} {st : List Value} {w : zW} {Q : Option Value → zW → Prop} {tb : List zE}
set_option maxHeartbeats 2000000 in
/-- a call of a method that may throw, inside a helper that catches it -/
theorem zv_callX (ok : zTb (zMh d zh hh) tb) {idx : Nat} (hlook : zlook tb pc = some (.invokevirtual idx, pc + 3, a, b, c0)) {z : zMt} (hz : zms[a]? = some z) {As rest : List Value} {o dd : Nat} {Qc : Option Value → zW → Prop} {X : String → zW → Prop}
    (hst : st = As.reverse ++ .ref o :: rest) (hn : As.length = b) (ha : Nat.ble 9000 a = false) {ci : Nat} {fs : List Value} {r0 : vw_C} (ho : w[o]? = some (zO ci fs)) (hci : vwCl[ci]? = some r0) (hcl : r0.1 = z.1.cls) (hcat : (rest.map fun v => v.category).sum ≤ 8)
    (hR : dd + 1 ≤ d ∧ 8 + (z.2.2.1 + 11) + 64 * dd ≤ 64 * d) (hK : zKt dd z (.ref o :: As) w Qc X)
    (kk : ∀ (r : Option Value) (w' : zW), Qc r w' → zV (zMh d zh hh) false n0 1 6 (pc + 3) l (r.toList ++ rest) w' Q)
    (kx : ∀ (E : String) (w' : zW), X E w' → ∃ i nx : Nat, zHd zh.1.cls zh.2.1 hh pc E i nx zh.2.2.1 ∧ zV (zMh d zh hh) false n0 1 6 nx (l.filter (fun q => !(q.1 == i) && !(q.1 + 1 == i && q.2.category == 2))) [] w' Q) : zV (zMh d zh hh) false n0 0 0 pc l st w Q := by
  intro p l0 e s m args below meth c dC dI dA ad0 A Z h9t hctx hfin ad H locs ls hrel hl
  obtain ⟨F, hF, ok⟩ := ok
  have h1 := ok _ (zlook_mem hlook)
  simp only [zgood, Bool.and_eq_true, decide_eq_true_eq, Nat.add_sub_cancel_left] at h1
  obtain ⟨hk0, hkd⟩ : (idx, a) ∈ F.2.1 ∧ (zms[a]?).map (fun z => z.2.2.2.2.2.2.2) = some (0, b) := by
    have h2 := h1.2
    simpa only [zgd, ha, Bool.false_or, Bool.and_eq_true, decide_eq_true_eq] using h2
  obtain ⟨z', hz', k1⟩ := hF.2.1 _ hk0
  rw [show zms[a]? = some z' from hz'] at hz
  cases hz
  rw [show zms[a]? = some z from hz'] at hkd
  have hkd : z.2.2.2.2.2.2.2 = _ := Option.some.inj hkd
  obtain ⟨hc, ⟨k5, k6, k7⟩, k4, m0, m1, m2⟩ := zms_ok z (List.mem_of_getElem? hz')
  have hkk : z.2.2.2.2.2.2.2.1 = 0 := by rw [hkd]
  have hnn : z.2.2.2.2.2.2.2.2 = b := by rw [hkd]
  rw [hnn] at k7
  obtain ⟨k2, k3⟩ := m0 hkk
  obtain ⟨hx, hb, hml, hown, hts, hKc, hA, hin, hTh, htb⟩ := id hctx
  obtain ⟨e1, e2, hP, hD, hS⟩ := id hrel
  have hM := hK l0 h9t dC dI dA ad H.size
  subst hst
  subst hn
  have hF9 : ∀ q, va_A (zw dA ad w) H.size q → A q := fun q h => by
    rcases h with ⟨k, x, h⟩ | h
    · exact hD.2 k _ h
    · exact hA q (Nat.le_trans hS.1 h)
  have hThH : zTh (va_A (zw dA ad w) H.size) s H := (hTh.kept hS.2.1).narrow hF9
  have cw : CallW (zrx d) s args zh.1.cls z.1.cls idx z.1 z.2.1 z.2.2.1 z.2.2.2.1 (zws z) (zrx dd) 1 6 As.length :=
    ⟨callB_of As.length hts (zgoodIn z hc) rfl rfl rfl (hts _ k4) (hts _ k1) ⟨k5, k6, k7⟩ hR, hts _ k2, hts _ k3⟩
  have hp : PreV s H z.1.cls (ad o) (zPt dC dI dA ad (.ref o :: As) w H.size) (As.map (zv ad)) :=
    ⟨zblindT dC dI dA ad _ w H.size, hcl ▸ va_recv hKc.1 hP hci (zw_at ho), fun U hU hW => ⟨rfl, by rw [hU], by rw [hU]; exact hP, zKx.moved hW.alike hKc, hD.weaken (fun _ _ _ _ => trivial), by rw [hU]; exact zTh.warm hW hThH⟩⟩
  have hr := vx_runV (g := F0 m pc ls ((As.reverse ++ .ref o :: rest).map (zv ad))) (As := As.map (zv ad)) (rest := rest.map (zv ad)) (cells := 0) (slots := 0) (locs := locs) (e := e) (below := below) (meth := meth) ⟨hx, hb, hml, hown, hts⟩ hM cw hp rfl (by rw [List.length_map]) hl.1 (by show List.map (zv ad) (As.reverse ++ .ref o :: rest) = _; rw [List.map_append, List.map_reverse]; rfl) (lv_room (by rw [zcats]; exact hcat)) h1.1.1 ⟨by show 0 + 1 ≤ 1; omega, by show 0 + 6 ≤ 6; omega⟩
  intro T hT X9
  rcases hr T hT X9 with ⟨v, st₀, t, T', L, h0, X', hL, f1, f2, ⟨⟨r, w', ad', hv, hq, hal, had, hP1, hK1, hD1⟩, hz1, hk1⟩, sts⟩ | ⟨q9, st₀, t, T', L, E, ce, h0, X', hL, f1, f2, ⟨⟨w', hX, hP1, hK1, hD1⟩, hz1, hk1⟩, hce, hcv, hcls, sts⟩
  · cases hv
    rw [h0] at hz1 hk1
    have ea := hal rfl
    subst ea
    have hS1 : va_S A s.heap T'.heap (locs ++ L) := ⟨Nat.le_trans hS.1 (by rw [f1]; exact hz1), fun q h1 h2 => by rw [f1, hk1 q (Nat.lt_of_lt_of_le h1 hS.1) (fun z => h2 (hF9 q z))]; exact hS.2.1 q h1 h2, fun q hq => by
      rcases List.mem_append.mp hq with h | h
      · exact hS.2.2 q h
      · exact hF9 _ (hL q h)⟩
    have k9 := kk r w' hq p l0 e s m args below meth c dC dI dA ad0 A Z h9t hctx hfin ad' T'.heap (locs ++ L) ls ⟨e1, e2, by rw [f1]; exact hP1, hD1.weaken (fun _ _ _ h => hF9 _ h), hS1⟩ hl
    rw [List.map_append] at k9
    obtain ⟨t2, a1, b1⟩ := k9 T' rfl X'
    refine ⟨t2, sts t2 ?_, b1⟩
    cases r <;> exact a1
  · rw [h0] at hz1 hk1
    obtain ⟨i, nx, ⟨pre, x, suf, name, s1, s2, s3, s4, s5, s6, s7, s8⟩, k9⟩ := kx E w' hX
    have hS1 : va_S A s.heap T'.heap (locs ++ L) := ⟨Nat.le_trans hS.1 (by rw [f1]; exact hz1), fun q h1 h2 => by rw [f1, hk1 q (Nat.lt_of_lt_of_le h1 hS.1) (fun z => h2 (hF9 q z))]; exact hS.2.1 q h1 h2, fun q hq => by
      rcases List.mem_append.mp hq with h | h
      · exact hS.2.2 q h
      · exact hF9 _ (hL q h)⟩
    have k8 := k9 p l0 e s m args below meth c dC dI dA ad0 A Z h9t hctx hfin ad T'.heap (locs ++ L)
    have kst : ∀ ls' : Array Slot, lv_has ls' zh.2.2.1 ((i, .ref q9) :: (zl ad l).filter (fun q => !(q.1 == i) && !(q.1 + 1 == i && q.2.category == 2))) → W p l0 e (zrx d) s m args below meth c T'.heap (locs ++ L) 1 6 Z (F0 m nx ls' []) := fun ls' hl' =>
      k8 ls' ⟨e1, e2, by rw [f1]; exact hP1, hD1.weaken (fun _ _ _ h => hF9 _ h), hS1⟩ ⟨hl'.1, hl'.2.1, fun q hq => hl'.2.2 q (List.mem_cons_of_mem _ (by
        rw [zl_filter ad (fun a b => !(a == i) && !(a + 1 == i && b == 2)) l]
        exact hq))⟩
    have kw : W p l0 e (zrx d) s m args below meth c T'.heap (locs ++ L) 1 6 Z (F0 m x.handlerPc ls [.ref q9]) := by
      rcases s8 with ⟨k, hki, hdec, hnx⟩ | ⟨hdec, hnx⟩
      · subst hnx
        exact lv_astore_n hx hb hdec hki hl s7 rfl kst
      · subst hnx
        exact lv_astore hx hb hdec hl s7 rfl kst
    have kc := vx_catch (p := p) (l := l0) (e := e) (R := zrx d) (s := s) (m := m) (args := args) (below := below) (meth := meth) (c := c) (H := T'.heap) (locs := locs ++ L) (cells := 1) (slots := 6) (Q := Z) (pc := pc) (ls := ls) (rest := rest.map (zv ad)) (own := zh.1.cls) (name := name) (E := E) (ce := ce) (q := q9) hown pre x suf (htb.trans s1)
      (fun y hy => (s2 y hy).imp id (fun ⟨c1, nm, c2, c3⟩ => ⟨c1, nm, hts _ c2, c3 A s s.heap hTh⟩)) s3 s4 (hts _ s5) (va_Nw.use (A := args) rfl (s6 A s s.heap hTh)) (by rw [f1]; exact hce) hcv hcls kw
    obtain ⟨t2, a1, b1⟩ := kc T' rfl X'
    exact ⟨t2, sts.trans a1, b1⟩
end ZCX
section ZHP
variable {bb L : Nat} {xs : Nat → Int32} {al : Bool} {n0 kc ks pc a b : Nat} {c0 : Int} {l : zL} {st : List Value} {w : zW} {Q : Option Value → zW → Prop}
set_option maxHeartbeats 2000000 in
/-- the law calls a helper -/
theorem zv_help {idx : Nat} (hlook : zlook tL_law pc = some (.invokestatic idx, pc + 3, a, b, c0)) {z : zMt} {hh : List (Nat × Nat × Nat × Nat)} (hm : GoodIn zG (va_wsS RL idx z.1 (Cond.codeWith z.1 z.2.1 z.2.2.1 z.2.2.2.1 hh :: zG))) {nP : Nat} (hd : z.1.cls ≠ "java/lang/invoke/MethodHandle" ∧ z.1.cls ≠ "java/lang/invoke/VarHandle" ∧ (parseMethodDescriptor z.1.desc).map (fun d => d.parameters.length) = some nP) {As rest : List Value} {d : Nat} {Qc : Option Value → zW → Prop}
    (hst : st = As.reverse ++ rest) (hn : As.length = nP) (hcat : (rest.map fun v => v.category).sum ≤ 8) (hR : d + 1 ≤ room_1.frames ∧ 8 + (z.2.2.1 + 11) + 64 * d ≤ room_1.locals) (hf : kc + 1 ≤ room_1.cells ∧ ks + 6 ≤ room_1.slots)
    (hK : zKh d z hh As w Qc) (kk : ∀ (r : Option Value) (w' : zW), Qc r w' → zV (zLw bb L xs) al n0 (kc + 1) (ks + 6) (pc + 3) l (r.toList ++ rest) w' Q) : zV (zLw bb L xs) al n0 kc ks pc l st w Q := by
  intro p l0 e s m args below meth c dC dI dA ad0 A Z h9t hctx hfin ad H locs ls hrel hl
  have h1 := oL_law _ (zlook_mem hlook)
  simp only [zgood, Bool.and_eq_true, decide_eq_true_eq, Nat.add_sub_cancel_left] at h1
  obtain ⟨hx, hb, hml, hown, hts, hKc, hA, hin, hE1, hE2, hE3, hE4, hTh⟩ := id hctx
  obtain ⟨e1, e2, hP, hD, hS⟩ := id hrel
  have hM := hK l0 h9t dC dI dA ad H.size
  subst hst
  have hF9 : ∀ q, va_A (zw dA ad w) H.size q → A q := fun q h => by
    rcases h with ⟨k, x, h⟩ | h
    · exact hD.2 k _ h
    · exact hA q (Nat.le_trans hS.1 h)
  have hThH : zTh (va_A (zw dA ad w) H.size) s H := (hTh.kept hS.2.1).narrow hF9
  have cw := vx_cwSW (R := room_1) (s := s) (args := args) (own := RL) (index := idx) (maxL := z.2.2.1) (mc := 1) (ms := 6) (y := z.1) (bytes := z.2.1) (ret := z.2.2.2.1) (hh := hh) (rm := zrx d) nP hts hm rfl rfl rfl hd hR
  have hp : PreS s H (zPt dC dI dA ad As w H.size) (As.map (zv ad)) :=
    ⟨zblindT dC dI dA ad _ w H.size, fun U hU hW => ⟨rfl, by rw [hU], by rw [hU]; exact hP, zKx.moved hW.alike hKc, hD.weaken (fun _ _ _ _ => trivial), by rw [hU]; exact zTh.warm hW hThH⟩⟩
  have hr := vx_runSX (g := F0 m pc ls ((As.reverse ++ rest).map (zv ad))) (As := As.map (zv ad)) (rest := rest.map (zv ad)) (cells := kc) (slots := ks) (locs := locs) (e := e) (below := below) (meth := meth) (p := p) (m := m) (c := c) (s := s) (args := args) (Ts := zG) (own := RL) (cc := cL_law) (nL := 8) ⟨hx, hb, hml, hown, hts⟩ hM cw hp rfl (by rw [List.length_map]; exact hn) hl.1 (by show List.map (zv ad) (As.reverse ++ rest) = _; rw [List.map_append, List.map_reverse]) (lv_room (by rw [zcats]; exact hcat)) h1.1.1 hf
  intro T hT X9
  rcases hr T hT X9 with ⟨v, st₀, t, T', L9, h0, X', hL, f1, f2, ⟨⟨r, w', ad', hv, hq, hal, had, hP1, hK1, hD1⟩, hz1, hk1⟩, sts⟩ | ⟨q9, st₀, t, T', L9, E, ce, h0, X', hL, f1, f2, hX, hce, hcv, hcls, sts⟩
  · cases hv
    rw [h0] at hz1 hk1
    have ea := hal rfl
    subst ea
    have hS1 : va_S A s.heap T'.heap (locs ++ L9) := ⟨Nat.le_trans hS.1 (by rw [f1]; exact hz1), fun q h1 h2 => by rw [f1, hk1 q (Nat.lt_of_lt_of_le h1 hS.1) (fun z => h2 (hF9 q z))]; exact hS.2.1 q h1 h2, fun q hq => by
      rcases List.mem_append.mp hq with h | h
      · exact hS.2.2 q h
      · exact hF9 _ (hL q h)⟩
    have k9 := kk r w' hq p l0 e s m args below meth c dC dI dA ad0 A Z h9t hctx hfin ad' T'.heap (locs ++ L9) ls ⟨e1, e2, by rw [f1]; exact hP1, hD1.weaken (fun _ _ _ h => hF9 _ h), hS1⟩ hl
    rw [List.map_append] at k9
    obtain ⟨t2, a1, b1⟩ := k9 T' rfl X'
    refine ⟨t2, sts t2 ?_, b1⟩
    cases r <;> exact a1
  · exact hX.elim
end ZHP
end
section
def fRLh : zFT := ([], [(7, 91), (15, 98), (21, 106)], [], [], [])
set_option maxRecDepth 100000 in
theorem gRLh : zFTok RL fRLh := ⟨znil, zcons (⟨_, rfl, zmemT 682 rfl rfl⟩) (zcons (⟨_, rfl, zmemT 757 rfl rfl⟩) (zcons (⟨_, rfl, zmemT 787 rfl rfl⟩) (znil))), znil, znil, znil⟩
def tL_readings : List zE := [(0, .aload_n 2, 1, 0, 0, 0), (1, .iconst 0, 2, 0, 0, 0), (2, .aload_n 0, 3, 0, 0, 0), (3, .iload_n 1, 4, 0, 0, 0), (4, .invokevirtual 7, 7, 91, 1, 0), (7, .lastore, 8, 0, 0, 0), (8, .goto 6, 11, 14, 0, 0), (11, .astore_n 3, 12, 0, 0, 0), (12, .iconst 1, 13, 0, 0, 0), (13, .ireturn, 14, 0, 0, 0), (14, .iconst 0, 15, 0, 0, 0), (15, .ireturn, 16, 0, 0, 0)]
theorem oL_readings : ∀ e ∈ tL_readings, zgood fRLh cL_readings 4 false e = true := by decide +kernel
abbrev zL_readings : zMt := (yL_readings, cL_readings, 4, some .int, false, 1, 6, 1, 3)
theorem bL_readings : zTb (zMh 9 zL_readings [(0, 8, 11, 13)]) tL_readings := ⟨fRLh, gRLh, oL_readings⟩
def tL_where : List zE := [(0, .aload_n 2, 1, 0, 0, 0), (1, .iconst 0, 2, 0, 0, 0), (2, .aload_n 0, 3, 0, 0, 0), (3, .iload_n 1, 4, 0, 0, 0), (4, .invokevirtual 15, 7, 98, 1, 0), (7, .i2l, 8, 0, 0, 0), (8, .lastore, 9, 0, 0, 0), (9, .goto 6, 12, 15, 0, 0), (12, .astore_n 3, 13, 0, 0, 0), (13, .iconst 1, 14, 0, 0, 0), (14, .ireturn, 15, 0, 0, 0), (15, .iconst 0, 16, 0, 0, 0), (16, .ireturn, 17, 0, 0, 0)]
theorem oL_where : ∀ e ∈ tL_where, zgood fRLh cL_where 4 false e = true := by decide +kernel
abbrev zL_where : zMt := (yL_where, cL_where, 4, some .int, false, 1, 6, 1, 3)
theorem bL_where : zTb (zMh 9 zL_where [(0, 9, 12, 19)]) tL_where := ⟨fRLh, gRLh, oL_where⟩
def tL_element : List zE := [(0, .aload_n 3, 1, 0, 0, 0), (1, .iconst 0, 2, 0, 0, 0), (2, .aload_n 0, 3, 0, 0, 0), (3, .iload_n 1, 4, 0, 0, 0), (4, .iload_n 2, 5, 0, 0, 0), (5, .invokevirtual 21, 8, 106, 2, 0), (8, .lastore, 9, 0, 0, 0), (9, .goto 11, 12, 20, 0, 0), (12, .astore 4, 14, 0, 0, 0), (14, .iconst 1, 15, 0, 0, 0), (15, .ireturn, 16, 0, 0, 0), (16, .astore 4, 18, 0, 0, 0), (18, .iconst 2, 19, 0, 0, 0), (19, .ireturn, 20, 0, 0, 0), (20, .iconst 0, 21, 0, 0, 0), (21, .ireturn, 22, 0, 0, 0)]
theorem oL_element : ∀ e ∈ tL_element, zgood fRLh cL_element 5 false e = true := by decide +kernel
abbrev zL_element : zMt := (yL_element, cL_element, 5, some .int, false, 1, 6, 1, 4)
theorem bL_element : zTb (zMh 9 zL_element [(0, 9, 12, 13), (0, 9, 16, 19)]) tL_element := ⟨fRLh, gRLh, oL_element⟩
set_option maxRecDepth 100000 in
theorem wL_readings : Cond.methodLink RL 98 yL_readings ∈ zG ∧ Cond.static yL_readings ∈ zG ∧ Cond.initialized RL ∈ zG ∧ Cond.codeWith yL_readings cL_readings 4 (some .int) [(0, 8, 11, 13)] ∈ zG := ⟨zmemT 678 rfl rfl, zmemT 679 rfl rfl, zmemT 0 rfl rfl, zmemT 680 rfl rfl⟩
theorem vL_readings : GoodIn zG (va_wsS RL 98 yL_readings (Cond.codeWith yL_readings cL_readings 4 (some .int) [(0, 8, 11, 13)] :: zG)) := fun x hx => by
  have key : x ∈ zG := by
    unfold va_wsS at hx
    simp only [List.mem_append, List.mem_cons, List.not_mem_nil, or_false] at hx
    rcases hx with hx | hx | hx
    · rcases hx with rfl | rfl | rfl <;> first | exact wL_readings.1 | exact wL_readings.2.1 | exact wL_readings.2.2.1
    · rw [hx]; exact wL_readings.2.2.2
    · exact hx
  exact ⟨key, good_of_word (zG_good key)⟩
set_option maxRecDepth 100000 in
theorem wL_where : Cond.methodLink RL 132 yL_where ∈ zG ∧ Cond.static yL_where ∈ zG ∧ Cond.initialized RL ∈ zG ∧ Cond.codeWith yL_where cL_where 4 (some .int) [(0, 9, 12, 19)] ∈ zG := ⟨zmemT 753 rfl rfl, zmemT 754 rfl rfl, zmemT 0 rfl rfl, zmemT 755 rfl rfl⟩
theorem vL_where : GoodIn zG (va_wsS RL 132 yL_where (Cond.codeWith yL_where cL_where 4 (some .int) [(0, 9, 12, 19)] :: zG)) := fun x hx => by
  have key : x ∈ zG := by
    unfold va_wsS at hx
    simp only [List.mem_append, List.mem_cons, List.not_mem_nil, or_false] at hx
    rcases hx with hx | hx | hx
    · rcases hx with rfl | rfl | rfl <;> first | exact wL_where.1 | exact wL_where.2.1 | exact wL_where.2.2.1
    · rw [hx]; exact wL_where.2.2.2
    · exact hx
  exact ⟨key, good_of_word (zG_good key)⟩
set_option maxRecDepth 100000 in
theorem wL_element : Cond.methodLink RL 163 yL_element ∈ zG ∧ Cond.static yL_element ∈ zG ∧ Cond.initialized RL ∈ zG ∧ Cond.codeWith yL_element cL_element 5 (some .int) [(0, 9, 12, 13), (0, 9, 16, 19)] ∈ zG := ⟨zmemT 784 rfl rfl, zmemT 785 rfl rfl, zmemT 0 rfl rfl, zmemT 786 rfl rfl⟩
theorem vL_element : GoodIn zG (va_wsS RL 163 yL_element (Cond.codeWith yL_element cL_element 5 (some .int) [(0, 9, 12, 13), (0, 9, 16, 19)] :: zG)) := fun x hx => by
  have key : x ∈ zG := by
    unfold va_wsS at hx
    simp only [List.mem_append, List.mem_cons, List.not_mem_nil, or_false] at hx
    rcases hx with hx | hx | hx
    · rcases hx with rfl | rfl | rfl <;> first | exact wL_element.1 | exact wL_element.2.1 | exact wL_element.2.2.1
    · rw [hx]; exact wL_element.2.2.2
    · exact hx
  exact ⟨key, good_of_word (zG_good key)⟩
set_option maxRecDepth 100000 in
theorem cl13 : Cond.classLink RL 13 "java/lang/IllegalArgumentException" ∈ zG := zmemT 681 rfl rfl
set_option maxRecDepth 100000 in
theorem cl19 : Cond.classLink RL 19 "java/lang/IllegalStateException" ∈ zG := zmemT 756 rfl rfl
set_option maxRecDepth 100000 in
theorem kIAE : Cond.classLink RX6 169 "java/lang/IllegalArgumentException" ∈ zG ∧ Cond.initialized "java/lang/IllegalArgumentException" ∈ zG := ⟨zmemT 686 rfl rfl, zmemT 13 rfl rfl⟩
set_option maxRecDepth 100000 in
theorem kISE : Cond.classLink RX6 222 "java/lang/IllegalStateException" ∈ zG ∧ Cond.initialized "java/lang/IllegalStateException" ∈ zG := ⟨zmemT 761 rfl rfl, zmemT 14 rfl rfl⟩
def zSl : List Cond := (tables_1.take 60 ++ (tables_1.drop 671).take 160).filter goodWord
theorem zSl_G {x : Cond} (h : x ∈ zSl) : x ∈ zG := by
  obtain ⟨h1, hg⟩ := List.mem_filter.mp h
  refine List.mem_filter.mpr ⟨List.mem_append_right _ ?_, hg⟩
  rcases List.mem_append.mp h1 with q | q
  · exact List.mem_of_mem_take q
  · exact List.mem_of_mem_drop (List.mem_of_mem_take q)
set_option maxRecDepth 100000 in
theorem aIAE0 : ∀ x ∈ vx_atS RX6 173 "java/lang/IllegalArgumentException" ["java/lang/RuntimeException", "java/lang/Exception"], x ∈ zSl ∨ x = .castable "java/lang/IllegalArgumentException" "java/lang/IllegalArgumentException" ∨ x ∈ zds := by decide +kernel
theorem aIAE : ∀ x ∈ vx_atS RX6 173 "java/lang/IllegalArgumentException" ["java/lang/RuntimeException", "java/lang/Exception"], x ∈ zG ∨ x = .castable "java/lang/IllegalArgumentException" "java/lang/IllegalArgumentException" ∨ x ∈ zds := fun x hx => (aIAE0 x hx).imp_left zSl_G
set_option maxRecDepth 100000 in
theorem gIAE : ∀ x ∈ Cond.classLink RX6 169 "java/lang/IllegalArgumentException" :: Cond.initialized "java/lang/IllegalArgumentException" :: vx_atS RX6 173 "java/lang/IllegalArgumentException" ["java/lang/RuntimeException", "java/lang/Exception"], vx_ot x = true := by decide +kernel
theorem fIAE : Bundle.fit "java/lang/IllegalArgumentException" = true ∧ ∀ n ∈ (["java/lang/RuntimeException", "java/lang/Exception"] : List String), Bundle.fit n = true := by decide +kernel
set_option maxRecDepth 100000 in
theorem aISE0 : ∀ x ∈ vx_atS RX6 226 "java/lang/IllegalStateException" ["java/lang/RuntimeException", "java/lang/Exception"], x ∈ zSl ∨ x = .castable "java/lang/IllegalStateException" "java/lang/IllegalStateException" ∨ x ∈ zds := by decide +kernel
theorem aISE : ∀ x ∈ vx_atS RX6 226 "java/lang/IllegalStateException" ["java/lang/RuntimeException", "java/lang/Exception"], x ∈ zG ∨ x = .castable "java/lang/IllegalStateException" "java/lang/IllegalStateException" ∨ x ∈ zds := fun x hx => (aISE0 x hx).imp_left zSl_G
set_option maxRecDepth 100000 in
theorem gISE : ∀ x ∈ Cond.classLink RX6 222 "java/lang/IllegalStateException" :: Cond.initialized "java/lang/IllegalStateException" :: vx_atS RX6 226 "java/lang/IllegalStateException" ["java/lang/RuntimeException", "java/lang/Exception"], vx_ot x = true := by decide +kernel
theorem fISE : Bundle.fit "java/lang/IllegalStateException" = true ∧ ∀ n ∈ (["java/lang/RuntimeException", "java/lang/Exception"] : List String), Bundle.fit n = true := by decide +kernel
end
