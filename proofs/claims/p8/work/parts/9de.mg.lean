section
theorem kv_1 {A : Nat → Nat → Int32} {n k : Nat} (h0 : A 0 n = nI k) (hk : k < 10) : kvN A n = (k, (kvN A n).2) := Prod.ext (by show (A 0 n).toNatClampNeg = k; rw [h0, nI_clamp (by omega)]) rfl
theorem lyM_lf {A : Nat → Nat → Int32} {n k u z : Nat} {st : List Nat} (hn : n < 450) (h0 : A 0 n = nI k) (hk : k < 2) (hv : (k = 0 ∨ k = 9 → ∃ w : Nat, w ≤ 9 ∧ A 1 n = nI w) ∧ (k = 1 → ∃ w : Nat, w ≤ 9999 ∧ A 1 n = nI w) ∧ (2 ≤ k → k ≤ 8 → A 1 n = m2)) (h2 : A 2 n = m2) (h3 : A 3 n = m2) : lyM (tkW A (z + 1) (nI n)) (A, u, st) = (setsA A u (nI k) (A 1 n) m2 m2, u + 1, u :: st) := by
  obtain ⟨v, hv9, e⟩ : ∃ v : Nat, v ≤ 9999 ∧ A 1 n = nI v := by
    rcases (show k = 0 ∨ k = 1 by omega) with q | q
    · obtain ⟨w, h, e⟩ := hv.1 (Or.inl q)
      exact ⟨w, by omega, e⟩
    · exact hv.2.1 q
  rw [tkW_nI hn, h2, h3, tkW_m2, kv_lf h0 e (by omega) (by omega) (by omega) (by omega), e]
  exact tkM_0 hk
theorem lyM_un {A A1 : Nat → Nat → Int32} {n k u u1 z a : Nat} {st : List Nat} (hn : n < 450) (h0 : A 0 n = nI k) (k7 : 7 ≤ k) (hk : k < 10) (hv : (k = 0 ∨ k = 9 → ∃ w : Nat, w ≤ 9 ∧ A 1 n = nI w) ∧ (k = 1 → ∃ w : Nat, w ≤ 9999 ∧ A 1 n = nI w) ∧ (2 ≤ k → k ≤ 8 → A 1 n = m2)) (h2 : A 2 n = nI a) (h3 : A 3 n = m2) (y1 : lyM (tkW A z (nI a)) (A, u, st) = (A1, u1 + 1, u1 :: st)) : lyM (tkW A (z + 1) (nI n)) (A, u, st) = (setsA A1 (u1 + 1) (nI k) (A 1 n) (nI u1) m2, u1 + 1 + 1, (u1 + 1) :: st) := by
  have e : (if k = 9 then nI (kvN A n).2 else m2) = A 1 n := by
    by_cases h : k = 9
    · rw [if_pos h]
      obtain ⟨w, h9, e1⟩ := hv.1 (Or.inr h)
      rw [kv_lf h0 e1 hk (by omega) (by omega) (by omega), e1]
    · rw [if_neg h, hv.2.2 (by omega) (by omega)]
  rw [tkW_nI hn, h2, h3, tkW_m2, List.append_nil, lyM_app, y1, kv_1 h0 hk, tkM_1 k7, e]
theorem lyM_bi {A A1 A2 : Nat → Nat → Int32} {n k u u1 u2 z a b : Nat} {st : List Nat} (hn : n < 450) (h0 : A 0 n = nI k) (k2 : 2 ≤ k) (k6 : k ≤ 6) (hv : (k = 0 ∨ k = 9 → ∃ w : Nat, w ≤ 9 ∧ A 1 n = nI w) ∧ (k = 1 → ∃ w : Nat, w ≤ 9999 ∧ A 1 n = nI w) ∧ (2 ≤ k → k ≤ 8 → A 1 n = m2)) (h2 : A 2 n = nI a) (h3 : A 3 n = nI b) (y1 : lyM (tkW A z (nI a)) (A, u, st) = (A1, u1 + 1, u1 :: st)) (y2 : lyM (tkW A1 z (nI b)) (A1, u1 + 1, u1 :: st) = (A2, u2 + 1, u2 :: u1 :: st)) (e : tkW A1 z (nI b) = tkW A z (nI b)) : lyM (tkW A (z + 1) (nI n)) (A, u, st) = (setsA A2 (u2 + 1) (nI k) (A 1 n) (nI u1) (nI u2), u2 + 1 + 1, (u2 + 1) :: st) := by
  rw [tkW_nI hn, h2, h3, lyM_app, lyM_app, y1, ← e, y2, kv_1 h0 (by omega), tkM_2 k2 k6, hv.2.2 k2 (by omega)]
theorem tkW_len {lo hi : Nat} {A : Nat → Nat → Int32} (hh : hi ≤ 450) (hT : tbI lo hi A) : ∀ (z n : Nat), lo ≤ n → n < hi → szN A n ≤ z → (tkW A z (nI n)).length = szN A n
  | 0, n, hlo, hn, hz => by have := (rN_sz (hT n hlo hn)).1; omega
  | z + 1, n, hlo, hn, hz => by
    obtain ⟨k, h0, hk, hs, h40, hv⟩ := rN_val (hT n hlo hn)
    rw [tkW_nI (by omega)]
    rcases hs with ⟨k1, h2, h3, es⟩ | ⟨k1, k6, a, b, h2, la, ha, h3, lb, hb, es⟩ | ⟨k1, a, h2, la, ha, h3, es⟩
    · rw [h2, h3, tkW_m2, es]
      rfl
    · rw [h2, h3, List.length_append, List.length_append, tkW_len hh hT z a la (by omega) (by omega), tkW_len hh hT z b lb (by omega) (by omega), es]
      show szN A a + szN A b + 1 = _
      omega
    · rw [h2, h3, tkW_m2, List.append_nil, List.length_append, tkW_len hh hT z a la (by omega) (by omega), es]
      show szN A a + 1 = _
      omega
set_option maxHeartbeats 1000000 in
set_option maxRecDepth 20000 in
theorem mCopiesX (f : Nat → zC) (o : Nat → Int32) (J : Nat → Nat → Int64) {hi : Nat} (hh : hi ≤ 450) : ∀ (z : Nat) (A : Nat → Nat → Int32) (n : Nat), 400 ≤ n → n < hi → szN A n ≤ z → ∀ (u : Nat), tbI 0 u A → tbI 400 hi A → u + szN A n ≤ 120 → ∀ (st : List Nat), zK (z + 1) zX7_copies [.ref 76, .int (nI n)] (wR f (upd o 0 (nI u)) A J) (fun r w' => ∃ (u1 : Nat) (A' : Nat → Nat → Int32), r = some (.int (nI u1)) ∧ w' = (wR f (upd o 0 (nI (u1 + 1))) A' J) ∧ cpF u A A' u1 (szN A n) ∧ lyM (tkW A z (nI n)) (A, u, st) = (A', u1 + 1, u1 :: st)) := by
  intro z
  induction z with
  | zero =>
    intro A n hlo hn hz u _ hO
    have := (rN_sz (hO n hlo hn)).1
    omega
  | succ z ih1 =>
    intro A n hlo hn hz u hT hO hu st
    have ih := fun (n : Nat) (h1 : 400 ≤ n) (h2 : n < hi) (h3 : szN A n ≤ z) (u : Nat) (A' : Nat → Nat → Int32) (g1 : tbI 0 u A) (g2 : tbI 400 hi A) (g3 : u + szN A n ≤ 120) (st : List Nat) => ih1 A n h1 h2 h3 u g1 g2 g3 st
    obtain ⟨k, h0, hk, hs, h40, hv⟩ := rN_val (hO n hlo hn)
    refine zK_of qX7_copies (by decide +kernel) rfl ?_
    rcases hs with ⟨k1, h2, h3, es⟩ | ⟨k1, k6, a, b, h2, la, ha, h3, lb, hb, es⟩ | ⟨k1, a, h2, la, ha, h3, es⟩
    · iterate 3 (refine zv_step (bX7_copies (z + 1 + 1)) rfl rfl trivial ?_)
      refine zv_iale (bX7_copies (z + 1 + 1)) rfl rfl (vp_in_nI (by omega) (by decide)) (show A 2 (nI n).toNatClampNeg = m2 by rw [nI_clamp (by omega)]; exact h2) ?_
      iterate 1 (refine zv_step (bX7_copies (z + 1 + 1)) rfl rfl trivial ?_)
      refine zv_iff (by decide) ?_
      iterate 6 (refine zv_step (bX7_copies (z + 1 + 1)) rfl rfl trivial ?_)
      refine zv_iale (bX7_copies (z + 1 + 1)) rfl rfl (vp_in_nI (by omega) (by decide)) (show A 3 (nI n).toNatClampNeg = m2 by rw [nI_clamp (by omega)]; exact h3) ?_
      iterate 1 (refine zv_step (bX7_copies (z + 1 + 1)) rfl rfl trivial ?_)
      refine zv_iff (by decide) ?_
      iterate 9 (refine zv_step (bX7_copies (z + 1 + 1)) rfl rfl trivial ?_)
      refine zv_iale (bX7_copies (z + 1 + 1)) rfl rfl (vp_in_nI (by omega) (by decide)) (show A 0 (nI n).toNatClampNeg = nI k by rw [nI_clamp (by omega)]; exact h0) ?_
      iterate 3 (refine zv_step (bX7_copies (z + 1 + 1)) rfl rfl trivial ?_)
      refine zv_iale (bX7_copies (z + 1 + 1)) rfl rfl (vp_in_nI (by omega) (by decide)) (show A 1 (nI n).toNatClampNeg = A 1 n by rw [nI_clamp (by omega)]) ?_
      iterate 2 (refine zv_step (bX7_copies (z + 1 + 1)) rfl rfl trivial ?_)
      refine zv_V5 (bX7_copies (z + 1 + 1)) rfl rfl rfl rfl rfl rfl rfl ⟨rfl, rfl, rfl⟩ ⟨by show 0 + 1 ≤ z + 1 + 1; omega, by show 8 + (8 + 11) + 64 * (0) ≤ 64 * (z + 1 + 1); omega⟩ ⟨Nat.zero_le _, Nat.zero_le _⟩ (mSetsE f (upd o 0 (nI u)) A J (show upd o 0 (nI u) 0 = nI u from rfl) (by omega) vpm2 vpm2) ?_
      rintro _ _ ⟨rfl, rfl⟩
      iterate 10 (refine zv_step (bX7_copies (z + 1 + 1)) rfl rfl trivial ?_)
      exact zv_iret (bX7_copies (z + 1 + 1)) rfl (Or.inl rfl) (Nat.zero_le _) (Nat.zero_le _) ⟨u, _, by show some (Value.int (nI (u) + Int32.ofInt 1 - Int32.ofInt 1)) = _; rw [show nI (u) + Int32.ofInt 1 = nI (u + 1) from nI_1 _, show nI (u + 1) - Int32.ofInt 1 = nI (u) from nI_m1 _], by rw [show nI (u + 1) = nI (u) + Int32.ofInt 1 from (nI_1 _).symm]; rfl, by rw [es]; exact cpF_lf hT (by omega) k1 hv, lyM_lf (by omega) h0 k1 hv h2 h3⟩
    · iterate 3 (refine zv_step (bX7_copies (z + 1 + 1)) rfl rfl trivial ?_)
      refine zv_iale (bX7_copies (z + 1 + 1)) rfl rfl (vp_in_nI (by omega) (by decide)) (show A 2 (nI n).toNatClampNeg = nI a by rw [nI_clamp (by omega)]; exact h2) ?_
      iterate 1 (refine zv_step (bX7_copies (z + 1 + 1)) rfl rfl trivial ?_)
      refine zv_ift (nI_pos' (by omega)) ?_
      iterate 4 (refine zv_step (bX7_copies (z + 1 + 1)) rfl rfl trivial ?_)
      refine zv_iale (bX7_copies (z + 1 + 1)) rfl rfl (vp_in_nI (by omega) (by decide)) (show A 2 (nI n).toNatClampNeg = nI a by rw [nI_clamp (by omega)]; exact h2) ?_
      refine zv_V1 (bX7_copies (z + 1 + 1)) rfl rfl rfl rfl rfl rfl rfl ⟨rfl, rfl, rfl⟩ ⟨by show z + 1 + 1 ≤ z + 1 + 1; omega, by show 8 + (4 + 11) + 64 * (z + 1) ≤ 64 * (z + 1 + 1); omega⟩ ⟨Nat.zero_le _, Nat.zero_le _⟩ (ih a (by omega) (by omega) (by omega) u A hT hO (by omega) st) ?_
      rintro _ _ ⟨u1, A1, rfl, rfl, c1, y1⟩
      have n1 := c1.2.2.2.1
      have eb : szN A1 b = szN A b := by
        unfold szN
        rw [c1.2.2.1 4 b (Or.inr (by omega))]
      have ih2 := fun (n : Nat) (h1 : 400 ≤ n) (h2 : n < hi) (h3 : szN A1 n ≤ z) => ih1 A1 n h1 h2 h3
      iterate 4 (refine zv_step (bX7_copies (z + 1 + 1)) rfl rfl trivial ?_)
      refine zv_iale (bX7_copies (z + 1 + 1)) rfl rfl (vp_in_nI (by omega) (by decide)) (show A1 3 (nI n).toNatClampNeg = nI b by rw [nI_clamp (by omega)]; exact (c1.2.2.1 3 n (Or.inr (by omega))).trans h3) ?_
      iterate 1 (refine zv_step (bX7_copies (z + 1 + 1)) rfl rfl trivial ?_)
      refine zv_ift (nI_pos' (by omega)) ?_
      iterate 4 (refine zv_step (bX7_copies (z + 1 + 1)) rfl rfl trivial ?_)
      refine zv_iale (bX7_copies (z + 1 + 1)) rfl rfl (vp_in_nI (by omega) (by decide)) (show A1 3 (nI n).toNatClampNeg = nI b by rw [nI_clamp (by omega)]; exact (c1.2.2.1 3 n (Or.inr (by omega))).trans h3) ?_
      refine zv_V1 (bX7_copies (z + 1 + 1)) rfl rfl rfl rfl rfl rfl rfl ⟨rfl, rfl, rfl⟩ ⟨by show z + 1 + 1 ≤ z + 1 + 1; omega, by show 8 + (4 + 11) + 64 * (z + 1) ≤ 64 * (z + 1 + 1); omega⟩ ⟨Nat.zero_le _, Nat.zero_le _⟩ (ih2 b (by omega) (by omega) (by omega) (u1 + 1) c1.1 (tbI_fr hO (fun r _ i hi _ => c1.2.2.1 r i (Or.inr (by omega)))) (by rw [eb]; omega) (u1 :: st)) ?_
      rintro _ _ ⟨u2, A2, rfl, rfl, c2, y2⟩
      rw [eb] at c2
      have n2 := c2.2.2.2.1
      iterate 7 (refine zv_step (bX7_copies (z + 1 + 1)) rfl rfl trivial ?_)
      refine zv_iale (bX7_copies (z + 1 + 1)) rfl rfl (vp_in_nI (by omega) (by decide)) (show A2 0 (nI n).toNatClampNeg = nI k by rw [nI_clamp (by omega)]; exact ((c2.2.2.1 0 n (Or.inr (by omega))).trans (c1.2.2.1 0 n (Or.inr (by omega)))).trans h0) ?_
      iterate 3 (refine zv_step (bX7_copies (z + 1 + 1)) rfl rfl trivial ?_)
      refine zv_iale (bX7_copies (z + 1 + 1)) rfl rfl (vp_in_nI (by omega) (by decide)) (show A2 1 (nI n).toNatClampNeg = A 1 n by rw [nI_clamp (by omega)]; exact (c2.2.2.1 1 n (Or.inr (by omega))).trans (c1.2.2.1 1 n (Or.inr (by omega)))) ?_
      iterate 2 (refine zv_step (bX7_copies (z + 1 + 1)) rfl rfl trivial ?_)
      refine zv_V5 (bX7_copies (z + 1 + 1)) rfl rfl rfl rfl rfl rfl rfl ⟨rfl, rfl, rfl⟩ ⟨by show 0 + 1 ≤ z + 1 + 1; omega, by show 8 + (8 + 11) + 64 * (0) ≤ 64 * (z + 1 + 1); omega⟩ ⟨Nat.zero_le _, Nat.zero_le _⟩ (mSetsE f (upd o 0 (nI (u2 + 1))) A2 J (show upd o 0 (nI (u2 + 1)) 0 = nI (u2 + 1) from rfl) (by omega) (fun _ => vp_in_nI (by omega) (by decide)) (fun _ => vp_in_nI (by omega) (by decide))) ?_
      rintro _ _ ⟨rfl, rfl⟩
      iterate 10 (refine zv_step (bX7_copies (z + 1 + 1)) rfl rfl trivial ?_)
      exact zv_iret (bX7_copies (z + 1 + 1)) rfl (Or.inl rfl) (Nat.zero_le _) (Nat.zero_le _) ⟨u2 + 1, _, by show some (Value.int (nI (u2 + 1) + Int32.ofInt 1 - Int32.ofInt 1)) = _; rw [show nI (u2 + 1) + Int32.ofInt 1 = nI (u2 + 1 + 1) from nI_1 _, show nI (u2 + 1 + 1) - Int32.ofInt 1 = nI (u2 + 1) from nI_m1 _], by rw [show nI (u2 + 1 + 1) = nI (u2 + 1) + Int32.ofInt 1 from (nI_1 _).symm]; rfl, by rw [es]; exact cpF_bi c1 c2 (by omega) (by omega) (rN_sz (hO b (by omega) (by omega))).1 k1 k6 hv, lyM_bi (by omega) h0 k1 k6 hv h2 h3 y1 y2 (tkW_fr hh hO (fun r _ i hi _ => c1.2.2.1 r i (Or.inr (by omega))) z _ (Or.inr ⟨b, rfl, by omega, by omega, by omega⟩))⟩
    · iterate 3 (refine zv_step (bX7_copies (z + 1 + 1)) rfl rfl trivial ?_)
      refine zv_iale (bX7_copies (z + 1 + 1)) rfl rfl (vp_in_nI (by omega) (by decide)) (show A 2 (nI n).toNatClampNeg = nI a by rw [nI_clamp (by omega)]; exact h2) ?_
      iterate 1 (refine zv_step (bX7_copies (z + 1 + 1)) rfl rfl trivial ?_)
      refine zv_ift (nI_pos' (by omega)) ?_
      iterate 4 (refine zv_step (bX7_copies (z + 1 + 1)) rfl rfl trivial ?_)
      refine zv_iale (bX7_copies (z + 1 + 1)) rfl rfl (vp_in_nI (by omega) (by decide)) (show A 2 (nI n).toNatClampNeg = nI a by rw [nI_clamp (by omega)]; exact h2) ?_
      refine zv_V1 (bX7_copies (z + 1 + 1)) rfl rfl rfl rfl rfl rfl rfl ⟨rfl, rfl, rfl⟩ ⟨by show z + 1 + 1 ≤ z + 1 + 1; omega, by show 8 + (4 + 11) + 64 * (z + 1) ≤ 64 * (z + 1 + 1); omega⟩ ⟨Nat.zero_le _, Nat.zero_le _⟩ (ih a (by omega) (by omega) (by omega) u A hT hO (by omega) st) ?_
      rintro _ _ ⟨u1, A1, rfl, rfl, c1, y1⟩
      have n1 := c1.2.2.2.1
      iterate 4 (refine zv_step (bX7_copies (z + 1 + 1)) rfl rfl trivial ?_)
      refine zv_iale (bX7_copies (z + 1 + 1)) rfl rfl (vp_in_nI (by omega) (by decide)) (show A1 3 (nI n).toNatClampNeg = m2 by rw [nI_clamp (by omega)]; exact (c1.2.2.1 3 n (Or.inr (by omega))).trans h3) ?_
      iterate 1 (refine zv_step (bX7_copies (z + 1 + 1)) rfl rfl trivial ?_)
      refine zv_iff (by decide) ?_
      iterate 9 (refine zv_step (bX7_copies (z + 1 + 1)) rfl rfl trivial ?_)
      refine zv_iale (bX7_copies (z + 1 + 1)) rfl rfl (vp_in_nI (by omega) (by decide)) (show A1 0 (nI n).toNatClampNeg = nI k by rw [nI_clamp (by omega)]; exact (c1.2.2.1 0 n (Or.inr (by omega))).trans h0) ?_
      iterate 3 (refine zv_step (bX7_copies (z + 1 + 1)) rfl rfl trivial ?_)
      refine zv_iale (bX7_copies (z + 1 + 1)) rfl rfl (vp_in_nI (by omega) (by decide)) (show A1 1 (nI n).toNatClampNeg = A 1 n by rw [nI_clamp (by omega)]; exact c1.2.2.1 1 n (Or.inr (by omega))) ?_
      iterate 2 (refine zv_step (bX7_copies (z + 1 + 1)) rfl rfl trivial ?_)
      refine zv_V5 (bX7_copies (z + 1 + 1)) rfl rfl rfl rfl rfl rfl rfl ⟨rfl, rfl, rfl⟩ ⟨by show 0 + 1 ≤ z + 1 + 1; omega, by show 8 + (8 + 11) + 64 * (0) ≤ 64 * (z + 1 + 1); omega⟩ ⟨Nat.zero_le _, Nat.zero_le _⟩ (mSetsE f (upd o 0 (nI (u1 + 1))) A1 J (show upd o 0 (nI (u1 + 1)) 0 = nI (u1 + 1) from rfl) (by omega) (fun _ => vp_in_nI (by omega) (by decide)) vpm2) ?_
      rintro _ _ ⟨rfl, rfl⟩
      iterate 10 (refine zv_step (bX7_copies (z + 1 + 1)) rfl rfl trivial ?_)
      exact zv_iret (bX7_copies (z + 1 + 1)) rfl (Or.inl rfl) (Nat.zero_le _) (Nat.zero_le _) ⟨u1 + 1, _, by show some (Value.int (nI (u1 + 1) + Int32.ofInt 1 - Int32.ofInt 1)) = _; rw [show nI (u1 + 1) + Int32.ofInt 1 = nI (u1 + 1 + 1) from nI_1 _, show nI (u1 + 1 + 1) - Int32.ofInt 1 = nI (u1 + 1) from nI_m1 _], by rw [show nI (u1 + 1 + 1) = nI (u1 + 1) + Int32.ofInt 1 from (nI_1 _).symm]; rfl, by rw [es]; exact cpF_un c1 (by omega) (by omega) k1 hk hv, lyM_un (by omega) h0 k1 hk hv h2 h3 y1⟩
/-- what write answers of the reference, and what it leaves -/
def wrM (o : Nat → Int32) (A : Nat → Nat → Int32) (u h : Nat) (x : Int32) (z : Int64) (o' : Nat → Int32) (A' : Nat → Nat → Int32) (R : Int32) : Prop :=
  (R = Int32.ofInt (-1) ∧ ¬ ((0 ≤ x.toInt ∧ x.toInt ≤ 8) ∧ 0 ≤ z.toInt) ∧ o' 0 = nI u) ∨
  ∃ (s : Nat) (J1 : Nat → Nat → Int64), s ≤ 8 ∧ x = nI s ∧ 0 ≤ z.toInt ∧ okJ h A s J1 ∧ ((R = c8 (-4) ∧ ¬ z < lN (ctW h J1) ∧ o' 0 = nI u) ∨
    ∃ (p : Nat) (T : List (Nat × Nat)), z = lN p ∧ p < ctW h J1 ∧ RT (eW A) (mW A s (lW J1)) (lW J1) 20 0 h p T ∧ ((R = c8 (-2) ∧ 120 < u + T.length ∧ o' 0 = nI u) ∨
      (R = nI (u + T.length - 1) ∧ u + T.length ≤ 120 ∧ o' 0 = nI (u + T.length) ∧ ∃ A1 : Nat → Nat → Int32, (∀ r i, i < 400 → A1 r i = A r i) ∧ A' = (lyM T (A1, u, [])).1)))
set_option maxHeartbeats 1000000 in
set_option maxRecDepth 20000 in
theorem mWriteX (f : Nat → zC) (o : Nat → Int32) (A : Nat → Nat → Int32) (J : Nat → Nat → Int64) {u : Nat} (hu : u ≤ 120) (ho : o 0 = nI u) (hT : tbI 0 u A) {h : Nat} (hh : h ≤ 20) (hw : nnW h (A 8)) (ho10 : o 10 = nI h) (x : Int32) (z : Int64) : zK 50 zX7_write [.ref 76, .int x, .long z] (wR f o A J) (fun r w' => ∃ (o' : Nat → Int32) (A' : Nat → Nat → Int32) (J' : Nat → Nat → Int64) (R : Int32), r = some (.int R) ∧ w' = wR f o' A' J' ∧ ndY o u A o' A' ∧ wrM o A u h x z o' A' R) := by
  refine zK_of qX7_write (by decide +kernel) rfl ?_
  iterate 4 (refine zv_step (bX7_write 50) rfl rfl trivial ?_)
  refine zv_S3 (bX7_write 50) rfl rfl rfl rfl ⟨rfl, rfl, rfl⟩ ⟨by decide, by decide⟩ ⟨Nat.zero_le _, Nat.zero_le _⟩ (mIn _ _ _ _ (a := 0) (b := 8) (by decide) (by decide)) ?_
  rintro _ _ ⟨rfl, ⟨g1, rfl⟩ | ⟨g1, rfl⟩⟩
  · try rw [Int32.toInt_toInt64] at g1
    obtain ⟨s, hs, rfl⟩ := in_nat (x := x) (b := 8) (by decide) g1
    iterate 1 (refine zv_step (bX7_write 50) rfl rfl trivial ?_)
    refine zv_iff (by decide) ?_
    iterate 4 (refine zv_step (bX7_write 50) rfl rfl trivial ?_)
    refine zv_ifb (fun h15 => ?_) (fun h15 => ?_)
    · have z0 : 0 ≤ z.toInt := by
        rw [lg_cmp_ge, Int64.le_iff_toInt_le] at h15
        exact h15
      iterate 3 (refine zv_step (bX7_write 50) rfl rfl trivial ?_)
      refine zv_V1 (bX7_write 50) rfl rfl rfl rfl rfl rfl rfl ⟨rfl, rfl, rfl⟩ ⟨by decide, by decide⟩ ⟨Nat.zero_le _, Nat.zero_le _⟩ (mCounted f o A J hh hw ho10 hs rfl) ?_
      rintro _ _ ⟨J1, rfl, rfl, hJ⟩
      iterate 2 (refine zv_step (bX7_write 50) rfl rfl trivial ?_)
      refine zv_ifb (fun h27 => ?_) (fun h27 => ?_)
      · obtain ⟨p, hp, rfl⟩ := l_nat z0 (ctW_le hJ) ((lg_cmp_lt _ _).mp h27)
        have hpc := hp
        obtain ⟨h0, hp⟩ := ctW_lt hp
        iterate 3 (refine zv_step (bX7_write 50) rfl rfl trivial ?_)
        refine zv_world (show _ = wR f (upd (upd o 28 (nI s)) 29 (nI 0)) A J1 from rfl) ?_
        iterate 5 (refine zv_step (bX7_write 50) rfl rfl trivial ?_)
        refine zv_V3 (bX7_write 50) rfl rfl rfl rfl rfl rfl rfl ⟨rfl, rfl, rfl⟩ ⟨by decide, by decide⟩ ⟨Nat.zero_le _, Nat.zero_le _⟩ (mTakesX f (upd o 28 (nI s)) A J1 hh hw hJ 20 0 h p _ _ _ rfl ho10 rfl h0 (Nat.le_refl _) (by omega) hp 0 A (fun _ _ => rfl) (fun n h1 h2 => absurd h2 (by omega)) (by omega)) ?_
        rintro _ _ ⟨q1, A1, rfl, rfl, k1, r1⟩
        have l1 := k1.2.2.2.2.1
        have es := k1.2.2.2.2.2
        have hT1 : tbI 0 u A1 := tbI_fr hT (fun r _ i _ hi => k1.2.2.1 r i (by omega))
        have hlen := tkW_len (by omega) k1.2.1 20 (400 + q1) (by omega) (by omega) (by omega)
        iterate 8 (refine zv_step (bX7_write 50) rfl rfl trivial ?_)
        refine zv_ifb (fun h61 => ?_) (fun h61 => ?_)
        · have hfit : u + (q1 + 1) ≤ 120 := by
            have h9 : o 0 + nI (q1 + 1) ≤ nI 120 := h61
            rwa [ho, nI_add, nI_leI (by omega) (by decide)] at h9
          refine zv_world (show _ = wR f (upd (upd (upd o 28 (nI s)) 29 (nI (q1 + 1))) 0 (nI u)) A1 J1 from by rw [← ho]; rfl) ?_
          iterate 2 (refine zv_step (bX7_write 50) rfl rfl trivial ?_)
          refine zv_V1 (bX7_write 50) rfl rfl rfl rfl rfl rfl rfl ⟨rfl, rfl, rfl⟩ ⟨by decide, by decide⟩ ⟨Nat.zero_le _, Nat.zero_le _⟩ (mCopiesX f (upd (upd o 28 (nI s)) 29 (nI (q1 + 1))) J1 (hi := 400 + (q1 + 1)) (by omega) 20 A1 (400 + q1) (by omega) (by omega) (by omega) u hT1 k1.2.1 (by omega) []) ?_
          rintro _ _ ⟨u1, A2, rfl, rfl, c1, y1⟩
          have n1 := c1.2.2.2.1
          exact zv_iret (bX7_write 50) rfl (Or.inl rfl) (Nat.zero_le _) (Nat.zero_le _) ⟨_, A2, J1, _, rfl, rfl, ⟨⟨u1 + 1, by omega, by omega, upd_self _ _ _, c1.1⟩, fun j a b c => by rw [upd_ne _ _ a, upd_ne _ _ c, upd_ne _ _ b], fun r hr => (c1.2.1 r hr).trans (k1.1 r hr), fun r i hi => (c1.2.2.1 r i (Or.inl hi)).trans (k1.2.2.1 r i (by omega))⟩, Or.inr ⟨s, J1, by omega, rfl, z0, hJ, Or.inr ⟨p, _, rfl, hpc, r1, Or.inr ⟨by rw [show u1 = u + (tkW A1 20 (nI (400 + q1))).length - 1 by omega], by omega, by rw [show u + (tkW A1 20 (nI (400 + q1))).length = u1 + 1 by omega]; exact upd_self _ _ _, A1, fun r i hi => k1.2.2.1 r i (by omega), by rw [y1]⟩⟩⟩⟩
        · have hfit : ¬ u + (q1 + 1) ≤ 120 := fun q => h61 (by show o 0 + nI (q1 + 1) ≤ nI 120; rw [ho, nI_add, nI_leI (by omega) (by decide)]; exact q)
          iterate 1 (refine zv_step (bX7_write 50) rfl rfl trivial ?_)
          exact zv_iret (bX7_write 50) rfl (Or.inl rfl) (Nat.zero_le _) (Nat.zero_le _) ⟨upd (upd o 28 (nI s)) 29 (nI (q1 + 1)), A1, J1, _, rfl, rfl, ⟨⟨u, Nat.le_refl _, hu, ho, hT1⟩, fun j a b c => by rw [upd_ne _ _ c, upd_ne _ _ b], k1.1, fun r i hi => k1.2.2.1 r i (by omega)⟩, Or.inr ⟨s, J1, by omega, rfl, z0, hJ, Or.inr ⟨p, _, rfl, hpc, r1, Or.inl ⟨rfl, by omega, ho⟩⟩⟩⟩
      · have q27 : ¬ z < lN (ctW h J1) := fun q => h27 ((lg_cmp_lt _ _).mpr q)
        iterate 1 (refine zv_step (bX7_write 50) rfl rfl trivial ?_)
        exact zv_iret (bX7_write 50) rfl (Or.inl rfl) (Nat.zero_le _) (Nat.zero_le _) ⟨(upd o 28 (nI s)), A, J1, _, rfl, rfl, ⟨⟨u, Nat.le_refl _, hu, ho, hT⟩, fun j a b c => by rw [upd_ne _ _ b], fun _ _ => rfl, fun _ _ _ => rfl⟩, Or.inr ⟨s, J1, by omega, rfl, z0, hJ, Or.inl ⟨rfl, q27, ho⟩⟩⟩
    · have z0 : ¬ 0 ≤ z.toInt := fun q => h15 (by rw [lg_cmp_ge, Int64.le_iff_toInt_le]; exact q)
      iterate 1 (refine zv_step (bX7_write 50) rfl rfl trivial ?_)
      exact zv_iret (bX7_write 50) rfl (Or.inl rfl) (Nat.zero_le _) (Nat.zero_le _) ⟨o, A, J, _, rfl, rfl, ⟨⟨u, Nat.le_refl _, hu, ho, hT⟩, fun _ _ _ _ => rfl, fun _ _ => rfl, fun _ _ _ => rfl⟩, Or.inl ⟨rfl, fun q => z0 q.2, ho⟩⟩
  · try rw [Int32.toInt_toInt64] at g1
    iterate 1 (refine zv_step (bX7_write 50) rfl rfl trivial ?_)
    refine zv_ift (by decide) ?_
    iterate 1 (refine zv_step (bX7_write 50) rfl rfl trivial ?_)
    exact zv_iret (bX7_write 50) rfl (Or.inl rfl) (Nat.zero_le _) (Nat.zero_le _) ⟨o, A, J, _, rfl, rfl, ⟨⟨u, Nat.le_refl _, hu, ho, hT⟩, fun _ _ _ _ => rfl, fun _ _ => rfl, fun _ _ _ => rfl⟩, Or.inl ⟨rfl, fun q => g1 q.1, ho⟩⟩
/-- a style's KINDS, as the class holds them -/
def syR (P : Nat → Nat → Int32) (s : Nat) (lt : Nat → Nat → Bool) : Prop := if s = 8 then (∀ k, k < 10 → lt k 0 = true ∧ lt k 1 = mayN k) else (∃ m, m < 1024 ∧ P 75 s = nI m ∧ ∀ k, k < 10 → lt k 1 = m.testBit k ∧ lt k 0 = !m.testBit k)
set_option maxRecDepth 100000 in
theorem not_m : ∀ m, m < 1024 → (Int16.ofInt 1023).toInt32 &&& (nI m ^^^ Int32.ofInt (-1)) = nI (1023 ^^^ m) := by decide +kernel
theorem may_k : ∀ k, k < 10 → Nat.testBit 764 k = mayN k := by decide +kernel
theorem sy_8 {P : Nat → Nat → Int32} {lt : Nat → Nat → Bool} (h : syR P 8 lt) : btR (Int16.ofInt 1023).toInt32 (fun k => lt k 0) ∧ btR (Int16.ofInt 764).toInt32 (fun k => lt k 1) := by
  unfold syR at h
  rw [if_pos rfl] at h
  exact ⟨⟨1023, by decide, by decide +kernel, fun k hk => by show _ = lt k 0; rw [(h k hk).1]; exact t1023 k hk⟩, ⟨764, by decide, by decide +kernel, fun k hk => by show _ = lt k 1; rw [(h k hk).2]; exact may_k k hk⟩⟩
theorem sy_n {P : Nat → Nat → Int32} {s : Nat} {lt : Nat → Nat → Bool} (h : syR P s lt) (hs : ¬ s = 8) : btR ((Int16.ofInt 1023).toInt32 &&& (P 75 s ^^^ Int32.ofInt (-1))) (fun k => lt k 0) ∧ btR (P 75 s) (fun k => lt k 1) := by
  unfold syR at h
  rw [if_neg hs] at h
  obtain ⟨m, hm, e, hb⟩ := h
  refine ⟨⟨1023 ^^^ m, Nat.xor_lt_two_pow (n := 10) (by decide) hm, by rw [e]; exact not_m m hm, fun k hk => ?_⟩, ⟨m, hm, e, fun k hk => (hb k hk).1.symm⟩⟩
  show _ = lt k 0
  rw [Nat.testBit_xor, t1023 k hk, (hb k hk).2]
  exact Bool.true_xor _
theorem min_cap {x : Nat} (h : x ≤ cap) : (if Int64.ofInt 1000000000000000 < lN x then Int64.ofInt 1000000000000000 else lN x) = lN x := if_neg (by rw [cap_e, lN_ltJ (by decide) (by unfold cap at h; omega)]; omega)
theorem ctY_le {Y0 : Nat → Nat → Int64} {n : Nat} (hn : n ≤ 20) {E : Nat → Nat} {G : Nat → Int32} {lt : Nat → Nat → Bool} {Y : Nat → Nat → Int64} (h : okZ Y0 n E G lt Y (n + 1) 0) : ctY n Y ≤ cap := by
  unfold ctY
  split
  · exact Nat.zero_le _
  · exact Nat.le_trans (h.1 0 n (by omega) (Nat.le_refl _) (by omega)).2.2 (pow5_cap1 (by omega))
set_option maxHeartbeats 1000000 in
set_option maxRecDepth 20000 in
theorem cTallyInX (O : Nat → Int32) (P : Nat → Nat → Int32) (Y : Nat → Nat → Int64) (g : Nat → zC) {n : Nat} {E : Nat → Nat} (hE : eaR n P E) (hO : O 9 = nI n) (hn : n ≤ 20) {G : Nat → Int32} (hG : gfR (O 0) G) {lt : Nat → Nat → Bool} {s : Nat} (hs : s ≤ 8) (hy : syR P s lt) : zK 5 zX6_tallyIn [.ref 0, .int (nI s)] (wX O P Y g) (fun r w' => ∃ (a b : Int32) (Y' : Nat → Nat → Int64), r = some (.long (lN (ctY n Y'))) ∧ w' = wX (upd (upd (upd O 10 a) 11 b) 12 (O 0)) P Y' g ∧ okZ Y n E G lt Y' (n + 1) 0 ∧ btR a (fun k => lt k 0) ∧ btR b (fun k => lt k 1)) := by
  refine zK_of qX6_tallyIn (by decide +kernel) rfl ?_
  iterate 3 (refine zv_step (bX6_tallyIn 5) rfl rfl trivial ?_)
  refine zv_ifb (fun h3 => ?_) (fun h3 => ?_)
  · have q3 : ¬ s = 8 := fun e => h3 (by rw [e]; rfl)
    iterate 3 (refine zv_step (bX6_tallyIn 5) rfl rfl trivial ?_)
    refine zv_iale (bX6_tallyIn 5) rfl rfl (vp_in_nI (by omega) (by decide)) (show P 75 (nI s).toNatClampNeg = P 75 s by rw [nI_clamp (by omega)]) ?_
    iterate 4 (refine zv_step (bX6_tallyIn 5) rfl rfl trivial ?_)
    refine zv_ift (h3) ?_
    iterate 12 (refine zv_step (bX6_tallyIn 5) rfl rfl trivial ?_)
    refine zv_V3 (bX6_tallyIn 5) rfl rfl rfl rfl rfl rfl rfl ⟨rfl, rfl, rfl⟩ ⟨by decide, by decide⟩ ⟨Nat.zero_le _, Nat.zero_le _⟩ (hTallyX O P Y g hE hO hn hG (btR_kd (btR_1 (sy_n hy q3).1)) (btR_kd (btR_1 (sy_n hy q3).2))) ?_
    rintro _ _ ⟨Y1, rfl, rfl, hZ⟩
    iterate 1 (refine zv_step (bX6_tallyIn 5) rfl rfl trivial ?_)
    refine zv_minJ (bX6_tallyIn 5) rfl zMinL rfl ⟨by decide, by decide⟩ ⟨Nat.zero_le _, Nat.zero_le _⟩ ?_
    exact zv_lret (bX6_tallyIn 5) rfl rfl (Nat.zero_le _) (Nat.zero_le _) ⟨_, _, Y1, congrArg (fun v => some (Value.long v)) (min_cap (ctY_le hn hZ)), rfl, hZ, sy_n hy q3⟩
  · have q3 : s = 8 := (nI_eq (b := 8) (by omega) (by decide)).mp (Decidable.not_not.mp h3)
    have hy8 : syR P 8 lt := by rw [← q3]; exact hy
    iterate 6 (refine zv_step (bX6_tallyIn 5) rfl rfl trivial ?_)
    refine zv_iff (h3) ?_
    iterate 9 (refine zv_step (bX6_tallyIn 5) rfl rfl trivial ?_)
    refine zv_V3 (bX6_tallyIn 5) rfl rfl rfl rfl rfl rfl rfl ⟨rfl, rfl, rfl⟩ ⟨by decide, by decide⟩ ⟨Nat.zero_le _, Nat.zero_le _⟩ (hTallyX O P Y g hE hO hn hG (btR_kd (btR_1 (sy_8 hy8).1)) (btR_kd (btR_1 (sy_8 hy8).2))) ?_
    rintro _ _ ⟨Y1, rfl, rfl, hZ⟩
    iterate 1 (refine zv_step (bX6_tallyIn 5) rfl rfl trivial ?_)
    refine zv_minJ (bX6_tallyIn 5) rfl zMinL rfl ⟨by decide, by decide⟩ ⟨Nat.zero_le _, Nat.zero_le _⟩ ?_
    exact zv_lret (bX6_tallyIn 5) rfl rfl (Nat.zero_le _) (Nat.zero_le _) ⟨_, _, Y1, congrArg (fun v => some (Value.long v)) (min_cap (ctY_le hn hZ)), rfl, hZ, sy_8 hy8⟩
/-- what write answers of the class, and what it leaves -/
def wrC (O : Nat → Int32) (P : Nat → Nat → Int32) (Y : Nat → Nat → Int64) (E : Nat → Nat) (G : Nat → Int32) (lt : Nat → Nat → Nat → Bool) (u n : Nat) (x : Int32) (z : Int64) (O' : Nat → Int32) (P' : Nat → Nat → Int32) (R : Int32) : Prop :=
  (R = Int32.ofInt (-1) ∧ ¬ ((0 ≤ x.toInt ∧ x.toInt ≤ 8) ∧ 0 ≤ z.toInt) ∧ O' 1 = nI u ∧ P' = P) ∨
  ∃ (s : Nat) (Y1 : Nat → Nat → Int64), s ≤ 8 ∧ x = nI s ∧ 0 ≤ z.toInt ∧ okZ Y n E G (lt s) Y1 (n + 1) 0 ∧ ((R = c8 (-4) ∧ ¬ z < lN (ctY n Y1) ∧ O' 1 = nI u ∧ P' = P) ∨
    ∃ (p : Nat) (T : List (Nat × Nat)), z = lN p ∧ p < ctY n Y1 ∧ RT E (mG E G (lt s) (lY Y1)) (lY Y1) 20 0 n p T ∧ ((R = c8 (-2) ∧ 120 < u + T.length ∧ O' 1 = nI u ∧ ∀ i, ¬ (14 < i ∧ i ≤ 26) → P' i = P i) ∨
      (R = nI (u + T.length - 1) ∧ u + T.length ≤ 120 ∧ O' 1 = nI (u + T.length) ∧ (∀ i, ¬ (1 < i ∧ i ≤ 26) → P' i = P i) ∧ ∃ P1 : Nat → Nat → Int32, (∀ i, ¬ (14 < i ∧ i ≤ 26) → P1 i = P i) ∧ lyC 1 T (P1, u, []) (P', u + T.length, [u + T.length - 1]))))
set_option maxHeartbeats 1000000 in
set_option maxRecDepth 20000 in
theorem cWriteX (O : Nat → Int32) (P : Nat → Nat → Int32) (Y : Nat → Nat → Int64) (g : Nat → zC) {u : Nat} (hu : u ≤ 120) (hO1 : O 1 = nI u) {n : Nat} {E : Nat → Nat} (hE : eaR n P E) (hO : O 9 = nI n) (hn : n ≤ 20) {G : Nat → Int32} (hG : gfR (O 0) G) {lt : Nat → Nat → Nat → Bool} (hy : ∀ s, s ≤ 8 → syR P s (lt s)) (x : Int32) (z : Int64) : zK 66 zX6_write [.ref 0, .int x, .long z] (wX O P Y g) (fun r w' => ∃ (O' : Nat → Int32) (P' : Nat → Nat → Int32) (Y' : Nat → Nat → Int64) (R : Int32), r = some (.int R) ∧ w' = wX O' P' Y' g ∧ (wyI Y → wyI Y') ∧ (∀ j, j ≠ 1 → j ≠ 2 → j ≠ 10 → j ≠ 11 → j ≠ 12 → O' j = O j) ∧ wrC O P Y E G lt u n x z O' P' R) := by
  refine zK_of qX6_write (by decide +kernel) rfl ?_
  iterate 1 (refine zv_step (bX6_write 66) rfl rfl trivial ?_)
  refine zv_S1 (bX6_write 66) rfl rfl rfl rfl ⟨rfl, rfl, rfl⟩ ⟨by decide, by decide⟩ ⟨Nat.zero_le _, Nat.zero_le _⟩ (hX6_isStyleOrFree _ _) ?_
  rintro _ _ ⟨rfl, ⟨hx, rfl⟩ | ⟨hx, rfl⟩⟩
  · obtain ⟨s, hs, rfl⟩ := in_nat (x := x) (b := 8) (by decide) hx
    iterate 1 (refine zv_step (bX6_write 66) rfl rfl trivial ?_)
    refine zv_iff (by decide) ?_
    iterate 4 (refine zv_step (bX6_write 66) rfl rfl trivial ?_)
    refine zv_ifb (fun h10 => ?_) (fun h10 => ?_)
    · have z0 : 0 ≤ z.toInt := by
        rw [lg_cmp_ge, Int64.le_iff_toInt_le] at h10
        exact h10
      iterate 3 (refine zv_step (bX6_write 66) rfl rfl trivial ?_)
      refine zv_V1 (bX6_write 66) rfl rfl rfl rfl rfl rfl rfl ⟨rfl, rfl, rfl⟩ ⟨by decide, by decide⟩ ⟨Nat.zero_le _, Nat.zero_le _⟩ (cTallyInX O P Y g hE hO hn hG (s := s) (by omega) (hy s (by omega))) ?_
      rintro _ _ ⟨a, b, Y1, rfl, rfl, hZ, ha, hb⟩
      iterate 2 (refine zv_step (bX6_write 66) rfl rfl trivial ?_)
      refine zv_ifb (fun h22 => ?_) (fun h22 => ?_)
      · obtain ⟨p, hp, rfl⟩ := l_nat z0 (ctY_le hn hZ) ((lg_cmp_lt _ _).mp h22)
        have h0 : 0 < n ∧ p < lY Y1 0 n := by
          unfold ctY at hp
          split at hp
          · omega
          · exact ⟨by omega, hp⟩
        obtain ⟨T, hT, hT20⟩ := RT_ex hn (fun i j h1 h2 => (hZ.1 i j h1 h2 (by omega)).2.1) 20 0 n p h0.1 (Nat.le_refl _) (by omega) h0.2
        iterate 4 (refine zv_step (bX6_write 66) rfl rfl trivial ?_)
        refine zv_world (show _ = wX (upd (upd (upd (upd O 10 a) 11 b) 12 (O 0)) 2 (nI 0)) P Y1 g from rfl) ?_
        iterate 5 (refine zv_step (bX6_write 66) rfl rfl trivial ?_)
        refine zv_V2 (bX6_write 66) rfl rfl rfl rfl rfl rfl rfl ⟨rfl, rfl, rfl⟩ ⟨by decide, by decide⟩ ⟨Nat.zero_le _, Nat.zero_le _⟩ (hBuildX14 hE hn (O := (upd (upd (upd O 10 a) 11 b) 12 (O 0))) (Y := Y1) (g := g) hG ha hb (fun c d h1 h2 => (hZ.1 c d h1 h2 (by omega)).1) (fun c d h1 h2 => (hZ.1 c d h1 h2 (by omega)).2.2) hO h0.1 hT (u := 0) (P := P) (st := []) rfl (by omega)) ?_
        rintro _ _ ⟨P1, rfl, rfl, ly1, fr1, ln1⟩
        iterate 10 (refine zv_step (bX6_write 66) rfl rfl trivial ?_)
        refine zv_ifb (fun h66 => ?_) (fun h66 => ?_)
        · have hfit : u + T.length ≤ 120 := by
            have h9 : O 1 + nI (0 + T.length) ≤ nI 120 := h66
            rwa [hO1, nI_add, nI_leI (by omega) (by decide), Nat.zero_add] at h9
          refine zv_world (show wX (upd (upd (upd (upd O 10 a) 11 b) 12 (O 0)) 2 (nI (0 + T.length))) P1 Y1 g = wX (upd (upd (upd (upd (upd O 10 a) 11 b) 12 (O 0)) 2 (nI (0 + T.length))) 1 (nI u)) P1 Y1 g by rw [upd_same (show (upd (upd (upd (upd O 10 a) 11 b) 12 (O 0)) 2 (nI (0 + T.length))) 1 = nI u from hO1)]) ?_
          iterate 5 (refine zv_step (bX6_write 66) rfl rfl trivial ?_)
          refine zv_V2 (bX6_write 66) rfl rfl rfl rfl rfl rfl rfl ⟨rfl, rfl, rfl⟩ ⟨by decide, by decide⟩ ⟨Nat.zero_le _, Nat.zero_le _⟩ (hBuildX1 hE hn (O := (upd (upd (upd (upd O 10 a) 11 b) 12 (O 0)) 2 (nI (0 + T.length)))) (Y := Y1) (g := g) hG ha hb (fun c d h1 h2 => (hZ.1 c d h1 h2 (by omega)).1) (fun c d h1 h2 => (hZ.1 c d h1 h2 (by omega)).2.2) hO h0.1 hT (u := u) (P := P1) (st := []) (fr1 32 (by omega)) hfit) ?_
          rintro _ _ ⟨P2, rfl, rfl, ly2, fr2, ln2⟩
          exact zv_iret (bX6_write 66) rfl (Or.inl rfl) (Nat.zero_le _) (Nat.zero_le _) ⟨_, P2, Y1, _, rfl, rfl, hZ.2, fun j b1 b2 b3 b4 b5 => (upd_ne _ _ b1).trans ((upd_ne _ _ b2).trans (upd_3 O a b (O 0) b3 b4 b5)), Or.inr ⟨s, Y1, by omega, rfl, z0, hZ, Or.inr ⟨p, T, rfl, hp, hT, Or.inr ⟨rfl, hfit, rfl, fun i hi => (fr2 i (by omega)).trans (fr1 i (by omega)), P1, fr1, ly2⟩⟩⟩⟩
        · have hfit : ¬ u + T.length ≤ 120 := fun q => h66 (by show O 1 + nI (0 + T.length) ≤ nI 120; rw [hO1, nI_add, nI_leI (by omega) (by decide), Nat.zero_add]; exact q)
          iterate 1 (refine zv_step (bX6_write 66) rfl rfl trivial ?_)
          exact zv_iret (bX6_write 66) rfl (Or.inl rfl) (Nat.zero_le _) (Nat.zero_le _) ⟨_, P1, Y1, _, rfl, rfl, hZ.2, fun j b1 b2 b3 b4 b5 => (upd_ne _ _ b2).trans (upd_3 O a b (O 0) b3 b4 b5), Or.inr ⟨s, Y1, by omega, rfl, z0, hZ, Or.inr ⟨p, T, rfl, hp, hT, Or.inl ⟨rfl, by omega, hO1, fr1⟩⟩⟩⟩
      · have q22 : ¬ z < lN (ctY n Y1) := fun q => h22 ((lg_cmp_lt _ _).mpr q)
        iterate 1 (refine zv_step (bX6_write 66) rfl rfl trivial ?_)
        exact zv_iret (bX6_write 66) rfl (Or.inl rfl) (Nat.zero_le _) (Nat.zero_le _) ⟨_, P, Y1, _, rfl, rfl, hZ.2, fun j b1 b2 b3 b4 b5 => upd_3 O a b (O 0) b3 b4 b5, Or.inr ⟨s, Y1, by omega, rfl, z0, hZ, Or.inl ⟨rfl, q22, hO1, rfl⟩⟩⟩
    · have z0 : ¬ 0 ≤ z.toInt := fun q => h10 (by rw [lg_cmp_ge, Int64.le_iff_toInt_le]; exact q)
      iterate 1 (refine zv_step (bX6_write 66) rfl rfl trivial ?_)
      exact zv_iret (bX6_write 66) rfl (Or.inl rfl) (Nat.zero_le _) (Nat.zero_le _) ⟨O, P, Y, _, rfl, rfl, id, fun _ _ _ _ _ _ => rfl, Or.inl ⟨rfl, fun q => z0 q.2, hO1, rfl⟩⟩
  · skip
    iterate 1 (refine zv_step (bX6_write 66) rfl rfl trivial ?_)
    refine zv_ift (by decide) ?_
    iterate 1 (refine zv_step (bX6_write 66) rfl rfl trivial ?_)
    exact zv_iret (bX6_write 66) rfl (Or.inl rfl) (Nat.zero_le _) (Nat.zero_le _) ⟨O, P, Y, _, rfl, rfl, id, fun _ _ _ _ _ _ => rfl, Or.inl ⟨rfl, fun q => hx q.1, hO1, rfl⟩⟩
end
section
abbrev lfG (k v : Int32) : Prop := (k.toInt = 0 ∧ 0 ≤ v.toInt ∧ v.toInt ≤ 9) ∨ (k.toInt = 1 ∧ 0 ≤ v.toInt ∧ v.toInt ≤ 9999)
def lfV (u : Nat) (k v : Int32) : Int32 := if lfG k v then (if u = 120 then c8 (-2) else nI u) else Int32.ofInt (-1)
theorem lfV_n {u : Nat} {k v : Int32} (h : ¬ lfG k v) : Int32.ofInt (-1) = lfV u k v := (if_neg h).symm
theorem lfV_f {u : Nat} {k v : Int32} (h : lfG k v) (hu : u = 120) : c8 (-2) = lfV u k v := by
  unfold lfV
  rw [if_pos h, if_pos hu]
theorem lfV_y {u : Nat} {k v : Int32} (h : lfG k v) (hu : u < 120) : nI u = lfV u k v := by
  unfold lfV
  rw [if_pos h, if_neg (by omega)]
abbrev ndG (u : Nat) (k x y : Int32) : Prop := (2 ≤ k.toInt ∧ k.toInt ≤ 9) ∧ (0 ≤ x.toInt ∧ x.toInt < (u : Int)) ∧ (k.toInt ≤ 6 → 0 ≤ y.toInt ∧ y.toInt < (u : Int)) ∧ (k.toInt = 9 → 0 ≤ y.toInt ∧ y.toInt ≤ 9)
def ndS (S : Nat → Int32) (k x y : Int32) : Int32 := Int32.ofInt 1 + S x.toNatClampNeg + (if k.toInt ≤ 6 then S y.toNatClampNeg else Int32.ofInt 0)
def ndV (u : Nat) (S : Nat → Int32) (k x y : Int32) : Int32 := if ndG u k x y then (if u = 120 then c8 (-2) else if ndS S k x y ≤ c8 40 then nI u else c8 (-3)) else Int32.ofInt (-1)
theorem ndV_n {u : Nat} {S : Nat → Int32} {k x y : Int32} (h : ¬ ndG u k x y) : Int32.ofInt (-1) = ndV u S k x y := (if_neg h).symm
theorem ndV_f {u : Nat} {S : Nat → Int32} {k x y : Int32} (h : ndG u k x y) (hu : u = 120) : c8 (-2) = ndV u S k x y := by
  unfold ndV
  rw [if_pos h, if_pos hu]
theorem ndV_s {u : Nat} {S : Nat → Int32} {k x y : Int32} (h : ndG u k x y) (hu : u < 120) (hs : ¬ ndS S k x y ≤ c8 40) : c8 (-3) = ndV u S k x y := by
  unfold ndV
  rw [if_pos h, if_neg (by omega), if_neg hs]
theorem ndV_y {u : Nat} {S : Nat → Int32} {k x y : Int32} (h : ndG u k x y) (hu : u < 120) (hs : ndS S k x y ≤ c8 40) : nI u = ndV u S k x y := by
  unfold ndV
  rw [if_pos h, if_neg (by omega), if_pos hs]
def ndv (z : Int32) (k y : Int32) : Int32 := if k.toInt = 9 then y else z
def ndy (z : Int32) (k y : Int32) : Int32 := if k.toInt ≤ 6 then y else z
theorem iz0 {x : Int32} : x = 0 ↔ x.toInt = 0 := by rw [← Int32.toInt_inj]; rfl
theorem ic {x : Int32} (c : Int32) : x = c ↔ x.toInt = c.toInt := Int32.toInt_inj.symm
set_option maxHeartbeats 1000000 in
set_option maxRecDepth 20000 in
theorem cLeafX (O : Nat → Int32) (P : Nat → Nat → Int32) (Y : Nat → Nat → Int64) (g : Nat → zC) {u : Nat} (hu : u ≤ 120) (k v : Int32) : zK 3 zX6_leaf [.ref 0, .int k, .int v] (wX (upd O 1 (nI u)) P Y g) (fun r w' => r = some (.int (lfV u k v)) ∧ ((¬ (lfG k v ∧ u < 120) ∧ w' = (wX (upd O 1 (nI u)) P Y g)) ∨ ((lfG k v ∧ u < 120) ∧ ∃ sh, w' = wX (upd O 1 (nI (u + 1))) (stC 1 P u k v m1 m1 sh) Y g))) := by
  refine zK_of qX6_leaf (by decide +kernel) rfl ?_
  iterate 2 (refine zv_step (bX6_leaf 3) rfl rfl trivial ?_)
  refine zv_ifb (fun h1 => ?_) (fun h1 => ?_)
  · iterate 2 (refine zv_step (bX6_leaf 3) rfl rfl trivial ?_)
    refine zv_ifb (fun h12 => ?_) (fun h12 => ?_)
    · have q12 : v.toInt < 0 := by
        have h9 := h12
        rwa [Int32.lt_iff_toInt_lt, Int32.toInt_zero] at h9
      iterate 1 (refine zv_step (bX6_leaf 3) rfl rfl trivial ?_)
      have hk9 : k.toInt = 0 := iz0.mp h1
      have hng : ¬ lfG k v := fun q => by omega
      exact zv_iret (bX6_leaf 3) rfl (Or.inl rfl) (Nat.zero_le _) (Nat.zero_le _) ⟨congrArg (fun v => some (Value.int v)) (lfV_n hng), Or.inl ⟨fun q => hng q.1, rfl⟩⟩
    · have q12 : 0 ≤ v.toInt := by
        have h9 := h12
        rw [Int32.lt_iff_toInt_lt, Int32.toInt_zero] at h9
        omega
      iterate 3 (refine zv_step (bX6_leaf 3) rfl rfl trivial ?_)
      refine zv_iff (fun h => h (show k = 0 from h1)) ?_
      iterate 3 (refine zv_step (bX6_leaf 3) rfl rfl trivial ?_)
      refine zv_ifb (fun h28 => ?_) (fun h28 => ?_)
      · have q28 : v.toInt ≤ 9 := by
          have h9 := h28
          rw [Int32.le_iff_toInt_le] at h9
          exact h9
        iterate 2 (refine zv_step (bX6_leaf 3) rfl rfl trivial ?_)
        refine zv_V0 (bX6_leaf 3) rfl rfl rfl rfl rfl rfl rfl ⟨rfl, rfl, rfl⟩ ⟨by decide, by decide⟩ ⟨Nat.zero_le _, Nat.zero_le _⟩ (pFull1 (upd O 1 (nI u)) P Y g) ?_
        rintro _ _ ⟨rfl, ⟨hf, rfl⟩ | ⟨hf, rfl⟩⟩
        · have hfu : u = 120 := by
            have h9 : 120 ≤ (nI u).toInt := hf
            rw [nI_toInt (by omega)] at h9
            omega
          iterate 1 (refine zv_step (bX6_leaf 3) rfl rfl trivial ?_)
          refine zv_iff (by decide) ?_
          iterate 2 (refine zv_step (bX6_leaf 3) rfl rfl trivial ?_)
          have hlg : lfG k v := Or.inl ⟨iz0.mp h1, q12, q28⟩
          exact zv_iret (bX6_leaf 3) rfl (Or.inl rfl) (Nat.zero_le _) (Nat.zero_le _) ⟨congrArg (fun v => some (Value.int v)) (lfV_f hlg hfu), Or.inl ⟨fun q => by omega, rfl⟩⟩
        · have hlt : u < 120 := by
            have h9 : ¬ 120 ≤ (nI u).toInt := hf
            rw [nI_toInt (by omega)] at h9
            omega
          iterate 1 (refine zv_step (bX6_leaf 3) rfl rfl trivial ?_)
          refine zv_ift (by decide) ?_
          iterate 6 (refine zv_step (bX6_leaf 3) rfl rfl trivial ?_)
          refine zv_V4 (bX6_leaf 3) rfl rfl rfl rfl rfl rfl rfl ⟨rfl, rfl, rfl⟩ ⟨by decide, by decide⟩ ⟨Nat.zero_le _, Nat.zero_le _⟩ (pPut1 (upd O 1 (nI u)) P Y g (show (nI u).toInt ≤ 120 by rw [nI_toInt (by omega)]; omega) (m := u) hlt rfl (k) (v) (m1) (m1)) ?_
          rintro r9 w9 hpo
          obtain ⟨rfl, sh, rfl⟩ := putX1 hlt hpo
          have hlg : lfG k v := Or.inl ⟨iz0.mp h1, q12, q28⟩
          exact zv_iret (bX6_leaf 3) rfl (Or.inl rfl) (Nat.zero_le _) (Nat.zero_le _) ⟨congrArg (fun v => some (Value.int v)) (lfV_y hlg hlt), Or.inr ⟨⟨hlg, hlt⟩, sh, rfl⟩⟩
      · have q28 : ¬ v.toInt ≤ 9 := fun q => h28 (by rw [Int32.le_iff_toInt_le]; exact q)
        iterate 1 (refine zv_step (bX6_leaf 3) rfl rfl trivial ?_)
        have hk9 : k.toInt = 0 := iz0.mp h1
        have hng : ¬ lfG k v := fun q => by omega
        exact zv_iret (bX6_leaf 3) rfl (Or.inl rfl) (Nat.zero_le _) (Nat.zero_le _) ⟨congrArg (fun v => some (Value.int v)) (lfV_n hng), Or.inl ⟨fun q => hng q.1, rfl⟩⟩
  · iterate 3 (refine zv_step (bX6_leaf 3) rfl rfl trivial ?_)
    refine zv_ifb (fun h6 => ?_) (fun h6 => ?_)
    · iterate 2 (refine zv_step (bX6_leaf 3) rfl rfl trivial ?_)
      refine zv_ifb (fun h12 => ?_) (fun h12 => ?_)
      · have q12 : v.toInt < 0 := by
          have h9 := h12
          rwa [Int32.lt_iff_toInt_lt, Int32.toInt_zero] at h9
        iterate 1 (refine zv_step (bX6_leaf 3) rfl rfl trivial ?_)
        have hk9 : k.toInt = 1 := (ic _).mp h6
        have hng : ¬ lfG k v := fun q => by omega
        exact zv_iret (bX6_leaf 3) rfl (Or.inl rfl) (Nat.zero_le _) (Nat.zero_le _) ⟨congrArg (fun v => some (Value.int v)) (lfV_n hng), Or.inl ⟨fun q => hng q.1, rfl⟩⟩
      · have q12 : 0 ≤ v.toInt := by
          have h9 := h12
          rw [Int32.lt_iff_toInt_lt, Int32.toInt_zero] at h9
          omega
        iterate 3 (refine zv_step (bX6_leaf 3) rfl rfl trivial ?_)
        refine zv_ift (fun h => h1 h) ?_
        iterate 2 (refine zv_step (bX6_leaf 3) rfl rfl trivial ?_)
        refine zv_ifb (fun h28 => ?_) (fun h28 => ?_)
        · have q28 : v.toInt ≤ 9999 := by
            have h9 := h28
            rw [Int32.le_iff_toInt_le] at h9
            exact h9
          iterate 2 (refine zv_step (bX6_leaf 3) rfl rfl trivial ?_)
          refine zv_V0 (bX6_leaf 3) rfl rfl rfl rfl rfl rfl rfl ⟨rfl, rfl, rfl⟩ ⟨by decide, by decide⟩ ⟨Nat.zero_le _, Nat.zero_le _⟩ (pFull1 (upd O 1 (nI u)) P Y g) ?_
          rintro _ _ ⟨rfl, ⟨hf, rfl⟩ | ⟨hf, rfl⟩⟩
          · have hfu : u = 120 := by
              have h9 : 120 ≤ (nI u).toInt := hf
              rw [nI_toInt (by omega)] at h9
              omega
            iterate 1 (refine zv_step (bX6_leaf 3) rfl rfl trivial ?_)
            refine zv_iff (by decide) ?_
            iterate 2 (refine zv_step (bX6_leaf 3) rfl rfl trivial ?_)
            have hlg : lfG k v := Or.inr ⟨(ic _).mp h6, q12, q28⟩
            exact zv_iret (bX6_leaf 3) rfl (Or.inl rfl) (Nat.zero_le _) (Nat.zero_le _) ⟨congrArg (fun v => some (Value.int v)) (lfV_f hlg hfu), Or.inl ⟨fun q => by omega, rfl⟩⟩
          · have hlt : u < 120 := by
              have h9 : ¬ 120 ≤ (nI u).toInt := hf
              rw [nI_toInt (by omega)] at h9
              omega
            iterate 1 (refine zv_step (bX6_leaf 3) rfl rfl trivial ?_)
            refine zv_ift (by decide) ?_
            iterate 6 (refine zv_step (bX6_leaf 3) rfl rfl trivial ?_)
            refine zv_V4 (bX6_leaf 3) rfl rfl rfl rfl rfl rfl rfl ⟨rfl, rfl, rfl⟩ ⟨by decide, by decide⟩ ⟨Nat.zero_le _, Nat.zero_le _⟩ (pPut1 (upd O 1 (nI u)) P Y g (show (nI u).toInt ≤ 120 by rw [nI_toInt (by omega)]; omega) (m := u) hlt rfl (k) (v) (m1) (m1)) ?_
            rintro r9 w9 hpo
            obtain ⟨rfl, sh, rfl⟩ := putX1 hlt hpo
            have hlg : lfG k v := Or.inr ⟨(ic _).mp h6, q12, q28⟩
            exact zv_iret (bX6_leaf 3) rfl (Or.inl rfl) (Nat.zero_le _) (Nat.zero_le _) ⟨congrArg (fun v => some (Value.int v)) (lfV_y hlg hlt), Or.inr ⟨⟨hlg, hlt⟩, sh, rfl⟩⟩
        · have q28 : ¬ v.toInt ≤ 9999 := fun q => h28 (by rw [Int32.le_iff_toInt_le]; exact q)
          iterate 1 (refine zv_step (bX6_leaf 3) rfl rfl trivial ?_)
          have hk9 : k.toInt = 1 := (ic _).mp h6
          have hng : ¬ lfG k v := fun q => by omega
          exact zv_iret (bX6_leaf 3) rfl (Or.inl rfl) (Nat.zero_le _) (Nat.zero_le _) ⟨congrArg (fun v => some (Value.int v)) (lfV_n hng), Or.inl ⟨fun q => hng q.1, rfl⟩⟩
    · iterate 1 (refine zv_step (bX6_leaf 3) rfl rfl trivial ?_)
      have hng : ¬ lfG k v := fun q => by
        have a1 := fun e => h1 (iz0.mpr e)
        have a2 := fun e => h6 ((ic (Int32.ofInt 1)).mpr e)
        rcases q with q | q
        · exact a1 q.1
        · exact a2 q.1
      exact zv_iret (bX6_leaf 3) rfl (Or.inl rfl) (Nat.zero_le _) (Nat.zero_le _) ⟨congrArg (fun v => some (Value.int v)) (lfV_n hng), Or.inl ⟨fun q => hng q.1, rfl⟩⟩
set_option maxHeartbeats 1000000 in
set_option maxRecDepth 20000 in
theorem mLeafX (f : Nat → zC) (o : Nat → Int32) (A : Nat → Nat → Int32) (J : Nat → Nat → Int64) {u : Nat} (hu : u ≤ 120) (hT : tbI 0 u A) (k v : Int32) : zK 1 zX7_leaf [.ref 76, .int k, .int v] (wR f (upd o 0 (nI u)) A J) (fun r w' => r = some (.int (lfV u k v)) ∧ ((¬ (lfG k v ∧ u < 120) ∧ w' = (wR f (upd o 0 (nI u)) A J)) ∨ ((lfG k v ∧ u < 120) ∧ w' = wR f (upd o 0 (nI (u + 1))) (setsA A u k v m2 m2) J ∧ tbI 0 (u + 1) (setsA A u k v m2 m2)))) := by
  refine zK_of qX7_leaf (by decide +kernel) rfl ?_
  iterate 4 (refine zv_step (bX7_leaf 1) rfl rfl trivial ?_)
  refine zv_S3 (bX7_leaf 1) rfl rfl rfl rfl ⟨rfl, rfl, rfl⟩ ⟨by decide, by decide⟩ ⟨Nat.zero_le _, Nat.zero_le _⟩ (mIn _ _ _ _ (a := 0) (b := 1) (by decide) (by decide)) ?_
  rintro _ _ ⟨rfl, ⟨g1, rfl⟩ | ⟨g1, rfl⟩⟩
  · try rw [Int32.toInt_toInt64] at g1
    obtain ⟨kn, hk, rfl⟩ := in_nat (x := k) (b := 1) (by decide) g1
    iterate 1 (refine zv_step (bX7_leaf 1) rfl rfl trivial ?_)
    refine zv_iff (by decide) ?_
    iterate 5 (refine zv_step (bX7_leaf 1) rfl rfl trivial ?_)
    refine zv_ifb (fun h14 => ?_) (fun h14 => ?_)
    · iterate 1 (refine zv_step (bX7_leaf 1) rfl rfl trivial ?_)
      refine zv_S3 (bX7_leaf 1) rfl rfl rfl rfl ⟨rfl, rfl, rfl⟩ ⟨by decide, by decide⟩ ⟨Nat.zero_le _, Nat.zero_le _⟩ (mIn _ _ _ _ (a := 0) (b := 9999) (by decide) (by decide)) ?_
      rintro _ _ ⟨rfl, ⟨g2, rfl⟩ | ⟨g2, rfl⟩⟩
      · try rw [Int32.toInt_toInt64] at g2
        obtain ⟨w, hv, rfl⟩ := in_nat (x := v) (b := 9999) (by decide) g2
        iterate 1 (refine zv_step (bX7_leaf 1) rfl rfl trivial ?_)
        refine zv_ift (by decide) ?_
        iterate 4 (refine zv_step (bX7_leaf 1) rfl rfl trivial ?_)
        refine zv_ifb (fun h40 => ?_) (fun h40 => ?_)
        · have hlt : u < 120 := by
            rcases Nat.lt_or_ge u 120 with h | h
            · exact h
            · exact absurd (show nI u = c8 120 by rw [show u = 120 by omega]; rfl) h40
          iterate 7 (refine zv_step (bX7_leaf 1) rfl rfl trivial ?_)
          refine zv_V5 (bX7_leaf 1) rfl rfl rfl rfl rfl rfl rfl ⟨rfl, rfl, rfl⟩ ⟨by decide, by decide⟩ ⟨Nat.zero_le _, Nat.zero_le _⟩ (mSetsE f (upd o 0 (nI u)) A J (show upd o 0 (nI u) 0 = nI u from rfl) (by omega) vpm2 vpm2) ?_
          rintro _ _ ⟨rfl, rfl⟩
          iterate 10 (refine zv_step (bX7_leaf 1) rfl rfl trivial ?_)
          have hlg : lfG (nI kn) (nI w) := Or.inr ⟨by rw [nI_toInt (by omega)]; have : ¬ kn = 0 := fun e => h14 (by rw [e]; rfl); omega, by rw [nI_toInt (by omega)]; omega, by rw [nI_toInt (by omega)]; omega⟩
          exact zv_iret (bX7_leaf 1) rfl (Or.inl rfl) (Nat.zero_le _) (Nat.zero_le _) ⟨(by show some (Value.int (nI u + Int32.ofInt 1 - Int32.ofInt 1)) = _; rw [show nI u + Int32.ofInt 1 = nI (u + 1) from nI_1 _, show nI (u + 1) - Int32.ofInt 1 = nI u from nI_m1 _]; exact congrArg (fun v => some (Value.int v)) (lfV_y hlg hlt)), Or.inr ⟨⟨hlg, hlt⟩, by rw [show nI (u + 1) = nI u + Int32.ofInt 1 from (nI_1 u).symm]; rfl, tbI_sets hT (Nat.zero_le _) (by omega) (k := kn) (by omega) (Or.inl ⟨by omega, rfl, rfl⟩) ⟨fun h => absurd (show nI kn = 0 by rw [h.resolve_right (by omega)]; rfl) h14, fun h => ⟨w, by omega, rfl⟩, fun h => absurd h (by omega)⟩⟩⟩
        · have hfu : u = 120 := (nI_eq (b := 120) (by omega) (by decide)).mp (Decidable.not_not.mp h40)
          iterate 1 (refine zv_step (bX7_leaf 1) rfl rfl trivial ?_)
          have hlg : lfG (nI kn) (nI w) := Or.inr ⟨by rw [nI_toInt (by omega)]; have : ¬ kn = 0 := fun e => h14 (by rw [e]; rfl); omega, by rw [nI_toInt (by omega)]; omega, by rw [nI_toInt (by omega)]; omega⟩
          exact zv_iret (bX7_leaf 1) rfl (Or.inl rfl) (Nat.zero_le _) (Nat.zero_le _) ⟨congrArg (fun v => some (Value.int v)) (lfV_f hlg hfu), Or.inl ⟨fun q => by omega, rfl⟩⟩
      · try rw [Int32.toInt_toInt64] at g2
        iterate 1 (refine zv_step (bX7_leaf 1) rfl rfl trivial ?_)
        refine zv_iff (by decide) ?_
        iterate 1 (refine zv_step (bX7_leaf 1) rfl rfl trivial ?_)
        have hng : ¬ lfG (nI kn) v := fun q => by
          unfold lfG at q
          rw [nI_toInt (by omega)] at q
          rcases q with q | q
          · exact h14 (by rw [show kn = 0 by omega]; rfl)
          · exact g2 ⟨q.2.1, q.2.2⟩
        exact zv_iret (bX7_leaf 1) rfl (Or.inl rfl) (Nat.zero_le _) (Nat.zero_le _) ⟨congrArg (fun v => some (Value.int v)) (lfV_n hng), Or.inl ⟨fun q => hng q.1, rfl⟩⟩
    · have h9x : nI kn = 0 := Decidable.not_not.mp h14
      iterate 2 (refine zv_step (bX7_leaf 1) rfl rfl trivial ?_)
      refine zv_S3 (bX7_leaf 1) rfl rfl rfl rfl ⟨rfl, rfl, rfl⟩ ⟨by decide, by decide⟩ ⟨Nat.zero_le _, Nat.zero_le _⟩ (mIn _ _ _ _ (a := 0) (b := 9) (by decide) (by decide)) ?_
      rintro _ _ ⟨rfl, ⟨g2, rfl⟩ | ⟨g2, rfl⟩⟩
      · try rw [Int32.toInt_toInt64] at g2
        obtain ⟨w, hv, rfl⟩ := in_nat (x := v) (b := 9) (by decide) g2
        iterate 1 (refine zv_step (bX7_leaf 1) rfl rfl trivial ?_)
        refine zv_ift (by decide) ?_
        iterate 4 (refine zv_step (bX7_leaf 1) rfl rfl trivial ?_)
        refine zv_ifb (fun h40 => ?_) (fun h40 => ?_)
        · have hlt : u < 120 := by
            rcases Nat.lt_or_ge u 120 with h | h
            · exact h
            · exact absurd (show nI u = c8 120 by rw [show u = 120 by omega]; rfl) h40
          iterate 7 (refine zv_step (bX7_leaf 1) rfl rfl trivial ?_)
          refine zv_V5 (bX7_leaf 1) rfl rfl rfl rfl rfl rfl rfl ⟨rfl, rfl, rfl⟩ ⟨by decide, by decide⟩ ⟨Nat.zero_le _, Nat.zero_le _⟩ (mSetsE f (upd o 0 (nI u)) A J (show upd o 0 (nI u) 0 = nI u from rfl) (by omega) vpm2 vpm2) ?_
          rintro _ _ ⟨rfl, rfl⟩
          iterate 10 (refine zv_step (bX7_leaf 1) rfl rfl trivial ?_)
          have hlg : lfG (nI kn) (nI w) := Or.inl ⟨iz0.mp h9x, by rw [nI_toInt (by omega)]; omega, by rw [nI_toInt (by omega)]; omega⟩
          exact zv_iret (bX7_leaf 1) rfl (Or.inl rfl) (Nat.zero_le _) (Nat.zero_le _) ⟨(by show some (Value.int (nI u + Int32.ofInt 1 - Int32.ofInt 1)) = _; rw [show nI u + Int32.ofInt 1 = nI (u + 1) from nI_1 _, show nI (u + 1) - Int32.ofInt 1 = nI u from nI_m1 _]; exact congrArg (fun v => some (Value.int v)) (lfV_y hlg hlt)), Or.inr ⟨⟨hlg, hlt⟩, by rw [show nI (u + 1) = nI u + Int32.ofInt 1 from (nI_1 u).symm]; rfl, tbI_sets hT (Nat.zero_le _) (by omega) (k := kn) (by omega) (Or.inl ⟨by omega, rfl, rfl⟩) ⟨fun h => ⟨w, hv, rfl⟩, fun h => ⟨w, by omega, rfl⟩, fun h => absurd h (by omega)⟩⟩⟩
        · have hfu : u = 120 := (nI_eq (b := 120) (by omega) (by decide)).mp (Decidable.not_not.mp h40)
          iterate 1 (refine zv_step (bX7_leaf 1) rfl rfl trivial ?_)
          have hlg : lfG (nI kn) (nI w) := Or.inl ⟨iz0.mp h9x, by rw [nI_toInt (by omega)]; omega, by rw [nI_toInt (by omega)]; omega⟩
          exact zv_iret (bX7_leaf 1) rfl (Or.inl rfl) (Nat.zero_le _) (Nat.zero_le _) ⟨congrArg (fun v => some (Value.int v)) (lfV_f hlg hfu), Or.inl ⟨fun q => by omega, rfl⟩⟩
      · try rw [Int32.toInt_toInt64] at g2
        iterate 1 (refine zv_step (bX7_leaf 1) rfl rfl trivial ?_)
        refine zv_iff (by decide) ?_
        iterate 1 (refine zv_step (bX7_leaf 1) rfl rfl trivial ?_)
        have hng : ¬ lfG (nI kn) v := fun q => by
          unfold lfG at q
          rw [nI_toInt (by omega)] at q
          rcases q with q | q
          · exact g2 ⟨q.2.1, q.2.2⟩
          · exact absurd (iz0.mp h9x) (by rw [nI_toInt (by omega)]; omega)
        exact zv_iret (bX7_leaf 1) rfl (Or.inl rfl) (Nat.zero_le _) (Nat.zero_le _) ⟨congrArg (fun v => some (Value.int v)) (lfV_n hng), Or.inl ⟨fun q => hng q.1, rfl⟩⟩
  · try rw [Int32.toInt_toInt64] at g1
    iterate 1 (refine zv_step (bX7_leaf 1) rfl rfl trivial ?_)
    refine zv_ift (by decide) ?_
    iterate 1 (refine zv_step (bX7_leaf 1) rfl rfl trivial ?_)
    have hng : ¬ lfG k v := fun q => g1 (by omega)
    exact zv_iret (bX7_leaf 1) rfl (Or.inl rfl) (Nat.zero_le _) (Nat.zero_le _) ⟨congrArg (fun v => some (Value.int v)) (lfV_n hng), Or.inl ⟨fun q => hng q.1, rfl⟩⟩
set_option maxHeartbeats 1000000 in
set_option maxRecDepth 20000 in
theorem cNodeX (O : Nat → Int32) (P : Nat → Nat → Int32) (Y : Nat → Nat → Int64) (g : Nat → zC) {u : Nat} (hu : u ≤ 120) (k x y : Int32) : zK 3 zX6_node [.ref 0, .int k, .int x, .int y] (wX (upd O 1 (nI u)) P Y g) (fun r w' => r = some (.int (ndV u (P 6) k x y)) ∧ ((¬ (ndG u k x y ∧ u < 120 ∧ ndS (P 6) k x y ≤ c8 40) ∧ w' = (wX (upd O 1 (nI u)) P Y g)) ∨ ((ndG u k x y ∧ u < 120 ∧ ndS (P 6) k x y ≤ c8 40) ∧ ∃ sh, w' = wX (upd O 1 (nI (u + 1))) (stC 1 P u k (ndv m1 k y) x (ndy m1 k y) sh) Y g))) := by
  refine zK_of qX6_node (by decide +kernel) rfl ?_
  iterate 3 (refine zv_step (bX6_node 3) rfl rfl trivial ?_)
  refine zv_ifb (fun h2 => ?_) (fun h2 => ?_)
  · iterate 1 (refine zv_step (bX6_node 3) rfl rfl trivial ?_)
    have q2 : k.toInt < 2 := by
      have h9 := h2
      rw [Int32.lt_iff_toInt_lt] at h9
      exact h9
    have hng : ¬ ndG u k x y := fun q => by omega
    exact zv_iret (bX6_node 3) rfl (Or.inl rfl) (Nat.zero_le _) (Nat.zero_le _) ⟨congrArg (fun v => some (Value.int v)) (ndV_n hng), Or.inl ⟨fun q => hng q.1, rfl⟩⟩
  · have q2 : ¬ k.toInt < 2 := fun q => h2 (by rw [Int32.lt_iff_toInt_lt]; exact q)
    iterate 3 (refine zv_step (bX6_node 3) rfl rfl trivial ?_)
    refine zv_ifb (fun h8 => ?_) (fun h8 => ?_)
    · iterate 1 (refine zv_step (bX6_node 3) rfl rfl trivial ?_)
      have q8 : 9 < k.toInt := by
        have h9 := h8
        rw [Int32.lt_iff_toInt_lt] at h9
        exact h9
      have hng : ¬ ndG u k x y := fun q => by omega
      exact zv_iret (bX6_node 3) rfl (Or.inl rfl) (Nat.zero_le _) (Nat.zero_le _) ⟨congrArg (fun v => some (Value.int v)) (ndV_n hng), Or.inl ⟨fun q => hng q.1, rfl⟩⟩
    · have q8 : ¬ 9 < k.toInt := fun q => h8 (by rw [Int32.lt_iff_toInt_lt]; exact q)
      have k29 : 2 ≤ k.toInt ∧ k.toInt ≤ 9 := by omega
      iterate 3 (refine zv_step (bX6_node 3) rfl rfl trivial ?_)
      refine zv_V1 (bX6_node 3) rfl rfl rfl rfl rfl rfl rfl ⟨rfl, rfl, rfl⟩ ⟨by decide, by decide⟩ ⟨Nat.zero_le _, Nat.zero_le _⟩ (pHas1 (upd O 1 (nI u)) P Y g _) ?_
      rintro _ _ ⟨rfl, ⟨hx, rfl⟩ | ⟨hx, rfl⟩⟩
      · have hx1 : 0 ≤ x.toInt ∧ x.toInt < (u : Int) := by
          have h9 := hx
          rw [show (upd O 1 (nI u)) 1 = nI u from rfl, nI_toInt (by omega)] at h9
          exact h9
        iterate 1 (refine zv_step (bX6_node 3) rfl rfl trivial ?_)
        refine zv_ift (by decide) ?_
        iterate 1 (refine zv_step (bX6_node 3) rfl rfl trivial ?_)
        refine zv_S1 (bX6_node 3) rfl rfl rfl rfl ⟨rfl, rfl, rfl⟩ ⟨by decide, by decide⟩ ⟨Nat.zero_le _, Nat.zero_le _⟩ (hX1_isPair _ _) ?_
        rintro _ _ ⟨rfl, ⟨hpr, rfl⟩ | ⟨hpr, rfl⟩⟩
        · skip
          iterate 3 (refine zv_step (bX6_node 3) rfl rfl trivial ?_)
          refine zv_iff (by decide) ?_
          iterate 3 (refine zv_step (bX6_node 3) rfl rfl trivial ?_)
          refine zv_V1 (bX6_node 3) rfl rfl rfl rfl rfl rfl rfl ⟨rfl, rfl, rfl⟩ ⟨by decide, by decide⟩ ⟨Nat.zero_le _, Nat.zero_le _⟩ (pHas1 (upd O 1 (nI u)) P Y g _) ?_
          rintro _ _ ⟨rfl, ⟨hy, rfl⟩ | ⟨hy, rfl⟩⟩
          · have hy1 : 0 ≤ y.toInt ∧ y.toInt < (u : Int) := by
              have h9 := hy
              rw [show (upd O 1 (nI u)) 1 = nI u from rfl, nI_toInt (by omega)] at h9
              exact h9
            iterate 1 (refine zv_step (bX6_node 3) rfl rfl trivial ?_)
            refine zv_iff (by decide) ?_
            iterate 3 (refine zv_step (bX6_node 3) rfl rfl trivial ?_)
            refine zv_ifb (fun h49 => ?_) (fun h49 => ?_)
            · have q49 : ¬ k.toInt = 9 := fun e => h49 ((ic (c8 9)).mpr e)
              have hng : ndG u k x y := ⟨k29, hx1, fun _ => hy1, fun q => absurd q q49⟩
              iterate 2 (refine zv_step (bX6_node 3) rfl rfl trivial ?_)
              refine zv_V0 (bX6_node 3) rfl rfl rfl rfl rfl rfl rfl ⟨rfl, rfl, rfl⟩ ⟨by decide, by decide⟩ ⟨Nat.zero_le _, Nat.zero_le _⟩ (pFull1 (upd O 1 (nI u)) P Y g) ?_
              rintro _ _ ⟨rfl, ⟨hf, rfl⟩ | ⟨hf, rfl⟩⟩
              · have hfu : u = 120 := by
                  have h9 : 120 ≤ (nI u).toInt := hf
                  rw [nI_toInt (by omega)] at h9
                  omega
                iterate 1 (refine zv_step (bX6_node 3) rfl rfl trivial ?_)
                refine zv_iff (by decide) ?_
                iterate 1 (refine zv_step (bX6_node 3) rfl rfl trivial ?_)
                exact zv_iret (bX6_node 3) rfl (Or.inl rfl) (Nat.zero_le _) (Nat.zero_le _) ⟨congrArg (fun v => some (Value.int v)) (ndV_f hng hfu), Or.inl ⟨fun q => by omega, rfl⟩⟩
              · have hlt : u < 120 := by
                  have h9 : ¬ 120 ≤ (nI u).toInt := hf
                  rw [nI_toInt (by omega)] at h9
                  omega
                iterate 1 (refine zv_step (bX6_node 3) rfl rfl trivial ?_)
                refine zv_ift (by decide) ?_
                iterate 2 (refine zv_step (bX6_node 3) rfl rfl trivial ?_)
                refine zv_iff (by decide) ?_
                iterate 7 (refine zv_step (bX6_node 3) rfl rfl trivial ?_)
                refine zv_V1 (bX6_node 3) rfl rfl rfl rfl rfl rfl rfl ⟨rfl, rfl, rfl⟩ ⟨by decide, by decide⟩ ⟨Nat.zero_le _, Nat.zero_le _⟩ (pSizeOf1 (upd O 1 (nI u)) P Y g (show (nI u).toInt ≤ 120 by rw [nI_toInt (by omega)]; omega) _) ?_
                rintro _ _ ⟨rfl, ⟨hz1, rfl⟩ | ⟨hz1, rfl⟩⟩
                · skip
                  iterate 4 (refine zv_step (bX6_node 3) rfl rfl trivial ?_)
                  refine zv_V1 (bX6_node 3) rfl rfl rfl rfl rfl rfl rfl ⟨rfl, rfl, rfl⟩ ⟨by decide, by decide⟩ ⟨Nat.zero_le _, Nat.zero_le _⟩ (pSizeOf1 (upd O 1 (nI u)) P Y g (show (nI u).toInt ≤ 120 by rw [nI_toInt (by omega)]; omega) _) ?_
                  rintro _ _ ⟨rfl, ⟨hz2, rfl⟩ | ⟨hz2, rfl⟩⟩
                  · skip
                    have eS : ndS (P 6) k x y = Int32.ofInt 1 + P 6 x.toNatClampNeg + P 6 y.toNatClampNeg := by
                      unfold ndS
                      rw [if_pos hpr.2]
                    iterate 3 (refine zv_step (bX6_node 3) rfl rfl trivial ?_)
                    refine zv_ifb (fun h108 => ?_) (fun h108 => ?_)
                    · have hsz : ndS (P 6) k x y ≤ c8 40 := by rw [eS]; exact h108
                      iterate 6 (refine zv_step (bX6_node 3) rfl rfl trivial ?_)
                      refine zv_ift (fun h => q49 ((ic (c8 9)).mp h)) ?_
                      iterate 3 (refine zv_step (bX6_node 3) rfl rfl trivial ?_)
                      refine zv_V4 (bX6_node 3) rfl rfl rfl rfl rfl rfl rfl ⟨rfl, rfl, rfl⟩ ⟨by decide, by decide⟩ ⟨Nat.zero_le _, Nat.zero_le _⟩ (pPut1 (upd O 1 (nI u)) P Y g (show (nI u).toInt ≤ 120 by rw [nI_toInt (by omega)]; omega) (m := u) hlt rfl (k) (m1) (x) (y)) ?_
                      rintro r9 w9 hpo
                      obtain ⟨rfl, sh, rfl⟩ := putX1 hlt hpo
                      exact zv_iret (bX6_node 3) rfl (Or.inl rfl) (Nat.zero_le _) (Nat.zero_le _) ⟨congrArg (fun v => some (Value.int v)) (ndV_y hng hlt hsz), Or.inr ⟨⟨hng, hlt, hsz⟩, sh, by unfold ndv ndy; rw [if_neg q49, if_pos hpr.2]⟩⟩
                    · have hsz : ¬ ndS (P 6) k x y ≤ c8 40 := fun q => h108 (by rw [eS] at q; exact q)
                      iterate 1 (refine zv_step (bX6_node 3) rfl rfl trivial ?_)
                      exact zv_iret (bX6_node 3) rfl (Or.inl rfl) (Nat.zero_le _) (Nat.zero_le _) ⟨congrArg (fun v => some (Value.int v)) (ndV_s hng hlt hsz), Or.inl ⟨fun q => hsz q.2.2, rfl⟩⟩
                  · skip
                    exact absurd hy hz2
                · skip
                  exact absurd hx hz1
            · have q49 : k.toInt = 9 := (ic (c8 9)).mp (Decidable.not_not.mp h49)
              iterate 1 (refine zv_step (bX6_node 3) rfl rfl trivial ?_)
              refine zv_S1 (bX6_node 3) rfl rfl rfl rfl ⟨rfl, rfl, rfl⟩ ⟨by decide, by decide⟩ ⟨Nat.zero_le _, Nat.zero_le _⟩ (hX6_isLetter _ _) ?_
              rintro _ _ ⟨rfl, ⟨hl, rfl⟩ | ⟨hl, rfl⟩⟩
              · skip
                iterate 1 (refine zv_step (bX6_node 3) rfl rfl trivial ?_)
                refine zv_ift (by decide) ?_
                have hng : ndG u k x y := ⟨k29, hx1, fun _ => hy1, fun _ => hl⟩
                iterate 2 (refine zv_step (bX6_node 3) rfl rfl trivial ?_)
                refine zv_V0 (bX6_node 3) rfl rfl rfl rfl rfl rfl rfl ⟨rfl, rfl, rfl⟩ ⟨by decide, by decide⟩ ⟨Nat.zero_le _, Nat.zero_le _⟩ (pFull1 (upd O 1 (nI u)) P Y g) ?_
                rintro _ _ ⟨rfl, ⟨hf, rfl⟩ | ⟨hf, rfl⟩⟩
                · have hfu : u = 120 := by
                    have h9 : 120 ≤ (nI u).toInt := hf
                    rw [nI_toInt (by omega)] at h9
                    omega
                  iterate 1 (refine zv_step (bX6_node 3) rfl rfl trivial ?_)
                  refine zv_iff (by decide) ?_
                  iterate 1 (refine zv_step (bX6_node 3) rfl rfl trivial ?_)
                  exact zv_iret (bX6_node 3) rfl (Or.inl rfl) (Nat.zero_le _) (Nat.zero_le _) ⟨congrArg (fun v => some (Value.int v)) (ndV_f hng hfu), Or.inl ⟨fun q => by omega, rfl⟩⟩
                · have hlt : u < 120 := by
                    have h9 : ¬ 120 ≤ (nI u).toInt := hf
                    rw [nI_toInt (by omega)] at h9
                    omega
                  iterate 1 (refine zv_step (bX6_node 3) rfl rfl trivial ?_)
                  refine zv_ift (by decide) ?_
                  iterate 2 (refine zv_step (bX6_node 3) rfl rfl trivial ?_)
                  refine zv_iff (by decide) ?_
                  iterate 7 (refine zv_step (bX6_node 3) rfl rfl trivial ?_)
                  refine zv_V1 (bX6_node 3) rfl rfl rfl rfl rfl rfl rfl ⟨rfl, rfl, rfl⟩ ⟨by decide, by decide⟩ ⟨Nat.zero_le _, Nat.zero_le _⟩ (pSizeOf1 (upd O 1 (nI u)) P Y g (show (nI u).toInt ≤ 120 by rw [nI_toInt (by omega)]; omega) _) ?_
                  rintro _ _ ⟨rfl, ⟨hz1, rfl⟩ | ⟨hz1, rfl⟩⟩
                  · skip
                    iterate 4 (refine zv_step (bX6_node 3) rfl rfl trivial ?_)
                    refine zv_V1 (bX6_node 3) rfl rfl rfl rfl rfl rfl rfl ⟨rfl, rfl, rfl⟩ ⟨by decide, by decide⟩ ⟨Nat.zero_le _, Nat.zero_le _⟩ (pSizeOf1 (upd O 1 (nI u)) P Y g (show (nI u).toInt ≤ 120 by rw [nI_toInt (by omega)]; omega) _) ?_
                    rintro _ _ ⟨rfl, ⟨hz2, rfl⟩ | ⟨hz2, rfl⟩⟩
                    · skip
                      have eS : ndS (P 6) k x y = Int32.ofInt 1 + P 6 x.toNatClampNeg + P 6 y.toNatClampNeg := by
                        unfold ndS
                        rw [if_pos hpr.2]
                      iterate 3 (refine zv_step (bX6_node 3) rfl rfl trivial ?_)
                      refine zv_ifb (fun h108 => ?_) (fun h108 => ?_)
                      · have hsz : ndS (P 6) k x y ≤ c8 40 := by rw [eS]; exact h108
                        iterate 6 (refine zv_step (bX6_node 3) rfl rfl trivial ?_)
                        refine zv_iff (fun h => h49 h) ?_
                        iterate 4 (refine zv_step (bX6_node 3) rfl rfl trivial ?_)
                        refine zv_V4 (bX6_node 3) rfl rfl rfl rfl rfl rfl rfl ⟨rfl, rfl, rfl⟩ ⟨by decide, by decide⟩ ⟨Nat.zero_le _, Nat.zero_le _⟩ (pPut1 (upd O 1 (nI u)) P Y g (show (nI u).toInt ≤ 120 by rw [nI_toInt (by omega)]; omega) (m := u) hlt rfl (k) (y) (x) (y)) ?_
                        rintro r9 w9 hpo
                        obtain ⟨rfl, sh, rfl⟩ := putX1 hlt hpo
                        exact zv_iret (bX6_node 3) rfl (Or.inl rfl) (Nat.zero_le _) (Nat.zero_le _) ⟨congrArg (fun v => some (Value.int v)) (ndV_y hng hlt hsz), Or.inr ⟨⟨hng, hlt, hsz⟩, sh, by unfold ndv ndy; rw [if_pos q49, if_pos hpr.2]⟩⟩
                      · have hsz : ¬ ndS (P 6) k x y ≤ c8 40 := fun q => h108 (by rw [eS] at q; exact q)
                        iterate 1 (refine zv_step (bX6_node 3) rfl rfl trivial ?_)
                        exact zv_iret (bX6_node 3) rfl (Or.inl rfl) (Nat.zero_le _) (Nat.zero_le _) ⟨congrArg (fun v => some (Value.int v)) (ndV_s hng hlt hsz), Or.inl ⟨fun q => hsz q.2.2, rfl⟩⟩
                    · skip
                      exact absurd hy hz2
                  · skip
                    exact absurd hx hz1
              · skip
                iterate 1 (refine zv_step (bX6_node 3) rfl rfl trivial ?_)
                refine zv_iff (by decide) ?_
                iterate 1 (refine zv_step (bX6_node 3) rfl rfl trivial ?_)
                have hng : ¬ ndG u k x y := fun q => hl (q.2.2.2 q49)
                exact zv_iret (bX6_node 3) rfl (Or.inl rfl) (Nat.zero_le _) (Nat.zero_le _) ⟨congrArg (fun v => some (Value.int v)) (ndV_n hng), Or.inl ⟨fun q => hng q.1, rfl⟩⟩
          · have hy1 : ¬ (0 ≤ y.toInt ∧ y.toInt < (u : Int)) := fun q => hy (by rw [show (upd O 1 (nI u)) 1 = nI u from rfl, nI_toInt (by omega)]; exact q)
            iterate 1 (refine zv_step (bX6_node 3) rfl rfl trivial ?_)
            refine zv_ift (by decide) ?_
            iterate 1 (refine zv_step (bX6_node 3) rfl rfl trivial ?_)
            have hng : ¬ ndG u k x y := fun q => hy1 (q.2.2.1 hpr.2)
            exact zv_iret (bX6_node 3) rfl (Or.inl rfl) (Nat.zero_le _) (Nat.zero_le _) ⟨congrArg (fun v => some (Value.int v)) (ndV_n hng), Or.inl ⟨fun q => hng q.1, rfl⟩⟩
        · skip
          iterate 3 (refine zv_step (bX6_node 3) rfl rfl trivial ?_)
          refine zv_ift (by decide) ?_
          iterate 3 (refine zv_step (bX6_node 3) rfl rfl trivial ?_)
          refine zv_ifb (fun h49 => ?_) (fun h49 => ?_)
          · have q49 : ¬ k.toInt = 9 := fun e => h49 ((ic (c8 9)).mpr e)
            have hng : ndG u k x y := ⟨k29, hx1, fun q => absurd ⟨k29.1, q⟩ hpr, fun q => absurd q q49⟩
            iterate 2 (refine zv_step (bX6_node 3) rfl rfl trivial ?_)
            refine zv_V0 (bX6_node 3) rfl rfl rfl rfl rfl rfl rfl ⟨rfl, rfl, rfl⟩ ⟨by decide, by decide⟩ ⟨Nat.zero_le _, Nat.zero_le _⟩ (pFull1 (upd O 1 (nI u)) P Y g) ?_
            rintro _ _ ⟨rfl, ⟨hf, rfl⟩ | ⟨hf, rfl⟩⟩
            · have hfu : u = 120 := by
                have h9 : 120 ≤ (nI u).toInt := hf
                rw [nI_toInt (by omega)] at h9
                omega
              iterate 1 (refine zv_step (bX6_node 3) rfl rfl trivial ?_)
              refine zv_iff (by decide) ?_
              iterate 1 (refine zv_step (bX6_node 3) rfl rfl trivial ?_)
              exact zv_iret (bX6_node 3) rfl (Or.inl rfl) (Nat.zero_le _) (Nat.zero_le _) ⟨congrArg (fun v => some (Value.int v)) (ndV_f hng hfu), Or.inl ⟨fun q => by omega, rfl⟩⟩
            · have hlt : u < 120 := by
                have h9 : ¬ 120 ≤ (nI u).toInt := hf
                rw [nI_toInt (by omega)] at h9
                omega
              iterate 1 (refine zv_step (bX6_node 3) rfl rfl trivial ?_)
              refine zv_ift (by decide) ?_
              iterate 2 (refine zv_step (bX6_node 3) rfl rfl trivial ?_)
              refine zv_ift (by decide) ?_
              iterate 6 (refine zv_step (bX6_node 3) rfl rfl trivial ?_)
              refine zv_V1 (bX6_node 3) rfl rfl rfl rfl rfl rfl rfl ⟨rfl, rfl, rfl⟩ ⟨by decide, by decide⟩ ⟨Nat.zero_le _, Nat.zero_le _⟩ (pSizeOf1 (upd O 1 (nI u)) P Y g (show (nI u).toInt ≤ 120 by rw [nI_toInt (by omega)]; omega) _) ?_
              rintro _ _ ⟨rfl, ⟨hz1, rfl⟩ | ⟨hz1, rfl⟩⟩
              · skip
                iterate 4 (refine zv_step (bX6_node 3) rfl rfl trivial ?_)
                refine zv_V1 (bX6_node 3) rfl rfl rfl rfl rfl rfl rfl ⟨rfl, rfl, rfl⟩ ⟨by decide, by decide⟩ ⟨Nat.zero_le _, Nat.zero_le _⟩ (pSizeOf1 (upd O 1 (nI u)) P Y g (show (nI u).toInt ≤ 120 by rw [nI_toInt (by omega)]; omega) _) ?_
                rintro _ _ ⟨rfl, ⟨hz2, rfl⟩ | ⟨hz2, rfl⟩⟩
                · skip
                  exact absurd hz2.1 (by decide)
                · skip
                  have eS : ndS (P 6) k x y = Int32.ofInt 1 + P 6 x.toNatClampNeg + Int32.ofInt 0 := by
                    unfold ndS
                    rw [if_neg (show ¬ k.toInt ≤ 6 from fun q => hpr ⟨k29.1, q⟩)]
                  iterate 3 (refine zv_step (bX6_node 3) rfl rfl trivial ?_)
                  refine zv_ifb (fun h108 => ?_) (fun h108 => ?_)
                  · have hsz : ndS (P 6) k x y ≤ c8 40 := by rw [eS]; exact h108
                    iterate 6 (refine zv_step (bX6_node 3) rfl rfl trivial ?_)
                    refine zv_ift (fun h => q49 ((ic (c8 9)).mp h)) ?_
                    iterate 3 (refine zv_step (bX6_node 3) rfl rfl trivial ?_)
                    refine zv_V4 (bX6_node 3) rfl rfl rfl rfl rfl rfl rfl ⟨rfl, rfl, rfl⟩ ⟨by decide, by decide⟩ ⟨Nat.zero_le _, Nat.zero_le _⟩ (pPut1 (upd O 1 (nI u)) P Y g (show (nI u).toInt ≤ 120 by rw [nI_toInt (by omega)]; omega) (m := u) hlt rfl (k) (m1) (x) (m1)) ?_
                    rintro r9 w9 hpo
                    obtain ⟨rfl, sh, rfl⟩ := putX1 hlt hpo
                    exact zv_iret (bX6_node 3) rfl (Or.inl rfl) (Nat.zero_le _) (Nat.zero_le _) ⟨congrArg (fun v => some (Value.int v)) (ndV_y hng hlt hsz), Or.inr ⟨⟨hng, hlt, hsz⟩, sh, by unfold ndv ndy; rw [if_neg q49, if_neg (show ¬ k.toInt ≤ 6 from fun q => hpr ⟨k29.1, q⟩)]⟩⟩
                  · have hsz : ¬ ndS (P 6) k x y ≤ c8 40 := fun q => h108 (by rw [eS] at q; exact q)
                    iterate 1 (refine zv_step (bX6_node 3) rfl rfl trivial ?_)
                    exact zv_iret (bX6_node 3) rfl (Or.inl rfl) (Nat.zero_le _) (Nat.zero_le _) ⟨congrArg (fun v => some (Value.int v)) (ndV_s hng hlt hsz), Or.inl ⟨fun q => hsz q.2.2, rfl⟩⟩
              · skip
                exact absurd hx hz1
          · have q49 : k.toInt = 9 := (ic (c8 9)).mp (Decidable.not_not.mp h49)
            iterate 1 (refine zv_step (bX6_node 3) rfl rfl trivial ?_)
            refine zv_S1 (bX6_node 3) rfl rfl rfl rfl ⟨rfl, rfl, rfl⟩ ⟨by decide, by decide⟩ ⟨Nat.zero_le _, Nat.zero_le _⟩ (hX6_isLetter _ _) ?_
            rintro _ _ ⟨rfl, ⟨hl, rfl⟩ | ⟨hl, rfl⟩⟩
            · skip
              iterate 1 (refine zv_step (bX6_node 3) rfl rfl trivial ?_)
              refine zv_ift (by decide) ?_
              have hng : ndG u k x y := ⟨k29, hx1, fun q => absurd ⟨k29.1, q⟩ hpr, fun _ => hl⟩
              iterate 2 (refine zv_step (bX6_node 3) rfl rfl trivial ?_)
              refine zv_V0 (bX6_node 3) rfl rfl rfl rfl rfl rfl rfl ⟨rfl, rfl, rfl⟩ ⟨by decide, by decide⟩ ⟨Nat.zero_le _, Nat.zero_le _⟩ (pFull1 (upd O 1 (nI u)) P Y g) ?_
              rintro _ _ ⟨rfl, ⟨hf, rfl⟩ | ⟨hf, rfl⟩⟩
              · have hfu : u = 120 := by
                  have h9 : 120 ≤ (nI u).toInt := hf
                  rw [nI_toInt (by omega)] at h9
                  omega
                iterate 1 (refine zv_step (bX6_node 3) rfl rfl trivial ?_)
                refine zv_iff (by decide) ?_
                iterate 1 (refine zv_step (bX6_node 3) rfl rfl trivial ?_)
                exact zv_iret (bX6_node 3) rfl (Or.inl rfl) (Nat.zero_le _) (Nat.zero_le _) ⟨congrArg (fun v => some (Value.int v)) (ndV_f hng hfu), Or.inl ⟨fun q => by omega, rfl⟩⟩
              · have hlt : u < 120 := by
                  have h9 : ¬ 120 ≤ (nI u).toInt := hf
                  rw [nI_toInt (by omega)] at h9
                  omega
                iterate 1 (refine zv_step (bX6_node 3) rfl rfl trivial ?_)
                refine zv_ift (by decide) ?_
                iterate 2 (refine zv_step (bX6_node 3) rfl rfl trivial ?_)
                refine zv_ift (by decide) ?_
                iterate 6 (refine zv_step (bX6_node 3) rfl rfl trivial ?_)
                refine zv_V1 (bX6_node 3) rfl rfl rfl rfl rfl rfl rfl ⟨rfl, rfl, rfl⟩ ⟨by decide, by decide⟩ ⟨Nat.zero_le _, Nat.zero_le _⟩ (pSizeOf1 (upd O 1 (nI u)) P Y g (show (nI u).toInt ≤ 120 by rw [nI_toInt (by omega)]; omega) _) ?_
                rintro _ _ ⟨rfl, ⟨hz1, rfl⟩ | ⟨hz1, rfl⟩⟩
                · skip
                  iterate 4 (refine zv_step (bX6_node 3) rfl rfl trivial ?_)
                  refine zv_V1 (bX6_node 3) rfl rfl rfl rfl rfl rfl rfl ⟨rfl, rfl, rfl⟩ ⟨by decide, by decide⟩ ⟨Nat.zero_le _, Nat.zero_le _⟩ (pSizeOf1 (upd O 1 (nI u)) P Y g (show (nI u).toInt ≤ 120 by rw [nI_toInt (by omega)]; omega) _) ?_
                  rintro _ _ ⟨rfl, ⟨hz2, rfl⟩ | ⟨hz2, rfl⟩⟩
                  · skip
                    exact absurd hz2.1 (by decide)
                  · skip
                    have eS : ndS (P 6) k x y = Int32.ofInt 1 + P 6 x.toNatClampNeg + Int32.ofInt 0 := by
                      unfold ndS
                      rw [if_neg (show ¬ k.toInt ≤ 6 from fun q => hpr ⟨k29.1, q⟩)]
                    iterate 3 (refine zv_step (bX6_node 3) rfl rfl trivial ?_)
                    refine zv_ifb (fun h108 => ?_) (fun h108 => ?_)
                    · have hsz : ndS (P 6) k x y ≤ c8 40 := by rw [eS]; exact h108
                      iterate 6 (refine zv_step (bX6_node 3) rfl rfl trivial ?_)
                      refine zv_iff (fun h => h49 h) ?_
                      iterate 4 (refine zv_step (bX6_node 3) rfl rfl trivial ?_)
                      refine zv_V4 (bX6_node 3) rfl rfl rfl rfl rfl rfl rfl ⟨rfl, rfl, rfl⟩ ⟨by decide, by decide⟩ ⟨Nat.zero_le _, Nat.zero_le _⟩ (pPut1 (upd O 1 (nI u)) P Y g (show (nI u).toInt ≤ 120 by rw [nI_toInt (by omega)]; omega) (m := u) hlt rfl (k) (y) (x) (m1)) ?_
                      rintro r9 w9 hpo
                      obtain ⟨rfl, sh, rfl⟩ := putX1 hlt hpo
                      exact zv_iret (bX6_node 3) rfl (Or.inl rfl) (Nat.zero_le _) (Nat.zero_le _) ⟨congrArg (fun v => some (Value.int v)) (ndV_y hng hlt hsz), Or.inr ⟨⟨hng, hlt, hsz⟩, sh, by unfold ndv ndy; rw [if_pos q49, if_neg (show ¬ k.toInt ≤ 6 from fun q => hpr ⟨k29.1, q⟩)]⟩⟩
                    · have hsz : ¬ ndS (P 6) k x y ≤ c8 40 := fun q => h108 (by rw [eS] at q; exact q)
                      iterate 1 (refine zv_step (bX6_node 3) rfl rfl trivial ?_)
                      exact zv_iret (bX6_node 3) rfl (Or.inl rfl) (Nat.zero_le _) (Nat.zero_le _) ⟨congrArg (fun v => some (Value.int v)) (ndV_s hng hlt hsz), Or.inl ⟨fun q => hsz q.2.2, rfl⟩⟩
                · skip
                  exact absurd hx hz1
            · skip
              iterate 1 (refine zv_step (bX6_node 3) rfl rfl trivial ?_)
              refine zv_iff (by decide) ?_
              iterate 1 (refine zv_step (bX6_node 3) rfl rfl trivial ?_)
              have hng : ¬ ndG u k x y := fun q => hl (q.2.2.2 q49)
              exact zv_iret (bX6_node 3) rfl (Or.inl rfl) (Nat.zero_le _) (Nat.zero_le _) ⟨congrArg (fun v => some (Value.int v)) (ndV_n hng), Or.inl ⟨fun q => hng q.1, rfl⟩⟩
      · have hx1 : ¬ (0 ≤ x.toInt ∧ x.toInt < (u : Int)) := fun q => hx (by rw [show (upd O 1 (nI u)) 1 = nI u from rfl, nI_toInt (by omega)]; exact q)
        iterate 1 (refine zv_step (bX6_node 3) rfl rfl trivial ?_)
        refine zv_iff (by decide) ?_
        iterate 1 (refine zv_step (bX6_node 3) rfl rfl trivial ?_)
        have hng : ¬ ndG u k x y := fun q => hx1 q.2.1
        exact zv_iret (bX6_node 3) rfl (Or.inl rfl) (Nat.zero_le _) (Nat.zero_le _) ⟨congrArg (fun v => some (Value.int v)) (ndV_n hng), Or.inl ⟨fun q => hng q.1, rfl⟩⟩
set_option maxHeartbeats 1000000 in
set_option maxRecDepth 20000 in
theorem mNodeX (f : Nat → zC) (o : Nat → Int32) (A : Nat → Nat → Int32) (J : Nat → Nat → Int64) {u : Nat} (hu : u ≤ 120) (hT : tbI 0 u A) (k x y : Int32) : zK 2 zX7_node [.ref 76, .int k, .int x, .int y] (wR f (upd o 0 (nI u)) A J) (fun r w' => r = some (.int (ndV u (A 4) k x y)) ∧ ((¬ (ndG u k x y ∧ u < 120 ∧ ndS (A 4) k x y ≤ c8 40) ∧ w' = (wR f (upd o 0 (nI u)) A J)) ∨ ((ndG u k x y ∧ u < 120 ∧ ndS (A 4) k x y ≤ c8 40) ∧ w' = wR f (upd o 0 (nI (u + 1))) (setsA A u k (ndv m2 k y) x (ndy m2 k y)) J ∧ tbI 0 (u + 1) (setsA A u k (ndv m2 k y) x (ndy m2 k y))))) := by
  refine zK_of qX7_node (by decide +kernel) rfl ?_
  iterate 4 (refine zv_step (bX7_node 2) rfl rfl trivial ?_)
  refine zv_S3 (bX7_node 2) rfl rfl rfl rfl ⟨rfl, rfl, rfl⟩ ⟨by decide, by decide⟩ ⟨Nat.zero_le _, Nat.zero_le _⟩ (mIn _ _ _ _ (a := 2) (b := 9) (by decide) (by decide)) ?_
  rintro _ _ ⟨rfl, ⟨g1, rfl⟩ | ⟨g1, rfl⟩⟩
  · try rw [Int32.toInt_toInt64] at g1
    obtain ⟨k, hk9, rfl⟩ := in_nat (x := k) (b := 9) (by decide) ⟨by omega, by omega⟩
    rw [nI_toInt (by omega)] at g1
    iterate 1 (refine zv_step (bX7_node 2) rfl rfl trivial ?_)
    refine zv_iff (by decide) ?_
    iterate 2 (refine zv_step (bX7_node 2) rfl rfl trivial ?_)
    refine zv_V1 (bX7_node 2) rfl rfl rfl rfl rfl rfl rfl ⟨rfl, rfl, rfl⟩ ⟨by decide, by decide⟩ ⟨Nat.zero_le _, Nat.zero_le _⟩ (mIsNode f (upd o 0 (nI u)) A J hu rfl _) ?_
    rintro _ _ ⟨rfl, ⟨g2, rfl⟩ | ⟨g2, rfl⟩⟩
    · obtain ⟨n, hn, rfl⟩ := nd_of (by omega) g2
      iterate 1 (refine zv_step (bX7_node 2) rfl rfl trivial ?_)
      refine zv_iff (by decide) ?_
      iterate 3 (refine zv_step (bX7_node 2) rfl rfl trivial ?_)
      refine zv_ifb (fun h25 => ?_) (fun h25 => ?_)
      · have k9 : k ≠ 9 := fun e => h25 (by rw [e]; rfl)
        iterate 1 (refine zv_step (bX7_node 2) rfl rfl trivial ?_)
        refine zv_S1 (bX7_node 2) rfl rfl rfl rfl ⟨rfl, rfl, rfl⟩ ⟨by decide, by decide⟩ ⟨Nat.zero_le _, Nat.zero_le _⟩ (hX7_isTwo _ _) ?_
        rintro _ _ ⟨rfl, ⟨g4, rfl⟩ | ⟨g4, rfl⟩⟩
        · have k2 : 2 ≤ k ∧ k ≤ 6 := by rw [nI_toInt (by omega)] at g4; omega
          iterate 1 (refine zv_step (bX7_node 2) rfl rfl trivial ?_)
          refine zv_iff (by decide) ?_
          iterate 2 (refine zv_step (bX7_node 2) rfl rfl trivial ?_)
          refine zv_V1 (bX7_node 2) rfl rfl rfl rfl rfl rfl rfl ⟨rfl, rfl, rfl⟩ ⟨by decide, by decide⟩ ⟨Nat.zero_le _, Nat.zero_le _⟩ (mIsNode f (upd o 0 (nI u)) A J hu rfl _) ?_
          rintro _ _ ⟨rfl, ⟨g5, rfl⟩ | ⟨g5, rfl⟩⟩
          · obtain ⟨m, hm, rfl⟩ := nd_of (by omega) g5
            iterate 1 (refine zv_step (bX7_node 2) rfl rfl trivial ?_)
            refine zv_iff (by decide) ?_
            iterate 5 (refine zv_step (bX7_node 2) rfl rfl trivial ?_)
            refine zv_ift (by decide) ?_
            have hng : ndG u (nI k) (nI n) (nI m) := ⟨⟨by rw [nI_toInt (by omega)]; omega, by rw [nI_toInt (by omega)]; omega⟩, ⟨by rw [nI_toInt (by omega)]; omega, by rw [nI_toInt (by omega)]; omega⟩, fun _ => ⟨by rw [nI_toInt (by omega)]; omega, by rw [nI_toInt (by omega)]; omega⟩, fun q => by rw [nI_toInt (by omega)] at q; omega⟩
            iterate 4 (refine zv_step (bX7_node 2) rfl rfl trivial ?_)
            refine zv_ifb (fun h78 => ?_) (fun h78 => ?_)
            · have hlt : u < 120 := by
                rcases Nat.lt_or_ge u 120 with h | h
                · exact h
                · exact absurd (show nI u = c8 120 by rw [show u = 120 by omega]; rfl) h78
              have sn := (rN_sz (hT n (Nat.zero_le _) hn)).2.1
              have sm := (rN_sz (hT m (Nat.zero_le _) hm)).2.1
              have eS : ndS (A 4) (nI k) (nI n) (nI m) = nI 1 + nI (szN A n) + nI (szN A m) := by
                unfold ndS
                rw [nI_clamp (show n < 2 ^ 31 by omega), (rN_sz (hT n (Nat.zero_le _) hn)).2.2, nI_toInt (show k < 2 ^ 31 by omega), if_pos (show (k : Int) ≤ 6 by omega), nI_clamp (show m < 2 ^ 31 by omega), (rN_sz (hT m (Nat.zero_le _) hm)).2.2]
                rfl
              iterate 4 (refine zv_step (bX7_node 2) rfl rfl trivial ?_)
              refine zv_iale (bX7_node 2) rfl rfl (vp_in_nI (by omega) (by decide)) (show A 4 (nI n).toNatClampNeg = nI (szN A n) by rw [nI_clamp (by omega)]; exact (rN_sz (hT n (Nat.zero_le _) (by omega))).2.2) ?_
              iterate 2 (refine zv_step (bX7_node 2) rfl rfl trivial ?_)
              refine zv_S1 (bX7_node 2) rfl rfl rfl rfl ⟨rfl, rfl, rfl⟩ ⟨by decide, by decide⟩ ⟨Nat.zero_le _, Nat.zero_le _⟩ (mTwoY _ k2.1 k2.2) ?_
              rintro _ _ ⟨rfl, rfl⟩
              iterate 1 (refine zv_step (bX7_node 2) rfl rfl trivial ?_)
              refine zv_iff (by decide) ?_
              iterate 3 (refine zv_step (bX7_node 2) rfl rfl trivial ?_)
              refine zv_iale (bX7_node 2) rfl rfl (vp_in_nI (by omega) (by decide)) (show A 4 (nI m).toNatClampNeg = nI (szN A m) by rw [nI_clamp (by omega)]; exact (rN_sz (hT m (Nat.zero_le _) (by omega))).2.2) ?_
              iterate 4 (refine zv_step (bX7_node 2) rfl rfl trivial ?_)
              refine zv_ifb (fun h112 => ?_) (fun h112 => ?_)
              · have hz : 1 + szN A n + szN A m ≤ 40 := by
                  have h8 : nI 1 + nI (szN A n) + nI (szN A m) ≤ nI 40 := h112
                  rw [nI_add, nI_add, nI_leI (by omega) (by decide)] at h8
                  omega
                iterate 7 (refine zv_step (bX7_node 2) rfl rfl trivial ?_)
                refine zv_ift (fun h => k9 ((nI_eq (by omega) (by decide)).mp h)) ?_
                iterate 3 (refine zv_step (bX7_node 2) rfl rfl trivial ?_)
                refine zv_S1 (bX7_node 2) rfl rfl rfl rfl ⟨rfl, rfl, rfl⟩ ⟨by decide, by decide⟩ ⟨Nat.zero_le _, Nat.zero_le _⟩ (mTwoY _ k2.1 k2.2) ?_
                rintro _ _ ⟨rfl, rfl⟩
                iterate 1 (refine zv_step (bX7_node 2) rfl rfl trivial ?_)
                refine zv_iff (by decide) ?_
                iterate 2 (refine zv_step (bX7_node 2) rfl rfl trivial ?_)
                refine zv_V5 (bX7_node 2) rfl rfl rfl rfl rfl rfl rfl ⟨rfl, rfl, rfl⟩ ⟨by decide, by decide⟩ ⟨Nat.zero_le _, Nat.zero_le _⟩ (mSetsE f (upd o 0 (nI u)) A J (show upd o 0 (nI u) 0 = nI u from rfl) (by omega) (fun _ => vp_in_nI (by omega) (by decide)) (fun _ => vp_in_nI (by omega) (by decide))) ?_
                rintro _ _ ⟨rfl, rfl⟩
                iterate 10 (refine zv_step (bX7_node 2) rfl rfl trivial ?_)
                have hsz : ndS (A 4) (nI k) (nI n) (nI m) ≤ c8 40 := by rw [eS]; exact h112
                have ev := show ndv m2 (nI k) (nI m) = m2 from if_neg (by rw [nI_toInt (by omega)]; omega)
                have ey := show ndy m2 (nI k) (nI m) = nI m from if_pos (by rw [nI_toInt (by omega)]; omega)
                exact zv_iret (bX7_node 2) rfl (Or.inl rfl) (Nat.zero_le _) (Nat.zero_le _) ⟨(by show some (Value.int (nI u + Int32.ofInt 1 - Int32.ofInt 1)) = _; rw [show nI u + Int32.ofInt 1 = nI (u + 1) from nI_1 _, show nI (u + 1) - Int32.ofInt 1 = nI u from nI_m1 _]; exact congrArg (fun v => some (Value.int v)) (ndV_y hng hlt hsz)), Or.inr ⟨⟨hng, hlt, hsz⟩, by rw [ev, ey]; exact ⟨by rw [show nI (u + 1) = nI u + Int32.ofInt 1 from (nI_1 u).symm]; rfl, tbI_sets hT (Nat.zero_le _) (by omega) (k := k) (by omega) (Or.inr (Or.inl ⟨by omega, by omega, n, m, rfl, Nat.zero_le _, hn, rfl, Nat.zero_le _, hm, hz⟩)) ⟨fun h => absurd h (by omega), fun h => absurd h (by omega), fun _ _ => rfl⟩⟩⟩⟩
              · iterate 1 (refine zv_step (bX7_node 2) rfl rfl trivial ?_)
                have hsz : ¬ ndS (A 4) (nI k) (nI n) (nI m) ≤ c8 40 := fun q => h112 (by rw [eS] at q; exact q)
                exact zv_iret (bX7_node 2) rfl (Or.inl rfl) (Nat.zero_le _) (Nat.zero_le _) ⟨congrArg (fun v => some (Value.int v)) (ndV_s hng hlt hsz), Or.inl ⟨fun q => hsz q.2.2, rfl⟩⟩
            · have hfu : u = 120 := (nI_eq (b := 120) (by omega) (by decide)).mp (Decidable.not_not.mp h78)
              iterate 1 (refine zv_step (bX7_node 2) rfl rfl trivial ?_)
              exact zv_iret (bX7_node 2) rfl (Or.inl rfl) (Nat.zero_le _) (Nat.zero_le _) ⟨congrArg (fun v => some (Value.int v)) (ndV_f hng hfu), Or.inl ⟨fun q => by omega, rfl⟩⟩
          · skip
            iterate 1 (refine zv_step (bX7_node 2) rfl rfl trivial ?_)
            refine zv_ift (by decide) ?_
            iterate 4 (refine zv_step (bX7_node 2) rfl rfl trivial ?_)
            refine zv_iff (by decide) ?_
            iterate 1 (refine zv_step (bX7_node 2) rfl rfl trivial ?_)
            have hng : ¬ ndG u (nI k) (nI n) y := fun q => g5 (by have := q.2.2.1 (by rw [nI_toInt (by omega)]; omega); omega)
            exact zv_iret (bX7_node 2) rfl (Or.inl rfl) (Nat.zero_le _) (Nat.zero_le _) ⟨congrArg (fun v => some (Value.int v)) (ndV_n hng), Or.inl ⟨fun q => hng q.1, rfl⟩⟩
        · have k7 : 7 ≤ k := by rw [nI_toInt (by omega)] at g4; omega
          iterate 1 (refine zv_step (bX7_node 2) rfl rfl trivial ?_)
          refine zv_ift (by decide) ?_
          iterate 5 (refine zv_step (bX7_node 2) rfl rfl trivial ?_)
          refine zv_ift (by decide) ?_
          have hng : ndG u (nI k) (nI n) (y) := ⟨⟨by rw [nI_toInt (by omega)]; omega, by rw [nI_toInt (by omega)]; omega⟩, ⟨by rw [nI_toInt (by omega)]; omega, by rw [nI_toInt (by omega)]; omega⟩, fun q => by rw [nI_toInt (by omega)] at q; omega, fun q => by rw [nI_toInt (by omega)] at q; omega⟩
          iterate 4 (refine zv_step (bX7_node 2) rfl rfl trivial ?_)
          refine zv_ifb (fun h78 => ?_) (fun h78 => ?_)
          · have hlt : u < 120 := by
              rcases Nat.lt_or_ge u 120 with h | h
              · exact h
              · exact absurd (show nI u = c8 120 by rw [show u = 120 by omega]; rfl) h78
            have sn := (rN_sz (hT n (Nat.zero_le _) hn)).2.1
            have eS : ndS (A 4) (nI k) (nI n) (y) = nI 1 + nI (szN A n) + nI 0 := by
              unfold ndS
              rw [nI_clamp (show n < 2 ^ 31 by omega), (rN_sz (hT n (Nat.zero_le _) hn)).2.2, nI_toInt (show k < 2 ^ 31 by omega), if_neg (show ¬ (k : Int) ≤ 6 by omega)]
              rfl
            iterate 4 (refine zv_step (bX7_node 2) rfl rfl trivial ?_)
            refine zv_iale (bX7_node 2) rfl rfl (vp_in_nI (by omega) (by decide)) (show A 4 (nI n).toNatClampNeg = nI (szN A n) by rw [nI_clamp (by omega)]; exact (rN_sz (hT n (Nat.zero_le _) (by omega))).2.2) ?_
            iterate 2 (refine zv_step (bX7_node 2) rfl rfl trivial ?_)
            refine zv_S1 (bX7_node 2) rfl rfl rfl rfl ⟨rfl, rfl, rfl⟩ ⟨by decide, by decide⟩ ⟨Nat.zero_le _, Nat.zero_le _⟩ (mTwoN _ (by omega) (by omega)) ?_
            rintro _ _ ⟨rfl, rfl⟩
            iterate 1 (refine zv_step (bX7_node 2) rfl rfl trivial ?_)
            refine zv_ift (by decide) ?_
            iterate 4 (refine zv_step (bX7_node 2) rfl rfl trivial ?_)
            refine zv_ifb (fun h112 => ?_) (fun h112 => ?_)
            · have hz : 1 + szN A n ≤ 40 := by
                have h8 : nI 1 + nI (szN A n) + nI 0 ≤ nI 40 := h112
                rw [nI_add, nI_add, nI_leI (by omega) (by decide)] at h8
                omega
              iterate 7 (refine zv_step (bX7_node 2) rfl rfl trivial ?_)
              refine zv_ift (fun h => k9 ((nI_eq (by omega) (by decide)).mp h)) ?_
              iterate 3 (refine zv_step (bX7_node 2) rfl rfl trivial ?_)
              refine zv_S1 (bX7_node 2) rfl rfl rfl rfl ⟨rfl, rfl, rfl⟩ ⟨by decide, by decide⟩ ⟨Nat.zero_le _, Nat.zero_le _⟩ (mTwoN _ (by omega) (by omega)) ?_
              rintro _ _ ⟨rfl, rfl⟩
              iterate 1 (refine zv_step (bX7_node 2) rfl rfl trivial ?_)
              refine zv_ift (by decide) ?_
              iterate 1 (refine zv_step (bX7_node 2) rfl rfl trivial ?_)
              refine zv_V5 (bX7_node 2) rfl rfl rfl rfl rfl rfl rfl ⟨rfl, rfl, rfl⟩ ⟨by decide, by decide⟩ ⟨Nat.zero_le _, Nat.zero_le _⟩ (mSetsE f (upd o 0 (nI u)) A J (show upd o 0 (nI u) 0 = nI u from rfl) (by omega) (fun _ => vp_in_nI (by omega) (by decide)) vpm2) ?_
              rintro _ _ ⟨rfl, rfl⟩
              iterate 10 (refine zv_step (bX7_node 2) rfl rfl trivial ?_)
              have hsz : ndS (A 4) (nI k) (nI n) (y) ≤ c8 40 := by rw [eS]; exact h112
              have ev := show ndv m2 (nI k) (y) = m2 from if_neg (by rw [nI_toInt (by omega)]; omega)
              have ey := show ndy m2 (nI k) (y) = m2 from if_neg (by rw [nI_toInt (by omega)]; omega)
              exact zv_iret (bX7_node 2) rfl (Or.inl rfl) (Nat.zero_le _) (Nat.zero_le _) ⟨(by show some (Value.int (nI u + Int32.ofInt 1 - Int32.ofInt 1)) = _; rw [show nI u + Int32.ofInt 1 = nI (u + 1) from nI_1 _, show nI (u + 1) - Int32.ofInt 1 = nI u from nI_m1 _]; exact congrArg (fun v => some (Value.int v)) (ndV_y hng hlt hsz)), Or.inr ⟨⟨hng, hlt, hsz⟩, by rw [ev, ey]; exact ⟨by rw [show nI (u + 1) = nI u + Int32.ofInt 1 from (nI_1 u).symm]; rfl, tbI_sets hT (Nat.zero_le _) (by omega) (k := k) (by omega) (Or.inr (Or.inr ⟨k7, n, rfl, Nat.zero_le _, hn, rfl, hz⟩)) ⟨fun h => absurd h (by omega), fun h => absurd h (by omega), fun _ _ => rfl⟩⟩⟩⟩
            · iterate 1 (refine zv_step (bX7_node 2) rfl rfl trivial ?_)
              have hsz : ¬ ndS (A 4) (nI k) (nI n) (y) ≤ c8 40 := fun q => h112 (by rw [eS] at q; exact q)
              exact zv_iret (bX7_node 2) rfl (Or.inl rfl) (Nat.zero_le _) (Nat.zero_le _) ⟨congrArg (fun v => some (Value.int v)) (ndV_s hng hlt hsz), Or.inl ⟨fun q => hsz q.2.2, rfl⟩⟩
          · have hfu : u = 120 := (nI_eq (b := 120) (by omega) (by decide)).mp (Decidable.not_not.mp h78)
            iterate 1 (refine zv_step (bX7_node 2) rfl rfl trivial ?_)
            exact zv_iret (bX7_node 2) rfl (Or.inl rfl) (Nat.zero_le _) (Nat.zero_le _) ⟨congrArg (fun v => some (Value.int v)) (ndV_f hng hfu), Or.inl ⟨fun q => by omega, rfl⟩⟩
      · have k9 : k = 9 := (nI_eq (by omega) (by decide)).mp (Decidable.not_not.mp h25)
        iterate 4 (refine zv_step (bX7_node 2) rfl rfl trivial ?_)
        refine zv_S3 (bX7_node 2) rfl rfl rfl rfl ⟨rfl, rfl, rfl⟩ ⟨by decide, by decide⟩ ⟨Nat.zero_le _, Nat.zero_le _⟩ (mIn _ _ _ _ (a := 0) (b := 9) (by decide) (by decide)) ?_
        rintro _ _ ⟨rfl, ⟨g3, rfl⟩ | ⟨g3, rfl⟩⟩
        · try rw [Int32.toInt_toInt64] at g3
          obtain ⟨v, hv, rfl⟩ := in_nat (x := y) (b := 9) (by decide) g3
          iterate 1 (refine zv_step (bX7_node 2) rfl rfl trivial ?_)
          refine zv_iff (by decide) ?_
          iterate 6 (refine zv_step (bX7_node 2) rfl rfl trivial ?_)
          refine zv_ift (by decide) ?_
          have hng : ndG u (nI k) (nI n) (nI v) := ⟨⟨by rw [nI_toInt (by omega)]; omega, by rw [nI_toInt (by omega)]; omega⟩, ⟨by rw [nI_toInt (by omega)]; omega, by rw [nI_toInt (by omega)]; omega⟩, fun q => by rw [nI_toInt (by omega)] at q; omega, fun _ => ⟨by rw [nI_toInt (by omega)]; omega, by rw [nI_toInt (by omega)]; omega⟩⟩
          iterate 4 (refine zv_step (bX7_node 2) rfl rfl trivial ?_)
          refine zv_ifb (fun h78 => ?_) (fun h78 => ?_)
          · have hlt : u < 120 := by
              rcases Nat.lt_or_ge u 120 with h | h
              · exact h
              · exact absurd (show nI u = c8 120 by rw [show u = 120 by omega]; rfl) h78
            have sn := (rN_sz (hT n (Nat.zero_le _) hn)).2.1
            have eS : ndS (A 4) (nI k) (nI n) (nI v) = nI 1 + nI (szN A n) + nI 0 := by
              unfold ndS
              rw [nI_clamp (show n < 2 ^ 31 by omega), (rN_sz (hT n (Nat.zero_le _) hn)).2.2, nI_toInt (show k < 2 ^ 31 by omega), if_neg (show ¬ (k : Int) ≤ 6 by omega)]
              rfl
            iterate 4 (refine zv_step (bX7_node 2) rfl rfl trivial ?_)
            refine zv_iale (bX7_node 2) rfl rfl (vp_in_nI (by omega) (by decide)) (show A 4 (nI n).toNatClampNeg = nI (szN A n) by rw [nI_clamp (by omega)]; exact (rN_sz (hT n (Nat.zero_le _) (by omega))).2.2) ?_
            iterate 2 (refine zv_step (bX7_node 2) rfl rfl trivial ?_)
            refine zv_S1 (bX7_node 2) rfl rfl rfl rfl ⟨rfl, rfl, rfl⟩ ⟨by decide, by decide⟩ ⟨Nat.zero_le _, Nat.zero_le _⟩ (mTwoN _ (by omega) (by omega)) ?_
            rintro _ _ ⟨rfl, rfl⟩
            iterate 1 (refine zv_step (bX7_node 2) rfl rfl trivial ?_)
            refine zv_ift (by decide) ?_
            iterate 4 (refine zv_step (bX7_node 2) rfl rfl trivial ?_)
            refine zv_ifb (fun h112 => ?_) (fun h112 => ?_)
            · have hz : 1 + szN A n ≤ 40 := by
                have h8 : nI 1 + nI (szN A n) + nI 0 ≤ nI 40 := h112
                rw [nI_add, nI_add, nI_leI (by omega) (by decide)] at h8
                omega
              iterate 7 (refine zv_step (bX7_node 2) rfl rfl trivial ?_)
              refine zv_iff (fun h => h (by rw [k9]; rfl)) ?_
              iterate 4 (refine zv_step (bX7_node 2) rfl rfl trivial ?_)
              refine zv_S1 (bX7_node 2) rfl rfl rfl rfl ⟨rfl, rfl, rfl⟩ ⟨by decide, by decide⟩ ⟨Nat.zero_le _, Nat.zero_le _⟩ (mTwoN _ (by omega) (by omega)) ?_
              rintro _ _ ⟨rfl, rfl⟩
              iterate 1 (refine zv_step (bX7_node 2) rfl rfl trivial ?_)
              refine zv_ift (by decide) ?_
              iterate 1 (refine zv_step (bX7_node 2) rfl rfl trivial ?_)
              refine zv_V5 (bX7_node 2) rfl rfl rfl rfl rfl rfl rfl ⟨rfl, rfl, rfl⟩ ⟨by decide, by decide⟩ ⟨Nat.zero_le _, Nat.zero_le _⟩ (mSetsE f (upd o 0 (nI u)) A J (show upd o 0 (nI u) 0 = nI u from rfl) (by omega) (fun _ => vp_in_nI (by omega) (by decide)) vpm2) ?_
              rintro _ _ ⟨rfl, rfl⟩
              iterate 10 (refine zv_step (bX7_node 2) rfl rfl trivial ?_)
              have hsz : ndS (A 4) (nI k) (nI n) (nI v) ≤ c8 40 := by rw [eS]; exact h112
              have ev := show ndv m2 (nI k) (nI v) = nI v from if_pos (by rw [nI_toInt (by omega)]; omega)
              have ey := show ndy m2 (nI k) (nI v) = m2 from if_neg (by rw [nI_toInt (by omega)]; omega)
              exact zv_iret (bX7_node 2) rfl (Or.inl rfl) (Nat.zero_le _) (Nat.zero_le _) ⟨(by show some (Value.int (nI u + Int32.ofInt 1 - Int32.ofInt 1)) = _; rw [show nI u + Int32.ofInt 1 = nI (u + 1) from nI_1 _, show nI (u + 1) - Int32.ofInt 1 = nI u from nI_m1 _]; exact congrArg (fun v => some (Value.int v)) (ndV_y hng hlt hsz)), Or.inr ⟨⟨hng, hlt, hsz⟩, by rw [ev, ey]; exact ⟨by rw [show nI (u + 1) = nI u + Int32.ofInt 1 from (nI_1 u).symm]; rfl, tbI_sets hT (Nat.zero_le _) (by omega) (k := k) (by omega) (Or.inr (Or.inr ⟨by omega, n, rfl, Nat.zero_le _, hn, rfl, hz⟩)) ⟨fun _ => ⟨v, hv, rfl⟩, fun h => absurd h (by omega), fun _ h => absurd h (by omega)⟩⟩⟩⟩
            · iterate 1 (refine zv_step (bX7_node 2) rfl rfl trivial ?_)
              have hsz : ¬ ndS (A 4) (nI k) (nI n) (nI v) ≤ c8 40 := fun q => h112 (by rw [eS] at q; exact q)
              exact zv_iret (bX7_node 2) rfl (Or.inl rfl) (Nat.zero_le _) (Nat.zero_le _) ⟨congrArg (fun v => some (Value.int v)) (ndV_s hng hlt hsz), Or.inl ⟨fun q => hsz q.2.2, rfl⟩⟩
          · have hfu : u = 120 := (nI_eq (b := 120) (by omega) (by decide)).mp (Decidable.not_not.mp h78)
            iterate 1 (refine zv_step (bX7_node 2) rfl rfl trivial ?_)
            exact zv_iret (bX7_node 2) rfl (Or.inl rfl) (Nat.zero_le _) (Nat.zero_le _) ⟨congrArg (fun v => some (Value.int v)) (ndV_f hng hfu), Or.inl ⟨fun q => by omega, rfl⟩⟩
        · try rw [Int32.toInt_toInt64] at g3
          iterate 1 (refine zv_step (bX7_node 2) rfl rfl trivial ?_)
          refine zv_ift (by decide) ?_
          iterate 4 (refine zv_step (bX7_node 2) rfl rfl trivial ?_)
          refine zv_iff (by decide) ?_
          iterate 1 (refine zv_step (bX7_node 2) rfl rfl trivial ?_)
          have hng : ¬ ndG u (nI k) (nI n) y := fun q => g3 (by have := q.2.2.2 (by rw [nI_toInt (by omega)]; omega); omega)
          exact zv_iret (bX7_node 2) rfl (Or.inl rfl) (Nat.zero_le _) (Nat.zero_le _) ⟨congrArg (fun v => some (Value.int v)) (ndV_n hng), Or.inl ⟨fun q => hng q.1, rfl⟩⟩
    · skip
      iterate 1 (refine zv_step (bX7_node 2) rfl rfl trivial ?_)
      refine zv_ift (by decide) ?_
      iterate 4 (refine zv_step (bX7_node 2) rfl rfl trivial ?_)
      refine zv_iff (by decide) ?_
      iterate 1 (refine zv_step (bX7_node 2) rfl rfl trivial ?_)
      have hng : ¬ ndG u (nI k) x y := fun q => g2 (by omega)
      exact zv_iret (bX7_node 2) rfl (Or.inl rfl) (Nat.zero_le _) (Nat.zero_le _) ⟨congrArg (fun v => some (Value.int v)) (ndV_n hng), Or.inl ⟨fun q => hng q.1, rfl⟩⟩
  · try rw [Int32.toInt_toInt64] at g1
    iterate 1 (refine zv_step (bX7_node 2) rfl rfl trivial ?_)
    refine zv_ift (by decide) ?_
    iterate 4 (refine zv_step (bX7_node 2) rfl rfl trivial ?_)
    refine zv_iff (by decide) ?_
    iterate 1 (refine zv_step (bX7_node 2) rfl rfl trivial ?_)
    have hng : ¬ ndG u k x y := fun q => g1 (by omega)
    exact zv_iret (bX7_node 2) rfl (Or.inl rfl) (Nat.zero_le _) (Nat.zero_le _) ⟨congrArg (fun v => some (Value.int v)) (ndV_n hng), Or.inl ⟨fun q => hng q.1, rfl⟩⟩
def unV (u : Nat) (b : Prop) [Decidable b] : Int32 := if u = 0 then Int32.ofInt (-1) else if b then c8 (-3) else nI (u - 1)
set_option maxHeartbeats 1000000 in
set_option maxRecDepth 20000 in
theorem cUndoX (O : Nat → Int32) (P : Nat → Nat → Int32) (Y : Nat → Nat → Int64) (g : Nat → zC) {u : Nat} (hu : u ≤ 120) (hb : O 13 = 0 ∨ O 13 = 1) : zK 1 zX6_undo [.ref 0] (wX (upd O 1 (nI u)) P Y g) (fun r w' => r = some (.int (unV u (O 13 = 1 ∧ P 56 0 = nI (u - 1)))) ∧ ((¬ (u ≠ 0 ∧ ¬ (O 13 = 1 ∧ P 56 0 = nI (u - 1))) ∧ w' = (wX (upd O 1 (nI u)) P Y g)) ∨ ((u ≠ 0 ∧ ¬ (O 13 = 1 ∧ P 56 0 = nI (u - 1))) ∧ w' = wX (upd O 1 (nI (u - 1))) P Y g))) := by
  refine zK_of qX6_undo (by decide +kernel) rfl ?_
  iterate 4 (refine zv_step (bX6_undo 1) rfl rfl trivial ?_)
  refine zv_ifb (fun h7 => ?_) (fun h7 => ?_)
  · have h0 : u ≠ 0 := fun e => h7 (by show nI u = 0; rw [e]; rfl)
    iterate 2 (refine zv_step (bX6_undo 1) rfl rfl trivial ?_)
    refine zv_V0 (bX6_undo 1) rfl rfl rfl rfl rfl rfl rfl ⟨rfl, rfl, rfl⟩ ⟨by decide, by decide⟩ ⟨Nat.zero_le _, Nat.zero_le _⟩ (wBegun (upd O 1 (nI u)) P Y g hb) ?_
    rintro _ _ ⟨rfl, rfl⟩
    iterate 1 (refine zv_step (bX6_undo 1) rfl rfl trivial ?_)
    refine zv_ifb (fun h19 => ?_) (fun h19 => ?_)
    · iterate 10 (refine zv_step (bX6_undo 1) rfl rfl trivial ?_)
      have q38 : ¬ (O 13 = 1 ∧ P 56 0 = nI (u - 1)) := fun q => absurd (show O 13 = 0 from h19) (by rw [q.1]; decide)
      have e9 : nI u - Int32.ofInt 1 = nI (u - 1) := sub_1 (by omega)
      exact zv_iret (bX6_undo 1) rfl (Or.inl rfl) (Nat.zero_le _) (Nat.zero_le _) ⟨by show some (Value.int (nI u - Int32.ofInt 1)) = _; unfold unV; rw [if_neg h0, if_neg q38, e9], Or.inr ⟨⟨h0, q38⟩, by rw [← e9]; rfl⟩⟩
    · iterate 2 (refine zv_step (bX6_undo 1) rfl rfl trivial ?_)
      refine zv_V0 (bX6_undo 1) rfl rfl rfl rfl rfl rfl rfl ⟨rfl, rfl, rfl⟩ ⟨by decide, by decide⟩ ⟨Nat.zero_le _, Nat.zero_le _⟩ (wTop (upd O 1 (nI u)) P Y g) ?_
      rintro _ _ ⟨rfl, rfl⟩
      iterate 6 (refine zv_step (bX6_undo 1) rfl rfl trivial ?_)
      refine zv_ifb (fun h38 => ?_) (fun h38 => ?_)
      · have q38 : ¬ (O 13 = 1 ∧ P 56 0 = nI (u - 1)) := fun q => h38 (show P 56 0 = nI u - Int32.ofInt 1 by rw [sub_1 (by omega)]; exact q.2)
        iterate 10 (refine zv_step (bX6_undo 1) rfl rfl trivial ?_)
        have e9 : nI u - Int32.ofInt 1 = nI (u - 1) := sub_1 (by omega)
        exact zv_iret (bX6_undo 1) rfl (Or.inl rfl) (Nat.zero_le _) (Nat.zero_le _) ⟨by show some (Value.int (nI u - Int32.ofInt 1)) = _; unfold unV; rw [if_neg h0, if_neg q38, e9], Or.inr ⟨⟨h0, q38⟩, by rw [← e9]; rfl⟩⟩
      · have q38 : (O 13 = 1 ∧ P 56 0 = nI (u - 1)) := ⟨hb.resolve_left h19, by have h9 : P 56 0 = nI u - Int32.ofInt 1 := Decidable.not_not.mp h38; rw [sub_1 (by omega)] at h9; exact h9⟩
        iterate 1 (refine zv_step (bX6_undo 1) rfl rfl trivial ?_)
        exact zv_iret (bX6_undo 1) rfl (Or.inl rfl) (Nat.zero_le _) (Nat.zero_le _) ⟨by unfold unV; rw [if_neg h0, if_pos q38], Or.inl ⟨fun q => q.2 q38, rfl⟩⟩
  · have h0 : u = 0 := (nI_eq (b := 0) (by omega) (by decide)).mp (Decidable.not_not.mp h7)
    iterate 1 (refine zv_step (bX6_undo 1) rfl rfl trivial ?_)
    exact zv_iret (bX6_undo 1) rfl (Or.inl rfl) (Nat.zero_le _) (Nat.zero_le _) ⟨by unfold unV; rw [if_pos h0], Or.inl ⟨fun q => q.1 h0, rfl⟩⟩
set_option maxHeartbeats 1000000 in
set_option maxRecDepth 20000 in
theorem mUndoX (f : Nat → zC) (o : Nat → Int32) (A : Nat → Nat → Int32) (J : Nat → Nat → Int64) {u : Nat} (hu : u ≤ 120) (hb : o 30 = 0 ∨ o 30 = 1) : zK 0 zX7_undo [.ref 76] (wR f (upd o 0 (nI u)) A J) (fun r w' => r = some (.int (unV u (o 30 = 1 ∧ A 20 0 = nI (u - 1)))) ∧ ((¬ (u ≠ 0 ∧ ¬ (o 30 = 1 ∧ A 20 0 = nI (u - 1))) ∧ w' = (wR f (upd o 0 (nI u)) A J)) ∨ ((u ≠ 0 ∧ ¬ (o 30 = 1 ∧ A 20 0 = nI (u - 1))) ∧ w' = wR f (upd o 0 (nI (u - 1))) A J))) := by
  refine zK_of qX7_undo (by decide +kernel) rfl ?_
  iterate 3 (refine zv_step (bX7_undo 0) rfl rfl trivial ?_)
  refine zv_ifb (fun h4 => ?_) (fun h4 => ?_)
  · have h0 : u ≠ 0 := fun e => h4 (by rw [e]; rfl)
    iterate 3 (refine zv_step (bX7_undo 0) rfl rfl trivial ?_)
    refine zv_ifb (fun h13 => ?_) (fun h13 => ?_)
    · iterate 8 (refine zv_step (bX7_undo 0) rfl rfl trivial ?_)
      have q28 : ¬ (o 30 = 1 ∧ A 20 0 = nI (u - 1)) := fun q => absurd (show o 30 = 0 from h13) (by rw [q.1]; decide)
      have e9 : nI u - Int32.ofInt 1 = nI (u - 1) := sub_1 (by omega)
      exact zv_iret (bX7_undo 0) rfl (Or.inl rfl) (Nat.zero_le _) (Nat.zero_le _) ⟨by show some (Value.int (nI u - Int32.ofInt 1)) = _; unfold unV; rw [if_neg h0, if_neg q28, e9], Or.inr ⟨⟨h0, q28⟩, by rw [← e9]; rfl⟩⟩
    · iterate 3 (refine zv_step (bX7_undo 0) rfl rfl trivial ?_)
      refine zv_step (bX7_undo 0) rfl rfl (show vp_in (nI 0) 41 from vp_in_nI (by decide) (by decide)) ?_
      iterate 5 (refine zv_step (bX7_undo 0) rfl rfl trivial ?_)
      refine zv_ifb (fun h28 => ?_) (fun h28 => ?_)
      · have q28 : ¬ (o 30 = 1 ∧ A 20 0 = nI (u - 1)) := fun q => h28 (show A 20 0 = nI u - Int32.ofInt 1 by rw [sub_1 (by omega)]; exact q.2)
        iterate 8 (refine zv_step (bX7_undo 0) rfl rfl trivial ?_)
        have e9 : nI u - Int32.ofInt 1 = nI (u - 1) := sub_1 (by omega)
        exact zv_iret (bX7_undo 0) rfl (Or.inl rfl) (Nat.zero_le _) (Nat.zero_le _) ⟨by show some (Value.int (nI u - Int32.ofInt 1)) = _; unfold unV; rw [if_neg h0, if_neg q28, e9], Or.inr ⟨⟨h0, q28⟩, by rw [← e9]; rfl⟩⟩
      · have q28 : (o 30 = 1 ∧ A 20 0 = nI (u - 1)) := ⟨hb.resolve_left h13, by have h9 : A 20 0 = nI u - Int32.ofInt 1 := Decidable.not_not.mp h28; rw [sub_1 (by omega)] at h9; exact h9⟩
        iterate 1 (refine zv_step (bX7_undo 0) rfl rfl trivial ?_)
        exact zv_iret (bX7_undo 0) rfl (Or.inl rfl) (Nat.zero_le _) (Nat.zero_le _) ⟨by unfold unV; rw [if_neg h0, if_pos q28], Or.inl ⟨fun q => q.2 q28, rfl⟩⟩
  · have h0 : u = 0 := (nI_eq (b := 0) (by omega) (by decide)).mp (Decidable.not_not.mp h4)
    iterate 1 (refine zv_step (bX7_undo 0) rfl rfl trivial ?_)
    exact zv_iret (bX7_undo 0) rfl (Or.inl rfl) (Nat.zero_le _) (Nat.zero_le _) ⟨by unfold unV; rw [if_pos h0], Or.inl ⟨fun q => q.1 h0, rfl⟩⟩
abbrev isN (u : Nat) (x : Int32) : Prop := 0 ≤ x.toInt ∧ x.toInt < (u : Int)
def wkV (u : Nat) (x : Int32) : Int32 := if isN u x then Int32.ofInt 0 else Int32.ofInt (-1)
set_option maxHeartbeats 1000000 in
set_option maxRecDepth 20000 in
theorem cWalkX (O : Nat → Int32) (P : Nat → Nat → Int32) (Y : Nat → Nat → Int64) (g : Nat → zC) {u : Nat} (hu : u ≤ 120) (hO : O 1 = nI u) (x : Int32) : zK 1 zX6_walk [.ref 0, .int x] (wX O P Y g) (fun r w' => r = some (.int (wkV u x)) ∧ ((¬ isN u x ∧ w' = wX O P Y g) ∨ (isN u x ∧ w' = wX (upd (upd O 13 (Int32.ofInt 1)) 14 (Int32.ofInt 0)) (updA P 56 (upd (P 56) 0 x)) Y g))) := by
  refine zK_of qX6_walk (by decide +kernel) rfl ?_
  iterate 3 (refine zv_step (bX6_walk 1) rfl rfl trivial ?_)
  refine zv_V1 (bX6_walk 1) rfl rfl rfl rfl rfl rfl rfl ⟨rfl, rfl, rfl⟩ ⟨by decide, by decide⟩ ⟨Nat.zero_le _, Nat.zero_le _⟩ (pHas1 O P Y g _) ?_
  rintro _ _ ⟨rfl, ⟨h1, rfl⟩ | ⟨h1, rfl⟩⟩
  · rw [hO, nI_toInt (by omega)] at h1
    iterate 1 (refine zv_step (bX6_walk 1) rfl rfl trivial ?_)
    refine zv_ift (by decide) ?_
    iterate 3 (refine zv_step (bX6_walk 1) rfl rfl trivial ?_)
    refine zv_V1 (bX6_walk 1) rfl rfl rfl rfl rfl rfl rfl ⟨rfl, rfl, rfl⟩ ⟨by decide, by decide⟩ ⟨Nat.zero_le _, Nat.zero_le _⟩ (wBegin O P Y g _) ?_
    rintro _ _ ⟨rfl, rfl⟩
    iterate 1 (refine zv_step (bX6_walk 1) rfl rfl trivial ?_)
    exact zv_iret (bX6_walk 1) rfl (Or.inl rfl) (Nat.zero_le _) (Nat.zero_le _) ⟨by unfold wkV; rw [if_pos h1], Or.inr ⟨h1, rfl⟩⟩
  · rw [hO, nI_toInt (by omega)] at h1
    iterate 1 (refine zv_step (bX6_walk 1) rfl rfl trivial ?_)
    refine zv_iff (by decide) ?_
    iterate 1 (refine zv_step (bX6_walk 1) rfl rfl trivial ?_)
    exact zv_iret (bX6_walk 1) rfl (Or.inl rfl) (Nat.zero_le _) (Nat.zero_le _) ⟨by unfold wkV; rw [if_neg h1], Or.inl ⟨h1, rfl⟩⟩
set_option maxHeartbeats 1000000 in
set_option maxRecDepth 20000 in
theorem mWalkX (f : Nat → zC) (o : Nat → Int32) (A : Nat → Nat → Int32) (J : Nat → Nat → Int64) {u : Nat} (hu : u ≤ 120) (ho : o 0 = nI u) (x : Int32) : zK 2 zX7_walk [.ref 76, .int x] (wR f o A J) (fun r w' => r = some (.int (wkV u x)) ∧ ((¬ isN u x ∧ w' = (wR f o A J)) ∨ (isN u x ∧ w' = wR f (upd (upd o 30 (Int32.ofInt 1)) 33 (Int32.ofInt 0)) (updA A 20 (upd (A 20) 0 x)) J))) := by
  refine zK_of qX7_walk (by decide +kernel) rfl ?_
  iterate 2 (refine zv_step (bX7_walk 2) rfl rfl trivial ?_)
  refine zv_V1 (bX7_walk 2) rfl rfl rfl rfl rfl rfl rfl ⟨rfl, rfl, rfl⟩ ⟨by decide, by decide⟩ ⟨Nat.zero_le _, Nat.zero_le _⟩ (mIsNode f o A J hu ho _) ?_
  rintro _ _ ⟨rfl, ⟨g1, rfl⟩ | ⟨g1, rfl⟩⟩
  · skip
    iterate 1 (refine zv_step (bX7_walk 2) rfl rfl trivial ?_)
    refine zv_ift (by decide) ?_
    iterate 7 (refine zv_step (bX7_walk 2) rfl rfl trivial ?_)
    refine zv_step (bX7_walk 2) rfl rfl (show vp_in (nI 0) 41 from vp_in_nI (by decide) (by decide)) ?_
    iterate 4 (refine zv_step (bX7_walk 2) rfl rfl trivial ?_)
    exact zv_iret (bX7_walk 2) rfl (Or.inl rfl) (Nat.zero_le _) (Nat.zero_le _) ⟨by unfold wkV; rw [if_pos (show isN u x from by constructor <;> omega)], Or.inr ⟨by constructor <;> omega, rfl⟩⟩
  · skip
    iterate 1 (refine zv_step (bX7_walk 2) rfl rfl trivial ?_)
    refine zv_iff (by decide) ?_
    iterate 1 (refine zv_step (bX7_walk 2) rfl rfl trivial ?_)
    exact zv_iret (bX7_walk 2) rfl (Or.inl rfl) (Nat.zero_le _) (Nat.zero_le _) ⟨by unfold wkV; rw [if_neg (show ¬ isN u x from fun q => g1 (by omega))], Or.inl ⟨fun q => g1 (by omega), rfl⟩⟩
end
section
theorem dg_WL (v : Int32) : dgW v = dgL v (dgN v) := by
  have t1 : v < c8 10 → v < c8 100 := fun h => by rw [Int32.lt_iff_toInt_lt] at h ⊢; have e1 : (c8 10).toInt = 10 := (by decide); have e2 : (c8 100).toInt = 100 := (by decide); omega
  have t2 : v < c8 100 → v < (Int16.ofInt 1000).toInt32 := fun h => by rw [Int32.lt_iff_toInt_lt] at h ⊢; have e1 : (c8 100).toInt = 100 := (by decide); have e2 : ((Int16.ofInt 1000).toInt32).toInt = 1000 := (by decide +kernel); omega
  unfold dgW dgN
  by_cases h1 : v < c8 10
  · rw [if_pos (t2 (t1 h1)), if_pos (t1 h1), if_pos h1, if_pos h1]
    rfl
  · by_cases h2 : v < c8 100
    · rw [if_pos (t2 h2), if_pos h2, if_neg h1, if_neg h1, if_pos h2]
      rfl
    · by_cases h3 : v < (Int16.ofInt 1000).toInt32
      · rw [if_pos h3, if_neg h2, if_neg h1, if_neg h2, if_pos h3]
        rfl
      · rw [if_neg h3, if_neg h1, if_neg h2, if_neg h3]
        rfl
theorem has_n {u n : Nat} (hn : n < u) (hu : u ≤ 120) : 0 ≤ (nI n).toInt ∧ (nI n).toInt < (nI u).toInt := by
  rw [nI_toInt (by omega), nI_toInt (by omega)]
  omega
/-- what is KEPT of a PART is what the PART's own KIND says -/
def kpI (A : Nat → Nat → Int32) (s : Nat) (x : Int32) : Int32 := if x < 0 then 0 else A 7 (10 * s + (A 0 x.toNatClampNeg).toNatClampNeg)
theorem kpI_n {A : Nat → Nat → Int32} {s n k : Nat} (hn : n < 450) (hk : k < 10) (h0 : A 0 n = nI k) : kpI A s (nI n) = A 7 (10 * s + k) := by
  unfold kpI
  rw [if_neg (nI_pos (by omega)), nI_clamp (by omega), h0, nI_clamp (by omega)]
theorem pk_kp {u : Nat} (hu : u ≤ 120) {P A : Nat → Nat → Int32} (hT : tbI 0 u A) (hN : NR u P A) {kk : Int32} {s : Nat} (hk : ∀ k, k < 10 → (hbW kk (nI k) = 0 ↔ A 7 (10 * s + k) = 0)) {z : Nat} {x : Int32} (hx : pt 0 u A z x) (k fi : Int32) : pkW (nI u) kk (Int32.ofInt 0) P k (cvI x) fi = 0 ↔ kpI A s x = 0 := by
  rcases hx with rfl | ⟨n, rfl, hlo, hn, hz⟩
  · rw [cvI_m2]
    unfold pkW
    rw [if_neg (fun q => absurd q.1 (by decide))]
    exact ⟨fun _ => if_pos (by decide), fun _ => rfl⟩
  · obtain ⟨kd, hkd, h0⟩ := rN_kd (hT n hlo hn)
    rw [cvI_nI (by omega), kpI_n (by omega) hkd h0]
    unfold pkW
    rw [if_pos (has_n hn hu), if_pos (show Int32.ofInt 0 = 0 by decide), show nC (nI n) = n from nI_clamp (by omega), (hN n hn).1, h0]
    exact hk kd hkd
set_option maxHeartbeats 1000000 in
theorem tl_wd {u : Nat} (hu : u ≤ 120) {P A : Nat → Nat → Int32} (hT : tbI 0 u A) (hN : NR u P A) {kk : Int32} {s : Nat} (hk : ∀ k, k < 10 → (hbW kk (nI k) = 0 ↔ A 7 (10 * s + k) = 0)) : ∀ (z : Nat) (x : Int32), pt 0 u A z x → ∀ kept : Int32, (kept = 0 ↔ kpI A s x = 0) → tlW (nI u) kk (Int32.ofInt 0) P (z + 1) (cvI x) kept = wdW A s z x
  | 0, x, h, kept, _ => by
    obtain rfl := pt_zero hT h
    rw [cvI_m2]
    rfl
  | z + 1, x, h, kept, hkp => by
    rcases h with rfl | ⟨n, rfl, hlo, hn, hz⟩
    · rw [cvI_m2, wdW_m2, tlW_s, if_neg (fun q => absurd q.1 (by decide))]
    · obtain ⟨p2, p3⟩ := rN_parts hT hlo hn hz
      obtain ⟨k, h0, hk9, hs, h40, hv⟩ := rN_val (hT n hlo hn)
      obtain ⟨n1, n2, n3, n4, n5, n6, n7, n8⟩ := hN n hn
      have ih : ∀ y kd fi, pt 0 u A z y → tlW (nI u) kk (Int32.ofInt 0) P (z + 1) (cvI y) (pkW (nI u) kk (Int32.ofInt 0) P kd (cvI y) fi) = wdW A s z y := fun y kd fi hy => tl_wd hu hT hN hk z y hy _ (pk_kp hu hT hN hk hy kd fi)
      have eco : coW P (pkW (nI u) kk (Int32.ofInt 0) P) (tlW (nI u) kk (Int32.ofInt 0) P (z + 1)) n = coL A (wdW A s z) n := by
        unfold coW coL
        rw [n1, n3, n4, ih _ _ _ p2, ih _ _ _ p2, ih _ _ _ p2, ih _ _ _ p2, ih _ _ _ p3, h0]
        have nk : ∀ j, j < 10 → (nI k = nI j ↔ k = j) := fun j hj => nI_eq (by omega) (by omega)
        by_cases e0 : k = 0
        · subst e0
          obtain ⟨v, hv9, e⟩ := hv.1 (Or.inl rfl)
          rw [if_pos rfl, if_pos rfl, n2, e, cvI_nI (by omega)]
        · rw [if_neg (fun q => e0 ((nk 0 (by decide)).mp q)), if_neg (fun q => e0 ((nk 0 (by decide)).mp q))]
          by_cases e1 : k = 1
          · subst e1
            obtain ⟨v, hv9, e⟩ := hv.2.1 rfl
            rw [if_pos rfl, if_pos rfl, n2, e, cvI_nI (by omega)]
            exact dg_WL _
          · rw [if_neg (fun q => e1 ((nk 1 (by decide)).mp q)), if_neg (fun q => e1 ((nk 1 (by decide)).mp q))]
            by_cases e9 : k = 9
            · subst e9
              obtain ⟨v, hv9, e⟩ := hv.1 (Or.inr rfl)
              rw [n2, e, cvI_nI (by omega)]
            · rw [if_neg (fun q => e9 ((nk 9 (by decide)).mp q)), if_neg (fun q => e9 ((nk 9 (by decide)).mp q))]
      rw [kpI_n (by omega) hk9 h0] at hkp
      rw [cvI_nI (by omega), tlW_s, if_pos (has_n hn hu), show nC (nI n) = n from nI_clamp (by omega), eco, wdW_nI (by omega) hk9 h0]
      unfold brL
      by_cases q : kept = 0
      · rw [if_pos q, if_pos (hkp.mp q)]
      · rw [if_neg q, if_neg (fun w => q (hkp.mpr w))]
theorem ap8_lo : ∀ (L : List Int32) (g : Nat → Int32) (q i : Nat), i < q → ap8 g q L i = g i
  | [], _, _, _, _ => rfl
  | v :: L, g, q, i, h => by
    show ap8 (ap1 g q v) (q + 1) L i = g i
    rw [ap8_lo L _ (q + 1) i (by omega)]
    unfold ap1
    split
    · exact upd_ne _ _ (by omega)
    · rfl
theorem ap8_at : ∀ (L : List Int32) (g : Nat → Int32) (q i : Nat) {v : Int32}, L[i]? = some v → q + i < 80 → ap8 g q L (q + i) = v
  | [], _, _, _, _, h, _ => by simp at h
  | w :: L, g, q, 0, v, h, hq => by
    show ap8 (ap1 g q w) (q + 1) L (q + 0) = v
    rw [ap8_lo L _ (q + 1) _ (by omega)]
    have : w = v := by simpa using h
    rw [← this]
    unfold ap1
    rw [if_pos (by omega)]
    exact upd_self _ _ _
  | w :: L, g, q, i + 1, v, h, hq => by
    show ap8 (ap1 g q w) (q + 1) L (q + (i + 1)) = v
    rw [show q + (i + 1) = q + 1 + i by omega]
    exact ap8_at L _ (q + 1) i (by simpa using h) (by omega)
/-- q words of another row come to a row's beginning -/
def cpR (g s : Nat → Int32) (q i : Nat) : Int32 := if i < q then s i else g i
theorem cpR_0 (g s : Nat → Int32) : cpR g s 0 = g := by
  funext i
  exact if_neg (Nat.not_lt_zero _)
theorem cpR_s (g s : Nat → Int32) (q : Nat) : upd (cpR g s q) q (s q) = cpR g s (q + 1) := by
  funext i
  unfold upd cpR
  by_cases e : i = q
  · subst e
    rw [if_pos rfl, if_pos (Nat.lt_succ_self _)]
  · rw [if_neg e]
    by_cases h : i < q
    · rw [if_pos h, if_pos (by omega)]
    · rw [if_neg h, if_neg (by omega)]
def dgV (y : Int32) (k : Nat) : Int32 := (y >>> ((Int32.ofInt 5 * nI k) &&& 31)) &&& c8 31
theorem dgV_31 (y : Int32) (k : Nat) : (dgV y k ≤ c8 30 ↔ ¬ dgV y k = c8 31) ∧ ∃ e : Nat, e ≤ 31 ∧ dgV y k = nI e := by
  obtain ⟨e, he, q⟩ := and31 (y >>> ((Int32.ofInt 5 * nI k) &&& 31))
  refine ⟨?_, e, he, q⟩
  rw [show dgV y k = nI e from q]
  exact (show ∀ e, e ≤ 31 → (nI e ≤ c8 30 ↔ ¬ nI e = c8 31) by decide +kernel) e he
def heA (n : Nat) (y : Int32) : Prop := ∀ k, k < n → ¬ dgV y k = c8 31
/-- the words that come, one by one -/
def heL (y : Int32) : Nat → (Nat → Int32) → Nat → Nat → Int32
  | 0, g, _ => g
  | k + 1, g, l => heL y k (upd g l (dgV y k)) (l + 1)
theorem heL_e (y : Int32) : ∀ (k : Nat) (g g' : Nat → Int32) (l : Nat), (∀ i, i < l → g i = g' i) → ∀ i, i < l + k → heL y k g l i = heL y k g' l i
  | 0, g, g', l, h, i, hi => h i hi
  | k + 1, g, g', l, h, i, hi => heL_e y k _ _ (l + 1) (fun j hj => by
      by_cases e : j = l
      · subst e
        rw [upd_self, upd_self]
      · rw [upd_ne _ _ e, upd_ne _ _ e]
        exact h j (by omega)) i (by omega)
/-- what hear answers where it had l words -/
def heR (l : Nat) (x y R : Int32) (ok : Nat → Prop) (no : Prop) : Prop :=
  (R = Int32.ofInt (-1) ∧ ¬ (∃ n, 1 ≤ n ∧ n ≤ 5 ∧ x = nI n ∧ heA n y) ∧ no) ∨ ∃ n, 1 ≤ n ∧ n ≤ 5 ∧ x = nI n ∧ heA n y ∧ ((R = c8 (-2) ∧ 20 < l + n ∧ no) ∨ (R = nI (l + n) ∧ l + n ≤ 20 ∧ ok n))
set_option maxHeartbeats 1000000 in
set_option maxRecDepth 20000 in
theorem cDigitX (w : zW) (x : Int32) {k : Nat} {y : Int32} (e : y = nI k) : zK 0 zX6_digitOf [.int x, .int y] w (fun r w' => w' = w ∧ r = some (.int (dgV x k))) := by
  subst e
  refine zK_of qX6_digitOf (by decide +kernel) rfl ?_
  iterate 7 (refine zv_step (bX6_digitOf 0) rfl rfl trivial ?_)
  exact zv_iret (bX6_digitOf 0) rfl (Or.inl rfl) (Nat.zero_le _) (Nat.zero_le _) ⟨rfl, rfl⟩
set_option maxHeartbeats 1000000 in
set_option maxRecDepth 20000 in
theorem cHe2X (O : Nat → Int32) (P : Nat → Nat → Int32) (Y : Nat → Nat → Int64) (g : Nat → zC) {n : Nat} (hn : n ≤ 5) (y : Int32) {n0 : Nat} {Q : Option Value → zW → Prop} : ∀ (i l : Nat) (gr : Nat → Int32), i ≤ n → l + i ≤ 20 → ∀ {x3 : Int32}, x3 = nI i - Int32.ofInt 1 → (Q (some (.int (nI (l + i)))) (wX (upd O 9 (nI (l + i))) (updA P 32 (heL y i gr l)) Y g)) → zV (zMo 1 zX6_hear) false n0 0 0 58 [(3, .int x3), (0, .ref 0), (1, .int (nI n)), (2, .int y)] [] (wX (upd O 9 (nI l)) (updA P 32 gr) Y g) Q := by
  intro i
  induction i with
  | zero =>
    intro l gr hi hl x3 e3 hQ
    subst e3
    iterate 2 (refine zv_step (bX6_hear 1) rfl rfl trivial ?_)
    refine zv_ift (show nI 0 - Int32.ofInt 1 < 0 by decide) ?_
    iterate 3 (refine zv_step (bX6_hear 1) rfl rfl trivial ?_)
    exact zv_iret (bX6_hear 1) rfl (Or.inl rfl) (Nat.zero_le _) (Nat.zero_le _) hQ
  | succ i ih =>
    intro l gr hi hl x3 e3 hQ
    rw [sub_1 (by omega), Nat.add_sub_cancel] at e3
    subst e3
    rw [show l + (i + 1) = l + 1 + i by omega] at hQ
    iterate 2 (refine zv_step (bX6_hear 1) rfl rfl trivial ?_)
    refine zv_iff (show ¬ nI i < 0 from nI_pos (by omega)) ?_
    iterate 4 (refine zv_step (bX6_hear 1) rfl rfl trivial ?_)
    refine zv_S2 (bX6_hear 1) rfl rfl rfl rfl ⟨rfl, rfl, rfl⟩ ⟨by decide, by decide⟩ ⟨Nat.zero_le _, Nat.zero_le _⟩ (cDigitX _ _ (k := i) rfl) ?_
    rintro _ _ ⟨rfl, rfl⟩
    refine zv_V1 (bX6_hear 1) rfl rfl rfl rfl rfl rfl rfl ⟨rfl, rfl, rfl⟩ ⟨by decide, by decide⟩ ⟨Nat.zero_le _, Nat.zero_le _⟩ (hAdd (upd O 9 (nI l)) (updA P 32 gr) Y g (n := l) (by omega) rfl _) ?_
    rintro _ _ ⟨rfl, ⟨hq9, rfl⟩ | ⟨hq9, rfl⟩⟩
    · rw [upd2]
      iterate 2 (refine zv_step (bX6_hear 1) rfl rfl trivial ?_)
      refine zv_world (show _ = wX (upd O 9 (nI (l + 1))) (updA P 32 (upd gr l (dgV y i))) Y g from rfl) ?_
      exact ih (l + 1) (upd gr l (dgV y i)) (by omega) (by omega) (show nI i + Int32.ofInt (-1) = nI i - Int32.ofInt 1 by rw [Int32.sub_eq_add_neg]; rfl) hQ
    · exact absurd (show l < 20 by omega) hq9
      skip
set_option maxHeartbeats 1000000 in
set_option maxRecDepth 20000 in
theorem cHe1X (O : Nat → Int32) (P : Nat → Nat → Int32) (Y : Nat → Nat → Int64) (g : Nat → zC) {n l : Nat} (hn : n ≤ 5) (hn1 : 1 ≤ n) (hl : l ≤ 20) (y : Int32) {n0 : Nat} : ∀ (c i : Nat), i + c = n → (∀ k, k < i → ¬ dgV y k = c8 31) → ∀ {x3 : Int32}, x3 = nI i → zV (zMo 1 zX6_hear) false n0 0 0 14 [(3, .int x3), (0, .ref 0), (1, .int (nI n)), (2, .int y)] [] (wX (upd O 9 (nI (l))) P Y g) (fun r w' => ∃ R : Int32, r = some (.int R) ∧ heR l (nI n) y R (fun n => w' = wX (upd O 9 (nI (l + n))) (updA P 32 (heL y n (P 32) l)) Y g) (w' = (wX (upd O 9 (nI (l))) P Y g))) := by
  intro c
  induction c with
  | zero =>
    intro i hc hd x3 e3
    subst e3
    iterate 3 (refine zv_step (bX6_hear 1) rfl rfl trivial ?_)
    refine zv_ift (nI_le (by omega) (by omega)) ?_
    iterate 7 (refine zv_step (bX6_hear 1) rfl rfl trivial ?_)
    refine zv_ifb (fun h48 => ?_) (fun h48 => ?_)
    · have hA : heA n y := fun k hk => hd k (by omega)
      have hfit : l + n ≤ 20 := by
        have h9 : nI l + nI n ≤ nI 20 := h48
        rwa [nI_add, nI_leI (by omega) (by decide)] at h9
      iterate 4 (refine zv_step (bX6_hear 1) rfl rfl trivial ?_)
      refine zv_world (show _ = wX (upd O 9 (nI l)) (updA P 32 (P 32)) Y g by rw [updA_same P 32]) ?_
      exact cHe2X O P Y g hn y n l (P 32) (Nat.le_refl _) hfit rfl ⟨_, rfl, Or.inr ⟨n, hn1, hn, rfl, hA, Or.inr ⟨rfl, hfit, rfl⟩⟩⟩
    · have hA : heA n y := fun k hk => hd k (by omega)
      have hfit : ¬ l + n ≤ 20 := fun q => h48 (show nI l + nI n ≤ nI 20 by rw [nI_add, nI_leI (by omega) (by decide)]; exact q)
      iterate 1 (refine zv_step (bX6_hear 1) rfl rfl trivial ?_)
      exact zv_iret (bX6_hear 1) rfl (Or.inl rfl) (Nat.zero_le _) (Nat.zero_le _) ⟨_, rfl, Or.inr ⟨n, hn1, hn, rfl, hA, Or.inl ⟨rfl, by omega, rfl⟩⟩⟩
  | succ c ih =>
    intro i hc hd x3 e3
    subst e3
    iterate 3 (refine zv_step (bX6_hear 1) rfl rfl trivial ?_)
    refine zv_iff (nI_ge (by omega) (by omega)) ?_
    iterate 2 (refine zv_step (bX6_hear 1) rfl rfl trivial ?_)
    refine zv_S2 (bX6_hear 1) rfl rfl rfl rfl ⟨rfl, rfl, rfl⟩ ⟨by decide, by decide⟩ ⟨Nat.zero_le _, Nat.zero_le _⟩ (cDigitX _ _ (k := i) rfl) ?_
    rintro _ _ ⟨rfl, rfl⟩
    iterate 2 (refine zv_step (bX6_hear 1) rfl rfl trivial ?_)
    refine zv_ifb (fun h26 => ?_) (fun h26 => ?_)
    · have q26 : ¬ dgV y i = c8 31 := (dgV_31 y i).1.mp h26
      iterate 2 (refine zv_step (bX6_hear 1) rfl rfl trivial ?_)
      exact ih (i + 1) (by omega) (fun k hk => by
        by_cases e : k = i
        · rw [e]; exact q26
        · exact hd k (by omega)) (nI_1 i)
    · have q26 : dgV y i = c8 31 := Decidable.not_not.mp (fun q => h26 ((dgV_31 y i).1.mpr q))
      iterate 1 (refine zv_step (bX6_hear 1) rfl rfl trivial ?_)
      exact zv_iret (bX6_hear 1) rfl (Or.inl rfl) (Nat.zero_le _) (Nat.zero_le _) ⟨_, rfl, Or.inl ⟨rfl, fun ⟨m, m1, m5, em, hm⟩ => by
        have : n = m := (nI_eq (by omega) (by omega)).mp em
        subst this
        exact hm i (by omega) q26, rfl⟩⟩
set_option maxHeartbeats 1000000 in
set_option maxRecDepth 20000 in
theorem cHearX (O : Nat → Int32) (P : Nat → Nat → Int32) (Y : Nat → Nat → Int64) (g : Nat → zC) {l : Nat} (hl : l ≤ 20) (x y : Int32) : zK 1 zX6_hear [.ref 0, .int x, .int y] (wX (upd O 9 (nI (l))) P Y g) (fun r w' => ∃ R : Int32, r = some (.int R) ∧ heR l x y R (fun n => w' = wX (upd O 9 (nI (l + n))) (updA P 32 (heL y n (P 32) l)) Y g) (w' = (wX (upd O 9 (nI (l))) P Y g))) := by
  refine zK_of qX6_hear (by decide +kernel) rfl ?_
  iterate 3 (refine zv_step (bX6_hear 1) rfl rfl trivial ?_)
  refine zv_ifb (fun h2 => ?_) (fun h2 => ?_)
  · have q2 : x.toInt < 1 := by
      have h9 := h2
      rw [Int32.lt_iff_toInt_lt] at h9
      exact h9
    iterate 1 (refine zv_step (bX6_hear 1) rfl rfl trivial ?_)
    exact zv_iret (bX6_hear 1) rfl (Or.inl rfl) (Nat.zero_le _) (Nat.zero_le _) ⟨_, rfl, Or.inl ⟨rfl, fun ⟨m, m1, m5, em, hm⟩ => by
      rw [em, nI_toInt (by omega)] at q2
      omega, rfl⟩⟩
  · have q2 : ¬ x.toInt < 1 := fun q => h2 (by rw [Int32.lt_iff_toInt_lt]; exact q)
    iterate 3 (refine zv_step (bX6_hear 1) rfl rfl trivial ?_)
    refine zv_ifb (fun h7 => ?_) (fun h7 => ?_)
    · have q7 : x.toInt ≤ 5 := by
        have h9 := h7
        rw [Int32.le_iff_toInt_le] at h9
        exact h9
      obtain ⟨n, hn, rfl⟩ := in_nat (x := x) (b := 5) (by decide) ⟨by omega, q7⟩
      rw [nI_toInt (by omega)] at q2
      iterate 2 (refine zv_step (bX6_hear 1) rfl rfl trivial ?_)
      exact cHe1X O P Y g hn (by omega) hl y n 0 (by omega) (fun k hk => absurd hk (by omega)) rfl
    · have q7 : ¬ x.toInt ≤ 5 := fun q => h7 (by rw [Int32.le_iff_toInt_le]; exact q)
      iterate 1 (refine zv_step (bX6_hear 1) rfl rfl trivial ?_)
      exact zv_iret (bX6_hear 1) rfl (Or.inl rfl) (Nat.zero_le _) (Nat.zero_le _) ⟨_, rfl, Or.inl ⟨rfl, fun ⟨m, m1, m5, em, hm⟩ => by
        rw [em, nI_toInt (by omega)] at q7
        omega, rfl⟩⟩
set_option maxHeartbeats 1000000 in
set_option maxRecDepth 20000 in
theorem hearL2X (f : Nat → zC) (o : Nat → Int32) (A : Nat → Nat → Int32) (J : Nat → Nat → Int64) {n : Nat} (hn : n ≤ 5) (y : Int32) {n0 : Nat} {Q : Option Value → zW → Prop} : ∀ (k l : Nat) (gr : Nat → Int32), l + k ≤ 20 → ∀ {x3 : Int32}, x3 = nI k - Int32.ofInt 1 → (Q (some (.int (nI (l + k)))) (wR f (upd o 10 (nI (l + k))) (updA A 8 (heL y k gr l)) J)) → zV (zMo 1 zX7_hear) false n0 0 0 60 [(3, .int x3), (0, .ref 76), (1, .int (nI n)), (2, .int y)] [] (wR f (upd o 10 (nI (l))) (updA A 8 (gr)) J) Q := by
  intro k
  induction k with
  | zero =>
    intro l gr hl x3 e3 hQ
    subst e3
    iterate 2 (refine zv_step (bX7_hear 1) rfl rfl trivial ?_)
    refine zv_ift (show nI 0 - Int32.ofInt 1 < 0 by decide) ?_
    iterate 2 (refine zv_step (bX7_hear 1) rfl rfl trivial ?_)
    exact zv_iret (bX7_hear 1) rfl (Or.inl rfl) (Nat.zero_le _) (Nat.zero_le _) hQ
  | succ k ih =>
    intro l gr hl x3 e3 hQ
    subst e3
    rw [show l + (k + 1) = l + 1 + k by omega] at hQ
    iterate 2 (refine zv_step (bX7_hear 1) rfl rfl trivial ?_)
    refine zv_iff (show ¬ nI (k + 1) - Int32.ofInt 1 < 0 by rw [show nI (k + 1) - Int32.ofInt 1 = nI k from nI_m1 k]; exact nI_pos (by omega)) ?_
    iterate 11 (refine zv_step (bX7_hear 1) rfl rfl trivial ?_)
    refine zv_step (bX7_hear 1) rfl rfl (show vp_in (nI l) 20 from vp_in_nI (by omega) (by decide)) ?_
    iterate 8 (refine zv_step (bX7_hear 1) rfl rfl trivial ?_)
    refine zv_world (show _ = wR f (upd o 10 (nI (l + 1))) (updA A 8 (upd gr l (dgV y k))) J from by rw [show nI (l + 1) = nI l + Int32.ofInt 1 from (nI_1 l).symm, show upd gr l = upd gr (nI l).toNatClampNeg by rw [nI_clamp (by omega)], show dgV y k = (y >>> (Int32.ofInt 5 * (nI (k + 1) - Int32.ofInt 1) &&& 31) &&& c8 31) by rw [show nI (k + 1) - Int32.ofInt 1 = nI k from nI_m1 k]; rfl]; rfl) ?_
    exact ih (l + 1) _ (by omega) (by rw [show nI (k + 1) - Int32.ofInt 1 = nI k from nI_m1 k, ← nI_dec2]) hQ
set_option maxHeartbeats 1000000 in
set_option maxRecDepth 20000 in
theorem hearL1X (f : Nat → zC) (o : Nat → Int32) (A : Nat → Nat → Int32) (J : Nat → Nat → Int64) {l : Nat} (hh : l ≤ 20) {n : Nat} (hn : n ≤ 5) (hn1 : 1 ≤ n) (y : Int32) {n0 : Nat} : ∀ (c k : Nat), k + c = n → (∀ j, j < k → ¬ dgV y j = c8 31) → ∀ {x3 : Int32}, x3 = nI k → zV (zMo 1 zX7_hear) false n0 0 0 16 [(3, .int x3), (0, .ref 76), (1, .int (nI n)), (2, .int y)] [] (wR f (upd o 10 (nI l)) A J) (fun r w' => ∃ R : Int32, r = some (.int R) ∧ heR l (nI n) y R (fun n => w' = wR f (upd o 10 (nI (l + n))) (updA A 8 (heL y n (A 8) l)) J) (w' = wR f (upd o 10 (nI l)) A J)) := by
  intro c
  induction c with
  | zero =>
    intro k hc hd x3 e3
    subst e3
    iterate 3 (refine zv_step (bX7_hear 1) rfl rfl trivial ?_)
    refine zv_ift (nI_le (by omega) (by omega)) ?_
    iterate 6 (refine zv_step (bX7_hear 1) rfl rfl trivial ?_)
    refine zv_ifb (fun h50 => ?_) (fun h50 => ?_)
    · have hA : heA n y := fun k hk => hd k (by omega)
      have hfit : l + n ≤ 20 := by
        have h9 : nI l + nI n ≤ nI 20 := h50
        rwa [nI_add, nI_leI (by omega) (by decide)] at h9
      iterate 4 (refine zv_step (bX7_hear 1) rfl rfl trivial ?_)
      refine zv_world (show _ = wR f (upd o 10 (nI l)) (updA A 8 (A 8)) J by rw [updA_same A 8]) ?_
      refine zv_locals (l := [(3, .int (nI n - Int32.ofInt 1)), (0, .ref 76), (1, .int (nI n)), (2, .int y)]) (l' := [(3, .int (nI n - Int32.ofInt 1)), (0, .ref 76), (1, .int (nI n)), (2, .int y)]) (fun q h => h) (hearL2X f o A J hn y n l (A 8) hfit rfl ⟨_, rfl, Or.inr ⟨n, hn1, hn, rfl, hA, Or.inr ⟨rfl, hfit, rfl⟩⟩⟩)
    · have hA : heA n y := fun k hk => hd k (by omega)
      have hfit : ¬ l + n ≤ 20 := fun q => h50 (show nI l + nI n ≤ nI 20 by rw [nI_add, nI_leI (by omega) (by decide)]; exact q)
      iterate 1 (refine zv_step (bX7_hear 1) rfl rfl trivial ?_)
      exact zv_iret (bX7_hear 1) rfl (Or.inl rfl) (Nat.zero_le _) (Nat.zero_le _) ⟨_, rfl, Or.inr ⟨n, hn1, hn, rfl, hA, Or.inl ⟨rfl, by omega, rfl⟩⟩⟩
  | succ c ih =>
    intro k hc hd x3 e3
    subst e3
    iterate 3 (refine zv_step (bX7_hear 1) rfl rfl trivial ?_)
    refine zv_iff (fun h => absurd ((nI_leI (by omega) (by omega)).mp h) (by omega)) ?_
    iterate 9 (refine zv_step (bX7_hear 1) rfl rfl trivial ?_)
    refine zv_ifb (fun h31 => ?_) (fun h31 => ?_)
    · iterate 2 (refine zv_step (bX7_hear 1) rfl rfl trivial ?_)
      exact ih (k + 1) (by omega) (fun j hj => by
        by_cases e : j = k
        · rw [e]; exact h31
        · exact hd j (by omega)) (nI_1 k)
    · have q31 : dgV y k = c8 31 := Decidable.not_not.mp h31
      iterate 1 (refine zv_step (bX7_hear 1) rfl rfl trivial ?_)
      exact zv_iret (bX7_hear 1) rfl (Or.inl rfl) (Nat.zero_le _) (Nat.zero_le _) ⟨_, rfl, Or.inl ⟨rfl, fun ⟨m, m1, m5, em, hm⟩ => by
        have : n = m := (nI_eq (by omega) (by omega)).mp em
        subst this
        exact hm k (by omega) q31, rfl⟩⟩
set_option maxHeartbeats 1000000 in
set_option maxRecDepth 20000 in
theorem mHearX (f : Nat → zC) (o : Nat → Int32) (A : Nat → Nat → Int32) (J : Nat → Nat → Int64) {l : Nat} (hh : l ≤ 20) (x y : Int32) : zK 1 zX7_hear [.ref 76, .int x, .int y] (wR f (upd o 10 (nI l)) A J) (fun r w' => ∃ R : Int32, r = some (.int R) ∧ heR l x y R (fun n => w' = wR f (upd o 10 (nI (l + n))) (updA A 8 (heL y n (A 8) l)) J) (w' = wR f (upd o 10 (nI l)) A J)) := by
  refine zK_of qX7_hear (by decide +kernel) rfl ?_
  iterate 4 (refine zv_step (bX7_hear 1) rfl rfl trivial ?_)
  refine zv_S3 (bX7_hear 1) rfl rfl rfl rfl ⟨rfl, rfl, rfl⟩ ⟨by decide, by decide⟩ ⟨Nat.zero_le _, Nat.zero_le _⟩ (mIn _ _ _ _ (a := 1) (b := 5) (by decide) (by decide)) ?_
  rintro _ _ ⟨rfl, ⟨g1, rfl⟩ | ⟨g1, rfl⟩⟩
  · try rw [Int32.toInt_toInt64] at g1
    obtain ⟨n, hn, rfl⟩ := in_nat (x := x) (b := 5) (by decide) ⟨by omega, by omega⟩
    rw [nI_toInt (by omega)] at g1
    iterate 1 (refine zv_step (bX7_hear 1) rfl rfl trivial ?_)
    refine zv_ift (by decide) ?_
    iterate 2 (refine zv_step (bX7_hear 1) rfl rfl trivial ?_)
    exact hearL1X f o A J hh hn (by omega) y n 0 (by omega) (fun k hk => absurd hk (by omega)) rfl
  · try rw [Int32.toInt_toInt64] at g1
    iterate 1 (refine zv_step (bX7_hear 1) rfl rfl trivial ?_)
    refine zv_iff (by decide) ?_
    iterate 1 (refine zv_step (bX7_hear 1) rfl rfl trivial ?_)
    exact zv_iret (bX7_hear 1) rfl (Or.inl rfl) (Nat.zero_le _) (Nat.zero_le _) ⟨_, rfl, Or.inl ⟨rfl, fun ⟨m, m1, m5, em, hm⟩ => by
      rw [em, nI_toInt (by omega)] at g1
      omega, rfl⟩⟩
set_option maxHeartbeats 1000000 in
set_option maxRecDepth 20000 in
theorem mHushX (f : Nat → zC) (o : Nat → Int32) (A : Nat → Nat → Int32) (J : Nat → Nat → Int64) : zK 0 zX7_hush [.ref 76] (wR f o A J) (fun r w' => r = some (.int (o 10)) ∧ w' = wR f (upd o 10 (Int32.ofInt 0)) A J) := by
  refine zK_of qX7_hush (by decide +kernel) rfl ?_
  iterate 7 (refine zv_step (bX7_hush 0) rfl rfl trivial ?_)
  exact zv_iret (bX7_hush 0) rfl (Or.inl rfl) (Nat.zero_le _) (Nat.zero_le _) ⟨rfl, rfl⟩
set_option maxHeartbeats 1000000 in
set_option maxRecDepth 20000 in
theorem cHsLX (O : Nat → Int32) (P : Nat → Nat → Int32) (Y : Nat → Nat → Int64) (g : Nat → zC) {q : Nat} (hq : q ≤ 20) (hO : O 3 = nI q) {n0 : Nat} : ∀ (c i : Nat), i + c = q → ∀ {x1 : Int32}, x1 = nI i → zV (zMo 1 zX6_hearSpeech) false n0 0 0 25 [(1, .int x1), (0, .ref 0)] [] (wX (upd O 9 (nI i)) (updA P 32 (cpR (P 32) (P 28) i)) Y g) (fun r w' => r = some (.int (nI q)) ∧ w' = wX (upd O 9 (nI q)) (updA P 32 (cpR (P 32) (P 28) q)) Y g) := by
  intro c
  induction c with
  | zero =>
    intro i hc x1 e1
    subst e1
    iterate 5 (refine zv_step (bX6_hearSpeech 1) rfl rfl trivial ?_)
    refine zv_ift (show O 3 ≤ nI i by rw [hO]; exact nI_le (by omega) (by omega)) ?_
    iterate 3 (refine zv_step (bX6_hearSpeech 1) rfl rfl trivial ?_)
    have e9 : i = q := by omega
    subst e9
    exact zv_iret (bX6_hearSpeech 1) rfl (Or.inl rfl) (Nat.zero_le _) (Nat.zero_le _) ⟨rfl, rfl⟩
  | succ c ih =>
    intro i hc x1 e1
    subst e1
    iterate 5 (refine zv_step (bX6_hearSpeech 1) rfl rfl trivial ?_)
    refine zv_iff (show ¬ O 3 ≤ nI i by rw [hO]; exact nI_ge (by omega) (by omega)) ?_
    iterate 6 (refine zv_step (bX6_hearSpeech 1) rfl rfl trivial ?_)
    refine zv_iale (bX6_hearSpeech 1) rfl rfl (show vp_in (nI i) 80 from vp_in_nI (by omega) (by decide)) (show (updA P 32 (cpR (P 32) (P 28) i)) 28 (nI i).toNatClampNeg = P 28 i by rw [updA_ne _ _ (by decide), nI_clamp (by omega)]) ?_
    refine zv_V1 (bX6_hearSpeech 1) rfl rfl rfl rfl rfl rfl rfl ⟨rfl, rfl, rfl⟩ ⟨by decide, by decide⟩ ⟨Nat.zero_le _, Nat.zero_le _⟩ (hAdd (upd O 9 (nI i)) (updA P 32 (cpR (P 32) (P 28) i)) Y g (n := i) (by omega) rfl _) ?_
    rintro _ _ ⟨rfl, ⟨hq9, rfl⟩ | ⟨hq9, rfl⟩⟩
    · rw [upd2]
      iterate 2 (refine zv_step (bX6_hearSpeech 1) rfl rfl trivial ?_)
      refine zv_world (show _ = wX (upd O 9 (nI (i + 1))) (updA P 32 (cpR (P 32) (P 28) (i + 1))) Y g from by rw [← cpR_s]; rfl) ?_
      exact ih (i + 1) (by omega) (nI_1 i)
    · exact absurd (show i < 20 by omega) hq9
set_option maxHeartbeats 1000000 in
set_option maxRecDepth 20000 in
theorem cHearSpeechX (O : Nat → Int32) (P : Nat → Nat → Int32) (Y : Nat → Nat → Int64) (g : Nat → zC) {q l : Nat} (hq : q < 2 ^ 30) (hO : O 3 = nI q) : zK 1 zX6_hearSpeech [.ref 0] (wX (upd O 9 (nI l)) P Y g) (fun r w' => (20 < q ∧ r = some (.int (c8 (-2))) ∧ w' = wX (upd O 9 (nI l)) P Y g) ∨ (q ≤ 20 ∧ r = some (.int (nI q)) ∧ w' = wX (upd O 9 (nI q)) (updA P 32 (cpR (P 32) (P 28) q)) Y g)) := by
  refine zK_of qX6_hearSpeech (by decide +kernel) rfl ?_
  iterate 5 (refine zv_step (bX6_hearSpeech 1) rfl rfl trivial ?_)
  refine zv_ifb (fun h9 => ?_) (fun h9 => ?_)
  · have q9 : q ≤ 20 := by
      have h9x : O 3 ≤ nI 20 := h9
      rwa [hO, nI_leI (by omega) (by decide)] at h9x
    iterate 6 (refine zv_step (bX6_hearSpeech 1) rfl rfl trivial ?_)
    refine zv_world (show wX (upd (upd O 9 (nI l)) 9 (nI 0)) P Y g = wX (upd O 9 (nI 0)) (updA P 32 (cpR (P 32) (P 28) 0)) Y g by rw [upd2, cpR_0, updA_same P 32]) ?_
    refine zv_weak (fun r w h => Or.inr ⟨q9, h⟩) (cHsLX O P Y g q9 hO q 0 (by omega) rfl)
  · have q9 : ¬ q ≤ 20 := fun w => h9 (show O 3 ≤ nI 20 by rw [hO, nI_leI (by omega) (by decide)]; exact w)
    iterate 1 (refine zv_step (bX6_hearSpeech 1) rfl rfl trivial ?_)
    exact zv_iret (bX6_hearSpeech 1) rfl (Or.inl rfl) (Nat.zero_le _) (Nat.zero_le _) (Or.inl ⟨by omega, rfl, rfl⟩)
set_option maxHeartbeats 1000000 in
set_option maxRecDepth 20000 in
theorem hearsLX (f : Nat → zC) (o : Nat → Int32) (A : Nat → Nat → Int32) (J : Nat → Nat → Int64) {q : Nat} (hq : q ≤ 20) (ho : o 18 = nI q) {n0 : Nat} : ∀ (c k : Nat), k + c = q → ∀ {x1 : Int32}, x1 = nI k → zV (zMo 0 zX7_hears) false n0 0 0 2 [(1, .int x1), (0, .ref 76)] [] (wR f o (updA A 8 (cpR (A 8) (A 14) k)) J) (fun r w' => r = none ∧ w' = wR f (upd o 10 (nI q)) (updA A 8 (cpR (A 8) (A 14) q)) J) := by
  intro c
  induction c with
  | zero =>
    intro k hc x1 e1
    subst e1
    iterate 4 (refine zv_step (bX7_hears 0) rfl rfl trivial ?_)
    refine zv_ift (show o 18 ≤ nI k by rw [ho]; exact nI_le (by omega) (by omega)) ?_
    iterate 4 (refine zv_step (bX7_hears 0) rfl rfl trivial ?_)
    exact zv_ret (bX7_hears 0) rfl rfl (Nat.zero_le _) (Nat.zero_le _) ⟨rfl, by rw [show q = k by omega, ← show o 18 = nI k by rw [ho, show q = k by omega]]; rfl⟩
  | succ c ih =>
    intro k hc x1 e1
    subst e1
    iterate 4 (refine zv_step (bX7_hears 0) rfl rfl trivial ?_)
    refine zv_iff (show ¬ o 18 ≤ nI k by rw [ho]; exact fun h => absurd ((nI_leI (by omega) (by omega)).mp h) (by omega)) ?_
    iterate 6 (refine zv_step (bX7_hears 0) rfl rfl trivial ?_)
    refine zv_iale (bX7_hears 0) rfl rfl (show vp_in (nI k) 256 from vp_in_nI (by omega) (by decide)) (show (updA A 8 (cpR (A 8) (A 14) k)) 14 (nI k).toNatClampNeg = A 14 k by rw [updA_ne _ _ (by decide), nI_clamp (by omega)]) ?_
    refine zv_step (bX7_hears 0) rfl rfl (vp_in_nI (by omega) (by decide)) ?_
    iterate 2 (refine zv_step (bX7_hears 0) rfl rfl trivial ?_)
    refine zv_world (show _ = wR f o (updA A 8 (cpR (A 8) (A 14) (k + 1))) J from by rw [← cpR_s, show upd (cpR (A 8) (A 14) k) k (A 14 k) = upd (cpR (A 8) (A 14) k) (nI k).toNatClampNeg (A 14 k) by rw [nI_clamp (by omega)]]; rfl) ?_
    exact ih (k + 1) (by omega) (nI_1 k)
set_option maxHeartbeats 1000000 in
set_option maxRecDepth 20000 in
theorem mHearsX (f : Nat → zC) (o : Nat → Int32) (A : Nat → Nat → Int32) (J : Nat → Nat → Int64) {q : Nat} (hq : q ≤ 20) (ho : o 18 = nI q) : zK 0 zX7_hears [.ref 76] (wR f o A J) (fun r w' => r = none ∧ w' = wR f (upd o 10 (nI q)) (updA A 8 (cpR (A 8) (A 14) q)) J) := by
  refine zK_of qX7_hears (by decide +kernel) rfl ?_
  iterate 2 (refine zv_step (bX7_hears 0) rfl rfl trivial ?_)
  refine zv_world (show _ = wR f o (updA A 8 (cpR (A 8) (A 14) 0)) J from by rw [cpR_0, updA_same A 8]) ?_
  exact hearsLX f o A J hq ho q 0 (by omega) rfl
end
