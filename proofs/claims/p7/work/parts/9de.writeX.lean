theorem kv_1 {A : Nat → Nat → Int32} {n k : Nat} (h0 : A 0 n = nI k) (hk : k < 10) : kvN A n = (k, (kvN A n).2) := Prod.ext (by show (A 0 n).toNatClampNeg = k; rw [h0, nI_clamp (by omega)]) rfl
theorem lyM_lf {A : Nat → Nat → Int32} {n k u z : Nat} {st : List Nat} (hn : n < 450) (h0 : A 0 n = nI k) (hk : k < 2) (hv : (k = 0 ∨ k = 9 → ∃ w : Nat, w ≤ 9 ∧ A 1 n = nI w) ∧ (k = 1 → ∃ w : Nat, w ≤ 9999 ∧ A 1 n = nI w) ∧ (2 ≤ k → k ≤ 8 → A 1 n = m2)) (h2 : A 2 n = m2) (h3 : A 3 n = m2) : lyM (tkW A (z + 1) (nI n)) (A, u, st) = (setsA A u (nI k) (A 1 n) m2 m2, u + 1, u :: st) := by
  obtain ⟨v, hv9, e⟩ : ∃ v : Nat, v ≤ 9999 ∧ A 1 n = nI v := by
    rcases (show k = 0 ∨ k = 1 by omega) with q | q
    · obtain ⟨w, h, e⟩ := hv.1 (Or.inl q)
      exact ⟨w, by omega, e⟩
    · exact hv.2.1 q
  rw [tkW_nI hn, h2, h3, tkW_m2, kv_lf h0 e (by omega) (by omega) (by omega) (by omega), e]
  exact tkM_0 hk
theorem lyM_un {A A1 : Nat → Nat → Int32} {n k u u1 z a : Nat} {st : List Nat} (hn : n < 450) (h0 : A 0 n = nI k) (k7 : 7 ≤ k) (hk : k < 10) (hv : (k = 0 ∨ k = 9 → ∃ w : Nat, w ≤ 9 ∧ A 1 n = nI w) ∧ (k = 1 → ∃ w : Nat, w ≤ 9999 ∧ A 1 n = nI w) ∧ (2 ≤ k → k ≤ 8 → A 1 n = m2)) (h2 : A 2 n = nI a) (h3 : A 3 n = m2) (y1 : lyM (tkW A z (nI a)) (A, u, st) = (A1, u1 + 1, u1 :: st)) : lyM (tkW A (z + 1) (nI n)) (A, u, st) = (setsA A1 (u1 + 1) (nI k) (A 1 n) (nI u1) m2, u1 + 1 + 1, (u1 + 1) :: st) := by
  have e : (if k = 9 then nI (kvN A n).2 else m2) = A 1 n := by
    by_cases h : k = 9
    · rw [if_pos h]
      obtain ⟨w, h9, e1⟩ := hv.1 (Or.inr h)
      rw [kv_lf h0 e1 hk (by omega) (by omega) (by omega), e1]
    · rw [if_neg h, hv.2.2 (by omega) (by omega)]
  rw [tkW_nI hn, h2, h3, tkW_m2, List.append_nil, lyM_app, y1, kv_1 h0 hk, tkM_1 k7, e]
theorem lyM_bi {A A1 A2 : Nat → Nat → Int32} {n k u u1 u2 z a b : Nat} {st : List Nat} (hn : n < 450) (h0 : A 0 n = nI k) (k2 : 2 ≤ k) (k6 : k ≤ 6) (hv : (k = 0 ∨ k = 9 → ∃ w : Nat, w ≤ 9 ∧ A 1 n = nI w) ∧ (k = 1 → ∃ w : Nat, w ≤ 9999 ∧ A 1 n = nI w) ∧ (2 ≤ k → k ≤ 8 → A 1 n = m2)) (h2 : A 2 n = nI a) (h3 : A 3 n = nI b) (y1 : lyM (tkW A z (nI a)) (A, u, st) = (A1, u1 + 1, u1 :: st)) (y2 : lyM (tkW A1 z (nI b)) (A1, u1 + 1, u1 :: st) = (A2, u2 + 1, u2 :: u1 :: st)) (e : tkW A1 z (nI b) = tkW A z (nI b)) : lyM (tkW A (z + 1) (nI n)) (A, u, st) = (setsA A2 (u2 + 1) (nI k) (A 1 n) (nI u1) (nI u2), u2 + 1 + 1, (u2 + 1) :: st) := by
  rw [tkW_nI hn, h2, h3, lyM_app, lyM_app, y1, ← e, y2, kv_1 h0 (by omega), tkM_2 k2 k6, hv.2.2 k2 (by omega)]
theorem tkW_len {lo hi : Nat} {A : Nat → Nat → Int32} (hh : hi ≤ 450) (hT : tbI lo hi A) : ∀ (z n : Nat), lo ≤ n → n < hi → szN A n ≤ z → (tkW A z (nI n)).length = szN A n
  | 0, n, hlo, hn, hz => by have := (rN_sz (hT n hlo hn)).1; omega
  | z + 1, n, hlo, hn, hz => by
    obtain ⟨k, h0, hk, hs, h40, hv⟩ := rN_val (hT n hlo hn)
    rw [tkW_nI (by omega)]
    rcases hs with ⟨k1, h2, h3, es⟩ | ⟨k1, k6, a, b, h2, la, ha, h3, lb, hb, es⟩ | ⟨k1, a, h2, la, ha, h3, es⟩
    · rw [h2, h3, tkW_m2, es]
      rfl
    · rw [h2, h3, List.length_append, List.length_append, tkW_len hh hT z a la (by omega) (by omega), tkW_len hh hT z b lb (by omega) (by omega), es]
      show szN A a + szN A b + 1 = _
      omega
    · rw [h2, h3, tkW_m2, List.append_nil, List.length_append, tkW_len hh hT z a la (by omega) (by omega), es]
      show szN A a + 1 = _
      omega
set_option maxHeartbeats 1000000 in
set_option maxRecDepth 20000 in
theorem mCopiesX (f : Nat → zC) (o : Nat → Int32) (J : Nat → Nat → Int64) {hi : Nat} (hh : hi ≤ 450) : ∀ (z : Nat) (A : Nat → Nat → Int32) (n : Nat), 400 ≤ n → n < hi → szN A n ≤ z → ∀ (u : Nat), tbI 0 u A → tbI 400 hi A → u + szN A n ≤ 120 → ∀ (st : List Nat), zK (z + 1) zX7_copies [.ref 76, .int (nI n)] (wR f (upd o 0 (nI u)) A J) (fun r w' => ∃ (u1 : Nat) (A' : Nat → Nat → Int32), r = some (.int (nI u1)) ∧ w' = (wR f (upd o 0 (nI (u1 + 1))) A' J) ∧ cpF u A A' u1 (szN A n) ∧ lyM (tkW A z (nI n)) (A, u, st) = (A', u1 + 1, u1 :: st)) := by
  intro z
  induction z with
  | zero =>
    intro A n hlo hn hz u _ hO
    have := (rN_sz (hO n hlo hn)).1
    omega
  | succ z ih1 =>
    intro A n hlo hn hz u hT hO hu st
    have ih := fun (n : Nat) (h1 : 400 ≤ n) (h2 : n < hi) (h3 : szN A n ≤ z) (u : Nat) (A' : Nat → Nat → Int32) (g1 : tbI 0 u A) (g2 : tbI 400 hi A) (g3 : u + szN A n ≤ 120) (st : List Nat) => ih1 A n h1 h2 h3 u g1 g2 g3 st
    obtain ⟨k, h0, hk, hs, h40, hv⟩ := rN_val (hO n hlo hn)
    refine zK_of qX7_copies (by decide +kernel) rfl ?_
    rcases hs with ⟨k1, h2, h3, es⟩ | ⟨k1, k6, a, b, h2, la, ha, h3, lb, hb, es⟩ | ⟨k1, a, h2, la, ha, h3, es⟩
    · iterate 3 (refine zv_step (bX7_copies (z + 1 + 1)) rfl rfl trivial ?_)
      refine zv_iale (bX7_copies (z + 1 + 1)) rfl rfl (vp_in_nI (by omega) (by decide)) (show A 2 (nI n).toNatClampNeg = m2 by rw [nI_clamp (by omega)]; exact h2) ?_
      iterate 1 (refine zv_step (bX7_copies (z + 1 + 1)) rfl rfl trivial ?_)
      refine zv_iff (by decide) ?_
      iterate 6 (refine zv_step (bX7_copies (z + 1 + 1)) rfl rfl trivial ?_)
      refine zv_iale (bX7_copies (z + 1 + 1)) rfl rfl (vp_in_nI (by omega) (by decide)) (show A 3 (nI n).toNatClampNeg = m2 by rw [nI_clamp (by omega)]; exact h3) ?_
      iterate 1 (refine zv_step (bX7_copies (z + 1 + 1)) rfl rfl trivial ?_)
      refine zv_iff (by decide) ?_
      iterate 9 (refine zv_step (bX7_copies (z + 1 + 1)) rfl rfl trivial ?_)
      refine zv_iale (bX7_copies (z + 1 + 1)) rfl rfl (vp_in_nI (by omega) (by decide)) (show A 0 (nI n).toNatClampNeg = nI k by rw [nI_clamp (by omega)]; exact h0) ?_
      iterate 3 (refine zv_step (bX7_copies (z + 1 + 1)) rfl rfl trivial ?_)
      refine zv_iale (bX7_copies (z + 1 + 1)) rfl rfl (vp_in_nI (by omega) (by decide)) (show A 1 (nI n).toNatClampNeg = A 1 n by rw [nI_clamp (by omega)]) ?_
      iterate 2 (refine zv_step (bX7_copies (z + 1 + 1)) rfl rfl trivial ?_)
      refine zv_V5 (bX7_copies (z + 1 + 1)) rfl rfl rfl rfl rfl rfl rfl ⟨rfl, rfl, rfl⟩ ⟨by show 0 + 1 ≤ z + 1 + 1; omega, by show 8 + (8 + 11) + 64 * (0) ≤ 64 * (z + 1 + 1); omega⟩ ⟨Nat.zero_le _, Nat.zero_le _⟩ (mSetsE f (upd o 0 (nI u)) A J (show upd o 0 (nI u) 0 = nI u from rfl) (by omega) vpm2 vpm2) ?_
      rintro _ _ ⟨rfl, rfl⟩
      iterate 10 (refine zv_step (bX7_copies (z + 1 + 1)) rfl rfl trivial ?_)
      exact zv_iret (bX7_copies (z + 1 + 1)) rfl (Or.inl rfl) (Nat.zero_le _) (Nat.zero_le _) ⟨u, _, by show some (Value.int (nI (u) + Int32.ofInt 1 - Int32.ofInt 1)) = _; rw [show nI (u) + Int32.ofInt 1 = nI (u + 1) from nI_1 _, show nI (u + 1) - Int32.ofInt 1 = nI (u) from nI_m1 _], by rw [show nI (u + 1) = nI (u) + Int32.ofInt 1 from (nI_1 _).symm]; rfl, by rw [es]; exact cpF_lf hT (by omega) k1 hv, lyM_lf (by omega) h0 k1 hv h2 h3⟩
    · iterate 3 (refine zv_step (bX7_copies (z + 1 + 1)) rfl rfl trivial ?_)
      refine zv_iale (bX7_copies (z + 1 + 1)) rfl rfl (vp_in_nI (by omega) (by decide)) (show A 2 (nI n).toNatClampNeg = nI a by rw [nI_clamp (by omega)]; exact h2) ?_
      iterate 1 (refine zv_step (bX7_copies (z + 1 + 1)) rfl rfl trivial ?_)
      refine zv_ift (nI_pos' (by omega)) ?_
      iterate 4 (refine zv_step (bX7_copies (z + 1 + 1)) rfl rfl trivial ?_)
      refine zv_iale (bX7_copies (z + 1 + 1)) rfl rfl (vp_in_nI (by omega) (by decide)) (show A 2 (nI n).toNatClampNeg = nI a by rw [nI_clamp (by omega)]; exact h2) ?_
      refine zv_V1 (bX7_copies (z + 1 + 1)) rfl rfl rfl rfl rfl rfl rfl ⟨rfl, rfl, rfl⟩ ⟨by show z + 1 + 1 ≤ z + 1 + 1; omega, by show 8 + (4 + 11) + 64 * (z + 1) ≤ 64 * (z + 1 + 1); omega⟩ ⟨Nat.zero_le _, Nat.zero_le _⟩ (ih a (by omega) (by omega) (by omega) u A hT hO (by omega) st) ?_
      rintro _ _ ⟨u1, A1, rfl, rfl, c1, y1⟩
      have n1 := c1.2.2.2.1
      have eb : szN A1 b = szN A b := by
        unfold szN
        rw [c1.2.2.1 4 b (Or.inr (by omega))]
      have ih2 := fun (n : Nat) (h1 : 400 ≤ n) (h2 : n < hi) (h3 : szN A1 n ≤ z) => ih1 A1 n h1 h2 h3
      iterate 4 (refine zv_step (bX7_copies (z + 1 + 1)) rfl rfl trivial ?_)
      refine zv_iale (bX7_copies (z + 1 + 1)) rfl rfl (vp_in_nI (by omega) (by decide)) (show A1 3 (nI n).toNatClampNeg = nI b by rw [nI_clamp (by omega)]; exact (c1.2.2.1 3 n (Or.inr (by omega))).trans h3) ?_
      iterate 1 (refine zv_step (bX7_copies (z + 1 + 1)) rfl rfl trivial ?_)
      refine zv_ift (nI_pos' (by omega)) ?_
      iterate 4 (refine zv_step (bX7_copies (z + 1 + 1)) rfl rfl trivial ?_)
      refine zv_iale (bX7_copies (z + 1 + 1)) rfl rfl (vp_in_nI (by omega) (by decide)) (show A1 3 (nI n).toNatClampNeg = nI b by rw [nI_clamp (by omega)]; exact (c1.2.2.1 3 n (Or.inr (by omega))).trans h3) ?_
      refine zv_V1 (bX7_copies (z + 1 + 1)) rfl rfl rfl rfl rfl rfl rfl ⟨rfl, rfl, rfl⟩ ⟨by show z + 1 + 1 ≤ z + 1 + 1; omega, by show 8 + (4 + 11) + 64 * (z + 1) ≤ 64 * (z + 1 + 1); omega⟩ ⟨Nat.zero_le _, Nat.zero_le _⟩ (ih2 b (by omega) (by omega) (by omega) (u1 + 1) c1.1 (tbI_fr hO (fun r _ i hi _ => c1.2.2.1 r i (Or.inr (by omega)))) (by rw [eb]; omega) (u1 :: st)) ?_
      rintro _ _ ⟨u2, A2, rfl, rfl, c2, y2⟩
      rw [eb] at c2
      have n2 := c2.2.2.2.1
      iterate 7 (refine zv_step (bX7_copies (z + 1 + 1)) rfl rfl trivial ?_)
      refine zv_iale (bX7_copies (z + 1 + 1)) rfl rfl (vp_in_nI (by omega) (by decide)) (show A2 0 (nI n).toNatClampNeg = nI k by rw [nI_clamp (by omega)]; exact ((c2.2.2.1 0 n (Or.inr (by omega))).trans (c1.2.2.1 0 n (Or.inr (by omega)))).trans h0) ?_
      iterate 3 (refine zv_step (bX7_copies (z + 1 + 1)) rfl rfl trivial ?_)
      refine zv_iale (bX7_copies (z + 1 + 1)) rfl rfl (vp_in_nI (by omega) (by decide)) (show A2 1 (nI n).toNatClampNeg = A 1 n by rw [nI_clamp (by omega)]; exact (c2.2.2.1 1 n (Or.inr (by omega))).trans (c1.2.2.1 1 n (Or.inr (by omega)))) ?_
      iterate 2 (refine zv_step (bX7_copies (z + 1 + 1)) rfl rfl trivial ?_)
      refine zv_V5 (bX7_copies (z + 1 + 1)) rfl rfl rfl rfl rfl rfl rfl ⟨rfl, rfl, rfl⟩ ⟨by show 0 + 1 ≤ z + 1 + 1; omega, by show 8 + (8 + 11) + 64 * (0) ≤ 64 * (z + 1 + 1); omega⟩ ⟨Nat.zero_le _, Nat.zero_le _⟩ (mSetsE f (upd o 0 (nI (u2 + 1))) A2 J (show upd o 0 (nI (u2 + 1)) 0 = nI (u2 + 1) from rfl) (by omega) (fun _ => vp_in_nI (by omega) (by decide)) (fun _ => vp_in_nI (by omega) (by decide))) ?_
      rintro _ _ ⟨rfl, rfl⟩
      iterate 10 (refine zv_step (bX7_copies (z + 1 + 1)) rfl rfl trivial ?_)
      exact zv_iret (bX7_copies (z + 1 + 1)) rfl (Or.inl rfl) (Nat.zero_le _) (Nat.zero_le _) ⟨u2 + 1, _, by show some (Value.int (nI (u2 + 1) + Int32.ofInt 1 - Int32.ofInt 1)) = _; rw [show nI (u2 + 1) + Int32.ofInt 1 = nI (u2 + 1 + 1) from nI_1 _, show nI (u2 + 1 + 1) - Int32.ofInt 1 = nI (u2 + 1) from nI_m1 _], by rw [show nI (u2 + 1 + 1) = nI (u2 + 1) + Int32.ofInt 1 from (nI_1 _).symm]; rfl, by rw [es]; exact cpF_bi c1 c2 (by omega) (by omega) (rN_sz (hO b (by omega) (by omega))).1 k1 k6 hv, lyM_bi (by omega) h0 k1 k6 hv h2 h3 y1 y2 (tkW_fr hh hO (fun r _ i hi _ => c1.2.2.1 r i (Or.inr (by omega))) z _ (Or.inr ⟨b, rfl, by omega, by omega, by omega⟩))⟩
    · iterate 3 (refine zv_step (bX7_copies (z + 1 + 1)) rfl rfl trivial ?_)
      refine zv_iale (bX7_copies (z + 1 + 1)) rfl rfl (vp_in_nI (by omega) (by decide)) (show A 2 (nI n).toNatClampNeg = nI a by rw [nI_clamp (by omega)]; exact h2) ?_
      iterate 1 (refine zv_step (bX7_copies (z + 1 + 1)) rfl rfl trivial ?_)
      refine zv_ift (nI_pos' (by omega)) ?_
      iterate 4 (refine zv_step (bX7_copies (z + 1 + 1)) rfl rfl trivial ?_)
      refine zv_iale (bX7_copies (z + 1 + 1)) rfl rfl (vp_in_nI (by omega) (by decide)) (show A 2 (nI n).toNatClampNeg = nI a by rw [nI_clamp (by omega)]; exact h2) ?_
      refine zv_V1 (bX7_copies (z + 1 + 1)) rfl rfl rfl rfl rfl rfl rfl ⟨rfl, rfl, rfl⟩ ⟨by show z + 1 + 1 ≤ z + 1 + 1; omega, by show 8 + (4 + 11) + 64 * (z + 1) ≤ 64 * (z + 1 + 1); omega⟩ ⟨Nat.zero_le _, Nat.zero_le _⟩ (ih a (by omega) (by omega) (by omega) u A hT hO (by omega) st) ?_
      rintro _ _ ⟨u1, A1, rfl, rfl, c1, y1⟩
      have n1 := c1.2.2.2.1
      iterate 4 (refine zv_step (bX7_copies (z + 1 + 1)) rfl rfl trivial ?_)
      refine zv_iale (bX7_copies (z + 1 + 1)) rfl rfl (vp_in_nI (by omega) (by decide)) (show A1 3 (nI n).toNatClampNeg = m2 by rw [nI_clamp (by omega)]; exact (c1.2.2.1 3 n (Or.inr (by omega))).trans h3) ?_
      iterate 1 (refine zv_step (bX7_copies (z + 1 + 1)) rfl rfl trivial ?_)
      refine zv_iff (by decide) ?_
      iterate 9 (refine zv_step (bX7_copies (z + 1 + 1)) rfl rfl trivial ?_)
      refine zv_iale (bX7_copies (z + 1 + 1)) rfl rfl (vp_in_nI (by omega) (by decide)) (show A1 0 (nI n).toNatClampNeg = nI k by rw [nI_clamp (by omega)]; exact (c1.2.2.1 0 n (Or.inr (by omega))).trans h0) ?_
      iterate 3 (refine zv_step (bX7_copies (z + 1 + 1)) rfl rfl trivial ?_)
      refine zv_iale (bX7_copies (z + 1 + 1)) rfl rfl (vp_in_nI (by omega) (by decide)) (show A1 1 (nI n).toNatClampNeg = A 1 n by rw [nI_clamp (by omega)]; exact c1.2.2.1 1 n (Or.inr (by omega))) ?_
      iterate 2 (refine zv_step (bX7_copies (z + 1 + 1)) rfl rfl trivial ?_)
      refine zv_V5 (bX7_copies (z + 1 + 1)) rfl rfl rfl rfl rfl rfl rfl ⟨rfl, rfl, rfl⟩ ⟨by show 0 + 1 ≤ z + 1 + 1; omega, by show 8 + (8 + 11) + 64 * (0) ≤ 64 * (z + 1 + 1); omega⟩ ⟨Nat.zero_le _, Nat.zero_le _⟩ (mSetsE f (upd o 0 (nI (u1 + 1))) A1 J (show upd o 0 (nI (u1 + 1)) 0 = nI (u1 + 1) from rfl) (by omega) (fun _ => vp_in_nI (by omega) (by decide)) vpm2) ?_
      rintro _ _ ⟨rfl, rfl⟩
      iterate 10 (refine zv_step (bX7_copies (z + 1 + 1)) rfl rfl trivial ?_)
      exact zv_iret (bX7_copies (z + 1 + 1)) rfl (Or.inl rfl) (Nat.zero_le _) (Nat.zero_le _) ⟨u1 + 1, _, by show some (Value.int (nI (u1 + 1) + Int32.ofInt 1 - Int32.ofInt 1)) = _; rw [show nI (u1 + 1) + Int32.ofInt 1 = nI (u1 + 1 + 1) from nI_1 _, show nI (u1 + 1 + 1) - Int32.ofInt 1 = nI (u1 + 1) from nI_m1 _], by rw [show nI (u1 + 1 + 1) = nI (u1 + 1) + Int32.ofInt 1 from (nI_1 _).symm]; rfl, by rw [es]; exact cpF_un c1 (by omega) (by omega) k1 hk hv, lyM_un (by omega) h0 k1 hk hv h2 h3 y1⟩
/-- what write answers of the reference, and what it leaves -/
def wrM (o : Nat → Int32) (A : Nat → Nat → Int32) (u h : Nat) (x : Int32) (z : Int64) (o' : Nat → Int32) (A' : Nat → Nat → Int32) (R : Int32) : Prop :=
  (R = Int32.ofInt (-1) ∧ ¬ ((0 ≤ x.toInt ∧ x.toInt ≤ 8) ∧ 0 ≤ z.toInt) ∧ o' 0 = nI u) ∨
  ∃ (s : Nat) (J1 : Nat → Nat → Int64), s ≤ 8 ∧ x = nI s ∧ 0 ≤ z.toInt ∧ okJ h A s J1 ∧ ((R = c8 (-4) ∧ ¬ z < lN (ctW h J1) ∧ o' 0 = nI u) ∨
    ∃ (p : Nat) (T : List (Nat × Nat)), z = lN p ∧ p < ctW h J1 ∧ RT (eW A) (mW A s (lW J1)) (lW J1) 20 0 h p T ∧ ((R = c8 (-2) ∧ 120 < u + T.length ∧ o' 0 = nI u) ∨
      (R = nI (u + T.length - 1) ∧ u + T.length ≤ 120 ∧ o' 0 = nI (u + T.length) ∧ ∃ A1 : Nat → Nat → Int32, (∀ r i, i < 400 → A1 r i = A r i) ∧ A' = (lyM T (A1, u, [])).1)))
set_option maxHeartbeats 1000000 in
set_option maxRecDepth 20000 in
theorem mWriteX (f : Nat → zC) (o : Nat → Int32) (A : Nat → Nat → Int32) (J : Nat → Nat → Int64) {u : Nat} (hu : u ≤ 120) (ho : o 0 = nI u) (hT : tbI 0 u A) {h : Nat} (hh : h ≤ 20) (hw : nnW h (A 8)) (ho10 : o 10 = nI h) (x : Int32) (z : Int64) : zK 50 zX7_write [.ref 76, .int x, .long z] (wR f o A J) (fun r w' => ∃ (o' : Nat → Int32) (A' : Nat → Nat → Int32) (J' : Nat → Nat → Int64) (R : Int32), r = some (.int R) ∧ w' = wR f o' A' J' ∧ ndY o u A o' A' ∧ wrM o A u h x z o' A' R) := by
  refine zK_of qX7_write (by decide +kernel) rfl ?_
  iterate 4 (refine zv_step (bX7_write 50) rfl rfl trivial ?_)
  refine zv_S3 (bX7_write 50) rfl rfl rfl rfl ⟨rfl, rfl, rfl⟩ ⟨by decide, by decide⟩ ⟨Nat.zero_le _, Nat.zero_le _⟩ (mIn _ _ _ _ (a := 0) (b := 8) (by decide) (by decide)) ?_
  rintro _ _ ⟨rfl, ⟨g1, rfl⟩ | ⟨g1, rfl⟩⟩
  · try rw [Int32.toInt_toInt64] at g1
    obtain ⟨s, hs, rfl⟩ := in_nat (x := x) (b := 8) (by decide) g1
    iterate 1 (refine zv_step (bX7_write 50) rfl rfl trivial ?_)
    refine zv_iff (by decide) ?_
    iterate 4 (refine zv_step (bX7_write 50) rfl rfl trivial ?_)
    refine zv_ifb (fun h15 => ?_) (fun h15 => ?_)
    · have z0 : 0 ≤ z.toInt := by
        rw [lg_cmp_ge, Int64.le_iff_toInt_le] at h15
        exact h15
      iterate 3 (refine zv_step (bX7_write 50) rfl rfl trivial ?_)
      refine zv_V1 (bX7_write 50) rfl rfl rfl rfl rfl rfl rfl ⟨rfl, rfl, rfl⟩ ⟨by decide, by decide⟩ ⟨Nat.zero_le _, Nat.zero_le _⟩ (mCounted f o A J hh hw ho10 hs rfl) ?_
      rintro _ _ ⟨J1, rfl, rfl, hJ⟩
      iterate 2 (refine zv_step (bX7_write 50) rfl rfl trivial ?_)
      refine zv_ifb (fun h27 => ?_) (fun h27 => ?_)
      · obtain ⟨p, hp, rfl⟩ := l_nat z0 (ctW_le hJ) ((lg_cmp_lt _ _).mp h27)
        have hpc := hp
        obtain ⟨h0, hp⟩ := ctW_lt hp
        iterate 3 (refine zv_step (bX7_write 50) rfl rfl trivial ?_)
        refine zv_world (show _ = wR f (upd (upd o 28 (nI s)) 29 (nI 0)) A J1 from rfl) ?_
        iterate 5 (refine zv_step (bX7_write 50) rfl rfl trivial ?_)
        refine zv_V3 (bX7_write 50) rfl rfl rfl rfl rfl rfl rfl ⟨rfl, rfl, rfl⟩ ⟨by decide, by decide⟩ ⟨Nat.zero_le _, Nat.zero_le _⟩ (mTakesX f (upd o 28 (nI s)) A J1 hh hw hJ 20 0 h p _ _ _ rfl ho10 rfl h0 (Nat.le_refl _) (by omega) hp 0 A (fun _ _ => rfl) (fun n h1 h2 => absurd h2 (by omega)) (by omega)) ?_
        rintro _ _ ⟨q1, A1, rfl, rfl, k1, r1⟩
        have l1 := k1.2.2.2.2.1
        have es := k1.2.2.2.2.2
        have hT1 : tbI 0 u A1 := tbI_fr hT (fun r _ i _ hi => k1.2.2.1 r i (by omega))
        have hlen := tkW_len (by omega) k1.2.1 20 (400 + q1) (by omega) (by omega) (by omega)
        iterate 8 (refine zv_step (bX7_write 50) rfl rfl trivial ?_)
        refine zv_ifb (fun h61 => ?_) (fun h61 => ?_)
        · have hfit : u + (q1 + 1) ≤ 120 := by
            have h9 : o 0 + nI (q1 + 1) ≤ nI 120 := h61
            rwa [ho, nI_add, nI_leI (by omega) (by decide)] at h9
          refine zv_world (show _ = wR f (upd (upd (upd o 28 (nI s)) 29 (nI (q1 + 1))) 0 (nI u)) A1 J1 from by rw [← ho]; rfl) ?_
          iterate 2 (refine zv_step (bX7_write 50) rfl rfl trivial ?_)
          refine zv_V1 (bX7_write 50) rfl rfl rfl rfl rfl rfl rfl ⟨rfl, rfl, rfl⟩ ⟨by decide, by decide⟩ ⟨Nat.zero_le _, Nat.zero_le _⟩ (mCopiesX f (upd (upd o 28 (nI s)) 29 (nI (q1 + 1))) J1 (hi := 400 + (q1 + 1)) (by omega) 20 A1 (400 + q1) (by omega) (by omega) (by omega) u hT1 k1.2.1 (by omega) []) ?_
          rintro _ _ ⟨u1, A2, rfl, rfl, c1, y1⟩
          have n1 := c1.2.2.2.1
          exact zv_iret (bX7_write 50) rfl (Or.inl rfl) (Nat.zero_le _) (Nat.zero_le _) ⟨_, A2, J1, _, rfl, rfl, ⟨⟨u1 + 1, by omega, by omega, upd_self _ _ _, c1.1⟩, fun j a b c => by rw [upd_ne _ _ a, upd_ne _ _ c, upd_ne _ _ b], fun r hr => (c1.2.1 r hr).trans (k1.1 r hr), fun r i hi => (c1.2.2.1 r i (Or.inl hi)).trans (k1.2.2.1 r i (by omega))⟩, Or.inr ⟨s, J1, by omega, rfl, z0, hJ, Or.inr ⟨p, _, rfl, hpc, r1, Or.inr ⟨by rw [show u1 = u + (tkW A1 20 (nI (400 + q1))).length - 1 by omega], by omega, by rw [show u + (tkW A1 20 (nI (400 + q1))).length = u1 + 1 by omega]; exact upd_self _ _ _, A1, fun r i hi => k1.2.2.1 r i (by omega), by rw [y1]⟩⟩⟩⟩
        · have hfit : ¬ u + (q1 + 1) ≤ 120 := fun q => h61 (by show o 0 + nI (q1 + 1) ≤ nI 120; rw [ho, nI_add, nI_leI (by omega) (by decide)]; exact q)
          iterate 1 (refine zv_step (bX7_write 50) rfl rfl trivial ?_)
          exact zv_iret (bX7_write 50) rfl (Or.inl rfl) (Nat.zero_le _) (Nat.zero_le _) ⟨upd (upd o 28 (nI s)) 29 (nI (q1 + 1)), A1, J1, _, rfl, rfl, ⟨⟨u, Nat.le_refl _, hu, ho, hT1⟩, fun j a b c => by rw [upd_ne _ _ c, upd_ne _ _ b], k1.1, fun r i hi => k1.2.2.1 r i (by omega)⟩, Or.inr ⟨s, J1, by omega, rfl, z0, hJ, Or.inr ⟨p, _, rfl, hpc, r1, Or.inl ⟨rfl, by omega, ho⟩⟩⟩⟩
      · have q27 : ¬ z < lN (ctW h J1) := fun q => h27 ((lg_cmp_lt _ _).mpr q)
        iterate 1 (refine zv_step (bX7_write 50) rfl rfl trivial ?_)
        exact zv_iret (bX7_write 50) rfl (Or.inl rfl) (Nat.zero_le _) (Nat.zero_le _) ⟨(upd o 28 (nI s)), A, J1, _, rfl, rfl, ⟨⟨u, Nat.le_refl _, hu, ho, hT⟩, fun j a b c => by rw [upd_ne _ _ b], fun _ _ => rfl, fun _ _ _ => rfl⟩, Or.inr ⟨s, J1, by omega, rfl, z0, hJ, Or.inl ⟨rfl, q27, ho⟩⟩⟩
    · have z0 : ¬ 0 ≤ z.toInt := fun q => h15 (by rw [lg_cmp_ge, Int64.le_iff_toInt_le]; exact q)
      iterate 1 (refine zv_step (bX7_write 50) rfl rfl trivial ?_)
      exact zv_iret (bX7_write 50) rfl (Or.inl rfl) (Nat.zero_le _) (Nat.zero_le _) ⟨o, A, J, _, rfl, rfl, ⟨⟨u, Nat.le_refl _, hu, ho, hT⟩, fun _ _ _ _ => rfl, fun _ _ => rfl, fun _ _ _ => rfl⟩, Or.inl ⟨rfl, fun q => z0 q.2, ho⟩⟩
  · try rw [Int32.toInt_toInt64] at g1
    iterate 1 (refine zv_step (bX7_write 50) rfl rfl trivial ?_)
    refine zv_ift (by decide) ?_
    iterate 1 (refine zv_step (bX7_write 50) rfl rfl trivial ?_)
    exact zv_iret (bX7_write 50) rfl (Or.inl rfl) (Nat.zero_le _) (Nat.zero_le _) ⟨o, A, J, _, rfl, rfl, ⟨⟨u, Nat.le_refl _, hu, ho, hT⟩, fun _ _ _ _ => rfl, fun _ _ => rfl, fun _ _ _ => rfl⟩, Or.inl ⟨rfl, fun q => g1 q.1, ho⟩⟩
/-- a style's KINDS, as the class holds them -/
def syR (P : Nat → Nat → Int32) (s : Nat) (lt : Nat → Nat → Bool) : Prop := if s = 8 then (∀ k, k < 10 → lt k 0 = true ∧ lt k 1 = mayN k) else (∃ m, m < 1024 ∧ P 75 s = nI m ∧ ∀ k, k < 10 → lt k 1 = m.testBit k ∧ lt k 0 = !m.testBit k)
set_option maxRecDepth 100000 in
theorem not_m : ∀ m, m < 1024 → (Int16.ofInt 1023).toInt32 &&& (nI m ^^^ Int32.ofInt (-1)) = nI (1023 ^^^ m) := by decide +kernel
theorem may_k : ∀ k, k < 10 → Nat.testBit 764 k = mayN k := by decide +kernel
theorem sy_8 {P : Nat → Nat → Int32} {lt : Nat → Nat → Bool} (h : syR P 8 lt) : btR (Int16.ofInt 1023).toInt32 (fun k => lt k 0) ∧ btR (Int16.ofInt 764).toInt32 (fun k => lt k 1) := by
  unfold syR at h
  rw [if_pos rfl] at h
  exact ⟨⟨1023, by decide, by decide +kernel, fun k hk => by show _ = lt k 0; rw [(h k hk).1]; exact t1023 k hk⟩, ⟨764, by decide, by decide +kernel, fun k hk => by show _ = lt k 1; rw [(h k hk).2]; exact may_k k hk⟩⟩
theorem sy_n {P : Nat → Nat → Int32} {s : Nat} {lt : Nat → Nat → Bool} (h : syR P s lt) (hs : ¬ s = 8) : btR ((Int16.ofInt 1023).toInt32 &&& (P 75 s ^^^ Int32.ofInt (-1))) (fun k => lt k 0) ∧ btR (P 75 s) (fun k => lt k 1) := by
  unfold syR at h
  rw [if_neg hs] at h
  obtain ⟨m, hm, e, hb⟩ := h
  refine ⟨⟨1023 ^^^ m, Nat.xor_lt_two_pow (n := 10) (by decide) hm, by rw [e]; exact not_m m hm, fun k hk => ?_⟩, ⟨m, hm, e, fun k hk => (hb k hk).1.symm⟩⟩
  show _ = lt k 0
  rw [Nat.testBit_xor, t1023 k hk, (hb k hk).2]
  exact Bool.true_xor _
theorem min_cap {x : Nat} (h : x ≤ cap) : (if Int64.ofInt 1000000000000000 < lN x then Int64.ofInt 1000000000000000 else lN x) = lN x := if_neg (by rw [cap_e, lN_ltJ (by decide) (by unfold cap at h; omega)]; omega)
theorem ctY_le {Y0 : Nat → Nat → Int64} {n : Nat} (hn : n ≤ 20) {E : Nat → Nat} {G : Nat → Int32} {lt : Nat → Nat → Bool} {Y : Nat → Nat → Int64} (h : okZ Y0 n E G lt Y (n + 1) 0) : ctY n Y ≤ cap := by
  unfold ctY
  split
  · exact Nat.zero_le _
  · exact Nat.le_trans (h.1 0 n (by omega) (Nat.le_refl _) (by omega)).2.2 (pow5_cap1 (by omega))
set_option maxHeartbeats 1000000 in
set_option maxRecDepth 20000 in
theorem cTallyInX (O : Nat → Int32) (P : Nat → Nat → Int32) (Y : Nat → Nat → Int64) (g : Nat → zC) {n : Nat} {E : Nat → Nat} (hE : eaR n P E) (hO : O 9 = nI n) (hn : n ≤ 20) {G : Nat → Int32} (hG : gfR (O 0) G) {lt : Nat → Nat → Bool} {s : Nat} (hs : s ≤ 8) (hy : syR P s lt) : zK 5 zX6_tallyIn [.ref 0, .int (nI s)] (wX O P Y g) (fun r w' => ∃ (a b : Int32) (Y' : Nat → Nat → Int64), r = some (.long (lN (ctY n Y'))) ∧ w' = wX (upd (upd (upd O 10 a) 11 b) 12 (O 0)) P Y' g ∧ okZ Y n E G lt Y' (n + 1) 0 ∧ btR a (fun k => lt k 0) ∧ btR b (fun k => lt k 1)) := by
  refine zK_of qX6_tallyIn (by decide +kernel) rfl ?_
  iterate 3 (refine zv_step (bX6_tallyIn 5) rfl rfl trivial ?_)
  refine zv_ifb (fun h3 => ?_) (fun h3 => ?_)
  · have q3 : ¬ s = 8 := fun e => h3 (by rw [e]; rfl)
    iterate 3 (refine zv_step (bX6_tallyIn 5) rfl rfl trivial ?_)
    refine zv_iale (bX6_tallyIn 5) rfl rfl (vp_in_nI (by omega) (by decide)) (show P 75 (nI s).toNatClampNeg = P 75 s by rw [nI_clamp (by omega)]) ?_
    iterate 4 (refine zv_step (bX6_tallyIn 5) rfl rfl trivial ?_)
    refine zv_ift (h3) ?_
    iterate 12 (refine zv_step (bX6_tallyIn 5) rfl rfl trivial ?_)
    refine zv_V3 (bX6_tallyIn 5) rfl rfl rfl rfl rfl rfl rfl ⟨rfl, rfl, rfl⟩ ⟨by decide, by decide⟩ ⟨Nat.zero_le _, Nat.zero_le _⟩ (hTallyX O P Y g hE hO hn hG (btR_kd (btR_1 (sy_n hy q3).1)) (btR_kd (btR_1 (sy_n hy q3).2))) ?_
    rintro _ _ ⟨Y1, rfl, rfl, hZ⟩
    iterate 1 (refine zv_step (bX6_tallyIn 5) rfl rfl trivial ?_)
    refine zv_minJ (bX6_tallyIn 5) rfl zMinL rfl ⟨by decide, by decide⟩ ⟨Nat.zero_le _, Nat.zero_le _⟩ ?_
    exact zv_lret (bX6_tallyIn 5) rfl rfl (Nat.zero_le _) (Nat.zero_le _) ⟨_, _, Y1, congrArg (fun v => some (Value.long v)) (min_cap (ctY_le hn hZ)), rfl, hZ, sy_n hy q3⟩
  · have q3 : s = 8 := (nI_eq (b := 8) (by omega) (by decide)).mp (Decidable.not_not.mp h3)
    have hy8 : syR P 8 lt := by rw [← q3]; exact hy
    iterate 6 (refine zv_step (bX6_tallyIn 5) rfl rfl trivial ?_)
    refine zv_iff (h3) ?_
    iterate 9 (refine zv_step (bX6_tallyIn 5) rfl rfl trivial ?_)
    refine zv_V3 (bX6_tallyIn 5) rfl rfl rfl rfl rfl rfl rfl ⟨rfl, rfl, rfl⟩ ⟨by decide, by decide⟩ ⟨Nat.zero_le _, Nat.zero_le _⟩ (hTallyX O P Y g hE hO hn hG (btR_kd (btR_1 (sy_8 hy8).1)) (btR_kd (btR_1 (sy_8 hy8).2))) ?_
    rintro _ _ ⟨Y1, rfl, rfl, hZ⟩
    iterate 1 (refine zv_step (bX6_tallyIn 5) rfl rfl trivial ?_)
    refine zv_minJ (bX6_tallyIn 5) rfl zMinL rfl ⟨by decide, by decide⟩ ⟨Nat.zero_le _, Nat.zero_le _⟩ ?_
    exact zv_lret (bX6_tallyIn 5) rfl rfl (Nat.zero_le _) (Nat.zero_le _) ⟨_, _, Y1, congrArg (fun v => some (Value.long v)) (min_cap (ctY_le hn hZ)), rfl, hZ, sy_8 hy8⟩
/-- what write answers of the class, and what it leaves -/
def wrC (O : Nat → Int32) (P : Nat → Nat → Int32) (Y : Nat → Nat → Int64) (E : Nat → Nat) (G : Nat → Int32) (lt : Nat → Nat → Nat → Bool) (u n : Nat) (x : Int32) (z : Int64) (O' : Nat → Int32) (P' : Nat → Nat → Int32) (R : Int32) : Prop :=
  (R = Int32.ofInt (-1) ∧ ¬ ((0 ≤ x.toInt ∧ x.toInt ≤ 8) ∧ 0 ≤ z.toInt) ∧ O' 1 = nI u ∧ P' = P) ∨
  ∃ (s : Nat) (Y1 : Nat → Nat → Int64), s ≤ 8 ∧ x = nI s ∧ 0 ≤ z.toInt ∧ okZ Y n E G (lt s) Y1 (n + 1) 0 ∧ ((R = c8 (-4) ∧ ¬ z < lN (ctY n Y1) ∧ O' 1 = nI u ∧ P' = P) ∨
    ∃ (p : Nat) (T : List (Nat × Nat)), z = lN p ∧ p < ctY n Y1 ∧ RT E (mG E G (lt s) (lY Y1)) (lY Y1) 20 0 n p T ∧ ((R = c8 (-2) ∧ 120 < u + T.length ∧ O' 1 = nI u ∧ ∀ i, ¬ (14 < i ∧ i ≤ 26) → P' i = P i) ∨
      (R = nI (u + T.length - 1) ∧ u + T.length ≤ 120 ∧ O' 1 = nI (u + T.length) ∧ (∀ i, ¬ (1 < i ∧ i ≤ 26) → P' i = P i) ∧ ∃ P1 : Nat → Nat → Int32, (∀ i, ¬ (14 < i ∧ i ≤ 26) → P1 i = P i) ∧ lyC 1 T (P1, u, []) (P', u + T.length, [u + T.length - 1]))))
set_option maxHeartbeats 1000000 in
set_option maxRecDepth 20000 in
theorem cWriteX (O : Nat → Int32) (P : Nat → Nat → Int32) (Y : Nat → Nat → Int64) (g : Nat → zC) {u : Nat} (hu : u ≤ 120) (hO1 : O 1 = nI u) {n : Nat} {E : Nat → Nat} (hE : eaR n P E) (hO : O 9 = nI n) (hn : n ≤ 20) {G : Nat → Int32} (hG : gfR (O 0) G) {lt : Nat → Nat → Nat → Bool} (hy : ∀ s, s ≤ 8 → syR P s (lt s)) (x : Int32) (z : Int64) : zK 66 zX6_write [.ref 0, .int x, .long z] (wX O P Y g) (fun r w' => ∃ (O' : Nat → Int32) (P' : Nat → Nat → Int32) (Y' : Nat → Nat → Int64) (R : Int32), r = some (.int R) ∧ w' = wX O' P' Y' g ∧ (wyI Y → wyI Y') ∧ (∀ j, j ≠ 1 → j ≠ 2 → j ≠ 10 → j ≠ 11 → j ≠ 12 → O' j = O j) ∧ wrC O P Y E G lt u n x z O' P' R) := by
  refine zK_of qX6_write (by decide +kernel) rfl ?_
  iterate 1 (refine zv_step (bX6_write 66) rfl rfl trivial ?_)
  refine zv_S1 (bX6_write 66) rfl rfl rfl rfl ⟨rfl, rfl, rfl⟩ ⟨by decide, by decide⟩ ⟨Nat.zero_le _, Nat.zero_le _⟩ (hX6_isStyleOrFree _ _) ?_
  rintro _ _ ⟨rfl, ⟨hx, rfl⟩ | ⟨hx, rfl⟩⟩
  · obtain ⟨s, hs, rfl⟩ := in_nat (x := x) (b := 8) (by decide) hx
    iterate 1 (refine zv_step (bX6_write 66) rfl rfl trivial ?_)
    refine zv_iff (by decide) ?_
    iterate 4 (refine zv_step (bX6_write 66) rfl rfl trivial ?_)
    refine zv_ifb (fun h10 => ?_) (fun h10 => ?_)
    · have z0 : 0 ≤ z.toInt := by
        rw [lg_cmp_ge, Int64.le_iff_toInt_le] at h10
        exact h10
      iterate 3 (refine zv_step (bX6_write 66) rfl rfl trivial ?_)
      refine zv_V1 (bX6_write 66) rfl rfl rfl rfl rfl rfl rfl ⟨rfl, rfl, rfl⟩ ⟨by decide, by decide⟩ ⟨Nat.zero_le _, Nat.zero_le _⟩ (cTallyInX O P Y g hE hO hn hG (s := s) (by omega) (hy s (by omega))) ?_
      rintro _ _ ⟨a, b, Y1, rfl, rfl, hZ, ha, hb⟩
      iterate 2 (refine zv_step (bX6_write 66) rfl rfl trivial ?_)
      refine zv_ifb (fun h22 => ?_) (fun h22 => ?_)
      · obtain ⟨p, hp, rfl⟩ := l_nat z0 (ctY_le hn hZ) ((lg_cmp_lt _ _).mp h22)
        have h0 : 0 < n ∧ p < lY Y1 0 n := by
          unfold ctY at hp
          split at hp
          · omega
          · exact ⟨by omega, hp⟩
        obtain ⟨T, hT, hT20⟩ := RT_ex hn (fun i j h1 h2 => (hZ.1 i j h1 h2 (by omega)).2.1) 20 0 n p h0.1 (Nat.le_refl _) (by omega) h0.2
        iterate 4 (refine zv_step (bX6_write 66) rfl rfl trivial ?_)
        refine zv_world (show _ = wX (upd (upd (upd (upd O 10 a) 11 b) 12 (O 0)) 2 (nI 0)) P Y1 g from rfl) ?_
        iterate 5 (refine zv_step (bX6_write 66) rfl rfl trivial ?_)
        refine zv_V2 (bX6_write 66) rfl rfl rfl rfl rfl rfl rfl ⟨rfl, rfl, rfl⟩ ⟨by decide, by decide⟩ ⟨Nat.zero_le _, Nat.zero_le _⟩ (hBuildX14 hE hn (O := (upd (upd (upd O 10 a) 11 b) 12 (O 0))) (Y := Y1) (g := g) hG ha hb (fun c d h1 h2 => (hZ.1 c d h1 h2 (by omega)).1) (fun c d h1 h2 => (hZ.1 c d h1 h2 (by omega)).2.2) hO h0.1 hT (u := 0) (P := P) (st := []) rfl (by omega)) ?_
        rintro _ _ ⟨P1, rfl, rfl, ly1, fr1, ln1⟩
        iterate 10 (refine zv_step (bX6_write 66) rfl rfl trivial ?_)
        refine zv_ifb (fun h66 => ?_) (fun h66 => ?_)
        · have hfit : u + T.length ≤ 120 := by
            have h9 : O 1 + nI (0 + T.length) ≤ nI 120 := h66
            rwa [hO1, nI_add, nI_leI (by omega) (by decide), Nat.zero_add] at h9
          refine zv_world (show wX (upd (upd (upd (upd O 10 a) 11 b) 12 (O 0)) 2 (nI (0 + T.length))) P1 Y1 g = wX (upd (upd (upd (upd (upd O 10 a) 11 b) 12 (O 0)) 2 (nI (0 + T.length))) 1 (nI u)) P1 Y1 g by rw [upd_same (show (upd (upd (upd (upd O 10 a) 11 b) 12 (O 0)) 2 (nI (0 + T.length))) 1 = nI u from hO1)]) ?_
          iterate 5 (refine zv_step (bX6_write 66) rfl rfl trivial ?_)
          refine zv_V2 (bX6_write 66) rfl rfl rfl rfl rfl rfl rfl ⟨rfl, rfl, rfl⟩ ⟨by decide, by decide⟩ ⟨Nat.zero_le _, Nat.zero_le _⟩ (hBuildX1 hE hn (O := (upd (upd (upd (upd O 10 a) 11 b) 12 (O 0)) 2 (nI (0 + T.length)))) (Y := Y1) (g := g) hG ha hb (fun c d h1 h2 => (hZ.1 c d h1 h2 (by omega)).1) (fun c d h1 h2 => (hZ.1 c d h1 h2 (by omega)).2.2) hO h0.1 hT (u := u) (P := P1) (st := []) (fr1 32 (by omega)) hfit) ?_
          rintro _ _ ⟨P2, rfl, rfl, ly2, fr2, ln2⟩
          exact zv_iret (bX6_write 66) rfl (Or.inl rfl) (Nat.zero_le _) (Nat.zero_le _) ⟨_, P2, Y1, _, rfl, rfl, hZ.2, fun j b1 b2 b3 b4 b5 => (upd_ne _ _ b1).trans ((upd_ne _ _ b2).trans (upd_3 O a b (O 0) b3 b4 b5)), Or.inr ⟨s, Y1, by omega, rfl, z0, hZ, Or.inr ⟨p, T, rfl, hp, hT, Or.inr ⟨rfl, hfit, rfl, fun i hi => (fr2 i (by omega)).trans (fr1 i (by omega)), P1, fr1, ly2⟩⟩⟩⟩
        · have hfit : ¬ u + T.length ≤ 120 := fun q => h66 (by show O 1 + nI (0 + T.length) ≤ nI 120; rw [hO1, nI_add, nI_leI (by omega) (by decide), Nat.zero_add]; exact q)
          iterate 1 (refine zv_step (bX6_write 66) rfl rfl trivial ?_)
          exact zv_iret (bX6_write 66) rfl (Or.inl rfl) (Nat.zero_le _) (Nat.zero_le _) ⟨_, P1, Y1, _, rfl, rfl, hZ.2, fun j b1 b2 b3 b4 b5 => (upd_ne _ _ b2).trans (upd_3 O a b (O 0) b3 b4 b5), Or.inr ⟨s, Y1, by omega, rfl, z0, hZ, Or.inr ⟨p, T, rfl, hp, hT, Or.inl ⟨rfl, by omega, hO1, fr1⟩⟩⟩⟩
      · have q22 : ¬ z < lN (ctY n Y1) := fun q => h22 ((lg_cmp_lt _ _).mpr q)
        iterate 1 (refine zv_step (bX6_write 66) rfl rfl trivial ?_)
        exact zv_iret (bX6_write 66) rfl (Or.inl rfl) (Nat.zero_le _) (Nat.zero_le _) ⟨_, P, Y1, _, rfl, rfl, hZ.2, fun j b1 b2 b3 b4 b5 => upd_3 O a b (O 0) b3 b4 b5, Or.inr ⟨s, Y1, by omega, rfl, z0, hZ, Or.inl ⟨rfl, q22, hO1, rfl⟩⟩⟩
    · have z0 : ¬ 0 ≤ z.toInt := fun q => h10 (by rw [lg_cmp_ge, Int64.le_iff_toInt_le]; exact q)
      iterate 1 (refine zv_step (bX6_write 66) rfl rfl trivial ?_)
      exact zv_iret (bX6_write 66) rfl (Or.inl rfl) (Nat.zero_le _) (Nat.zero_le _) ⟨O, P, Y, _, rfl, rfl, id, fun _ _ _ _ _ _ => rfl, Or.inl ⟨rfl, fun q => z0 q.2, hO1, rfl⟩⟩
  · skip
    iterate 1 (refine zv_step (bX6_write 66) rfl rfl trivial ?_)
    refine zv_ift (by decide) ?_
    iterate 1 (refine zv_step (bX6_write 66) rfl rfl trivial ?_)
    exact zv_iret (bX6_write 66) rfl (Or.inl rfl) (Nat.zero_le _) (Nat.zero_le _) ⟨O, P, Y, _, rfl, rfl, id, fun _ _ _ _ _ _ => rfl, Or.inl ⟨rfl, fun q => hx q.1, hO1, rfl⟩⟩
