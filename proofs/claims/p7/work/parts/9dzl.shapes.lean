/-! shapes: two NODES have the same shape just when they are alike -/
def shV (S : Nat → Int32) (x : Int32) : Int32 := if x = m1 then m1 else S x.toNatClampNeg
theorem shV_m1 (S : Nat → Int32) : shV S m1 = m1 := if_pos rfl
theorem shV_nI (S : Nat → Int32) {n : Nat} (h : n < 1000) : shV S (nI n) = S n := by
  unfold shV
  rw [if_neg (m1_n (by omega)), nI_clamp (by omega)]
theorem shQ_V {u : Nat} (hu : u ≤ 120) {S : Nat → Int32} {x : Int32} (h : okp u x) : shQ (nI u) S x = shV S x := by
  rcases h with e | ⟨j, hj, e⟩
  · rw [e, show (Int32.ofInt (-1)) = m1 from rfl, shV_m1]
    exact @if_neg _ (Classical.propDecidable _) (fun q => absurd q.1 (by decide)) _ _ _
  · rw [e, shV_nI _ (by omega)]
    refine (@if_pos _ (Classical.propDecidable _) ?_ _ _ _).trans (by rw [nI_clamp (by omega)])
    rw [nI_toInt (by omega), nI_toInt (by omega)]
    omega
theorem shV_fr {n : Nat} (hn : n ≤ 120) {S S' : Nat → Int32} (e : ∀ j, j < n → S' j = S j) {x : Int32} (h : okp n x) : shV S' x = shV S x := by
  rcases h with q | ⟨j, hj, q⟩
  · rw [q, show (Int32.ofInt (-1)) = m1 from rfl, shV_m1, shV_m1]
  · rw [q, shV_nI _ (by omega), shV_nI _ (by omega), e j hj]
/-- the same top, and parts of the same shape -/
def SE (b : Nat) (P : Nat → Nat → Int32) (m n : Nat) : Prop := P (b + 1) m = P (b + 1) n ∧ P (b + 2) m = P (b + 2) n ∧ shV (P (b + 11)) (P (b + 3) m) = shV (P (b + 11)) (P (b + 3) n) ∧ shV (P (b + 11)) (P (b + 4) m) = shV (P (b + 11)) (P (b + 4) n)
theorem SE_sm {b m n : Nat} {P : Nat → Nat → Int32} (h : SE b P m n) : SE b P n m := ⟨h.1.symm, h.2.1.symm, h.2.2.1.symm, h.2.2.2.symm⟩
theorem SE_tr {b m n k : Nat} {P : Nat → Nat → Int32} (h : SE b P m n) (g : SE b P n k) : SE b P m k := ⟨h.1.trans g.1, h.2.1.trans g.2.1, h.2.2.1.trans g.2.2.1, h.2.2.2.trans g.2.2.2⟩
theorem SE_id (b m : Nat) (P : Nat → Nat → Int32) : SE b P m m := ⟨rfl, rfl, rfl, rfl⟩
def SI (b u : Nat) (P : Nat → Nat → Int32) : Prop := ∀ n, n < u → (∃ s, s ≤ n ∧ P (b + 11) n = nI s) ∧ ∀ m, m < u → (P (b + 11) m = P (b + 11) n ↔ SE b P m n)
/-- the parts of every NODE come before it -/
def PO (b u : Nat) (P : Nat → Nat → Int32) : Prop := ∀ n, n < u → okp n (P (b + 3) n) ∧ okp n (P (b + 4) n)
theorem okp_up {n m : Nat} {x : Int32} (h : okp n x) (hm : n ≤ m) : okp m x := h.imp id (fun ⟨j, hj, e⟩ => ⟨j, by omega, e⟩)
theorem SE_fr {b u : Nat} (hu : u ≤ 120) {P P' : Nat → Nat → Int32} (hO : PO b u P) (e : ∀ i, b < i → i ≤ b + 11 → ∀ j, j < u → P' i j = P i j) {m n : Nat} (hm : m < u) (hn : n < u) : SE b P' m n ↔ SE b P m n := by
  unfold SE
  have f : ∀ i, b < i → i ≤ b + 4 → ∀ k, k < u → P' i k = P i k := fun i h1 h2 k hk => e i h1 (by omega) k hk
  have s : ∀ k, k < u → shV (P' (b + 11)) (P (b + 3) k) = shV (P (b + 11)) (P (b + 3) k) ∧ shV (P' (b + 11)) (P (b + 4) k) = shV (P (b + 11)) (P (b + 4) k) := fun k hk => ⟨shV_fr (by omega) (fun j hj => e (b + 11) (by omega) (by omega) j (by omega)) (hO k hk).1, shV_fr (by omega) (fun j hj => e (b + 11) (by omega) (by omega) j (by omega)) (hO k hk).2⟩
  rw [f (b + 1) (by omega) (by omega) m hm, f (b + 1) (by omega) (by omega) n hn, f (b + 2) (by omega) (by omega) m hm, f (b + 2) (by omega) (by omega) n hn, f (b + 3) (by omega) (by omega) m hm, f (b + 3) (by omega) (by omega) n hn, f (b + 4) (by omega) (by omega) m hm, f (b + 4) (by omega) (by omega) n hn, (s m hm).1, (s m hm).2, (s n hn).1, (s n hn).2]
theorem SI_fr {b u : Nat} (hu : u ≤ 120) {P P' : Nat → Nat → Int32} (hO : PO b u P) (h : SI b u P) (e : ∀ i, b < i → i ≤ b + 11 → ∀ j, j < u → P' i j = P i j) : SI b u P' := fun n hn => by
  obtain ⟨h1, h2⟩ := h n hn
  refine ⟨by rw [e (b + 11) (by omega) (by omega) n hn]; exact h1, fun m hm => ?_⟩
  rw [SE_fr hu hO e hm hn, e (b + 11) (by omega) (by omega) n hn, e (b + 11) (by omega) (by omega) m hm]
  exact h2 m hm
theorem SI_le {b u u' : Nat} {P : Nat → Nat → Int32} (h : SI b u P) (hu : u' ≤ u) : SI b u' P := fun n hn => ⟨(h n (by omega)).1, fun m hm => (h n (by omega)).2 m (by omega)⟩
theorem faW_spec {b : Nat} {U : Int32} {X : Nat → Nat → Int32} {n : Nat} : ∀ (c m : Nat), m + c = n → (∃ j, m ≤ j ∧ j < n ∧ faT b U X n j ∧ faW b U X n c m = X (b + 11) (nI j).toNatClampNeg) ∨ ((∀ j, m ≤ j → j < n → ¬ faT b U X n j) ∧ faW b U X n c m = nI n)
  | 0, m, h => Or.inr ⟨fun j h1 h2 => absurd h2 (by omega), rfl⟩
  | c + 1, m, h => by
    by_cases q : faT b U X n m
    · exact Or.inl ⟨m, Nat.le_refl _, by omega, q, faW_yes q⟩
    · rw [faW_no q]
      rcases faW_spec (b := b) (U := U) (X := X) (n := n) c (m + 1) (by omega) with ⟨j, h1, h2, h3, h4⟩ | ⟨h1, h2⟩
      · exact Or.inl ⟨j, by omega, h2, h3, h4⟩
      · refine Or.inr ⟨fun j h3 h4 => ?_, h2⟩
        by_cases e : j = m
        · rw [e]
          exact q
        · exact h1 j (by omega) h4
/-- a NODE comes: its shape by firstAlike -/
theorem SI_put {b u : Nat} {X P : Nat → Nat → Int32} (hu : u < 120) (h : SI b u P) (hO : PO b (u + 1) P) (hX : ∀ r, b < r → r ≤ b + 4 → X r = P r) (hS : ∀ j, j < u → X (b + 11) j = P (b + 11) j) (e : P (b + 11) u = faW b (nI u) X u u 0) : SI b (u + 1) P := by
  have cl : ∀ j, j ≤ u → (nI j).toNatClampNeg = j := fun j hj => nI_clamp (by omega)
  have sv : ∀ x, okp u x → shQ (nI u) (X (b + 11)) x = shV (P (b + 11)) x := fun x hx => by
    rw [shQ_V (by omega) hx]
    exact shV_fr (by omega) hS hx
  have ft : ∀ m, m < u → (faT b (nI u) X u m ↔ SE b P m u) := fun m hm => by
    have o1 := hO m (by omega)
    have o2 := hO u (by omega)
    unfold faT SE
    rw [cl m (by omega), cl u (by omega), hX (b + 1) (by omega) (by omega), hX (b + 2) (by omega) (by omega), hX (b + 3) (by omega) (by omega), hX (b + 4) (by omega) (by omega), sv _ (okp_up o1.1 (by omega)), sv _ (okp_up o1.2 (by omega)), sv _ o2.1, sv _ o2.2]
    exact ⟨fun q => ⟨q.1.1, q.1.2, q.2.1, q.2.2⟩, fun q => ⟨⟨q.1, q.2.1⟩, q.2.2.1, q.2.2.2⟩⟩
  have key : (∃ s, s ≤ u ∧ P (b + 11) u = nI s) ∧ ∀ m, m < u → (P (b + 11) m = P (b + 11) u ↔ SE b P m u) := by
    rcases faW_spec (b := b) (U := nI u) (X := X) (n := u) u 0 (by omega) with ⟨j, _, hj, t, w⟩ | ⟨t, w⟩
    · rw [w, cl j (by omega), hS j hj] at e
      obtain ⟨⟨s, hs, es⟩, hm⟩ := h j hj
      have tj := (ft j hj).mp t
      refine ⟨⟨s, by omega, e.trans es⟩, fun m hmu => ?_⟩
      rw [e, hm m hmu]
      exact ⟨fun q => SE_tr q tj, fun q => SE_tr q (SE_sm tj)⟩
    · rw [w] at e
      refine ⟨⟨u, Nat.le_refl _, e⟩, fun m hmu => ⟨fun q => ?_, fun q => absurd ((ft m hmu).mpr q) (t m (Nat.zero_le _) hmu)⟩⟩
      obtain ⟨⟨s, hs, es⟩, _⟩ := h m hmu
      rw [es, e] at q
      have := (nI_eq (by omega) (by omega)).mp q
      omega
  intro n hn
  by_cases q : n = u
  · subst q
    refine ⟨key.1, fun m hm => ?_⟩
    by_cases w : m = n
    · subst w
      exact ⟨fun _ => SE_id _ _ _, fun _ => rfl⟩
    · exact key.2 m (by omega)
  · refine ⟨(h n (by omega)).1, fun m hm => ?_⟩
    by_cases w : m = u
    · subst w
      exact ⟨fun a => SE_sm ((key.2 n (by omega)).mp a.symm), fun a => ((key.2 n (by omega)).mpr (SE_sm a)).symm⟩
    · exact (h n (by omega)).2 m (by omega)
theorem NR_PO {u : Nat} {P A : Nat → Nat → Int32} (h : NR u P A) : PO 1 u P := fun n hn => ⟨(h n hn).2.2.2.2.2.1, (h n hn).2.2.2.2.2.2.1⟩
theorem v_om {lo n : Nat} {A : Nat → Nat → Int32} (h : rN lo A n) : omV (cvI (A 1 n)) = A 1 n := by
  obtain ⟨k, h0, hk, hs, h40, hv⟩ := rN_val h
  refine om_cv _ ?_
  by_cases q28 : 2 ≤ k ∧ k ≤ 8
  · exact Or.inl (hv.2.2 q28.1 q28.2)
  · rcases (show k = 1 ∨ (k = 0 ∨ k = 9) by omega) with q1 | q1
    · exact Or.inr (hv.2.1 q1)
    · obtain ⟨v, a, b⟩ := hv.1 q1
      exact Or.inr ⟨v, by omega, b⟩
theorem sh_sz {u : Nat} (hu : u ≤ 120) {P A : Nat → Nat → Int32} (hT : tbI 0 u A) (hN : NR u P A) (hS : SI 1 u P) : ∀ (z m n : Nat), m < u → n < u → szN A m ≤ z → P 12 m = P 12 n → szN A m = szN A n
  | 0, m, n, hm, hn, hz, _ => by
    have := (rN_sz (hT m (Nat.zero_le _) hm)).1
    omega
  | z + 1, m, n, hm, hn, hz, e => by
    have ih := sh_sz hu hT hN hS z
    obtain ⟨a1, a2, a3, a4, _⟩ := hN m hm
    obtain ⟨b1, b2, b3, b4, _⟩ := hN n hn
    obtain ⟨q1, q2, q3, q4⟩ : SE 1 P m n := ((hS n hn).2 m hm).mp e
    replace q3 : shV (P 12) (P 4 m) = shV (P 12) (P 4 n) := q3
    replace q4 : shV (P 12) (P 5 m) = shV (P 12) (P 5 n) := q4
    replace q1 : P 2 m = P 2 n := q1
    rw [a3, b3] at q3
    rw [a4, b4] at q4
    rw [a1, b1] at q1
    obtain ⟨k, h0, hk, hs, _⟩ := rN_val (hT m (Nat.zero_le _) hm)
    obtain ⟨k', h0', hk', hs', _⟩ := rN_val (hT n (Nat.zero_le _) hn)
    have ek : k = k' := (nI_eq (by omega) (by omega)).mp (h0.symm.trans (q1.trans h0'))
    subst ek
    have g : ∀ a c, a < m → c < n → szN A a ≤ z → shV (P 12) (cvI (nI a)) = shV (P 12) (cvI (nI c)) → szN A a = szN A c := fun a c ha hc sa w => by
      rw [cvI_nI (by omega), cvI_nI (by omega), shV_nI _ (by omega), shV_nI _ (by omega)] at w
      exact ih a c (by omega) (by omega) sa w
    rcases hs with ⟨k1, h2, h3, es⟩ | ⟨k1, k6, c, d, h2, la, hc, h3, lb, hd, es⟩ | ⟨k1, c, h2, la, hc, h3, es⟩ <;> rcases hs' with ⟨k1', h2', h3', es'⟩ | ⟨k1', k6', c', d', h2', la', hc', h3', lb', hd', es'⟩ | ⟨k1', c', h2', la', hc', h3', es'⟩
    · rw [es, es']
    · omega
    · omega
    · omega
    · rw [h2, h2'] at q3
      rw [h3, h3'] at q4
      rw [es, es', g c c' hc hc' (by omega) q3, g d d' hd hd' (by omega) q4]
    · omega
    · omega
    · omega
    · rw [h2, h2'] at q3
      rw [es, es', g c c' hc hc' (by omega) q3]
/-- alike (the reference's word) is the same shape (the class's) -/
theorem sh_alk {u : Nat} (hu : u ≤ 120) {P A : Nat → Nat → Int32} (hT : tbI 0 u A) (hN : NR u P A) (hS : SI 1 u P) : ∀ (z m n : Nat), m < u → n < u → szN A m ≤ z → (alk A z (nI m) (nI n) ↔ P 12 m = P 12 n)
  | 0, m, n, hm, hn, hz => by
    have := (rN_sz (hT m (Nat.zero_le _) hm)).1
    omega
  | z + 1, m, n, hm, hn, hz => by
    have ih := sh_alk hu hT hN hS z
    obtain ⟨a1, a2, a3, a4, a5, _⟩ := hN m hm
    obtain ⟨b1, b2, b3, b4, b5, _⟩ := hN n hn
    have e1 : P 2 m = P 2 n ↔ A 0 m = A 0 n := by rw [a1, b1]
    have e2 : P 3 m = P 3 n ↔ A 1 m = A 1 n := by
      rw [a2, b2]
      refine ⟨fun q => ?_, fun q => by rw [q]⟩
      have := congrArg omV q
      rwa [v_om (hT m (Nat.zero_le _) hm), v_om (hT n (Nat.zero_le _) hn)] at this
    have part : ∀ x y, (x = m2 ∨ ∃ a, x = nI a ∧ a < m ∧ szN A a + 1 ≤ szN A m) → (y = m2 ∨ ∃ a, y = nI a ∧ a < n ∧ szN A a + 1 ≤ szN A n) → (shV (P 12) (cvI x) = shV (P 12) (cvI y) ↔ alk A z x y) := by
      rintro x y (rfl | ⟨a, rfl, ha, sa⟩) (rfl | ⟨c, rfl, hc, sc⟩)
      · exact ⟨fun _ => alk_mm A z, fun _ => rfl⟩
      · rw [cvI_m2, cvI_nI (by omega), shV_m1, shV_nI _ (by omega)]
        obtain ⟨⟨s, hs, es⟩, _⟩ := hS c (by omega)
        exact ⟨fun q => absurd (q.trans es).symm (m1_n (a := s) (by omega)), fun q => absurd q (alk_mn A z (by omega))⟩
      · rw [cvI_m2, cvI_nI (by omega), shV_m1, shV_nI _ (by omega)]
        obtain ⟨⟨s, hs, es⟩, _⟩ := hS a (by omega)
        exact ⟨fun q => absurd (es.symm.trans q) (m1_n (a := s) (by omega)), fun q => absurd q (alk_nm A z (by omega))⟩
      · rw [cvI_nI (by omega), cvI_nI (by omega), shV_nI _ (by omega), shV_nI _ (by omega)]
        exact (ih a c (by omega) (by omega) (by omega)).symm
    obtain ⟨dm2, dm3⟩ := rN_dn (hT m (Nat.zero_le _) hm)
    obtain ⟨dn2, dn3⟩ := rN_dn (hT n (Nat.zero_le _) hn)
    have e3 := part _ _ dm2 dn2
    have e4 := part _ _ dm3 dn3
    rw [← a3, ← b3] at e3
    rw [← a4, ← b4] at e4
    have hs : P 12 m = P 12 n ↔ SE 1 P m n := (hS n hn).2 m hm
    have hsz : P 12 m = P 12 n → A 4 m = A 4 n := fun q => by
      rw [(rN_sz (hT m (Nat.zero_le _) hm)).2.2, (rN_sz (hT n (Nat.zero_le _) hn)).2.2, sh_sz hu hT hN hS (z + 1) m n hm hn hz q]
    rw [alk_nn (by omega) (by omega)]
    constructor
    · rintro ⟨q0, q1, _, q2, q3⟩
      exact hs.mpr ⟨e1.mpr q0, e2.mpr q1, e3.mpr q2, e4.mpr q3⟩
    · intro q
      obtain ⟨w1, w2, w3, w4⟩ := hs.mp q
      exact ⟨e1.mp w1, e2.mp w2, hsz q, e3.mp w3, e4.mp w4⟩
