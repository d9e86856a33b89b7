section
/-- the walks of both sides are the same: the NODES gone through, and the steps -/
def wkR (A : Nat → Nat → Int32) (s t : Nat × (Nat → Int32) × (Nat → Int32)) : Prop := s.1 = t.1 ∧ (∀ j, j ≤ s.1 → s.2.1 j = t.2.1 j) ∧ (∀ j, j < s.1 → ((t.2.2 (j + 1) = nI 0 ∧ s.2.2 (j + 1) = nI 1 ∧ t.2.1 (j + 1) = A 2 (nC (t.2.1 j))) ∨ (t.2.2 (j + 1) = nI 1 ∧ s.2.2 (j + 1) = nI 2 ∧ t.2.1 (j + 1) = A 3 (nC (t.2.1 j)))))
theorem pt_1 {u : Nat} (hu : u ≤ 120) {P A : Nat → Nat → Int32} (hN : NR u P A) {n : Nat} (hn : n < u) : ptW (nI u) (P 4) (P 5) (nI n) (nI 1) = cvI (A 2 n) ∧ ptW (nI u) (P 4) (P 5) (nI n) (nI 2) = cvI (A 3 n) := by
  obtain ⟨n1, n2, n3, n4, _⟩ := hN n hn
  unfold ptW
  rw [if_pos (has_n hn hu), if_pos (has_n hn hu), show nC (nI n) = n from nI_clamp (by omega), if_pos (show (nI 1).toInt = 1 from rfl), if_neg (show ¬ (nI 2).toInt = 1 by decide), if_pos (show (nI 2).toInt = 2 from rfl)]
  exact ⟨n3, n4⟩
theorem wy_1 {A : Nat → Nat → Int32} {n : Nat} (hn : n < 450) : wyA A (nI n) (nI 0) = A 2 n ∧ wyA A (nI n) (nI 1) = A 3 n := by
  unfold wyA
  rw [if_pos (show nI 0 = 0 from rfl), if_neg (show ¬ nI 1 = 0 by decide), show nC (nI n) = n from nI_clamp (by omega)]
  exact ⟨rfl, rfl⟩
theorem m1_n {a : Nat} (h : a < 2 ^ 31) : ¬ nI a = Int32.ofInt (-1) := fun e => by
  have : (nI a).toInt = (Int32.ofInt (-1)).toInt := by rw [e]
  rw [nI_toInt h, show (Int32.ofInt (-1)).toInt = -1 from by decide] at this
  omega
/-- one step down on both sides -/
theorem sd_ok {u : Nat} (hu : u ≤ 120) {P A : Nat → Nat → Int32} (hT : tbI 0 u A) (hN : NR u P A) {t0 : Nat} (ht : t0 < u) {d : Nat} {N D N' D' : Nat → Int32} (hr : rtM A t0 d N') (w : wkR A (d, N, D) (d, N', D')) {c : Nat} (hc : c < 2) : (ptW (nI u) (P 4) (P 5) (N d) (nI (c + 1)) = Int32.ofInt (-1) ∧ wyA A (N' d) (nI c) = m2) ∨ ∃ a, a < u ∧ ptW (nI u) (P 4) (P 5) (N d) (nI (c + 1)) = nI a ∧ wyA A (N' d) (nI c) = nI a ∧ ¬ 40 ≤ d + 1 ∧ wkR A (sdW (nI u) (P 4) (P 5) (nI (c + 1)) (d, N, D)) (sdA A (nI c) (d, N', D')) ∧ rtM A t0 (sdA A (nI c) (d, N', D')).1 (sdA A (nI c) (d, N', D')).2.1 := by
  obtain ⟨j, hj, ej, hz⟩ := hr.2 d (Nat.le_refl _)
  have eN : N d = nI j := (w.2.1 d (Nat.le_refl _)).trans ej
  have hju : j < u := by omega
  have e1 : ptW (nI u) (P 4) (P 5) (nI j) (nI (c + 1)) = cvI (wyA A (nI j) (nI c)) := by
    rcases (show c = 0 ∨ c = 1 by omega) with rfl | rfl
    · rw [(wy_1 (by omega)).1]
      exact (pt_1 hu hN hju).1
    · rw [(wy_1 (by omega)).2]
      exact (pt_1 hu hN hju).2
  have hrt := rt_sdA hu hT ht (nI c) (s := (d, N', D')) hr
  rw [eN, ej, e1]
  rcases wyA_or hT hu hju (nI c) with e | ⟨a, e, ha, hs⟩
  · exact Or.inl ⟨by rw [e, cvI_m2], e⟩
  · right
    have s1 := (rN_sz (hT a (Nat.zero_le _) (by omega))).1
    refine ⟨a, by omega, by rw [e, cvI_nI (by omega)], e, by omega, ?_, hrt⟩
    have es : sdW (nI u) (P 4) (P 5) (nI (c + 1)) (d, N, D) = (d + 1, upd N (d + 1) (nI a), upd D (d + 1) (nI (c + 1))) := by
      unfold sdW
      rw [show (d, N, D).2.1 (d, N, D).1 = nI j from eN, e1, e, cvI_nI (by omega), if_neg (fun q => q.elim (m1_n (by omega)) (fun q => by have : 40 ≤ d + 1 := q; omega))]
    have et : sdA A (nI c) (d, N', D') = (d + 1, upd N' (d + 1) (nI a), upd D' (d + 1) (nI c)) := by
      unfold sdA
      rw [show (d, N', D').2.1 (d, N', D').1 = nI j from ej, e, if_neg (nI_pos (by omega))]
    rw [es, et]
    refine ⟨rfl, fun i hi => ?_, fun i hi => ?_⟩
    · show upd N (d + 1) (nI a) i = upd N' (d + 1) (nI a) i
      by_cases q : i = d + 1
      · rw [q, upd_self, upd_self]
      · rw [upd_ne _ _ q, upd_ne _ _ q]
        exact w.2.1 i (by have : i ≤ d + 1 := hi; show i ≤ d; omega)
    · have hi : i < d + 1 := hi
      show (upd D' (d + 1) (nI c) (i + 1) = nI 0 ∧ upd D (d + 1) (nI (c + 1)) (i + 1) = nI 1 ∧ upd N' (d + 1) (nI a) (i + 1) = A 2 (nC (upd N' (d + 1) (nI a) i))) ∨ (upd D' (d + 1) (nI c) (i + 1) = nI 1 ∧ upd D (d + 1) (nI (c + 1)) (i + 1) = nI 2 ∧ upd N' (d + 1) (nI a) (i + 1) = A 3 (nC (upd N' (d + 1) (nI a) i)))
      rw [upd_ne N' (nI a) (show i ≠ d + 1 by omega)]
      by_cases q : i = d
      · subst q
        rw [upd_self, upd_self, upd_self, ej, show nC (nI j) = j from nI_clamp (by omega)]
        rcases (show c = 0 ∨ c = 1 by omega) with rfl | rfl
        · rw [(wy_1 (by omega)).1] at e
          exact Or.inl ⟨rfl, rfl, e.symm⟩
        · rw [(wy_1 (by omega)).2] at e
          exact Or.inr ⟨rfl, rfl, e.symm⟩
      · rw [upd_ne D' _ (show i + 1 ≠ d + 1 by omega), upd_ne D _ (show i + 1 ≠ d + 1 by omega), upd_ne N' _ (show i + 1 ≠ d + 1 by omega)]
        exact w.2.2 i (show i < d by omega)
theorem wk_up {A : Nat → Nat → Int32} {d d' : Nat} {N D N' D' : Nat → Int32} (w : wkR A (d, N, D) (d, N', D')) (h : d' ≤ d) : wkR A (d', N, D) (d', N', D') := ⟨rfl, fun j hj => w.2.1 j (Nat.le_trans hj h), fun j hj => w.2.2 j (Nat.lt_of_lt_of_le hj h)⟩
/-- go on both sides -/
theorem go_ok {u : Nat} (hu : u ≤ 120) {P A : Nat → Nat → Int32} (hT : tbI 0 u A) (hN : NR u P A) {t0 : Nat} (ht : t0 < u) {d : Nat} {N D N' D' : Nat → Int32} (hr : rtM A t0 d N') (w : wkR A (d, N, D) (d, N', D')) {c : Nat} (hc : c < 4) : (goW (nI u) (P 4) (P 5) c (d, N, D) = none ∧ goA A c (d, N', D') = none) ∨ ∃ s t, goW (nI u) (P 4) (P 5) c (d, N, D) = some s ∧ goA A c (d, N', D') = some t ∧ wkR A s t ∧ s.2.1 s.1 = t.2.1 t.1 := by
  have top : ∀ {s t : Nat × (Nat → Int32) × (Nat → Int32)}, wkR A s t → s.2.1 s.1 = t.2.1 t.1 := fun {s t} h => by
    rw [← h.1]
    exact h.2.1 _ (Nat.le_refl _)
  unfold goW goA
  by_cases h2 : c < 2
  · rw [if_pos h2, if_pos h2]
    show ((if ptW (nI u) (P 4) (P 5) (N d) (nI (c + 1)) = Int32.ofInt (-1) ∨ 40 ≤ d + 1 then none else some (sdW (nI u) (P 4) (P 5) (nI (c + 1)) (d, N, D))) = none ∧ (if wyA A (N' d) (nI c) < 0 then none else some (sdA A (nI c) (d, N', D'))) = none) ∨ ∃ s t, (if ptW (nI u) (P 4) (P 5) (N d) (nI (c + 1)) = Int32.ofInt (-1) ∨ 40 ≤ d + 1 then none else some (sdW (nI u) (P 4) (P 5) (nI (c + 1)) (d, N, D))) = some s ∧ (if wyA A (N' d) (nI c) < 0 then none else some (sdA A (nI c) (d, N', D'))) = some t ∧ wkR A s t ∧ s.2.1 s.1 = t.2.1 t.1
    rcases sd_ok hu hT hN ht hr w h2 with ⟨e1, e2⟩ | ⟨a, ha, e1, e2, h40, w', _⟩
    · rw [if_pos (Or.inl e1), e2, if_pos (by decide)]
      exact Or.inl ⟨rfl, rfl⟩
    · rw [if_neg (fun q => q.elim (fun q => m1_n (a := a) (by omega) (e1.symm.trans q)) h40), e2, if_neg (nI_pos (by omega))]
      exact Or.inr ⟨_, _, rfl, rfl, w', top w'⟩
  · rw [if_neg h2, if_neg h2]
    by_cases h0 : d = 0
    · rw [if_pos (show (d, N, D).1 = 0 from h0), if_pos (show (d, N', D').1 = 0 from h0)]
      exact Or.inl ⟨rfl, rfl⟩
    · rw [if_neg (show ¬ (d, N, D).1 = 0 from h0), if_neg (show ¬ (d, N', D').1 = 0 from h0)]
      by_cases h3 : c = 2
      · rw [if_pos h3, if_pos h3]
        have w' := wk_up w (show d - 1 ≤ d by omega)
        exact Or.inr ⟨_, _, rfl, rfl, w', top w'⟩
      · rw [if_neg h3, if_neg h3]
        obtain ⟨m, rfl⟩ : ∃ m, d = m + 1 := ⟨d - 1, by omega⟩
        obtain ⟨j, hj, ej, hz⟩ := hr.2 m (by omega)
        have hju : j < u := by omega
        have eN : N m = nI j := (w.2.1 m (by show m ≤ m + 1; omega)).trans ej
        have up := wk_up w (show m ≤ m + 1 by omega)
        show ((if ptW (nI u) (P 4) (P 5) (N m) (Int32.ofInt 3 - D (m + 1)) = Int32.ofInt (-1) then none else some (m + 1, upd N (m + 1) (ptW (nI u) (P 4) (P 5) (N m) (Int32.ofInt 3 - D (m + 1))), upd D (m + 1) (Int32.ofInt 3 - D (m + 1)))) = none ∧ (if A 3 (nC (N' m)) < 0 then none else some (sdA A (Int32.ofInt 1 - D' (m + 1)) (m, N', D'))) = none) ∨ ∃ s t, (if ptW (nI u) (P 4) (P 5) (N m) (Int32.ofInt 3 - D (m + 1)) = Int32.ofInt (-1) then none else some (m + 1, upd N (m + 1) (ptW (nI u) (P 4) (P 5) (N m) (Int32.ofInt 3 - D (m + 1))), upd D (m + 1) (Int32.ofInt 3 - D (m + 1)))) = some s ∧ (if A 3 (nC (N' m)) < 0 then none else some (sdA A (Int32.ofInt 1 - D' (m + 1)) (m, N', D'))) = some t ∧ wkR A s t ∧ s.2.1 s.1 = t.2.1 t.1
        have hsd : ∀ c, c < 2 → ∀ a, a < u → ptW (nI u) (P 4) (P 5) (nI j) (nI (c + 1)) = nI a → wkR A (sdW (nI u) (P 4) (P 5) (nI (c + 1)) (m, N, D)) (sdA A (nI c) (m, N', D')) ∧ sdW (nI u) (P 4) (P 5) (nI (c + 1)) (m, N, D) = (m + 1, upd N (m + 1) (nI a), upd D (m + 1) (nI (c + 1))) := fun c hc a ha ea => by
          rcases sd_ok hu hT hN ht (rtM_up hr (by omega)) up hc with ⟨e1, _⟩ | ⟨a', ha', e1, e2, h40, w', _⟩
          · rw [eN, ea] at e1
            exact absurd e1 (m1_n (by omega))
          · refine ⟨w', ?_⟩
            unfold sdW
            rw [show (m, N, D).2.1 (m, N, D).1 = nI j from eN, ea, if_neg (fun q => q.elim (m1_n (by omega)) h40)]
        rw [eN, ej, show nC (nI j) = j from nI_clamp (by omega)]
        rcases w.2.2 m (by show m < m + 1; omega) with ⟨q1, q2, q3⟩ | ⟨q1, q2, q3⟩
        · have q1 : D' (m + 1) = nI 0 := q1
          have q2 : D (m + 1) = nI 1 := q2
          rw [q1, q2, show Int32.ofInt 3 - nI 1 = nI 2 from by decide, show Int32.ofInt 1 - nI 0 = nI 1 from by decide, (pt_1 hu hN hju).2]
          rcases (rN_dn (hT j (Nat.zero_le _) hju)).2 with e | ⟨a, e, ha, _⟩
          · rw [e, cvI_m2, if_pos rfl, if_pos (by decide)]
            exact Or.inl ⟨rfl, rfl⟩
          · rw [e, cvI_nI (by omega), if_neg (m1_n (by omega)), if_neg (nI_pos (by omega))]
            obtain ⟨w', es⟩ := hsd 1 (by decide) a (by omega) (by rw [(pt_1 hu hN hju).2, e, cvI_nI (by omega)])
            rw [es] at w'
            exact Or.inr ⟨_, _, rfl, rfl, w', top w'⟩
        · have q1 : D' (m + 1) = nI 1 := q1
          have q2 : D (m + 1) = nI 2 := q2
          have q3 : N' (m + 1) = A 3 (nC (N' m)) := q3
          obtain ⟨b, hb, eb, _⟩ := hr.2 (m + 1) (Nat.le_refl _)
          rw [eb, ej, show nC (nI j) = j from nI_clamp (by omega)] at q3
          rw [q1, q2, show Int32.ofInt 3 - nI 2 = nI 1 from by decide, show Int32.ofInt 1 - nI 1 = nI 0 from by decide, (pt_1 hu hN hju).1, ← q3, if_neg (nI_pos (by omega))]
          rcases rN_sum (hT j (Nat.zero_le _) hju) with ⟨h2', h3', _⟩ | ⟨a, h2', h3', _⟩ | ⟨a, b', h2', h3', la, ha, _⟩
          · rw [h3'] at q3
            exact absurd q3 (m2_n (by omega))
          · rw [h3'] at q3
            exact absurd q3 (m2_n (by omega))
          · rw [h2', cvI_nI (by omega), if_neg (m1_n (by omega))]
            obtain ⟨w', es⟩ := hsd 0 (by decide) a (by omega) (by rw [(pt_1 hu hN hju).1, h2', cvI_nI (by omega)])
            rw [es] at w'
            exact Or.inr ⟨_, _, rfl, rfl, w', top w'⟩
theorem pt_same {u : Nat} (hu : u ≤ 120) {P A : Nat → Nat → Int32} (hN : NR u P A) {x : Int32} (hx : x = m2 ∨ ∃ n, x = nI n ∧ n < u) (w : Int32) : ptW (nI u) (P 4) (P 5) (cvI x) w = cvI (ptA A x w) := by
  rcases hx with rfl | ⟨n, rfl, hn⟩
  · rw [ptA_m2, cvI_m2]
    exact if_neg (fun q => absurd q.1 (by decide))
  · obtain ⟨n1, n2, n3, n4, _⟩ := hN n hn
    unfold ptW ptA
    rw [cvI_nI (by omega), if_pos (has_n hn hu), if_neg (nI_pos (by omega)), show nC (nI n) = n from nI_clamp (by omega)]
    have i1 : w.toInt = 1 ↔ w = Int32.ofInt 1 := ⟨fun e => Int32.toInt_inj.mp (e.trans (by decide)), fun e => by rw [e]; rfl⟩
    have i2 : w.toInt = 2 ↔ w = Int32.ofInt 2 := ⟨fun e => Int32.toInt_inj.mp (e.trans (by decide)), fun e => by rw [e]; rfl⟩
    by_cases h1 : w = Int32.ofInt 1
    · rw [if_pos h1, if_pos (i1.mpr h1)]
      exact n3
    · rw [if_neg h1, if_neg (fun q => h1 (i1.mp q))]
      by_cases h2 : w = Int32.ofInt 2
      · rw [if_pos h2, if_pos (i2.mpr h2)]
        exact n4
      · rw [if_neg h2, if_neg (fun q => h2 (i2.mp q)), cvI_m2]
theorem ptA_or {u : Nat} {A : Nat → Nat → Int32} (hT : tbI 0 u A) (hu : u ≤ 120) {x : Int32} (hx : x = m2 ∨ ∃ n, x = nI n ∧ n < u) (w : Int32) : ptA A x w = m2 ∨ ∃ n, ptA A x w = nI n ∧ n < u := by
  rcases hx with rfl | ⟨n, rfl, hn⟩
  · exact Or.inl (ptA_m2 A w)
  · obtain ⟨h2, h3⟩ := rN_dn (hT n (Nat.zero_le _) hn)
    unfold ptA
    rw [if_neg (nI_pos (by omega)), show nC (nI n) = n from nI_clamp (by omega)]
    split
    · exact h2.imp id (fun ⟨a, e, ha, _⟩ => ⟨a, e, by omega⟩)
    · split
      · exact h3.imp id (fun ⟨a, e, ha, _⟩ => ⟨a, e, by omega⟩)
      · exact Or.inl rfl
theorem ls_same {u : Nat} (hu : u ≤ 120) {P A : Nat → Nat → Int32} (hT : tbI 0 u A) (hN : NR u P A) : ∀ (c : Nat) (x r : Int32), (x = m2 ∨ ∃ n, x = nI n ∧ n < u) → lsW (nI u) (P 4) (P 5) c (cvI x) r = cvI (lsA A c x r)
  | 0, _, _, _ => rfl
  | c + 1, x, r, hx => by
    rw [lsW_s]
    by_cases h : r ≤ 0
    · rw [if_pos h, lsA_y h]
    · rw [if_neg h, lsA_n h, pt_same hu hN hx]
      exact ls_same hu hT hN c _ _ (ptA_or hT hu hx _)
theorem rm_12 {A : Nat → Nat → Int32} {x r : Int32} (h : ¬ ptA A x (rm3 r) = m2) : ¬ x < 0 ∧ ((rm3 r = nI 1 ∧ ptA A x (rm3 r) = A 2 (nC x)) ∨ (rm3 r = nI 2 ∧ ptA A x (rm3 r) = A 3 (nC x))) := by
  unfold ptA at h ⊢
  by_cases h0 : x < 0
  · exact absurd (if_pos h0) h
  · rw [if_neg h0] at h ⊢
    refine ⟨h0, ?_⟩
    by_cases h1 : rm3 r = Int32.ofInt 1
    · rw [if_pos h1]
      exact Or.inl ⟨h1, rfl⟩
    · rw [if_neg h1] at h ⊢
      by_cases h2 : rm3 r = Int32.ofInt 2
      · rw [if_pos h2]
        exact Or.inr ⟨h2, rfl⟩
      · exact absurd (if_neg h2) h
theorem fo_ok {u : Nat} (hu : u ≤ 120) {P A : Nat → Nat → Int32} (hT : tbI 0 u A) (hN : NR u P A) {t0 : Nat} (ht : t0 < u) : ∀ (c : Nat) (r : Int32) (d : Nat) (N D N' D' : Nat → Int32), rtM A t0 d N' → wkR A (d, N, D) (d, N', D') → ¬ lsA A c (N' d) r = m2 → wkR A (foW (nI u) (P 4) (P 5) c r (d, N, D)) (foA A c r (d, N', D')) ∧ rtM A t0 (foA A c r (d, N', D')).1 (foA A c r (d, N', D')).2.1
  | 0, _, _, _, _, _, _, hr, w, _ => ⟨w, hr⟩
  | c + 1, r, d, N, D, N', D', hr, w, hl => by
    rw [foW_s]
    by_cases h : r ≤ 0
    · rw [if_pos h, foA_y h]
      exact ⟨w, hr⟩
    · rw [if_neg h, foA_n h]
      rw [lsA_n h] at hl
      have hp : ¬ ptA A (N' d) (rm3 r) = m2 := fun e => hl (by rw [e, lsA_m2])
      obtain ⟨j, hj, ej, hz⟩ := hr.2 d (Nat.le_refl _)
      obtain ⟨h0, hw⟩ := rm_12 hp
      obtain ⟨c', hc', e1, e2, e3⟩ : ∃ c', c' < 2 ∧ rm3 r = nI (c' + 1) ∧ rm3 r - Int32.ofInt 1 = nI c' ∧ ptA A (N' d) (rm3 r) = wyA A (N' d) (nI c') := by
        rcases hw with ⟨a, b⟩ | ⟨a, b⟩
        · refine ⟨0, by decide, a, by rw [a]; decide, b.trans ?_⟩
          unfold wyA
          rw [if_pos (show nI 0 = 0 from rfl)]
        · refine ⟨1, by decide, a, by rw [a]; decide, b.trans ?_⟩
          unfold wyA
          rw [if_neg (show ¬ nI 1 = 0 by decide)]
      rcases sd_ok hu hT hN ht hr w hc' with ⟨_, q⟩ | ⟨a, ha, q1, q2, h40, w', hr'⟩
      · exact absurd (e3.trans q) hp
      · show wkR A (foW (nI u) (P 4) (P 5) c (r / Int32.ofInt 3) (sdW (nI u) (P 4) (P 5) (rm3 r) (d, N, D))) _ ∧ _
        rw [e2, e1]
        rw [e3] at hl
        have et : (sdA A (nI c') (d, N', D')).2.1 (sdA A (nI c') (d, N', D')).1 = wyA A (N' d) (nI c') := by
          unfold sdA
          rw [if_neg (show ¬ wyA A ((d, N', D').2.1 (d, N', D').1) (nI c') < 0 from by rw [show wyA A ((d, N', D').2.1 (d, N', D').1) (nI c') = nI a from q2]; exact nI_pos (by omega))]
          exact upd_self _ _ _
        rw [← et] at hl
        have e0 : (sdA A (nI c') (d, N', D')).1 = (sdW (nI u) (P 4) (P 5) (nI (c' + 1)) (d, N, D)).1 := w'.1.symm
        have hrec := fo_ok hu hT hN ht c (r / Int32.ofInt 3) (sdA A (nI c') (d, N', D')).1 (sdW (nI u) (P 4) (P 5) (nI (c' + 1)) (d, N, D)).2.1 (sdW (nI u) (P 4) (P 5) (nI (c' + 1)) (d, N, D)).2.2 (sdA A (nI c') (d, N', D')).2.1 (sdA A (nI c') (d, N', D')).2.2 hr' (by rw [e0]; exact ⟨rfl, w'.2.1, w'.2.2⟩) hl
        rw [show ((sdA A (nI c') (d, N', D')).1, (sdW (nI u) (P 4) (P 5) (nI (c' + 1)) (d, N, D)).2.1, (sdW (nI u) (P 4) (P 5) (nI (c' + 1)) (d, N, D)).2.2) = sdW (nI u) (P 4) (P 5) (nI (c' + 1)) (d, N, D) from by rw [e0]] at hrec
        exact hrec
end
section
def mkG (x k n : Int32) : Prop := (0 ≤ x.toInt ∧ x.toInt ≤ 7) ∧ (3 ≤ k.toInt ∧ k.toInt ≤ 4) ∧ (0 ≤ n.toInt ∧ n.toInt ≤ 60)
/-- what make leaves of the class, and of the reference -/
def mkC (O : Nat → Int32) (P : Nat → Nat → Int32) (x k n : Int32) (O' : Nat → Int32) (P' : Nat → Nat → Int32) : Prop := (¬ mkG x k n ∧ O' = O ∧ P' = P) ∨ ∃ s m, s < 8 ∧ m ≤ 60 ∧ x = nI s ∧ n = nI m ∧ mkG x k n ∧ O' = upd (upd O (20 + 10 * s) k) (24 + 10 * s) (nI m) ∧ (∀ j, j ≠ 60 + 2 * s → P' j = P j) ∧ ∀ j, j < 60 → P' (60 + 2 * s) j = Int32.ofInt 0
def mkM (o : Nat → Int32) (A : Nat → Nat → Int32) (x k n : Int32) (o' : Nat → Int32) (A' : Nat → Nat → Int32) : Prop := (¬ mkG x k n ∧ o' = o ∧ A' = A) ∨ ∃ s m, s < 8 ∧ m ≤ 60 ∧ x = nI s ∧ n = nI m ∧ mkG x k n ∧ shF s A A' ∧ A' 9 s = k ∧ A' 12 s = nI m ∧ ∀ i, i < m → A' 13 (60 * s + i) = Int32.ofInt 0
set_option maxHeartbeats 1000000 in
set_option maxRecDepth 20000 in
theorem cMakeY (O : Nat → Int32) (P : Nat → Nat → Int32) (Y : Nat → Nat → Int64) (g : Nat → zC) (x k n : Int32) : zK 1 zX6_make [.ref 0, .int x, .int k, .int n] (wX O P Y g) (fun r w' => ∃ (O' : Nat → Int32) (P' : Nat → Nat → Int32), r = some (.int (mkV x k n)) ∧ w' = wX O' P' Y g ∧ mkC O P x k n O' P') := by
  refine zK_of qX6_make (by decide +kernel) rfl ?_
  iterate 1 (refine zv_step (bX6_make 1) rfl rfl trivial ?_)
  refine zv_S1 (bX6_make 1) rfl rfl rfl rfl ⟨rfl, rfl, rfl⟩ ⟨by decide, by decide⟩ ⟨Nat.zero_le _, Nat.zero_le _⟩ (hX6_isShelf _ _) ?_
  rintro _ _ ⟨rfl, ⟨hx, rfl⟩ | ⟨hx, rfl⟩⟩
  · obtain ⟨s, hs, rfl⟩ := sh_of hx
    iterate 1 (refine zv_step (bX6_make 1) rfl rfl trivial ?_)
    refine zv_iff (by decide) ?_
    iterate 3 (refine zv_step (bX6_make 1) rfl rfl trivial ?_)
    refine zv_ifb (fun h9 => ?_) (fun h9 => ?_)
    · iterate 3 (refine zv_step (bX6_make 1) rfl rfl trivial ?_)
      refine zv_ifb (fun h20 => ?_) (fun h20 => ?_)
      · iterate 2 (refine zv_step (bX6_make 1) rfl rfl trivial ?_)
        refine zv_ifb (fun h26 => ?_) (fun h26 => ?_)
        · have e9 := mkV_0 hx (k34.mp (Or.inl h9)) h20 h26
          have hG : mkG (nI s) k n := ⟨hx, (k34.mp (Or.inl h9)), ge0.mp h26, le60.mp h20⟩
          obtain ⟨m, hm, rfl⟩ := n60 h20 h26
          iterate 1 (refine zv_step (bX6_make 1) rfl rfl trivial ?_)
          refine zv_getf (bX6_make 1) rfl (rfl) rfl ?_
          iterate 1 (refine zv_step (bX6_make 1) rfl rfl trivial ?_)
          refine zv_aald (bX6_make 1) rfl (Or.inl rfl) rfl (show vp_in (nI s) 8 from vp_in_nI (by omega) (by decide)) (show ([some 59, some 61, some 63, some 65, some 67, some 69, some 71, some 73] : List (Option Nat)).getD (nI s).toNatClampNeg none = some (59 + 2 * s) by rw [nI_clamp (by omega)]; exact dSs hs) ?_
          iterate 2 (refine zv_step (bX6_make 1) rfl rfl trivial ?_)
          refine zv_V2 (bX6_make 1) rfl rfl rfl (wS O P Y g hs) rfl rfl rfl ⟨rfl, rfl, rfl⟩ ⟨by decide, by decide⟩ ⟨Nat.zero_le _, Nat.zero_le _⟩ (hNoughtsX O P Y g hs _ _) ?_
          rintro _ _ ⟨rfl, P1, rfl, hP1, hD1⟩
          iterate 1 (refine zv_step (bX6_make 1) rfl rfl trivial ?_)
          exact zv_iret (bX6_make 1) rfl (Or.inl rfl) (Nat.zero_le _) (Nat.zero_le _) ⟨_, P1, congrArg (fun v => some (Value.int v)) e9, rfl, Or.inr ⟨s, m, hs, hm, rfl, rfl, hG, rfl, hP1, hD1⟩⟩
        · iterate 1 (refine zv_step (bX6_make 1) rfl rfl trivial ?_)
          exact zv_iret (bX6_make 1) rfl (Or.inl rfl) (Nat.zero_le _) (Nat.zero_le _) ⟨O, P, congrArg (fun v => some (Value.int v)) (mkV_14 hx (k34.mp (Or.inl h9)) h20 h26), rfl, Or.inl ⟨fun q => h26 (ge0.mpr q.2.2.1), rfl, rfl⟩⟩
      · iterate 1 (refine zv_step (bX6_make 1) rfl rfl trivial ?_)
        exact zv_iret (bX6_make 1) rfl (Or.inl rfl) (Nat.zero_le _) (Nat.zero_le _) ⟨O, P, congrArg (fun v => some (Value.int v)) (mkV_n h20), rfl, Or.inl ⟨fun q => h20 (le60.mpr q.2.2.2), rfl, rfl⟩⟩
    · iterate 3 (refine zv_step (bX6_make 1) rfl rfl trivial ?_)
      refine zv_ifb (fun h14 => ?_) (fun h14 => ?_)
      · iterate 1 (refine zv_step (bX6_make 1) rfl rfl trivial ?_)
        exact zv_iret (bX6_make 1) rfl (Or.inl rfl) (Nat.zero_le _) (Nat.zero_le _) ⟨O, P, congrArg (fun v => some (Value.int v)) (mkV_k (fun q => (k34.mpr q).elim h9 h14)), rfl, Or.inl ⟨fun q => (k34.mpr q.2.1).elim h9 h14, rfl, rfl⟩⟩
      · iterate 3 (refine zv_step (bX6_make 1) rfl rfl trivial ?_)
        refine zv_ifb (fun h20 => ?_) (fun h20 => ?_)
        · iterate 2 (refine zv_step (bX6_make 1) rfl rfl trivial ?_)
          refine zv_ifb (fun h26 => ?_) (fun h26 => ?_)
          · have e9 := mkV_0 hx (k34.mp (Or.inr (Decidable.not_not.mp h14))) h20 h26
            have hG : mkG (nI s) k n := ⟨hx, (k34.mp (Or.inr (Decidable.not_not.mp h14))), ge0.mp h26, le60.mp h20⟩
            obtain ⟨m, hm, rfl⟩ := n60 h20 h26
            iterate 1 (refine zv_step (bX6_make 1) rfl rfl trivial ?_)
            refine zv_getf (bX6_make 1) rfl (rfl) rfl ?_
            iterate 1 (refine zv_step (bX6_make 1) rfl rfl trivial ?_)
            refine zv_aald (bX6_make 1) rfl (Or.inl rfl) rfl (show vp_in (nI s) 8 from vp_in_nI (by omega) (by decide)) (show ([some 59, some 61, some 63, some 65, some 67, some 69, some 71, some 73] : List (Option Nat)).getD (nI s).toNatClampNeg none = some (59 + 2 * s) by rw [nI_clamp (by omega)]; exact dSs hs) ?_
            iterate 2 (refine zv_step (bX6_make 1) rfl rfl trivial ?_)
            refine zv_V2 (bX6_make 1) rfl rfl rfl (wS O P Y g hs) rfl rfl rfl ⟨rfl, rfl, rfl⟩ ⟨by decide, by decide⟩ ⟨Nat.zero_le _, Nat.zero_le _⟩ (hNoughtsX O P Y g hs _ _) ?_
            rintro _ _ ⟨rfl, P1, rfl, hP1, hD1⟩
            iterate 1 (refine zv_step (bX6_make 1) rfl rfl trivial ?_)
            exact zv_iret (bX6_make 1) rfl (Or.inl rfl) (Nat.zero_le _) (Nat.zero_le _) ⟨_, P1, congrArg (fun v => some (Value.int v)) e9, rfl, Or.inr ⟨s, m, hs, hm, rfl, rfl, hG, rfl, hP1, hD1⟩⟩
          · iterate 1 (refine zv_step (bX6_make 1) rfl rfl trivial ?_)
            exact zv_iret (bX6_make 1) rfl (Or.inl rfl) (Nat.zero_le _) (Nat.zero_le _) ⟨O, P, congrArg (fun v => some (Value.int v)) (mkV_14 hx (k34.mp (Or.inr (Decidable.not_not.mp h14))) h20 h26), rfl, Or.inl ⟨fun q => h26 (ge0.mpr q.2.2.1), rfl, rfl⟩⟩
        · iterate 1 (refine zv_step (bX6_make 1) rfl rfl trivial ?_)
          exact zv_iret (bX6_make 1) rfl (Or.inl rfl) (Nat.zero_le _) (Nat.zero_le _) ⟨O, P, congrArg (fun v => some (Value.int v)) (mkV_n h20), rfl, Or.inl ⟨fun q => h20 (le60.mpr q.2.2.2), rfl, rfl⟩⟩
  · skip
    iterate 1 (refine zv_step (bX6_make 1) rfl rfl trivial ?_)
    refine zv_ift (by decide) ?_
    iterate 1 (refine zv_step (bX6_make 1) rfl rfl trivial ?_)
    exact zv_iret (bX6_make 1) rfl (Or.inl rfl) (Nat.zero_le _) (Nat.zero_le _) ⟨O, P, congrArg (fun v => some (Value.int v)) (mkV_x hx), rfl, Or.inl ⟨fun q => hx q.1, rfl, rfl⟩⟩
set_option maxHeartbeats 1000000 in
set_option maxRecDepth 20000 in
theorem makeLX (f : Nat → zC) (o : Nat → Int32) (A : Nat → Nat → Int32) (J : Nat → Nat → Int64) {n s : Nat} (hn : n ≤ 60) (hs : s < 8) {y : Int32} {n0 : Nat} {Q : Option Value → zW → Prop} (hQ : Q (some (.int (Int32.ofInt 0))) (wR f o (updA A 13 (cpO (A 13) (fun _ => Int32.ofInt 0) (60 * s) n)) J)) : ∀ (c i : Nat), i + c = n → ∀ {x4 : Int32}, x4 = nI i → zV (zMo 2 zX7_make) false n0 0 0 53 [(4, .int x4), (0, .ref 76), (1, .int (nI s)), (2, .int y), (3, .int (nI n))] [] (wR f o (updA A 13 (cpO (A 13) (fun _ => Int32.ofInt 0) (60 * s) i)) J) Q := by
  intro c
  induction c with
  | zero =>
    intro i hc x4 e4
    subst e4
    iterate 3 (refine zv_step (bX7_make 2) rfl rfl trivial ?_)
    refine zv_ift (nI_le (by omega) (by omega)) ?_
    iterate 1 (refine zv_step (bX7_make 2) rfl rfl trivial ?_)
    obtain rfl : i = n := by omega
    exact zv_iret (bX7_make 2) rfl (Or.inl rfl) (Nat.zero_le _) (Nat.zero_le _) hQ
  | succ c ih =>
    intro i hc x4 e4
    subst e4
    iterate 3 (refine zv_step (bX7_make 2) rfl rfl trivial ?_)
    refine zv_iff (fun h => absurd ((nI_leI (by omega) (by omega)).mp h) (by omega)) ?_
    iterate 8 (refine zv_step (bX7_make 2) rfl rfl trivial ?_)
    refine zv_step (bX7_make 2) rfl rfl (show vp_in (c8 60 * nI s + nI i) 480 by rw [ix60]; exact vp_in_nI (by omega) (by decide)) ?_
    iterate 2 (refine zv_step (bX7_make 2) rfl rfl trivial ?_)
    refine zv_world (show _ = wR f o (updA A 13 (cpO (A 13) (fun _ => Int32.ofInt 0) (60 * s) (i + 1))) J from by rw [← cpO_s, ← cl60 hs (show i ≤ 60 by omega)]; rfl) ?_
    exact ih (i + 1) (by omega) (nI_1 i)
set_option maxHeartbeats 1000000 in
set_option maxRecDepth 20000 in
theorem mMakeY (f : Nat → zC) (o : Nat → Int32) (A : Nat → Nat → Int32) (J : Nat → Nat → Int64) (hS : szS A) (d y x : Int32) : zK 2 zX7_make [.ref 76, .int d, .int y, .int x] (wR f o A J) (fun r w' => ∃ (o' : Nat → Int32) (A' : Nat → Nat → Int32), r = some (.int (mkV d y x)) ∧ w' = wR f o' A' J ∧ shM o A o' A' ∧ mkM o A d y x o' A') := by
  refine zK_of qX7_make (by decide +kernel) rfl ?_
  iterate 1 (refine zv_step (bX7_make 2) rfl rfl trivial ?_)
  refine zv_S1 (bX7_make 2) rfl rfl rfl rfl ⟨rfl, rfl, rfl⟩ ⟨by decide, by decide⟩ ⟨Nat.zero_le _, Nat.zero_le _⟩ (hX7_isShelf _ _) ?_
  rintro _ _ ⟨rfl, ⟨g2, rfl⟩ | ⟨g2, rfl⟩⟩
  · obtain ⟨s, hs, rfl⟩ := in_nat (b := 7) (by decide) g2
    iterate 1 (refine zv_step (bX7_make 2) rfl rfl trivial ?_)
    refine zv_iff (by decide) ?_
    iterate 4 (refine zv_step (bX7_make 2) rfl rfl trivial ?_)
    refine zv_S3 (bX7_make 2) rfl rfl rfl rfl ⟨rfl, rfl, rfl⟩ ⟨by decide, by decide⟩ ⟨Nat.zero_le _, Nat.zero_le _⟩ (mIn _ _ _ _ (a := 3) (b := 4) (by decide) (by decide)) ?_
    rintro _ _ ⟨rfl, ⟨g3, rfl⟩ | ⟨g3, rfl⟩⟩
    · try rw [Int32.toInt_toInt64] at g3
      iterate 1 (refine zv_step (bX7_make 2) rfl rfl trivial ?_)
      refine zv_iff (by decide) ?_
      iterate 3 (refine zv_step (bX7_make 2) rfl rfl trivial ?_)
      refine zv_ifb (fun h24 => ?_) (fun h24 => ?_)
      · iterate 2 (refine zv_step (bX7_make 2) rfl rfl trivial ?_)
        refine zv_ifb (fun h30 => ?_) (fun h30 => ?_)
        · have e9 := mkV_0 g2 g3 h24 h30
          have hG : mkG (nI s) y x := ⟨g2, g3, ge0.mp h30, le60.mp h24⟩
          obtain ⟨n, hn, rfl⟩ := n60 h24 h30
          iterate 4 (refine zv_step (bX7_make 2) rfl rfl trivial ?_)
          refine zv_step (bX7_make 2) rfl rfl (show vp_in (nI s) 8 from vp_in_nI (by omega) (by decide)) ?_
          iterate 4 (refine zv_step (bX7_make 2) rfl rfl trivial ?_)
          refine zv_step (bX7_make 2) rfl rfl (show vp_in (nI s) 8 from vp_in_nI (by omega) (by decide)) ?_
          iterate 2 (refine zv_step (bX7_make 2) rfl rfl trivial ?_)
          refine zv_world (show _ = wR f o (updA (updA (updA A 9 (upd (A 9) (nI s).toNatClampNeg y)) 12 (upd (A 12) (nI s).toNatClampNeg (nI n))) 13 (cpO (A 13) (fun _ => Int32.ofInt 0) (60 * s) 0)) J from by rw [cpO_0]; rfl) ?_
          exact makeLX f o (updA (updA A 9 (upd (A 9) (nI s).toNatClampNeg y)) 12 (upd (A 12) (nI s).toNatClampNeg (nI n))) J hn (by omega) ⟨o, _, congrArg (fun v => some (Value.int v)) e9, rfl, ⟨fun _ _ => rfl, fun r a b => by rw [updA_ne _ _ (by omega), updA_ne _ _ (by omega), updA_ne _ _ (by omega)], up12 hS ⟨n, hn, rfl⟩⟩, Or.inr ⟨s, n, by omega, hn, rfl, rfl, hG, shF_of (by omega) (a9 := y) (a10 := 0) (a11 := 0) (a12 := nI n) (g := cpO (A 13) (fun _ => Int32.ofInt 0) (60 * s) n) false false true (fun j hj => cpO_out (by omega)) rfl rfl rfl rfl rfl, upd_at (by omega), upd_at (by omega), fun i hi => cpO_in (g := A 13) (s := fun _ => Int32.ofInt 0) (b := 60 * s) hi⟩⟩ n 0 (by omega) rfl
        · iterate 1 (refine zv_step (bX7_make 2) rfl rfl trivial ?_)
          exact zv_iret (bX7_make 2) rfl (Or.inl rfl) (Nat.zero_le _) (Nat.zero_le _) ⟨o, A, congrArg (fun v => some (Value.int v)) (mkV_14 g2 g3 h24 h30), rfl, shM_refl hS, Or.inl ⟨fun q => h30 (ge0.mpr q.2.2.1), rfl, rfl⟩⟩
      · iterate 1 (refine zv_step (bX7_make 2) rfl rfl trivial ?_)
        exact zv_iret (bX7_make 2) rfl (Or.inl rfl) (Nat.zero_le _) (Nat.zero_le _) ⟨o, A, congrArg (fun v => some (Value.int v)) (mkV_n h24), rfl, shM_refl hS, Or.inl ⟨fun q => h24 (le60.mpr q.2.2.2), rfl, rfl⟩⟩
    · try rw [Int32.toInt_toInt64] at g3
      iterate 1 (refine zv_step (bX7_make 2) rfl rfl trivial ?_)
      refine zv_ift (by decide) ?_
      iterate 1 (refine zv_step (bX7_make 2) rfl rfl trivial ?_)
      exact zv_iret (bX7_make 2) rfl (Or.inl rfl) (Nat.zero_le _) (Nat.zero_le _) ⟨o, A, congrArg (fun v => some (Value.int v)) (mkV_k g3), rfl, shM_refl hS, Or.inl ⟨fun q => g3 q.2.1, rfl, rfl⟩⟩
  · skip
    iterate 1 (refine zv_step (bX7_make 2) rfl rfl trivial ?_)
    refine zv_ift (by decide) ?_
    iterate 1 (refine zv_step (bX7_make 2) rfl rfl trivial ?_)
    exact zv_iret (bX7_make 2) rfl (Or.inl rfl) (Nat.zero_le _) (Nat.zero_le _) ⟨o, A, congrArg (fun v => some (Value.int v)) (mkV_x g2), rfl, shM_refl hS, Or.inl ⟨fun q => g2 q.1, rfl, rfl⟩⟩
def sp3 (i n m : Int32) : Prop := 0 ≤ i ∧ 0 ≤ n ∧ i ≤ m - n
def sh7 (x : Int32) : Prop := 0 ≤ x.toInt ∧ x.toInt ≤ 7
/-- what copy answers, by what shelves hold (H) and how long their ROWS are (L) -/
def cyR (H L : Nat → Int32) (x i y j n R : Int32) (same : Prop) (ok : Nat → Nat → Prop) : Prop :=
  (R = Int32.ofInt (-1) ∧ ¬ (sh7 x ∧ sh7 y) ∧ same) ∨ ∃ s t, s < 8 ∧ t < 8 ∧ x = nI s ∧ y = nI t ∧ (((H s = nI 0 ∨ H t = nI 0) ∧ R = c8 (-11) ∧ same) ∨ (¬ (H s = nI 0 ∨ H t = nI 0) ∧ ((¬ ((H s = nI 3 ∨ H s = nI 4) ∧ H s = H t) ∧ R = c8 (-12) ∧ same) ∨ (((H s = nI 3 ∨ H s = nI 4) ∧ H s = H t) ∧ ((¬ (sp3 i n (L s) ∧ sp3 j n (L t)) ∧ R = c8 (-13) ∧ same) ∨ ((sp3 i n (L s) ∧ sp3 j n (L t)) ∧ R = n ∧ ok s t))))))
theorem cyR_same {H L H' L' : Nat → Int32} {x i y j n R R' : Int32} {same same' : Prop} {ok ok' : Nat → Nat → Prop} (hH : ∀ s, s < 8 → H s = H' s) (hL : ∀ s, s < 8 → (H s = nI 3 ∨ H s = nI 4) → L s = L' s) (g : cyR H L x i y j n R same ok) (g' : cyR H' L' x i y j n R' same' ok') : R = R' ∧ ((same ∧ same') ∨ ∃ s t, s < 8 ∧ t < 8 ∧ (H s = nI 3 ∨ H s = nI 4) ∧ H s = H t ∧ sp3 i n (L s) ∧ sp3 j n (L t) ∧ ok s t ∧ ok' s t) := by
  have sh : ∀ s, s < 8 → sh7 (nI s) := fun s hs => by
    unfold sh7
    rw [nI_toInt (by omega)]
    omega
  rcases g with ⟨r1, q1, z1⟩ | ⟨s, t, hs, ht, ex, ey, g⟩ <;> rcases g' with ⟨r2, q2, z2⟩ | ⟨s', t', hs', ht', ex', ey', g'⟩
  · exact ⟨by rw [r1, r2], Or.inl ⟨z1, z2⟩⟩
  · exact absurd ⟨by rw [ex']; exact sh _ hs', by rw [ey']; exact sh _ ht'⟩ q1
  · exact absurd ⟨by rw [ex]; exact sh _ hs, by rw [ey]; exact sh _ ht⟩ q2
  · have es : s = s' := (nI_eq (by omega) (by omega)).mp (ex.symm.trans ex')
    have et : t = t' := (nI_eq (by omega) (by omega)).mp (ey.symm.trans ey')
    subst es
    subst et
    rw [← hH s hs, ← hH t ht] at g'
    rcases g with ⟨c1, r1, z1⟩ | ⟨c1, g⟩ <;> rcases g' with ⟨c2, r2, z2⟩ | ⟨c2, g'⟩
    · exact ⟨by rw [r1, r2], Or.inl ⟨z1, z2⟩⟩
    · exact absurd c1 c2
    · exact absurd c2 c1
    · rcases g with ⟨d1, r1, z1⟩ | ⟨d1, g⟩ <;> rcases g' with ⟨d2, r2, z2⟩ | ⟨d2, g'⟩
      · exact ⟨by rw [r1, r2], Or.inl ⟨z1, z2⟩⟩
      · exact absurd d2 d1
      · exact absurd d1 d2
      · have l1 := hL s hs d1.1
        have l2 := hL t ht (by rw [← d1.2]; exact d1.1)
        rw [← l1, ← l2] at g'
        rcases g with ⟨e1, r1, z1⟩ | ⟨e1, r1, z1⟩ <;> rcases g' with ⟨e2, r2, z2⟩ | ⟨e2, r2, z2⟩
        · exact ⟨by rw [r1, r2], Or.inl ⟨z1, z2⟩⟩
        · exact absurd e2 e1
        · exact absurd e1 e2
        · exact ⟨by rw [r1, r2], Or.inr ⟨s, t, hs, ht, d1.1, d1.2, e1.1, e1.2, z1, z2⟩⟩
set_option maxHeartbeats 1000000 in
set_option maxRecDepth 20000 in
theorem cCopyX (O : Nat → Int32) (P : Nat → Nat → Int32) (Y : Nat → Nat → Int64) (g : Nat → zC) (hsh : ∀ s, s < 8 → ∃ m : Nat, m ≤ 60 ∧ O (24 + 10 * s) = nI m) (x i y j n : Int32) : zK 1 zX6_copy [.ref 0, .int x, .int i, .int y, .int j, .int n] (wX O P Y g) (fun r w' => ∃ (P' : Nat → Nat → Int32) (R : Int32), r = some (.int R) ∧ w' = wX O P' Y g ∧ cyR (fun s => O (20 + 10 * s)) (fun s => O (24 + 10 * s)) x i y j n R (P' = P) (fun s t => P' = updA P (60 + 2 * t) (va_cpy (P (60 + 2 * s)) (P (60 + 2 * t)) i.toNatClampNeg j.toNatClampNeg n.toNatClampNeg))) := by
  refine zK_of qX6_copy (by decide +kernel) rfl ?_
  iterate 1 (refine zv_step (bX6_copy 1) rfl rfl trivial ?_)
  refine zv_S1 (bX6_copy 1) rfl rfl rfl rfl ⟨rfl, rfl, rfl⟩ ⟨by decide, by decide⟩ ⟨Nat.zero_le _, Nat.zero_le _⟩ (hX6_isShelf _ _) ?_
  rintro _ _ ⟨rfl, ⟨q1, rfl⟩ | ⟨q1, rfl⟩⟩
  · obtain ⟨s, hs, rfl⟩ := sh_of q1
    iterate 1 (refine zv_step (bX6_copy 1) rfl rfl trivial ?_)
    refine zv_iff (by decide) ?_
    iterate 1 (refine zv_step (bX6_copy 1) rfl rfl trivial ?_)
    refine zv_S1 (bX6_copy 1) rfl rfl rfl rfl ⟨rfl, rfl, rfl⟩ ⟨by decide, by decide⟩ ⟨Nat.zero_le _, Nat.zero_le _⟩ (hX6_isShelf _ _) ?_
    rintro _ _ ⟨rfl, ⟨q2, rfl⟩ | ⟨q2, rfl⟩⟩
    · obtain ⟨t, ht, rfl⟩ := sh_of q2
      iterate 1 (refine zv_step (bX6_copy 1) rfl rfl trivial ?_)
      refine zv_ift (by decide) ?_
      iterate 1 (refine zv_step (bX6_copy 1) rfl rfl trivial ?_)
      refine zv_getf (bX6_copy 1) rfl (rfl) rfl ?_
      iterate 1 (refine zv_step (bX6_copy 1) rfl rfl trivial ?_)
      refine zv_aald (bX6_copy 1) rfl (Or.inl rfl) rfl (show vp_in (nI s) 8 from vp_in_nI (by omega) (by decide)) (show ([some 59, some 61, some 63, some 65, some 67, some 69, some 71, some 73] : List (Option Nat)).getD (nI s).toNatClampNeg none = some (59 + 2 * s) by rw [nI_clamp (by omega)]; exact dSs hs) ?_
      iterate 2 (refine zv_step (bX6_copy 1) rfl rfl trivial ?_)
      refine zv_getf (bX6_copy 1) rfl (rfl) rfl ?_
      iterate 1 (refine zv_step (bX6_copy 1) rfl rfl trivial ?_)
      refine zv_aald (bX6_copy 1) rfl (Or.inl rfl) rfl (show vp_in (nI t) 8 from vp_in_nI (by omega) (by decide)) (show ([some 59, some 61, some 63, some 65, some 67, some 69, some 71, some 73] : List (Option Nat)).getD (nI t).toNatClampNeg none = some (59 + 2 * t) by rw [nI_clamp (by omega)]; exact dSs ht) ?_
      iterate 2 (refine zv_step (bX6_copy 1) rfl rfl trivial ?_)
      refine zv_getf (bX6_copy 1) rfl (wS O P Y g hs) rfl ?_
      iterate 1 (refine zv_step (bX6_copy 1) rfl rfl trivial ?_)
      refine zv_ifb (fun h37 => ?_) (fun h37 => ?_)
      · iterate 1 (refine zv_step (bX6_copy 1) rfl rfl trivial ?_)
        exact zv_iret (bX6_copy 1) rfl (Or.inl rfl) (Nat.zero_le _) (Nat.zero_le _) ⟨P, _, rfl, rfl, Or.inr ⟨s, t, hs, ht, rfl, rfl, Or.inl ⟨Or.inl h37, rfl, rfl⟩⟩⟩
      · iterate 1 (refine zv_step (bX6_copy 1) rfl rfl trivial ?_)
        refine zv_getf (bX6_copy 1) rfl (wS O P Y g ht) rfl ?_
        iterate 1 (refine zv_step (bX6_copy 1) rfl rfl trivial ?_)
        refine zv_ifb (fun h45 => ?_) (fun h45 => ?_)
        · iterate 1 (refine zv_step (bX6_copy 1) rfl rfl trivial ?_)
          refine zv_V0 (bX6_copy 1) rfl rfl rfl (wS O P Y g hs) rfl rfl rfl ⟨rfl, rfl, rfl⟩ ⟨by decide, by decide⟩ ⟨Nat.zero_le _, Nat.zero_le _⟩ (hHasRow O P Y g hs) ?_
          rintro _ _ ⟨rfl, ⟨q3, rfl⟩ | ⟨q3, rfl⟩⟩
          · skip
            iterate 1 (refine zv_step (bX6_copy 1) rfl rfl trivial ?_)
            refine zv_iff (by decide) ?_
            iterate 1 (refine zv_step (bX6_copy 1) rfl rfl trivial ?_)
            refine zv_getf (bX6_copy 1) rfl (wS O P Y g hs) rfl ?_
            iterate 1 (refine zv_step (bX6_copy 1) rfl rfl trivial ?_)
            refine zv_getf (bX6_copy 1) rfl (wS O P Y g ht) rfl ?_
            iterate 1 (refine zv_step (bX6_copy 1) rfl rfl trivial ?_)
            refine zv_ifb (fun h69 => ?_) (fun h69 => ?_)
            · iterate 3 (refine zv_step (bX6_copy 1) rfl rfl trivial ?_)
              refine zv_V2 (bX6_copy 1) rfl rfl rfl (wS O P Y g hs) rfl rfl rfl ⟨rfl, rfl, rfl⟩ ⟨by decide, by decide⟩ ⟨Nat.zero_le _, Nat.zero_le _⟩ (hHasSpan O P Y g hs _ _) ?_
              rintro _ _ ⟨rfl, ⟨q4, rfl⟩ | ⟨q4, rfl⟩⟩
              · skip
                iterate 1 (refine zv_step (bX6_copy 1) rfl rfl trivial ?_)
                refine zv_iff (by decide) ?_
                iterate 3 (refine zv_step (bX6_copy 1) rfl rfl trivial ?_)
                refine zv_V2 (bX6_copy 1) rfl rfl rfl (wS O P Y g ht) rfl rfl rfl ⟨rfl, rfl, rfl⟩ ⟨by decide, by decide⟩ ⟨Nat.zero_le _, Nat.zero_le _⟩ (hHasSpan O P Y g ht _ _) ?_
                rintro _ _ ⟨rfl, ⟨q5, rfl⟩ | ⟨q5, rfl⟩⟩
                · skip
                  iterate 1 (refine zv_step (bX6_copy 1) rfl rfl trivial ?_)
                  refine zv_ift (by decide) ?_
                  iterate 1 (refine zv_step (bX6_copy 1) rfl rfl trivial ?_)
                  refine zv_getf (bX6_copy 1) rfl (wS O P Y g hs) rfl ?_
                  iterate 2 (refine zv_step (bX6_copy 1) rfl rfl trivial ?_)
                  refine zv_getf (bX6_copy 1) rfl (wS O P Y g ht) rfl ?_
                  iterate 2 (refine zv_step (bX6_copy 1) rfl rfl trivial ?_)
                  obtain ⟨m1, hm1, e1⟩ := hsh s hs
                  obtain ⟨m2, hm2, e2⟩ := hsh t ht
                  have q4b := q4
                  have q5b := q5
                  rw [e1] at q4
                  rw [e2] at q5
                  have k4 := span_le hm1 q4
                  have k5 := span_le hm2 q5
                  refine zv_copyI (bX6_copy 1) rfl zCopyM rfl ⟨by decide, by decide⟩ (wSr O P Y g hs) (wSr O P Y g ht) k4.2.1 k5.2.1 k4.2.2 k4.1 k5.1 ?_
                  rw [wSrset O P Y g _ ht]
                  iterate 1 (refine zv_step (bX6_copy 1) rfl rfl trivial ?_)
                  exact zv_iret (bX6_copy 1) rfl (Or.inl rfl) (Nat.zero_le _) (Nat.zero_le _) ⟨_, _, rfl, rfl, Or.inr ⟨s, t, hs, ht, rfl, rfl, Or.inr ⟨(fun w => w.elim h37 h45), Or.inr ⟨⟨q3, h69⟩, Or.inr ⟨⟨q4b, q5b⟩, rfl, rfl⟩⟩⟩⟩⟩
                · skip
                  iterate 1 (refine zv_step (bX6_copy 1) rfl rfl trivial ?_)
                  refine zv_iff (by decide) ?_
                  iterate 1 (refine zv_step (bX6_copy 1) rfl rfl trivial ?_)
                  exact zv_iret (bX6_copy 1) rfl (Or.inl rfl) (Nat.zero_le _) (Nat.zero_le _) ⟨P, _, rfl, rfl, Or.inr ⟨s, t, hs, ht, rfl, rfl, Or.inr ⟨(fun w => w.elim h37 h45), Or.inr ⟨⟨q3, h69⟩, Or.inl ⟨fun w => q5 w.2, rfl, rfl⟩⟩⟩⟩⟩
              · skip
                iterate 1 (refine zv_step (bX6_copy 1) rfl rfl trivial ?_)
                refine zv_ift (by decide) ?_
                iterate 1 (refine zv_step (bX6_copy 1) rfl rfl trivial ?_)
                exact zv_iret (bX6_copy 1) rfl (Or.inl rfl) (Nat.zero_le _) (Nat.zero_le _) ⟨P, _, rfl, rfl, Or.inr ⟨s, t, hs, ht, rfl, rfl, Or.inr ⟨(fun w => w.elim h37 h45), Or.inr ⟨⟨q3, h69⟩, Or.inl ⟨fun w => q4 w.1, rfl, rfl⟩⟩⟩⟩⟩
            · iterate 1 (refine zv_step (bX6_copy 1) rfl rfl trivial ?_)
              exact zv_iret (bX6_copy 1) rfl (Or.inl rfl) (Nat.zero_le _) (Nat.zero_le _) ⟨P, _, rfl, rfl, Or.inr ⟨s, t, hs, ht, rfl, rfl, Or.inr ⟨(fun w => w.elim h37 h45), Or.inl ⟨fun w => h69 w.2, rfl, rfl⟩⟩⟩⟩
          · skip
            iterate 1 (refine zv_step (bX6_copy 1) rfl rfl trivial ?_)
            refine zv_ift (by decide) ?_
            iterate 1 (refine zv_step (bX6_copy 1) rfl rfl trivial ?_)
            exact zv_iret (bX6_copy 1) rfl (Or.inl rfl) (Nat.zero_le _) (Nat.zero_le _) ⟨P, _, rfl, rfl, Or.inr ⟨s, t, hs, ht, rfl, rfl, Or.inr ⟨(fun w => w.elim h37 h45), Or.inl ⟨fun w => q3 w.1, rfl, rfl⟩⟩⟩⟩
        · iterate 1 (refine zv_step (bX6_copy 1) rfl rfl trivial ?_)
          exact zv_iret (bX6_copy 1) rfl (Or.inl rfl) (Nat.zero_le _) (Nat.zero_le _) ⟨P, _, rfl, rfl, Or.inr ⟨s, t, hs, ht, rfl, rfl, Or.inl ⟨Or.inr (Decidable.not_not.mp h45), rfl, rfl⟩⟩⟩
    · skip
      iterate 1 (refine zv_step (bX6_copy 1) rfl rfl trivial ?_)
      refine zv_iff (by decide) ?_
      iterate 1 (refine zv_step (bX6_copy 1) rfl rfl trivial ?_)
      exact zv_iret (bX6_copy 1) rfl (Or.inl rfl) (Nat.zero_le _) (Nat.zero_le _) ⟨P, _, rfl, rfl, Or.inl ⟨rfl, fun q => q2 q.2, rfl⟩⟩
  · skip
    iterate 1 (refine zv_step (bX6_copy 1) rfl rfl trivial ?_)
    refine zv_ift (by decide) ?_
    iterate 1 (refine zv_step (bX6_copy 1) rfl rfl trivial ?_)
    exact zv_iret (bX6_copy 1) rfl (Or.inl rfl) (Nat.zero_le _) (Nat.zero_le _) ⟨P, _, rfl, rfl, Or.inl ⟨rfl, fun q => q1 q.1, rfl⟩⟩
theorem cl60b {s a i : Nat} (hs : s < 8) (h : a + i ≤ 60) : (c8 60 * nI s + nI a + nI i).toNatClampNeg = 60 * s + a + i := by
  rw [ix60, nI_add, nI_clamp (by omega)]
set_option maxHeartbeats 1000000 in
set_option maxRecDepth 20000 in
theorem copyL2X (f : Nat → zC) (o : Nat → Int32) (A : Nat → Nat → Int32) (J : Nat → Nat → Int64) {n s a t b : Nat} (hs : s < 8) (ht : t < 8) (ha : a + n ≤ 60) (hb : b + n ≤ 60) {n0 : Nat} {Q : Option Value → zW → Prop} (hQ : Q (some (.int (nI n))) (wR f o (updA A 13 (cpO (A 13) (A 15) (60 * t + b) n)) J)) : ∀ (c i : Nat), i + c = n → ∀ {x6 : Int32}, x6 = nI i → zV (zMo 2 zX7_copy) false n0 0 0 149 [(6, .int x6), (0, .ref 76), (1, .int (nI s)), (2, .int (nI a)), (3, .int (nI t)), (4, .int (nI b)), (5, .int (nI n))] [] (wR f o (updA A 13 (cpO (A 13) (A 15) (60 * t + b) i)) J) Q := by
  intro c
  induction c with
  | zero =>
    intro i hc x6 e6
    subst e6
    iterate 3 (refine zv_step (bX7_copy 2) rfl rfl trivial ?_)
    refine zv_ift (nI_le (by omega) (by omega)) ?_
    iterate 1 (refine zv_step (bX7_copy 2) rfl rfl trivial ?_)
    obtain rfl : i = n := by omega
    exact zv_iret (bX7_copy 2) rfl (Or.inl rfl) (Nat.zero_le _) (Nat.zero_le _) hQ
  | succ c ih =>
    intro i hc x6 e6
    subst e6
    iterate 3 (refine zv_step (bX7_copy 2) rfl rfl trivial ?_)
    refine zv_iff (fun h => absurd ((nI_leI (by omega) (by omega)).mp h) (by omega)) ?_
    iterate 12 (refine zv_step (bX7_copy 2) rfl rfl trivial ?_)
    refine zv_iale (bX7_copy 2) rfl rfl (vp_in_nI (by omega) (by decide)) (show A 15 (nI i).toNatClampNeg = A 15 i by rw [nI_clamp (by omega)]) ?_
    refine zv_step (bX7_copy 2) rfl rfl (show vp_in (c8 60 * nI t + nI b + nI i) 480 by rw [ix60, nI_add]; exact vp_in_nI (by omega) (by decide)) ?_
    iterate 2 (refine zv_step (bX7_copy 2) rfl rfl trivial ?_)
    refine zv_world (show _ = wR f o (updA A 13 (cpO (A 13) (A 15) (60 * t + b) (i + 1))) J from by rw [← cpO_s, ← cl60b ht (show b + i ≤ 60 by omega)]; rfl) ?_
    exact ih (i + 1) (by omega) (nI_1 i)
set_option maxHeartbeats 1000000 in
set_option maxRecDepth 20000 in
theorem copyL1X (f : Nat → zC) (o : Nat → Int32) (A : Nat → Nat → Int32) (J : Nat → Nat → Int64) {n s a t b : Nat} (hs : s < 8) (ht : t < 8) (ha : a + n ≤ 60) (hb : b + n ≤ 60) {n0 : Nat} {Q : Option Value → zW → Prop} (hQ : Q (some (.int (nI n))) (wR f o (updA (updA A 15 (cpO (A 15) (fun k => A 13 (60 * s + a + k)) 0 n)) 13 (cpO (A 13) ((updA A 15 (cpO (A 15) (fun k => A 13 (60 * s + a + k)) 0 n)) 15) (60 * t + b) n)) J)) : ∀ (c i : Nat), i + c = n → ∀ {x6 : Int32}, x6 = nI i → zV (zMo 2 zX7_copy) false n0 0 0 112 [(6, .int x6), (0, .ref 76), (1, .int (nI s)), (2, .int (nI a)), (3, .int (nI t)), (4, .int (nI b)), (5, .int (nI n))] [] (wR f o (updA A 15 (cpO (A 15) (fun k => A 13 (60 * s + a + k)) 0 i)) J) Q := by
  intro c
  induction c with
  | zero =>
    intro i hc x6 e6
    subst e6
    iterate 3 (refine zv_step (bX7_copy 2) rfl rfl trivial ?_)
    refine zv_ift (nI_le (by omega) (by omega)) ?_
    iterate 2 (refine zv_step (bX7_copy 2) rfl rfl trivial ?_)
    obtain rfl : i = n := by omega
    refine zv_world (show _ = wR f o (updA (updA A 15 (cpO (A 15) (fun k => A 13 (60 * s + a + k)) 0 i)) 13 (cpO (A 13) ((updA A 15 (cpO (A 15) (fun k => A 13 (60 * s + a + k)) 0 i)) 15) (60 * t + b) 0)) J from by rw [cpO_0]; rfl) ?_
    exact copyL2X f o (updA A 15 (cpO (A 15) (fun k => A 13 (60 * s + a + k)) 0 i)) J hs ht ha hb hQ i 0 (by omega) rfl
  | succ c ih =>
    intro i hc x6 e6
    subst e6
    iterate 3 (refine zv_step (bX7_copy 2) rfl rfl trivial ?_)
    refine zv_iff (fun h => absurd ((nI_leI (by omega) (by omega)).mp h) (by omega)) ?_
    iterate 12 (refine zv_step (bX7_copy 2) rfl rfl trivial ?_)
    refine zv_iale (bX7_copy 2) rfl rfl (show vp_in (c8 60 * nI s + nI a + nI i) 480 by rw [ix60, nI_add]; exact vp_in_nI (by omega) (by decide)) (show A 13 (c8 60 * nI s + nI a + nI i).toNatClampNeg = A 13 (60 * s + a + i) by rw [cl60b hs (show a + i ≤ 60 by omega)]) ?_
    refine zv_step (bX7_copy 2) rfl rfl (vp_in_nI (by omega) (by decide)) ?_
    iterate 2 (refine zv_step (bX7_copy 2) rfl rfl trivial ?_)
    refine zv_world (show _ = wR f o (updA A 15 (cpO (A 15) (fun k => A 13 (60 * s + a + k)) 0 (i + 1))) J from by rw [← cpO_s, show 0 + i = (nI i).toNatClampNeg by rw [nI_clamp (by omega)]; omega]; rfl) ?_
    exact ih (i + 1) (by omega) (nI_1 i)
theorem cpO_cg {g s s' : Nat → Int32} {b n : Nat} (h : ∀ k, k < n → s k = s' k) : cpO g s b n = cpO g s' b n := by
  funext j
  unfold cpO
  by_cases w : b ≤ j ∧ j < b + n
  · rw [if_pos w, if_pos w, h _ (by omega)]
  · rw [if_neg w, if_neg w]
set_option maxHeartbeats 1000000 in
set_option maxRecDepth 20000 in
theorem mCopyX (f : Nat → zC) (o : Nat → Int32) (A : Nat → Nat → Int32) (J : Nat → Nat → Int64) (hS : szS A) (hH : ∀ s, s < 8 → (A 9 s = nI 0 ∨ A 9 s = nI 1 ∨ A 9 s = nI 3 ∨ A 9 s = nI 4)) (d x e y z : Int32) : zK 2 zX7_copy [.ref 76, .int d, .int x, .int e, .int y, .int z] (wR f o A J) (fun r w' => ∃ (o' : Nat → Int32) (A' : Nat → Nat → Int32) (R : Int32), r = some (.int R) ∧ w' = wR f o' A' J ∧ shM o A o' A' ∧ cyR (A 9) (A 12) d x e y z R (A' = A) (fun s t => ∃ a b c, x = nI a ∧ y = nI b ∧ z = nI c ∧ a + c ≤ 60 ∧ b + c ≤ 60 ∧ A' 13 = cpO (A 13) (fun k => A 13 (60 * s + a + k)) (60 * t + b) c ∧ ∀ r, r ≠ 13 → r ≠ 15 → A' r = A r)) := by
  refine zK_of qX7_copy (by decide +kernel) rfl ?_
  iterate 1 (refine zv_step (bX7_copy 2) rfl rfl trivial ?_)
  refine zv_S1 (bX7_copy 2) rfl rfl rfl rfl ⟨rfl, rfl, rfl⟩ ⟨by decide, by decide⟩ ⟨Nat.zero_le _, Nat.zero_le _⟩ (hX7_isShelf _ _) ?_
  rintro _ _ ⟨rfl, ⟨g1, rfl⟩ | ⟨g1, rfl⟩⟩
  · obtain ⟨s, hs, rfl⟩ := in_nat (b := 7) (by decide) g1
    obtain ⟨m, hm, em⟩ := hS s (by omega)
    iterate 1 (refine zv_step (bX7_copy 2) rfl rfl trivial ?_)
    refine zv_iff (by decide) ?_
    iterate 1 (refine zv_step (bX7_copy 2) rfl rfl trivial ?_)
    refine zv_S1 (bX7_copy 2) rfl rfl rfl rfl ⟨rfl, rfl, rfl⟩ ⟨by decide, by decide⟩ ⟨Nat.zero_le _, Nat.zero_le _⟩ (hX7_isShelf _ _) ?_
    rintro _ _ ⟨rfl, ⟨g2, rfl⟩ | ⟨g2, rfl⟩⟩
    · obtain ⟨t, ht, rfl⟩ := in_nat (b := 7) (by decide) g2
      obtain ⟨l, hl, el⟩ := hS t (by omega)
      iterate 1 (refine zv_step (bX7_copy 2) rfl rfl trivial ?_)
      refine zv_ift (by decide) ?_
      iterate 3 (refine zv_step (bX7_copy 2) rfl rfl trivial ?_)
      refine zv_iale (bX7_copy 2) rfl rfl (show vp_in (nI s) 8 from vp_in_nI (by omega) (by decide)) (show A 9 (nI s).toNatClampNeg = A 9 s by rw [nI_clamp (by omega)]) ?_
      iterate 1 (refine zv_step (bX7_copy 2) rfl rfl trivial ?_)
      refine zv_ifb (fun h22 => ?_) (fun h22 => ?_)
      · iterate 1 (refine zv_step (bX7_copy 2) rfl rfl trivial ?_)
        exact zv_iret (bX7_copy 2) rfl (Or.inl rfl) (Nat.zero_le _) (Nat.zero_le _) ⟨o, A, _, rfl, rfl, shM_refl hS, Or.inr ⟨s, t, by omega, by omega, rfl, rfl, Or.inl ⟨Or.inl h22, rfl, rfl⟩⟩⟩
      · iterate 3 (refine zv_step (bX7_copy 2) rfl rfl trivial ?_)
        refine zv_iale (bX7_copy 2) rfl rfl (show vp_in (nI t) 8 from vp_in_nI (by omega) (by decide)) (show A 9 (nI t).toNatClampNeg = A 9 t by rw [nI_clamp (by omega)]) ?_
        iterate 1 (refine zv_step (bX7_copy 2) rfl rfl trivial ?_)
        refine zv_ifb (fun h31 => ?_) (fun h31 => ?_)
        · iterate 3 (refine zv_step (bX7_copy 2) rfl rfl trivial ?_)
          refine zv_iale (bX7_copy 2) rfl rfl (show vp_in (nI s) 8 from vp_in_nI (by omega) (by decide)) (show A 9 (nI s).toNatClampNeg = A 9 s by rw [nI_clamp (by omega)]) ?_
          iterate 2 (refine zv_step (bX7_copy 2) rfl rfl trivial ?_)
          refine zv_ifb (fun h44 => ?_) (fun h44 => ?_)
          · have q44 : ¬ (A 9 s = nI 3 ∨ A 9 s = nI 4) := fun w => w.elim (fun e => absurd (show A 9 s < Int32.ofInt 3 from h44) (by rw [e]; decide)) (fun e => absurd (show A 9 s < Int32.ofInt 3 from h44) (by rw [e]; decide))
            iterate 1 (refine zv_step (bX7_copy 2) rfl rfl trivial ?_)
            exact zv_iret (bX7_copy 2) rfl (Or.inl rfl) (Nat.zero_le _) (Nat.zero_le _) ⟨o, A, _, rfl, rfl, shM_refl hS, Or.inr ⟨s, t, by omega, by omega, rfl, rfl, Or.inr ⟨(fun w => w.elim h22 h31), Or.inl ⟨fun w => q44 w.1, rfl, rfl⟩⟩⟩⟩
          · have q44 : A 9 s = nI 3 ∨ A 9 s = nI 4 := by
              rcases hH s (by omega) with e | e | e | e
              · exact absurd e h22
              · exact absurd (show A 9 s < Int32.ofInt 3 by rw [e]; decide) h44
              · exact Or.inl e
              · exact Or.inr e
            iterate 3 (refine zv_step (bX7_copy 2) rfl rfl trivial ?_)
            refine zv_iale (bX7_copy 2) rfl rfl (show vp_in (nI s) 8 from vp_in_nI (by omega) (by decide)) (show A 9 (nI s).toNatClampNeg = A 9 s by rw [nI_clamp (by omega)]) ?_
            iterate 3 (refine zv_step (bX7_copy 2) rfl rfl trivial ?_)
            refine zv_iale (bX7_copy 2) rfl rfl (show vp_in (nI t) 8 from vp_in_nI (by omega) (by decide)) (show A 9 (nI t).toNatClampNeg = A 9 t by rw [nI_clamp (by omega)]) ?_
            iterate 1 (refine zv_step (bX7_copy 2) rfl rfl trivial ?_)
            refine zv_ifb (fun h59 => ?_) (fun h59 => ?_)
            · iterate 2 (refine zv_step (bX7_copy 2) rfl rfl trivial ?_)
              refine zv_ifb (fun h67 => ?_) (fun h67 => ?_)
              · iterate 1 (refine zv_step (bX7_copy 2) rfl rfl trivial ?_)
                exact zv_iret (bX7_copy 2) rfl (Or.inl rfl) (Nat.zero_le _) (Nat.zero_le _) ⟨o, A, _, rfl, rfl, shM_refl hS, Or.inr ⟨s, t, by omega, by omega, rfl, rfl, Or.inr ⟨(fun w => w.elim h22 h31), Or.inr ⟨⟨q44, h59⟩, Or.inl ⟨fun w => absurd h67 (Int32.not_lt.mpr w.1.2.1), rfl, rfl⟩⟩⟩⟩⟩
              · iterate 2 (refine zv_step (bX7_copy 2) rfl rfl trivial ?_)
                refine zv_ifb (fun h71 => ?_) (fun h71 => ?_)
                · iterate 1 (refine zv_step (bX7_copy 2) rfl rfl trivial ?_)
                  exact zv_iret (bX7_copy 2) rfl (Or.inl rfl) (Nat.zero_le _) (Nat.zero_le _) ⟨o, A, _, rfl, rfl, shM_refl hS, Or.inr ⟨s, t, by omega, by omega, rfl, rfl, Or.inr ⟨(fun w => w.elim h22 h31), Or.inr ⟨⟨q44, h59⟩, Or.inl ⟨fun w => absurd h71 (Int32.not_lt.mpr w.1.1), rfl, rfl⟩⟩⟩⟩⟩
                · iterate 2 (refine zv_step (bX7_copy 2) rfl rfl trivial ?_)
                  refine zv_ifb (fun h76 => ?_) (fun h76 => ?_)
                  · iterate 1 (refine zv_step (bX7_copy 2) rfl rfl trivial ?_)
                    exact zv_iret (bX7_copy 2) rfl (Or.inl rfl) (Nat.zero_le _) (Nat.zero_le _) ⟨o, A, _, rfl, rfl, shM_refl hS, Or.inr ⟨s, t, by omega, by omega, rfl, rfl, Or.inr ⟨(fun w => w.elim h22 h31), Or.inr ⟨⟨q44, h59⟩, Or.inl ⟨fun w => absurd h76 (Int32.not_lt.mpr w.2.1), rfl, rfl⟩⟩⟩⟩⟩
                  · iterate 4 (refine zv_step (bX7_copy 2) rfl rfl trivial ?_)
                    refine zv_iale (bX7_copy 2) rfl rfl (show vp_in (nI s) 8 from vp_in_nI (by omega) (by decide)) (show A 12 (nI s).toNatClampNeg = A 12 s by rw [nI_clamp (by omega)]) ?_
                    iterate 3 (refine zv_step (bX7_copy 2) rfl rfl trivial ?_)
                    refine zv_ifb (fun h89 => ?_) (fun h89 => ?_)
                    · iterate 1 (refine zv_step (bX7_copy 2) rfl rfl trivial ?_)
                      exact zv_iret (bX7_copy 2) rfl (Or.inl rfl) (Nat.zero_le _) (Nat.zero_le _) ⟨o, A, _, rfl, rfl, shM_refl hS, Or.inr ⟨s, t, by omega, by omega, rfl, rfl, Or.inr ⟨(fun w => w.elim h22 h31), Or.inr ⟨⟨q44, h59⟩, Or.inl ⟨fun w => absurd h89 (Int32.not_lt.mpr w.1.2.2), rfl, rfl⟩⟩⟩⟩⟩
                    · iterate 4 (refine zv_step (bX7_copy 2) rfl rfl trivial ?_)
                      refine zv_iale (bX7_copy 2) rfl rfl (show vp_in (nI t) 8 from vp_in_nI (by omega) (by decide)) (show A 12 (nI t).toNatClampNeg = A 12 t by rw [nI_clamp (by omega)]) ?_
                      iterate 3 (refine zv_step (bX7_copy 2) rfl rfl trivial ?_)
                      refine zv_ifb (fun h103 => ?_) (fun h103 => ?_)
                      · have q4b : sp3 x z (A 12 s) := ⟨Int32.not_lt.mp h71, Int32.not_lt.mp h67, Int32.not_lt.mp h89⟩
                        have q5b : sp3 y z (A 12 t) := ⟨Int32.not_lt.mp h76, Int32.not_lt.mp h67, h103⟩
                        obtain ⟨a, n, rfl, rfl, ha⟩ := span_ab hm h71 h67 (em ▸ Int32.not_lt.mp h89)
                        obtain ⟨b, n2, rfl, e9, hb⟩ := span_ab hl h76 h67 (el ▸ h103)
                        have hb2 : b + n ≤ 60 := by
                          have : n = n2 := (nI_eq (by omega) (by omega)).mp e9
                          omega
                        iterate 2 (refine zv_step (bX7_copy 2) rfl rfl trivial ?_)
                        refine zv_world (show _ = wR f o (updA A 15 (cpO (A 15) (fun k => A 13 (60 * s + a + k)) 0 0)) J from by rw [cpO_0]; rfl) ?_
                        exact copyL1X f o A J (by omega) (by omega) ha hb2 ⟨o, _, _, rfl, rfl, ⟨fun _ _ => rfl, fun r a b => by rw [updA_ne _ _ (by omega), updA_ne _ _ (by omega)], hS⟩, Or.inr ⟨s, t, by omega, by omega, rfl, rfl, Or.inr ⟨(fun w => w.elim h22 h31), Or.inr ⟨⟨q44, h59⟩, Or.inr ⟨⟨q4b, q5b⟩, rfl, a, b, n, rfl, rfl, rfl, ha, hb2, cpO_cg (fun k hk => by rw [updA_self]; exact (congrArg (cpO (A 15) _ 0 n) (Nat.zero_add k).symm).trans (cpO_in hk)), fun r a b => by rw [updA_ne _ _ a, updA_ne _ _ b]⟩⟩⟩⟩⟩ n 0 (by omega) rfl
                      · iterate 1 (refine zv_step (bX7_copy 2) rfl rfl trivial ?_)
                        exact zv_iret (bX7_copy 2) rfl (Or.inl rfl) (Nat.zero_le _) (Nat.zero_le _) ⟨o, A, _, rfl, rfl, shM_refl hS, Or.inr ⟨s, t, by omega, by omega, rfl, rfl, Or.inr ⟨(fun w => w.elim h22 h31), Or.inr ⟨⟨q44, h59⟩, Or.inl ⟨fun w => h103 w.2.2.2, rfl, rfl⟩⟩⟩⟩⟩
            · iterate 1 (refine zv_step (bX7_copy 2) rfl rfl trivial ?_)
              exact zv_iret (bX7_copy 2) rfl (Or.inl rfl) (Nat.zero_le _) (Nat.zero_le _) ⟨o, A, _, rfl, rfl, shM_refl hS, Or.inr ⟨s, t, by omega, by omega, rfl, rfl, Or.inr ⟨(fun w => w.elim h22 h31), Or.inl ⟨fun w => h59 w.2, rfl, rfl⟩⟩⟩⟩
        · iterate 1 (refine zv_step (bX7_copy 2) rfl rfl trivial ?_)
          exact zv_iret (bX7_copy 2) rfl (Or.inl rfl) (Nat.zero_le _) (Nat.zero_le _) ⟨o, A, _, rfl, rfl, shM_refl hS, Or.inr ⟨s, t, by omega, by omega, rfl, rfl, Or.inl ⟨Or.inr (Decidable.not_not.mp h31), rfl, rfl⟩⟩⟩
    · skip
      iterate 1 (refine zv_step (bX7_copy 2) rfl rfl trivial ?_)
      refine zv_iff (by decide) ?_
      iterate 1 (refine zv_step (bX7_copy 2) rfl rfl trivial ?_)
      exact zv_iret (bX7_copy 2) rfl (Or.inl rfl) (Nat.zero_le _) (Nat.zero_le _) ⟨o, A, _, rfl, rfl, shM_refl hS, Or.inl ⟨rfl, fun q => g2 q.2, rfl⟩⟩
  · skip
    iterate 1 (refine zv_step (bX7_copy 2) rfl rfl trivial ?_)
    refine zv_ift (by decide) ?_
    iterate 1 (refine zv_step (bX7_copy 2) rfl rfl trivial ?_)
    exact zv_iret (bX7_copy 2) rfl (Or.inl rfl) (Nat.zero_le _) (Nat.zero_le _) ⟨o, A, _, rfl, rfl, shM_refl hS, Or.inl ⟨rfl, fun q => g1 q.1, rfl⟩⟩
end
section
/-- what a shelf refuses where a NODE is wanted: 0 if there is one -/
def rfR (H : Nat → Int32) (x v : Int32) : Prop := (v = Int32.ofInt (-1) ∧ ¬ sh7 x) ∨ ∃ s, s < 8 ∧ x = nI s ∧ ((v = c8 (-11) ∧ H s = nI 0) ∨ (v = c8 (-12) ∧ ¬ H s = nI 0 ∧ ¬ H s = nI 1) ∨ (v = Int32.ofInt 0 ∧ H s = nI 1))
theorem rfR_0 {H : Nat → Int32} {x v : Int32} (h : rfR H x v) : (¬ 0 ≤ v ∧ ¬ v = 0) ∨ (v = Int32.ofInt 0 ∧ ∃ s, s < 8 ∧ x = nI s ∧ H s = nI 1) := by
  rcases h with ⟨e, _⟩ | ⟨s, hs, ex, ⟨e, _⟩ | ⟨e, _⟩ | ⟨e, q⟩⟩
  · exact Or.inl (by rw [e]; decide)
  · exact Or.inl (by rw [e]; decide)
  · exact Or.inl (by rw [e]; decide)
  · exact Or.inr ⟨e, s, hs, ex, q⟩
theorem rfR_same {H H' : Nat → Int32} {x v v' : Int32} (hH : ∀ s, s < 8 → H s = H' s) (h : rfR H x v) (h' : rfR H' x v') : v = v' := by
  have sh : ∀ s, s < 8 → sh7 (nI s) := fun s hs => by
    unfold sh7
    rw [nI_toInt (by omega)]
    omega
  rcases h with ⟨e, q⟩ | ⟨s, hs, ex, h⟩ <;> rcases h' with ⟨e', q'⟩ | ⟨s', hs', ex', h'⟩
  · rw [e, e']
  · exact absurd (by rw [ex']; exact sh _ hs') q
  · exact absurd (by rw [ex]; exact sh _ hs) q'
  · have es : s = s' := (nI_eq (by omega) (by omega)).mp (ex.symm.trans ex')
    subst es
    rw [← hH s hs] at h'
    rcases h with ⟨e, q⟩ | ⟨e, q⟩ | ⟨e, q⟩ <;> rcases h' with ⟨e', q'⟩ | ⟨e', q'⟩ | ⟨e', q'⟩
    · rw [e, e']
    · exact absurd q q'.1
    · exact absurd (q.symm.trans q') (by decide)
    · exact absurd q' q.1
    · rw [e, e']
    · exact absurd q' q.2
    · exact absurd (q'.symm.trans q) (by decide)
    · exact absurd q q'.2
    · rw [e, e']
/-- the answer: a refusal, or what the shelf's NODE tells -/
def nvR (H : Nat → Int32) (V : Nat → Int32) (x R : Int32) : Prop := ∃ v, rfR H x v ∧ ((¬ v = 0 ∧ R = v) ∨ (v = 0 ∧ ∃ s, s < 8 ∧ x = nI s ∧ H s = nI 1 ∧ R = V s))
theorem nvR_same {H H' V V' : Nat → Int32} {x R R' : Int32} (hH : ∀ s, s < 8 → H s = H' s) (hV : ∀ s, s < 8 → H s = nI 1 → V s = V' s) (g : nvR H V x R) (g' : nvR H' V' x R') : R = R' := by
  obtain ⟨v, h, g⟩ := g
  obtain ⟨v', h', g'⟩ := g'
  have e := rfR_same hH h h'
  subst e
  rcases g with ⟨q, r⟩ | ⟨q, s, hs, ex, hh, r⟩ <;> rcases g' with ⟨q', r'⟩ | ⟨q', s', hs', ex', hh', r'⟩
  · rw [r, r']
  · exact absurd q' q
  · exact absurd q q'
  · have es : s = s' := (nI_eq (by omega) (by omega)).mp (ex.symm.trans ex')
    subst es
    rw [r, r', hV s hs hh]
def tsV (v : Int32) (n : Int32) : Int32 := if v = n then c8 (-15) else v
set_option maxHeartbeats 1000000 in
set_option maxRecDepth 20000 in
theorem cRefusalX (O : Nat → Int32) (P : Nat → Nat → Int32) (Y : Nat → Nat → Int64) (g : Nat → zC) (x : Int32) : zK 1 zX6_nodeRefusal [.ref 0, .int x] (wX O P Y g) (fun r w' => w' = wX O P Y g ∧ ∃ v : Int32, r = some (.int v) ∧ rfR (fun s => O (20 + 10 * s)) x v) := by
  refine zK_of qX6_nodeRefusal (by decide +kernel) rfl ?_
  iterate 1 (refine zv_step (bX6_nodeRefusal 1) rfl rfl trivial ?_)
  refine zv_S1 (bX6_nodeRefusal 1) rfl rfl rfl rfl ⟨rfl, rfl, rfl⟩ ⟨by decide, by decide⟩ ⟨Nat.zero_le _, Nat.zero_le _⟩ (hX6_isShelf _ _) ?_
  rintro _ _ ⟨rfl, ⟨hx, rfl⟩ | ⟨hx, rfl⟩⟩
  · obtain ⟨s, hs, rfl⟩ := sh_of hx
    iterate 1 (refine zv_step (bX6_nodeRefusal 1) rfl rfl trivial ?_)
    refine zv_ift (by decide) ?_
    iterate 1 (refine zv_step (bX6_nodeRefusal 1) rfl rfl trivial ?_)
    refine zv_getf (bX6_nodeRefusal 1) rfl (rfl) rfl ?_
    iterate 1 (refine zv_step (bX6_nodeRefusal 1) rfl rfl trivial ?_)
    refine zv_aald (bX6_nodeRefusal 1) rfl (Or.inl rfl) rfl (show vp_in (nI s) 8 from vp_in_nI (by omega) (by decide)) (show ([some 59, some 61, some 63, some 65, some 67, some 69, some 71, some 73] : List (Option Nat)).getD (nI s).toNatClampNeg none = some (59 + 2 * s) by rw [nI_clamp (by omega)]; exact dSs hs) ?_
    refine zv_getf (bX6_nodeRefusal 1) rfl (wS O P Y g hs) rfl ?_
    iterate 1 (refine zv_step (bX6_nodeRefusal 1) rfl rfl trivial ?_)
    refine zv_ifb (fun h18 => ?_) (fun h18 => ?_)
    · iterate 1 (refine zv_step (bX6_nodeRefusal 1) rfl rfl trivial ?_)
      refine zv_getf (bX6_nodeRefusal 1) rfl (rfl) rfl ?_
      iterate 1 (refine zv_step (bX6_nodeRefusal 1) rfl rfl trivial ?_)
      refine zv_aald (bX6_nodeRefusal 1) rfl (Or.inl rfl) rfl (show vp_in (nI s) 8 from vp_in_nI (by omega) (by decide)) (show ([some 59, some 61, some 63, some 65, some 67, some 69, some 71, some 73] : List (Option Nat)).getD (nI s).toNatClampNeg none = some (59 + 2 * s) by rw [nI_clamp (by omega)]; exact dSs hs) ?_
      refine zv_getf (bX6_nodeRefusal 1) rfl (wS O P Y g hs) rfl ?_
      iterate 2 (refine zv_step (bX6_nodeRefusal 1) rfl rfl trivial ?_)
      refine zv_ifb (fun h34 => ?_) (fun h34 => ?_)
      · iterate 1 (refine zv_step (bX6_nodeRefusal 1) rfl rfl trivial ?_)
        exact zv_iret (bX6_nodeRefusal 1) rfl (Or.inl rfl) (Nat.zero_le _) (Nat.zero_le _) ⟨rfl, _, rfl, Or.inr ⟨s, hs, rfl, Or.inr (Or.inl ⟨rfl, h18, h34⟩)⟩⟩
      · iterate 2 (refine zv_step (bX6_nodeRefusal 1) rfl rfl trivial ?_)
        exact zv_iret (bX6_nodeRefusal 1) rfl (Or.inl rfl) (Nat.zero_le _) (Nat.zero_le _) ⟨rfl, _, rfl, Or.inr ⟨s, hs, rfl, Or.inr (Or.inr ⟨rfl, Decidable.not_not.mp h34⟩)⟩⟩
    · iterate 1 (refine zv_step (bX6_nodeRefusal 1) rfl rfl trivial ?_)
      exact zv_iret (bX6_nodeRefusal 1) rfl (Or.inl rfl) (Nat.zero_le _) (Nat.zero_le _) ⟨rfl, _, rfl, Or.inr ⟨s, hs, rfl, Or.inl ⟨rfl, Decidable.not_not.mp h18⟩⟩⟩
  · skip
    iterate 1 (refine zv_step (bX6_nodeRefusal 1) rfl rfl trivial ?_)
    refine zv_iff (by decide) ?_
    iterate 1 (refine zv_step (bX6_nodeRefusal 1) rfl rfl trivial ?_)
    exact zv_iret (bX6_nodeRefusal 1) rfl (Or.inl rfl) (Nat.zero_le _) (Nat.zero_le _) ⟨rfl, _, rfl, Or.inl ⟨rfl, hx⟩⟩
set_option maxHeartbeats 1000000 in
set_option maxRecDepth 20000 in
theorem cTossX (O : Nat → Int32) (P : Nat → Nat → Int32) (Y : Nat → Nat → Int64) (g : Nat → zC) (x : Int32) : zK 2 zX6_toss [.ref 0, .int x] (wX O P Y g) (fun r w' => w' = wX O P Y g ∧ ∃ R : Int32, r = some (.int R) ∧ nvR (fun s => O (20 + 10 * s)) (fun s => tsV (O (21 + 10 * s)) (Int32.ofInt (-1))) x R) := by
  refine zK_of qX6_toss (by decide +kernel) rfl ?_
  iterate 2 (refine zv_step (bX6_toss 2) rfl rfl trivial ?_)
  refine zv_V1 (bX6_toss 2) rfl rfl rfl rfl rfl rfl rfl ⟨rfl, rfl, rfl⟩ ⟨by decide, by decide⟩ ⟨Nat.zero_le _, Nat.zero_le _⟩ (cRefusalX O P Y g _) ?_
  rintro _ _ ⟨rfl, v, rfl, hv⟩
  have hv0 := rfR_0 hv
  iterate 3 (refine zv_step (bX6_toss 2) rfl rfl trivial ?_)
  refine zv_ifb (fun h7 => ?_) (fun h7 => ?_)
  · obtain ⟨ev, s, hs, rfl, q1⟩ := hv0.resolve_left (fun q => q.1 h7)
    iterate 1 (refine zv_step (bX6_toss 2) rfl rfl trivial ?_)
    refine zv_getf (bX6_toss 2) rfl (rfl) rfl ?_
    iterate 1 (refine zv_step (bX6_toss 2) rfl rfl trivial ?_)
    refine zv_aald (bX6_toss 2) rfl (Or.inl rfl) rfl (show vp_in (nI s) 8 from vp_in_nI (by omega) (by decide)) (show ([some 59, some 61, some 63, some 65, some 67, some 69, some 71, some 73] : List (Option Nat)).getD (nI s).toNatClampNeg none = some (59 + 2 * s) by rw [nI_clamp (by omega)]; exact dSs hs) ?_
    refine zv_getf (bX6_toss 2) rfl (wS O P Y g hs) rfl ?_
    iterate 2 (refine zv_step (bX6_toss 2) rfl rfl trivial ?_)
    refine zv_ifb (fun h22 => ?_) (fun h22 => ?_)
    · iterate 1 (refine zv_step (bX6_toss 2) rfl rfl trivial ?_)
      refine zv_getf (bX6_toss 2) rfl (rfl) rfl ?_
      iterate 1 (refine zv_step (bX6_toss 2) rfl rfl trivial ?_)
      refine zv_aald (bX6_toss 2) rfl (Or.inl rfl) rfl (show vp_in (nI s) 8 from vp_in_nI (by omega) (by decide)) (show ([some 59, some 61, some 63, some 65, some 67, some 69, some 71, some 73] : List (Option Nat)).getD (nI s).toNatClampNeg none = some (59 + 2 * s) by rw [nI_clamp (by omega)]; exact dSs hs) ?_
      refine zv_getf (bX6_toss 2) rfl (wS O P Y g hs) rfl ?_
      exact zv_iret (bX6_toss 2) rfl (Or.inl rfl) (Nat.zero_le _) (Nat.zero_le _) ⟨rfl, _, rfl, v, hv, Or.inr ⟨ev, s, hs, rfl, q1, (if_neg h22).symm⟩⟩
    · iterate 2 (refine zv_step (bX6_toss 2) rfl rfl trivial ?_)
      exact zv_iret (bX6_toss 2) rfl (Or.inl rfl) (Nat.zero_le _) (Nat.zero_le _) ⟨rfl, _, rfl, v, hv, Or.inr ⟨ev, s, hs, rfl, q1, (if_pos (Decidable.not_not.mp h22)).symm⟩⟩
  · have hn : ¬ v = 0 := fun e => h7 (by rw [e]; decide)
    iterate 1 (refine zv_step (bX6_toss 2) rfl rfl trivial ?_)
    exact zv_iret (bX6_toss 2) rfl (Or.inl rfl) (Nat.zero_le _) (Nat.zero_le _) ⟨rfl, _, rfl, v, hv, Or.inl ⟨hn, rfl⟩⟩
set_option maxHeartbeats 1000000 in
set_option maxRecDepth 20000 in
theorem mHeldX (f : Nat → zC) (o : Nat → Int32) (A : Nat → Nat → Int32) (J : Nat → Nat → Int64) (d : Int32) : zK 2 zX7_held [.ref 76, .int d] (wR f o A J) (fun r w' => w' = (wR f o A J) ∧ ∃ v : Int32, r = some (.int v) ∧ rfR (A 9) d v) := by
  refine zK_of qX7_held (by decide +kernel) rfl ?_
  iterate 1 (refine zv_step (bX7_held 2) rfl rfl trivial ?_)
  refine zv_S1 (bX7_held 2) rfl rfl rfl rfl ⟨rfl, rfl, rfl⟩ ⟨by decide, by decide⟩ ⟨Nat.zero_le _, Nat.zero_le _⟩ (hX7_isShelf _ _) ?_
  rintro _ _ ⟨rfl, ⟨g1, rfl⟩ | ⟨g1, rfl⟩⟩
  · obtain ⟨s, hs, rfl⟩ := in_nat (b := 7) (by decide) g1
    iterate 1 (refine zv_step (bX7_held 2) rfl rfl trivial ?_)
    refine zv_ift (by decide) ?_
    iterate 3 (refine zv_step (bX7_held 2) rfl rfl trivial ?_)
    refine zv_iale (bX7_held 2) rfl rfl (show vp_in (nI s) 8 from vp_in_nI (by omega) (by decide)) (show A 9 (nI s).toNatClampNeg = A 9 s by rw [nI_clamp (by omega)]) ?_
    iterate 1 (refine zv_step (bX7_held 2) rfl rfl trivial ?_)
    refine zv_ifb (fun h17 => ?_) (fun h17 => ?_)
    · iterate 3 (refine zv_step (bX7_held 2) rfl rfl trivial ?_)
      refine zv_iale (bX7_held 2) rfl rfl (show vp_in (nI s) 8 from vp_in_nI (by omega) (by decide)) (show A 9 (nI s).toNatClampNeg = A 9 s by rw [nI_clamp (by omega)]) ?_
      iterate 2 (refine zv_step (bX7_held 2) rfl rfl trivial ?_)
      refine zv_ifb (fun h32 => ?_) (fun h32 => ?_)
      · iterate 1 (refine zv_step (bX7_held 2) rfl rfl trivial ?_)
        exact zv_iret (bX7_held 2) rfl (Or.inl rfl) (Nat.zero_le _) (Nat.zero_le _) ⟨rfl, _, rfl, Or.inr ⟨s, by omega, rfl, Or.inr (Or.inr ⟨rfl, h32⟩)⟩⟩
      · iterate 2 (refine zv_step (bX7_held 2) rfl rfl trivial ?_)
        exact zv_iret (bX7_held 2) rfl (Or.inl rfl) (Nat.zero_le _) (Nat.zero_le _) ⟨rfl, _, rfl, Or.inr ⟨s, by omega, rfl, Or.inr (Or.inl ⟨rfl, h17, h32⟩)⟩⟩
    · iterate 2 (refine zv_step (bX7_held 2) rfl rfl trivial ?_)
      exact zv_iret (bX7_held 2) rfl (Or.inl rfl) (Nat.zero_le _) (Nat.zero_le _) ⟨rfl, _, rfl, Or.inr ⟨s, by omega, rfl, Or.inl ⟨rfl, Decidable.not_not.mp h17⟩⟩⟩
  · skip
    iterate 1 (refine zv_step (bX7_held 2) rfl rfl trivial ?_)
    refine zv_iff (by decide) ?_
    iterate 2 (refine zv_step (bX7_held 2) rfl rfl trivial ?_)
    exact zv_iret (bX7_held 2) rfl (Or.inl rfl) (Nat.zero_le _) (Nat.zero_le _) ⟨rfl, _, rfl, Or.inl ⟨rfl, g1⟩⟩
set_option maxHeartbeats 1000000 in
set_option maxRecDepth 20000 in
theorem mTossX (f : Nat → zC) (o : Nat → Int32) (A : Nat → Nat → Int32) (J : Nat → Nat → Int64) (d : Int32) : zK 3 zX7_toss [.ref 76, .int d] (wR f o A J) (fun r w' => w' = (wR f o A J) ∧ ∃ R : Int32, r = some (.int R) ∧ nvR (A 9) (fun s => if A 11 s < 0 then c8 (-15) else A 11 s) d R) := by
  refine zK_of qX7_toss (by decide +kernel) rfl ?_
  iterate 2 (refine zv_step (bX7_toss 3) rfl rfl trivial ?_)
  refine zv_V1 (bX7_toss 3) rfl rfl rfl rfl rfl rfl rfl ⟨rfl, rfl, rfl⟩ ⟨by decide, by decide⟩ ⟨Nat.zero_le _, Nat.zero_le _⟩ (mHeldX f o A J _) ?_
  rintro _ _ ⟨rfl, v, rfl, hv⟩
  have hv0 := rfR_0 hv
  iterate 3 (refine zv_step (bX7_toss 3) rfl rfl trivial ?_)
  refine zv_ifb (fun h7 => ?_) (fun h7 => ?_)
  · obtain ⟨ev, s, hs, rfl, q1⟩ := hv0.resolve_left (fun q => q.2 h7)
    iterate 3 (refine zv_step (bX7_toss 3) rfl rfl trivial ?_)
    refine zv_iale (bX7_toss 3) rfl rfl (show vp_in (nI s) 8 from vp_in_nI (by omega) (by decide)) (show A 11 (nI s).toNatClampNeg = A 11 s by rw [nI_clamp (by omega)]) ?_
    iterate 1 (refine zv_step (bX7_toss 3) rfl rfl trivial ?_)
    refine zv_ifb (fun h20 => ?_) (fun h20 => ?_)
    · iterate 3 (refine zv_step (bX7_toss 3) rfl rfl trivial ?_)
      refine zv_iale (bX7_toss 3) rfl rfl (show vp_in (nI s) 8 from vp_in_nI (by omega) (by decide)) (show A 11 (nI s).toNatClampNeg = A 11 s by rw [nI_clamp (by omega)]) ?_
      exact zv_iret (bX7_toss 3) rfl (Or.inl rfl) (Nat.zero_le _) (Nat.zero_le _) ⟨rfl, _, rfl, v, hv, Or.inr ⟨ev, s, hs, rfl, q1, (if_neg (Int32.not_lt.mpr h20)).symm⟩⟩
    · iterate 2 (refine zv_step (bX7_toss 3) rfl rfl trivial ?_)
      exact zv_iret (bX7_toss 3) rfl (Or.inl rfl) (Nat.zero_le _) (Nat.zero_le _) ⟨rfl, _, rfl, v, hv, Or.inr ⟨ev, s, hs, rfl, q1, (if_pos (Int32.not_le.mp h20)).symm⟩⟩
  · have hn : ¬ v = 0 := h7
    iterate 2 (refine zv_step (bX7_toss 3) rfl rfl trivial ?_)
    exact zv_iret (bX7_toss 3) rfl (Or.inl rfl) (Nat.zero_le _) (Nat.zero_le _) ⟨rfl, _, rfl, v, hv, Or.inl ⟨hn, rfl⟩⟩
end
section
/-- the walk of both sides, where one has begun -/
def wk3 (O : Nat → Int32) (P : Nat → Nat → Int32) (o : Nat → Int32) (A : Nat → Nat → Int32) : Prop := O 13 = 1 → ∃ d, d < 40 ∧ O 14 = nI d ∧ o 33 = nI d ∧ wkR A (d, P 56, P 57) (d, A 20, A 21)
/-- the shelves of both sides -/
def shR (O : Nat → Int32) (P : Nat → Nat → Int32) (A : Nat → Nat → Int32) : Prop := ∀ s, s < 8 → O (20 + 10 * s) = A 9 s ∧ (A 9 s = nI 0 ∨ A 9 s = nI 1 ∨ A 9 s = nI 3 ∨ A 9 s = nI 4) ∧ (A 9 s = nI 1 → O (22 + 10 * s) = A 10 s ∧ O (21 + 10 * s) = cvI (A 11 s) ∧ O (23 + 10 * s) = A 12 s ∧ (A 11 s = m2 ∨ ∃ v, v ≤ 9999 ∧ A 11 s = nI v) ∧ (A 10 s = nI 1 → ∃ v, v ≤ 9999 ∧ A 11 s = nI v)) ∧ ((A 9 s = nI 3 ∨ A 9 s = nI 4) → O (24 + 10 * s) = A 12 s ∧ ∃ m, m ≤ 60 ∧ A 12 s = nI m ∧ ∀ i, i < m → P (60 + 2 * s) i = A 13 (60 * s + i))
def X3 (O : Nat → Int32) (P : Nat → Nat → Int32) (o : Nat → Int32) (A : Nat → Nat → Int32) : Prop := wk3 O P o A ∧ shR O P A
/-- what most calls leave of the walk and of the shelves -/
def sC (O : Nat → Int32) (P : Nat → Nat → Int32) (O' : Nat → Int32) (P' : Nat → Nat → Int32) : Prop := (∀ j, 13 ≤ j → O' j = O j) ∧ (∀ i, 56 ≤ i → i < 75 → P' i = P i)
def sM (u : Nat) (o : Nat → Int32) (A : Nat → Nat → Int32) (o' : Nat → Int32) (A' : Nat → Nat → Int32) : Prop := o' 33 = o 33 ∧ (∀ r, (9 ≤ r ∧ r ≤ 13) ∨ r = 20 ∨ r = 21 → A' r = A r) ∧ (∀ r i, r < 5 → i < u → A' r i = A r i)
theorem wkR_fr {A A' : Nat → Nat → Int32} {u t d : Nat} {N D N' D' : Nat → Int32} (hu : u ≤ 120) (ht : t < u) (hr : rtM A t d N') (e : ∀ r i, r < 5 → i < u → A' r i = A r i) (w : wkR A (d, N, D) (d, N', D')) : wkR A' (d, N, D) (d, N', D') := by
  refine ⟨rfl, w.2.1, fun j hj => ?_⟩
  have hj : j < d := hj
  obtain ⟨a, ha, ea, _⟩ := hr.2 j (by omega)
  have h := w.2.2 j hj
  show (D' (j + 1) = nI 0 ∧ D (j + 1) = nI 1 ∧ N' (j + 1) = A' 2 (nC (N' j))) ∨ (D' (j + 1) = nI 1 ∧ D (j + 1) = nI 2 ∧ N' (j + 1) = A' 3 (nC (N' j)))
  rw [ea, show nC (nI a) = a from nI_clamp (by omega), e 2 a (by decide) (by omega), e 3 a (by decide) (by omega)]
  have h : (D' (j + 1) = nI 0 ∧ D (j + 1) = nI 1 ∧ N' (j + 1) = A 2 (nC (N' j))) ∨ (D' (j + 1) = nI 1 ∧ D (j + 1) = nI 2 ∧ N' (j + 1) = A 3 (nC (N' j))) := h
  rw [ea, show nC (nI a) = a from nI_clamp (by omega)] at h
  exact h
/-- the walk's depth is one on both sides -/
theorem wk_d {O : Nat → Int32} {P : Nat → Nat → Int32} {Y : Nat → Nat → Int64} {o : Nat → Int32} {A : Nat → Nat → Int32} {u h d d2 : Nat} (hC : cI u h d O P Y) (hM : mI u h d2 o A) (w : wk3 O P o A) (b : O 13 = 1) : d = d2 ∧ wkR A (d, P 56, P 57) (d, A 20, A 21) := by
  obtain ⟨e, he, e1, e2, e3⟩ := w b
  have q1 : d = e := (nI_eq (by have := hC.2.2.2.2.2.2.1; omega) (by omega)).mp (hC.2.2.2.2.2.2.2.1.symm.trans e1)
  have q2 : d2 = e := (nI_eq (by have := hM.2.2.2.2.2.2.2.1; omega) (by omega)).mp (hM.2.2.2.2.2.2.2.2.1.symm.trans e2)
  subst q1
  exact ⟨q2.symm, e3⟩
theorem wk3_fr {O O' : Nat → Int32} {P P' : Nat → Nat → Int32} {Y : Nat → Nat → Int64} {o o' : Nat → Int32} {A A' : Nat → Nat → Int32} {u h d d2 : Nat} (hC : cI u h d O P Y) (hM : mI u h d2 o A) (s : SS u h O P o A) (w : wk3 O P o A) (c13 : O' 13 = O 13) (c14 : O' 14 = O 14) (c56 : P' 56 = P 56) (c57 : P' 57 = P 57) (m33 : o' 33 = o 33) (m20 : A' 20 = A 20) (m21 : A' 21 = A 21) (e : ∀ r i, r < 5 → i < u → A' r i = A r i) : wk3 O' P' o' A' := fun b => by
  have b0 : O 13 = 1 := c13.symm.trans b
  obtain ⟨ed, hw⟩ := wk_d hC hM w b0
  subst ed
  have b1 : o 30 = 1 := s.2.2.2.2.2.2.1.symm.trans b0
  obtain ⟨t, ht, hr⟩ := hM.2.2.2.2.2.2.2.2.2.2.1 b1
  refine ⟨d, hC.2.2.2.2.2.2.1, c14.trans hC.2.2.2.2.2.2.2.1, m33.trans hM.2.2.2.2.2.2.2.2.1, ?_⟩
  rw [c56, c57, m20, m21]
  exact wkR_fr hC.1 ht hr e hw
theorem shR_fr {O O' : Nat → Int32} {P P' A A' : Nat → Nat → Int32} (h : shR O P A) (c : ∀ j, 20 ≤ j → O' j = O j) (p : ∀ i, 60 ≤ i → i < 75 → P' i = P i) (m : ∀ r, 9 ≤ r → r ≤ 13 → A' r = A r) : shR O' P' A' := fun s hs => by
  rw [c _ (by omega), c _ (by omega), c _ (by omega), c _ (by omega), c _ (by omega), p _ (by omega) (by omega), m 9 (by decide) (by decide), m 10 (by decide) (by decide), m 11 (by decide) (by decide), m 12 (by decide) (by decide), m 13 (by decide) (by decide)]
  exact h s hs
theorem X3_fr {O O' : Nat → Int32} {P P' : Nat → Nat → Int32} {Y : Nat → Nat → Int64} {o o' : Nat → Int32} {A A' : Nat → Nat → Int32} {u h d d2 : Nat} (hX : X3 O P o A) (hC : cI u h d O P Y) (hM : mI u h d2 o A) (s : SS u h O P o A) (c : sC O P O' P') (m : sM u o A o' A') : X3 O' P' o' A' :=
  ⟨wk3_fr hC hM s hX.1 (c.1 13 (by decide)) (c.1 14 (by decide)) (c.2 56 (by decide) (by decide)) (c.2 57 (by decide) (by decide)) m.1 (m.2.1 20 (by decide)) (m.2.1 21 (by decide)) m.2.2, shR_fr hX.2 (fun j hj => c.1 j (by omega)) (fun i h1 h2 => c.2 i (by omega) h2) (fun r h1 h2 => m.2.1 r (Or.inl ⟨h1, h2⟩))⟩
theorem sC_id (O : Nat → Int32) (P : Nat → Nat → Int32) : sC O P O P := ⟨fun _ _ => rfl, fun _ _ _ => rfl⟩
theorem sC_sp {O O' : Nat → Int32} {P P' : Nat → Nat → Int32} (q : spT O P O' P') : sC O P O' P' := ⟨fun j hj => q.1 j (by omega), fun i h1 h2 => q.2 i (by omega) (by omega)⟩
theorem sC_spV {O O' : Nat → Int32} {P P' : Nat → Nat → Int32} (q : spV O P O' P') : sC O P O' P' := ⟨fun j hj => q.1 j (by omega), fun i h1 h2 => q.2 i (by omega) (by omega) (by omega)⟩
theorem sC_13 (O : Nat → Int32) (P : Nat → Nat → Int32) (R : Nat → Int32) : sC O P O (updA P 13 R) := ⟨fun _ _ => rfl, fun i h1 h2 => updA_ne _ _ (by omega)⟩
theorem sC_ty {O O' : Nat → Int32} {P : Nat → Nat → Int32} (q : ∀ j, j ≠ 10 → j ≠ 11 → j ≠ 12 → O' j = O j) : sC O P O' P := ⟨fun j hj => q j (by omega) (by omega) (by omega), fun _ _ _ => rfl⟩
theorem sC_Fr {O O' : Nat → Int32} {P P' : Nat → Nat → Int32} (q : cFr O P O' P') : sC O P O' P' := ⟨fun j hj => q.2 j (by omega) (by omega) (by omega), fun i _ _ => by rw [q.1]⟩
theorem sC_db {O O' : Nat → Int32} {P P' : Nat → Nat → Int32} {Y' : Nat → Nat → Int64} (q : dbC O P O' P' Y') : sC O P O' P' := ⟨fun j hj => q.2.1 j (by omega) (by omega) (by omega) (by omega), fun i h1 h2 => q.2.2 i (by omega)⟩
theorem sC_o (O : Nat → Int32) (P : Nat → Nat → Int32) {k : Nat} (hk : k < 13) (x : Int32) : sC O P (upd O k x) P := ⟨fun j hj => upd_ne _ _ (by omega), fun _ _ _ => rfl⟩
theorem sC_pg (O : Nat → Int32) (P : Nat → Nat → Int32) (u : Nat) (k v x y sh z : Int32) : sC O P (upd O 1 z) (stC 1 P u k v x y sh) := ⟨fun j hj => upd_ne _ _ (by omega), fun i h1 h2 => stC_ne1 P u k v x y sh (by omega)⟩
theorem sC_hr (O : Nat → Int32) (P : Nat → Nat → Int32) (z : Int32) (g : Nat → Int32) : sC O P (upd O 9 z) (updA P 32 g) := ⟨fun j hj => upd_ne _ _ (by omega), fun i h1 h2 => updA_ne _ _ (by omega)⟩
theorem sC_ks (O : Nat → Int32) (P : Nat → Nat → Int32) (g : Nat → Int32) : sC O P O (updA P 75 g) := ⟨fun _ _ => rfl, fun i h1 h2 => updA_ne _ _ (by omega)⟩
theorem sC_wr {O O' : Nat → Int32} {P P' : Nat → Nat → Int32} (c : ∀ j, j ≠ 1 → j ≠ 2 → j ≠ 10 → j ≠ 11 → j ≠ 12 → O' j = O j) (p : ∀ i, 26 < i → P' i = P i) : sC O P O' P' := ⟨fun j hj => c j (by omega) (by omega) (by omega) (by omega) (by omega), fun i h1 h2 => p i (by omega)⟩
theorem sM_id (u : Nat) (o : Nat → Int32) (A : Nat → Nat → Int32) : sM u o A o A := ⟨rfl, fun _ _ => rfl, fun _ _ _ _ => rfl⟩
theorem sM_q {o o' : Nat → Int32} {A A' : Nat → Nat → Int32} (u : Nat) (q : qX o A o' A') : sM u o A o' A' := ⟨q.1 33 (by decide), fun r hr => q.2 r (by omega) (by omega), fun r i hr _ => by rw [q.2 r (by omega) (by omega)]⟩
theorem sM_e {o o' : Nat → Int32} {A A' : Nat → Nat → Int32} (u : Nat) (q : eX o A o' A') : sM u o A o' A' := ⟨q.2.1 33 (by decide) (by decide), fun r hr => q.2.2 r (by omega) (by omega) (by omega), fun r i hr _ => by rw [q.2.2 r (by omega) (by omega) (by omega)]⟩
theorem sM_f {o o' : Nat → Int32} {A A' : Nat → Nat → Int32} (u : Nat) (q : fwX o A o' A') : sM u o A o' A' := ⟨q.2.1 33 (by decide) (by decide) (by decide), fun r hr => q.2.2 r (by omega) (by omega) (by omega), fun r i hr _ => by rw [q.2.2 r (by omega) (by omega) (by omega)]⟩
theorem sM_cl {o o' : Nat → Int32} {A A' : Nat → Nat → Int32} {u : Nat} (hu : u ≤ 120) (q : clX o A o' A') : sM u o A o' A' := ⟨q.1 33 (by decide), fun r hr => q.2.2 r (by omega) (by omega), fun r i hr hi => q.2.1 r i (by omega) (by omega)⟩
theorem sM_o {o o' : Nat → Int32} (A : Nat → Nat → Int32) (u : Nat) (q : ∀ j, j ≠ 16 → j ≠ 28 → o' j = o j) : sM u o A o' A := ⟨q 33 (by decide) (by decide), fun _ _ => rfl, fun _ _ _ _ => rfl⟩
theorem sM_k {o : Nat → Int32} (A : Nat → Nat → Int32) (u : Nat) {k : Nat} (hk : k ≠ 33) (x : Int32) : sM u o A (upd o k x) A := ⟨upd_ne _ _ (fun e => hk e.symm), fun _ _ => rfl, fun _ _ _ _ => rfl⟩
theorem sM_db {o o' : Nat → Int32} {A A' : Nat → Nat → Int32} {u : Nat} (q : dbM o u A o' A') : sM u o A o' A' := ⟨q.2.1 33 (by decide) (by decide) (by decide), fun r hr => q.2.2.1 r (by omega), fun r i _ hi => q.2.2.2 r i hi⟩
theorem sM_wr {o o' : Nat → Int32} {A A' : Nat → Nat → Int32} {u : Nat} (q : ndY o u A o' A') : sM u o A o' A' := ⟨q.2.1 33 (by decide) (by decide) (by decide), fun r hr => q.2.2.1 r (by omega), fun r i _ hi => q.2.2.2 r i hi⟩
theorem sM_pg (o : Nat → Int32) (A : Nat → Nat → Int32) (u : Nat) (k v x y z : Int32) : sM u o A (upd o 0 z) (setsA A u k v x y) := ⟨upd_ne _ _ (by decide), fun r hr => sets_ne6 A u k v x y (by omega), fun r i _ hi => sets_lt A k v x y r hi⟩
theorem sM_hr (o : Nat → Int32) (A : Nat → Nat → Int32) (u : Nat) (z : Int32) (g : Nat → Int32) : sM u o A (upd o 10 z) (updA A 8 g) := ⟨upd_ne _ _ (by decide), fun r hr => updA_ne _ _ (by omega), fun r i hr _ => by rw [updA_ne _ _ (by omega)]⟩
theorem sM_67 (o : Nat → Int32) (A : Nat → Nat → Int32) (u : Nat) {k : Nat} (hk : k = 6 ∨ k = 7) (g : Nat → Int32) : sM u o A o (updA A k g) := ⟨rfl, fun r hr => updA_ne _ _ (by omega), fun r i hr _ => by rw [updA_ne _ _ (by omega)]⟩
theorem X3_0 : X3 O00 P00 o00 A00 := ⟨fun e => absurd e (by decide), fun s hs => by
  match s, hs with
  | 0, _ => exact ⟨rfl, Or.inl rfl, fun e => absurd e (by decide), fun e => absurd e (by decide)⟩
  | 1, _ => exact ⟨rfl, Or.inl rfl, fun e => absurd e (by decide), fun e => absurd e (by decide)⟩
  | 2, _ => exact ⟨rfl, Or.inl rfl, fun e => absurd e (by decide), fun e => absurd e (by decide)⟩
  | 3, _ => exact ⟨rfl, Or.inl rfl, fun e => absurd e (by decide), fun e => absurd e (by decide)⟩
  | 4, _ => exact ⟨rfl, Or.inl rfl, fun e => absurd e (by decide), fun e => absurd e (by decide)⟩
  | 5, _ => exact ⟨rfl, Or.inl rfl, fun e => absurd e (by decide), fun e => absurd e (by decide)⟩
  | 6, _ => exact ⟨rfl, Or.inl rfl, fun e => absurd e (by decide), fun e => absurd e (by decide)⟩
  | 7, _ => exact ⟨rfl, Or.inl rfl, fun e => absurd e (by decide), fun e => absurd e (by decide)⟩
  | s + 8, h => exact absurd h (by omega)⟩
/-- walk: a new one, at its top -/
theorem X3_wk {O : Nat → Int32} {P : Nat → Nat → Int32} {o : Nat → Int32} {A : Nat → Nat → Int32} (hX : X3 O P o A) (x : Int32) : X3 (upd (upd O 13 (Int32.ofInt 1)) 14 (Int32.ofInt 0)) (updA P 56 (upd (P 56) 0 x)) (upd (upd o 30 (Int32.ofInt 1)) 33 (Int32.ofInt 0)) (updA A 20 (upd (A 20) 0 x)) :=
  ⟨fun _ => ⟨0, by decide, rfl, rfl, rfl, fun j hj => by
    have hj : j ≤ 0 := hj
    rw [show j = 0 by omega]
    rfl, fun j hj => absurd (show j < 0 from hj) (Nat.not_lt_zero j)⟩, shR_fr hX.2 (fun j hj => by rw [upd_ne _ _ (by omega), upd_ne _ _ (by omega)]) (fun i h1 h2 => updA_ne _ _ (by omega)) (fun r h1 h2 => updA_ne _ _ (by omega))⟩
/-- go, lead: what they leave of the class's cells, told by the walk's triple -/
def LI3 (O : Nat → Int32) (P : Nat → Nat → Int32) (Y : Nat → Nat → Int64) (o : Nat → Int32) (A : Nat → Nat → Int32) : Prop := LI2 O P Y o A ∧ X3 O P o A
theorem LI3_0 : LI3 O00 P00 (fun _ _ => 0) o00 A00 := ⟨LI2_0, X3_0⟩
theorem LI3_fr {O O' : Nat → Int32} {P P' : Nat → Nat → Int32} {Y Y' : Nat → Nat → Int64} {o o' : Nat → Int32} {A A' : Nat → Nat → Int32} {u h d d2 : Nat} (H : LI3 O P Y o A) (hC : cI u h d O P Y) (hM : mI u h d2 o A) (s : SS u h O P o A) (c : cInv O' P' Y' ∧ cSt O P O' P') (m : mInv o' A' ∧ mSt A A') (ce : cE O P O' P') (me : mE u o A o' A') (sc : sC O P O' P') (sm : sM u o A o' A') : LI3 O' P' Y' o' A' := ⟨LI2_fr H.1 hC.1 hC.2.2.2.1 s c m ce me, X3_fr H.2 hC hM s sc sm⟩
theorem rtN_of {u t d : Nat} {A : Nat → Nat → Int32} {N D N' D' : Nat → Int32} (w : wkR A (d, N, D) (d, N', D')) (h : rtM A t d N') : rtN t d N := ⟨(w.2.1 0 (Nat.zero_le _)).trans h.1, fun i hi => by
  obtain ⟨j, hj, ej, _⟩ := h.2 i hi
  exact ⟨j, hj, (w.2.1 i hi).trans ej⟩⟩
/-- a walk moved on both sides -/
theorem mv_LI {O : Nat → Int32} {P : Nat → Nat → Int32} {Y : Nat → Nat → Int64} {o : Nat → Int32} {A : Nat → Nat → Int32} {u h d d2 t : Nat} (H : LI3 O P Y o A) (hC : cI u h d O P Y) (hM : mI u h d2 o A) (s : SS u h O P o A) (b : O 13 = 1) (ht : t < u) (hb : A 20 0 = nI t) {e : Nat} {N D N' D' : Nat → Int32} (he : e < 40) (w : wkR A (e, N, D) (e, N', D')) (hr : rtM A t e N') : LI3 (upd O 14 (nI e)) (updA (updA P 56 N) 57 D) Y (upd o 33 (nI e)) (updA (updA A 20 N') 21 D') := by
  have hr2 := rtN_of (u := u) w hr
  have hp : P 56 0 = nI t := (s.2.2.2.2.2.2.2.1 b).trans hb
  refine ⟨LI2_fr H.1 hC.1 hC.2.2.2.1 s (cI_go (D := D) hC he (fun _ => ⟨t, ht, hr2⟩)) (mI_go (D := D') hM (by omega) (fun _ => ⟨t, ht, hr⟩)) (cE_go (D := D) (fun _ => ⟨t, ⟨ht, hp⟩, hr2⟩)) (mE_go (D := D') (fun _ => ⟨t, ⟨ht, hb⟩, hr⟩)), fun _ => ⟨e, he, upd_self _ _ _, upd_self _ _ _, ?_⟩, shR_fr H.2.2 (fun j hj => upd_ne _ _ (by omega)) (fun i h1 h2 => by rw [updA_ne _ _ (by omega), updA_ne _ _ (by omega)]) (fun r h1 h2 => by rw [updA_ne _ _ (by omega), updA_ne _ _ (by omega)])⟩
  exact ⟨rfl, w.2.1, w.2.2⟩
theorem go_LI {O : Nat → Int32} {P : Nat → Nat → Int32} {Y : Nat → Nat → Int64} {o : Nat → Int32} {A : Nat → Nat → Int32} {u h d d2 : Nat} {x R R' : Int32} {s' t' : Nat × (Nat → Int32) × (Nat → Int32)} (H : LI3 O P Y o A) (hC : cI u h d O P Y) (hM : mI u h d2 o A) (s : SS u h O P o A) (g : goR (O 13 = 1) (goW (O 1) (P 4) (P 5)) (d, P 56, P 57) x s' R) (g' : goR (o 30 = 1) (goA A) (d2, A 20, A 21) x t' R') (hr : o 30 = 1 → ∃ t, (t < u ∧ A 20 0 = nI t) ∧ rtM A t t'.1 t'.2.1) (hd : t'.1 ≤ 39) : R = R' ∧ LI3 (upd O 14 (nI s'.1)) (updA (updA P 56 s'.2.1) 57 s'.2.2) Y (upd o 33 (nI t'.1)) (updA (updA A 20 t'.2.1) 21 t'.2.2) := by
  have hb : O 13 = 1 ↔ o 30 = 1 := by rw [s.2.2.2.2.2.2.1]
  have same : s' = (d, P 56, P 57) → t' = (d2, A 20, A 21) → LI3 (upd O 14 (nI s'.1)) (updA (updA P 56 s'.2.1) 57 s'.2.2) Y (upd o 33 (nI t'.1)) (updA (updA A 20 t'.2.1) 21 t'.2.2) := fun e1 e2 => by
    rw [e1, e2]
    show LI3 (upd O 14 (nI d)) (updA (updA P 56 (P 56)) 57 (P 57)) Y (upd o 33 (nI d2)) (updA (updA A 20 (A 20)) 21 (A 21))
    rw [upd_same hC.2.2.2.2.2.2.2.1, upd_same hM.2.2.2.2.2.2.2.2.1, updA_same P 56, updA_same P 57, updA_same A 20, updA_same A 21]
    exact H
  rcases g with ⟨r, q, z⟩ | ⟨q, c, r, z⟩ | ⟨c, k, hk, ex, g⟩ <;> rcases g' with ⟨r', q', z'⟩ | ⟨q', c', r', z'⟩ | ⟨c', k', hk', ex', g'⟩
  · exact ⟨by rw [r, r'], same z z'⟩
  · exact absurd q' q
  · exact absurd (by rw [ex', nI_toInt (by omega)]; omega) q
  · exact absurd q q'
  · exact ⟨by rw [r, r'], same z z'⟩
  · exact absurd (hb.mpr c') c
  · exact absurd (by rw [ex, nI_toInt (by omega)]; omega) q'
  · exact absurd (hb.mp c) c'
  · have ek : k = k' := (nI_eq (by omega) (by omega)).mp (ex.symm.trans ex')
    subst ek
    obtain ⟨ed, hw⟩ := wk_d hC hM H.2.1 c
    subst ed
    obtain ⟨t, ht, hr0⟩ := hM.2.2.2.2.2.2.2.2.2.2.1 c'
    rw [hC.2.1] at g
    rcases go_ok hC.1 hM.2.2.1 s.2.2.1 ht hr0 hw hk with ⟨e1, e2⟩ | ⟨s1, t1, e1, e2, w1, tp⟩
    · rcases g with ⟨_, r, z⟩ | ⟨q, _⟩ <;> rcases g' with ⟨_, r', z'⟩ | ⟨q', _⟩
      · exact ⟨by rw [r, r'], same z z'⟩
      · rw [e2] at q'
        cases q'
      · rw [e1] at q
        cases q
      · rw [e1] at q
        cases q
    · rcases g with ⟨q, _⟩ | ⟨q, r⟩ <;> rcases g' with ⟨q', _⟩ | ⟨q', r'⟩
      · rw [e1] at q
        cases q
      · rw [e1] at q
        cases q
      · rw [e2] at q'
        cases q'
      · rw [e1] at q
        rw [e2] at q'
        cases q
        cases q'
        obtain ⟨t9, ⟨ht9, hb9⟩, hr9⟩ := hr c'
        refine ⟨by rw [r, r', tp], ?_⟩
        have e0 : s'.1 = t'.1 := w1.1
        have := mv_LI H hC hM s c ht9 hb9 (e := t'.1) (N := s'.2.1) (D := s'.2.2) (N' := t'.2.1) (D' := t'.2.2) (by omega) ⟨rfl, by rw [← e0]; exact w1.2.1, by rw [← e0]; exact w1.2.2⟩ hr9
        rw [← e0] at this ⊢
        exact this
theorem lsA_or {u : Nat} {A : Nat → Nat → Int32} (hT : tbI 0 u A) (hu : u ≤ 120) : ∀ (c : Nat) (x r : Int32), (x = m2 ∨ ∃ n, x = nI n ∧ n < u) → lsA A c x r = m2 ∨ ∃ n, lsA A c x r = nI n ∧ n < u
  | 0, _, _, hx => hx
  | c + 1, x, r, hx => by
    by_cases h : r ≤ 0
    · rw [lsA_y h]
      exact hx
    · rw [lsA_n h]
      exact lsA_or hT hu c _ _ (ptA_or hT hu hx _)
theorem lead_LI {O : Nat → Int32} {P : Nat → Nat → Int32} {Y : Nat → Nat → Int64} {o : Nat → Int32} {A : Nat → Nat → Int32} {u h d d2 : Nat} {x R R' : Int32} {s' t' : Nat × (Nat → Int32) × (Nat → Int32)} (H : LI3 O P Y o A) (hC : cI u h d O P Y) (hM : mI u h d2 o A) (s : SS u h O P o A) (g : ldR (O 13 = 1) (0 ≤ x.toInt ∧ ¬ lsW (O 1) (P 4) (P 5) 20 (P 56 0) x = Int32.ofInt (-1)) (foW (O 1) (P 4) (P 5) 20 x (0, P 56, P 57)) (d, P 56, P 57) s' R) (g' : ldR (o 30 = 1) (0 ≤ x.toInt ∧ ¬ lsA A 20 (A 20 0) x = m2) (foA A 20 x (0, A 20, A 21)) (d2, A 20, A 21) t' R') : R = R' ∧ LI3 (upd O 14 (nI s'.1)) (updA (updA P 56 s'.2.1) 57 s'.2.2) Y (upd o 33 (nI t'.1)) (updA (updA A 20 t'.2.1) 21 t'.2.2) := by
  have hb : O 13 = 1 ↔ o 30 = 1 := by rw [s.2.2.2.2.2.2.1]
  have same : s' = (d, P 56, P 57) → t' = (d2, A 20, A 21) → LI3 (upd O 14 (nI s'.1)) (updA (updA P 56 s'.2.1) 57 s'.2.2) Y (upd o 33 (nI t'.1)) (updA (updA A 20 t'.2.1) 21 t'.2.2) := fun e1 e2 => by
    rw [e1, e2]
    show LI3 (upd O 14 (nI d)) (updA (updA P 56 (P 56)) 57 (P 57)) Y (upd o 33 (nI d2)) (updA (updA A 20 (A 20)) 21 (A 21))
    rw [upd_same hC.2.2.2.2.2.2.2.1, upd_same hM.2.2.2.2.2.2.2.2.1, updA_same P 56, updA_same P 57, updA_same A 20, updA_same A 21]
    exact H
  rcases g with ⟨c, r, z⟩ | ⟨c, g⟩ <;> rcases g' with ⟨c', r', z'⟩ | ⟨c', g'⟩
  · exact ⟨by rw [r, r'], same z z'⟩
  · exact absurd (hb.mpr c') c
  · exact absurd (hb.mp c) c'
  · obtain ⟨ed, hw⟩ := wk_d hC hM H.2.1 c
    subst ed
    obtain ⟨t, ht, hr0⟩ := hM.2.2.2.2.2.2.2.2.2.2.1 c'
    have hp : P 56 0 = cvI (A 20 0) := by
      rw [s.2.2.2.2.2.2.2.1 c, hr0.1, cvI_nI (by have := hC.1; omega)]
    have hl : lsW (O 1) (P 4) (P 5) 20 (P 56 0) x = cvI (lsA A 20 (A 20 0) x) := by
      rw [hC.2.1, hp]
      exact ls_same hC.1 hM.2.2.1 s.2.2.1 20 _ x (Or.inr ⟨t, hr0.1, ht⟩)
    have hor : lsA A 20 (A 20 0) x = m2 ∨ ∃ n, lsA A 20 (A 20 0) x = nI n ∧ n < u := lsA_or hM.2.2.1 hC.1 20 _ x (Or.inr ⟨t, hr0.1, ht⟩)
    have hi : lsW (O 1) (P 4) (P 5) 20 (P 56 0) x = Int32.ofInt (-1) ↔ lsA A 20 (A 20 0) x = m2 := by
      rw [hl]
      rcases hor with e | ⟨n, e, hn⟩
      · rw [e, cvI_m2]
        exact ⟨fun _ => rfl, fun _ => rfl⟩
      · rw [e, cvI_nI (by have := hC.1; omega)]
        exact ⟨fun q => absurd q (m1_n (by have := hC.1; omega)), fun q => absurd q (m2_n (by have := hC.1; omega))⟩
    rw [hi, hC.2.1] at g
    rcases g with ⟨q, r, z⟩ | ⟨q, r, z⟩ <;> rcases g' with ⟨q', r', z'⟩ | ⟨q', r', z'⟩
    · exact ⟨by rw [r, r'], same z z'⟩
    · exact absurd q' q
    · exact absurd q q'
    · obtain ⟨w1, hr1⟩ := fo_ok hC.1 hM.2.2.1 s.2.2.1 ht 20 x 0 (P 56) (P 57) (A 20) (A 21) (rtM_up hr0 (Nat.zero_le _)) (wk_up hw (Nat.zero_le _)) q'.2
      rw [← z, ← z'] at w1
      rw [← z'] at hr1
      rw [← z] at r
      rw [← z'] at r'
      have e0 : s'.1 = t'.1 := w1.1
      have hd9 := rtM_d hM.2.2.1 ht hr1
      refine ⟨by rw [r, r', ← e0]; exact w1.2.1 _ (Nat.le_refl _), ?_⟩
      have := mv_LI H hC hM s c ht hr0.1 (e := t'.1) (N := s'.2.1) (D := s'.2.2) (N' := t'.2.1) (D' := t'.2.2) (by omega) ⟨rfl, by rw [← e0]; exact w1.2.1, by rw [← e0]; exact w1.2.2⟩ hr1
      rw [← e0] at this ⊢
      exact this
end
section
theorem cI_id3 {u l d : Nat} {O : Nat → Int32} {P : Nat → Nat → Int32} {Y : Nat → Nat → Int64} (h : cI u l d O P Y) : cInv O P Y ∧ cSt O P O P := ⟨⟨u, l, d, h⟩, cSt_refl O P⟩
/-- a shelf's change on both sides: all but the shelf's own rows -/
theorem sh_LI {O O' : Nat → Int32} {P P' : Nat → Nat → Int32} {Y : Nat → Nat → Int64} {o o' : Nat → Int32} {A A' : Nat → Nat → Int32} {u h d d2 s : Nat} (H : LI3 O P Y o A) (hC : cI u h d O P Y) (hM : mI u h d2 o A) (S : SS u h O P o A) (hs : s < 8) (q : shW O P s O' P') (qm : shM o A o' A') (f : shF s A A') (own : O' (20 + 10 * s) = A' 9 s ∧ (A' 9 s = nI 0 ∨ A' 9 s = nI 1 ∨ A' 9 s = nI 3 ∨ A' 9 s = nI 4) ∧ (A' 9 s = nI 1 → O' (22 + 10 * s) = A' 10 s ∧ O' (21 + 10 * s) = cvI (A' 11 s) ∧ O' (23 + 10 * s) = A' 12 s ∧ (A' 11 s = m2 ∨ ∃ v, v ≤ 9999 ∧ A' 11 s = nI v) ∧ (A' 10 s = nI 1 → ∃ v, v ≤ 9999 ∧ A' 11 s = nI v)) ∧ ((A' 9 s = nI 3 ∨ A' 9 s = nI 4) → O' (24 + 10 * s) = A' 12 s ∧ ∃ m, m ≤ 60 ∧ A' 12 s = nI m ∧ ∀ i, i < m → P' (60 + 2 * s) i = A' 13 (60 * s + i))) : LI3 O' P' Y o' A' := by
  refine ⟨LI2_fr H.1 hC.1 hC.2.2.2.1 S (cI_sh hC hs q) (mI_sh hM qm) (cE_sh q) (mE_sh u qm), wk3_fr hC hM S H.2.1 (q.1 13 (by omega)) (q.1 14 (by omega)) (q.2.1 56 (by omega)) (q.2.1 57 (by omega)) (qm.1 33 (by decide)) (qm.2.1 20 (by decide) (by decide)) (qm.2.1 21 (by decide) (by decide)) (fun r i hr _ => by rw [qm.2.1 r (by omega) (by omega)]), fun t ht => ?_⟩
  by_cases e : t = s
  · subst e
    exact own
  · have a9 := f.1 9 t (by decide) (by decide) e
    have a10 := f.1 10 t (by decide) (by decide) e
    have a11 := f.1 11 t (by decide) (by decide) e
    have a12 := f.1 12 t (by decide) (by decide) e
    rw [q.1 _ (by omega), q.1 _ (by omega), q.1 _ (by omega), q.1 _ (by omega), q.1 _ (by omega), q.2.1 _ (by omega), a9, a10, a11, a12]
    obtain ⟨h1, h2, h3, h4⟩ := H.2.2 t ht
    refine ⟨h1, h2, h3, fun w => ?_⟩
    obtain ⟨k1, m, hm, k2, k3⟩ := h4 w
    exact ⟨k1, m, hm, k2, fun i hi => by rw [f.2 _ (by omega)]; exact k3 i hi⟩
theorem kpG_C {O : Nat → Int32} {P : Nat → Nat → Int32} {u s : Nat} (hu : u ≤ 120) {y x n : Int32} (hs : s < 8) (ey : y = nI s) (h : x = nI 0 ∨ (∃ j, j < u ∧ n = nI j ∧ x = nI 1) ∨ x = nI 3 ∨ (∃ j, j < u ∧ n = nI j ∧ x = nI 4)) : kpG u y x n := by
  refine ⟨by rw [ey, nI_toInt (by omega)]; omega, ?_⟩
  rcases h with e | ⟨j, hj, en, e⟩ | e | ⟨j, hj, en, e⟩
  · exact Or.inl e
  · exact Or.inr (Or.inr ⟨Or.inl e, by rw [en]; exact isN_nI hu hj⟩)
  · exact Or.inr (Or.inl e)
  · exact Or.inr (Or.inr ⟨Or.inr e, by rw [en]; exact isN_nI hu hj⟩)
theorem keep_LI {O O' : Nat → Int32} {P P' : Nat → Nat → Int32} {Y : Nat → Nat → Int64} {o o' : Nat → Int32} {A A' : Nat → Nat → Int32} {u h d d2 : Nat} {y x n R R' : Int32} (H : LI3 O P Y o A) (hC : cI u h d O P Y) (hM : mI u h d2 o A) (S : SS u h O P o A) (g : kpC O P u h y x n O' P' R) (g' : kpM A u h y x n o o' A' R') (qm : shM o A o' A') : R = R' ∧ LI3 O' P' Y o' A' := by
  have hu := hC.1
  rcases g with ⟨r, q, e1, e2⟩ | ⟨s, hs, ey, r, q, g⟩ <;> rcases g' with ⟨r', q', e1', e2'⟩ | ⟨s', hs', ey', r', f', a9', g'⟩
  · subst e1
    subst e2
    subst e1'
    subst e2'
    exact ⟨by rw [r, r'], H⟩
  · refine absurd (kpG_C (O := O) (P := P) hu hs' ey' ?_) q
    rcases g' with e | ⟨j, hj, en, e, _⟩ | ⟨e, _⟩ | ⟨j, hj, en, e, _⟩
    · exact Or.inl e
    · exact Or.inr (Or.inl ⟨j, hj, en, e⟩)
    · exact Or.inr (Or.inr (Or.inl e))
    · exact Or.inr (Or.inr (Or.inr ⟨j, hj, en, e⟩))
  · refine absurd (kpG_C (O := O) (P := P) hu hs ey ?_) q'
    rcases g with ⟨e, _⟩ | ⟨j, hj, en, e, _⟩ | ⟨e, _⟩ | ⟨j, hj, en, e, _⟩
    · exact Or.inl e
    · exact Or.inr (Or.inl ⟨j, hj, en, e⟩)
    · exact Or.inr (Or.inr (Or.inl e))
    · exact Or.inr (Or.inr (Or.inr ⟨j, hj, en, e⟩))
  · have es : s = s' := (nI_eq (by omega) (by omega)).mp (ey.symm.trans ey')
    subst es
    refine ⟨by rw [r, r'], sh_LI H hC hM S hs q qm f' ?_⟩
    rcases g with ⟨e, c1⟩ | ⟨j, hj, en, e, c1, c2, c3, c4⟩ | ⟨e, c1, c2, c3⟩ | ⟨j, hj, en, e, c1, c2, c3⟩ <;> rcases g' with e' | ⟨j', hj', en', e', b1, b2, b3⟩ | ⟨e', b1, b2⟩ | ⟨j', hj', en', e', b1, b2⟩
    all_goals first
      | exact absurd (e.symm.trans e') (by decide)
      | skip
    · rw [a9', e]
      exact ⟨c1, Or.inl rfl, fun w => absurd w (by decide), fun w => absurd w (by decide)⟩
    · have ej : j = j' := (nI_eq (by omega) (by omega)).mp (en.symm.trans en')
      subst ej
      obtain ⟨n1, n2, n3, n4, n5, _⟩ := S.2.2.1 j hj
      obtain ⟨k, h0, hk, _, _, hv⟩ := rN_val (hM.2.2.1 j (Nat.zero_le _) hj)
      rw [a9', e]
      refine ⟨c1, Or.inr (Or.inl rfl), fun _ => ⟨by rw [c2, b1, n1], by rw [c3, b2, n2], by rw [c4, b3, n5]; exact (rN_sz (hM.2.2.1 j (Nat.zero_le _) hj)).2.2, ?_, fun w => ?_⟩, fun w => absurd w (by decide)⟩
      · rw [b2]
        by_cases q28 : 2 ≤ k ∧ k ≤ 8
        · exact Or.inl (hv.2.2 q28.1 q28.2)
        · rcases (show k = 1 ∨ (k = 0 ∨ k = 9) by omega) with q1 | q1
          · exact Or.inr (hv.2.1 q1)
          · obtain ⟨v, a, b⟩ := hv.1 q1
            exact Or.inr ⟨v, by omega, b⟩
      · rw [b1, h0, nI_eq (by omega) (by decide)] at w
        rw [b2]
        exact hv.2.1 w
    · rw [a9', e]
      refine ⟨c1, Or.inr (Or.inr (Or.inl rfl)), fun w => absurd w (by decide), fun _ => ⟨by rw [c2, b1], h, by have := hC.2.2.2.1; omega, b1, fun i hi => ?_⟩⟩
      rw [c3 i hi, b2 i hi]
      exact S.2.2.2.2.2.1 i hi
    · have ej : j = j' := (nI_eq (by omega) (by omega)).mp (en.symm.trans en')
      subst ej
      obtain ⟨n1, n2, n3, n4, n5, _⟩ := S.2.2.1 j hj
      have sz := rN_sz (hM.2.2.1 j (Nat.zero_le _) hj)
      rw [a9', e]
      refine ⟨c1, Or.inr (Or.inr (Or.inr rfl)), fun w => absurd w (by decide), fun _ => ⟨by rw [c2, b1, n5]; exact sz.2.2, szN A j, by omega, b1, fun i hi => ?_⟩⟩
      rw [hC.2.1, kl_same hu hM.2.2.1 S.2.2.1 40 j hj sz.2.1] at c3
      have hl := klA_len (by omega) hM.2.2.1 40 j (Nat.zero_le _) hj sz.2.1
      have hg : (klA A 40 (nI j))[i]? = some (klA A 40 (nI j))[i] := List.getElem?_eq_getElem (by omega)
      rw [c3 i _ hg, b2 i _ hg]
theorem make_LI {O O' : Nat → Int32} {P P' : Nat → Nat → Int32} {Y : Nat → Nat → Int64} {o o' : Nat → Int32} {A A' : Nat → Nat → Int32} {u h d d2 : Nat} {x k n : Int32} (H : LI3 O P Y o A) (hC : cI u h d O P Y) (hM : mI u h d2 o A) (S : SS u h O P o A) (g : mkC O P x k n O' P') (g' : mkM o A x k n o' A') (qm : shM o A o' A') : LI3 O' P' Y o' A' := by
  rcases g with ⟨q, e1, e2⟩ | ⟨s, m, hs, hm, ex, en, hG, eO, hP, hD⟩ <;> rcases g' with ⟨q', e1', e2'⟩ | ⟨s', m', hs', hm', ex', en', hG', f', a9', a12', hD'⟩
  · subst e1
    subst e2
    subst e1'
    subst e2'
    exact H
  · exact absurd hG' q
  · exact absurd hG q'
  · have es : s = s' := (nI_eq (by omega) (by omega)).mp (ex.symm.trans ex')
    have em : m = m' := (nI_eq (by omega) (by omega)).mp (en.symm.trans en')
    subst es
    subst em
    have k34' : k = nI 3 ∨ k = nI 4 := k34.mpr hG.2.1
    have w : shW O P s O' P' := ⟨fun j hj => by rw [eO, upd_ne _ _ (by omega), upd_ne _ _ (by omega)], hP, Or.inr ⟨m, hm, by rw [eO, upd_self]⟩⟩
    refine sh_LI H hC hM S hs w qm f' ?_
    rw [a9']
    refine ⟨by rw [eO, upd_ne _ _ (by omega), upd_self], Or.inr (Or.inr k34'), fun e => ?_, fun _ => ⟨by rw [eO, upd_self, a12'], m, hm, a12', fun i hi => by rw [hD i (by omega), hD' i hi]⟩⟩
    rcases k34' with e4 | e4 <;> exact absurd (e4.symm.trans e) (by decide)
theorem sp3_le {a c m : Nat} (ha : a < 2 ^ 31) (hc : c < 2 ^ 31) (hm : m ≤ 60) (h : sp3 (nI a) (nI c) (nI m)) : a + c ≤ m := by
  have h3 := h.2.2
  rw [Int32.le_iff_toInt_le, Int32.toInt_sub, nI_toInt ha, nI_toInt hc, nI_toInt (by omega), Int.bmod_eq_of_le (by omega) (by omega)] at h3
  omega
theorem copy_LI {O : Nat → Int32} {P P' : Nat → Nat → Int32} {Y : Nat → Nat → Int64} {o o' : Nat → Int32} {A A' : Nat → Nat → Int32} {u h d d2 : Nat} {x i y j n R R' : Int32} (H : LI3 O P Y o A) (hC : cI u h d O P Y) (hM : mI u h d2 o A) (S : SS u h O P o A) (g : cyR (fun s => O (20 + 10 * s)) (fun s => O (24 + 10 * s)) x i y j n R (P' = P) (fun s t => P' = updA P (60 + 2 * t) (va_cpy (P (60 + 2 * s)) (P (60 + 2 * t)) i.toNatClampNeg j.toNatClampNeg n.toNatClampNeg))) (g' : cyR (A 9) (A 12) x i y j n R' (A' = A) (fun s t => ∃ a b c, i = nI a ∧ j = nI b ∧ n = nI c ∧ a + c ≤ 60 ∧ b + c ≤ 60 ∧ A' 13 = cpO (A 13) (fun k => A 13 (60 * s + a + k)) (60 * t + b) c ∧ ∀ r, r ≠ 13 → r ≠ 15 → A' r = A r)) (qm : shM o A o' A') : R = R' ∧ LI3 O P' Y o' A' := by
  obtain ⟨e, g⟩ := cyR_same (fun s hs => (H.2.2 s hs).1) (fun s hs w => ((H.2.2 s hs).2.2.2 (by rw [← (H.2.2 s hs).1]; exact w)).1) g g'
  refine ⟨e, ?_⟩
  rcases g with ⟨e1, e2⟩ | ⟨s, t, hs, ht, w1, w2, p1, p2, e1, a, b, c, rfl, rfl, rfl, ha, hb, e2, e3⟩
  · subst e1
    refine ⟨LI2_fr H.1 hC.1 hC.2.2.2.1 S (cI_id3 hC) (mI_sh hM qm) (cE_id O P') (mE_sh u qm), wk3_fr hC hM S H.2.1 rfl rfl rfl rfl (qm.1 33 (by decide)) (by rw [e2]) (by rw [e2]) (fun r i _ _ => by rw [e2]), ?_⟩
    rw [e2]
    exact H.2.2
  · obtain ⟨s1, s2, s3, s4⟩ := H.2.2 s hs
    obtain ⟨t1, t2, t3, t4⟩ := H.2.2 t ht
    have w1' : A 9 s = nI 3 ∨ A 9 s = nI 4 := by rw [← s1]; exact w1
    have w2' : A 9 s = A 9 t := by rw [← s1, ← t1]; exact w2
    obtain ⟨l1, m1', hm1, l2, l3⟩ := s4 w1'
    obtain ⟨k1, m2', hm2, k2, k3⟩ := t4 (by rw [← w2']; exact w1')
    have p1' : sp3 (nI a) (nI c) (nI m1') := by
      have : sp3 (nI a) (nI c) (O (24 + 10 * s)) := p1
      rwa [l1, l2] at this
    have hac := sp3_le (by omega) (by omega) hm1 p1'
    have q : shW O P t O P' := ⟨fun _ _ => rfl, fun i hi => by rw [e1]; exact updA_ne _ _ hi, Or.inl rfl⟩
    have f : shF t A A' := ⟨fun r w h1 h2 _ => by rw [e3 r (by omega) (by omega)], fun j hj => by rw [e2]; exact cpO_out (by omega)⟩
    refine sh_LI H hC hM S ht q qm f ?_
    rw [e3 9 (by decide) (by decide), e3 10 (by decide) (by decide), e3 11 (by decide) (by decide), e3 12 (by decide) (by decide)]
    refine ⟨t1, t2, t3, fun _ => ⟨k1, m2', hm2, k2, fun z hz => ?_⟩⟩
    rw [e1, e2, updA_self, nI_clamp (by omega), nI_clamp (by omega), nI_clamp (by omega)]
    by_cases q : b ≤ z ∧ z < b + c
    · rw [show va_cpy (P (60 + 2 * s)) (P (60 + 2 * t)) a b c z = P (60 + 2 * s) (a + (z - b)) from if_pos q, l3 _ (by omega), show 60 * t + z = 60 * t + b + (z - b) by omega, cpO_in (by omega), show 60 * s + (a + (z - b)) = 60 * s + a + (z - b) by omega]
    · rw [show va_cpy (P (60 + 2 * s)) (P (60 + 2 * t)) a b c z = P (60 + 2 * t) z from if_neg q, k3 z hz, cpO_out (by omega)]
theorem ts_same {O : Nat → Int32} {P A : Nat → Nat → Int32} (H : shR O P A) : ∀ s, s < 8 → O (20 + 10 * s) = nI 1 → tsV (O (21 + 10 * s)) (Int32.ofInt (-1)) = if A 11 s < 0 then c8 (-15) else A 11 s := fun s hs e => by
  obtain ⟨h1, _, h3, _⟩ := H s hs
  obtain ⟨a1, a2, a3, a4, a5⟩ := h3 (h1.symm.trans e)
  unfold tsV
  rw [a2]
  rcases a4 with q | ⟨v, hv, q⟩
  · rw [q, cvI_m2, if_pos rfl, if_pos (by decide)]
  · rw [q, cvI_nI (by omega), if_neg (m1_n (by omega)), if_neg (nI_pos (by omega))]
end
section
theorem kl_60 {O : Nat → Int32} {P : Nat → Nat → Int32} {Y : Nat → Nat → Int64} {o : Nat → Int32} {A : Nat → Nat → Int32} {u h d d2 : Nat} (hC : cI u h d O P Y) (hM : mI u h d2 o A) (S : SS u h O P o A) : ∀ j, j < u → (klP P (O 1) 40 (nI j)).length ≤ 60 := fun j hj => by
  have sz := rN_sz (hM.2.2.1 j (Nat.zero_le _) hj)
  rw [hC.2.1, kl_same hC.1 hM.2.2.1 S.2.2.1 40 j hj sz.2.1, klA_len (by have := hC.1; omega) hM.2.2.1 40 j (Nat.zero_le _) hj sz.2.1]
  omega
end
section
/-! rows of trees: one way to read them; where two of them are first unlike -/
def w1 (k : Nat) : Int := if k < 2 then 1 else if k ≤ 6 then -1 else 0
end
