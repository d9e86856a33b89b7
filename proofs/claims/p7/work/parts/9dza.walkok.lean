/-- the walks of both sides are the same: the NODES gone through, and the steps -/
def wkR (A : Nat → Nat → Int32) (s t : Nat × (Nat → Int32) × (Nat → Int32)) : Prop := s.1 = t.1 ∧ (∀ j, j ≤ s.1 → s.2.1 j = t.2.1 j) ∧ (∀ j, j < s.1 → ((t.2.2 (j + 1) = nI 0 ∧ s.2.2 (j + 1) = nI 1 ∧ t.2.1 (j + 1) = A 2 (nC (t.2.1 j))) ∨ (t.2.2 (j + 1) = nI 1 ∧ s.2.2 (j + 1) = nI 2 ∧ t.2.1 (j + 1) = A 3 (nC (t.2.1 j)))))
theorem pt_1 {u : Nat} (hu : u ≤ 120) {P A : Nat → Nat → Int32} (hN : NR u P A) {n : Nat} (hn : n < u) : ptW (nI u) (P 4) (P 5) (nI n) (nI 1) = cvI (A 2 n) ∧ ptW (nI u) (P 4) (P 5) (nI n) (nI 2) = cvI (A 3 n) := by
  obtain ⟨n1, n2, n3, n4, _⟩ := hN n hn
  unfold ptW
  rw [if_pos (has_n hn hu), if_pos (has_n hn hu), show nC (nI n) = n from nI_clamp (by omega), if_pos (show (nI 1).toInt = 1 from rfl), if_neg (show ¬ (nI 2).toInt = 1 by decide), if_pos (show (nI 2).toInt = 2 from rfl)]
  exact ⟨n3, n4⟩
theorem wy_1 {A : Nat → Nat → Int32} {n : Nat} (hn : n < 450) : wyA A (nI n) (nI 0) = A 2 n ∧ wyA A (nI n) (nI 1) = A 3 n := by
  unfold wyA
  rw [if_pos (show nI 0 = 0 from rfl), if_neg (show ¬ nI 1 = 0 by decide), show nC (nI n) = n from nI_clamp (by omega)]
  exact ⟨rfl, rfl⟩
theorem m1_n {a : Nat} (h : a < 2 ^ 31) : ¬ nI a = Int32.ofInt (-1) := fun e => by
  have : (nI a).toInt = (Int32.ofInt (-1)).toInt := by rw [e]
  rw [nI_toInt h, show (Int32.ofInt (-1)).toInt = -1 from by decide] at this
  omega
/-- one step down on both sides -/
theorem sd_ok {u : Nat} (hu : u ≤ 120) {P A : Nat → Nat → Int32} (hT : tbI 0 u A) (hN : NR u P A) {t0 : Nat} (ht : t0 < u) {d : Nat} {N D N' D' : Nat → Int32} (hr : rtM A t0 d N') (w : wkR A (d, N, D) (d, N', D')) {c : Nat} (hc : c < 2) : (ptW (nI u) (P 4) (P 5) (N d) (nI (c + 1)) = Int32.ofInt (-1) ∧ wyA A (N' d) (nI c) = m2) ∨ ∃ a, a < u ∧ ptW (nI u) (P 4) (P 5) (N d) (nI (c + 1)) = nI a ∧ wyA A (N' d) (nI c) = nI a ∧ ¬ 40 ≤ d + 1 ∧ wkR A (sdW (nI u) (P 4) (P 5) (nI (c + 1)) (d, N, D)) (sdA A (nI c) (d, N', D')) ∧ rtM A t0 (sdA A (nI c) (d, N', D')).1 (sdA A (nI c) (d, N', D')).2.1 := by
  obtain ⟨j, hj, ej, hz⟩ := hr.2 d (Nat.le_refl _)
  have eN : N d = nI j := (w.2.1 d (Nat.le_refl _)).trans ej
  have hju : j < u := by omega
  have e1 : ptW (nI u) (P 4) (P 5) (nI j) (nI (c + 1)) = cvI (wyA A (nI j) (nI c)) := by
    rcases (show c = 0 ∨ c = 1 by omega) with rfl | rfl
    · rw [(wy_1 (by omega)).1]
      exact (pt_1 hu hN hju).1
    · rw [(wy_1 (by omega)).2]
      exact (pt_1 hu hN hju).2
  have hrt := rt_sdA hu hT ht (nI c) (s := (d, N', D')) hr
  rw [eN, ej, e1]
  rcases wyA_or hT hu hju (nI c) with e | ⟨a, e, ha, hs⟩
  · exact Or.inl ⟨by rw [e, cvI_m2], e⟩
  · right
    have s1 := (rN_sz (hT a (Nat.zero_le _) (by omega))).1
    refine ⟨a, by omega, by rw [e, cvI_nI (by omega)], e, by omega, ?_, hrt⟩
    have es : sdW (nI u) (P 4) (P 5) (nI (c + 1)) (d, N, D) = (d + 1, upd N (d + 1) (nI a), upd D (d + 1) (nI (c + 1))) := by
      unfold sdW
      rw [show (d, N, D).2.1 (d, N, D).1 = nI j from eN, e1, e, cvI_nI (by omega), if_neg (fun q => q.elim (m1_n (by omega)) (fun q => by have : 40 ≤ d + 1 := q; omega))]
    have et : sdA A (nI c) (d, N', D') = (d + 1, upd N' (d + 1) (nI a), upd D' (d + 1) (nI c)) := by
      unfold sdA
      rw [show (d, N', D').2.1 (d, N', D').1 = nI j from ej, e, if_neg (nI_pos (by omega))]
    rw [es, et]
    refine ⟨rfl, fun i hi => ?_, fun i hi => ?_⟩
    · show upd N (d + 1) (nI a) i = upd N' (d + 1) (nI a) i
      by_cases q : i = d + 1
      · rw [q, upd_self, upd_self]
      · rw [upd_ne _ _ q, upd_ne _ _ q]
        exact w.2.1 i (by have : i ≤ d + 1 := hi; show i ≤ d; omega)
    · have hi : i < d + 1 := hi
      show (upd D' (d + 1) (nI c) (i + 1) = nI 0 ∧ upd D (d + 1) (nI (c + 1)) (i + 1) = nI 1 ∧ upd N' (d + 1) (nI a) (i + 1) = A 2 (nC (upd N' (d + 1) (nI a) i))) ∨ (upd D' (d + 1) (nI c) (i + 1) = nI 1 ∧ upd D (d + 1) (nI (c + 1)) (i + 1) = nI 2 ∧ upd N' (d + 1) (nI a) (i + 1) = A 3 (nC (upd N' (d + 1) (nI a) i)))
      rw [upd_ne N' (nI a) (show i ≠ d + 1 by omega)]
      by_cases q : i = d
      · subst q
        rw [upd_self, upd_self, upd_self, ej, show nC (nI j) = j from nI_clamp (by omega)]
        rcases (show c = 0 ∨ c = 1 by omega) with rfl | rfl
        · rw [(wy_1 (by omega)).1] at e
          exact Or.inl ⟨rfl, rfl, e.symm⟩
        · rw [(wy_1 (by omega)).2] at e
          exact Or.inr ⟨rfl, rfl, e.symm⟩
      · rw [upd_ne D' _ (show i + 1 ≠ d + 1 by omega), upd_ne D _ (show i + 1 ≠ d + 1 by omega), upd_ne N' _ (show i + 1 ≠ d + 1 by omega)]
        exact w.2.2 i (show i < d by omega)
theorem wk_up {A : Nat → Nat → Int32} {d d' : Nat} {N D N' D' : Nat → Int32} (w : wkR A (d, N, D) (d, N', D')) (h : d' ≤ d) : wkR A (d', N, D) (d', N', D') := ⟨rfl, fun j hj => w.2.1 j (Nat.le_trans hj h), fun j hj => w.2.2 j (Nat.lt_of_lt_of_le hj h)⟩
/-- go on both sides -/
theorem go_ok {u : Nat} (hu : u ≤ 120) {P A : Nat → Nat → Int32} (hT : tbI 0 u A) (hN : NR u P A) {t0 : Nat} (ht : t0 < u) {d : Nat} {N D N' D' : Nat → Int32} (hr : rtM A t0 d N') (w : wkR A (d, N, D) (d, N', D')) {c : Nat} (hc : c < 4) : (goW (nI u) (P 4) (P 5) c (d, N, D) = none ∧ goA A c (d, N', D') = none) ∨ ∃ s t, goW (nI u) (P 4) (P 5) c (d, N, D) = some s ∧ goA A c (d, N', D') = some t ∧ wkR A s t ∧ s.2.1 s.1 = t.2.1 t.1 := by
  have top : ∀ {s t : Nat × (Nat → Int32) × (Nat → Int32)}, wkR A s t → s.2.1 s.1 = t.2.1 t.1 := fun {s t} h => by
    rw [← h.1]
    exact h.2.1 _ (Nat.le_refl _)
  unfold goW goA
  by_cases h2 : c < 2
  · rw [if_pos h2, if_pos h2]
    show ((if ptW (nI u) (P 4) (P 5) (N d) (nI (c + 1)) = Int32.ofInt (-1) ∨ 40 ≤ d + 1 then none else some (sdW (nI u) (P 4) (P 5) (nI (c + 1)) (d, N, D))) = none ∧ (if wyA A (N' d) (nI c) < 0 then none else some (sdA A (nI c) (d, N', D'))) = none) ∨ ∃ s t, (if ptW (nI u) (P 4) (P 5) (N d) (nI (c + 1)) = Int32.ofInt (-1) ∨ 40 ≤ d + 1 then none else some (sdW (nI u) (P 4) (P 5) (nI (c + 1)) (d, N, D))) = some s ∧ (if wyA A (N' d) (nI c) < 0 then none else some (sdA A (nI c) (d, N', D'))) = some t ∧ wkR A s t ∧ s.2.1 s.1 = t.2.1 t.1
    rcases sd_ok hu hT hN ht hr w h2 with ⟨e1, e2⟩ | ⟨a, ha, e1, e2, h40, w', _⟩
    · rw [if_pos (Or.inl e1), e2, if_pos (by decide)]
      exact Or.inl ⟨rfl, rfl⟩
    · rw [if_neg (fun q => q.elim (fun q => m1_n (a := a) (by omega) (e1.symm.trans q)) h40), e2, if_neg (nI_pos (by omega))]
      exact Or.inr ⟨_, _, rfl, rfl, w', top w'⟩
  · rw [if_neg h2, if_neg h2]
    by_cases h0 : d = 0
    · rw [if_pos (show (d, N, D).1 = 0 from h0), if_pos (show (d, N', D').1 = 0 from h0)]
      exact Or.inl ⟨rfl, rfl⟩
    · rw [if_neg (show ¬ (d, N, D).1 = 0 from h0), if_neg (show ¬ (d, N', D').1 = 0 from h0)]
      by_cases h3 : c = 2
      · rw [if_pos h3, if_pos h3]
        have w' := wk_up w (show d - 1 ≤ d by omega)
        exact Or.inr ⟨_, _, rfl, rfl, w', top w'⟩
      · rw [if_neg h3, if_neg h3]
        obtain ⟨m, rfl⟩ : ∃ m, d = m + 1 := ⟨d - 1, by omega⟩
        obtain ⟨j, hj, ej, hz⟩ := hr.2 m (by omega)
        have hju : j < u := by omega
        have eN : N m = nI j := (w.2.1 m (by show m ≤ m + 1; omega)).trans ej
        have up := wk_up w (show m ≤ m + 1 by omega)
        show ((if ptW (nI u) (P 4) (P 5) (N m) (Int32.ofInt 3 - D (m + 1)) = Int32.ofInt (-1) then none else some (m + 1, upd N (m + 1) (ptW (nI u) (P 4) (P 5) (N m) (Int32.ofInt 3 - D (m + 1))), upd D (m + 1) (Int32.ofInt 3 - D (m + 1)))) = none ∧ (if A 3 (nC (N' m)) < 0 then none else some (sdA A (Int32.ofInt 1 - D' (m + 1)) (m, N', D'))) = none) ∨ ∃ s t, (if ptW (nI u) (P 4) (P 5) (N m) (Int32.ofInt 3 - D (m + 1)) = Int32.ofInt (-1) then none else some (m + 1, upd N (m + 1) (ptW (nI u) (P 4) (P 5) (N m) (Int32.ofInt 3 - D (m + 1))), upd D (m + 1) (Int32.ofInt 3 - D (m + 1)))) = some s ∧ (if A 3 (nC (N' m)) < 0 then none else some (sdA A (Int32.ofInt 1 - D' (m + 1)) (m, N', D'))) = some t ∧ wkR A s t ∧ s.2.1 s.1 = t.2.1 t.1
        have hsd : ∀ c, c < 2 → ∀ a, a < u → ptW (nI u) (P 4) (P 5) (nI j) (nI (c + 1)) = nI a → wkR A (sdW (nI u) (P 4) (P 5) (nI (c + 1)) (m, N, D)) (sdA A (nI c) (m, N', D')) ∧ sdW (nI u) (P 4) (P 5) (nI (c + 1)) (m, N, D) = (m + 1, upd N (m + 1) (nI a), upd D (m + 1) (nI (c + 1))) := fun c hc a ha ea => by
          rcases sd_ok hu hT hN ht (rtM_up hr (by omega)) up hc with ⟨e1, _⟩ | ⟨a', ha', e1, e2, h40, w', _⟩
          · rw [eN, ea] at e1
            exact absurd e1 (m1_n (by omega))
          · refine ⟨w', ?_⟩
            unfold sdW
            rw [show (m, N, D).2.1 (m, N, D).1 = nI j from eN, ea, if_neg (fun q => q.elim (m1_n (by omega)) h40)]
        rw [eN, ej, show nC (nI j) = j from nI_clamp (by omega)]
        rcases w.2.2 m (by show m < m + 1; omega) with ⟨q1, q2, q3⟩ | ⟨q1, q2, q3⟩
        · have q1 : D' (m + 1) = nI 0 := q1
          have q2 : D (m + 1) = nI 1 := q2
          rw [q1, q2, show Int32.ofInt 3 - nI 1 = nI 2 from by decide, show Int32.ofInt 1 - nI 0 = nI 1 from by decide, (pt_1 hu hN hju).2]
          rcases (rN_dn (hT j (Nat.zero_le _) hju)).2 with e | ⟨a, e, ha, _⟩
          · rw [e, cvI_m2, if_pos rfl, if_pos (by decide)]
            exact Or.inl ⟨rfl, rfl⟩
          · rw [e, cvI_nI (by omega), if_neg (m1_n (by omega)), if_neg (nI_pos (by omega))]
            obtain ⟨w', es⟩ := hsd 1 (by decide) a (by omega) (by rw [(pt_1 hu hN hju).2, e, cvI_nI (by omega)])
            rw [es] at w'
            exact Or.inr ⟨_, _, rfl, rfl, w', top w'⟩
        · have q1 : D' (m + 1) = nI 1 := q1
          have q2 : D (m + 1) = nI 2 := q2
          have q3 : N' (m + 1) = A 3 (nC (N' m)) := q3
          obtain ⟨b, hb, eb, _⟩ := hr.2 (m + 1) (Nat.le_refl _)
          rw [eb, ej, show nC (nI j) = j from nI_clamp (by omega)] at q3
          rw [q1, q2, show Int32.ofInt 3 - nI 2 = nI 1 from by decide, show Int32.ofInt 1 - nI 1 = nI 0 from by decide, (pt_1 hu hN hju).1, ← q3, if_neg (nI_pos (by omega))]
          rcases rN_sum (hT j (Nat.zero_le _) hju) with ⟨h2', h3', _⟩ | ⟨a, h2', h3', _⟩ | ⟨a, b', h2', h3', la, ha, _⟩
          · rw [h3'] at q3
            exact absurd q3 (m2_n (by omega))
          · rw [h3'] at q3
            exact absurd q3 (m2_n (by omega))
          · rw [h2', cvI_nI (by omega), if_neg (m1_n (by omega))]
            obtain ⟨w', es⟩ := hsd 0 (by decide) a (by omega) (by rw [(pt_1 hu hN hju).1, h2', cvI_nI (by omega)])
            rw [es] at w'
            exact Or.inr ⟨_, _, rfl, rfl, w', top w'⟩
theorem pt_same {u : Nat} (hu : u ≤ 120) {P A : Nat → Nat → Int32} (hN : NR u P A) {x : Int32} (hx : x = m2 ∨ ∃ n, x = nI n ∧ n < u) (w : Int32) : ptW (nI u) (P 4) (P 5) (cvI x) w = cvI (ptA A x w) := by
  rcases hx with rfl | ⟨n, rfl, hn⟩
  · rw [ptA_m2, cvI_m2]
    exact if_neg (fun q => absurd q.1 (by decide))
  · obtain ⟨n1, n2, n3, n4, _⟩ := hN n hn
    unfold ptW ptA
    rw [cvI_nI (by omega), if_pos (has_n hn hu), if_neg (nI_pos (by omega)), show nC (nI n) = n from nI_clamp (by omega)]
    have i1 : w.toInt = 1 ↔ w = Int32.ofInt 1 := ⟨fun e => Int32.toInt_inj.mp (e.trans (by decide)), fun e => by rw [e]; rfl⟩
    have i2 : w.toInt = 2 ↔ w = Int32.ofInt 2 := ⟨fun e => Int32.toInt_inj.mp (e.trans (by decide)), fun e => by rw [e]; rfl⟩
    by_cases h1 : w = Int32.ofInt 1
    · rw [if_pos h1, if_pos (i1.mpr h1)]
      exact n3
    · rw [if_neg h1, if_neg (fun q => h1 (i1.mp q))]
      by_cases h2 : w = Int32.ofInt 2
      · rw [if_pos h2, if_pos (i2.mpr h2)]
        exact n4
      · rw [if_neg h2, if_neg (fun q => h2 (i2.mp q)), cvI_m2]
theorem ptA_or {u : Nat} {A : Nat → Nat → Int32} (hT : tbI 0 u A) (hu : u ≤ 120) {x : Int32} (hx : x = m2 ∨ ∃ n, x = nI n ∧ n < u) (w : Int32) : ptA A x w = m2 ∨ ∃ n, ptA A x w = nI n ∧ n < u := by
  rcases hx with rfl | ⟨n, rfl, hn⟩
  · exact Or.inl (ptA_m2 A w)
  · obtain ⟨h2, h3⟩ := rN_dn (hT n (Nat.zero_le _) hn)
    unfold ptA
    rw [if_neg (nI_pos (by omega)), show nC (nI n) = n from nI_clamp (by omega)]
    split
    · exact h2.imp id (fun ⟨a, e, ha, _⟩ => ⟨a, e, by omega⟩)
    · split
      · exact h3.imp id (fun ⟨a, e, ha, _⟩ => ⟨a, e, by omega⟩)
      · exact Or.inl rfl
theorem ls_same {u : Nat} (hu : u ≤ 120) {P A : Nat → Nat → Int32} (hT : tbI 0 u A) (hN : NR u P A) : ∀ (c : Nat) (x r : Int32), (x = m2 ∨ ∃ n, x = nI n ∧ n < u) → lsW (nI u) (P 4) (P 5) c (cvI x) r = cvI (lsA A c x r)
  | 0, _, _, _ => rfl
  | c + 1, x, r, hx => by
    rw [lsW_s]
    by_cases h : r ≤ 0
    · rw [if_pos h, lsA_y h]
    · rw [if_neg h, lsA_n h, pt_same hu hN hx]
      exact ls_same hu hT hN c _ _ (ptA_or hT hu hx _)
theorem rm_12 {A : Nat → Nat → Int32} {x r : Int32} (h : ¬ ptA A x (rm3 r) = m2) : ¬ x < 0 ∧ ((rm3 r = nI 1 ∧ ptA A x (rm3 r) = A 2 (nC x)) ∨ (rm3 r = nI 2 ∧ ptA A x (rm3 r) = A 3 (nC x))) := by
  unfold ptA at h ⊢
  by_cases h0 : x < 0
  · exact absurd (if_pos h0) h
  · rw [if_neg h0] at h ⊢
    refine ⟨h0, ?_⟩
    by_cases h1 : rm3 r = Int32.ofInt 1
    · rw [if_pos h1]
      exact Or.inl ⟨h1, rfl⟩
    · rw [if_neg h1] at h ⊢
      by_cases h2 : rm3 r = Int32.ofInt 2
      · rw [if_pos h2]
        exact Or.inr ⟨h2, rfl⟩
      · exact absurd (if_neg h2) h
theorem fo_ok {u : Nat} (hu : u ≤ 120) {P A : Nat → Nat → Int32} (hT : tbI 0 u A) (hN : NR u P A) {t0 : Nat} (ht : t0 < u) : ∀ (c : Nat) (r : Int32) (d : Nat) (N D N' D' : Nat → Int32), rtM A t0 d N' → wkR A (d, N, D) (d, N', D') → ¬ lsA A c (N' d) r = m2 → wkR A (foW (nI u) (P 4) (P 5) c r (d, N, D)) (foA A c r (d, N', D')) ∧ rtM A t0 (foA A c r (d, N', D')).1 (foA A c r (d, N', D')).2.1
  | 0, _, _, _, _, _, _, hr, w, _ => ⟨w, hr⟩
  | c + 1, r, d, N, D, N', D', hr, w, hl => by
    rw [foW_s]
    by_cases h : r ≤ 0
    · rw [if_pos h, foA_y h]
      exact ⟨w, hr⟩
    · rw [if_neg h, foA_n h]
      rw [lsA_n h] at hl
      have hp : ¬ ptA A (N' d) (rm3 r) = m2 := fun e => hl (by rw [e, lsA_m2])
      obtain ⟨j, hj, ej, hz⟩ := hr.2 d (Nat.le_refl _)
      obtain ⟨h0, hw⟩ := rm_12 hp
      obtain ⟨c', hc', e1, e2, e3⟩ : ∃ c', c' < 2 ∧ rm3 r = nI (c' + 1) ∧ rm3 r - Int32.ofInt 1 = nI c' ∧ ptA A (N' d) (rm3 r) = wyA A (N' d) (nI c') := by
        rcases hw with ⟨a, b⟩ | ⟨a, b⟩
        · refine ⟨0, by decide, a, by rw [a]; decide, b.trans ?_⟩
          unfold wyA
          rw [if_pos (show nI 0 = 0 from rfl)]
        · refine ⟨1, by decide, a, by rw [a]; decide, b.trans ?_⟩
          unfold wyA
          rw [if_neg (show ¬ nI 1 = 0 by decide)]
      rcases sd_ok hu hT hN ht hr w hc' with ⟨_, q⟩ | ⟨a, ha, q1, q2, h40, w', hr'⟩
      · exact absurd (e3.trans q) hp
      · show wkR A (foW (nI u) (P 4) (P 5) c (r / Int32.ofInt 3) (sdW (nI u) (P 4) (P 5) (rm3 r) (d, N, D))) _ ∧ _
        rw [e2, e1]
        rw [e3] at hl
        have et : (sdA A (nI c') (d, N', D')).2.1 (sdA A (nI c') (d, N', D')).1 = wyA A (N' d) (nI c') := by
          unfold sdA
          rw [if_neg (show ¬ wyA A ((d, N', D').2.1 (d, N', D').1) (nI c') < 0 from by rw [show wyA A ((d, N', D').2.1 (d, N', D').1) (nI c') = nI a from q2]; exact nI_pos (by omega))]
          exact upd_self _ _ _
        rw [← et] at hl
        have e0 : (sdA A (nI c') (d, N', D')).1 = (sdW (nI u) (P 4) (P 5) (nI (c' + 1)) (d, N, D)).1 := w'.1.symm
        have hrec := fo_ok hu hT hN ht c (r / Int32.ofInt 3) (sdA A (nI c') (d, N', D')).1 (sdW (nI u) (P 4) (P 5) (nI (c' + 1)) (d, N, D)).2.1 (sdW (nI u) (P 4) (P 5) (nI (c' + 1)) (d, N, D)).2.2 (sdA A (nI c') (d, N', D')).2.1 (sdA A (nI c') (d, N', D')).2.2 hr' (by rw [e0]; exact ⟨rfl, w'.2.1, w'.2.2⟩) hl
        rw [show ((sdA A (nI c') (d, N', D')).1, (sdW (nI u) (P 4) (P 5) (nI (c' + 1)) (d, N, D)).2.1, (sdW (nI u) (P 4) (P 5) (nI (c' + 1)) (d, N, D)).2.2) = sdW (nI u) (P 4) (P 5) (nI (c' + 1)) (d, N, D) from by rw [e0]] at hrec
        exact hrec
theorem an_same {A : Nat → Nat → Int32} {d : Nat} {N D N' D' : Nat → Int32} (w : wkR A (d, N, D) (d, N', D')) : ∀ (k : Nat) (t : Int32), k ≤ d → anW D k t = anA D' k t
  | 0, _, _ => rfl
  | k + 1, t, hk => by
    have e : D (k + 1) = D' (k + 1) + Int32.ofInt 1 := by
      rcases w.2.2 k (show k < d by omega) with ⟨q1, q2, _⟩ | ⟨q1, q2, _⟩
      · have q1 : D' (k + 1) = nI 0 := q1
        have q2 : D (k + 1) = nI 1 := q2
        rw [q1, q2]
        decide
      · have q1 : D' (k + 1) = nI 1 := q1
        have q2 : D (k + 1) = nI 2 := q2
        rw [q1, q2]
        decide
    show anW D k (t * Int32.ofInt 3 + D (k + 1)) = anA D' k (Int32.ofInt 3 * t + D' (k + 1) + Int32.ofInt 1)
    rw [e, Int32.mul_comm, ← Int32.add_assoc]
    exact an_same w k _ (by omega)
