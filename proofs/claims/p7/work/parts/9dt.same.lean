/-! the same state on both sides -/
def SS (u h : Nat) (O : Nat → Int32) (P : Nat → Nat → Int32) (o : Nat → Int32) (A : Nat → Nat → Int32) : Prop := O 1 = nI u ∧ o 0 = nI u ∧ NR u P A ∧ O 9 = nI h ∧ o 10 = nI h ∧ (∀ i, i < h → P 32 i = A 8 i) ∧ O 13 = o 30 ∧ (O 13 = 1 → P 56 0 = A 20 0) ∧ kp0 A
/-- what a call leaves as it was -/
def cE (O : Nat → Int32) (P : Nat → Nat → Int32) (O' : Nat → Int32) (P' : Nat → Nat → Int32) : Prop := O' 1 = O 1 ∧ O' 9 = O 9 ∧ O' 13 = O 13 ∧ (∀ i, 2 ≤ i → i ≤ 11 → P' i = P i) ∧ P' 32 = P 32 ∧ (O 13 = 1 → P' 56 0 = P 56 0)
def mE (u : Nat) (o : Nat → Int32) (A : Nat → Nat → Int32) (o' : Nat → Int32) (A' : Nat → Nat → Int32) : Prop := o' 0 = o 0 ∧ o' 10 = o 10 ∧ o' 30 = o 30 ∧ (∀ r i, r < 5 → i < u → A' r i = A r i) ∧ A' 8 = A 8 ∧ (o 30 = 1 → A' 20 0 = A 20 0) ∧ A' 7 = A 7
theorem cE_id (O : Nat → Int32) (P : Nat → Nat → Int32) : cE O P O P := ⟨rfl, rfl, rfl, fun _ _ _ => rfl, rfl, fun _ => rfl⟩
theorem mE_id (u : Nat) (o : Nat → Int32) (A : Nat → Nat → Int32) : mE u o A o A := ⟨rfl, rfl, rfl, fun _ _ _ _ => rfl, rfl, fun _ => rfl, rfl⟩
theorem SS_fr {u h : Nat} {O O' : Nat → Int32} {P P' : Nat → Nat → Int32} {o o' : Nat → Int32} {A A' : Nat → Nat → Int32} (hu : u ≤ 120) (s : SS u h O P o A) (c : cE O P O' P') (m : mE u o A o' A') : SS u h O' P' o' A' := by
  obtain ⟨s1, s2, s3, s4, s5, s6, s7, s8, s9⟩ := s
  obtain ⟨c1, c2, c3, c4, c5, c6⟩ := c
  obtain ⟨m1', m2', m3, m4, m5, m6, m7⟩ := m
  refine ⟨c1.trans s1, m1'.trans s2, NR_fr hu s3 (fun i h1 h2 _ j _ => by rw [c4 i h1 h2]) (fun r hr j hj => m4 r j hr hj), c2.trans s4, m2'.trans s5, fun i hi => by rw [c5, m5]; exact s6 i hi, by rw [c3, m3]; exact s7, fun e => ?_, kp0_r s9 m7⟩
  rw [c3] at e
  rw [c6 e, m6 (by rw [← s7]; exact e)]
  exact s8 e
/-- NODES come to both, or go -/
theorem SS_page {u u' h : Nat} {O : Nat → Int32} {P P' : Nat → Nat → Int32} {o : Nat → Int32} {A A' : Nat → Nat → Int32} (s : SS u h O P o A) (n : NR u' P' A') (c : ∀ i, ¬ (1 < i ∧ i ≤ 13) → P' i = P i) (m : ∀ r, 6 ≤ r → A' r = A r) : SS u' h (upd O 1 (nI u')) P' (upd o 0 (nI u')) A' := by
  obtain ⟨s1, s2, s3, s4, s5, s6, s7, s8, s9⟩ := s
  exact ⟨upd_self _ _ _, upd_self _ _ _, n, s4, s5, fun i hi => by rw [c 32 (by omega), m 8 (by decide)]; exact s6 i hi, s7, fun e => by rw [c 56 (by omega), m 20 (by decide)]; exact s8 e, kp0_r s9 (m 7 (by decide))⟩
/-- THE EAR of both -/
theorem SS_ear {u h h' : Nat} {O O' : Nat → Int32} {P P' : Nat → Nat → Int32} {o o' : Nat → Int32} {A A' : Nat → Nat → Int32} (hu : u ≤ 120) (s : SS u h O P o A) (c1 : O' 1 = O 1) (c3 : O' 13 = O 13) (c4 : ∀ i, 2 ≤ i → i ≤ 11 → P' i = P i) (c5 : P' 56 = P 56) (m1 : o' 0 = o 0) (m3 : o' 30 = o 30) (m4 : ∀ r, r < 5 → A' r = A r) (m5 : A' 20 = A 20) (m6 : A' 7 = A 7) (e9 : O' 9 = nI h') (e10 : o' 10 = nI h') (e : ∀ i, i < h' → P' 32 i = A' 8 i) : SS u h' O' P' o' A' := by
  obtain ⟨s1, s2, s3, s4, s5, s6, s7, s8, s9⟩ := s
  refine ⟨c1.trans s1, m1.trans s2, NR_fr hu s3 (fun i h1 h2 _ j _ => by rw [c4 i h1 h2]) (fun r hr j hj => by rw [m4 r hr]), e9, e10, e, by rw [c3, m3]; exact s7, fun w => ?_, kp0_r s9 m6⟩
  rw [c3] at w
  rw [c5, m5]
  exact s8 w
theorem cvI_pos {x : Int32} (h : 0 ≤ x.toInt) : cvI x = x := if_neg (fun e => by
  rw [e] at h
  exact absurd h (by decide))
theorem leaf_NR {u : Nat} (hu : u < 120) {P A : Nat → Nat → Int32} (n : NR u P A) {k v sh : Int32} (g : lfG k v) : NR (u + 1) (stC 1 P u k v m1 m1 sh) (setsA A u k v m2 m2) := by
  have hv : 0 ≤ v.toInt := by
    rcases g with g | g <;> exact g.2.1
  have := NR_st (k := k) (v := v) (x := m2) (y := m2) (sh := sh) hu n (Or.inl rfl) (Or.inl rfl)
  rwa [cvI_m2, cvI_pos hv] at this
theorem isN_n {u : Nat} {x : Int32} (hu : u ≤ 120) (h : isN u x) : ∃ a, a < u ∧ x = nI a := ⟨x.toInt.toNat, by have := h.1; have := h.2; omega, by
  have h1 := h.1
  have h2 := h.2
  rw [← Int32.toInt_inj, nI_toInt (by omega)]
  omega⟩
theorem node_NR {u : Nat} (hu : u < 120) {P A : Nat → Nat → Int32} (n : NR u P A) {k x y sh : Int32} (g : ndG u k x y) : NR (u + 1) (stC 1 P u k (ndv m1 k y) x (ndy m1 k y) sh) (setsA A u k (ndv m2 k y) x (ndy m2 k y)) := by
  obtain ⟨a, ha, ex⟩ := isN_n (by omega) (show isN u x from g.2.1)
  have hy : ndy m2 k y = m2 ∨ ∃ a, a < u ∧ ndy m2 k y = nI a := by
    unfold ndy
    split
    · rename_i q
      obtain ⟨b, hb, ey⟩ := isN_n (by omega) (show isN u y from g.2.2.1 q)
      exact Or.inr ⟨b, hb, ey⟩
    · exact Or.inl rfl
  have := NR_st (k := k) (v := ndv m2 k y) (x := x) (y := ndy m2 k y) (sh := sh) hu n (Or.inr ⟨a, ha, ex⟩) hy
  have e1 : cvI (ndv m2 k y) = ndv m1 k y := by
    unfold ndv
    split
    · rename_i q
      exact cvI_pos (g.2.2.2 q).1
    · exact cvI_m2
  have e2 : cvI x = x := cvI_pos g.2.1.1
  have e3 : cvI (ndy m2 k y) = ndy m1 k y := by
    unfold ndy
    split
    · rename_i q
      exact cvI_pos (g.2.2.1 q).1
    · exact cvI_m2
  rwa [e1, e2, e3] at this
/-- the same words heard on both sides -/
theorem has_eq {g g' : Nat → Int32} {ws : List Int32} (h : hasW g ws) (h' : hasW g' ws) : ∀ i, i < ws.length → g i = g' i := fun i hi => by
  have := List.getElem?_eq_getElem hi
  rw [h i _ this, h' i _ this]
theorem kp_hb {P A : Nat → Nat → Int32} (h : kpR P A) {s : Nat} (hs : s < 8) : ∀ k, k < 10 → (hbW (P 75 s) (nI k) = 0 ↔ A 7 (10 * s + k) = 0) := fun k hk => by
  obtain ⟨m, hm, e, hb⟩ := h s hs
  rw [e, hb_bt m hm k hk, hb k hk]
/-- a NODE is said in a style with the same words -/
theorem sy_same {u : Nat} (hu : u ≤ 120) {O : Nat → Int32} {P A : Nat → Nat → Int32} (h1 : O 1 = nI u) (hT : tbI 0 u A) (hN : NR u P A) (hk : kpR P A) {s n : Nat} (hs : s < 8) (hn : n < u) : syL O P s n = wdW A s 40 (nI n) := by
  obtain ⟨k, hk9, h0⟩ := rN_kd (hT n (Nat.zero_le _) hn)
  have := tl_wd hu hT hN (kp_hb hk hs) 40 (nI n) (pt_of hT (Nat.zero_le _) hn) (hbW (P 75 s) (P 2 n)) (by rw [kpI_n (by omega) hk9 h0, (hN n hn).1, h0]; exact kp_hb hk hs k hk9)
  rw [cvI_nI (by omega)] at this
  show tlW (O 1) (P 75 s) (Int32.ofInt 0) P 41 (nI n) (hbW (P 75 s) (P 2 n)) = _
  rw [h1]
  exact this
/-- listen -/
theorem listen_ok {u h : Nat} (hu : u ≤ 120) (hh : h ≤ 20) {O O' : Nat → Int32} {P P' : Nat → Nat → Int32} {o o' : Nat → Int32} {A A' : Nat → Nat → Int32} {x y R R' : Int32} (s : SS u h O P o A) (hT : tbI 0 u A) (hk : kpR P A) (c : spV O P O' P') (m : eX o A o' A') (g : clR O P u x y O' P' R) (g' : mlR o A u x y o' A' R') : R = R' ∧ ∃ h', h' ≤ 20 ∧ SS u h' O' P' o' A' := by
  have fr : ∀ h', O' 9 = nI h' → o' 10 = nI h' → (∀ i, i < h' → P' 32 i = A' 8 i) → SS u h' O' P' o' A' := fun h' e9 e10 e => SS_ear hu s (c.1 1 (by decide)) (c.1 13 (by decide)) (fun i h1 h2 => c.2 i (by omega) (by omega) (by omega)) (c.2 56 (by decide) (by decide) (by decide)) (m.2.1 0 (by decide) (by decide)) (m.2.1 30 (by decide) (by decide)) (fun r hr => m.2.2 r (by omega) (by omega) (by omega)) (m.2.2 20 (by decide) (by decide) (by decide)) (m.2.2 7 (by decide) (by decide) (by decide)) e9 e10 e
  have same : sameE O P O' P' → sameM o A o' A' → ∃ h', h' ≤ 20 ∧ SS u h' O' P' o' A' := fun a b => ⟨h, hh, fr h (a.1.trans s.2.2.2.1) (b.1.trans s.2.2.2.2.1) (fun i hi => by rw [a.2, b.2]; exact s.2.2.2.2.2.1 i hi)⟩
  rcases g with ⟨r, q, e⟩ | ⟨sy, n, hs, hn, ex, ey, g⟩
  · rcases g' with ⟨r', _, e'⟩ | ⟨s', n', hs', hn', ex', ey', _⟩
    · exact ⟨r.trans r'.symm, same e e'⟩
    · exact absurd ⟨by rw [ex', nI_toInt (by omega)]; omega, by rw [ey', nI_toInt (by omega)]; omega, by rw [ey', nI_toInt (by omega)]; omega⟩ q
  · rcases g' with ⟨_, q, _⟩ | ⟨s', n', hs', hn', ex', ey', g'⟩
    · exact absurd ⟨by rw [ex, nI_toInt (by omega)]; omega, by rw [ey, nI_toInt (by omega)]; omega, by rw [ey, nI_toInt (by omega)]; omega⟩ q
    · have e1 : sy = s' := (nI_eq (by omega) (by omega)).mp (ex.symm.trans ex')
      have e2 : n = n' := (nI_eq (by omega) (by omega)).mp (ey.symm.trans ey')
      subst e1 e2
      rw [sy_same hu s.1 hT s.2.2.1 hk hs hn] at g
      rcases g with ⟨r, q, e⟩ | ⟨q, g⟩
      · rcases g' with ⟨r', _, e'⟩ | ⟨q', _⟩
        · exact ⟨r.trans r'.symm, same e e'⟩
        · omega
      · rcases g' with ⟨_, q', _⟩ | ⟨_, g'⟩
        · omega
        · rcases g with ⟨w, r, e⟩ | ⟨w, r, e9, hp⟩
          · rcases g' with ⟨_, r', e'⟩ | ⟨w', _⟩
            · exact ⟨r.trans r'.symm, same e e'⟩
            · omega
          · rcases g' with ⟨w', _⟩ | ⟨_, r', e10, hm⟩
            · omega
            · exact ⟨r.trans r'.symm, _, w, fr _ e9 e10 (has_eq hp hm)⟩
/-- fewest -/
theorem fewest_ok {u h : Nat} (hu : u ≤ 120) (hh : h ≤ 20) {O O' : Nat → Int32} {P P' : Nat → Nat → Int32} {o o' : Nat → Int32} {A A' : Nat → Nat → Int32} {x R R' : Int32} (s : SS u h O P o A) (hT : tbI 0 u A) (hf : fnR O A) (c : spV O P O' P') (m : fwX o A o' A') (g : cfR O P u x O' P' R) (g' : fwR A u h x o' A' R' (o' = o ∧ A' = A)) : R = R' ∧ ∃ h', h' ≤ 20 ∧ SS u h' O' P' o' A' := by
  obtain ⟨fm, hm, e0, hb⟩ := hf
  have fr : ∀ h', O' 9 = nI h' → o' 10 = nI h' → (∀ i, i < h' → P' 32 i = A' 8 i) → SS u h' O' P' o' A' := fun h' e9 e10 e => SS_ear hu s (c.1 1 (by decide)) (c.1 13 (by decide)) (fun i h1 h2 => c.2 i (by omega) (by omega) (by omega)) (c.2 56 (by decide) (by decide) (by decide)) (m.2.1 0 (by decide) (by decide) (by decide)) (m.2.1 30 (by decide) (by decide) (by decide)) (fun r hr => m.2.2 r (by omega) (by omega) (by omega)) (m.2.2 20 (by decide) (by decide) (by decide)) (m.2.2 7 (by decide) (by decide) (by decide)) e9 e10 e
  have same : sameE O P O' P' → (o' = o ∧ A' = A) → ∃ h', h' ≤ 20 ∧ SS u h' O' P' o' A' := fun a b => ⟨h, hh, fr h (a.1.trans s.2.2.2.1) (by rw [b.1]; exact s.2.2.2.2.1) (fun i hi => by rw [a.2, b.2]; exact s.2.2.2.2.2.1 i hi)⟩
  rcases g with ⟨r, q, e⟩ | ⟨n, hn, ex, g⟩
  · rcases g' with ⟨r', _, e'⟩ | ⟨n', hn', ex', _⟩
    · exact ⟨r.trans r'.symm, same e e'⟩
    · exact absurd ⟨by rw [ex', nI_toInt (by omega)]; omega, by rw [ex', nI_toInt (by omega)]; omega⟩ q
  · rcases g' with ⟨_, q, _⟩ | ⟨n', hn', ex', g'⟩
    · exact absurd ⟨by rw [ex, nI_toInt (by omega)]; omega, by rw [ex, nI_toInt (by omega)]; omega⟩ q
    · have e2 : n = n' := (nI_eq (by omega) (by omega)).mp (ex.symm.trans ex')
      subst e2
      have hp := pt_of hT (Nat.zero_le _) hn
      have rt := rt_bits hu hT s.2.2.1 hm hb 40 (nI n) hp
      rw [cvI_nI (by omega), pvI_nI _ (by omega), pvI_nI _ (by omega), ← e0] at rt
      have kb := ch_kb hu hT s.2.2.1 40 (nI n) hp
      rw [cvI_nI (by omega), pvI_nI _ (by omega)] at kb
      have kl := kbW_le (by omega) hT 40 n hn (rN_sz (hT n (Nat.zero_le _) hn)).2.1
      have sz := (rN_sz (hT n (Nat.zero_le _) hn)).2.1
      have k8 : P 9 n ≤ c8 8 ↔ kbW A 40 (nI n) ≤ 8 := by
        rw [kb]
        exact nI_leI (b := 8) (by omega) (by decide)
      rw [rt, k8] at g
      rcases g with ⟨r, q, e⟩ | ⟨q, g⟩
      · rcases g' with ⟨r', _, e'⟩ | ⟨q', _⟩
        · exact ⟨r.trans r'.symm, same e e'⟩
        · exact absurd q' q
      · rcases g' with ⟨_, q', _⟩ | ⟨_, g'⟩
        · exact absurd q q'
        · rcases g with ⟨r, w, e⟩ | ⟨w, g⟩
          · rcases g' with ⟨r', _, e'⟩ | ⟨w', _⟩
            · exact ⟨r.trans r'.symm, same e e'⟩
            · exact absurd w' w
          · rcases g' with ⟨_, w', _⟩ | ⟨_, g'⟩
            · omega
            · have f := few_same hu hT s.2.2.1 hn w (kk := O 4) g'
              have eL : spL O P n = tlW (nI u) (O 4) (Int32.ofInt 1) P 41 (nI n) (Int32.ofInt 0) := by
                show tlW (O 1) (O 4) (Int32.ofInt 1) P 41 (nI n) (Int32.ofInt 0) = _
                rw [s.1]
              rw [eL] at g
              rcases g with ⟨v, r, e⟩ | ⟨v, r, e9, hp9⟩
              · rcases f with ⟨v', _⟩ | ⟨_, r', e10, e8⟩
                · omega
                · exact ⟨r.trans r'.symm, h, hh, fr h (e.1.trans s.2.2.2.1) e10 (fun i hi => by rw [e.2, e8 i hi]; exact s.2.2.2.2.2.1 i hi)⟩
              · rcases f with ⟨_, r', e10, h8⟩ | ⟨v', _⟩
                · exact ⟨r.trans r'.symm, _, v, fr _ e9 e10 (has_eq hp9 h8)⟩
                · omega
