section
/-! the same state on both sides -/
def SS (u h : Nat) (O : Nat → Int32) (P : Nat → Nat → Int32) (o : Nat → Int32) (A : Nat → Nat → Int32) : Prop := O 1 = nI u ∧ o 0 = nI u ∧ NR u P A ∧ O 9 = nI h ∧ o 10 = nI h ∧ (∀ i, i < h → P 32 i = A 8 i) ∧ O 13 = o 30 ∧ (O 13 = 1 → P 56 0 = A 20 0) ∧ kp0 A
/-- what a call leaves as it was -/
def cE (O : Nat → Int32) (P : Nat → Nat → Int32) (O' : Nat → Int32) (P' : Nat → Nat → Int32) : Prop := O' 1 = O 1 ∧ O' 9 = O 9 ∧ O' 13 = O 13 ∧ (∀ i, 2 ≤ i → i ≤ 11 → P' i = P i) ∧ P' 32 = P 32 ∧ (O 13 = 1 → P' 56 0 = P 56 0)
def mE (u : Nat) (o : Nat → Int32) (A : Nat → Nat → Int32) (o' : Nat → Int32) (A' : Nat → Nat → Int32) : Prop := o' 0 = o 0 ∧ o' 10 = o 10 ∧ o' 30 = o 30 ∧ (∀ r i, r < 5 → i < u → A' r i = A r i) ∧ A' 8 = A 8 ∧ (o 30 = 1 → A' 20 0 = A 20 0) ∧ A' 7 = A 7
theorem cE_id (O : Nat → Int32) (P : Nat → Nat → Int32) : cE O P O P := ⟨rfl, rfl, rfl, fun _ _ _ => rfl, rfl, fun _ => rfl⟩
theorem mE_id (u : Nat) (o : Nat → Int32) (A : Nat → Nat → Int32) : mE u o A o A := ⟨rfl, rfl, rfl, fun _ _ _ _ => rfl, rfl, fun _ => rfl, rfl⟩
theorem SS_fr {u h : Nat} {O O' : Nat → Int32} {P P' : Nat → Nat → Int32} {o o' : Nat → Int32} {A A' : Nat → Nat → Int32} (hu : u ≤ 120) (s : SS u h O P o A) (c : cE O P O' P') (m : mE u o A o' A') : SS u h O' P' o' A' := by
  obtain ⟨s1, s2, s3, s4, s5, s6, s7, s8, s9⟩ := s
  obtain ⟨c1, c2, c3, c4, c5, c6⟩ := c
  obtain ⟨m1', m2', m3, m4, m5, m6, m7⟩ := m
  refine ⟨c1.trans s1, m1'.trans s2, NR_fr hu s3 (fun i h1 h2 _ j _ => by rw [c4 i h1 h2]) (fun r hr j hj => m4 r j hr hj), c2.trans s4, m2'.trans s5, fun i hi => by rw [c5, m5]; exact s6 i hi, by rw [c3, m3]; exact s7, fun e => ?_, kp0_r s9 m7⟩
  rw [c3] at e
  rw [c6 e, m6 (by rw [← s7]; exact e)]
  exact s8 e
/-- NODES come to both, or go -/
theorem SS_page {u u' h : Nat} {O : Nat → Int32} {P P' : Nat → Nat → Int32} {o : Nat → Int32} {A A' : Nat → Nat → Int32} (s : SS u h O P o A) (n : NR u' P' A') (c : ∀ i, ¬ (1 < i ∧ i ≤ 13) → P' i = P i) (m : ∀ r, 6 ≤ r → A' r = A r) : SS u' h (upd O 1 (nI u')) P' (upd o 0 (nI u')) A' := by
  obtain ⟨s1, s2, s3, s4, s5, s6, s7, s8, s9⟩ := s
  exact ⟨upd_self _ _ _, upd_self _ _ _, n, s4, s5, fun i hi => by rw [c 32 (by omega), m 8 (by decide)]; exact s6 i hi, s7, fun e => by rw [c 56 (by omega), m 20 (by decide)]; exact s8 e, kp0_r s9 (m 7 (by decide))⟩
/-- THE EAR of both -/
theorem SS_ear {u h h' : Nat} {O O' : Nat → Int32} {P P' : Nat → Nat → Int32} {o o' : Nat → Int32} {A A' : Nat → Nat → Int32} (hu : u ≤ 120) (s : SS u h O P o A) (c1 : O' 1 = O 1) (c3 : O' 13 = O 13) (c4 : ∀ i, 2 ≤ i → i ≤ 11 → P' i = P i) (c5 : P' 56 = P 56) (m1 : o' 0 = o 0) (m3 : o' 30 = o 30) (m4 : ∀ r, r < 5 → A' r = A r) (m5 : A' 20 = A 20) (m6 : A' 7 = A 7) (e9 : O' 9 = nI h') (e10 : o' 10 = nI h') (e : ∀ i, i < h' → P' 32 i = A' 8 i) : SS u h' O' P' o' A' := by
  obtain ⟨s1, s2, s3, s4, s5, s6, s7, s8, s9⟩ := s
  refine ⟨c1.trans s1, m1.trans s2, NR_fr hu s3 (fun i h1 h2 _ j _ => by rw [c4 i h1 h2]) (fun r hr j hj => by rw [m4 r hr]), e9, e10, e, by rw [c3, m3]; exact s7, fun w => ?_, kp0_r s9 m6⟩
  rw [c3] at w
  rw [c5, m5]
  exact s8 w
theorem cvI_pos {x : Int32} (h : 0 ≤ x.toInt) : cvI x = x := if_neg (fun e => by
  rw [e] at h
  exact absurd h (by decide))
theorem leaf_NR {u : Nat} (hu : u < 120) {P A : Nat → Nat → Int32} (n : NR u P A) {k v sh : Int32} (g : lfG k v) : NR (u + 1) (stC 1 P u k v m1 m1 sh) (setsA A u k v m2 m2) := by
  have hv : 0 ≤ v.toInt := by
    rcases g with g | g <;> exact g.2.1
  have := NR_st (k := k) (v := v) (x := m2) (y := m2) (sh := sh) hu n (Or.inl rfl) (Or.inl rfl)
  rwa [cvI_m2, cvI_pos hv] at this
theorem isN_n {u : Nat} {x : Int32} (hu : u ≤ 120) (h : isN u x) : ∃ a, a < u ∧ x = nI a := ⟨x.toInt.toNat, by have := h.1; have := h.2; omega, by
  have h1 := h.1
  have h2 := h.2
  rw [← Int32.toInt_inj, nI_toInt (by omega)]
  omega⟩
theorem node_NR {u : Nat} (hu : u < 120) {P A : Nat → Nat → Int32} (n : NR u P A) {k x y sh : Int32} (g : ndG u k x y) : NR (u + 1) (stC 1 P u k (ndv m1 k y) x (ndy m1 k y) sh) (setsA A u k (ndv m2 k y) x (ndy m2 k y)) := by
  obtain ⟨a, ha, ex⟩ := isN_n (by omega) (show isN u x from g.2.1)
  have hy : ndy m2 k y = m2 ∨ ∃ a, a < u ∧ ndy m2 k y = nI a := by
    unfold ndy
    split
    · rename_i q
      obtain ⟨b, hb, ey⟩ := isN_n (by omega) (show isN u y from g.2.2.1 q)
      exact Or.inr ⟨b, hb, ey⟩
    · exact Or.inl rfl
  have := NR_st (k := k) (v := ndv m2 k y) (x := x) (y := ndy m2 k y) (sh := sh) hu n (Or.inr ⟨a, ha, ex⟩) hy
  have e1 : cvI (ndv m2 k y) = ndv m1 k y := by
    unfold ndv
    split
    · rename_i q
      exact cvI_pos (g.2.2.2 q).1
    · exact cvI_m2
  have e2 : cvI x = x := cvI_pos g.2.1.1
  have e3 : cvI (ndy m2 k y) = ndy m1 k y := by
    unfold ndy
    split
    · rename_i q
      exact cvI_pos (g.2.2.1 q).1
    · exact cvI_m2
  rwa [e1, e2, e3] at this
/-- the same words heard on both sides -/
theorem has_eq {g g' : Nat → Int32} {ws : List Int32} (h : hasW g ws) (h' : hasW g' ws) : ∀ i, i < ws.length → g i = g' i := fun i hi => by
  have := List.getElem?_eq_getElem hi
  rw [h i _ this, h' i _ this]
theorem kp_hb {P A : Nat → Nat → Int32} (h : kpR P A) {s : Nat} (hs : s < 8) : ∀ k, k < 10 → (hbW (P 75 s) (nI k) = 0 ↔ A 7 (10 * s + k) = 0) := fun k hk => by
  obtain ⟨m, hm, e, hb⟩ := h s hs
  rw [e, hb_bt m hm k hk, hb k hk]
/-- a NODE is said in a style with the same words -/
theorem sy_same {u : Nat} (hu : u ≤ 120) {O : Nat → Int32} {P A : Nat → Nat → Int32} (h1 : O 1 = nI u) (hT : tbI 0 u A) (hN : NR u P A) (hk : kpR P A) {s n : Nat} (hs : s < 8) (hn : n < u) : syL O P s n = wdW A s 40 (nI n) := by
  obtain ⟨k, hk9, h0⟩ := rN_kd (hT n (Nat.zero_le _) hn)
  have := tl_wd hu hT hN (kp_hb hk hs) 40 (nI n) (pt_of hT (Nat.zero_le _) hn) (hbW (P 75 s) (P 2 n)) (by rw [kpI_n (by omega) hk9 h0, (hN n hn).1, h0]; exact kp_hb hk hs k hk9)
  rw [cvI_nI (by omega)] at this
  show tlW (O 1) (P 75 s) (Int32.ofInt 0) P 41 (nI n) (hbW (P 75 s) (P 2 n)) = _
  rw [h1]
  exact this
/-- listen -/
theorem listen_ok {u h : Nat} (hu : u ≤ 120) (hh : h ≤ 20) {O O' : Nat → Int32} {P P' : Nat → Nat → Int32} {o o' : Nat → Int32} {A A' : Nat → Nat → Int32} {x y R R' : Int32} (s : SS u h O P o A) (hT : tbI 0 u A) (hk : kpR P A) (c : spV O P O' P') (m : eX o A o' A') (g : clR O P u x y O' P' R) (g' : mlR o A u x y o' A' R') : R = R' ∧ ∃ h', h' ≤ 20 ∧ SS u h' O' P' o' A' := by
  have fr : ∀ h', O' 9 = nI h' → o' 10 = nI h' → (∀ i, i < h' → P' 32 i = A' 8 i) → SS u h' O' P' o' A' := fun h' e9 e10 e => SS_ear hu s (c.1 1 (by decide)) (c.1 13 (by decide)) (fun i h1 h2 => c.2 i (by omega) (by omega) (by omega)) (c.2 56 (by decide) (by decide) (by decide)) (m.2.1 0 (by decide) (by decide)) (m.2.1 30 (by decide) (by decide)) (fun r hr => m.2.2 r (by omega) (by omega) (by omega)) (m.2.2 20 (by decide) (by decide) (by decide)) (m.2.2 7 (by decide) (by decide) (by decide)) e9 e10 e
  have same : sameE O P O' P' → sameM o A o' A' → ∃ h', h' ≤ 20 ∧ SS u h' O' P' o' A' := fun a b => ⟨h, hh, fr h (a.1.trans s.2.2.2.1) (b.1.trans s.2.2.2.2.1) (fun i hi => by rw [a.2, b.2]; exact s.2.2.2.2.2.1 i hi)⟩
  rcases g with ⟨r, q, e⟩ | ⟨sy, n, hs, hn, ex, ey, g⟩
  · rcases g' with ⟨r', _, e'⟩ | ⟨s', n', hs', hn', ex', ey', _⟩
    · exact ⟨r.trans r'.symm, same e e'⟩
    · exact absurd ⟨by rw [ex', nI_toInt (by omega)]; omega, by rw [ey', nI_toInt (by omega)]; omega, by rw [ey', nI_toInt (by omega)]; omega⟩ q
  · rcases g' with ⟨_, q, _⟩ | ⟨s', n', hs', hn', ex', ey', g'⟩
    · exact absurd ⟨by rw [ex, nI_toInt (by omega)]; omega, by rw [ey, nI_toInt (by omega)]; omega, by rw [ey, nI_toInt (by omega)]; omega⟩ q
    · have e1 : sy = s' := (nI_eq (by omega) (by omega)).mp (ex.symm.trans ex')
      have e2 : n = n' := (nI_eq (by omega) (by omega)).mp (ey.symm.trans ey')
      subst e1 e2
      rw [sy_same hu s.1 hT s.2.2.1 hk hs hn] at g
      rcases g with ⟨r, q, e⟩ | ⟨q, g⟩
      · rcases g' with ⟨r', _, e'⟩ | ⟨q', _⟩
        · exact ⟨r.trans r'.symm, same e e'⟩
        · omega
      · rcases g' with ⟨_, q', _⟩ | ⟨_, g'⟩
        · omega
        · rcases g with ⟨w, r, e⟩ | ⟨w, r, e9, hp⟩
          · rcases g' with ⟨_, r', e'⟩ | ⟨w', _⟩
            · exact ⟨r.trans r'.symm, same e e'⟩
            · omega
          · rcases g' with ⟨w', _⟩ | ⟨_, r', e10, hm⟩
            · omega
            · exact ⟨r.trans r'.symm, _, w, fr _ e9 e10 (has_eq hp hm)⟩
/-- fewest -/
theorem fewest_ok {u h : Nat} (hu : u ≤ 120) (hh : h ≤ 20) {O O' : Nat → Int32} {P P' : Nat → Nat → Int32} {o o' : Nat → Int32} {A A' : Nat → Nat → Int32} {x R R' : Int32} (s : SS u h O P o A) (hT : tbI 0 u A) (hf : fnR O A) (c : spV O P O' P') (m : fwX o A o' A') (g : cfR O P u x O' P' R) (g' : fwR A u h x o' A' R' (o' = o ∧ A' = A)) : R = R' ∧ ∃ h', h' ≤ 20 ∧ SS u h' O' P' o' A' := by
  obtain ⟨fm, hm, e0, hb⟩ := hf
  have fr : ∀ h', O' 9 = nI h' → o' 10 = nI h' → (∀ i, i < h' → P' 32 i = A' 8 i) → SS u h' O' P' o' A' := fun h' e9 e10 e => SS_ear hu s (c.1 1 (by decide)) (c.1 13 (by decide)) (fun i h1 h2 => c.2 i (by omega) (by omega) (by omega)) (c.2 56 (by decide) (by decide) (by decide)) (m.2.1 0 (by decide) (by decide) (by decide)) (m.2.1 30 (by decide) (by decide) (by decide)) (fun r hr => m.2.2 r (by omega) (by omega) (by omega)) (m.2.2 20 (by decide) (by decide) (by decide)) (m.2.2 7 (by decide) (by decide) (by decide)) e9 e10 e
  have same : sameE O P O' P' → (o' = o ∧ A' = A) → ∃ h', h' ≤ 20 ∧ SS u h' O' P' o' A' := fun a b => ⟨h, hh, fr h (a.1.trans s.2.2.2.1) (by rw [b.1]; exact s.2.2.2.2.1) (fun i hi => by rw [a.2, b.2]; exact s.2.2.2.2.2.1 i hi)⟩
  rcases g with ⟨r, q, e⟩ | ⟨n, hn, ex, g⟩
  · rcases g' with ⟨r', _, e'⟩ | ⟨n', hn', ex', _⟩
    · exact ⟨r.trans r'.symm, same e e'⟩
    · exact absurd ⟨by rw [ex', nI_toInt (by omega)]; omega, by rw [ex', nI_toInt (by omega)]; omega⟩ q
  · rcases g' with ⟨_, q, _⟩ | ⟨n', hn', ex', g'⟩
    · exact absurd ⟨by rw [ex, nI_toInt (by omega)]; omega, by rw [ex, nI_toInt (by omega)]; omega⟩ q
    · have e2 : n = n' := (nI_eq (by omega) (by omega)).mp (ex.symm.trans ex')
      subst e2
      have hp := pt_of hT (Nat.zero_le _) hn
      have rt := rt_bits hu hT s.2.2.1 hm hb 40 (nI n) hp
      rw [cvI_nI (by omega), pvI_nI _ (by omega), pvI_nI _ (by omega), ← e0] at rt
      have kb := ch_kb hu hT s.2.2.1 40 (nI n) hp
      rw [cvI_nI (by omega), pvI_nI _ (by omega)] at kb
      have kl := kbW_le (by omega) hT 40 n hn (rN_sz (hT n (Nat.zero_le _) hn)).2.1
      have sz := (rN_sz (hT n (Nat.zero_le _) hn)).2.1
      have k8 : P 9 n ≤ c8 8 ↔ kbW A 40 (nI n) ≤ 8 := by
        rw [kb]
        exact nI_leI (b := 8) (by omega) (by decide)
      rw [rt, k8] at g
      rcases g with ⟨r, q, e⟩ | ⟨q, g⟩
      · rcases g' with ⟨r', _, e'⟩ | ⟨q', _⟩
        · exact ⟨r.trans r'.symm, same e e'⟩
        · exact absurd q' q
      · rcases g' with ⟨_, q', _⟩ | ⟨_, g'⟩
        · exact absurd q q'
        · rcases g with ⟨r, w, e⟩ | ⟨w, g⟩
          · rcases g' with ⟨r', _, e'⟩ | ⟨w', _⟩
            · exact ⟨r.trans r'.symm, same e e'⟩
            · exact absurd w' w
          · rcases g' with ⟨_, w', _⟩ | ⟨_, g'⟩
            · omega
            · have f := few_same hu hT s.2.2.1 hn w (kk := O 4) g'
              have eL : spL O P n = tlW (nI u) (O 4) (Int32.ofInt 1) P 41 (nI n) (Int32.ofInt 0) := by
                show tlW (O 1) (O 4) (Int32.ofInt 1) P 41 (nI n) (Int32.ofInt 0) = _
                rw [s.1]
              rw [eL] at g
              rcases g with ⟨v, r, e⟩ | ⟨v, r, e9, hp9⟩
              · rcases f with ⟨v', _⟩ | ⟨_, r', e10, e8⟩
                · omega
                · exact ⟨r.trans r'.symm, h, hh, fr h (e.1.trans s.2.2.2.1) e10 (fun i hi => by rw [e.2, e8 i hi]; exact s.2.2.2.2.2.1 i hi)⟩
              · rcases f with ⟨_, r', e10, h8⟩ | ⟨v', _⟩
                · exact ⟨r.trans r'.symm, _, v, fr _ e9 e10 (has_eq hp9 h8)⟩
                · omega
end
section
/-! hear, hush, leaf, node, undo, walk: the same state again -/
theorem SS_lv {u u' h : Nat} {O : Nat → Int32} {P : Nat → Nat → Int32} {o : Nat → Int32} {A : Nat → Nat → Int32} (s : SS u h O P o A) (hu : u' ≤ u) : SS u' h (upd O 1 (nI u')) P (upd o 0 (nI u')) A := SS_page s (NR_le s.2.2.1 hu) (fun _ _ => rfl) (fun _ _ => rfl)
/-- hush -/
theorem hush_ok {u h : Nat} (hu : u ≤ 120) {O : Nat → Int32} {P : Nat → Nat → Int32} {o : Nat → Int32} {A : Nat → Nat → Int32} (s : SS u h O P o A) : O 9 = o 10 ∧ SS u 0 (upd O 9 (Int32.ofInt 0)) P (upd o 10 (Int32.ofInt 0)) A :=
  ⟨s.2.2.2.1.trans s.2.2.2.2.1.symm, SS_ear hu s rfl rfl (fun _ _ _ => rfl) rfl rfl rfl (fun _ _ => rfl) rfl rfl rfl rfl (fun i hi => absurd hi (Nat.not_lt_zero i))⟩
theorem hear_st {u h n : Nat} (hu : u ≤ 120) {O : Nat → Int32} {P : Nat → Nat → Int32} {o : Nat → Int32} {A : Nat → Nat → Int32} (s : SS u h O P o A) (y : Int32) : SS u (h + n) (upd O 9 (nI (h + n))) (updA P 32 (heL y n (P 32) h)) (upd o 10 (nI (h + n))) (updA A 8 (heL y n (A 8) h)) :=
  SS_ear hu s rfl rfl (fun i h1 h2 => updA_ne _ _ (by omega)) rfl rfl rfl (fun r hr => updA_ne _ _ (by omega)) rfl rfl rfl rfl (fun i hi => by
    rw [updA_self, updA_self]
    exact heL_e y n _ _ h s.2.2.2.2.2.1 i hi)
theorem stC_ne1 (P : Nat → Nat → Int32) (u : Nat) (k v x y sh : Int32) {i : Nat} (h : ¬ (1 < i ∧ i ≤ 13)) : stC 1 P u k v x y sh i = P i := stC_o (by omega)
theorem sets_ne6 (A : Nat → Nat → Int32) (u : Nat) (k v x y : Int32) {r : Nat} (h : 6 ≤ r) : setsA A u k v x y r = A r := by
  show updA _ 5 _ r = _
  rw [updA_ne _ _ (by omega), updA_ne _ _ (by omega), updA_ne _ _ (by omega), updA_ne _ _ (by omega), updA_ne _ _ (by omega), updA_ne _ _ (by omega)]
/-- leaf -/
theorem leaf_ok {u h : Nat} (hu : u < 120) {O : Nat → Int32} {P : Nat → Nat → Int32} {o : Nat → Int32} {A : Nat → Nat → Int32} (s : SS u h O P o A) {k v : Int32} (sh : Int32) (g : lfG k v) : SS (u + 1) h (upd O 1 (nI (u + 1))) (stC 1 P u k v m1 m1 sh) (upd o 0 (nI (u + 1))) (setsA A u k v m2 m2) :=
  SS_page s (leaf_NR hu s.2.2.1 g) (fun _ q => stC_ne1 _ _ _ _ _ _ _ q) (fun _ q => sets_ne6 _ _ _ _ _ _ q)
theorem node_ok {u h : Nat} (hu : u < 120) {O : Nat → Int32} {P : Nat → Nat → Int32} {o : Nat → Int32} {A : Nat → Nat → Int32} (s : SS u h O P o A) {k x y : Int32} (sh : Int32) (g : ndG u k x y) : SS (u + 1) h (upd O 1 (nI (u + 1))) (stC 1 P u k (ndv m1 k y) x (ndy m1 k y) sh) (upd o 0 (nI (u + 1))) (setsA A u k (ndv m2 k y) x (ndy m2 k y)) :=
  SS_page s (node_NR hu s.2.2.1 g) (fun _ q => stC_ne1 _ _ _ _ _ _ _ q) (fun _ q => sets_ne6 _ _ _ _ _ _ q)
theorem nd_at {u : Nat} (hu : u ≤ 120) {P A : Nat → Nat → Int32} (n : NR u P A) {x : Int32} (h : isN u x) : P 6 x.toNatClampNeg = A 4 x.toNatClampNeg := by
  obtain ⟨a, ha, e⟩ := isN_n hu h
  have : x.toNatClampNeg = a := by
    show x.toInt.toNat = a
    rw [e, nI_toInt (by omega)]
    omega
  rw [this]
  exact (n a ha).2.2.2.2.1
theorem ndS_same {u : Nat} (hu : u ≤ 120) {P A : Nat → Nat → Int32} (n : NR u P A) {k x y : Int32} (g : ndG u k x y) : ndS (P 6) k x y = ndS (A 4) k x y := by
  unfold ndS
  rw [nd_at hu n g.2.1]
  split
  · rename_i q
    rw [nd_at hu n (g.2.2.1 q)]
  · rfl
/-- undo -/
theorem undo_same {u h : Nat} {O : Nat → Int32} {P : Nat → Nat → Int32} {o : Nat → Int32} {A : Nat → Nat → Int32} (s : SS u h O P o A) : (O 13 = 1 ∧ P 56 0 = nI (u - 1)) ↔ (o 30 = 1 ∧ A 20 0 = nI (u - 1)) := by
  have e := s.2.2.2.2.2.2.1
  have f := s.2.2.2.2.2.2.2.1
  constructor
  · rintro ⟨a, b⟩
    exact ⟨by rw [← e]; exact a, by rw [← f a]; exact b⟩
  · rintro ⟨a, b⟩
    have a' : O 13 = 1 := by rw [e]; exact a
    exact ⟨a', by rw [f a']; exact b⟩
/-- walk -/
theorem walk_ok {u h : Nat} (hu : u ≤ 120) {O : Nat → Int32} {P : Nat → Nat → Int32} {o : Nat → Int32} {A : Nat → Nat → Int32} (s : SS u h O P o A) (x : Int32) : SS u h (upd (upd O 13 (Int32.ofInt 1)) 14 (Int32.ofInt 0)) (updA P 56 (upd (P 56) 0 x)) (upd (upd o 30 (Int32.ofInt 1)) 33 (Int32.ofInt 0)) (updA A 20 (upd (A 20) 0 x)) := by
  obtain ⟨s1, s2, s3, s4, s5, s6, s7, s8, s9⟩ := s
  refine ⟨s1, s2, NR_fr hu s3 (fun i h1 h2 _ j _ => by rw [updA_ne _ _ (by omega)]) (fun r hr j hj => by rw [updA_ne _ _ (by omega)]), s4, s5, s6, rfl, fun _ => ?_, kp0_r s9 rfl⟩
  rw [updA_self, updA_self, upd_self, upd_self]
end
section
/-! write, keeps, means: the same state again -/
theorem ea_of {u h : Nat} {O : Nat → Int32} {P : Nat → Nat → Int32} {o : Nat → Int32} {A : Nat → Nat → Int32} (s : SS u h O P o A) (hw : nnW h (A 8)) : eaR h P (eW A) := fun i hi => by
  rw [s.2.2.2.2.2.1 i hi]
  exact eW_of hw hi
theorem gf_of {O : Nat → Int32} {A : Nat → Nat → Int32} (h : fnR O A) : gfR (O 0) (A 6) := fun v hv => by
  obtain ⟨m, hm, e, hb⟩ := h
  rw [e, hb_bt m hm v hv, hb v hv]
theorem bt_1 (m k : Nat) : decide (bt m k = nI 1) = m.testBit k := by
  unfold bt
  cases m.testBit k <;> decide
theorem bt_0 (m k : Nat) : decide (bt m k = nI 0) = !m.testBit k := by
  unfold bt
  cases m.testBit k <;> decide
theorem sy_of {P A : Nat → Nat → Int32} (h : kpR P A) : ∀ s, s ≤ 8 → syR P s (ltW A s) := fun s hs => by
  unfold syR
  split
  · rename_i e
    intro k _
    rw [ltW_8 e, ltW_8 e]
    exact ⟨rfl, rfl⟩
  · rename_i e
    obtain ⟨m, hm, q, hb⟩ := h s (by omega)
    refine ⟨m, hm, q, fun k hk => ?_⟩
    rw [ltW_n e, ltW_n e, hb k hk]
    exact ⟨bt_1 m k, bt_0 m k⟩
/-- both tables count the same -/
theorem L_same {h : Nat} (hh : h ≤ 20) {A : Nat → Nat → Int32} {s : Nat} {Y Y1 J1 : Nat → Nat → Int64} (z : okZ Y h (eW A) (A 6) (ltW A s) Y1 (h + 1) 0) (j : okJ h A s J1) : ∀ a b, a < b → b ≤ h → lY Y1 a b = lW J1 a b := fun a b h1 h2 => by
  have eJ : ∀ i j, i < j → j ≤ h → lW J1 i j = csW (mG (eW A) (A 6) (ltW A s) (lW J1) i j) 20 := fun i k q1 q2 => (okS_l (j i k q1 q2)).1
  exact L_uq (E := eW A) (G := A 6) (lt := ltW A s) (h := h) (fun i k q1 q2 => (z.1 i k q1 q2 (Or.inl (by omega))).2.1) (fun i k q1 q2 => (L_le hh eJ (k - i) i k q1 q2 (Nat.le_refl _)).2) (b - a) a b h1 h2 (Nat.le_refl _)
theorem ct_same {h : Nat} (hh : h ≤ 20) {A : Nat → Nat → Int32} {s : Nat} {Y Y1 J1 : Nat → Nat → Int64} (z : okZ Y h (eW A) (A 6) (ltW A s) Y1 (h + 1) 0) (j : okJ h A s J1) : ctY h Y1 = ctW h J1 := by
  unfold ctY ctW
  split
  · rfl
  · exact L_same hh z j 0 h (by omega) (Nat.le_refl _)
/-- NODES, where other fields and tables may have changed -/
theorem SS_pg {u u' h : Nat} {O O' : Nat → Int32} {P P' : Nat → Nat → Int32} {o o' : Nat → Int32} {A A' : Nat → Nat → Int32} (s : SS u h O P o A) (n : NR u' P' A') (c1 : O' 1 = nI u') (c2 : O' 9 = O 9) (c3 : O' 13 = O 13) (c4 : P' 32 = P 32) (c5 : P' 56 = P 56) (m1' : o' 0 = nI u') (m2' : o' 10 = o 10) (m3 : o' 30 = o 30) (m : ∀ r, 6 ≤ r → A' r = A r) : SS u' h O' P' o' A' := by
  obtain ⟨s1, s2, s3, s4, s5, s6, s7, s8, s9⟩ := s
  exact ⟨c1, m1', n, c2.trans s4, m2'.trans s5, fun i hi => by rw [c4, m 8 (by decide)]; exact s6 i hi, by rw [c3, m3]; exact s7, fun e => by rw [c5, m 20 (by decide)]; exact s8 (by rw [← c3]; exact e), kp0_r s9 (m 7 (by decide))⟩
/-- write -/
theorem write_ok {u h : Nat} (hu : u ≤ 120) (hh : h ≤ 20) {O O' : Nat → Int32} {P P' : Nat → Nat → Int32} {o o' : Nat → Int32} {A A' : Nat → Nat → Int32} {Y : Nat → Nat → Int64} {x R R' : Int32} {z : Int64} (s : SS u h O P o A) (c : ∀ j, j ≠ 1 → j ≠ 2 → j ≠ 10 → j ≠ 11 → j ≠ 12 → O' j = O j) (m : ndY o u A o' A') (g : wrC O P Y (eW A) (A 6) (ltW A) u h x z O' P' R) (g' : wrM o A u h x z o' A' R') : R = R' ∧ ∃ u', u' ≤ 120 ∧ SS u' h O' P' o' A' := by
  have mk : ∀ u', NR u' P' A' → O' 1 = nI u' → o' 0 = nI u' → P' 32 = P 32 → P' 56 = P 56 → SS u' h O' P' o' A' := fun u' n e1 e0 e32 e56 => SS_pg s n e1 (c 9 (by decide) (by decide) (by decide) (by decide) (by decide)) (c 13 (by decide) (by decide) (by decide) (by decide) (by decide)) e32 e56 e0 (m.2.1 10 (by decide) (by decide) (by decide)) (m.2.1 30 (by decide) (by decide) (by decide)) m.2.2.1
  have same : O' 1 = nI u → o' 0 = nI u → (∀ i, ¬ (14 < i ∧ i ≤ 26) → P' i = P i) → ∃ u', u' ≤ 120 ∧ SS u' h O' P' o' A' := fun e1 e0 e => ⟨u, hu, mk u (NR_fr hu s.2.2.1 (fun i h1 h2 _ j _ => by rw [e i (by omega)]) (fun r _ j hj => m.2.2.2 r j hj)) e1 e0 (e 32 (by omega)) (e 56 (by omega))⟩
  rcases g with ⟨r, q, e1, ep⟩ | ⟨sy, Y1, hs, ex, z0, hZ, g⟩
  · rcases g' with ⟨r', _, e0⟩ | ⟨s', J1, hs', ex', z0', _⟩
    · exact ⟨r.trans r'.symm, same e1 e0 (fun i _ => by rw [ep])⟩
    · exact absurd ⟨⟨by rw [ex', nI_toInt (by omega)]; omega, by rw [ex', nI_toInt (by omega)]; omega⟩, z0'⟩ q
  · rcases g' with ⟨_, q, _⟩ | ⟨s', J1, hs', ex', z0', hJ, g'⟩
    · exact absurd ⟨⟨by rw [ex, nI_toInt (by omega)]; omega, by rw [ex, nI_toInt (by omega)]; omega⟩, z0⟩ q
    · have e1 : sy = s' := (nI_eq (by omega) (by omega)).mp (ex.symm.trans ex')
      subst e1
      have ec := ct_same hh hZ hJ
      have cl := ctW_le hJ
      unfold cap at cl
      rw [ec] at g
      rcases g with ⟨r, q, e1, ep⟩ | ⟨p, T, ez, hp, hT, g⟩
      · rcases g' with ⟨r', _, e0⟩ | ⟨p', T', ez', hp', _⟩
        · exact ⟨r.trans r'.symm, same e1 e0 (fun i _ => by rw [ep])⟩
        · exact absurd (by rw [ez']; exact (lN_ltJ (by omega) (by omega)).mpr hp') q
      · rcases g' with ⟨_, q, _⟩ | ⟨p', T', ez', hp', hT', g'⟩
        · exact absurd (by rw [ez]; exact (lN_ltJ (by omega) (by omega)).mpr hp) q
        · have e2 : p = p' := (lN_eqJ (by omega) (by omega)).mp (ez.symm.trans ez')
          subst e2
          have e3 : T = T' := RT_uq 20 0 h p T T' (RT_cg (L_same hh hZ hJ) 20 0 h p T (Nat.le_refl _) hT) hT'
          subst e3
          rcases g with ⟨r, w, e1, ep⟩ | ⟨r, w, e1, ep, P1, ep1, hl⟩
          · rcases g' with ⟨r', _, e0⟩ | ⟨_, w', _⟩
            · exact ⟨r.trans r'.symm, same e1 e0 ep⟩
            · omega
          · rcases g' with ⟨_, w', _⟩ | ⟨r', _, e0, A1, ea1, eA⟩
            · omega
            · have n1 : NR u P1 A1 := NR_fr hu s.2.2.1 (fun i h1 h2 _ j _ => by rw [ep1 i (by omega)]) (fun r _ j hj => ea1 r j (by omega))
              have n2 := (NR_ly 20 0 h p T hT u P1 A1 [] _ n1 w hl).1
              refine ⟨r.trans r'.symm, _, w, mk _ ?_ e1 e0 (ep 32 (by omega)) (ep 56 (by omega))⟩
              rw [eA]
              exact n2
end
section
/-! the law's invariant with the same state -/
theorem pg_NR {u : Nat} (hu : u ≤ 120) {P A : Nat → Nat → Int32} (n : NR u P A) (hT : tbI 0 u A) : pgB 1 u P := fun i hi => by
  obtain ⟨e0, _, e2, e3, e4, p4, p5, _⟩ := n i hi
  obtain ⟨k, z, h0, hk, h4, hz, hs, _⟩ := hT i (Nat.zero_le _) hi
  have sz : ∀ a, a < i → szq (P 6) (nI a) = szN A a := fun a ha => by
    rw [szq_nI _ (by omega)]
    show (P 6 a).toNatClampNeg = (A 4 a).toNatClampNeg
    rw [(n a (by omega)).2.2.2.2.1]
  have hz1 := (rN_sz (hT i (Nat.zero_le _) hi)).1
  rw [szN_of h4 hz] at hz1
  refine ⟨⟨k, hk, e0.trans h0⟩, p4, p5, z, e4.trans h4, hz1, hz, ?_⟩
  show 1 + szq (P 6) (P 4 i) + szq (P 6) (P 5 i) ≤ z
  rw [e2, e3]
  rcases hs with ⟨_, h2, h3, e⟩ | ⟨_, _, a, b, h2, _, ha, h3, _, hb, e⟩ | ⟨_, a, h2, _, ha, h3, e⟩
  · rw [h2, h3, cvI_m2, show szq (P 6) m1 = 0 from szq_m1 _]
    omega
  · rw [h2, h3, cvI_nI (by omega), cvI_nI (by omega), sz a ha, sz b hb]
    omega
  · rw [h2, h3, cvI_m2, cvI_nI (by omega), sz a ha, show szq (P 6) m1 = 0 from szq_m1 _]
    omega
def LI2 (O : Nat → Int32) (P : Nat → Nat → Int32) (Y : Nat → Nat → Int64) (o : Nat → Int32) (A : Nat → Nat → Int32) : Prop := LI O P Y o A ∧ ∃ u h, u ≤ 120 ∧ h ≤ 20 ∧ SS u h O P o A
theorem LI2_open {O : Nat → Int32} {P : Nat → Nat → Int32} {Y : Nat → Nat → Int64} {o : Nat → Int32} {A : Nat → Nat → Int32} (H : LI2 O P Y o A) : ∃ u h d d2, cI u h d O P Y ∧ mI u h d2 o A ∧ kpR P A ∧ fnR O A ∧ SS u h O P o A := by
  obtain ⟨⟨⟨u, l, d, hC⟩, ⟨u2, h2, d2, hM⟩, hk, hf⟩, u3, h3, b1, b2, s⟩ := H
  have c1 := hC.1
  have c2 := hC.2.2.2.1
  have k1 := hM.1
  have k2 := hM.2.2.2.2.1
  have e1 : u = u3 := (nI_eq (by omega) (by omega)).mp (hC.2.1.symm.trans s.1)
  have e2 : u2 = u3 := (nI_eq (by omega) (by omega)).mp (hM.2.1.symm.trans s.2.1)
  have e3 : l = h3 := (nI_eq (by omega) (by omega)).mp (hC.2.2.2.2.1.symm.trans s.2.2.2.1)
  have e4 : h2 = h3 := (nI_eq (by omega) (by omega)).mp (hM.2.2.2.2.2.1.symm.trans s.2.2.2.2.1)
  subst e1 e2 e3 e4
  exact ⟨_, _, d, d2, hC, hM, hk, hf, s⟩
theorem kp0_0 : kp0 A00 := fun s hs => by
  match s, hs with
  | 0, _ => decide +kernel
  | 1, _ => decide +kernel
  | 2, _ => decide +kernel
  | 3, _ => decide +kernel
  | 4, _ => decide +kernel
  | 5, _ => decide +kernel
  | 6, _ => decide +kernel
  | 7, _ => decide +kernel
  | s + 8, h => exact absurd h (by omega)
theorem LI2_0 : LI2 O00 P00 (fun _ _ => 0) o00 A00 := ⟨LI_0, 0, 0, by decide, by decide, rfl, rfl, fun n hn => absurd hn (Nat.not_lt_zero n), rfl, rfl, fun i hi => absurd hi (Nat.not_lt_zero i), rfl, fun e => absurd e (by decide), kp0_0⟩
/-- a call that leaves the same state -/
theorem LI2_fr {O O' : Nat → Int32} {P P' : Nat → Nat → Int32} {Y Y' : Nat → Nat → Int64} {o o' : Nat → Int32} {A A' : Nat → Nat → Int32} {u h : Nat} (H : LI2 O P Y o A) (hu : u ≤ 120) (hh : h ≤ 20) (s : SS u h O P o A) (c : cInv O' P' Y' ∧ cSt O P O' P') (m : mInv o' A' ∧ mSt A A') (ce : cE O P O' P') (me : mE u o A o' A') : LI2 O' P' Y' o' A' := ⟨LI_mk H.1 c m, u, h, hu, hh, SS_fr hu s ce me⟩
/-- a call that changes both alike -/
theorem LI2_mk {O O' : Nat → Int32} {P P' : Nat → Nat → Int32} {Y Y' : Nat → Nat → Int64} {o o' : Nat → Int32} {A A' : Nat → Nat → Int32} {u h d u' h' : Nat} (H : LI2 O P Y o A) (hC : cI u h d O P Y) (hu : u ≤ u') (hu' : u' ≤ 120) (hh' : h' ≤ 20) (s : SS u' h' O' P' o' A') (m : mInv o' A' ∧ mSt A A') (cs : cSt O P O' P') (hY : wyI Y') (h13 : O' 13 = O 13) (h14 : O' 14 = O 14) (h56 : P' 56 = P 56) (hs : ∀ j, 20 ≤ j → O' j = O j) : LI2 O' P' Y' o' A' := by
  obtain ⟨u2, h2, d2, hM⟩ := id m.1
  have k1 := hM.1
  have e2 : u2 = u' := (nI_eq (by omega) (by omega)).mp (hM.2.1.symm.trans s.2.1)
  subst e2
  refine ⟨LI_mk H.1 ⟨⟨u2, h', d, cI_mk hC hu hu' s.1 (pg_NR hu' s.2.2.1 hM.2.2.1) hh' s.2.2.2.1 hY h13 h14 h56 (fun t ht => ?_)⟩, cs⟩ m, u2, h', hu', hh', s⟩
  rw [hs _ (by omega)]
  exact hC.2.2.2.2.2.2.2.2.2.2 t ht
theorem keeps_SS {u h : Nat} (hu : u ≤ 120) {O : Nat → Int32} {P : Nat → Nat → Int32} {o : Nat → Int32} {A : Nat → Nat → Int32} (s : SS u h O P o A) {y k : Nat} (hk : 2 ≤ k ∧ k ≤ 9) (hk8 : k ≠ 8) (R : Nat → Int32) (on : Int32) : SS u h O (updA P 75 R) o (updA A 7 (upd (A 7) (10 * y + k) on)) := by
  obtain ⟨s1, s2, s3, s4, s5, s6, s7, s8, s9⟩ := s
  refine ⟨s1, s2, NR_fr hu s3 (fun i h1 h2 _ j _ => by rw [updA_ne _ _ (by omega)]) (fun r hr j hj => by rw [updA_ne _ _ (by omega)]), s4, s5, s6, s7, s8, fun t ht => ?_⟩
  rw [updA_self]
  have := s9 t ht
  exact ⟨by rw [upd_ne _ _ (by omega)]; exact this.1, by rw [upd_ne _ _ (by omega)]; exact this.2.1, by rw [upd_ne _ _ (by omega)]; exact this.2.2⟩
theorem means_SS {u h : Nat} (hu : u ≤ 120) {O : Nat → Int32} {P : Nat → Nat → Int32} {o : Nat → Int32} {A : Nat → Nat → Int32} (s : SS u h O P o A) (x : Int32) (R : Nat → Int32) : SS u h (upd O 0 x) P o (updA A 6 R) :=
  SS_fr hu s ⟨rfl, rfl, rfl, fun _ _ _ => rfl, rfl, fun _ => rfl⟩ ⟨rfl, rfl, rfl, fun r i hr _ => by rw [updA_ne _ _ (by omega)], rfl, fun _ => rfl, rfl⟩
end
section
/-! frames of the calls that leave the same state -/
theorem spT_W {O O' : Nat → Int32} {P P' : Nat → Nat → Int32} {l : Nat} (hl : l ≤ 20) (h9 : O 9 = nI l) (q : spT O P O' P') : spW O P O' P' := ⟨⟨l, hl, (q.1 9 (by decide)).trans h9⟩, fun j hj => q.1 j (by omega), fun i h1 h2 _ => q.2 i h1 h2⟩
theorem cE_sp {O O' : Nat → Int32} {P P' : Nat → Nat → Int32} (q : spT O P O' P') : cE O P O' P' := ⟨q.1 1 (by decide), q.1 9 (by decide), q.1 13 (by decide), fun i _ h2 => q.2 i (by omega) (by omega), q.2 32 (by decide) (by decide), fun _ => by rw [q.2 56 (by decide) (by decide)]⟩
theorem cE_13 (O : Nat → Int32) (P : Nat → Nat → Int32) (R : Nat → Int32) : cE O P O (updA P 13 R) := ⟨rfl, rfl, rfl, fun i _ h2 => updA_ne _ _ (by omega), rfl, fun _ => rfl⟩
theorem cE_ty {O O' : Nat → Int32} {P : Nat → Nat → Int32} (q : ∀ j, j ≠ 10 → j ≠ 11 → j ≠ 12 → O' j = O j) : cE O P O' P := ⟨q 1 (by decide) (by decide) (by decide), q 9 (by decide) (by decide) (by decide), q 13 (by decide) (by decide) (by decide), fun _ _ _ => rfl, rfl, fun _ => rfl⟩
theorem cE_Fr {O O' : Nat → Int32} {P P' : Nat → Nat → Int32} (q : cFr O P O' P') : cE O P O' P' := by
  obtain ⟨e, q⟩ := q
  subst e
  exact cE_ty q
theorem cFr_St {O O' : Nat → Int32} {P P' : Nat → Nat → Int32} {Y' : Nat → Nat → Int64} (q : cInv O' P' Y' ∧ cFr O P O' P') : cInv O' P' Y' ∧ cSt O P O' P' := ⟨q.1, q.2.2 0 (by decide) (by decide) (by decide), by rw [q.2.1]⟩
theorem cE_sh {O O' : Nat → Int32} {P P' : Nat → Nat → Int32} {s : Nat} (q : shW O P s O' P') : cE O P O' P' := ⟨q.1 1 (by omega), q.1 9 (by omega), q.1 13 (by omega), fun i _ h2 => q.2.1 i (by omega), q.2.1 32 (by omega), fun _ => by
  by_cases e : 56 = 60 + 2 * s
  · omega
  · rw [q.2.1 56 e]⟩
theorem cE_db {O O' : Nat → Int32} {P P' : Nat → Nat → Int32} {Y' : Nat → Nat → Int64} (q : dbC O P O' P' Y') : cE O P O' P' := ⟨q.2.1 1 (by decide) (by decide) (by decide) (by decide), q.2.1 9 (by decide) (by decide) (by decide) (by decide), q.2.1 13 (by decide) (by decide) (by decide) (by decide), fun i _ h2 => q.2.2 i (by omega), q.2.2 32 (by omega), fun _ => by rw [q.2.2 56 (by omega)]⟩
theorem cI_db {O O' : Nat → Int32} {P P' : Nat → Nat → Int32} {Y Y' : Nat → Nat → Int64} {u l d : Nat} (h : cI u l d O P Y) (q : dbC O P O' P' Y') : cInv O' P' Y' ∧ cSt O P O' P' :=
  cI_gr h ⟨q.1, ⟨u, (q.2.1 1 (by decide) (by decide) (by decide) (by decide)).trans h.2.1, Nat.le_refl _, h.1, pgB_row h.2.2.1 (fun i hi => q.2.2 i (by omega))⟩, fun j _ h2 h3 h4 h5 => q.2.1 j h2 h3 h4 h5, fun i hi => q.2.2 i (by omega)⟩
theorem cE_go {O : Nat → Int32} {P : Nat → Nat → Int32} {u d' : Nat} {N D : Nat → Int32} (q : O 13 = 1 → ∃ t, (t < u ∧ P 56 0 = nI t) ∧ rtN t d' N) : cE O P (upd O 14 (nI d')) (updA (updA P 56 N) 57 D) := ⟨rfl, rfl, rfl, fun i _ h2 => by rw [updA_ne _ _ (by omega), updA_ne _ _ (by omega)], rfl, fun e => by
  obtain ⟨t, ⟨_, h0⟩, r⟩ := q e
  rw [updA_ne _ _ (by decide), updA_self, h0]
  exact r.1⟩
theorem top_N {b : Prop} {u : Nat} {x : Int32} {R : Nat → Prop} (q : b → ∃ t, (t < u ∧ x = nI t) ∧ R t) : b → ∃ t, t < u ∧ R t := fun h => by
  obtain ⟨t, a, r⟩ := q h
  exact ⟨t, a.1, r⟩
theorem mE_q {o o' : Nat → Int32} {A A' : Nat → Nat → Int32} (u : Nat) (q : qX o A o' A') : mE u o A o' A' := ⟨q.1 0 (by decide), q.1 10 (by decide), q.1 30 (by decide), fun r i hr _ => by rw [q.2 r (by omega) (by omega)], q.2 8 (by decide) (by decide), fun _ => by rw [q.2 20 (by decide) (by decide)], q.2 7 (by decide) (by decide)⟩
theorem mE_cl {o o' : Nat → Int32} {A A' : Nat → Nat → Int32} {u : Nat} (hu : u ≤ 120) (q : clX o A o' A') : mE u o A o' A' := ⟨q.1 0 (by decide), q.1 10 (by decide), q.1 30 (by decide), fun r i hr hi => q.2.1 r i (by omega) (by omega), q.2.2 8 (by decide) (by decide), fun _ => by rw [q.2.2 20 (by decide) (by decide)], q.2.2 7 (by decide) (by decide)⟩
theorem mE_o {o o' : Nat → Int32} (A : Nat → Nat → Int32) (u : Nat) (q : ∀ j, j ≠ 16 → j ≠ 28 → o' j = o j) : mE u o A o' A := ⟨q 0 (by decide) (by decide), q 10 (by decide) (by decide), q 30 (by decide) (by decide), fun _ _ _ _ => rfl, rfl, fun _ => rfl, rfl⟩
theorem mE_sh {o o' : Nat → Int32} {A A' : Nat → Nat → Int32} (u : Nat) (q : shM o A o' A') : mE u o A o' A' := ⟨q.1 0 (by decide), q.1 10 (by decide), q.1 30 (by decide), fun r i hr _ => by rw [q.2.1 r (by omega) (by omega)], q.2.1 8 (by decide) (by decide), fun _ => by rw [q.2.1 20 (by decide) (by decide)], q.2.1 7 (by decide) (by decide)⟩
theorem mE_db {o o' : Nat → Int32} {A A' : Nat → Nat → Int32} {u : Nat} (h0 : o 0 = nI u) (q : dbM o u A o' A') : mE u o A o' A' := ⟨q.1.1.trans h0.symm, q.2.1 10 (by decide) (by decide) (by decide), q.2.1 30 (by decide) (by decide) (by decide), fun r i _ hi => q.2.2.2 r i hi, q.2.2.1 8 (by decide), fun _ => by rw [q.2.2.1 20 (by decide)], q.2.2.1 7 (by decide)⟩
theorem mI_db {o o' : Nat → Int32} {A A' : Nat → Nat → Int32} {u h d : Nat} (H : mI u h d o A) (q : dbM o u A o' A') : mInv o' A' ∧ mSt A A' := mI_y H ⟨⟨u, Nat.le_refl _, H.1, q.1.1, q.1.2⟩, q.2.1, q.2.2.1, q.2.2.2⟩
theorem mE_go {o : Nat → Int32} {A : Nat → Nat → Int32} {u d' : Nat} {N D : Nat → Int32} (q : o 30 = 1 → ∃ t, (t < u ∧ A 20 0 = nI t) ∧ rtM A t d' N) : mE u o A (upd o 33 (nI d')) (updA (updA A 20 N) 21 D) := ⟨rfl, rfl, rfl, fun r i hr _ => by rw [updA_ne _ _ (by omega), updA_ne _ _ (by omega)], rfl, fun e => by
  obtain ⟨t, ⟨_, h0⟩, r⟩ := q e
  rw [updA_ne _ _ (by decide), updA_self, h0]
  exact r.1, rfl⟩
end
section
/-! the law's invariant after each call that changes both -/
theorem sets_lt (A : Nat → Nat → Int32) {u i : Nat} (k v x y : Int32) (r : Nat) (h : i < u) : setsA A u k v x y r i = A r i := by
  unfold setsA updA
  have e : i ≠ u := by omega
  by_cases h5 : r = 5
  · rw [if_pos h5, upd_ne _ _ e, h5]
  · rw [if_neg h5]
    by_cases h4 : r = 4
    · rw [if_pos h4, upd_ne _ _ e, h4]
    · rw [if_neg h4]
      by_cases h3 : r = 3
      · rw [if_pos h3, upd_ne _ _ e, h3]
      · rw [if_neg h3]
        by_cases h2 : r = 2
        · rw [if_pos h2, upd_ne _ _ e, h2]
        · rw [if_neg h2]
          by_cases h1 : r = 1
          · rw [if_pos h1, upd_ne _ _ e, h1]
          · rw [if_neg h1]
            by_cases h0 : r = 0
            · rw [if_pos h0, upd_ne _ _ e, h0]
            · rw [if_neg h0]
theorem page_LI {O : Nat → Int32} {P P' : Nat → Nat → Int32} {Y : Nat → Nat → Int64} {o : Nat → Int32} {A : Nat → Nat → Int32} {u h d d2 : Nat} (H : LI2 O P Y o A) (hC : cI u h d O P Y) (hM : mI u h d2 o A) (hu : u < 120) {k v x y : Int32} (qT : tbI 0 (u + 1) (setsA A u k v x y)) (s : SS (u + 1) h (upd O 1 (nI (u + 1))) P' (upd o 0 (nI (u + 1))) (setsA A u k v x y)) (e : ∀ i, ¬ (1 < i ∧ i ≤ 13) → P' i = P i) : LI2 (upd O 1 (nI (u + 1))) P' Y (upd o 0 (nI (u + 1))) (setsA A u k v x y) :=
  LI2_mk H hC (Nat.le_succ u) hu hC.2.2.2.1 s (mI_nd hM ⟨Nat.le_succ u, hu, qT, fun r hr => sets_ne6 _ _ _ _ _ _ hr, fun r i hi => sets_lt _ _ _ _ _ r hi⟩) ⟨rfl, e 75 (by omega)⟩ hC.2.2.2.2.2.1 rfl rfl (e 56 (by omega)) (fun j hj => upd_ne _ _ (by omega))
theorem leaf_LI {O : Nat → Int32} {P : Nat → Nat → Int32} {Y : Nat → Nat → Int64} {o : Nat → Int32} {A : Nat → Nat → Int32} {u h d d2 : Nat} (H : LI2 O P Y o A) (hC : cI u h d O P Y) (hM : mI u h d2 o A) (s : SS u h O P o A) {k v sh : Int32} (q : lfG k v ∧ u < 120) (qT : tbI 0 (u + 1) (setsA A u k v m2 m2)) : LI2 (upd O 1 (nI (u + 1))) (stC 1 P u k v m1 m1 sh) Y (upd o 0 (nI (u + 1))) (setsA A u k v m2 m2) :=
  page_LI H hC hM q.2 qT (leaf_ok q.2 s sh q.1) (fun _ w => stC_ne1 _ _ _ _ _ _ _ w)
theorem node_LI {O : Nat → Int32} {P : Nat → Nat → Int32} {Y : Nat → Nat → Int64} {o : Nat → Int32} {A : Nat → Nat → Int32} {u h d d2 : Nat} (H : LI2 O P Y o A) (hC : cI u h d O P Y) (hM : mI u h d2 o A) (s : SS u h O P o A) {k x y sh : Int32} (g : ndG u k x y) (hu : u < 120) (qT : tbI 0 (u + 1) (setsA A u k (ndv m2 k y) x (ndy m2 k y))) : LI2 (upd O 1 (nI (u + 1))) (stC 1 P u k (ndv m1 k y) x (ndy m1 k y) sh) Y (upd o 0 (nI (u + 1))) (setsA A u k (ndv m2 k y) x (ndy m2 k y)) :=
  page_LI H hC hM hu qT (node_ok hu s sh g) (fun _ w => stC_ne1 _ _ _ _ _ _ _ w)
theorem undo_LI {O : Nat → Int32} {P : Nat → Nat → Int32} {Y : Nat → Nat → Int64} {o : Nat → Int32} {A : Nat → Nat → Int32} {u h d d2 : Nat} (H : LI2 O P Y o A) (hC : cI u h d O P Y) (hM : mI u h d2 o A) (s : SS u h O P o A) (q : u ≠ 0 ∧ ¬ (O 13 = 1 ∧ P 56 0 = nI (u - 1))) (q' : u ≠ 0 ∧ ¬ (o 30 = 1 ∧ A 20 0 = nI (u - 1))) : LI2 (upd O 1 (nI (u - 1))) P Y (upd o 0 (nI (u - 1))) A :=
  ⟨LI_mk H.1 (cI_un hC (by have := q.1; omega) (fun a b => q.2 ⟨a, b⟩)) (mI_un hM (by have := q.1; omega) (fun a b => q'.2 ⟨a, b⟩)), u - 1, h, by have := hC.1; omega, hC.2.2.2.1, SS_lv s (by omega)⟩
theorem hush_LI {O : Nat → Int32} {P : Nat → Nat → Int32} {Y : Nat → Nat → Int64} {o : Nat → Int32} {A : Nat → Nat → Int32} {u h d d2 : Nat} (H : LI2 O P Y o A) (hC : cI u h d O P Y) (hM : mI u h d2 o A) (s : SS u h O P o A) : LI2 (upd O 9 (Int32.ofInt 0)) P Y (upd o 10 (Int32.ofInt 0)) A :=
  ⟨LI_mk H.1 (cI_hr (l' := 0) hC (by decide) (fun _ _ => rfl)) (mI_hu hM), u, 0, hC.1, by decide, (hush_ok hC.1 s).2⟩
theorem walk_LI {O : Nat → Int32} {P : Nat → Nat → Int32} {Y : Nat → Nat → Int64} {o : Nat → Int32} {A : Nat → Nat → Int32} {u h d d2 : Nat} (H : LI2 O P Y o A) (hC : cI u h d O P Y) (hM : mI u h d2 o A) (s : SS u h O P o A) {x : Int32} (q : isN u x) : LI2 (upd (upd O 13 (Int32.ofInt 1)) 14 (Int32.ofInt 0)) (updA P 56 (upd (P 56) 0 x)) Y (upd (upd o 30 (Int32.ofInt 1)) 33 (Int32.ofInt 0)) (updA A 20 (upd (A 20) 0 x)) := by
  obtain ⟨n, hn, e⟩ := isN_n hC.1 q
  subst e
  exact ⟨LI_mk H.1 (cI_wk hC hn) (mI_wk hM hn), u, h, hC.1, hC.2.2.2.1, walk_ok hC.1 s _⟩
theorem spV_W {O O' : Nat → Int32} {P P' : Nat → Nat → Int32} {l : Nat} (hl : l ≤ 20) (h9 : O' 9 = nI l) (q : spV O P O' P') : spW O P O' P' := ⟨⟨l, hl, h9⟩, q.1, q.2⟩
theorem listen_LI {O O' : Nat → Int32} {P P' : Nat → Nat → Int32} {Y : Nat → Nat → Int64} {o o' : Nat → Int32} {A A' : Nat → Nat → Int32} {u h d d2 : Nat} {x y R R' : Int32} (H : LI2 O P Y o A) (hC : cI u h d O P Y) (hM : mI u h d2 o A) (s : SS u h O P o A) (hk : kpR P A) (c : spV O P O' P') (m : eX o A o' A') (g : clR O P u x y O' P' R) (g' : mlR o A u x y o' A' R') : R = R' ∧ LI2 O' P' Y o' A' := by
  obtain ⟨e, h', hh', s'⟩ := listen_ok hC.1 hC.2.2.2.1 s hM.2.2.1 hk c m g g'
  exact ⟨e, LI_mk H.1 (cI_sp hC (spV_W hh' s'.2.2.2.1 c)) (mI_e hM m), u, h', hC.1, hh', s'⟩
theorem fewest_LI {O O' : Nat → Int32} {P P' : Nat → Nat → Int32} {Y : Nat → Nat → Int64} {o o' : Nat → Int32} {A A' : Nat → Nat → Int32} {u h d d2 : Nat} {x R R' : Int32} (H : LI2 O P Y o A) (hC : cI u h d O P Y) (hM : mI u h d2 o A) (s : SS u h O P o A) (hf : fnR O A) (c : spV O P O' P') (m : fwX o A o' A') (g : cfR O P u x O' P' R) (g' : fwR A u h x o' A' R' (o' = o ∧ A' = A)) : R = R' ∧ LI2 O' P' Y o' A' := by
  obtain ⟨e, h', hh', s'⟩ := fewest_ok hC.1 hC.2.2.2.1 s hM.2.2.1 hf c m g g'
  exact ⟨e, LI_mk H.1 (cI_sp hC (spV_W hh' s'.2.2.2.1 c)) (mI_f hM m), u, h', hC.1, hh', s'⟩
theorem wrC_P {O O' : Nat → Int32} {P P' : Nat → Nat → Int32} {Y : Nat → Nat → Int64} {E : Nat → Nat} {G : Nat → Int32} {lt : Nat → Nat → Nat → Bool} {u n : Nat} {x R : Int32} {z : Int64} (g : wrC O P Y E G lt u n x z O' P' R) : ∀ i, 26 < i → P' i = P i := fun i hi => by
  rcases g with ⟨_, _, _, e⟩ | ⟨_, _, _, _, _, _, ⟨_, _, _, e⟩ | ⟨_, _, _, _, _, ⟨_, _, _, e⟩ | ⟨_, _, _, e, _⟩⟩⟩
  · rw [e]
  · rw [e]
  · exact e i (by omega)
  · exact e i (by omega)
theorem write_LI {O O' : Nat → Int32} {P P' : Nat → Nat → Int32} {Y Y' : Nat → Nat → Int64} {o o' : Nat → Int32} {A A' : Nat → Nat → Int32} {u h d d2 : Nat} {x R R' : Int32} {z : Int64} (H : LI2 O P Y o A) (hC : cI u h d O P Y) (hM : mI u h d2 o A) (s : SS u h O P o A) (hY : wyI Y → wyI Y') (c : ∀ j, j ≠ 1 → j ≠ 2 → j ≠ 10 → j ≠ 11 → j ≠ 12 → O' j = O j) (m : ndY o u A o' A') (g : wrC O P Y (eW A) (A 6) (ltW A) u h x z O' P' R) (g' : wrM o A u h x z o' A' R') : R = R' ∧ LI2 O' P' Y' o' A' := by
  obtain ⟨e, u', hu', s'⟩ := write_ok hC.1 hC.2.2.2.1 s c m g g'
  have f := fun (j : Nat) (w : 13 ≤ j ∨ j = 0) => c j (by omega) (by omega) (by omega) (by omega) (by omega)
  obtain ⟨u2, w1, w2, w3, w4⟩ := id m.1
  have e2 : u2 = u' := (nI_eq (by omega) (by omega)).mp (w3.symm.trans s'.2.1)
  subst e2
  exact ⟨e, LI2_mk H hC w1 w2 hC.2.2.2.1 s' (mI_y hM m) ⟨f 0 (Or.inr rfl), wrC_P g 75 (by decide)⟩ (hY hC.2.2.2.2.2.1) (f 13 (by omega)) (f 14 (by omega)) (wrC_P g 56 (by decide)) (fun j hj => f j (by omega))⟩
theorem heL_nn (y : Int32) : ∀ (k : Nat) (g : Nat → Int32) (l : Nat), nnW l g → nnW (l + k) (heL y k g l)
  | 0, _, _, h => h
  | k + 1, g, l, h => by
    have := heL_nn y k (upd g l (dgV y k)) (l + 1) (fun i hi => by
      by_cases e : i = l
      · subst e
        rw [upd_self]
        exact (dgV_31 y k).2
      · rw [upd_ne _ _ e]
        exact h i (by omega))
    rw [show l + 1 + k = l + (k + 1) by omega] at this
    exact this
theorem hear_LI {O : Nat → Int32} {P : Nat → Nat → Int32} {Y : Nat → Nat → Int64} {o : Nat → Int32} {A : Nat → Nat → Int32} {u h d d2 n : Nat} (H : LI2 O P Y o A) (hC : cI u h d O P Y) (hM : mI u h d2 o A) (s : SS u h O P o A) (y : Int32) (hn : h + n ≤ 20) : LI2 (upd O 9 (nI (h + n))) (updA P 32 (heL y n (P 32) h)) Y (upd o 10 (nI (h + n))) (updA A 8 (heL y n (A 8) h)) :=
  ⟨LI_mk H.1 (cI_hr hC hn (fun i hi => updA_ne _ _ hi)) (mI_hr hM hn (heL_nn y n _ h hM.2.2.2.2.2.2.1)), u, h + n, hC.1, hn, hear_st hC.1 s y⟩
end
section
abbrev tQLX (O : Nat → Int32) (P : Nat → Nat → Int32) (Y : Nat → Nat → Int64) (o : Nat → Int32) (A : Nat → Nat → Int32) (J : Nat → Nat → Int64) (n : Nat) (x : Int32) : Option Value → zW → Prop := fun r w' => ∃ (s : Nat) (a b : Int32) (Y' : Nat → Nat → Int64), s ≤ 8 ∧ x = nI s ∧ r = some (.long (lN (ctY n Y'))) ∧ w' = wX (upd (upd (upd O 10 a) 11 b) 12 (O 0)) P Y' (gR o A J) ∧ okZ Y n (eW A) (A 6) (ltW A s) Y' (n + 1) 0
abbrev tXAX (O : Nat → Int32) (P : Nat → Nat → Int32) (Y : Nat → Nat → Int64) (o : Nat → Int32) (A : Nat → Nat → Int32) (J : Nat → Nat → Int64) (x : Int32) : String → zW → Prop := fun E w' => E = "java/lang/IllegalArgumentException" ∧ ¬ (0 ≤ x.toInt ∧ x.toInt ≤ 8) ∧ w' = (wX O P Y (gR o A J))
theorem bxRX (O : Nat → Int32) (P : Nat → Nat → Int32) (Y : Nat → Nat → Int64) (o : Nat → Int32) (A : Nat → Nat → Int32) (J : Nat → Nat → Int64) (l : Nat) (x : Int32) (n : Nat) : zTb (zMx 7 zX6_readings (tXAX O P Y o A J x) (tQLX O P Y o A J l x) n) tX6_readings := ⟨fRX6, gRX6, oX6_readings⟩
set_option maxHeartbeats 1000000 in
set_option maxRecDepth 20000 in
theorem tReadingsX (O : Nat → Int32) (P : Nat → Nat → Int32) (Y : Nat → Nat → Int64) (o : Nat → Int32) (A : Nat → Nat → Int32) (J : Nat → Nat → Int64) {l : Nat} (hE : eaR l P (eW A)) (hO : O 9 = nI l) (hl : l ≤ 20) (hG : gfR (O 0) (A 6)) (hy : ∀ s, s ≤ 8 → syR P s (ltW A s)) (x : Int32) : zKt 7 zX6_readings [.ref 0, .int x] (wX O P Y (gR o A J)) (tQLX O P Y o A J l x) (tXAX O P Y o A J x) := by
  refine zKt_of (by decide +kernel) rfl ?_
  iterate 1 (refine zv_step (bxRX O P Y o A J l _ _) rfl rfl trivial ?_)
  refine zv_S1 (bxRX O P Y o A J l _ _) rfl rfl rfl rfl ⟨rfl, rfl, rfl⟩ ⟨Nat.le_of_ble_eq_true rfl, Nat.le_of_ble_eq_true rfl⟩ ⟨Nat.zero_le _, Nat.zero_le _⟩ (hX6_isStyleOrFree _ _) ?_
  rintro _ _ ⟨rfl, ⟨hh, rfl⟩ | ⟨hh, rfl⟩⟩
  · obtain ⟨s, hs, rfl⟩ := in_nat (x := x) (b := 8) (by decide) hh
    iterate 1 (refine zv_step (bxRX O P Y o A J l _ _) rfl rfl trivial ?_)
    refine zv_ift (by decide) ?_
    iterate 2 (refine zv_step (bxRX O P Y o A J l _ _) rfl rfl trivial ?_)
    refine zv_V1 (bxRX O P Y o A J l _ _) rfl rfl rfl rfl rfl rfl rfl ⟨rfl, rfl, rfl⟩ ⟨Nat.le_of_ble_eq_true rfl, Nat.le_of_ble_eq_true rfl⟩ ⟨Nat.zero_le _, Nat.zero_le _⟩ (cTallyInX O P Y (gR o A J) hE hO hl hG hs (hy s hs)) ?_
    rintro _ _ ⟨a, b, Y', rfl, rfl, hZ, _, _⟩
    exact zv_lret (bxRX O P Y o A J l _ _) rfl rfl (Nat.zero_le _) (Nat.zero_le _) ⟨s, a, b, Y', hs, rfl, rfl, rfl, hZ⟩
  · skip
    iterate 1 (refine zv_step (bxRX O P Y o A J l _ _) rfl rfl trivial ?_)
    refine zv_iff (by decide) ?_
    exact zv_throwS (text := "no such style") (names := ["java/lang/RuntimeException", "java/lang/Exception"]) (by decide +kernel) (by decide +kernel) (by decide +kernel) (by decide +kernel) (by decide +kernel) fIAE kIAE aIAE gIAE (fun A U H h => ⟨h.2.2.1, h.2.2.2.2.2.2.2.1⟩) ⟨by decide, by decide⟩ ⟨rfl, hh, rfl⟩
set_option maxHeartbeats 1000000 in
set_option maxRecDepth 20000 in
theorem hL_readingsX (O : Nat → Int32) (P : Nat → Nat → Int32) (Y : Nat → Nat → Int64) (o : Nat → Int32) (A : Nat → Nat → Int32) (J : Nat → Nat → Int64) {l : Nat} (hE : eaR l P (eW A)) (hO : O 9 = nI l) (hl : l ≤ 20) (hG : gfR (O 0) (A 6)) (hy : ∀ s, s ≤ 8 → syR P s (ltW A s)) (x : Int32) : zKh 9 zL_readings [(0, 8, 11, 13)] [.ref 0, .int x, .ref 99] (wX O P Y (gR o A J)) (fun r w' => (∃ (s : Nat) (a b : Int32) (Y' : Nat → Nat → Int64), s ≤ 8 ∧ x = nI s ∧ r = some (.int (Int32.ofInt 0)) ∧ w' = wX (upd (upd (upd O 10 a) 11 b) 12 (O 0)) P Y' (gR o A (updJ J 2 (vp_updL (J 2) (Int32.ofInt 0).toNatClampNeg (lN (ctY l Y'))))) ∧ okZ Y l (eW A) (A 6) (ltW A s) Y' (l + 1) 0) ∨ (¬ (0 ≤ x.toInt ∧ x.toInt ≤ 8) ∧ r = some (.int (Int32.ofInt 1)) ∧ w' = (wX O P Y (gR o A J)))) := by
  refine zKh_of (by decide +kernel) rfl ?_
  iterate 4 (refine zv_step bL_readings rfl rfl trivial ?_)
  refine zv_callX bL_readings rfl rfl (As := [.int x]) (rest := [.int (Int32.ofInt 0), .ref 99]) rfl rfl rfl rfl rfl rfl (by decide) ⟨by decide, by decide⟩ (tReadingsX O P Y o A J hE hO hl hG hy x) ?_ ?_
  · rintro _ _ ⟨s, a, b, Y', hs, ex, rfl, rfl, hZ⟩
    refine zv_last bL_readings rfl (show (wX (upd (upd (upd O 10 a) 11 b) 12 (O 0)) P Y' (gR o A J))[99]? = some (zJ 1 (J 2)) from rfl) (show vp_in (nI 0) 1 from vp_in_nI (by decide) (by decide)) ?_
    refine zv_world (show _ = wX (upd (upd (upd O 10 a) 11 b) 12 (O 0)) P Y' (gR o A (updJ J 2 (vp_updL (J 2) (Int32.ofInt 0).toNatClampNeg (lN (ctY l Y'))))) from rfl) ?_
    iterate 2 (refine zv_step bL_readings rfl rfl trivial ?_)
    exact zv_iret bL_readings rfl (Or.inl rfl) (Nat.le_refl 1) (Nat.le_refl 6) (Or.inl ⟨s, a, b, Y', hs, ex, rfl, rfl, hZ⟩)
  · rintro E _ ⟨rfl, hn, rfl⟩
    refine ⟨3, 12, ⟨[], ⟨0, 8, 11, 13⟩, [], "java/lang/IllegalArgumentException", rfl, fun y h => absurd h List.not_mem_nil, by decide, by decide, cl13, fun A U H h => h.2.2.2.2.2.2.2.1, by decide, Or.inl ⟨3, rfl, by decide +kernel, rfl⟩⟩, ?_⟩
    iterate 1 (refine zv_step bL_readings rfl rfl trivial ?_)
    exact zv_iret bL_readings rfl (Or.inl rfl) (Nat.le_refl 1) (Nat.le_refl 6) (Or.inr ⟨hn, rfl, rfl⟩)
set_option maxHeartbeats 1000000 in
set_option maxRecDepth 20000 in
theorem rkIF (f : Nat → zC) (o : Nat → Int32) (A : Nat → Nat → Int32) {h : Nat} (hh : h ≤ 20) (hw : nnW h (A 8)) (ho10 : o 10 = nI h) {s : Nat} (hs : s ≤ 8) (ho : o 28 = nI s) {K : Nat → Int64} {n : Nat} (hn : 1 ≤ n) (hnh : n ≤ h) {n0 : Nat} {Q : Option Value → zW → Prop} (kk : ∀ J', J' 2 = K → okN h A s J' (n + 1) 0 → zV (zMo 3 zX7_reckons) false n0 0 0 210 [(2, .int (nI n)), (0, .ref 76), (1, .int (nI s))] [] (wR f o A J') Q) : ∀ (c i : Nat) (J : Nat → Nat → Int64), i + c + n = h + 1 → J 2 = K → okN h A s J n i → ∀ {x3 : Int32}, x3 = nI i → zV (zMo 3 zX7_reckons) false n0 0 0 17 [(3, .int x3), (2, .int (nI n)), (0, .ref 76), (1, .int (nI s))] [] (wR f o A J) Q := by
  intro c
  induction c with
  | zero =>
    intro i J hc hK hN x3 e3
    subst e3
    iterate 6 (refine zv_step (bX7_reckons 3) rfl rfl trivial ?_)
    refine zv_ift (show o 10 < nI i + nI n by rw [ho10, nI_add]; exact nI_lt (by omega) (by omega)) ?_
    refine zv_locals (l := [(3, .int (nI i)), (2, .int (nI n)), (0, .ref 76), (1, .int (nI s))]) (l' := [(2, .int (nI n)), (0, .ref 76), (1, .int (nI s))]) ?_ (kk J hK (fun a b h1 h2 h3 => hN a b h1 h2 (by omega)))
    simp
  | succ c ih =>
    intro i J hc hK hN x3 e3
    subst e3
    iterate 6 (refine zv_step (bX7_reckons 3) rfl rfl trivial ?_)
    refine zv_iff (show ¬ o 10 < nI i + nI n by rw [ho10, nI_add]; exact nI_nlt (by omega) (by omega)) ?_
    iterate 8 (refine zv_step (bX7_reckons 3) rfl rfl trivial ?_)
    refine zv_world (show _ = wR f o A (updJ J 0 (J 0)) from rfl) ?_
    refine zv_locals (l := [(7, .int (Int32.ofInt 0)), (5, .long (lN 0)), (4, .int (nI i + nI n)), (3, .int (nI i)), (2, .int (nI n)), (0, .ref 76), (1, .int (nI s))]) (l' := [(7, .int (Int32.ofInt 0)), (5, .long (lN 0)), (4, .int (nI i + nI n)), (3, .int (nI i)), (2, .int (nI n)), (0, .ref 76), (1, .int (nI s))]) (fun q h => h) ?_
    rw [nI_add]
    refine rkC f o A J hh hw hs ho (i := i) (j := i + n) rfl hn (by omega) hN (fun g hg1 hg2 => ?_) 20 0 (J 0) (by omega) (fun _ _ => rfl) (fun x hx => absurd hx (by omega)) rfl
    iterate 8 (refine zv_step (bX7_reckons 3) rfl rfl trivial ?_)
    refine zv_step (bX7_reckons 3) rfl rfl (show vp_in (c8 21 * nI i + nI (i + n)) 441 by rw [ix21]; exact vp_in_nI (by omega) (by decide)) ?_
    iterate 2 (refine zv_step (bX7_reckons 3) rfl rfl trivial ?_)
    refine zv_world (show _ = wR f o A (updJ (updJ J 0 g) 1 (vp_updL (J 1) (21 * i + (i + n)) (lN (csW (mW A s (lW J) i (i + n)) 20)))) from by rw [show 21 * i + (i + n) = (c8 21 * nI i + nI (i + n)).toNatClampNeg by rw [ix21, nI_clamp (by omega)]]; rfl) ?_
    refine zv_locals (l := [(3, .int (nI i + Int32.ofInt 1)), (5, .long (lN (csW (mW A s (lW J) i (i + n)) 20))), (4, .int (nI (i + n))), (2, .int (nI n)), (0, .ref 76), (1, .int (nI s))]) (l' := [(3, .int (nI i + Int32.ofInt 1)), (2, .int (nI n)), (0, .ref 76), (1, .int (nI s))]) ?_ (ih (i + 1) (updJ (updJ J 0 g) 1 (vp_updL (J 1) (21 * i + (i + n)) (lN (csW (mW A s (lW J) i (i + n)) 20)))) (by omega) hK (okN_step hh rfl hn (by omega) hN hg1 hg2) (nI_1 i))
    simp
set_option maxHeartbeats 1000000 in
set_option maxRecDepth 20000 in
theorem rkNF (f : Nat → zC) (o : Nat → Int32) (A : Nat → Nat → Int32) {h : Nat} (hh : h ≤ 20) (hw : nnW h (A 8)) (ho10 : o 10 = nI h) {s : Nat} (hs : s ≤ 8) (ho : o 28 = nI s) {K : Nat → Int64} {n0 : Nat} : ∀ (c n : Nat) (J : Nat → Nat → Int64), n + c = h + 1 → 1 ≤ n → J 2 = K → okN h A s J n 0 → ∀ {x2 : Int32}, x2 = nI n → zV (zMo 3 zX7_reckons) false n0 0 0 7 [(2, .int x2), (0, .ref 76), (1, .int (nI s))] [] (wR f o A J) (fun r w' => r = none ∧ ∃ J', w' = wR f o A J' ∧ J' 2 = K ∧ okJ h A s J') := by
  intro c
  induction c with
  | zero =>
    intro n J hc hn hK hN x2 e2
    subst e2
    iterate 4 (refine zv_step (bX7_reckons 3) rfl rfl trivial ?_)
    refine zv_ift (show o 10 < nI n by rw [ho10]; exact nI_lt (by omega) (by omega)) ?_
    exact zv_ret (bX7_reckons 3) rfl rfl (Nat.zero_le _) (Nat.zero_le _) ⟨rfl, J, rfl, hK, fun i j h1 h2 => hN i j h1 h2 (Or.inl (by omega))⟩
  | succ c ih =>
    intro n J hc hn hK hN x2 e2
    subst e2
    iterate 4 (refine zv_step (bX7_reckons 3) rfl rfl trivial ?_)
    refine zv_iff (show ¬ o 10 < nI n by rw [ho10]; exact nI_nlt (by omega) (by omega)) ?_
    iterate 2 (refine zv_step (bX7_reckons 3) rfl rfl trivial ?_)
    refine zv_locals (l := [(3, .int (Int32.ofInt 0)), (2, .int (nI n)), (0, .ref 76), (1, .int (nI s))]) (l' := [(3, .int (Int32.ofInt 0)), (2, .int (nI n)), (0, .ref 76), (1, .int (nI s))]) (fun q h => h) (rkIF f o A hh hw ho10 hs ho hn (by omega) (fun J' hK' hN' => ?_) (h + 1 - n) 0 J (by omega) hK hN rfl)
    iterate 2 (refine zv_step (bX7_reckons 3) rfl rfl trivial ?_)
    exact ih (n + 1) J' (by omega) (by omega) hK' hN' (nI_1 n)
set_option maxHeartbeats 1000000 in
set_option maxRecDepth 20000 in
theorem mReckonsF (f : Nat → zC) (o : Nat → Int32) (A : Nat → Nat → Int32) (J : Nat → Nat → Int64) {h : Nat} (hh : h ≤ 20) (hw : nnW h (A 8)) (ho10 : o 10 = nI h) {s : Nat} (hs : s ≤ 8) {x : Int32} (ex : x = nI s) : zK 3 zX7_reckons [.ref 76, .int x] (wR f o A J) (fun r w' => r = none ∧ ∃ J', w' = wR f (upd o 28 (nI s)) A J' ∧ J' 2 = J 2 ∧ okJ h A s J') := by
  subst ex
  refine zK_of qX7_reckons (by decide +kernel) rfl ?_
  iterate 5 (refine zv_step (bX7_reckons 3) rfl rfl trivial ?_)
  refine zv_world (show _ = wR f (upd o 28 (nI s)) A J from rfl) ?_
  exact rkNF f (upd o 28 (nI s)) A hh hw ho10 hs rfl h 1 J (by omega) (Nat.le_refl _) rfl (fun a b h1 h2 h3 => absurd h3 (by omega)) rfl
set_option maxHeartbeats 1000000 in
set_option maxRecDepth 20000 in
theorem mCountedF (f : Nat → zC) (o : Nat → Int32) (A : Nat → Nat → Int32) (J : Nat → Nat → Int64) {h : Nat} (hh : h ≤ 20) (hw : nnW h (A 8)) (ho10 : o 10 = nI h) {s : Nat} (hs : s ≤ 8) {x : Int32} (ex : x = nI s) : zK 4 zX7_counted [.ref 76, .int x] (wR f o A J) (fun r w' => ∃ J', r = some (.long (lN (ctW h J'))) ∧ w' = wR f (upd o 28 (nI s)) A J' ∧ J' 2 = J 2 ∧ okJ h A s J') := by
  refine zK_of qX7_counted (by decide +kernel) rfl ?_
  iterate 2 (refine zv_step (bX7_counted 4) rfl rfl trivial ?_)
  refine zv_V1 (bX7_counted 4) rfl rfl rfl rfl rfl rfl rfl ⟨rfl, rfl, rfl⟩ ⟨by decide, by decide⟩ ⟨Nat.zero_le _, Nat.zero_le _⟩ (mReckonsF f o A J hh hw ho10 hs ex) ?_
  rintro _ _ ⟨rfl, J', rfl, hK, hJ⟩
  iterate 3 (refine zv_step (bX7_counted 4) rfl rfl trivial ?_)
  refine zv_ifb (fun h9 => ?_) (fun h9 => ?_)
  · have q9 : h ≠ 0 := fun e => h9 (by show o 10 = 0; rw [ho10, e]; rfl)
    iterate 4 (refine zv_step (bX7_counted 4) rfl rfl trivial ?_)
    refine zv_lale (bX7_counted 4) rfl rfl (show vp_in (o 10) 441 by rw [ho10]; exact vp_in_nI (by omega) (by decide)) (show J' 1 (o 10).toNatClampNeg = lN (ctW h J') by rw [ho10, nI_clamp (by omega)]; unfold ctW; rw [if_neg q9]; have := (okS_l (hJ 0 h (by omega) (Nat.le_refl _))).2.2; rw [show 21 * 0 + h = h by omega] at this; exact this) ?_
    exact zv_lret (bX7_counted 4) rfl rfl (Nat.zero_le _) (Nat.zero_le _) ⟨J', rfl, rfl, hK, hJ⟩
  · have q9 : h = 0 := (nI_eq (by omega) (by decide)).mp (show nI h = nI 0 by rw [← ho10]; exact Decidable.not_not.mp h9)
    iterate 2 (refine zv_step (bX7_counted 4) rfl rfl trivial ?_)
    exact zv_lret (bX7_counted 4) rfl rfl (Nat.zero_le _) (Nat.zero_le _) ⟨J', by unfold ctW; rw [if_pos q9]; rfl, rfl, hK, hJ⟩
set_option maxHeartbeats 1000000 in
set_option maxRecDepth 20000 in
theorem mReadingsX (f : Nat → zC) (o : Nat → Int32) (A : Nat → Nat → Int32) (J : Nat → Nat → Int64) {h : Nat} (hh : h ≤ 20) (hw : nnW h (A 8)) (ho10 : o 10 = nI h) (x : Int32) : zK 5 zX7_readings [.ref 76, .int x] (wR f o A J) (fun r w' => (∃ (s : Nat) (J' : Nat → Nat → Int64), s ≤ 8 ∧ x = nI s ∧ r = some (.long (lN (ctW h J'))) ∧ w' = wR f (upd (upd o 16 (Int32.ofInt 0)) 28 (nI s)) A J' ∧ J' 2 = J 2 ∧ okJ h A s J') ∨ (¬ (0 ≤ x.toInt ∧ x.toInt ≤ 8) ∧ r = some (.long (Int64.ofInt 0)) ∧ w' = wR f (upd o 16 (Int32.ofInt 1)) A J)) := by
  refine zK_of qX7_readings (by decide +kernel) rfl ?_
  iterate 5 (refine zv_step (bX7_readings 5) rfl rfl trivial ?_)
  refine zv_S3 (bX7_readings 5) rfl rfl rfl rfl ⟨rfl, rfl, rfl⟩ ⟨by decide, by decide⟩ ⟨Nat.zero_le _, Nat.zero_le _⟩ (mIn _ _ _ _ (a := 0) (b := 8) (by decide) (by decide)) ?_
  rintro _ _ ⟨rfl, ⟨g1, rfl⟩ | ⟨g1, rfl⟩⟩
  · obtain ⟨s, hs, rfl⟩ := in_nat (x := x) (b := 8) (by decide) g1
    iterate 1 (refine zv_step (bX7_readings 5) rfl rfl trivial ?_)
    refine zv_iff (by decide) ?_
    iterate 6 (refine zv_step (bX7_readings 5) rfl rfl trivial ?_)
    refine zv_iff (by decide) ?_
    iterate 2 (refine zv_step (bX7_readings 5) rfl rfl trivial ?_)
    refine zv_V1 (bX7_readings 5) rfl rfl rfl rfl rfl rfl rfl ⟨rfl, rfl, rfl⟩ ⟨by decide, by decide⟩ ⟨Nat.zero_le _, Nat.zero_le _⟩ (mCountedF f (upd o 16 (Int32.ofInt 0)) A J hh hw ho10 hs rfl) ?_
    rintro _ _ ⟨J', rfl, rfl, hK, hJ⟩
    iterate 1 (refine zv_step (bX7_readings 5) rfl rfl trivial ?_)
    exact zv_lret (bX7_readings 5) rfl rfl (Nat.zero_le _) (Nat.zero_le _) (Or.inl ⟨s, J', hs, rfl, rfl, rfl, hK, hJ⟩)
  · skip
    iterate 1 (refine zv_step (bX7_readings 5) rfl rfl trivial ?_)
    refine zv_ift (by decide) ?_
    iterate 5 (refine zv_step (bX7_readings 5) rfl rfl trivial ?_)
    refine zv_ift (by decide) ?_
    iterate 1 (refine zv_step (bX7_readings 5) rfl rfl trivial ?_)
    exact zv_lret (bX7_readings 5) rfl rfl (Nat.zero_le _) (Nat.zero_le _) (Or.inr ⟨g1, rfl, rfl⟩)
end
section
noncomputable def eN (A : Nat → Nat → Int32) : Nat → Int32 → Int32 → Nat
  | 0, _, _ => 0
  | z + 1, x, y => if x < 0 then 0 else (if A 0 (nC x) = A 0 (nC y) then eN A z (A 2 (nC x)) (A 2 (nC y)) + eN A z (A 3 (nC x)) (A 3 (nC y)) else 1)
end
section
/-! rows of trees: one way to read them; where two of them are first unlike -/
def w1 (k : Nat) : Int := if k < 2 then 1 else if k ≤ 6 then -1 else 0
end
