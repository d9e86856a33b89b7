section
/-! the same state on both sides -/
def SS (u h : Nat) (O : Nat → Int32) (P : Nat → Nat → Int32) (o : Nat → Int32) (A : Nat → Nat → Int32) : Prop := O 1 = nI u ∧ o 0 = nI u ∧ NR u P A ∧ O 9 = nI h ∧ o 10 = nI h ∧ (∀ i, i < h → P 32 i = A 8 i) ∧ O 13 = o 30 ∧ (O 13 = 1 → P 56 0 = A 20 0) ∧ kp0 A
/-- what a call leaves as it was -/
def cE (O : Nat → Int32) (P : Nat → Nat → Int32) (O' : Nat → Int32) (P' : Nat → Nat → Int32) : Prop := O' 1 = O 1 ∧ O' 9 = O 9 ∧ O' 13 = O 13 ∧ (∀ i, 2 ≤ i → i ≤ 11 → P' i = P i) ∧ P' 32 = P 32 ∧ (O 13 = 1 → P' 56 0 = P 56 0)
def mE (u : Nat) (o : Nat → Int32) (A : Nat → Nat → Int32) (o' : Nat → Int32) (A' : Nat → Nat → Int32) : Prop := o' 0 = o 0 ∧ o' 10 = o 10 ∧ o' 30 = o 30 ∧ (∀ r i, r < 5 → i < u → A' r i = A r i) ∧ A' 8 = A 8 ∧ (o 30 = 1 → A' 20 0 = A 20 0) ∧ A' 7 = A 7
theorem cE_id (O : Nat → Int32) (P : Nat → Nat → Int32) : cE O P O P := ⟨rfl, rfl, rfl, fun _ _ _ => rfl, rfl, fun _ => rfl⟩
theorem mE_id (u : Nat) (o : Nat → Int32) (A : Nat → Nat → Int32) : mE u o A o A := ⟨rfl, rfl, rfl, fun _ _ _ _ => rfl, rfl, fun _ => rfl, rfl⟩
theorem SS_fr {u h : Nat} {O O' : Nat → Int32} {P P' : Nat → Nat → Int32} {o o' : Nat → Int32} {A A' : Nat → Nat → Int32} (hu : u ≤ 120) (s : SS u h O P o A) (c : cE O P O' P') (m : mE u o A o' A') : SS u h O' P' o' A' := by
  obtain ⟨s1, s2, s3, s4, s5, s6, s7, s8, s9⟩ := s
  obtain ⟨c1, c2, c3, c4, c5, c6⟩ := c
  obtain ⟨m1', m2', m3, m4, m5, m6, m7⟩ := m
  refine ⟨c1.trans s1, m1'.trans s2, NR_fr hu s3 (fun i h1 h2 _ j _ => by rw [c4 i h1 h2]) (fun r hr j hj => m4 r j hr hj), c2.trans s4, m2'.trans s5, fun i hi => by rw [c5, m5]; exact s6 i hi, by rw [c3, m3]; exact s7, fun e => ?_, kp0_r s9 m7⟩
  rw [c3] at e
  rw [c6 e, m6 (by rw [← s7]; exact e)]
  exact s8 e
/-- NODES come to both, or go -/
theorem SS_page {u u' h : Nat} {O : Nat → Int32} {P P' : Nat → Nat → Int32} {o : Nat → Int32} {A A' : Nat → Nat → Int32} (s : SS u h O P o A) (n : NR u' P' A') (c : ∀ i, ¬ (1 < i ∧ i ≤ 13) → P' i = P i) (m : ∀ r, 6 ≤ r → A' r = A r) : SS u' h (upd O 1 (nI u')) P' (upd o 0 (nI u')) A' := by
  obtain ⟨s1, s2, s3, s4, s5, s6, s7, s8, s9⟩ := s
  exact ⟨upd_self _ _ _, upd_self _ _ _, n, s4, s5, fun i hi => by rw [c 32 (by omega), m 8 (by decide)]; exact s6 i hi, s7, fun e => by rw [c 56 (by omega), m 20 (by decide)]; exact s8 e, kp0_r s9 (m 7 (by decide))⟩
/-- THE EAR of both -/
theorem SS_ear {u h h' : Nat} {O O' : Nat → Int32} {P P' : Nat → Nat → Int32} {o o' : Nat → Int32} {A A' : Nat → Nat → Int32} (hu : u ≤ 120) (s : SS u h O P o A) (c1 : O' 1 = O 1) (c3 : O' 13 = O 13) (c4 : ∀ i, 2 ≤ i → i ≤ 11 → P' i = P i) (c5 : P' 56 = P 56) (m1 : o' 0 = o 0) (m3 : o' 30 = o 30) (m4 : ∀ r, r < 5 → A' r = A r) (m5 : A' 20 = A 20) (m6 : A' 7 = A 7) (e9 : O' 9 = nI h') (e10 : o' 10 = nI h') (e : ∀ i, i < h' → P' 32 i = A' 8 i) : SS u h' O' P' o' A' := by
  obtain ⟨s1, s2, s3, s4, s5, s6, s7, s8, s9⟩ := s
  refine ⟨c1.trans s1, m1.trans s2, NR_fr hu s3 (fun i h1 h2 _ j _ => by rw [c4 i h1 h2]) (fun r hr j hj => by rw [m4 r hr]), e9, e10, e, by rw [c3, m3]; exact s7, fun w => ?_, kp0_r s9 m6⟩
  rw [c3] at w
  rw [c5, m5]
  exact s8 w
theorem cvI_pos {x : Int32} (h : 0 ≤ x.toInt) : cvI x = x := if_neg (fun e => by
  rw [e] at h
  exact absurd h (by decide))
theorem leaf_NR {u : Nat} (hu : u < 120) {P A : Nat → Nat → Int32} (n : NR u P A) {k v sh : Int32} (g : lfG k v) : NR (u + 1) (stC 1 P u k v m1 m1 sh) (setsA A u k v m2 m2) := by
  have hv : 0 ≤ v.toInt := by
    rcases g with g | g <;> exact g.2.1
  have := NR_st (k := k) (v := v) (x := m2) (y := m2) (sh := sh) hu n (Or.inl rfl) (Or.inl rfl)
  rwa [cvI_m2, cvI_pos hv] at this
theorem isN_n {u : Nat} {x : Int32} (hu : u ≤ 120) (h : isN u x) : ∃ a, a < u ∧ x = nI a := ⟨x.toInt.toNat, by have := h.1; have := h.2; omega, by
  have h1 := h.1
  have h2 := h.2
  rw [← Int32.toInt_inj, nI_toInt (by omega)]
  omega⟩
theorem node_NR {u : Nat} (hu : u < 120) {P A : Nat → Nat → Int32} (n : NR u P A) {k x y sh : Int32} (g : ndG u k x y) : NR (u + 1) (stC 1 P u k (ndv m1 k y) x (ndy m1 k y) sh) (setsA A u k (ndv m2 k y) x (ndy m2 k y)) := by
  obtain ⟨a, ha, ex⟩ := isN_n (by omega) (show isN u x from g.2.1)
  have hy : ndy m2 k y = m2 ∨ ∃ a, a < u ∧ ndy m2 k y = nI a := by
    unfold ndy
    split
    · rename_i q
      obtain ⟨b, hb, ey⟩ := isN_n (by omega) (show isN u y from g.2.2.1 q)
      exact Or.inr ⟨b, hb, ey⟩
    · exact Or.inl rfl
  have := NR_st (k := k) (v := ndv m2 k y) (x := x) (y := ndy m2 k y) (sh := sh) hu n (Or.inr ⟨a, ha, ex⟩) hy
  have e1 : cvI (ndv m2 k y) = ndv m1 k y := by
    unfold ndv
    split
    · rename_i q
      exact cvI_pos (g.2.2.2 q).1
    · exact cvI_m2
  have e2 : cvI x = x := cvI_pos g.2.1.1
  have e3 : cvI (ndy m2 k y) = ndy m1 k y := by
    unfold ndy
    split
    · rename_i q
      exact cvI_pos (g.2.2.1 q).1
    · exact cvI_m2
  rwa [e1, e2, e3] at this
/-- the same words heard on both sides -/
theorem has_eq {g g' : Nat → Int32} {ws : List Int32} (h : hasW g ws) (h' : hasW g' ws) : ∀ i, i < ws.length → g i = g' i := fun i hi => by
  have := List.getElem?_eq_getElem hi
  rw [h i _ this, h' i _ this]
theorem kp_hb {P A : Nat → Nat → Int32} (h : kpR P A) {s : Nat} (hs : s < 8) : ∀ k, k < 10 → (hbW (P 75 s) (nI k) = 0 ↔ A 7 (10 * s + k) = 0) := fun k hk => by
  obtain ⟨m, hm, e, hb⟩ := h s hs
  rw [e, hb_bt m hm k hk, hb k hk]
/-- a NODE is said in a style with the same words -/
theorem sy_same {u : Nat} (hu : u ≤ 120) {O : Nat → Int32} {P A : Nat → Nat → Int32} (h1 : O 1 = nI u) (hT : tbI 0 u A) (hN : NR u P A) (hk : kpR P A) {s n : Nat} (hs : s < 8) (hn : n < u) : syL O P s n = wdW A s 40 (nI n) := by
  obtain ⟨k, hk9, h0⟩ := rN_kd (hT n (Nat.zero_le _) hn)
  have := tl_wd hu hT hN (kp_hb hk hs) 40 (nI n) (pt_of hT (Nat.zero_le _) hn) (hbW (P 75 s) (P 2 n)) (by rw [kpI_n (by omega) hk9 h0, (hN n hn).1, h0]; exact kp_hb hk hs k hk9)
  rw [cvI_nI (by omega)] at this
  show tlW (O 1) (P 75 s) (Int32.ofInt 0) P 41 (nI n) (hbW (P 75 s) (P 2 n)) = _
  rw [h1]
  exact this
/-- listen -/
theorem listen_ok {u h : Nat} (hu : u ≤ 120) (hh : h ≤ 20) {O O' : Nat → Int32} {P P' : Nat → Nat → Int32} {o o' : Nat → Int32} {A A' : Nat → Nat → Int32} {x y R R' : Int32} (s : SS u h O P o A) (hT : tbI 0 u A) (hk : kpR P A) (c : spV O P O' P') (m : eX o A o' A') (g : clR O P u x y O' P' R) (g' : mlR o A u x y o' A' R') : R = R' ∧ ∃ h', h' ≤ 20 ∧ SS u h' O' P' o' A' := by
  have fr : ∀ h', O' 9 = nI h' → o' 10 = nI h' → (∀ i, i < h' → P' 32 i = A' 8 i) → SS u h' O' P' o' A' := fun h' e9 e10 e => SS_ear hu s (c.1 1 (by decide)) (c.1 13 (by decide)) (fun i h1 h2 => c.2 i (by omega) (by omega) (by omega)) (c.2 56 (by decide) (by decide) (by decide)) (m.2.1 0 (by decide) (by decide)) (m.2.1 30 (by decide) (by decide)) (fun r hr => m.2.2 r (by omega) (by omega) (by omega)) (m.2.2 20 (by decide) (by decide) (by decide)) (m.2.2 7 (by decide) (by decide) (by decide)) e9 e10 e
  have same : sameE O P O' P' → sameM o A o' A' → ∃ h', h' ≤ 20 ∧ SS u h' O' P' o' A' := fun a b => ⟨h, hh, fr h (a.1.trans s.2.2.2.1) (b.1.trans s.2.2.2.2.1) (fun i hi => by rw [a.2, b.2]; exact s.2.2.2.2.2.1 i hi)⟩
  rcases g with ⟨r, q, e⟩ | ⟨sy, n, hs, hn, ex, ey, g⟩
  · rcases g' with ⟨r', _, e'⟩ | ⟨s', n', hs', hn', ex', ey', _⟩
    · exact ⟨r.trans r'.symm, same e e'⟩
    · exact absurd ⟨by rw [ex', nI_toInt (by omega)]; omega, by rw [ey', nI_toInt (by omega)]; omega, by rw [ey', nI_toInt (by omega)]; omega⟩ q
  · rcases g' with ⟨_, q, _⟩ | ⟨s', n', hs', hn', ex', ey', g'⟩
    · exact absurd ⟨by rw [ex, nI_toInt (by omega)]; omega, by rw [ey, nI_toInt (by omega)]; omega, by rw [ey, nI_toInt (by omega)]; omega⟩ q
    · have e1 : sy = s' := (nI_eq (by omega) (by omega)).mp (ex.symm.trans ex')
      have e2 : n = n' := (nI_eq (by omega) (by omega)).mp (ey.symm.trans ey')
      subst e1 e2
      rw [sy_same hu s.1 hT s.2.2.1 hk hs hn] at g
      rcases g with ⟨r, q, e⟩ | ⟨q, g⟩
      · rcases g' with ⟨r', _, e'⟩ | ⟨q', _⟩
        · exact ⟨r.trans r'.symm, same e e'⟩
        · omega
      · rcases g' with ⟨_, q', _⟩ | ⟨_, g'⟩
        · omega
        · rcases g with ⟨w, r, e⟩ | ⟨w, r, e9, hp⟩
          · rcases g' with ⟨_, r', e'⟩ | ⟨w', _⟩
            · exact ⟨r.trans r'.symm, same e e'⟩
            · omega
          · rcases g' with ⟨w', _⟩ | ⟨_, r', e10, hm⟩
            · omega
            · exact ⟨r.trans r'.symm, _, w, fr _ e9 e10 (has_eq hp hm)⟩
/-- fewest -/
theorem fewest_ok {u h : Nat} (hu : u ≤ 120) (hh : h ≤ 20) {O O' : Nat → Int32} {P P' : Nat → Nat → Int32} {o o' : Nat → Int32} {A A' : Nat → Nat → Int32} {x R R' : Int32} (s : SS u h O P o A) (hT : tbI 0 u A) (hf : fnR O A) (c : spV O P O' P') (m : fwX o A o' A') (g : cfR O P u x O' P' R) (g' : fwR A u h x o' A' R' (o' = o ∧ A' = A)) : R = R' ∧ ∃ h', h' ≤ 20 ∧ SS u h' O' P' o' A' := by
  obtain ⟨fm, hm, e0, hb⟩ := hf
  have fr : ∀ h', O' 9 = nI h' → o' 10 = nI h' → (∀ i, i < h' → P' 32 i = A' 8 i) → SS u h' O' P' o' A' := fun h' e9 e10 e => SS_ear hu s (c.1 1 (by decide)) (c.1 13 (by decide)) (fun i h1 h2 => c.2 i (by omega) (by omega) (by omega)) (c.2 56 (by decide) (by decide) (by decide)) (m.2.1 0 (by decide) (by decide) (by decide)) (m.2.1 30 (by decide) (by decide) (by decide)) (fun r hr => m.2.2 r (by omega) (by omega) (by omega)) (m.2.2 20 (by decide) (by decide) (by decide)) (m.2.2 7 (by decide) (by decide) (by decide)) e9 e10 e
  have same : sameE O P O' P' → (o' = o ∧ A' = A) → ∃ h', h' ≤ 20 ∧ SS u h' O' P' o' A' := fun a b => ⟨h, hh, fr h (a.1.trans s.2.2.2.1) (by rw [b.1]; exact s.2.2.2.2.1) (fun i hi => by rw [a.2, b.2]; exact s.2.2.2.2.2.1 i hi)⟩
  rcases g with ⟨r, q, e⟩ | ⟨n, hn, ex, g⟩
  · rcases g' with ⟨r', _, e'⟩ | ⟨n', hn', ex', _⟩
    · exact ⟨r.trans r'.symm, same e e'⟩
    · exact absurd ⟨by rw [ex', nI_toInt (by omega)]; omega, by rw [ex', nI_toInt (by omega)]; omega⟩ q
  · rcases g' with ⟨_, q, _⟩ | ⟨n', hn', ex', g'⟩
    · exact absurd ⟨by rw [ex, nI_toInt (by omega)]; omega, by rw [ex, nI_toInt (by omega)]; omega⟩ q
    · have e2 : n = n' := (nI_eq (by omega) (by omega)).mp (ex.symm.trans ex')
      subst e2
      have hp := pt_of hT (Nat.zero_le _) hn
      have rt := rt_bits hu hT s.2.2.1 hm hb 40 (nI n) hp
      rw [cvI_nI (by omega), pvI_nI _ (by omega), pvI_nI _ (by omega), ← e0] at rt
      have kb := ch_kb hu hT s.2.2.1 40 (nI n) hp
      rw [cvI_nI (by omega), pvI_nI _ (by omega)] at kb
      have kl := kbW_le (by omega) hT 40 n hn (rN_sz (hT n (Nat.zero_le _) hn)).2.1
      have sz := (rN_sz (hT n (Nat.zero_le _) hn)).2.1
      have k8 : P 9 n ≤ c8 8 ↔ kbW A 40 (nI n) ≤ 8 := by
        rw [kb]
        exact nI_leI (b := 8) (by omega) (by decide)
      rw [rt, k8] at g
      rcases g with ⟨r, q, e⟩ | ⟨q, g⟩
      · rcases g' with ⟨r', _, e'⟩ | ⟨q', _⟩
        · exact ⟨r.trans r'.symm, same e e'⟩
        · exact absurd q' q
      · rcases g' with ⟨_, q', _⟩ | ⟨_, g'⟩
        · exact absurd q q'
        · rcases g with ⟨r, w, e⟩ | ⟨w, g⟩
          · rcases g' with ⟨r', _, e'⟩ | ⟨w', _⟩
            · exact ⟨r.trans r'.symm, same e e'⟩
            · exact absurd w' w
          · rcases g' with ⟨_, w', _⟩ | ⟨_, g'⟩
            · omega
            · have f := few_same hu hT s.2.2.1 hn w (kk := O 4) g'
              have eL : spL O P n = tlW (nI u) (O 4) (Int32.ofInt 1) P 41 (nI n) (Int32.ofInt 0) := by
                show tlW (O 1) (O 4) (Int32.ofInt 1) P 41 (nI n) (Int32.ofInt 0) = _
                rw [s.1]
              rw [eL] at g
              rcases g with ⟨v, r, e⟩ | ⟨v, r, e9, hp9⟩
              · rcases f with ⟨v', _⟩ | ⟨_, r', e10, e8⟩
                · omega
                · exact ⟨r.trans r'.symm, h, hh, fr h (e.1.trans s.2.2.2.1) e10 (fun i hi => by rw [e.2, e8 i hi]; exact s.2.2.2.2.2.1 i hi)⟩
              · rcases f with ⟨_, r', e10, h8⟩ | ⟨v', _⟩
                · exact ⟨r.trans r'.symm, _, v, fr _ e9 e10 (has_eq hp9 h8)⟩
                · omega
end
section
/-! hear, hush, leaf, node, undo, walk: the same state again -/
theorem SS_lv {u u' h : Nat} {O : Nat → Int32} {P : Nat → Nat → Int32} {o : Nat → Int32} {A : Nat → Nat → Int32} (s : SS u h O P o A) (hu : u' ≤ u) : SS u' h (upd O 1 (nI u')) P (upd o 0 (nI u')) A := SS_page s (NR_le s.2.2.1 hu) (fun _ _ => rfl) (fun _ _ => rfl)
/-- hush -/
theorem hush_ok {u h : Nat} (hu : u ≤ 120) {O : Nat → Int32} {P : Nat → Nat → Int32} {o : Nat → Int32} {A : Nat → Nat → Int32} (s : SS u h O P o A) : O 9 = o 10 ∧ SS u 0 (upd O 9 (Int32.ofInt 0)) P (upd o 10 (Int32.ofInt 0)) A :=
  ⟨s.2.2.2.1.trans s.2.2.2.2.1.symm, SS_ear hu s rfl rfl (fun _ _ _ => rfl) rfl rfl rfl (fun _ _ => rfl) rfl rfl rfl rfl (fun i hi => absurd hi (Nat.not_lt_zero i))⟩
theorem hear_st {u h n : Nat} (hu : u ≤ 120) {O : Nat → Int32} {P : Nat → Nat → Int32} {o : Nat → Int32} {A : Nat → Nat → Int32} (s : SS u h O P o A) (y : Int32) : SS u (h + n) (upd O 9 (nI (h + n))) (updA P 32 (heL y n (P 32) h)) (upd o 10 (nI (h + n))) (updA A 8 (heL y n (A 8) h)) :=
  SS_ear hu s rfl rfl (fun i h1 h2 => updA_ne _ _ (by omega)) rfl rfl rfl (fun r hr => updA_ne _ _ (by omega)) rfl rfl rfl rfl (fun i hi => by
    rw [updA_self, updA_self]
    exact heL_e y n _ _ h s.2.2.2.2.2.1 i hi)
theorem stC_ne1 (P : Nat → Nat → Int32) (u : Nat) (k v x y sh : Int32) {i : Nat} (h : ¬ (1 < i ∧ i ≤ 13)) : stC 1 P u k v x y sh i = P i := stC_o (by omega)
theorem sets_ne6 (A : Nat → Nat → Int32) (u : Nat) (k v x y : Int32) {r : Nat} (h : 6 ≤ r) : setsA A u k v x y r = A r := by
  show updA _ 5 _ r = _
  rw [updA_ne _ _ (by omega), updA_ne _ _ (by omega), updA_ne _ _ (by omega), updA_ne _ _ (by omega), updA_ne _ _ (by omega), updA_ne _ _ (by omega)]
/-- leaf -/
theorem leaf_ok {u h : Nat} (hu : u < 120) {O : Nat → Int32} {P : Nat → Nat → Int32} {o : Nat → Int32} {A : Nat → Nat → Int32} (s : SS u h O P o A) {k v : Int32} (sh : Int32) (g : lfG k v) : SS (u + 1) h (upd O 1 (nI (u + 1))) (stC 1 P u k v m1 m1 sh) (upd o 0 (nI (u + 1))) (setsA A u k v m2 m2) :=
  SS_page s (leaf_NR hu s.2.2.1 g) (fun _ q => stC_ne1 _ _ _ _ _ _ _ q) (fun _ q => sets_ne6 _ _ _ _ _ _ q)
theorem node_ok {u h : Nat} (hu : u < 120) {O : Nat → Int32} {P : Nat → Nat → Int32} {o : Nat → Int32} {A : Nat → Nat → Int32} (s : SS u h O P o A) {k x y : Int32} (sh : Int32) (g : ndG u k x y) : SS (u + 1) h (upd O 1 (nI (u + 1))) (stC 1 P u k (ndv m1 k y) x (ndy m1 k y) sh) (upd o 0 (nI (u + 1))) (setsA A u k (ndv m2 k y) x (ndy m2 k y)) :=
  SS_page s (node_NR hu s.2.2.1 g) (fun _ q => stC_ne1 _ _ _ _ _ _ _ q) (fun _ q => sets_ne6 _ _ _ _ _ _ q)
theorem nd_at {u : Nat} (hu : u ≤ 120) {P A : Nat → Nat → Int32} (n : NR u P A) {x : Int32} (h : isN u x) : P 6 x.toNatClampNeg = A 4 x.toNatClampNeg := by
  obtain ⟨a, ha, e⟩ := isN_n hu h
  have : x.toNatClampNeg = a := by
    show x.toInt.toNat = a
    rw [e, nI_toInt (by omega)]
    omega
  rw [this]
  exact (n a ha).2.2.2.2.1
theorem ndS_same {u : Nat} (hu : u ≤ 120) {P A : Nat → Nat → Int32} (n : NR u P A) {k x y : Int32} (g : ndG u k x y) : ndS (P 6) k x y = ndS (A 4) k x y := by
  unfold ndS
  rw [nd_at hu n g.2.1]
  split
  · rename_i q
    rw [nd_at hu n (g.2.2.1 q)]
  · rfl
/-- undo -/
theorem undo_same {u h : Nat} {O : Nat → Int32} {P : Nat → Nat → Int32} {o : Nat → Int32} {A : Nat → Nat → Int32} (s : SS u h O P o A) : (O 13 = 1 ∧ P 56 0 = nI (u - 1)) ↔ (o 30 = 1 ∧ A 20 0 = nI (u - 1)) := by
  have e := s.2.2.2.2.2.2.1
  have f := s.2.2.2.2.2.2.2.1
  constructor
  · rintro ⟨a, b⟩
    exact ⟨by rw [← e]; exact a, by rw [← f a]; exact b⟩
  · rintro ⟨a, b⟩
    have a' : O 13 = 1 := by rw [e]; exact a
    exact ⟨a', by rw [f a']; exact b⟩
/-- walk -/
theorem walk_ok {u h : Nat} (hu : u ≤ 120) {O : Nat → Int32} {P : Nat → Nat → Int32} {o : Nat → Int32} {A : Nat → Nat → Int32} (s : SS u h O P o A) (x : Int32) : SS u h (upd (upd O 13 (Int32.ofInt 1)) 14 (Int32.ofInt 0)) (updA P 56 (upd (P 56) 0 x)) (upd (upd o 30 (Int32.ofInt 1)) 33 (Int32.ofInt 0)) (updA A 20 (upd (A 20) 0 x)) := by
  obtain ⟨s1, s2, s3, s4, s5, s6, s7, s8, s9⟩ := s
  refine ⟨s1, s2, NR_fr hu s3 (fun i h1 h2 _ j _ => by rw [updA_ne _ _ (by omega)]) (fun r hr j hj => by rw [updA_ne _ _ (by omega)]), s4, s5, s6, rfl, fun _ => ?_, kp0_r s9 rfl⟩
  rw [updA_self, updA_self, upd_self, upd_self]
end
section
/-! write, keeps, means: the same state again -/
theorem ea_of {u h : Nat} {O : Nat → Int32} {P : Nat → Nat → Int32} {o : Nat → Int32} {A : Nat → Nat → Int32} (s : SS u h O P o A) (hw : nnW h (A 8)) : eaR h P (eW A) := fun i hi => by
  rw [s.2.2.2.2.2.1 i hi]
  exact eW_of hw hi
theorem gf_of {O : Nat → Int32} {A : Nat → Nat → Int32} (h : fnR O A) : gfR (O 0) (A 6) := fun v hv => by
  obtain ⟨m, hm, e, hb⟩ := h
  rw [e, hb_bt m hm v hv, hb v hv]
theorem bt_1 (m k : Nat) : decide (bt m k = nI 1) = m.testBit k := by
  unfold bt
  cases m.testBit k <;> decide
theorem bt_0 (m k : Nat) : decide (bt m k = nI 0) = !m.testBit k := by
  unfold bt
  cases m.testBit k <;> decide
theorem sy_of {P A : Nat → Nat → Int32} (h : kpR P A) : ∀ s, s ≤ 8 → syR P s (ltW A s) := fun s hs => by
  unfold syR
  split
  · rename_i e
    intro k _
    rw [ltW_8 e, ltW_8 e]
    exact ⟨rfl, rfl⟩
  · rename_i e
    obtain ⟨m, hm, q, hb⟩ := h s (by omega)
    refine ⟨m, hm, q, fun k hk => ?_⟩
    rw [ltW_n e, ltW_n e, hb k hk]
    exact ⟨bt_1 m k, bt_0 m k⟩
/-- both tables count the same -/
theorem L_same {h : Nat} (hh : h ≤ 20) {A : Nat → Nat → Int32} {s : Nat} {Y Y1 J1 : Nat → Nat → Int64} (z : okZ Y h (eW A) (A 6) (ltW A s) Y1 (h + 1) 0) (j : okJ h A s J1) : ∀ a b, a < b → b ≤ h → lY Y1 a b = lW J1 a b := fun a b h1 h2 => by
  have eJ : ∀ i j, i < j → j ≤ h → lW J1 i j = csW (mG (eW A) (A 6) (ltW A s) (lW J1) i j) 20 := fun i k q1 q2 => (okS_l (j i k q1 q2)).1
  exact L_uq (E := eW A) (G := A 6) (lt := ltW A s) (h := h) (fun i k q1 q2 => (z.1 i k q1 q2 (Or.inl (by omega))).2.1) (fun i k q1 q2 => (L_le hh eJ (k - i) i k q1 q2 (Nat.le_refl _)).2) (b - a) a b h1 h2 (Nat.le_refl _)
theorem ct_same {h : Nat} (hh : h ≤ 20) {A : Nat → Nat → Int32} {s : Nat} {Y Y1 J1 : Nat → Nat → Int64} (z : okZ Y h (eW A) (A 6) (ltW A s) Y1 (h + 1) 0) (j : okJ h A s J1) : ctY h Y1 = ctW h J1 := by
  unfold ctY ctW
  split
  · rfl
  · exact L_same hh z j 0 h (by omega) (Nat.le_refl _)
/-- NODES, where other fields and tables may have changed -/
theorem SS_pg {u u' h : Nat} {O O' : Nat → Int32} {P P' : Nat → Nat → Int32} {o o' : Nat → Int32} {A A' : Nat → Nat → Int32} (s : SS u h O P o A) (n : NR u' P' A') (c1 : O' 1 = nI u') (c2 : O' 9 = O 9) (c3 : O' 13 = O 13) (c4 : P' 32 = P 32) (c5 : P' 56 = P 56) (m1' : o' 0 = nI u') (m2' : o' 10 = o 10) (m3 : o' 30 = o 30) (m : ∀ r, 6 ≤ r → A' r = A r) : SS u' h O' P' o' A' := by
  obtain ⟨s1, s2, s3, s4, s5, s6, s7, s8, s9⟩ := s
  exact ⟨c1, m1', n, c2.trans s4, m2'.trans s5, fun i hi => by rw [c4, m 8 (by decide)]; exact s6 i hi, by rw [c3, m3]; exact s7, fun e => by rw [c5, m 20 (by decide)]; exact s8 (by rw [← c3]; exact e), kp0_r s9 (m 7 (by decide))⟩
/-- write -/
theorem write_ok {u h : Nat} (hu : u ≤ 120) (hh : h ≤ 20) {O O' : Nat → Int32} {P P' : Nat → Nat → Int32} {o o' : Nat → Int32} {A A' : Nat → Nat → Int32} {Y : Nat → Nat → Int64} {x R R' : Int32} {z : Int64} (s : SS u h O P o A) (c : ∀ j, j ≠ 1 → j ≠ 2 → j ≠ 10 → j ≠ 11 → j ≠ 12 → O' j = O j) (m : ndY o u A o' A') (g : wrC O P Y (eW A) (A 6) (ltW A) u h x z O' P' R) (g' : wrM o A u h x z o' A' R') : R = R' ∧ ∃ u', u' ≤ 120 ∧ SS u' h O' P' o' A' := by
  have mk : ∀ u', NR u' P' A' → O' 1 = nI u' → o' 0 = nI u' → P' 32 = P 32 → P' 56 = P 56 → SS u' h O' P' o' A' := fun u' n e1 e0 e32 e56 => SS_pg s n e1 (c 9 (by decide) (by decide) (by decide) (by decide) (by decide)) (c 13 (by decide) (by decide) (by decide) (by decide) (by decide)) e32 e56 e0 (m.2.1 10 (by decide) (by decide) (by decide)) (m.2.1 30 (by decide) (by decide) (by decide)) m.2.2.1
  have same : O' 1 = nI u → o' 0 = nI u → (∀ i, ¬ (14 < i ∧ i ≤ 26) → P' i = P i) → ∃ u', u' ≤ 120 ∧ SS u' h O' P' o' A' := fun e1 e0 e => ⟨u, hu, mk u (NR_fr hu s.2.2.1 (fun i h1 h2 _ j _ => by rw [e i (by omega)]) (fun r _ j hj => m.2.2.2 r j hj)) e1 e0 (e 32 (by omega)) (e 56 (by omega))⟩
  rcases g with ⟨r, q, e1, ep⟩ | ⟨sy, Y1, hs, ex, z0, hZ, g⟩
  · rcases g' with ⟨r', _, e0⟩ | ⟨s', J1, hs', ex', z0', _⟩
    · exact ⟨r.trans r'.symm, same e1 e0 (fun i _ => by rw [ep])⟩
    · exact absurd ⟨⟨by rw [ex', nI_toInt (by omega)]; omega, by rw [ex', nI_toInt (by omega)]; omega⟩, z0'⟩ q
  · rcases g' with ⟨_, q, _⟩ | ⟨s', J1, hs', ex', z0', hJ, g'⟩
    · exact absurd ⟨⟨by rw [ex, nI_toInt (by omega)]; omega, by rw [ex, nI_toInt (by omega)]; omega⟩, z0⟩ q
    · have e1 : sy = s' := (nI_eq (by omega) (by omega)).mp (ex.symm.trans ex')
      subst e1
      have ec := ct_same hh hZ hJ
      have cl := ctW_le hJ
      unfold cap at cl
      rw [ec] at g
      rcases g with ⟨r, q, e1, ep⟩ | ⟨p, T, ez, hp, hT, g⟩
      · rcases g' with ⟨r', _, e0⟩ | ⟨p', T', ez', hp', _⟩
        · exact ⟨r.trans r'.symm, same e1 e0 (fun i _ => by rw [ep])⟩
        · exact absurd (by rw [ez']; exact (lN_ltJ (by omega) (by omega)).mpr hp') q
      · rcases g' with ⟨_, q, _⟩ | ⟨p', T', ez', hp', hT', g'⟩
        · exact absurd (by rw [ez]; exact (lN_ltJ (by omega) (by omega)).mpr hp) q
        · have e2 : p = p' := (lN_eqJ (by omega) (by omega)).mp (ez.symm.trans ez')
          subst e2
          have e3 : T = T' := RT_uq 20 0 h p T T' (RT_cg (L_same hh hZ hJ) 20 0 h p T (Nat.le_refl _) hT) hT'
          subst e3
          rcases g with ⟨r, w, e1, ep⟩ | ⟨r, w, e1, ep, P1, ep1, hl⟩
          · rcases g' with ⟨r', _, e0⟩ | ⟨_, w', _⟩
            · exact ⟨r.trans r'.symm, same e1 e0 ep⟩
            · omega
          · rcases g' with ⟨_, w', _⟩ | ⟨r', _, e0, A1, ea1, eA⟩
            · omega
            · have n1 : NR u P1 A1 := NR_fr hu s.2.2.1 (fun i h1 h2 _ j _ => by rw [ep1 i (by omega)]) (fun r _ j hj => ea1 r j (by omega))
              have n2 := (NR_ly 20 0 h p T hT u P1 A1 [] _ n1 w hl).1
              refine ⟨r.trans r'.symm, _, w, mk _ ?_ e1 e0 (ep 32 (by omega)) (ep 56 (by omega))⟩
              rw [eA]
              exact n2
end
section
/-! the law's invariant with the same state -/
theorem pg_NR {u : Nat} (hu : u ≤ 120) {P A : Nat → Nat → Int32} (n : NR u P A) (hT : tbI 0 u A) : pgB 1 u P := fun i hi => by
  obtain ⟨e0, _, e2, e3, e4, p4, p5, _⟩ := n i hi
  obtain ⟨k, z, h0, hk, h4, hz, hs, _⟩ := hT i (Nat.zero_le _) hi
  have sz : ∀ a, a < i → szq (P 6) (nI a) = szN A a := fun a ha => by
    rw [szq_nI _ (by omega)]
    show (P 6 a).toNatClampNeg = (A 4 a).toNatClampNeg
    rw [(n a (by omega)).2.2.2.2.1]
  have hz1 := (rN_sz (hT i (Nat.zero_le _) hi)).1
  rw [szN_of h4 hz] at hz1
  refine ⟨⟨k, hk, e0.trans h0⟩, p4, p5, z, e4.trans h4, hz1, hz, ?_⟩
  show 1 + szq (P 6) (P 4 i) + szq (P 6) (P 5 i) ≤ z
  rw [e2, e3]
  rcases hs with ⟨_, h2, h3, e⟩ | ⟨_, _, a, b, h2, _, ha, h3, _, hb, e⟩ | ⟨_, a, h2, _, ha, h3, e⟩
  · rw [h2, h3, cvI_m2, show szq (P 6) m1 = 0 from szq_m1 _]
    omega
  · rw [h2, h3, cvI_nI (by omega), cvI_nI (by omega), sz a ha, sz b hb]
    omega
  · rw [h2, h3, cvI_m2, cvI_nI (by omega), sz a ha, show szq (P 6) m1 = 0 from szq_m1 _]
    omega
def LI2 (O : Nat → Int32) (P : Nat → Nat → Int32) (Y : Nat → Nat → Int64) (o : Nat → Int32) (A : Nat → Nat → Int32) : Prop := LI O P Y o A ∧ ∃ u h, u ≤ 120 ∧ h ≤ 20 ∧ SS u h O P o A
theorem LI2_open {O : Nat → Int32} {P : Nat → Nat → Int32} {Y : Nat → Nat → Int64} {o : Nat → Int32} {A : Nat → Nat → Int32} (H : LI2 O P Y o A) : ∃ u h d d2, cI u h d O P Y ∧ mI u h d2 o A ∧ kpR P A ∧ fnR O A ∧ SS u h O P o A := by
  obtain ⟨⟨⟨u, l, d, hC⟩, ⟨u2, h2, d2, hM⟩, hk, hf⟩, u3, h3, b1, b2, s⟩ := H
  have c1 := hC.1
  have c2 := hC.2.2.2.1
  have k1 := hM.1
  have k2 := hM.2.2.2.2.1
  have e1 : u = u3 := (nI_eq (by omega) (by omega)).mp (hC.2.1.symm.trans s.1)
  have e2 : u2 = u3 := (nI_eq (by omega) (by omega)).mp (hM.2.1.symm.trans s.2.1)
  have e3 : l = h3 := (nI_eq (by omega) (by omega)).mp (hC.2.2.2.2.1.symm.trans s.2.2.2.1)
  have e4 : h2 = h3 := (nI_eq (by omega) (by omega)).mp (hM.2.2.2.2.2.1.symm.trans s.2.2.2.2.1)
  subst e1 e2 e3 e4
  exact ⟨_, _, d, d2, hC, hM, hk, hf, s⟩
theorem kp0_0 : kp0 A00 := fun s hs => by
  match s, hs with
  | 0, _ => decide +kernel
  | 1, _ => decide +kernel
  | 2, _ => decide +kernel
  | 3, _ => decide +kernel
  | 4, _ => decide +kernel
  | 5, _ => decide +kernel
  | 6, _ => decide +kernel
  | 7, _ => decide +kernel
  | s + 8, h => exact absurd h (by omega)
theorem LI2_0 : LI2 O00 P00 (fun _ _ => 0) o00 A00 := ⟨LI_0, 0, 0, by decide, by decide, rfl, rfl, fun n hn => absurd hn (Nat.not_lt_zero n), rfl, rfl, fun i hi => absurd hi (Nat.not_lt_zero i), rfl, fun e => absurd e (by decide), kp0_0⟩
/-- a call that leaves the same state -/
theorem LI2_fr {O O' : Nat → Int32} {P P' : Nat → Nat → Int32} {Y Y' : Nat → Nat → Int64} {o o' : Nat → Int32} {A A' : Nat → Nat → Int32} {u h : Nat} (H : LI2 O P Y o A) (hu : u ≤ 120) (hh : h ≤ 20) (s : SS u h O P o A) (c : cInv O' P' Y' ∧ cSt O P O' P') (m : mInv o' A' ∧ mSt A A') (ce : cE O P O' P') (me : mE u o A o' A') : LI2 O' P' Y' o' A' := ⟨LI_mk H.1 c m, u, h, hu, hh, SS_fr hu s ce me⟩
/-- a call that changes both alike -/
theorem LI2_mk {O O' : Nat → Int32} {P P' : Nat → Nat → Int32} {Y Y' : Nat → Nat → Int64} {o o' : Nat → Int32} {A A' : Nat → Nat → Int32} {u h d u' h' : Nat} (H : LI2 O P Y o A) (hC : cI u h d O P Y) (hu : u ≤ u') (hu' : u' ≤ 120) (hh' : h' ≤ 20) (s : SS u' h' O' P' o' A') (m : mInv o' A' ∧ mSt A A') (cs : cSt O P O' P') (hY : wyI Y') (h13 : O' 13 = O 13) (h14 : O' 14 = O 14) (h56 : P' 56 = P 56) (hs : ∀ j, 20 ≤ j → O' j = O j) : LI2 O' P' Y' o' A' := by
  obtain ⟨u2, h2, d2, hM⟩ := id m.1
  have k1 := hM.1
  have e2 : u2 = u' := (nI_eq (by omega) (by omega)).mp (hM.2.1.symm.trans s.2.1)
  subst e2
  refine ⟨LI_mk H.1 ⟨⟨u2, h', d, cI_mk hC hu hu' s.1 (pg_NR hu' s.2.2.1 hM.2.2.1) hh' s.2.2.2.1 hY h13 h14 h56 (fun t ht => ?_)⟩, cs⟩ m, u2, h', hu', hh', s⟩
  rw [hs _ (by omega)]
  exact hC.2.2.2.2.2.2.2.2.2.2 t ht
theorem keeps_SS {u h : Nat} (hu : u ≤ 120) {O : Nat → Int32} {P : Nat → Nat → Int32} {o : Nat → Int32} {A : Nat → Nat → Int32} (s : SS u h O P o A) {y k : Nat} (hk : 2 ≤ k ∧ k ≤ 9) (hk8 : k ≠ 8) (R : Nat → Int32) (on : Int32) : SS u h O (updA P 75 R) o (updA A 7 (upd (A 7) (10 * y + k) on)) := by
  obtain ⟨s1, s2, s3, s4, s5, s6, s7, s8, s9⟩ := s
  refine ⟨s1, s2, NR_fr hu s3 (fun i h1 h2 _ j _ => by rw [updA_ne _ _ (by omega)]) (fun r hr j hj => by rw [updA_ne _ _ (by omega)]), s4, s5, s6, s7, s8, fun t ht => ?_⟩
  rw [updA_self]
  have := s9 t ht
  exact ⟨by rw [upd_ne _ _ (by omega)]; exact this.1, by rw [upd_ne _ _ (by omega)]; exact this.2.1, by rw [upd_ne _ _ (by omega)]; exact this.2.2⟩
theorem means_SS {u h : Nat} (hu : u ≤ 120) {O : Nat → Int32} {P : Nat → Nat → Int32} {o : Nat → Int32} {A : Nat → Nat → Int32} (s : SS u h O P o A) (x : Int32) (R : Nat → Int32) : SS u h (upd O 0 x) P o (updA A 6 R) :=
  SS_fr hu s ⟨rfl, rfl, rfl, fun _ _ _ => rfl, rfl, fun _ => rfl⟩ ⟨rfl, rfl, rfl, fun r i hr _ => by rw [updA_ne _ _ (by omega)], rfl, fun _ => rfl, rfl⟩
end
section
/-! frames of the calls that leave the same state -/
theorem spT_W {O O' : Nat → Int32} {P P' : Nat → Nat → Int32} {l : Nat} (hl : l ≤ 20) (h9 : O 9 = nI l) (q : spT O P O' P') : spW O P O' P' := ⟨⟨l, hl, (q.1 9 (by decide)).trans h9⟩, fun j hj => q.1 j (by omega), fun i h1 h2 _ => q.2 i h1 h2⟩
theorem cE_sp {O O' : Nat → Int32} {P P' : Nat → Nat → Int32} (q : spT O P O' P') : cE O P O' P' := ⟨q.1 1 (by decide), q.1 9 (by decide), q.1 13 (by decide), fun i _ h2 => q.2 i (by omega) (by omega), q.2 32 (by decide) (by decide), fun _ => by rw [q.2 56 (by decide) (by decide)]⟩
theorem cE_13 (O : Nat → Int32) (P : Nat → Nat → Int32) (R : Nat → Int32) : cE O P O (updA P 13 R) := ⟨rfl, rfl, rfl, fun i _ h2 => updA_ne _ _ (by omega), rfl, fun _ => rfl⟩
theorem cE_ty {O O' : Nat → Int32} {P : Nat → Nat → Int32} (q : ∀ j, j ≠ 10 → j ≠ 11 → j ≠ 12 → O' j = O j) : cE O P O' P := ⟨q 1 (by decide) (by decide) (by decide), q 9 (by decide) (by decide) (by decide), q 13 (by decide) (by decide) (by decide), fun _ _ _ => rfl, rfl, fun _ => rfl⟩
theorem cE_Fr {O O' : Nat → Int32} {P P' : Nat → Nat → Int32} (q : cFr O P O' P') : cE O P O' P' := by
  obtain ⟨e, q⟩ := q
  subst e
  exact cE_ty q
theorem cFr_St {O O' : Nat → Int32} {P P' : Nat → Nat → Int32} {Y' : Nat → Nat → Int64} (q : cInv O' P' Y' ∧ cFr O P O' P') : cInv O' P' Y' ∧ cSt O P O' P' := ⟨q.1, q.2.2 0 (by decide) (by decide) (by decide), by rw [q.2.1]⟩
theorem cE_sh {O O' : Nat → Int32} {P P' : Nat → Nat → Int32} {s : Nat} (q : shW O P s O' P') : cE O P O' P' := ⟨q.1 1 (by omega), q.1 9 (by omega), q.1 13 (by omega), fun i _ h2 => q.2.1 i (by omega), q.2.1 32 (by omega), fun _ => by
  by_cases e : 56 = 60 + 2 * s
  · omega
  · rw [q.2.1 56 e]⟩
theorem cE_db {O O' : Nat → Int32} {P P' : Nat → Nat → Int32} {Y' : Nat → Nat → Int64} (q : dbC O P O' P' Y') : cE O P O' P' := ⟨q.2.1 1 (by decide) (by decide) (by decide) (by decide), q.2.1 9 (by decide) (by decide) (by decide) (by decide), q.2.1 13 (by decide) (by decide) (by decide) (by decide), fun i _ h2 => q.2.2 i (by omega), q.2.2 32 (by omega), fun _ => by rw [q.2.2 56 (by omega)]⟩
theorem cI_db {O O' : Nat → Int32} {P P' : Nat → Nat → Int32} {Y Y' : Nat → Nat → Int64} {u l d : Nat} (h : cI u l d O P Y) (q : dbC O P O' P' Y') : cInv O' P' Y' ∧ cSt O P O' P' :=
  cI_gr h ⟨q.1, ⟨u, (q.2.1 1 (by decide) (by decide) (by decide) (by decide)).trans h.2.1, Nat.le_refl _, h.1, pgB_row h.2.2.1 (fun i hi => q.2.2 i (by omega))⟩, fun j _ h2 h3 h4 h5 => q.2.1 j h2 h3 h4 h5, fun i hi => q.2.2 i (by omega)⟩
theorem cE_go {O : Nat → Int32} {P : Nat → Nat → Int32} {u d' : Nat} {N D : Nat → Int32} (q : O 13 = 1 → ∃ t, (t < u ∧ P 56 0 = nI t) ∧ rtN t d' N) : cE O P (upd O 14 (nI d')) (updA (updA P 56 N) 57 D) := ⟨rfl, rfl, rfl, fun i _ h2 => by rw [updA_ne _ _ (by omega), updA_ne _ _ (by omega)], rfl, fun e => by
  obtain ⟨t, ⟨_, h0⟩, r⟩ := q e
  rw [updA_ne _ _ (by decide), updA_self, h0]
  exact r.1⟩
theorem top_N {b : Prop} {u : Nat} {x : Int32} {R : Nat → Prop} (q : b → ∃ t, (t < u ∧ x = nI t) ∧ R t) : b → ∃ t, t < u ∧ R t := fun h => by
  obtain ⟨t, a, r⟩ := q h
  exact ⟨t, a.1, r⟩
theorem mE_q {o o' : Nat → Int32} {A A' : Nat → Nat → Int32} (u : Nat) (q : qX o A o' A') : mE u o A o' A' := ⟨q.1 0 (by decide), q.1 10 (by decide), q.1 30 (by decide), fun r i hr _ => by rw [q.2 r (by omega) (by omega)], q.2 8 (by decide) (by decide), fun _ => by rw [q.2 20 (by decide) (by decide)], q.2 7 (by decide) (by decide)⟩
theorem mE_cl {o o' : Nat → Int32} {A A' : Nat → Nat → Int32} {u : Nat} (hu : u ≤ 120) (q : clX o A o' A') : mE u o A o' A' := ⟨q.1 0 (by decide), q.1 10 (by decide), q.1 30 (by decide), fun r i hr hi => q.2.1 r i (by omega) (by omega), q.2.2 8 (by decide) (by decide), fun _ => by rw [q.2.2 20 (by decide) (by decide)], q.2.2 7 (by decide) (by decide)⟩
theorem mE_o {o o' : Nat → Int32} (A : Nat → Nat → Int32) (u : Nat) (q : ∀ j, j ≠ 16 → j ≠ 28 → o' j = o j) : mE u o A o' A := ⟨q 0 (by decide) (by decide), q 10 (by decide) (by decide), q 30 (by decide) (by decide), fun _ _ _ _ => rfl, rfl, fun _ => rfl, rfl⟩
theorem mE_sh {o o' : Nat → Int32} {A A' : Nat → Nat → Int32} (u : Nat) (q : shM o A o' A') : mE u o A o' A' := ⟨q.1 0 (by decide), q.1 10 (by decide), q.1 30 (by decide), fun r i hr _ => by rw [q.2.1 r (by omega) (by omega)], q.2.1 8 (by decide) (by decide), fun _ => by rw [q.2.1 20 (by decide) (by decide)], q.2.1 7 (by decide) (by decide)⟩
theorem mE_db {o o' : Nat → Int32} {A A' : Nat → Nat → Int32} {u : Nat} (h0 : o 0 = nI u) (q : dbM o u A o' A') : mE u o A o' A' := ⟨q.1.1.trans h0.symm, q.2.1 10 (by decide) (by decide) (by decide), q.2.1 30 (by decide) (by decide) (by decide), fun r i _ hi => q.2.2.2 r i hi, q.2.2.1 8 (by decide), fun _ => by rw [q.2.2.1 20 (by decide)], q.2.2.1 7 (by decide)⟩
theorem mI_db {o o' : Nat → Int32} {A A' : Nat → Nat → Int32} {u h d : Nat} (H : mI u h d o A) (q : dbM o u A o' A') : mInv o' A' ∧ mSt A A' := mI_y H ⟨⟨u, Nat.le_refl _, H.1, q.1.1, q.1.2⟩, q.2.1, q.2.2.1, q.2.2.2⟩
theorem mE_go {o : Nat → Int32} {A : Nat → Nat → Int32} {u d' : Nat} {N D : Nat → Int32} (q : o 30 = 1 → ∃ t, (t < u ∧ A 20 0 = nI t) ∧ rtM A t d' N) : mE u o A (upd o 33 (nI d')) (updA (updA A 20 N) 21 D) := ⟨rfl, rfl, rfl, fun r i hr _ => by rw [updA_ne _ _ (by omega), updA_ne _ _ (by omega)], rfl, fun e => by
  obtain ⟨t, ⟨_, h0⟩, r⟩ := q e
  rw [updA_ne _ _ (by decide), updA_self, h0]
  exact r.1, rfl⟩
end
section
/-! the law's invariant after each call that changes both -/
theorem sets_lt (A : Nat → Nat → Int32) {u i : Nat} (k v x y : Int32) (r : Nat) (h : i < u) : setsA A u k v x y r i = A r i := by
  unfold setsA updA
  have e : i ≠ u := by omega
  by_cases h5 : r = 5
  · rw [if_pos h5, upd_ne _ _ e, h5]
  · rw [if_neg h5]
    by_cases h4 : r = 4
    · rw [if_pos h4, upd_ne _ _ e, h4]
    · rw [if_neg h4]
      by_cases h3 : r = 3
      · rw [if_pos h3, upd_ne _ _ e, h3]
      · rw [if_neg h3]
        by_cases h2 : r = 2
        · rw [if_pos h2, upd_ne _ _ e, h2]
        · rw [if_neg h2]
          by_cases h1 : r = 1
          · rw [if_pos h1, upd_ne _ _ e, h1]
          · rw [if_neg h1]
            by_cases h0 : r = 0
            · rw [if_pos h0, upd_ne _ _ e, h0]
            · rw [if_neg h0]
theorem page_LI {O : Nat → Int32} {P P' : Nat → Nat → Int32} {Y : Nat → Nat → Int64} {o : Nat → Int32} {A : Nat → Nat → Int32} {u h d d2 : Nat} (H : LI2 O P Y o A) (hC : cI u h d O P Y) (hM : mI u h d2 o A) (hu : u < 120) {k v x y : Int32} (qT : tbI 0 (u + 1) (setsA A u k v x y)) (s : SS (u + 1) h (upd O 1 (nI (u + 1))) P' (upd o 0 (nI (u + 1))) (setsA A u k v x y)) (e : ∀ i, ¬ (1 < i ∧ i ≤ 13) → P' i = P i) : LI2 (upd O 1 (nI (u + 1))) P' Y (upd o 0 (nI (u + 1))) (setsA A u k v x y) :=
  LI2_mk H hC (Nat.le_succ u) hu hC.2.2.2.1 s (mI_nd hM ⟨Nat.le_succ u, hu, qT, fun r hr => sets_ne6 _ _ _ _ _ _ hr, fun r i hi => sets_lt _ _ _ _ _ r hi⟩) ⟨rfl, e 75 (by omega)⟩ hC.2.2.2.2.2.1 rfl rfl (e 56 (by omega)) (fun j hj => upd_ne _ _ (by omega))
theorem leaf_LI {O : Nat → Int32} {P : Nat → Nat → Int32} {Y : Nat → Nat → Int64} {o : Nat → Int32} {A : Nat → Nat → Int32} {u h d d2 : Nat} (H : LI2 O P Y o A) (hC : cI u h d O P Y) (hM : mI u h d2 o A) (s : SS u h O P o A) {k v sh : Int32} (q : lfG k v ∧ u < 120) (qT : tbI 0 (u + 1) (setsA A u k v m2 m2)) : LI2 (upd O 1 (nI (u + 1))) (stC 1 P u k v m1 m1 sh) Y (upd o 0 (nI (u + 1))) (setsA A u k v m2 m2) :=
  page_LI H hC hM q.2 qT (leaf_ok q.2 s sh q.1) (fun _ w => stC_ne1 _ _ _ _ _ _ _ w)
theorem node_LI {O : Nat → Int32} {P : Nat → Nat → Int32} {Y : Nat → Nat → Int64} {o : Nat → Int32} {A : Nat → Nat → Int32} {u h d d2 : Nat} (H : LI2 O P Y o A) (hC : cI u h d O P Y) (hM : mI u h d2 o A) (s : SS u h O P o A) {k x y sh : Int32} (g : ndG u k x y) (hu : u < 120) (qT : tbI 0 (u + 1) (setsA A u k (ndv m2 k y) x (ndy m2 k y))) : LI2 (upd O 1 (nI (u + 1))) (stC 1 P u k (ndv m1 k y) x (ndy m1 k y) sh) Y (upd o 0 (nI (u + 1))) (setsA A u k (ndv m2 k y) x (ndy m2 k y)) :=
  page_LI H hC hM hu qT (node_ok hu s sh g) (fun _ w => stC_ne1 _ _ _ _ _ _ _ w)
theorem undo_LI {O : Nat → Int32} {P : Nat → Nat → Int32} {Y : Nat → Nat → Int64} {o : Nat → Int32} {A : Nat → Nat → Int32} {u h d d2 : Nat} (H : LI2 O P Y o A) (hC : cI u h d O P Y) (hM : mI u h d2 o A) (s : SS u h O P o A) (q : u ≠ 0 ∧ ¬ (O 13 = 1 ∧ P 56 0 = nI (u - 1))) (q' : u ≠ 0 ∧ ¬ (o 30 = 1 ∧ A 20 0 = nI (u - 1))) : LI2 (upd O 1 (nI (u - 1))) P Y (upd o 0 (nI (u - 1))) A :=
  ⟨LI_mk H.1 (cI_un hC (by have := q.1; omega) (fun a b => q.2 ⟨a, b⟩)) (mI_un hM (by have := q.1; omega) (fun a b => q'.2 ⟨a, b⟩)), u - 1, h, by have := hC.1; omega, hC.2.2.2.1, SS_lv s (by omega)⟩
theorem hush_LI {O : Nat → Int32} {P : Nat → Nat → Int32} {Y : Nat → Nat → Int64} {o : Nat → Int32} {A : Nat → Nat → Int32} {u h d d2 : Nat} (H : LI2 O P Y o A) (hC : cI u h d O P Y) (hM : mI u h d2 o A) (s : SS u h O P o A) : LI2 (upd O 9 (Int32.ofInt 0)) P Y (upd o 10 (Int32.ofInt 0)) A :=
  ⟨LI_mk H.1 (cI_hr (l' := 0) hC (by decide) (fun _ _ => rfl)) (mI_hu hM), u, 0, hC.1, by decide, (hush_ok hC.1 s).2⟩
theorem walk_LI {O : Nat → Int32} {P : Nat → Nat → Int32} {Y : Nat → Nat → Int64} {o : Nat → Int32} {A : Nat → Nat → Int32} {u h d d2 : Nat} (H : LI2 O P Y o A) (hC : cI u h d O P Y) (hM : mI u h d2 o A) (s : SS u h O P o A) {x : Int32} (q : isN u x) : LI2 (upd (upd O 13 (Int32.ofInt 1)) 14 (Int32.ofInt 0)) (updA P 56 (upd (P 56) 0 x)) Y (upd (upd o 30 (Int32.ofInt 1)) 33 (Int32.ofInt 0)) (updA A 20 (upd (A 20) 0 x)) := by
  obtain ⟨n, hn, e⟩ := isN_n hC.1 q
  subst e
  exact ⟨LI_mk H.1 (cI_wk hC hn) (mI_wk hM hn), u, h, hC.1, hC.2.2.2.1, walk_ok hC.1 s _⟩
theorem spV_W {O O' : Nat → Int32} {P P' : Nat → Nat → Int32} {l : Nat} (hl : l ≤ 20) (h9 : O' 9 = nI l) (q : spV O P O' P') : spW O P O' P' := ⟨⟨l, hl, h9⟩, q.1, q.2⟩
theorem listen_LI {O O' : Nat → Int32} {P P' : Nat → Nat → Int32} {Y : Nat → Nat → Int64} {o o' : Nat → Int32} {A A' : Nat → Nat → Int32} {u h d d2 : Nat} {x y R R' : Int32} (H : LI2 O P Y o A) (hC : cI u h d O P Y) (hM : mI u h d2 o A) (s : SS u h O P o A) (hk : kpR P A) (c : spV O P O' P') (m : eX o A o' A') (g : clR O P u x y O' P' R) (g' : mlR o A u x y o' A' R') : R = R' ∧ LI2 O' P' Y o' A' := by
  obtain ⟨e, h', hh', s'⟩ := listen_ok hC.1 hC.2.2.2.1 s hM.2.2.1 hk c m g g'
  exact ⟨e, LI_mk H.1 (cI_sp hC (spV_W hh' s'.2.2.2.1 c)) (mI_e hM m), u, h', hC.1, hh', s'⟩
theorem fewest_LI {O O' : Nat → Int32} {P P' : Nat → Nat → Int32} {Y : Nat → Nat → Int64} {o o' : Nat → Int32} {A A' : Nat → Nat → Int32} {u h d d2 : Nat} {x R R' : Int32} (H : LI2 O P Y o A) (hC : cI u h d O P Y) (hM : mI u h d2 o A) (s : SS u h O P o A) (hf : fnR O A) (c : spV O P O' P') (m : fwX o A o' A') (g : cfR O P u x O' P' R) (g' : fwR A u h x o' A' R' (o' = o ∧ A' = A)) : R = R' ∧ LI2 O' P' Y o' A' := by
  obtain ⟨e, h', hh', s'⟩ := fewest_ok hC.1 hC.2.2.2.1 s hM.2.2.1 hf c m g g'
  exact ⟨e, LI_mk H.1 (cI_sp hC (spV_W hh' s'.2.2.2.1 c)) (mI_f hM m), u, h', hC.1, hh', s'⟩
theorem wrC_P {O O' : Nat → Int32} {P P' : Nat → Nat → Int32} {Y : Nat → Nat → Int64} {E : Nat → Nat} {G : Nat → Int32} {lt : Nat → Nat → Nat → Bool} {u n : Nat} {x R : Int32} {z : Int64} (g : wrC O P Y E G lt u n x z O' P' R) : ∀ i, 26 < i → P' i = P i := fun i hi => by
  rcases g with ⟨_, _, _, e⟩ | ⟨_, _, _, _, _, _, ⟨_, _, _, e⟩ | ⟨_, _, _, _, _, ⟨_, _, _, e⟩ | ⟨_, _, _, e, _⟩⟩⟩
  · rw [e]
  · rw [e]
  · exact e i (by omega)
  · exact e i (by omega)
theorem write_LI {O O' : Nat → Int32} {P P' : Nat → Nat → Int32} {Y Y' : Nat → Nat → Int64} {o o' : Nat → Int32} {A A' : Nat → Nat → Int32} {u h d d2 : Nat} {x R R' : Int32} {z : Int64} (H : LI2 O P Y o A) (hC : cI u h d O P Y) (hM : mI u h d2 o A) (s : SS u h O P o A) (hY : wyI Y → wyI Y') (c : ∀ j, j ≠ 1 → j ≠ 2 → j ≠ 10 → j ≠ 11 → j ≠ 12 → O' j = O j) (m : ndY o u A o' A') (g : wrC O P Y (eW A) (A 6) (ltW A) u h x z O' P' R) (g' : wrM o A u h x z o' A' R') : R = R' ∧ LI2 O' P' Y' o' A' := by
  obtain ⟨e, u', hu', s'⟩ := write_ok hC.1 hC.2.2.2.1 s c m g g'
  have f := fun (j : Nat) (w : 13 ≤ j ∨ j = 0) => c j (by omega) (by omega) (by omega) (by omega) (by omega)
  obtain ⟨u2, w1, w2, w3, w4⟩ := id m.1
  have e2 : u2 = u' := (nI_eq (by omega) (by omega)).mp (w3.symm.trans s'.2.1)
  subst e2
  exact ⟨e, LI2_mk H hC w1 w2 hC.2.2.2.1 s' (mI_y hM m) ⟨f 0 (Or.inr rfl), wrC_P g 75 (by decide)⟩ (hY hC.2.2.2.2.2.1) (f 13 (by omega)) (f 14 (by omega)) (wrC_P g 56 (by decide)) (fun j hj => f j (by omega))⟩
theorem heL_nn (y : Int32) : ∀ (k : Nat) (g : Nat → Int32) (l : Nat), nnW l g → nnW (l + k) (heL y k g l)
  | 0, _, _, h => h
  | k + 1, g, l, h => by
    have := heL_nn y k (upd g l (dgV y k)) (l + 1) (fun i hi => by
      by_cases e : i = l
      · subst e
        rw [upd_self]
        exact (dgV_31 y k).2
      · rw [upd_ne _ _ e]
        exact h i (by omega))
    rw [show l + 1 + k = l + (k + 1) by omega] at this
    exact this
theorem hear_LI {O : Nat → Int32} {P : Nat → Nat → Int32} {Y : Nat → Nat → Int64} {o : Nat → Int32} {A : Nat → Nat → Int32} {u h d d2 n : Nat} (H : LI2 O P Y o A) (hC : cI u h d O P Y) (hM : mI u h d2 o A) (s : SS u h O P o A) (y : Int32) (hn : h + n ≤ 20) : LI2 (upd O 9 (nI (h + n))) (updA P 32 (heL y n (P 32) h)) Y (upd o 10 (nI (h + n))) (updA A 8 (heL y n (A 8) h)) :=
  ⟨LI_mk H.1 (cI_hr hC hn (fun i hi => updA_ne _ _ hi)) (mI_hr hM hn (heL_nn y n _ h hM.2.2.2.2.2.2.1)), u, h + n, hC.1, hn, hear_st hC.1 s y⟩
end
section
noncomputable def eN (A : Nat → Nat → Int32) : Nat → Int32 → Int32 → Nat
  | 0, _, _ => 0
  | z + 1, x, y => if x < 0 then 0 else (if A 0 (nC x) = A 0 (nC y) then eN A z (A 2 (nC x)) (A 2 (nC y)) + eN A z (A 3 (nC x)) (A 3 (nC y)) else 1)
end
section
theorem m1_n {a : Nat} (h : a < 2 ^ 31) : ¬ nI a = Int32.ofInt (-1) := fun e => by
  have : (nI a).toInt = (Int32.ofInt (-1)).toInt := by rw [e]
  rw [nI_toInt h, show (Int32.ofInt (-1)).toInt = -1 from by decide] at this
  omega
end
section
/-! shapes: two NODES have the same shape just when they are alike -/
def shV (S : Nat → Int32) (x : Int32) : Int32 := if x = m1 then m1 else S x.toNatClampNeg
theorem shV_m1 (S : Nat → Int32) : shV S m1 = m1 := if_pos rfl
theorem shV_nI (S : Nat → Int32) {n : Nat} (h : n < 1000) : shV S (nI n) = S n := by
  unfold shV
  rw [if_neg (m1_n (by omega)), nI_clamp (by omega)]
theorem shQ_V {u : Nat} (hu : u ≤ 120) {S : Nat → Int32} {x : Int32} (h : okp u x) : shQ (nI u) S x = shV S x := by
  rcases h with e | ⟨j, hj, e⟩
  · rw [e, show (Int32.ofInt (-1)) = m1 from rfl, shV_m1]
    exact @if_neg _ (Classical.propDecidable _) (fun q => absurd q.1 (by decide)) _ _ _
  · rw [e, shV_nI _ (by omega)]
    refine (@if_pos _ (Classical.propDecidable _) ?_ _ _ _).trans (by rw [nI_clamp (by omega)])
    rw [nI_toInt (by omega), nI_toInt (by omega)]
    omega
theorem shV_fr {n : Nat} (hn : n ≤ 120) {S S' : Nat → Int32} (e : ∀ j, j < n → S' j = S j) {x : Int32} (h : okp n x) : shV S' x = shV S x := by
  rcases h with q | ⟨j, hj, q⟩
  · rw [q, show (Int32.ofInt (-1)) = m1 from rfl, shV_m1, shV_m1]
  · rw [q, shV_nI _ (by omega), shV_nI _ (by omega), e j hj]
/-- the same top, and parts of the same shape -/
def SE (b : Nat) (P : Nat → Nat → Int32) (m n : Nat) : Prop := P (b + 1) m = P (b + 1) n ∧ P (b + 2) m = P (b + 2) n ∧ shV (P (b + 11)) (P (b + 3) m) = shV (P (b + 11)) (P (b + 3) n) ∧ shV (P (b + 11)) (P (b + 4) m) = shV (P (b + 11)) (P (b + 4) n)
theorem SE_sm {b m n : Nat} {P : Nat → Nat → Int32} (h : SE b P m n) : SE b P n m := ⟨h.1.symm, h.2.1.symm, h.2.2.1.symm, h.2.2.2.symm⟩
theorem SE_tr {b m n k : Nat} {P : Nat → Nat → Int32} (h : SE b P m n) (g : SE b P n k) : SE b P m k := ⟨h.1.trans g.1, h.2.1.trans g.2.1, h.2.2.1.trans g.2.2.1, h.2.2.2.trans g.2.2.2⟩
theorem SE_id (b m : Nat) (P : Nat → Nat → Int32) : SE b P m m := ⟨rfl, rfl, rfl, rfl⟩
def SI (b u : Nat) (P : Nat → Nat → Int32) : Prop := ∀ n, n < u → (∃ s, s ≤ n ∧ P (b + 11) n = nI s) ∧ ∀ m, m < u → (P (b + 11) m = P (b + 11) n ↔ SE b P m n)
/-- the parts of every NODE come before it -/
def PO (b u : Nat) (P : Nat → Nat → Int32) : Prop := ∀ n, n < u → okp n (P (b + 3) n) ∧ okp n (P (b + 4) n)
theorem okp_up {n m : Nat} {x : Int32} (h : okp n x) (hm : n ≤ m) : okp m x := h.imp id (fun ⟨j, hj, e⟩ => ⟨j, by omega, e⟩)
theorem SE_fr {b u : Nat} (hu : u ≤ 120) {P P' : Nat → Nat → Int32} (hO : PO b u P) (e : ∀ i, b < i → i ≤ b + 11 → ∀ j, j < u → P' i j = P i j) {m n : Nat} (hm : m < u) (hn : n < u) : SE b P' m n ↔ SE b P m n := by
  unfold SE
  have f : ∀ i, b < i → i ≤ b + 4 → ∀ k, k < u → P' i k = P i k := fun i h1 h2 k hk => e i h1 (by omega) k hk
  have s : ∀ k, k < u → shV (P' (b + 11)) (P (b + 3) k) = shV (P (b + 11)) (P (b + 3) k) ∧ shV (P' (b + 11)) (P (b + 4) k) = shV (P (b + 11)) (P (b + 4) k) := fun k hk => ⟨shV_fr (by omega) (fun j hj => e (b + 11) (by omega) (by omega) j (by omega)) (hO k hk).1, shV_fr (by omega) (fun j hj => e (b + 11) (by omega) (by omega) j (by omega)) (hO k hk).2⟩
  rw [f (b + 1) (by omega) (by omega) m hm, f (b + 1) (by omega) (by omega) n hn, f (b + 2) (by omega) (by omega) m hm, f (b + 2) (by omega) (by omega) n hn, f (b + 3) (by omega) (by omega) m hm, f (b + 3) (by omega) (by omega) n hn, f (b + 4) (by omega) (by omega) m hm, f (b + 4) (by omega) (by omega) n hn, (s m hm).1, (s m hm).2, (s n hn).1, (s n hn).2]
theorem SI_fr {b u : Nat} (hu : u ≤ 120) {P P' : Nat → Nat → Int32} (hO : PO b u P) (h : SI b u P) (e : ∀ i, b < i → i ≤ b + 11 → ∀ j, j < u → P' i j = P i j) : SI b u P' := fun n hn => by
  obtain ⟨h1, h2⟩ := h n hn
  refine ⟨by rw [e (b + 11) (by omega) (by omega) n hn]; exact h1, fun m hm => ?_⟩
  rw [SE_fr hu hO e hm hn, e (b + 11) (by omega) (by omega) n hn, e (b + 11) (by omega) (by omega) m hm]
  exact h2 m hm
theorem faW_spec {b : Nat} {U : Int32} {X : Nat → Nat → Int32} {n : Nat} : ∀ (c m : Nat), m + c = n → (∃ j, m ≤ j ∧ j < n ∧ faT b U X n j ∧ faW b U X n c m = X (b + 11) (nI j).toNatClampNeg) ∨ ((∀ j, m ≤ j → j < n → ¬ faT b U X n j) ∧ faW b U X n c m = nI n)
  | 0, m, h => Or.inr ⟨fun j h1 h2 => absurd h2 (by omega), rfl⟩
  | c + 1, m, h => by
    by_cases q : faT b U X n m
    · exact Or.inl ⟨m, Nat.le_refl _, by omega, q, faW_yes q⟩
    · rw [faW_no q]
      rcases faW_spec (b := b) (U := U) (X := X) (n := n) c (m + 1) (by omega) with ⟨j, h1, h2, h3, h4⟩ | ⟨h1, h2⟩
      · exact Or.inl ⟨j, by omega, h2, h3, h4⟩
      · refine Or.inr ⟨fun j h3 h4 => ?_, h2⟩
        by_cases e : j = m
        · rw [e]
          exact q
        · exact h1 j (by omega) h4
/-- a NODE comes: its shape by firstAlike -/
theorem SI_put {b u : Nat} {X P : Nat → Nat → Int32} (hu : u < 120) (h : SI b u P) (hO : PO b (u + 1) P) (hX : ∀ r, b < r → r ≤ b + 4 → X r = P r) (hS : ∀ j, j < u → X (b + 11) j = P (b + 11) j) (e : P (b + 11) u = faW b (nI u) X u u 0) : SI b (u + 1) P := by
  have cl : ∀ j, j ≤ u → (nI j).toNatClampNeg = j := fun j hj => nI_clamp (by omega)
  have sv : ∀ x, okp u x → shQ (nI u) (X (b + 11)) x = shV (P (b + 11)) x := fun x hx => by
    rw [shQ_V (by omega) hx]
    exact shV_fr (by omega) hS hx
  have ft : ∀ m, m < u → (faT b (nI u) X u m ↔ SE b P m u) := fun m hm => by
    have o1 := hO m (by omega)
    have o2 := hO u (by omega)
    unfold faT SE
    rw [cl m (by omega), cl u (by omega), hX (b + 1) (by omega) (by omega), hX (b + 2) (by omega) (by omega), hX (b + 3) (by omega) (by omega), hX (b + 4) (by omega) (by omega), sv _ (okp_up o1.1 (by omega)), sv _ (okp_up o1.2 (by omega)), sv _ o2.1, sv _ o2.2]
    exact ⟨fun q => ⟨q.1.1, q.1.2, q.2.1, q.2.2⟩, fun q => ⟨⟨q.1, q.2.1⟩, q.2.2.1, q.2.2.2⟩⟩
  have key : (∃ s, s ≤ u ∧ P (b + 11) u = nI s) ∧ ∀ m, m < u → (P (b + 11) m = P (b + 11) u ↔ SE b P m u) := by
    rcases faW_spec (b := b) (U := nI u) (X := X) (n := u) u 0 (by omega) with ⟨j, _, hj, t, w⟩ | ⟨t, w⟩
    · rw [w, cl j (by omega), hS j hj] at e
      obtain ⟨⟨s, hs, es⟩, hm⟩ := h j hj
      have tj := (ft j hj).mp t
      refine ⟨⟨s, by omega, e.trans es⟩, fun m hmu => ?_⟩
      rw [e, hm m hmu]
      exact ⟨fun q => SE_tr q tj, fun q => SE_tr q (SE_sm tj)⟩
    · rw [w] at e
      refine ⟨⟨u, Nat.le_refl _, e⟩, fun m hmu => ⟨fun q => ?_, fun q => absurd ((ft m hmu).mpr q) (t m (Nat.zero_le _) hmu)⟩⟩
      obtain ⟨⟨s, hs, es⟩, _⟩ := h m hmu
      rw [es, e] at q
      have := (nI_eq (by omega) (by omega)).mp q
      omega
  intro n hn
  by_cases q : n = u
  · subst q
    refine ⟨key.1, fun m hm => ?_⟩
    by_cases w : m = n
    · subst w
      exact ⟨fun _ => SE_id _ _ _, fun _ => rfl⟩
    · exact key.2 m (by omega)
  · refine ⟨(h n (by omega)).1, fun m hm => ?_⟩
    by_cases w : m = u
    · subst w
      exact ⟨fun a => SE_sm ((key.2 n (by omega)).mp a.symm), fun a => ((key.2 n (by omega)).mpr (SE_sm a)).symm⟩
    · exact (h n (by omega)).2 m (by omega)
end
section
theorem nvN_ge {E : Nat → Nat} : ∀ (c m t : Nat), numAll E c m = true → t * 10 ^ c ≤ nvN E c m t
  | 0, m, t, _ => by show t * 1 ≤ t; omega
  | c + 1, m, t, h => by
    have h' : ((decide (10 ≤ E m) && decide (E m ≤ 19)) && numAll E c (m + 1)) = true := h
    simp only [Bool.and_eq_true, decide_eq_true_eq] at h'
    have ih := nvN_ge c (m + 1) (10 * t + E m - 10) h'.2
    show _ ≤ nvN E c (m + 1) (10 * t + E m - 10)
    refine Nat.le_trans ?_ ih
    rw [Nat.pow_succ, Nat.mul_comm (10 ^ c) 10, ← Nat.mul_assoc]
    exact Nat.mul_le_mul_right _ (by omega)
theorem num_dg {E : Nat → Nat} {a b : Nat} (hab : a < b) (h : isNumB E a b = true) : dgN (nI (nvN E (b - a) a 0)) = b - a := by
  have hn := isNumB_at h
  have hall : numAll E (b - a) a = true := by
    unfold isNumB at h
    simp only [Bool.and_eq_true] at h
    exact h.2
  refine dgN_of (by omega) hn.1 (by have := nvN_lt (b - a) a 0 hall; omega) (hn.2.1.symm.imp id (fun h10 => ?_))
  obtain ⟨c, ec⟩ : ∃ c, b - a = c + 1 := ⟨b - a - 1, by omega⟩
  rw [ec] at hall ⊢
  have h' : ((decide (10 ≤ E a) && decide (E a ≤ 19)) && numAll E c (a + 1)) = true := hall
  simp only [Bool.and_eq_true, decide_eq_true_eq] at h'
  have := nvN_ge c (a + 1) (10 * 0 + E a - 10) h'.2
  show 10 ^ (c + 1 - 1) ≤ nvN E c (a + 1) (10 * 0 + E a - 10)
  refine Nat.le_trans ?_ this
  rw [show c + 1 - 1 = c by omega]
  exact Nat.le_mul_of_pos_left _ (by omega)
end
section
/-! rows of trees: one way to read them; where two of them are first unlike -/
def TR : Nat → List (Nat × Nat) → Prop
  | 0, _ => False
  | f + 1, T => ∃ (e : Nat × Nat) (X Y : List (Nat × Nat)), T = X ++ Y ++ [e] ∧ ((e.1 < 2 ∧ X = [] ∧ Y = []) ∨ (2 ≤ e.1 ∧ e.1 ≤ 6 ∧ TR f X ∧ TR f Y) ∨ (7 ≤ e.1 ∧ TR f X ∧ Y = []))
def w1 (k : Nat) : Int := if k < 2 then 1 else if k ≤ 6 then -1 else 0
def wT : List (Nat × Nat) → Int
  | [] => 0
  | e :: T => w1 e.1 + wT T
theorem wT_app : ∀ (X Y : List (Nat × Nat)), wT (X ++ Y) = wT X + wT Y
  | [], Y => by
    show wT Y = 0 + wT Y
    omega
  | e :: X, Y => by
    show w1 e.1 + wT (X ++ Y) = w1 e.1 + wT X + wT Y
    rw [wT_app X Y]
    omega
theorem wT_1 (e : Nat × Nat) : wT [e] = w1 e.1 := by
  show w1 e.1 + 0 = _
  omega
/-- a list that ends in e: what lies behind a cut -/
theorem cut_end {X A B : List (Nat × Nat)} {e : Nat × Nat} (h : X ++ [e] = A ++ B) : B = [] ∨ ∃ B', B = B' ++ [e] ∧ X = A ++ B' := by
  rcases List.append_eq_append_iff.mp h with ⟨a', h1, h2⟩ | ⟨c', h1, h2⟩
  · cases a' with
    | nil =>
      rw [List.append_nil] at h1
      refine Or.inr ⟨[], ?_, by rw [List.append_nil, h1]⟩
      rw [List.nil_append] at h2
      rw [← h2]
      rfl
    | cons y ys =>
      have h3 := congrArg List.length h2
      rw [List.length_append, List.length_singleton, List.length_cons] at h3
      exact Or.inl (List.length_eq_zero_iff.mp (by omega))
  · exact Or.inr ⟨c', h2, h1⟩
theorem TR_w : ∀ (f : Nat) (T : List (Nat × Nat)), TR f T → wT T = 1 ∧ ∀ A B, T = A ++ B → A ≠ [] → wT B ≤ 0
  | 0, _, h => h.elim
  | f + 1, T, ⟨e, X, Y, hT, h⟩ => by
    rcases h with ⟨k, hX, hY⟩ | ⟨k2, k6, hX, hY⟩ | ⟨k7, hX, hY⟩
    · subst hX hY hT
      refine ⟨by rw [List.nil_append, List.nil_append, wT_1]; exact if_pos k, fun A B hab hA => ?_⟩
      rcases cut_end (X := []) (e := e) hab with rfl | ⟨B', _, h2⟩
      · exact Int.le_refl _
      · exact absurd (List.append_eq_nil_iff.mp h2.symm).1 hA
    · obtain ⟨x1, x2⟩ := TR_w f X hX
      obtain ⟨y1, y2⟩ := TR_w f Y hY
      have we : w1 e.1 = -1 := by
        unfold w1
        rw [if_neg (by omega), if_pos k6]
      subst hT
      refine ⟨by rw [wT_app, wT_app, wT_1, we, x1, y1]; decide, fun A B hab hA => ?_⟩
      rcases cut_end hab with rfl | ⟨B', rfl, h2⟩
      · exact Int.le_refl _
      · rw [wT_app, wT_1, we]
        rcases List.append_eq_append_iff.mp h2 with ⟨a', h3, h4⟩ | ⟨c', h3, h4⟩
        · cases a' with
          | nil =>
            rw [List.nil_append] at h4
            rw [← h4, y1]
            decide
          | cons z zs =>
            have := y2 (z :: zs) B' h4 (List.cons_ne_nil _ _)
            omega
        · rw [h4, wT_app, y1]
          have := x2 A c' h3 hA
          omega
    · obtain ⟨x1, x2⟩ := TR_w f X hX
      have we : w1 e.1 = 0 := by
        unfold w1
        rw [if_neg (by omega), if_neg (by omega)]
      subst hY hT
      refine ⟨by rw [List.append_nil, wT_app, wT_1, we, x1]; decide, fun A B hab hA => ?_⟩
      rw [List.append_nil] at hab
      rcases cut_end hab with rfl | ⟨B', rfl, h2⟩
      · exact Int.le_refl _
      · rw [wT_app, wT_1, we]
        have := x2 A B' h2 hA
        omega
theorem TR_ne {f : Nat} {T : List (Nat × Nat)} (h : TR f T) : T ≠ [] := fun e => by
  have := (TR_w f T h).1
  rw [e] at this
  exact absurd this (by decide)
theorem TR_2 {f f' g g' : Nat} {X Y X' Y' : List (Nat × Nat)} (_ : TR f X) (hY : TR g Y) (_ : TR f' X') (hY' : TR g' Y') (e : X ++ Y = X' ++ Y') : X = X' ∧ Y = Y' := by
  rcases List.append_eq_append_iff.mp e with ⟨a', h1, h2⟩ | ⟨c', h1, h2⟩
  · cases a' with
    | nil => exact ⟨by rw [h1, List.append_nil], by rw [h2, List.nil_append]⟩
    | cons z zs =>
      have w := (TR_w g Y hY).2 (z :: zs) Y' h2 (List.cons_ne_nil _ _)
      have := (TR_w g' Y' hY').1
      omega
  · cases c' with
    | nil => exact ⟨by rw [h1, List.append_nil], by rw [h2, List.nil_append]⟩
    | cons z zs =>
      have w := (TR_w g' Y' hY').2 (z :: zs) Y h2 (List.cons_ne_nil _ _)
      have := (TR_w g Y hY).1
      omega
/-- a tree's row taken apart -/
def dec (T X Y : List (Nat × Nat)) (e : Nat × Nat) : Prop := T = X ++ Y ++ [e] ∧ ((e.1 < 2 ∧ X = [] ∧ Y = []) ∨ (2 ≤ e.1 ∧ e.1 ≤ 6 ∧ TR 200 X ∧ TR 200 Y) ∨ (7 ≤ e.1 ∧ TR 200 X ∧ Y = []))
theorem snoc_inj {X X' : List (Nat × Nat)} {e e' : Nat × Nat} (h : X ++ [e] = X' ++ [e']) : X = X' ∧ e = e' := by
  obtain ⟨a, b⟩ := List.append_inj' h rfl
  exact ⟨a, (List.cons.inj b).1⟩
theorem dec_uq {T X Y X' Y' : List (Nat × Nat)} {e e' : Nat × Nat} (h : dec T X Y e) (g : dec T X' Y' e') : e = e' ∧ X = X' ∧ Y = Y' := by
  obtain ⟨h1, h2⟩ := h
  obtain ⟨g1, g2⟩ := g
  obtain ⟨a, b⟩ := snoc_inj (h1.symm.trans g1)
  subst b
  refine ⟨rfl, ?_⟩
  rcases h2 with ⟨k, hX, hY⟩ | ⟨k2, k6, hX, hY⟩ | ⟨k7, hX, hY⟩ <;> rcases g2 with ⟨l, gX, gY⟩ | ⟨l2, l6, gX, gY⟩ | ⟨l7, gX, gY⟩
  · exact ⟨by rw [hX, gX], by rw [hY, gY]⟩
  · omega
  · omega
  · omega
  · exact TR_2 hX hY gX gY a
  · omega
  · omega
  · omega
  · rw [hY, gY, List.append_nil, List.append_nil] at a
    exact ⟨a, by rw [hY, gY]⟩
/-- where two trees are first unlike at their top: the PATH as a number -/
def DB : Nat → List (Nat × Nat) → List (Nat × Nat) → Int32 → Int32 → Int32 → Prop
  | 0, _, _, _, _, _ => False
  | z + 1, T1, T2, t, st, R => ∃ X1 Y1 e1 X2 Y2 e2, dec T1 X1 Y1 e1 ∧ dec T2 X2 Y2 e2 ∧ ((e1 ≠ e2 ∧ R = t) ∨ (e1 = e2 ∧ X1 ≠ X2 ∧ DB z X1 X2 (t + st) (st * Int32.ofInt 3) R) ∨ (e1 = e2 ∧ X1 = X2 ∧ DB z Y1 Y2 (t + Int32.ofInt 2 * st) (st * Int32.ofInt 3) R))
theorem DB_uq : ∀ (z z' : Nat) (T1 T2 : List (Nat × Nat)) (t st R R' : Int32), DB z T1 T2 t st R → DB z' T1 T2 t st R' → R = R'
  | 0, _, _, _, _, _, _, _, h, _ => h.elim
  | _ + 1, 0, _, _, _, _, _, _, _, h => h.elim
  | z + 1, z' + 1, T1, T2, t, st, R, R', ⟨X1, Y1, e1, X2, Y2, e2, d1, d2, h⟩, ⟨X1', Y1', e1', X2', Y2', e2', d1', d2', h'⟩ => by
    obtain ⟨q1, q2, q3⟩ := dec_uq d1 d1'
    obtain ⟨p1, p2, p3⟩ := dec_uq d2 d2'
    subst q1 q2 q3 p1 p2 p3
    rcases h with ⟨a, r⟩ | ⟨a, b, r⟩ | ⟨a, b, r⟩ <;> rcases h' with ⟨a', r'⟩ | ⟨a', b', r'⟩ | ⟨a', b', r'⟩
    · rw [r, r']
    · exact absurd a' a
    · exact absurd a' a
    · exact absurd a a'
    · exact DB_uq z z' _ _ _ _ _ _ r r'
    · exact absurd b' b
    · exact absurd a a'
    · exact absurd b b'
    · exact DB_uq z z' _ _ _ _ _ _ r r'
/-! the reference's rows -/
theorem tkW_fu {lo hi : Nat} {A : Nat → Nat → Int32} (hh : hi ≤ 450) (hT : tbI lo hi A) : ∀ (z : Nat) (x : Int32), pt lo hi A z x → ∀ z', z ≤ z' → tkW A z' x = tkW A z x
  | 0, x, h => fun z' _ => by
    obtain rfl := pt_zero hT h
    rw [tkW_m2, tkW_m2]
  | z + 1, x, h => fun z' hz' => by
    rcases h with rfl | ⟨n, rfl, hlo, hn, hz⟩
    · rw [tkW_m2, tkW_m2]
    · obtain ⟨p2, p3⟩ := rN_parts hT hlo hn hz
      obtain ⟨y, rfl⟩ : ∃ y, z' = y + 1 := ⟨z' - 1, by omega⟩
      rw [tkW_nI (by omega), tkW_nI (by omega), tkW_fu hh hT z _ p2 y (by omega), tkW_fu hh hT z _ p3 y (by omega)]
theorem tkW_st {lo hi : Nat} {A : Nat → Nat → Int32} (hh : hi ≤ 450) (hT : tbI lo hi A) {n : Nat} (hlo : lo ≤ n) (hn : n < hi) : tkW A 45 (nI n) = tkW A 45 (A 2 n) ++ tkW A 45 (A 3 n) ++ [kvN A n] := by
  obtain ⟨p2, p3⟩ := rN_parts (z := 44) hT hlo hn (by have := (rN_sz (hT n hlo hn)).2.1; omega)
  rw [tkW_nI (by omega), tkW_fu hh hT 44 _ p2 45 (by omega), tkW_fu hh hT 44 _ p3 45 (by omega)]
theorem kv_k1 {lo n : Nat} {A : Nat → Nat → Int32} (h : rN lo A n) : A 0 n = nI (kvN A n).1 := by
  obtain ⟨k, hk, h0⟩ := rN_kd h
  unfold kvN
  rw [h0, nI_clamp (by omega)]
theorem kv_eq {lo n m : Nat} {A : Nat → Nat → Int32} (h : rN lo A n) (g : rN lo A m) : kvN A n = kvN A m ↔ (A 0 n = A 0 m ∧ A 1 n = A 1 m) := by
  obtain ⟨k, h0, hk, -, -, hv⟩ := rN_val h
  obtain ⟨k', g0, gk, -, -, gv⟩ := rN_val g
  constructor
  · intro e
    have e0 : A 0 n = A 0 m := by rw [kv_k1 h, kv_k1 g, e]
    refine ⟨e0, ?_⟩
    have ek : k = k' := (nI_eq (by omega) (by omega)).mp (h0.symm.trans (e0.trans g0))
    subst ek
    by_cases q28 : 2 ≤ k ∧ k ≤ 8
    · rw [hv.2.2 q28.1 q28.2, gv.2.2 q28.1 q28.2]
    · have hx : ∃ v : Nat, v ≤ 9999 ∧ A 1 n = nI v := by
        rcases (show k = 1 ∨ (k = 0 ∨ k = 9) by clear hv gv; omega) with q1 | q1
        · exact hv.2.1 q1
        · obtain ⟨v, a, b⟩ := hv.1 q1
          exact ⟨v, by clear hv gv; omega, b⟩
      have gx : ∃ v : Nat, v ≤ 9999 ∧ A 1 m = nI v := by
        rcases (show k = 1 ∨ (k = 0 ∨ k = 9) by clear hv gv; omega) with q1 | q1
        · exact gv.2.1 q1
        · obtain ⟨v, a, b⟩ := gv.1 q1
          exact ⟨v, by clear hv gv; omega, b⟩
      clear hv gv
      obtain ⟨v, a, b⟩ := hx
      obtain ⟨v', a', b'⟩ := gx
      rw [kv_lf (k := k) (v := v) h0 b hk (by omega) (by omega) (by omega), kv_lf (k := k) (v := v') g0 b' hk (by omega) (by omega) (by omega)] at e
      rw [b, b', (Prod.mk.inj e).2]
  · rintro ⟨e0, e1⟩
    unfold kvN
    rw [e0, e1]
theorem tk_dec {lo hi : Nat} {A : Nat → Nat → Int32} (hh : hi ≤ 450) (hT : tbI lo hi A) : ∀ (z n : Nat), lo ≤ n → n < hi → szN A n ≤ z → TR z (tkW A 45 (nI n))
  | 0, n, hlo, hn, hz => by
    have := (rN_sz (hT n hlo hn)).1
    omega
  | z + 1, n, hlo, hn, hz => by
    obtain ⟨k, h0, hk, hs, -, -⟩ := rN_val (hT n hlo hn)
    have e1 : (kvN A n).1 = k := (nI_eq (by have : (kvN A n).1 = (A 0 n).toNatClampNeg := rfl; rw [this, h0, nI_clamp (by omega)]; omega) (by omega)).mp ((kv_k1 (hT n hlo hn)).symm.trans h0)
    refine ⟨kvN A n, _, _, tkW_st hh hT hlo hn, ?_⟩
    rw [e1]
    rcases hs with ⟨k1, h2, h3, es⟩ | ⟨k1, k6, c, d, h2, la, hc, h3, lb, hd, es⟩ | ⟨k1, c, h2, la, hc, h3, es⟩
    · exact Or.inl ⟨k1, by rw [h2, tkW_m2], by rw [h3, tkW_m2]⟩
    · rw [h2, h3]
      exact Or.inr (Or.inl ⟨k1, k6, tk_dec hh hT z c la (by omega) (by omega), tk_dec hh hT z d lb (by omega) (by omega)⟩)
    · rw [h2, h3, tkW_m2]
      exact Or.inr (Or.inr ⟨k1, tk_dec hh hT z c la (by omega) (by omega), rfl⟩)
theorem TR_up : ∀ (f : Nat) (T : List (Nat × Nat)), TR f T → ∀ f', f ≤ f' → TR f' T
  | 0, _, h => h.elim
  | f + 1, T, ⟨e, X, Y, hT, h⟩ => fun f' hf => by
    obtain ⟨g, rfl⟩ : ∃ g, f' = g + 1 := ⟨f' - 1, by omega⟩
    refine ⟨e, X, Y, hT, ?_⟩
    rcases h with h | ⟨k2, k6, hX, hY⟩ | ⟨k7, hX, hY⟩
    · exact Or.inl h
    · exact Or.inr (Or.inl ⟨k2, k6, TR_up f X hX g (by omega), TR_up f Y hY g (by omega)⟩)
    · exact Or.inr (Or.inr ⟨k7, TR_up f X hX g (by omega), hY⟩)
theorem tk_d {lo hi : Nat} {A : Nat → Nat → Int32} (hh : hi ≤ 450) (hT : tbI lo hi A) {n : Nat} (hlo : lo ≤ n) (hn : n < hi) : dec (tkW A 45 (nI n)) (tkW A 45 (A 2 n)) (tkW A 45 (A 3 n)) (kvN A n) := by
  obtain ⟨k, h0, hk, hs, -, -⟩ := rN_val (hT n hlo hn)
  have e1 : (kvN A n).1 = k := (nI_eq (by have : (kvN A n).1 = (A 0 n).toNatClampNeg := rfl; rw [this, h0, nI_clamp (by omega)]; omega) (by omega)).mp ((kv_k1 (hT n hlo hn)).symm.trans h0)
  refine ⟨tkW_st hh hT hlo hn, ?_⟩
  rw [e1]
  have g : ∀ c, lo ≤ c → c < n → TR 200 (tkW A 45 (nI c)) := fun c l1 l2 => TR_up 40 _ (tk_dec hh hT 40 c l1 (by omega) (rN_sz (hT c l1 (by omega))).2.1) 200 (by decide)
  rcases hs with ⟨k1, h2, h3, es⟩ | ⟨k1, k6, c, d, h2, la, hc, h3, lb, hd, es⟩ | ⟨k1, c, h2, la, hc, h3, es⟩
  · exact Or.inl ⟨k1, by rw [h2, tkW_m2], by rw [h3, tkW_m2]⟩
  · rw [h2, h3]
    exact Or.inr (Or.inl ⟨k1, k6, g c la hc, g d lb hd⟩)
  · rw [h2, h3, tkW_m2]
    exact Or.inr (Or.inr ⟨k1, g c la hc, rfl⟩)
/-- alike NODES of the reference have one row -/
theorem tk_alk {lo hi : Nat} {A : Nat → Nat → Int32} (hh : hi ≤ 450) (hT : tbI lo hi A) : ∀ (z n m : Nat), lo ≤ n → n < hi → lo ≤ m → m < hi → szN A n ≤ z → (alk A z (nI n) (nI m) ↔ tkW A 45 (nI n) = tkW A 45 (nI m))
  | 0, n, m, hlo, hn, _, _, hz => by
    have := (rN_sz (hT n hlo hn)).1
    omega
  | z + 1, n, m, hlo, hn, hlo2, hm, hz => by
    have ih := tk_alk hh hT z
    have dn := tk_d hh hT hlo hn
    have dm := tk_d hh hT hlo2 hm
    have ek := kv_eq (hT n hlo hn) (hT m hlo2 hm)
    rw [alk_nn (by omega) (by omega)]
    have part : A 0 n = A 0 m → (alk A z (A 2 n) (A 2 m) ↔ tkW A 45 (A 2 n) = tkW A 45 (A 2 m)) ∧ (alk A z (A 3 n) (A 3 m) ↔ tkW A 45 (A 3 n) = tkW A 45 (A 3 m)) := fun e0 => by
      obtain ⟨s2, s3⟩ := rN_same (hT n hlo hn) (hT m hlo2 hm) e0
      constructor
      · rcases s2 with ⟨p, q⟩ | ⟨a, b, p, q, la, ha, lb, hb, hs⟩
        · rw [p, q]
          exact ⟨fun _ => rfl, fun _ => alk_mm A z⟩
        · rw [p, q]
          exact ih a b la (by omega) lb (by omega) (by omega)
      · rcases s3 with ⟨p, q⟩ | ⟨a, b, p, q, la, ha, lb, hb, hs⟩
        · rw [p, q]
          exact ⟨fun _ => rfl, fun _ => alk_mm A z⟩
        · rw [p, q]
          exact ih a b la (by omega) lb (by omega) (by omega)
    constructor
    · rintro ⟨e0, e1, _, a2, a3⟩
      rw [dn.1, dm.1, (part e0).1.mp a2, (part e0).2.mp a3, ek.mpr ⟨e0, e1⟩]
    · intro e
      obtain ⟨q1, q2, q3⟩ := dec_uq dn (by rw [e]; exact dm)
      obtain ⟨e0, e1⟩ := ek.mp q1
      have b2 := (part e0).1.mpr q2
      have b3 := (part e0).2.mpr q3
      refine ⟨e0, e1, ?_, b2, b3⟩
      have hs : szN A n = szN A m := by
        obtain ⟨k, h0, hk, hs, -, -⟩ := rN_val (hT n hlo hn)
        obtain ⟨k', g0, gk, gs, -, -⟩ := rN_val (hT m hlo2 hm)
        have e9 : k = k' := (nI_eq (by omega) (by omega)).mp (h0.symm.trans (e0.trans g0))
        subst e9
        rcases hs with ⟨k1, h2, h3, es⟩ | ⟨k1, k6, c, d, h2, la, hc, h3, lb, hd, es⟩ | ⟨k1, c, h2, la, hc, h3, es⟩ <;> rcases gs with ⟨l1, g2, g3, gs⟩ | ⟨l1, l6, c', d', g2, la', hc', g3, lb', hd', gs⟩ | ⟨l1, c', g2, la', hc', g3, gs⟩
        · omega
        · omega
        · omega
        · omega
        · rw [h2, g2] at b2
          rw [h3, g3] at b3
          have := alk_sz (lo := lo) hh (by omega) (by omega) b2
          have := alk_sz (lo := lo) hh (by omega) (by omega) b3
          omega
        · omega
        · omega
        · omega
        · rw [h2, g2] at b2
          have := alk_sz (lo := lo) hh (by omega) (by omega) b2
          omega
      rw [(rN_sz (hT n hlo hn)).2.2, (rN_sz (hT m hlo2 hm)).2.2, hs]
end
section
/-- the bare words of a row -/
def own1 (e : Nat × Nat) : Nat := if e.1 = 1 then dgN (nI e.2) else if e.1 = 8 ∨ e.1 = 9 then 2 else 1
def rwN : List (Nat × Nat) → Nat
  | [] => 0
  | e :: T => own1 e + rwN T
theorem rwN_app : ∀ (X Y : List (Nat × Nat)), rwN (X ++ Y) = rwN X + rwN Y
  | [], Y => (Nat.zero_add _).symm
  | e :: X, Y => by
    show own1 e + rwN (X ++ Y) = own1 e + rwN X + rwN Y
    rw [rwN_app X Y, Nat.add_assoc]
theorem rwN_1 (e : Nat × Nat) : rwN [e] = own1 e := Nat.add_zero _
theorem own_1 {v : Nat} : own1 (1, v) = dgN (nI v) := if_pos rfl
theorem own_2 {k v : Nat} (h : k = 8 ∨ k = 9) : own1 (k, v) = 2 := by
  unfold own1
  rw [if_neg (by show ¬ k = 1; omega), if_pos h]
theorem own_o {k v : Nat} (h1 : k ≠ 1) (h8 : k ≠ 8) (h9 : k ≠ 9) : own1 (k, v) = 1 := by
  unfold own1
  rw [if_neg h1, if_neg (by show ¬ (k = 8 ∨ k = 9); omega)]
theorem RK_0 {E : Nat → Nat} {L : Nat → Nat → Nat} {R : Nat → Nat → Nat → List (Nat × Nat) → Prop} {k a b q : Nat} {T : List (Nat × Nat)} (h : RK E L R k a b q T) (e : k < 2) : T = [(k, if k = 0 then E a else nvN E (b - a) a 0)] := by
  rcases h with ⟨_, r⟩ | ⟨k7, _⟩ | ⟨k2, _⟩
  · exact r
  · omega
  · omega
theorem RK_7 {E : Nat → Nat} {L : Nat → Nat → Nat} {R : Nat → Nat → Nat → List (Nat × Nat) → Prop} {k a b q : Nat} {T : List (Nat × Nat)} (h : RK E L R k a b q T) (e : 7 ≤ k) : ∃ X, T = X ++ [(k, E a)] ∧ R (pfN k a) (ptN k b) q X := by
  rcases h with ⟨k1, _⟩ | ⟨_, r⟩ | ⟨_, k6, _⟩
  · omega
  · exact r
  · omega
theorem RK_P {E : Nat → Nat} {L : Nat → Nat → Nat} {R : Nat → Nat → Nat → List (Nat × Nat) → Prop} {k a b q : Nat} {T : List (Nat × Nat)} (h : RK E L R k a b q T) (k2 : 2 ≤ k) (k6 : k ≤ 6) : ∃ c r X Y, a + 1 + c + 1 < b ∧ E (a + 1 + c) = 18 + k ∧ q = pfS E L k a b c + r ∧ r < tmW (L a (a + 1 + c)) (L (a + 1 + c + 1) b) ∧ T = X ++ Y ++ [(k, 0)] ∧ R a (a + 1 + c) (r / L (a + 1 + c + 1) b) X ∧ R (a + 1 + c + 1) b (r % L (a + 1 + c + 1) b) Y := by
  rcases h with ⟨k1, _⟩ | ⟨k7, _⟩ | ⟨_, _, r⟩
  · omega
  · omega
  · exact r
theorem RK_l {E : Nat → Nat} {L : Nat → Nat → Nat} {R : Nat → Nat → Nat → List (Nat × Nat) → Prop} {k a b q : Nat} {T : List (Nat × Nat)} (h : RK E L R k a b q T) : ∃ X v, T = X ++ [(k, v)] := by
  rcases h with ⟨_, r⟩ | ⟨_, X, r, _⟩ | ⟨_, _, _, _, X, Y, _, _, _, _, r, _⟩
  · exact ⟨[], _, r⟩
  · exact ⟨X, _, r⟩
  · exact ⟨X ++ Y, _, r⟩
theorem RT_TR {E : Nat → Nat} {M : Nat → Nat → Nat → Nat} {L : Nat → Nat → Nat} : ∀ (f i j p : Nat) (T : List (Nat × Nat)), RT E M L f i j p T → TR f T
  | 0, _, _, _, _, h => h.elim
  | f + 1, i, j, p, T, ⟨c, q, h1, h2, h3, h4⟩ => by
    rcases h4 with ⟨a1, a2⟩ | ⟨a1, X, a2, a3⟩ | ⟨a1, a2, d, r, X, Y, b1, b2, b3, b4, b5, b6, b7⟩
    · exact ⟨_, [], [], a2, Or.inl ⟨a1, rfl, rfl⟩⟩
    · exact ⟨_, X, [], by rw [List.append_nil]; exact a2, Or.inr (Or.inr ⟨a1, RT_TR f _ _ _ X a3, rfl⟩)⟩
    · exact ⟨_, X, Y, b5, Or.inr (Or.inl ⟨a1, a2, RT_TR f _ _ _ X b6, RT_TR f _ _ _ Y b7⟩)⟩
theorem RT_cnt {E : Nat → Nat} {G : Nat → Int32} {lt : Nat → Nat → Bool} {L : Nat → Nat → Nat} : ∀ (f i j p : Nat) (T : List (Nat × Nat)), RT E (mG E G lt L) L f i j p T → spn (gB E) i j = spn (gC E) i j ∧ spn (gO E) i j = rwN T := by
  intro f
  induction f with
  | zero => exact fun i j p T h => h.elim
  | succ f ih =>
    rintro i j p T ⟨c, q, hc, hp, hq, hk⟩
    obtain ⟨hw, _, hbr⟩ := mG_pos hq
    generalize ha : i + c % 2 = a at hw hk
    generalize hb : j - c % 2 = b at hw hk
    generalize hk9 : c / 2 = k at hw hk
    have hk10 : k < 10 := by omega
    obtain ⟨hab, w0, w1, w7, w8, w9⟩ := wi_pos hw
    have core : spn (gB E) a b = spn (gC E) a b ∧ spn (gO E) a b = rwN T := by
      rcases (show k = 0 ∨ k = 1 ∨ (2 ≤ k ∧ k ≤ 6) ∨ k = 7 ∨ k = 8 ∨ k = 9 by omega) with e | e | ⟨k2, k6⟩ | e | e | e
      · have hT := RK_0 hk (by omega)
        obtain ⟨d1, d2, _⟩ := w0 e
        obtain ⟨b1, b2, b3⟩ := bal_o (E := E) (i := a) (j := b) (fun x h1 h2 => by rw [show x = a by omega]; omega) (by omega)
        rw [hT, rwN_1, own_o (by omega) (by omega) (by omega)]
        omega
      · have hT := RK_0 hk (by omega)
        have hd := isNumB_at (w1 e).1
        obtain ⟨b1, b2, b3⟩ := bal_o (E := E) (i := a) (j := b) (fun x h1 h2 => by have := hd.2.2 x h1 h2; omega) (by omega)
        subst e
        rw [hT, rwN_1, if_neg (by decide), own_1, num_dg hab (w1 rfl).1]
        omega
      · obtain ⟨m, r, X, Y, hm, hE, _, _, hT, rx, ry⟩ := RK_P hk k2 k6
        obtain ⟨i1, i2⟩ := ih _ _ _ X rx
        obtain ⟨j1, j2⟩ := ih _ _ _ Y ry
        obtain ⟨g1, g2, g3⟩ := g_o (E := E) (x := a + 1 + m) (by omega)
        rw [hT, rwN_app, rwN_app, rwN_1, own_o (by omega) (by omega) (by omega), spn_split (gB E) (show a ≤ a + 1 + m by omega) (show a + 1 + m ≤ b by omega), spn_split (gC E) (show a ≤ a + 1 + m by omega) (show a + 1 + m ≤ b by omega), spn_split (gO E) (show a ≤ a + 1 + m by omega) (show a + 1 + m ≤ b by omega), spn_cons (gB E) (show a + 1 + m < b by omega), spn_cons (gC E) (show a + 1 + m < b by omega), spn_cons (gO E) (show a + 1 + m < b by omega)]
        omega
      · subst e
        obtain ⟨X, hT, rx⟩ := RK_7 hk (by decide)
        obtain ⟨i1, i2⟩ := ih _ _ _ X rx
        replace i1 : spn (gB E) (a + 1) b = spn (gC E) (a + 1) b := i1
        replace i2 : spn (gO E) (a + 1) b = rwN X := i2
        obtain ⟨g1, g2, g3⟩ := g_o (E := E) (x := a) (by have := (w7 rfl).1; omega)
        rw [hT, rwN_app, rwN_1, own_o (by decide) (by decide) (by decide), spn_cons (gB E) hab, spn_cons (gC E) hab, spn_cons (gO E) hab]
        omega
      · subst e
        obtain ⟨X, hT, rx⟩ := RK_7 hk (by decide)
        obtain ⟨i1, i2⟩ := ih _ _ _ X rx
        replace i1 : spn (gB E) (a + 1) (b - 1) = spn (gC E) (a + 1) (b - 1) := i1
        replace i2 : spn (gO E) (a + 1) (b - 1) = rwN X := i2
        obtain ⟨e1, e2, e3⟩ := w8 rfl
        obtain ⟨g1, g2, g3⟩ := g_o (E := E) (x := a) (by omega)
        obtain ⟨g4, g5, g6⟩ := g_o (E := E) (x := b - 1) (by omega)
        rw [hT, rwN_app, rwN_1, own_2 (Or.inl rfl), spn_cons (gB E) hab, spn_cons (gC E) hab, spn_cons (gO E) hab, spn_snoc (gB E) (show a + 1 < b by omega), spn_snoc (gC E) (show a + 1 < b by omega), spn_snoc (gO E) (show a + 1 < b by omega)]
        omega
      · subst e
        obtain ⟨X, hT, rx⟩ := RK_7 hk (by decide)
        obtain ⟨i1, i2⟩ := ih _ _ _ X rx
        replace i1 : spn (gB E) (a + 2) b = spn (gC E) (a + 2) b := i1
        replace i2 : spn (gO E) (a + 2) b = rwN X := i2
        obtain ⟨e1, e2, e3⟩ := w9 rfl
        obtain ⟨g1, g2, g3⟩ := g_o (E := E) (x := a) (by omega)
        obtain ⟨g4, g5, g6⟩ := g_o (E := E) (x := a + 1) (by omega)
        rw [hT, rwN_app, rwN_1, own_2 (Or.inr rfl), spn_cons (gB E) hab, spn_cons (gC E) hab, spn_cons (gO E) hab, spn_cons (gB E) (show a + 1 < b by omega), spn_cons (gC E) (show a + 1 < b by omega), spn_cons (gO E) (show a + 1 < b by omega)]
        rw [show a + 1 + 1 = a + 2 by omega]
        omega
    rcases (show c % 2 = 0 ∨ c % 2 = 1 by omega) with e | e
    · rw [e] at ha hb
      obtain rfl : i = a := by omega
      obtain rfl : j = b := by omega
      exact core
    · rw [e] at ha hb
      obtain ⟨e1, e2⟩ := hbr.resolve_left (by omega)
      obtain ⟨g1, g2, g3⟩ := g_b e1
      obtain ⟨g4, g5, g6⟩ := g_c e2
      rw [spn_cons (gB E) (show i < j by omega), spn_cons (gC E) (show i < j by omega), spn_cons (gO E) (show i < j by omega), spn_snoc (gB E) (show i + 1 < j by omega), spn_snoc (gC E) (show i + 1 < j by omega), spn_snoc (gO E) (show i + 1 < j by omega), ha, hb]
      rw [hb] at g4 g5 g6
      omega
theorem RT_pl {E : Nat → Nat} {G : Nat → Int32} {lt : Nat → Nat → Bool} {L : Nat → Nat → Nat} : ∀ (f i j p p' : Nat) (T : List (Nat × Nat)), RT E (mG E G lt L) L f i j p T → RT E (mG E G lt L) L f i j p' T → p = p' := by
  intro f
  induction f with
  | zero => exact fun i j p p' T h => h.elim
  | succ f ih =>
    rintro i j p p' T ⟨c, q, hc, hp, hq, hk⟩ ⟨c', q', hc', hp', hq', hk'⟩
    · have ek : c / 2 = c' / 2 := by
        obtain ⟨X9, v9, e9⟩ := RK_l hk
        obtain ⟨X8, v8, e8⟩ := RK_l hk'
        exact (Prod.mk.inj (snoc_inj (e9.symm.trans e8)).2).1
      obtain ⟨hw, _, hbr⟩ := mG_pos hq
      obtain ⟨hw', _, hbr'⟩ := mG_pos hq'
      suffices hs : c % 2 = c' % 2 ∧ q = q' by
        have : c = c' := by omega
        subst this
        omega
      rw [← ek] at hw' hk'
      generalize hk9 : c / 2 = k at hw hk hw' hk'
      have hk10 : k < 10 := by omega
      obtain ⟨hab, w0, w1, w7, w8, w9⟩ := wi_pos hw
      obtain ⟨hab', w0', w1', w7', w8', w9'⟩ := wi_pos hw'
      have par : ¬ (2 ≤ k ∧ k ≤ 6) → c % 2 = c' % 2 := by
        intro hnp
        have e1 : c % 2 = 0 → E i ≠ 29 := fun e => by
          rw [e] at w0 w1 w7 w8 w9
          rcases (show k = 0 ∨ k = 1 ∨ k = 7 ∨ k = 8 ∨ k = 9 by omega) with h | h | h | h | h
          · have := (w0 h).2.1; rw [Nat.add_zero] at this; omega
          · rw [e] at hab
            have := (isNumB_at (w1 h).1).2.2 (i + 0) (Nat.le_refl _) hab; rw [Nat.add_zero] at this; omega
          · have := (w7 h).1; rw [Nat.add_zero] at this; omega
          · have := (w8 h).1; rw [Nat.add_zero] at this; omega
          · have := (w9 h).1; rw [Nat.add_zero] at this; omega
        have e2 : c' % 2 = 0 → E i ≠ 29 := fun e => by
          rw [e] at w0' w1' w7' w8' w9'
          rcases (show k = 0 ∨ k = 1 ∨ k = 7 ∨ k = 8 ∨ k = 9 by omega) with h | h | h | h | h
          · have := (w0' h).2.1; rw [Nat.add_zero] at this; omega
          · rw [e] at hab'
            have := (isNumB_at (w1' h).1).2.2 (i + 0) (Nat.le_refl _) hab'; rw [Nat.add_zero] at this; omega
          · have := (w7' h).1; rw [Nat.add_zero] at this; omega
          · have := (w8' h).1; rw [Nat.add_zero] at this; omega
          · have := (w9' h).1; rw [Nat.add_zero] at this; omega
        rcases (show c % 2 = 0 ∨ c % 2 = 1 by omega) with h | h <;> rcases (show c' % 2 = 0 ∨ c' % 2 = 1 by omega) with h' | h'
        · omega
        · exact absurd (hbr'.resolve_left (by omega)).1 (e1 h)
        · exact absurd (hbr.resolve_left (by omega)).1 (e2 h')
        · omega
      rcases (show k = 0 ∨ k = 1 ∨ (2 ≤ k ∧ k ≤ 6) ∨ k = 7 ∨ k = 8 ∨ k = 9 by omega) with e | e | ⟨k2, k6⟩ | e | e | e
      · exact ⟨par (by omega), by have := (w0 e).2.2; have := (w0' e).2.2; omega⟩
      · exact ⟨par (by omega), by have := (w1 e).2; have := (w1' e).2; omega⟩
      · obtain ⟨m, r, X, Y, hm, hE, hqr, hr, hT, rx, ry⟩ := RK_P hk k2 k6
        obtain ⟨m', r', X', Y', hm', hE', hqr', hr', hT', rx', ry'⟩ := RK_P hk' k2 k6
        obtain ⟨eX, eY⟩ := TR_2 (RT_TR f _ _ _ X rx) (RT_TR f _ _ _ Y ry) (RT_TR f _ _ _ X' rx') (RT_TR f _ _ _ Y' ry') (snoc_inj (hT.symm.trans hT')).1
        subst eX eY
        obtain ⟨i1, i2⟩ := RT_cnt f _ _ _ X rx
        obtain ⟨i1', i2'⟩ := RT_cnt f _ _ _ X rx'
        have pe : c % 2 = c' % 2 := by
          rcases (show c % 2 = 0 ∨ c % 2 = 1 by omega) with h | h <;> rcases (show c' % 2 = 0 ∨ c' % 2 = 1 by omega) with h' | h'
          · omega
          · exfalso
            rw [h] at i1 i2 hE
            rw [h'] at i1' i2' hE'
            rw [Nat.add_zero] at i1 i2 hE
            obtain ⟨g1, g2, g3⟩ := g_b (hbr'.resolve_left (by omega)).1
            have s1 := spn_cons (gO E) (show i < i + 1 + 1 + m' by omega)
            have s2 := spn_cons (gB E) (show i < i + 1 + 1 + m' by omega)
            have s3 := spn_cons (gC E) (show i < i + 1 + 1 + m' by omega)
            have em := cut_eq (E := E) (i := i) (m := i + 1 + m) (m' := i + 1 + 1 + m') (by omega) (by omega) (by omega) (by omega) (by omega)
            rw [em] at i1
            omega
          · exfalso
            rw [h] at i1 i2 hE
            rw [h'] at i1' i2' hE'
            rw [Nat.add_zero] at i1' i2' hE'
            obtain ⟨g1, g2, g3⟩ := g_b (hbr.resolve_left (by omega)).1
            have s1 := spn_cons (gO E) (show i < i + 1 + 1 + m by omega)
            have s2 := spn_cons (gB E) (show i < i + 1 + 1 + m by omega)
            have s3 := spn_cons (gC E) (show i < i + 1 + 1 + m by omega)
            have em := cut_eq (E := E) (i := i) (m := i + 1 + m') (m' := i + 1 + 1 + m) (by omega) (by omega) (by omega) (by omega) (by omega)
            rw [em] at i1'
            omega
          · omega
        refine ⟨pe, ?_⟩
        rw [← pe] at rx' ry' hE' hm' hqr' hr' i2'
        have em := cut_eq (E := E) (i := i + c % 2) (m := i + c % 2 + 1 + m) (m' := i + c % 2 + 1 + m') (by omega) (by omega) (by omega) (by omega) (by omega)
        obtain rfl : m = m' := by omega
        have f1 := ih _ _ _ _ X rx rx'
        have f2 := ih _ _ _ _ Y ry ry'
        have d1 := Nat.div_add_mod r (L (i + c % 2 + 1 + m + 1) (j - c % 2))
        have d2 := Nat.div_add_mod r' (L (i + c % 2 + 1 + m + 1) (j - c % 2))
        rw [f1, f2] at d1
        omega
      · have pe := par (by omega)
        rw [← pe] at hk'
        obtain ⟨X, hT, rx⟩ := RK_7 hk (by omega)
        obtain ⟨X', hT', rx'⟩ := RK_7 hk' (by omega)
        have eX := (snoc_inj (hT.symm.trans hT')).1
        subst eX
        exact ⟨pe, ih _ _ _ _ X rx rx'⟩
      · have pe := par (by omega)
        rw [← pe] at hk'
        obtain ⟨X, hT, rx⟩ := RK_7 hk (by omega)
        obtain ⟨X', hT', rx'⟩ := RK_7 hk' (by omega)
        have eX := (snoc_inj (hT.symm.trans hT')).1
        subst eX
        exact ⟨pe, ih _ _ _ _ X rx rx'⟩
      · have pe := par (by omega)
        rw [← pe] at hk'
        obtain ⟨X, hT, rx⟩ := RK_7 hk (by omega)
        obtain ⟨X', hT', rx'⟩ := RK_7 hk' (by omega)
        have eX := (snoc_inj (hT.symm.trans hT')).1
        subst eX
        exact ⟨pe, ih _ _ _ _ X rx rx'⟩
end
section
/-- doubt's answer: of its style, of two PLACES -/
def dbR (x : Int32) (z1 z2 : Int64) (F : Nat → Int32 → Prop) (R : Int32) : Prop := (R = Int32.ofInt (-1) ∧ ¬ ((0 ≤ x.toInt ∧ x.toInt ≤ 8) ∧ 0 ≤ z1.toInt ∧ 0 ≤ z2.toInt)) ∨ ∃ s, s ≤ 8 ∧ x = nI s ∧ 0 ≤ z1.toInt ∧ 0 ≤ z2.toInt ∧ F s R
def dbA (c : Nat) (z1 z2 : Int64) (F : Nat → Nat → Int32 → Prop) (R : Int32) : Prop := (¬ (z1 < lN c ∧ z2 < lN c) ∧ R = Int32.ofInt (-4)) ∨ (z1 < lN c ∧ z1 = z2 ∧ R = Int32.ofInt (-2)) ∨ ∃ p1 p2, p1 < c ∧ p2 < c ∧ p1 ≠ p2 ∧ z1 = lN p1 ∧ z2 = lN p2 ∧ F p1 p2 R
theorem tk_alk2 {lo hi : Nat} {A : Nat → Nat → Int32} (hh : hi ≤ 450) (hT : tbI lo hi A) {z n m : Nat} (hlo : lo ≤ n) (hn : n < hi) (hlo2 : lo ≤ m) (hm : m < hi) (hz : szN A n ≤ z + 1) (e0 : A 0 n = A 0 m) (h : alk A z (A 2 n) (A 2 m)) : tkW A 45 (A 2 n) = tkW A 45 (A 2 m) := by
  obtain ⟨s2, _⟩ := rN_same (hT n hlo hn) (hT m hlo2 hm) e0
  rcases s2 with ⟨p, q⟩ | ⟨a, b, p, q, la, ha, lb, hb, hs⟩
  · rw [p, q]
  · rw [p, q] at h ⊢
    exact (tk_alk hh hT z a b la (by omega) lb (by omega) (by omega)).mp h
set_option maxHeartbeats 1000000 in
set_option maxRecDepth 20000 in
theorem dbtLX (f : Nat → zC) (o : Nat → Int32) (A : Nat → Nat → Int32) (J : Nat → Nat → Int64) {lo hi : Nat} (hh : hi ≤ 450) (hT : tbI lo hi A) {x : Int32} {z1 z2 : Int64} {n0 : Nat} {Q : Option Value → zW → Prop} : ∀ (z n m : Nat), z ≤ 50 → lo ≤ n → n < hi → lo ≤ m → m < hi → szN A n ≤ z → ¬ alk A z (nI n) (nI m) → ∀ {st t : Int32}, (∀ R, DB z (tkW A 45 (nI n)) (tkW A 45 (nI m)) t st R → Q (some (.int R)) (wR f o A J)) → zV (zMo 60 zX7_doubt) false n0 0 0 107 [(9, .int st), (8, .int t), (7, .int (nI m)), (6, .int (nI n)), (0, .ref 76), (1, .int x), (2, .long z1), (4, .long z2)] [] (wR f o A J) Q := by
  intro z
  induction z with
  | zero =>
    intro n m _ hlo hn _ _ hz
    have := (rN_sz (hT n hlo hn)).1
    omega
  | succ z ih0 =>
    intro n m hz50 hlo hn hlo2 hm hz hu st t hQ
    have ih := fun n m => ih0 n m (by omega)
    iterate 3 (refine zv_step (bX7_doubt 60) rfl rfl trivial ?_)
    refine zv_iale (bX7_doubt 60) rfl rfl (vp_in_nI (by omega) (by decide)) (show A 0 (nI n).toNatClampNeg = A 0 n by rw [nI_clamp (by omega)]) ?_
    iterate 3 (refine zv_step (bX7_doubt 60) rfl rfl trivial ?_)
    refine zv_iale (bX7_doubt 60) rfl rfl (vp_in_nI (by omega) (by decide)) (show A 0 (nI m).toNatClampNeg = A 0 m by rw [nI_clamp (by omega)]) ?_
    iterate 1 (refine zv_step (bX7_doubt 60) rfl rfl trivial ?_)
    refine zv_ifb (fun h121 => ?_) (fun h121 => ?_)
    · iterate 1 (refine zv_step (bX7_doubt 60) rfl rfl trivial ?_)
      exact zv_iret (bX7_doubt 60) rfl (Or.inl rfl) (Nat.zero_le _) (Nat.zero_le _) (hQ _ ⟨_, _, _, _, _, _, tk_d hh hT hlo hn, tk_d hh hT hlo2 hm, Or.inl ⟨fun e => h121 ((kv_eq (hT n hlo hn) (hT m hlo2 hm)).mp e).1, rfl⟩⟩)
    · iterate 3 (refine zv_step (bX7_doubt 60) rfl rfl trivial ?_)
      refine zv_iale (bX7_doubt 60) rfl rfl (vp_in_nI (by omega) (by decide)) (show A 1 (nI n).toNatClampNeg = A 1 n by rw [nI_clamp (by omega)]) ?_
      iterate 3 (refine zv_step (bX7_doubt 60) rfl rfl trivial ?_)
      refine zv_iale (bX7_doubt 60) rfl rfl (vp_in_nI (by omega) (by decide)) (show A 1 (nI m).toNatClampNeg = A 1 m by rw [nI_clamp (by omega)]) ?_
      iterate 1 (refine zv_step (bX7_doubt 60) rfl rfl trivial ?_)
      refine zv_ifb (fun h138 => ?_) (fun h138 => ?_)
      · iterate 1 (refine zv_step (bX7_doubt 60) rfl rfl trivial ?_)
        exact zv_iret (bX7_doubt 60) rfl (Or.inl rfl) (Nat.zero_le _) (Nat.zero_le _) (hQ _ ⟨_, _, _, _, _, _, tk_d hh hT hlo hn, tk_d hh hT hlo2 hm, Or.inl ⟨fun e => h138 ((kv_eq (hT n hlo hn) (hT m hlo2 hm)).mp e).2, rfl⟩⟩)
      · have q121 : A 0 n = A 0 m := Decidable.not_not.mp h121
        have q138 : A 1 n = A 1 m := Decidable.not_not.mp h138
        obtain ⟨d1, d2⟩ := dn_un hh hT hlo hn hlo2 hm hz hu q121 q138
        obtain ⟨hp2, hp3⟩ := rN_parts hT hlo hn hz
        obtain ⟨hq2, hq3⟩ := rN_parts (z := 40) hT hlo2 hm (by have := (rN_sz (hT m hlo2 hm)).2.1; omega)
        iterate 4 (refine zv_step (bX7_doubt 60) rfl rfl trivial ?_)
        refine zv_iale (bX7_doubt 60) rfl rfl (vp_in_nI (by omega) (by decide)) (show A 2 (nI n).toNatClampNeg = A 2 n by rw [nI_clamp (by omega)]) ?_
        iterate 3 (refine zv_step (bX7_doubt 60) rfl rfl trivial ?_)
        refine zv_iale (bX7_doubt 60) rfl rfl (vp_in_nI (by omega) (by decide)) (show A 2 (nI m).toNatClampNeg = A 2 m by rw [nI_clamp (by omega)]) ?_
        refine zv_V2 (bX7_doubt 60) rfl rfl rfl rfl rfl rfl rfl ⟨rfl, rfl, rfl⟩ ⟨by show z + 1 + 1 ≤ 60; omega, by show 8 + (3 + 11) + 64 * (z + 1) ≤ 64 * (60); omega⟩ ⟨Nat.zero_le _, Nat.zero_le _⟩ (mAlike f o A J hh hT z _ _ hp2 hq2) ?_
        rintro _ _ ⟨rfl, ⟨g1, rfl⟩ | ⟨g1, rfl⟩⟩
        · obtain ⟨a, b, ea, eb, la, ha, lb, hb, hsa, hab⟩ := d2 g1
          iterate 1 (refine zv_step (bX7_doubt 60) rfl rfl trivial ?_)
          refine zv_ift (by decide) ?_
          iterate 5 (refine zv_step (bX7_doubt 60) rfl rfl trivial ?_)
          refine zv_ift (by decide) ?_
          iterate 11 (refine zv_step (bX7_doubt 60) rfl rfl trivial ?_)
          refine zv_ift (by decide) ?_
          iterate 3 (refine zv_step (bX7_doubt 60) rfl rfl trivial ?_)
          refine zv_iale (bX7_doubt 60) rfl rfl (vp_in_nI (by omega) (by decide)) (show A 3 (nI n).toNatClampNeg = nI a by rw [nI_clamp (by omega)]; exact ea) ?_
          iterate 3 (refine zv_step (bX7_doubt 60) rfl rfl trivial ?_)
          refine zv_ift (by decide) ?_
          iterate 3 (refine zv_step (bX7_doubt 60) rfl rfl trivial ?_)
          refine zv_iale (bX7_doubt 60) rfl rfl (vp_in_nI (by omega) (by decide)) (show A 3 (nI m).toNatClampNeg = nI b by rw [nI_clamp (by omega)]; exact eb) ?_
          iterate 2 (refine zv_step (bX7_doubt 60) rfl rfl trivial ?_)
          refine zv_locals (l := [(7, .int (nI b)), (6, .int (nI a)), (9, .int (st * Int32.ofInt 3)), (8, .int (t + Int32.ofInt 2 * st)), (10, .int (Int32.ofInt 0)), (0, .ref 76), (1, .int x), (2, .long z1), (4, .long z2)]) (l' := [(9, .int (st * Int32.ofInt 3)), (8, .int (t + Int32.ofInt 2 * st)), (7, .int (nI b)), (6, .int (nI a)), (0, .ref 76), (1, .int x), (2, .long z1), (4, .long z2)]) ?_ (ih a b la ha lb hb hsa hab (fun R r => hQ R ⟨_, _, _, _, _, _, tk_d hh hT hlo hn, tk_d hh hT hlo2 hm, Or.inr (Or.inr ⟨(kv_eq (hT n hlo hn) (hT m hlo2 hm)).mpr ⟨q121, q138⟩, tk_alk2 hh hT hlo hn hlo2 hm hz q121 g1, by rw [ea, eb]; exact r⟩)⟩))
          simp
        · obtain ⟨a, b, ea, eb, la, ha, lb, hb, hsa, hab⟩ := d1 g1
          iterate 1 (refine zv_step (bX7_doubt 60) rfl rfl trivial ?_)
          refine zv_iff (by decide) ?_
          iterate 6 (refine zv_step (bX7_doubt 60) rfl rfl trivial ?_)
          refine zv_iff (by decide) ?_
          iterate 10 (refine zv_step (bX7_doubt 60) rfl rfl trivial ?_)
          refine zv_iff (by decide) ?_
          iterate 3 (refine zv_step (bX7_doubt 60) rfl rfl trivial ?_)
          refine zv_iale (bX7_doubt 60) rfl rfl (vp_in_nI (by omega) (by decide)) (show A 2 (nI n).toNatClampNeg = nI a by rw [nI_clamp (by omega)]; exact ea) ?_
          iterate 4 (refine zv_step (bX7_doubt 60) rfl rfl trivial ?_)
          refine zv_iff (by decide) ?_
          iterate 3 (refine zv_step (bX7_doubt 60) rfl rfl trivial ?_)
          refine zv_iale (bX7_doubt 60) rfl rfl (vp_in_nI (by omega) (by decide)) (show A 2 (nI m).toNatClampNeg = nI b by rw [nI_clamp (by omega)]; exact eb) ?_
          iterate 3 (refine zv_step (bX7_doubt 60) rfl rfl trivial ?_)
          refine zv_locals (l := [(7, .int (nI b)), (6, .int (nI a)), (9, .int (st * Int32.ofInt 3)), (8, .int (t + st)), (10, .int (Int32.ofInt 1)), (0, .ref 76), (1, .int x), (2, .long z1), (4, .long z2)]) (l' := [(9, .int (st * Int32.ofInt 3)), (8, .int (t + st)), (7, .int (nI b)), (6, .int (nI a)), (0, .ref 76), (1, .int x), (2, .long z1), (4, .long z2)]) ?_ (ih a b la ha lb hb hsa hab (fun R r => hQ R ⟨_, _, _, _, _, _, tk_d hh hT hlo hn, tk_d hh hT hlo2 hm, Or.inr (Or.inl ⟨(kv_eq (hT n hlo hn) (hT m hlo2 hm)).mpr ⟨q121, q138⟩, by rw [ea, eb]; exact fun e => hab ((tk_alk hh hT z a b la ha lb hb hsa).mpr e), by rw [ea, eb]; exact r⟩)⟩))
          simp
set_option maxHeartbeats 1000000 in
set_option maxRecDepth 20000 in
theorem mDoubtX (f : Nat → zC) (o : Nat → Int32) (A : Nat → Nat → Int32) (J : Nat → Nat → Int64) {u : Nat} (hu : u ≤ 120) (ho : o 0 = nI u) (hT : tbI 0 u A) {h : Nat} (hh : h ≤ 20) (hw : nnW h (A 8)) (ho10 : o 10 = nI h) (x : Int32) (z1 z2 : Int64) : zK 60 zX7_doubt [.ref 76, .int x, .long z1, .long z2] (wR f o A J) (fun r w' => ∃ (o' : Nat → Int32) (A' : Nat → Nat → Int32) (J' : Nat → Nat → Int64) (R : Int32), r = some (.int R) ∧ w' = wR f o' A' J' ∧ dbM o u A o' A' ∧ dbR x z1 z2 (fun s R => ∃ J1, okJ h A s J1 ∧ dbA (ctW h J1) z1 z2 (fun p1 p2 R => ∃ T1 T2 z, RT (eW A) (mG (eW A) (A 6) (ltW A s) (lW J1)) (lW J1) 20 0 h p1 T1 ∧ RT (eW A) (mG (eW A) (A 6) (ltW A s) (lW J1)) (lW J1) 20 0 h p2 T2 ∧ DB z T1 T2 (Int32.ofInt 0) (Int32.ofInt 1) R) R) R) := by
  refine zK_of qX7_doubt (by decide +kernel) rfl ?_
  iterate 4 (refine zv_step (bX7_doubt 60) rfl rfl trivial ?_)
  refine zv_S3 (bX7_doubt 60) rfl rfl rfl rfl ⟨rfl, rfl, rfl⟩ ⟨by decide, by decide⟩ ⟨Nat.zero_le _, Nat.zero_le _⟩ (mIn _ _ _ _ (a := 0) (b := 8) (by decide) (by decide)) ?_
  rintro _ _ ⟨rfl, ⟨g1, rfl⟩ | ⟨g1, rfl⟩⟩
  · try rw [Int32.toInt_toInt64] at g1
    obtain ⟨s, hs, rfl⟩ := in_nat (x := x) (b := 8) (by decide) g1
    iterate 1 (refine zv_step (bX7_doubt 60) rfl rfl trivial ?_)
    refine zv_iff (by decide) ?_
    iterate 4 (refine zv_step (bX7_doubt 60) rfl rfl trivial ?_)
    refine zv_ifb (fun h15 => ?_) (fun h15 => ?_)
    · have z1n : z1.toInt < 0 := by
        rw [lg_cmp_lt, Int64.lt_iff_toInt_lt] at h15
        exact h15
      iterate 1 (refine zv_step (bX7_doubt 60) rfl rfl trivial ?_)
      exact zv_iret (bX7_doubt 60) rfl (Or.inl rfl) (Nat.zero_le _) (Nat.zero_le _) ⟨o, A, J, _, rfl, rfl, ⟨⟨ho, hT⟩, fun _ _ _ _ => rfl, fun _ _ => rfl, fun _ _ _ => rfl⟩, Or.inl ⟨rfl, fun q => absurd q.2.1 (Int.not_le.mpr z1n)⟩⟩
    · have z10 : 0 ≤ z1.toInt := by
        rw [lg_cmp_lt, Int64.lt_iff_toInt_lt] at h15
        exact Int.not_lt.mp h15
      iterate 4 (refine zv_step (bX7_doubt 60) rfl rfl trivial ?_)
      refine zv_ifb (fun h22 => ?_) (fun h22 => ?_)
      · have z20 : 0 ≤ z2.toInt := by
          rw [lg_cmp_ge, Int64.le_iff_toInt_le] at h22
          exact h22
        iterate 4 (refine zv_step (bX7_doubt 60) rfl rfl trivial ?_)
        refine zv_ifb (fun h31 => ?_) (fun h31 => ?_)
        · iterate 3 (refine zv_step (bX7_doubt 60) rfl rfl trivial ?_)
          refine zv_V1 (bX7_doubt 60) rfl rfl rfl rfl rfl rfl rfl ⟨rfl, rfl, rfl⟩ ⟨by decide, by decide⟩ ⟨Nat.zero_le _, Nat.zero_le _⟩ (mCounted f o A J hh hw ho10 hs rfl) ?_
          rintro _ _ ⟨J2, rfl, rfl, hJ2⟩
          refine zv_world (show _ = wR f (upd o 28 (nI s)) A J2 from rfl) ?_
          iterate 2 (refine zv_step (bX7_doubt 60) rfl rfl trivial ?_)
          refine zv_ifb (fun h54 => ?_) (fun h54 => ?_)
          · iterate 1 (refine zv_step (bX7_doubt 60) rfl rfl trivial ?_)
            exact zv_iret (bX7_doubt 60) rfl (Or.inl rfl) (Nat.zero_le _) (Nat.zero_le _) ⟨(upd o 28 (nI s)), A, J2, _, rfl, rfl, ⟨⟨ho, hT⟩, fun j a b c => upd_ne _ _ b, fun _ _ => rfl, fun _ _ _ => rfl⟩, Or.inr ⟨s, hs, rfl, z10, z20, J2, hJ2, Or.inl ⟨fun q => Int64.not_le.mpr q.1 ((lg_cmp_ge _ _).mp h54), rfl⟩⟩⟩
          · iterate 3 (refine zv_step (bX7_doubt 60) rfl rfl trivial ?_)
            refine zv_V1 (bX7_doubt 60) rfl rfl rfl rfl rfl rfl rfl ⟨rfl, rfl, rfl⟩ ⟨by decide, by decide⟩ ⟨Nat.zero_le _, Nat.zero_le _⟩ (mCounted f (upd o 28 (nI s)) A J2 hh hw ho10 hs rfl) ?_
            rintro _ _ ⟨J3, rfl, rfl, hJ3⟩
            refine zv_world (show _ = wR f (upd o 28 (nI s)) A J3 from rfl) ?_
            iterate 2 (refine zv_step (bX7_doubt 60) rfl rfl trivial ?_)
            refine zv_ifb (fun h65 => ?_) (fun h65 => ?_)
            · obtain ⟨p1, hc1, rfl⟩ := l_nat z10 (ctW_le hJ3) (by rw [← ctW_u hJ2 hJ3]; exact Int64.not_le.mp (fun e => h54 ((lg_cmp_ge _ _).mpr e)))
              obtain ⟨p2, hc2, rfl⟩ := l_nat z20 (ctW_le hJ3) ((lg_cmp_lt _ _).mp h65)
              obtain ⟨h0, hp1⟩ := ctW_lt hc1
              obtain ⟨_, hp2⟩ := ctW_lt hc2
              iterate 3 (refine zv_step (bX7_doubt 60) rfl rfl trivial ?_)
              refine zv_world (show _ = wR f (upd (upd o 28 (nI s)) 29 (nI 0)) A J3 from rfl) ?_
              iterate 5 (refine zv_step (bX7_doubt 60) rfl rfl trivial ?_)
              refine zv_V3 (bX7_doubt 60) rfl rfl rfl rfl rfl rfl rfl ⟨rfl, rfl, rfl⟩ ⟨by decide, by decide⟩ ⟨Nat.zero_le _, Nat.zero_le _⟩ (mTakesX f (upd o 28 (nI s)) A J3 hh hw hJ3 20 0 h p1 _ _ _ rfl ho10 rfl h0 (Nat.le_refl _) (by omega) hp1 0 A (fun _ _ => rfl) (fun n h1 h2 => absurd h2 (by omega)) (by omega)) ?_
              rintro _ _ ⟨q1, A1, rfl, rfl, k1, r1⟩
              iterate 6 (refine zv_step (bX7_doubt 60) rfl rfl trivial ?_)
              refine zv_V3 (bX7_doubt 60) rfl rfl rfl rfl rfl rfl rfl ⟨rfl, rfl, rfl⟩ ⟨by decide, by decide⟩ ⟨Nat.zero_le _, Nat.zero_le _⟩ (mTakesX f (upd o 28 (nI s)) A J3 hh hw hJ3 20 0 h p2 _ _ _ rfl ho10 rfl h0 (Nat.le_refl _) (by omega) hp2 (q1 + 1) A1 k1.1 k1.2.1 (by have := k1.2.2.2.2.1; omega)) ?_
              rintro _ _ ⟨q2, A2, rfl, rfl, k2, r2⟩
              iterate 5 (refine zv_step (bX7_doubt 60) rfl rfl trivial ?_)
              have l1 := k1.2.2.2.2.1
              have l2 := k2.2.2.2.2.1
              have m1 := k1.2.2.2.1
              have m2' := k2.2.2.2.1
              have hne : p1 ≠ p2 := fun e => h31 ((lg_cmp_eq _ _).mpr (by rw [e]))
              have t1 : tkW A2 45 (nI (400 + q1)) = tkW A1 20 (nI (400 + q1)) := by
                have pz : pt 400 (400 + (q1 + 1)) A1 20 (nI (400 + q1)) := Or.inr ⟨_, rfl, by omega, by omega, by rw [k1.2.2.2.2.2]; omega⟩
                rw [tkW_fr (by omega) k1.2.1 (fun r _ i _ hi => k2.2.2.1 r i (by omega)) 45 _ (Or.inr ⟨_, rfl, by omega, by omega, by rw [k1.2.2.2.2.2]; omega⟩), tkW_fu (by omega) k1.2.1 20 _ pz 45 (by decide)]
              have t2 : tkW A2 45 (nI (400 + q2)) = tkW A2 20 (nI (400 + q2)) := tkW_fu (by omega) k2.2.1 20 _ (Or.inr ⟨_, rfl, by omega, by omega, by rw [k2.2.2.2.2.2]; omega⟩) 45 (by decide)
              have hs1 : szN A2 (400 + q1) ≤ 40 := (rN_sz (k2.2.1 (400 + q1) (by omega) (by omega))).2.1
              have hun : ¬ alk A2 40 (nI (400 + q1)) (nI (400 + q2)) := fun e => by
                have e9 := (tk_alk (lo := 400) (hi := 400 + (q2 + 1)) (by omega) k2.2.1 40 (400 + q1) (400 + q2) (by omega) (by omega) (by omega) (by omega) hs1).mp e
                rw [t1, t2] at e9
                exact hne (RT_pl 20 0 h p1 p2 _ r1 (by rw [e9]; exact r2))
              refine zv_locals (l := [(9, .int (Int32.ofInt 1)), (8, .int (Int32.ofInt 0)), (7, .int (nI (400 + q2))), (6, .int (nI (400 + q1))), (0, .ref 76), (1, .int (nI s)), (2, .long (lN p1)), (4, .long (lN p2))]) (l' := [(9, .int (Int32.ofInt 1)), (8, .int (Int32.ofInt 0)), (7, .int (nI (400 + q2))), (6, .int (nI (400 + q1))), (0, .ref 76), (1, .int (nI s)), (2, .long (lN p1)), (4, .long (lN p2))]) (fun q h => h) (dbtLX f _ A2 J3 (lo := 400) (hi := 400 + (q2 + 1)) (by omega) k2.2.1 40 (400 + q1) (400 + q2) (by decide) (by omega) (by omega) (by omega) (by omega) hs1 hun (fun v r9 => ⟨_, A2, J3, v, rfl, rfl, ⟨⟨ho, tbI_fr hT (fun r _ i _ hi => (k2.2.2.1 r i (by omega)).trans (k1.2.2.1 r i (by omega)))⟩, fun j a b c => by rw [upd_ne _ _ c, upd_ne _ _ b], fun r hr => (k2.1 r hr).trans (k1.1 r hr), fun r i hi => (k2.2.2.1 r i (by omega)).trans (k1.2.2.1 r i (by omega))⟩, Or.inr ⟨s, hs, rfl, z10, z20, J3, hJ3, Or.inr (Or.inr ⟨p1, p2, hc1, hc2, hne, rfl, rfl, _, _, 40, r1, r2, by rw [← t1, ← t2]; exact r9⟩)⟩⟩))
            · iterate 1 (refine zv_step (bX7_doubt 60) rfl rfl trivial ?_)
              exact zv_iret (bX7_doubt 60) rfl (Or.inl rfl) (Nat.zero_le _) (Nat.zero_le _) ⟨(upd o 28 (nI s)), A, J3, _, rfl, rfl, ⟨⟨ho, hT⟩, fun j a b c => upd_ne _ _ b, fun _ _ => rfl, fun _ _ _ => rfl⟩, Or.inr ⟨s, hs, rfl, z10, z20, J3, hJ3, Or.inl ⟨fun q => h65 ((lg_cmp_lt _ _).mpr q.2), rfl⟩⟩⟩
        · iterate 3 (refine zv_step (bX7_doubt 60) rfl rfl trivial ?_)
          refine zv_V1 (bX7_doubt 60) rfl rfl rfl rfl rfl rfl rfl ⟨rfl, rfl, rfl⟩ ⟨by decide, by decide⟩ ⟨Nat.zero_le _, Nat.zero_le _⟩ (mCounted f o A J hh hw ho10 hs rfl) ?_
          rintro _ _ ⟨J1, rfl, rfl, hJ1⟩
          iterate 2 (refine zv_step (bX7_doubt 60) rfl rfl trivial ?_)
          refine zv_ifb (fun h41 => ?_) (fun h41 => ?_)
          · iterate 3 (refine zv_step (bX7_doubt 60) rfl rfl trivial ?_)
            refine zv_V1 (bX7_doubt 60) rfl rfl rfl rfl rfl rfl rfl ⟨rfl, rfl, rfl⟩ ⟨by decide, by decide⟩ ⟨Nat.zero_le _, Nat.zero_le _⟩ (mCounted f (upd o 28 (nI s)) A J1 hh hw ho10 hs rfl) ?_
            rintro _ _ ⟨J2, rfl, rfl, hJ2⟩
            refine zv_world (show _ = wR f (upd o 28 (nI s)) A J2 from rfl) ?_
            iterate 2 (refine zv_step (bX7_doubt 60) rfl rfl trivial ?_)
            refine zv_ift (by rw [ctW_u hJ2 hJ1]; exact h41) ?_
            iterate 1 (refine zv_step (bX7_doubt 60) rfl rfl trivial ?_)
            exact zv_iret (bX7_doubt 60) rfl (Or.inl rfl) (Nat.zero_le _) (Nat.zero_le _) ⟨(upd o 28 (nI s)), A, J2, _, rfl, rfl, ⟨⟨ho, hT⟩, fun j a b c => upd_ne _ _ b, fun _ _ => rfl, fun _ _ _ => rfl⟩, Or.inr ⟨s, hs, rfl, z10, z20, J1, hJ1, Or.inl ⟨fun q => Int64.not_le.mpr q.1 ((lg_cmp_ge _ _).mp h41), rfl⟩⟩⟩
          · iterate 1 (refine zv_step (bX7_doubt 60) rfl rfl trivial ?_)
            exact zv_iret (bX7_doubt 60) rfl (Or.inl rfl) (Nat.zero_le _) (Nat.zero_le _) ⟨(upd o 28 (nI s)), A, J1, _, rfl, rfl, ⟨⟨ho, hT⟩, fun j a b c => upd_ne _ _ b, fun _ _ => rfl, fun _ _ _ => rfl⟩, Or.inr ⟨s, hs, rfl, z10, z20, J1, hJ1, Or.inr (Or.inl ⟨Int64.not_le.mp (fun e => h41 ((lg_cmp_ge _ _).mpr e)), (lg_cmp_eq _ _).mp (Decidable.not_not.mp h31), rfl⟩)⟩⟩
      · have z2n : z2.toInt < 0 := by
          rw [lg_cmp_ge, Int64.le_iff_toInt_le] at h22
          exact Int.not_le.mp h22
        iterate 1 (refine zv_step (bX7_doubt 60) rfl rfl trivial ?_)
        exact zv_iret (bX7_doubt 60) rfl (Or.inl rfl) (Nat.zero_le _) (Nat.zero_le _) ⟨o, A, J, _, rfl, rfl, ⟨⟨ho, hT⟩, fun _ _ _ _ => rfl, fun _ _ => rfl, fun _ _ _ => rfl⟩, Or.inl ⟨rfl, fun q => absurd q.2.2 (Int.not_le.mpr z2n)⟩⟩
  · try rw [Int32.toInt_toInt64] at g1
    iterate 1 (refine zv_step (bX7_doubt 60) rfl rfl trivial ?_)
    refine zv_ift (by decide) ?_
    iterate 1 (refine zv_step (bX7_doubt 60) rfl rfl trivial ?_)
    exact zv_iret (bX7_doubt 60) rfl (Or.inl rfl) (Nat.zero_le _) (Nat.zero_le _) ⟨o, A, J, _, rfl, rfl, ⟨⟨ho, hT⟩, fun _ _ _ _ => rfl, fun _ _ => rfl, fun _ _ _ => rfl⟩, Or.inl ⟨rfl, fun q => g1 q.1⟩⟩
end
section
/-! the draft's page: its NODES as rows of trees -/
theorem stC_14 {u : Nat} {P : Nat → Nat → Int32} {k v x y sh : Int32} : stC 14 P u k v x y sh 15 u = k ∧ stC 14 P u k v x y sh 16 u = v ∧ stC 14 P u k v x y sh 17 u = x ∧ stC 14 P u k v x y sh 18 u = y := by
  have e : ∀ i, 14 < i → i ≤ 18 → stC 14 P u k v x y sh i = putV 14 P u k v x y (owW k v) (hbW (Int16.ofInt 764).toInt32 k) (leW k v) (caW k v) i := fun i h1 h2 => by
    refine (updA_ne _ _ (show i ≠ 14 + 11 by omega)).trans ?_
    rw [adI_row _ _ _ _ (by omega), adI_row _ _ _ _ (by omega)]
    rfl
  rw [e 15 (by decide) (by decide), e 16 (by decide) (by decide), e 17 (by decide) (by decide), e 18 (by decide) (by decide)]
  exact ⟨upd_self _ _ _, upd_self _ _ _, upd_self _ _ _, upd_self _ _ _⟩
/-- a NODE of the draft as a tree's row has it -/
def gN (P : Nat → Nat → Int32) (n : Nat) : Prop := ∃ k, k < 10 ∧ P 15 n = nI k ∧ ((k < 2 ∧ P 17 n = m1 ∧ P 18 n = m1 ∧ ∃ v, v < 10000 ∧ P 16 n = nI v) ∨ (2 ≤ k ∧ k ≤ 6 ∧ P 16 n = m1 ∧ ∃ a b, a < n ∧ b < n ∧ P 17 n = nI a ∧ P 18 n = nI b) ∨ (7 ≤ k ∧ P 18 n = m1 ∧ (k = 9 → ∃ v, v < 10000 ∧ P 16 n = nI v) ∧ (k ≤ 8 → P 16 n = m1) ∧ ∃ a, a < n ∧ P 17 n = nI a))
def PG (u : Nat) (P : Nat → Nat → Int32) : Prop := ∀ n, n < u → gN P n
theorem gN_fr {P P' : Nat → Nat → Int32} {n : Nat} (h : gN P n) (e : ∀ i, 14 < i → i ≤ 18 → P' i n = P i n) : gN P' n := by
  unfold gN at h ⊢
  rw [e 15 (by decide) (by decide), e 16 (by decide) (by decide), e 17 (by decide) (by decide), e 18 (by decide) (by decide)]
  exact h
def kvC (P : Nat → Nat → Int32) (n : Nat) : Nat × Nat := ((P 15 n).toNatClampNeg, if P 15 n = nI 7 then 25 else if P 15 n = nI 8 then 26 else (P 16 n).toNatClampNeg)
def twC (P : Nat → Nat → Int32) : Nat → Int32 → List (Nat × Nat)
  | 0, _ => []
  | z + 1, x => if x = m1 then [] else twC P z (P 17 x.toNatClampNeg) ++ twC P z (P 18 x.toNatClampNeg) ++ [kvC P x.toNatClampNeg]
theorem twC_m1 (P : Nat → Nat → Int32) (z : Nat) : twC P z m1 = [] := by
  cases z with
  | zero => rfl
  | succ z => exact if_pos rfl
theorem twC_nI {P : Nat → Nat → Int32} {z n : Nat} (hn : n < 1000) : twC P (z + 1) (nI n) = twC P z (P 17 n) ++ twC P z (P 18 n) ++ [kvC P n] := by
  show (if nI n = m1 then [] else twC P z (P 17 (nI n).toNatClampNeg) ++ twC P z (P 18 (nI n).toNatClampNeg) ++ [kvC P (nI n).toNatClampNeg]) = _
  rw [if_neg (m1_n (by omega)), nI_clamp (by omega)]
theorem kvC_fr {P P' : Nat → Nat → Int32} {n : Nat} (e : ∀ i, 14 < i → i ≤ 18 → P' i n = P i n) : kvC P' n = kvC P n := by
  unfold kvC
  rw [e 15 (by decide) (by decide), e 16 (by decide) (by decide)]
theorem gN_dn {P : Nat → Nat → Int32} {n : Nat} (h : gN P n) : okp n (P 17 n) ∧ okp n (P 18 n) := by
  obtain ⟨k, hk, h0, hs⟩ := h
  rcases hs with ⟨k1, h2, h3, _⟩ | ⟨k1, k6, _, a, b, ha, hb, h2, h3⟩ | ⟨k1, h3, _, _, a, ha, h2⟩
  · exact ⟨Or.inl h2, Or.inl h3⟩
  · exact ⟨Or.inr ⟨a, ha, h2⟩, Or.inr ⟨b, hb, h3⟩⟩
  · exact ⟨Or.inr ⟨a, ha, h2⟩, Or.inl h3⟩
theorem twC_fu {u : Nat} {P : Nat → Nat → Int32} (hu : u ≤ 120) (h : PG u P) : ∀ (z n : Nat), n < u → n < z → ∀ z', z ≤ z' → twC P z' (nI n) = twC P z (nI n)
  | 0, _, _, hz => absurd hz (Nat.not_lt_zero _)
  | z + 1, n, hn, hz => fun z' hz' => by
    obtain ⟨y, rfl⟩ : ∃ y, z' = y + 1 := ⟨z' - 1, by omega⟩
    have part : ∀ x, okp n x → twC P y x = twC P z x := by
      rintro x (e | ⟨j, hj, e⟩)
      · rw [e, show (Int32.ofInt (-1)) = m1 from rfl, twC_m1, twC_m1]
      · rw [e]
        exact twC_fu hu h z j (by omega) (by omega) y (by omega)
    rw [twC_nI (by omega), twC_nI (by omega), part _ (gN_dn (h n hn)).1, part _ (gN_dn (h n hn)).2]
theorem twC_st {u : Nat} {P : Nat → Nat → Int32} (hu : u ≤ 120) (h : PG u P) {n : Nat} (hn : n < u) : twC P 200 (nI n) = twC P 200 (P 17 n) ++ twC P 200 (P 18 n) ++ [kvC P n] := by
  rw [← twC_fu hu h 200 n hn (by omega) 201 (by omega)]
  exact twC_nI (by omega)
theorem twC_fr {u : Nat} {P P' : Nat → Nat → Int32} (hu : u ≤ 120) (h : PG u P) (e : ∀ i, 14 < i → i ≤ 18 → ∀ j, j < u → P' i j = P i j) : ∀ (z n : Nat), n < u → twC P' z (nI n) = twC P z (nI n)
  | 0, _, _ => rfl
  | z + 1, n, hn => by
    have part : ∀ x, okp n x → twC P' z x = twC P z x := by
      rintro x (q | ⟨j, hj, q⟩)
      · rw [q, show (Int32.ofInt (-1)) = m1 from rfl, twC_m1, twC_m1]
      · rw [q]
        exact twC_fr hu h e z j (by omega)
    rw [twC_nI (by omega), twC_nI (by omega), e 17 (by decide) (by decide) n hn, e 18 (by decide) (by decide) n hn, part _ (gN_dn (h n hn)).1, part _ (gN_dn (h n hn)).2, kvC_fr (fun i h1 h2 => e i h1 h2 n hn)]
/-- a READING laid on the draft: its NODES, its row -/
theorem ly14 {E : Nat → Nat} {G : Nat → Int32} {lt : Nat → Nat → Bool} {L : Nat → Nat → Nat} {Z : Nat → (Nat → Nat → Int32) → Prop} (hZ : ∀ u P k v x y sh, u < 120 → PG u P → Z u P → PG (u + 1) (stC 14 P u k v x y sh) → Z (u + 1) (stC 14 P u k v x y sh)) : ∀ (f i j p : Nat) (T : List (Nat × Nat)), RT E (mG E G lt L) L f i j p T → ∀ (u : Nat) (P : Nat → Nat → Int32) (st : List Nat) (s' : (Nat → Nat → Int32) × Nat × List Nat), PG u P → Z u P → u + T.length ≤ 120 → lyC 14 T (P, u, st) s' → (PG (u + T.length) s'.1 ∧ Z (u + T.length) s'.1) ∧ s'.2 = (u + T.length, (u + T.length - 1) :: st) ∧ twC s'.1 200 (nI (u + T.length - 1)) = T ∧ (∀ i j, j < u → s'.1 i j = P i j) ∧ 1 ≤ T.length
  | 0, _, _, _, _, h => h.elim
  | f + 1, i, j, p, T, ⟨c, q, h1, h2, h3, h4⟩ => by
    intro u P st s' hP hz hu hl
    obtain ⟨w1, w2, w3⟩ := mG_pos h3
    obtain ⟨wab, w0, wn, w7, w8, w9⟩ := wi_pos w1
    have hc : c / 2 < 10 := by omega
    rcases h4 with ⟨a1, a2⟩ | ⟨a1, X, a2, a3⟩ | ⟨a1, a2, d, r, X, Y, b1, b2, b3, b4, b5, b6, b7⟩
    · have hv : (if c / 2 = 0 then E (i + c % 2) else nvN E (j - c % 2 - (i + c % 2)) (i + c % 2) 0) < 10000 := by
        refine isNum_E hc w1 _ ?_
        rcases (show c / 2 = 0 ∨ c / 2 = 1 by omega) with e | e
        · exact Or.inl ⟨e, by rw [if_pos e]⟩
        · exact Or.inr (Or.inl ⟨e, by rw [if_neg (by omega)]⟩)
      rw [a2] at hl hu ⊢
      obtain ⟨sh, rfl⟩ := tkC_0 a1 hl
      have hu1 : u < 120 := by have h9 : u + 1 ≤ 120 := hu; omega
      obtain ⟨r1, r2, r3, r4⟩ := stC_14 (u := u) (P := P) (k := nI (c / 2)) (v := nI (if c / 2 = 0 then E (i + c % 2) else nvN E (j - c % 2 - (i + c % 2)) (i + c % 2) 0)) (x := m1) (y := m1) (sh := sh)
      have hg : PG (u + 1) (stC 14 P u (nI (c / 2)) (nI (if c / 2 = 0 then E (i + c % 2) else nvN E (j - c % 2 - (i + c % 2)) (i + c % 2) 0)) m1 m1 sh) := fun n hn => by
        by_cases e : n = u
        · subst e
          exact ⟨c / 2, hc, r1, Or.inl ⟨a1, r3, r4, _, hv, r2⟩⟩
        · exact gN_fr (hP n (by omega)) (fun i _ _ => stC_ne (sh := sh) (by omega))
      refine ⟨⟨hg, hZ _ _ _ _ _ _ _ hu1 hP hz hg⟩, rfl, ?_, fun i j hj => stC_ne (sh := sh) (by omega), Nat.le_refl _⟩
      show twC (stC 14 P u (nI (c / 2)) (nI (if c / 2 = 0 then E (i + c % 2) else nvN E (j - c % 2 - (i + c % 2)) (i + c % 2) 0)) m1 m1 sh) 200 (nI u) = _
      rw [twC_nI (by omega), r3, r4, twC_m1]
      show [kvC (stC 14 P u (nI (c / 2)) (nI (if c / 2 = 0 then E (i + c % 2) else nvN E (j - c % 2 - (i + c % 2)) (i + c % 2) 0)) m1 m1 sh) u] = _
      unfold kvC
      rw [r1, r2, nI_clamp (by omega), nI_clamp (by omega), if_neg (fun e => absurd ((nI_eq (by omega) (by decide)).mp e) (by omega)), if_neg (fun e => absurd ((nI_eq (by omega) (by decide)).mp e) (by omega))]
    · have hv : E (i + c % 2) < 10000 := isNum_E hc w1 _ (Or.inr (Or.inr ⟨a1, rfl⟩))
      have hlen : T.length = X.length + 1 := by rw [a2, List.length_append]; rfl
      rw [a2] at hl
      obtain ⟨m, l1, l2⟩ := lyC_split X _ _ _ hl
      obtain ⟨⟨n1, z1⟩, n2, n3, n4, n5⟩ := ly14 hZ f _ _ _ X a3 u P st m hP hz (by omega) l1
      obtain ⟨P1, m2'⟩ := m
      rw [show m2' = (u + X.length, (u + X.length - 1) :: st) from n2] at l2
      obtain ⟨sh, rfl⟩ := tkC_1 a1 l2
      have hu1 : u + X.length < 120 := by omega
      obtain ⟨r1, r2, r3, r4⟩ := stC_14 (u := u + X.length) (P := P1) (k := nI (c / 2)) (v := if c / 2 = 9 then nI (E (i + c % 2)) else m1) (x := nI (u + X.length - 1)) (y := m1) (sh := sh)
      have hg : PG (u + X.length + 1) (stC 14 P1 (u + X.length) (nI (c / 2)) (if c / 2 = 9 then nI (E (i + c % 2)) else m1) (nI (u + X.length - 1)) m1 sh) := fun n hn => by
        by_cases e : n = u + X.length
        · subst e
          refine ⟨c / 2, hc, r1, Or.inr (Or.inr ⟨a1, r4, fun e9 => ⟨_, hv, r2.trans (if_pos e9)⟩, fun e8 => r2.trans (if_neg (by omega)), _, by omega, r3⟩)⟩
        · exact gN_fr (n1 n (by omega)) (fun i _ _ => stC_ne (sh := sh) (by omega))
      rw [hlen]
      refine ⟨⟨hg, hZ _ _ _ _ _ _ _ hu1 n1 z1 hg⟩, rfl, ?_, fun i j hj => (stC_ne (sh := sh) (by omega)).trans (n4 i j hj), by omega⟩
      show twC (stC 14 P1 (u + X.length) (nI (c / 2)) (if c / 2 = 9 then nI (E (i + c % 2)) else m1) (nI (u + X.length - 1)) m1 sh) 200 (nI (u + X.length)) = _
      have ek : kvC (stC 14 P1 (u + X.length) (nI (c / 2)) (if c / 2 = 9 then nI (E (i + c % 2)) else m1) (nI (u + X.length - 1)) m1 sh) (u + X.length) = (c / 2, E (i + c % 2)) := by
        unfold kvC
        rw [r1, r2, nI_clamp (by omega)]
        rcases (show c / 2 = 7 ∨ c / 2 = 8 ∨ c / 2 = 9 by omega) with e | e | e
        · rw [e, if_pos rfl, (w7 e).1]
        · rw [e, if_neg (by decide), if_pos rfl, (w8 e).1]
        · rw [e, if_neg (by decide), if_neg (by decide), if_pos rfl, nI_clamp (by omega)]
      rw [twC_nI (by omega), r3, r4, twC_m1, List.append_nil, ek, ← twC_fu (P := stC 14 P1 (u + X.length) (nI (c / 2)) (if c / 2 = 9 then nI (E (i + c % 2)) else m1) (nI (u + X.length - 1)) m1 sh) (u := u + X.length + 1) (by omega) hg 199 (u + X.length - 1) (by omega) (by omega) 200 (by omega), twC_fr (by omega) n1 (fun i _ _ j hj => stC_ne (sh := sh) (by omega)) 200 (u + X.length - 1) (by omega), n3, a2]
    · have hlen : T.length = X.length + Y.length + 1 := by rw [b5, List.length_append, List.length_append]; rfl
      rw [b5] at hl
      obtain ⟨m, l1, l3⟩ := lyC_split (X ++ Y) _ _ _ hl
      obtain ⟨m0, l1, l2⟩ := lyC_split X Y _ _ l1
      obtain ⟨⟨n1, z1⟩, n2, n3, n4, n5⟩ := ly14 hZ f _ _ _ X b6 u P st m0 hP hz (by omega) l1
      obtain ⟨P1, m2'⟩ := m0
      rw [show m2' = (u + X.length, (u + X.length - 1) :: st) from n2] at l2
      obtain ⟨⟨k1, z2⟩, k2, k3, k4, k5⟩ := ly14 hZ f _ _ _ Y b7 (u + X.length) P1 ((u + X.length - 1) :: st) m n1 z1 (by omega) l2
      obtain ⟨P2, m3'⟩ := m
      rw [show m3' = (u + X.length + Y.length, (u + X.length + Y.length - 1) :: (u + X.length - 1) :: st) from k2] at l3
      obtain ⟨sh, rfl⟩ := tkC_2 a1 a2 l3
      have hu1 : u + X.length + Y.length < 120 := by omega
      obtain ⟨r1, r2, r3, r4⟩ := stC_14 (u := u + X.length + Y.length) (P := P2) (k := nI (c / 2)) (v := m1) (x := nI (u + X.length - 1)) (y := nI (u + X.length + Y.length - 1)) (sh := sh)
      have hg : PG (u + X.length + Y.length + 1) (stC 14 P2 (u + X.length + Y.length) (nI (c / 2)) m1 (nI (u + X.length - 1)) (nI (u + X.length + Y.length - 1)) sh) := fun n hn => by
        by_cases e : n = u + X.length + Y.length
        · subst e
          exact ⟨c / 2, hc, r1, Or.inr (Or.inl ⟨a1, a2, r2, _, _, by omega, by omega, r3, r4⟩)⟩
        · exact gN_fr (k1 n (by omega)) (fun i _ _ => stC_ne (sh := sh) (by omega))
      rw [hlen, show u + (X.length + Y.length + 1) = u + X.length + Y.length + 1 by omega]
      refine ⟨⟨hg, hZ _ _ _ _ _ _ _ hu1 k1 z2 hg⟩, rfl, ?_, fun i j hj => (stC_ne (sh := sh) (by omega)).trans ((k4 i j (by omega)).trans (n4 i j hj)), by omega⟩
      show twC (stC 14 P2 (u + X.length + Y.length) (nI (c / 2)) m1 (nI (u + X.length - 1)) (nI (u + X.length + Y.length - 1)) sh) 200 (nI (u + X.length + Y.length)) = _
      have ek : kvC (stC 14 P2 (u + X.length + Y.length) (nI (c / 2)) m1 (nI (u + X.length - 1)) (nI (u + X.length + Y.length - 1)) sh) (u + X.length + Y.length) = (c / 2, 0) := by
        unfold kvC
        rw [r1, r2, nI_clamp (by omega), if_neg (fun e => absurd ((nI_eq (by omega) (by decide)).mp e) (by omega)), if_neg (fun e => absurd ((nI_eq (by omega) (by decide)).mp e) (by omega))]
        rfl
      have ex : twC (stC 14 P2 (u + X.length + Y.length) (nI (c / 2)) m1 (nI (u + X.length - 1)) (nI (u + X.length + Y.length - 1)) sh) 199 (nI (u + X.length - 1)) = X := by
        rw [← twC_fu (u := u + X.length + Y.length + 1) (by omega) hg 199 (u + X.length - 1) (by omega) (by omega) 200 (by omega), twC_fr (by omega) k1 (fun i _ _ j hj => stC_ne (sh := sh) (by omega)) 200 (u + X.length - 1) (by omega), twC_fr (by omega) n1 (fun i _ _ j hj => k4 i j hj) 200 (u + X.length - 1) (by omega)]
        exact n3
      have ey : twC (stC 14 P2 (u + X.length + Y.length) (nI (c / 2)) m1 (nI (u + X.length - 1)) (nI (u + X.length + Y.length - 1)) sh) 199 (nI (u + X.length + Y.length - 1)) = Y := by
        rw [← twC_fu (u := u + X.length + Y.length + 1) (by omega) hg 199 (u + X.length + Y.length - 1) (by omega) (by omega) 200 (by omega), twC_fr (by omega) k1 (fun i _ _ j hj => stC_ne (sh := sh) (by omega)) 200 (u + X.length + Y.length - 1) (by omega)]
        exact k3
      rw [twC_nI (by omega), r3, r4, ex, ey, ek, b5]
end
section
theorem kvC_eq {P : Nat → Nat → Int32} {n m : Nat} (h : gN P n) (g : gN P m) : kvC P n = kvC P m ↔ (P 15 n = P 15 m ∧ P 16 n = P 16 m) := by
  obtain ⟨k, hk, h0, hs⟩ := h
  obtain ⟨k', gk, g0, gs⟩ := g
  constructor
  · intro e
    have e0 : k = k' := by
      have := congrArg Prod.fst e
      unfold kvC at this
      rwa [h0, g0, show (nI k).toNatClampNeg = k from nI_clamp (by omega), show (nI k').toNatClampNeg = k' from nI_clamp (by omega)] at this
    subst e0
    refine ⟨by rw [h0, g0], ?_⟩
    have val : (∃ v, v < 10000 ∧ P 16 n = nI v) → (∃ v, v < 10000 ∧ P 16 m = nI v) → k ≠ 7 → k ≠ 8 → P 16 n = P 16 m := by
      rintro ⟨v, hv, ev⟩ ⟨v', hv', ev'⟩ n7 n8
      have := congrArg Prod.snd e
      unfold kvC at this
      rw [h0, g0, if_neg (fun q => n7 ((nI_eq (by omega) (by decide)).mp q)), if_neg (fun q => n8 ((nI_eq (by omega) (by decide)).mp q)), if_neg (fun q => n7 ((nI_eq (by omega) (by decide)).mp q)), if_neg (fun q => n8 ((nI_eq (by omega) (by decide)).mp q)), ev, ev', show (nI v).toNatClampNeg = v from nI_clamp (by omega), show (nI v').toNatClampNeg = v' from nI_clamp (by omega)] at this
      rw [ev, ev', show v = v' from this]
    rcases hs with ⟨k1, _, _, hv⟩ | ⟨k1, k6, h1, _⟩ | ⟨k1, _, h9, h8, _⟩ <;> rcases gs with ⟨l1, _, _, gv⟩ | ⟨l1, l6, g1, _⟩ | ⟨l1, _, g9, g8, _⟩
    · exact val hv gv (by omega) (by omega)
    · omega
    · omega
    · omega
    · rw [h1, g1]
    · omega
    · omega
    · omega
    · by_cases q : k = 9
      · exact val (h9 q) (g9 q) (by omega) (by omega)
      · rw [h8 (by omega), g8 (by omega)]
  · rintro ⟨e0, e1⟩
    unfold kvC
    rw [e0, e1]
theorem tw_TR {u : Nat} {P : Nat → Nat → Int32} (hu : u ≤ 120) (h : PG u P) : ∀ (z n : Nat), n < u → n < z → TR z (twC P 200 (nI n))
  | 0, _, _, hz => absurd hz (Nat.not_lt_zero _)
  | z + 1, n, hn, hz => by
    obtain ⟨k, hk, h0, hs⟩ := h n hn
    have e1 : (kvC P n).1 = k := by
      show (P 15 n).toNatClampNeg = k
      rw [h0, nI_clamp (by omega)]
    refine ⟨kvC P n, _, _, twC_st hu h hn, ?_⟩
    rw [e1]
    rcases hs with ⟨k1, h2, h3, _⟩ | ⟨k1, k6, _, a, b, ha, hb, h2, h3⟩ | ⟨k1, h3, _, _, a, ha, h2⟩
    · exact Or.inl ⟨k1, by rw [h2, twC_m1], by rw [h3, twC_m1]⟩
    · rw [h2, h3]
      exact Or.inr (Or.inl ⟨k1, k6, tw_TR hu h z a (by omega) (by omega), tw_TR hu h z b (by omega) (by omega)⟩)
    · rw [h2, h3, twC_m1]
      exact Or.inr (Or.inr ⟨k1, tw_TR hu h z a (by omega) (by omega), rfl⟩)
theorem tw_d {u : Nat} {P : Nat → Nat → Int32} (hu : u ≤ 120) (h : PG u P) {n : Nat} (hn : n < u) : dec (twC P 200 (nI n)) (twC P 200 (P 17 n)) (twC P 200 (P 18 n)) (kvC P n) := by
  obtain ⟨k, hk, h0, hs⟩ := h n hn
  have e1 : (kvC P n).1 = k := by
    show (P 15 n).toNatClampNeg = k
    rw [h0, nI_clamp (by omega)]
  refine ⟨twC_st hu h hn, ?_⟩
  rw [e1]
  rcases hs with ⟨k1, h2, h3, _⟩ | ⟨k1, k6, _, a, b, ha, hb, h2, h3⟩ | ⟨k1, h3, _, _, a, ha, h2⟩
  · exact Or.inl ⟨k1, by rw [h2, twC_m1], by rw [h3, twC_m1]⟩
  · rw [h2, h3]
    exact Or.inr (Or.inl ⟨k1, k6, tw_TR hu h 200 a (by omega) (by omega), tw_TR hu h 200 b (by omega) (by omega)⟩)
  · rw [h2, h3, twC_m1]
    exact Or.inr (Or.inr ⟨k1, tw_TR hu h 200 a (by omega) (by omega), rfl⟩)
/-- one shape, one row -/
theorem shP {u : Nat} {P : Nat → Nat → Int32} (hu : u ≤ 120) (h : PG u P) (hS : SI 14 u P) {z : Nat} (ih : ∀ m n, m < u → n < u → m < z → (P 25 m = P 25 n ↔ twC P 200 (nI m) = twC P 200 (nI n))) {a b : Nat} (ha : a ≤ u) (hb : b ≤ u) (hz : a ≤ z) {x y : Int32} (hx : okp a x) (hy : okp b y) : shV (P 25) x = shV (P 25) y ↔ twC P 200 x = twC P 200 y := by
  rcases hx with e | ⟨c, hc, e⟩ <;> rcases hy with e' | ⟨d, hd, e'⟩
  · rw [e, e']
    exact ⟨fun _ => rfl, fun _ => rfl⟩
  · rw [e, e', show (Int32.ofInt (-1)) = m1 from rfl, shV_m1, twC_m1, shV_nI _ (by omega)]
    obtain ⟨⟨s, hs, es⟩, _⟩ := hS d (by omega)
    exact ⟨fun q => absurd (q.trans es).symm (m1_n (a := s) (by omega)), fun q => absurd q.symm (TR_ne (tw_TR hu h 200 d (by omega) (by omega)))⟩
  · rw [e, e', show (Int32.ofInt (-1)) = m1 from rfl, shV_m1, twC_m1, shV_nI _ (by omega)]
    obtain ⟨⟨s, hs, es⟩, _⟩ := hS c (by omega)
    exact ⟨fun q => absurd (es.symm.trans q) (m1_n (a := s) (by omega)), fun q => absurd q (TR_ne (tw_TR hu h 200 c (by omega) (by omega)))⟩
  · rw [e, e', shV_nI _ (by omega), shV_nI _ (by omega)]
    exact ih c d (by omega) (by omega) (by omega)
theorem sh14 {u : Nat} {P : Nat → Nat → Int32} (hu : u ≤ 120) (h : PG u P) (hS : SI 14 u P) : ∀ (z m n : Nat), m < u → n < u → m < z → (P 25 m = P 25 n ↔ twC P 200 (nI m) = twC P 200 (nI n))
  | 0, _, _, _, _, hz => absurd hz (Nat.not_lt_zero _)
  | z + 1, m, n, hm, hn, hz => by
    have ih := sh14 hu h hS z
    have hs : P 25 m = P 25 n ↔ SE 14 P m n := (hS n hn).2 m hm
    have dm := tw_d hu h hm
    have dn := tw_d hu h hn
    have ek := kvC_eq (h m hm) (h n hn)
    have p2 : shV (P 25) (P 17 m) = shV (P 25) (P 17 n) ↔ twC P 200 (P 17 m) = twC P 200 (P 17 n) := shP hu h hS ih (by omega) (by omega) (by omega) (gN_dn (h m hm)).1 (gN_dn (h n hn)).1
    have p3 : shV (P 25) (P 18 m) = shV (P 25) (P 18 n) ↔ twC P 200 (P 18 m) = twC P 200 (P 18 n) := shP hu h hS ih (by omega) (by omega) (by omega) (gN_dn (h m hm)).2 (gN_dn (h n hn)).2
    rw [hs]
    constructor
    · rintro ⟨q1, q2, q3, q4⟩
      rw [dm.1, dn.1, p2.mp q3, p3.mp q4, ek.mpr ⟨q1, q2⟩]
    · intro e
      obtain ⟨q1, q2, q3⟩ := dec_uq dm (by rw [e]; exact dn)
      obtain ⟨e0, e1⟩ := ek.mp q1
      exact ⟨e0, e1, p2.mpr q2, p3.mpr q3⟩
theorem sh14p {u : Nat} {P : Nat → Nat → Int32} (hu : u ≤ 120) (h : PG u P) (hS : SI 14 u P) {n m : Nat} (hn : n < u) (hm : m < u) {x y : Int32} (hx : okp n x) (hy : okp m y) : shV (P 25) x = shV (P 25) y ↔ twC P 200 x = twC P 200 y := shP hu h hS (z := 200) (fun m n hm hn _ => sh14 hu h hS 200 m n hm hn (by omega)) (by omega) (by omega) (by omega) hx hy
/-- below two unlike NODES with one top -/
theorem un_dn {u : Nat} {P : Nat → Nat → Int32} (hu : u ≤ 120) (h : PG u P) (hS : SI 14 u P) {n m : Nat} (hn : n < u) (hm : m < u) (hne : ¬ twC P 200 (nI n) = twC P 200 (nI m)) (e0 : P 15 n = P 15 m) (e1 : P 16 n = P 16 m) : (¬ shV (P 25) (P 17 n) = shV (P 25) (P 17 m) → ∃ a b, P 17 n = nI a ∧ P 17 m = nI b ∧ a < u ∧ b < u ∧ ¬ twC P 200 (nI a) = twC P 200 (nI b) ∧ (twC P 200 (nI a)).length + 1 ≤ (twC P 200 (nI n)).length) ∧ (shV (P 25) (P 17 n) = shV (P 25) (P 17 m) → ∃ a b, P 18 n = nI a ∧ P 18 m = nI b ∧ a < u ∧ b < u ∧ ¬ twC P 200 (nI a) = twC P 200 (nI b) ∧ twC P 200 (P 17 n) = twC P 200 (P 17 m) ∧ (twC P 200 (nI a)).length + 1 ≤ (twC P 200 (nI n)).length) := by
  have dn := tw_d hu h hn
  have dm := tw_d hu h hm
  have ek := (kvC_eq (h n hn) (h m hm)).mpr ⟨e0, e1⟩
  have p2 := sh14p hu h hS hn hm (gN_dn (h n hn)).1 (gN_dn (h m hm)).1
  have len : (twC P 200 (nI n)).length = (twC P 200 (P 17 n)).length + (twC P 200 (P 18 n)).length + 1 := by
    rw [dn.1, List.length_append, List.length_append]
    rfl
  have both : ∀ x y, okp n x → okp m y → ¬ twC P 200 x = twC P 200 y → (twC P 200 x = [] ↔ twC P 200 y = []) → ∃ a b, x = nI a ∧ y = nI b ∧ a < u ∧ b < u := by
    rintro x y (q | ⟨a, ha, q⟩) (q' | ⟨b, hb, q'⟩) w w2
    · exact absurd (by rw [q, q']) w
    · refine absurd (w2.mp ?_) ?_
      · rw [q, show (Int32.ofInt (-1)) = m1 from rfl, twC_m1]
      · rw [q']
        exact TR_ne (tw_TR hu h 200 b (by omega) (by omega))
    · refine absurd (w2.mpr ?_) ?_
      · rw [q', show (Int32.ofInt (-1)) = m1 from rfl, twC_m1]
      · rw [q]
        exact TR_ne (tw_TR hu h 200 a (by omega) (by omega))
    · exact ⟨a, b, q, q', by omega, by omega⟩
  have arX : twC P 200 (P 17 n) = [] ↔ twC P 200 (P 17 m) = [] := by
    rcases dn.2 with ⟨k, x, y⟩ | ⟨k, l, x, y⟩ | ⟨k, x, y⟩ <;> rcases dm.2 with ⟨k', x', y'⟩ | ⟨k', l', x', y'⟩ | ⟨k', x', y'⟩ <;> rw [ek] at k <;> first | omega | exact ⟨fun _ => x', fun _ => x⟩ | exact ⟨fun q => absurd q (TR_ne x), fun q => absurd q (TR_ne x')⟩ | (rw [ek] at l; omega)
  have arY : twC P 200 (P 18 n) = [] ↔ twC P 200 (P 18 m) = [] := by
    rcases dn.2 with ⟨k, x, y⟩ | ⟨k, l, x, y⟩ | ⟨k, x, y⟩ <;> rcases dm.2 with ⟨k', x', y'⟩ | ⟨k', l', x', y'⟩ | ⟨k', x', y'⟩ <;> rw [ek] at k <;> first | omega | exact ⟨fun _ => y', fun _ => y⟩ | exact ⟨fun q => absurd q (TR_ne y), fun q => absurd q (TR_ne y')⟩ | (rw [ek] at l; omega)
  constructor
  · intro w
    have w1 : ¬ twC P 200 (P 17 n) = twC P 200 (P 17 m) := fun q => w (p2.mpr q)
    obtain ⟨a, b, ea, eb, ha, hb⟩ := both _ _ (gN_dn (h n hn)).1 (gN_dn (h m hm)).1 w1 arX
    rw [ea, eb] at w1
    rw [ea] at len
    exact ⟨a, b, ea, eb, ha, hb, w1, by omega⟩
  · intro w
    have w1 := p2.mp w
    have w2 : ¬ twC P 200 (P 18 n) = twC P 200 (P 18 m) := fun q => hne (by rw [dn.1, dm.1, w1, q, ek])
    obtain ⟨a, b, ea, eb, ha, hb⟩ := both _ _ (gN_dn (h n hn)).2 (gN_dn (h m hm)).2 w2 arY
    rw [ea, eb] at w2
    rw [ea] at len
    exact ⟨a, b, ea, eb, ha, hb, w2, w1, by omega⟩
theorem un_0 {u : Nat} {P : Nat → Nat → Int32} (hu : u ≤ 120) (h : PG u P) {n m : Nat} (hn : n < u) (hm : m < u) (hne : ¬ twC P 200 (nI n) = twC P 200 (nI m)) (hlen : (twC P 200 (nI n)).length ≤ 1) (t d : Int32) : DB 1 (twC P 200 (nI n)) (twC P 200 (nI m)) t d t := by
  have dn := tw_d hu h hn
  have dm := tw_d hu h hm
  refine ⟨_, _, _, _, _, _, dn, dm, Or.inl ⟨fun ek => hne ?_, rfl⟩⟩
  have len : (twC P 200 (nI n)).length = (twC P 200 (P 17 n)).length + (twC P 200 (P 18 n)).length + 1 := by
    rw [dn.1, List.length_append, List.length_append]
    rfl
  have x0 : twC P 200 (P 17 n) = [] := List.length_eq_zero_iff.mp (by omega)
  have y0 : twC P 200 (P 18 n) = [] := List.length_eq_zero_iff.mp (by omega)
  have k2 : (kvC P n).1 < 2 := by
    rcases dn.2 with ⟨k, _⟩ | ⟨k, l, x, y⟩ | ⟨k, x, y⟩
    · exact k
    · exact absurd x0 (TR_ne x)
    · exact absurd x0 (TR_ne x)
  rw [ek] at k2
  rcases dm.2 with ⟨k, x, y⟩ | ⟨k, l, x, y⟩ | ⟨k, x, y⟩
  · rw [dn.1, dm.1, x0, y0, x, y, ek]
  · omega
  · omega
theorem pt_1x {u n : Nat} {U : Int32} (hu : u ≤ 120) (hU : U = nI u) (hn : n < u) {P : Nat → Nat → Int32} {r : Option Value} (h : ((0 ≤ (nI n).toInt ∧ (nI n).toInt < U.toInt) ∧ (((Int32.ofInt 1).toInt = 1 ∧ r = some (.int (P 17 (nI n).toNatClampNeg))) ∨ ((Int32.ofInt 1).toInt = 2 ∧ r = some (.int (P 18 (nI n).toNatClampNeg))))) ∨ (¬ ((0 ≤ (nI n).toInt ∧ (nI n).toInt < U.toInt) ∧ ((Int32.ofInt 1).toInt = 1 ∨ (Int32.ofInt 1).toInt = 2)) ∧ r = some (.int (-1)))) : r = some (.int (P 17 n)) := by
  rw [nI_clamp (by omega)] at h
  rcases h with ⟨_, ⟨_, e⟩ | ⟨e, _⟩⟩ | ⟨q, _⟩
  · exact e
  · exact absurd e (by decide)
  · exact absurd ⟨⟨by rw [nI_toInt (by omega)]; omega, by rw [hU, nI_toInt (by omega), nI_toInt (by omega)]; omega⟩, Or.inl (by decide)⟩ q
theorem pt_2 {u n : Nat} {U : Int32} (hu : u ≤ 120) (hU : U = nI u) (hn : n < u) {P : Nat → Nat → Int32} {r : Option Value} (h : ((0 ≤ (nI n).toInt ∧ (nI n).toInt < U.toInt) ∧ (((Int32.ofInt 2).toInt = 1 ∧ r = some (.int (P 17 (nI n).toNatClampNeg))) ∨ ((Int32.ofInt 2).toInt = 2 ∧ r = some (.int (P 18 (nI n).toNatClampNeg))))) ∨ (¬ ((0 ≤ (nI n).toInt ∧ (nI n).toInt < U.toInt) ∧ ((Int32.ofInt 2).toInt = 1 ∨ (Int32.ofInt 2).toInt = 2)) ∧ r = some (.int (-1)))) : r = some (.int (P 18 n)) := by
  rw [nI_clamp (by omega)] at h
  rcases h with ⟨_, ⟨e, _⟩ | ⟨_, e⟩⟩ | ⟨q, _⟩
  · exact absurd e (by decide)
  · exact e
  · exact absurd ⟨⟨by rw [nI_toInt (by omega)]; omega, by rw [hU, nI_toInt (by omega), nI_toInt (by omega)]; omega⟩, Or.inr (by decide)⟩ q
set_option maxHeartbeats 2000000 in
set_option maxRecDepth 20000 in
theorem pUnlikeLX (O : Nat → Int32) (P : Nat → Nat → Int32) (Y : Nat → Nat → Int64) (g : Nat → zC) {u : Nat} (hu0 : u ≤ 120) (hU : O 2 = nI u) (hP : PG u P) (hS : SI 14 u P) (n1 n2 : Int32) {n0 : Nat} : ∀ (c i : Nat), i + c = 19 → ∀ (n m : Nat), n < u → m < u → ¬ twC P 200 (nI n) = twC P 200 (nI m) → (twC P 200 (nI n)).length ≤ c + 1 → ∀ {x7 d t y x : Int32}, x7 = nI i → y = nI m → x = nI n → zV (zMo 2 zX2_firstUnlike) false n0 0 0 14 [(7, .int x7), (6, .int d), (5, .int t), (4, .int y), (3, .int x), (0, .ref 14), (1, .int n1), (2, .int n2)] [] (wX O P Y g) (fun r w' => w' = wX O P Y g ∧ ∃ R : Int32, r = some (.int R) ∧ DB (c + 1) (twC P 200 (nI n)) (twC P 200 (nI m)) t d R) := by
  have hu : (O 2).toInt ≤ 120 := by rw [hU, nI_toInt (by omega)]; omega
  intro c
  induction c with
  | zero =>
    intro i hc n m hn hm hne hlen x7 d t y x e7 ey ex
    subst e7 ey ex
    iterate 3 (refine zv_step (bX2_firstUnlike 2) rfl rfl trivial ?_)
    refine zv_ift (show c8 19 ≤ nI i by rw [show c8 19 = nI 19 from rfl]; exact nI_le (by omega) (by omega)) ?_
    iterate 1 (refine zv_step (bX2_firstUnlike 2) rfl rfl trivial ?_)
    exact zv_iret (bX2_firstUnlike 2) rfl (Or.inl rfl) (Nat.zero_le _) (Nat.zero_le _) ⟨rfl, _, rfl, un_0 hu0 hP hn hm hne hlen t d⟩
  | succ c ih =>
    intro i hc n m hn hm hne hlen x7 d t y x e7 ey ex
    subst e7 ey ex
    iterate 3 (refine zv_step (bX2_firstUnlike 2) rfl rfl trivial ?_)
    refine zv_iff (show ¬ c8 19 ≤ nI i by rw [show c8 19 = nI 19 from rfl]; exact nI_ge (by omega) (by omega)) ?_
    iterate 2 (refine zv_step (bX2_firstUnlike 2) rfl rfl trivial ?_)
    refine zv_V1 (bX2_firstUnlike 2) rfl rfl rfl rfl rfl rfl rfl ⟨rfl, rfl, rfl⟩ ⟨by decide, by decide⟩ ⟨Nat.zero_le _, Nat.zero_le _⟩ (pHas14 O P Y g _) ?_
    rintro _ _ ⟨rfl, ⟨h1, rfl⟩ | ⟨h1, rfl⟩⟩
    · iterate 1 (refine zv_step (bX2_firstUnlike 2) rfl rfl trivial ?_)
      refine zv_iff (by decide) ?_
      iterate 2 (refine zv_step (bX2_firstUnlike 2) rfl rfl trivial ?_)
      refine zv_V1 (bX2_firstUnlike 2) rfl rfl rfl rfl rfl rfl rfl ⟨rfl, rfl, rfl⟩ ⟨by decide, by decide⟩ ⟨Nat.zero_le _, Nat.zero_le _⟩ (pHas14 O P Y g _) ?_
      rintro _ _ ⟨rfl, ⟨h2, rfl⟩ | ⟨h2, rfl⟩⟩
      · iterate 1 (refine zv_step (bX2_firstUnlike 2) rfl rfl trivial ?_)
        refine zv_iff (by decide) ?_
        iterate 3 (refine zv_step (bX2_firstUnlike 2) rfl rfl trivial ?_)
        refine zv_V2 (bX2_firstUnlike 2) rfl rfl rfl rfl rfl rfl rfl ⟨rfl, rfl, rfl⟩ ⟨by decide, by decide⟩ ⟨Nat.zero_le _, Nat.zero_le _⟩ (pTop14 O P Y g (vp_in_iff.mpr ⟨h1.1, Int.lt_of_lt_of_le h1.2 hu⟩) (vp_in_iff.mpr ⟨h2.1, Int.lt_of_lt_of_le h2.2 hu⟩)) ?_
        rintro _ _ ⟨rfl, ⟨h3, rfl⟩ | ⟨h3, rfl⟩⟩
        · iterate 1 (refine zv_step (bX2_firstUnlike 2) rfl rfl trivial ?_)
          refine zv_ift (by decide) ?_
          iterate 4 (refine zv_step (bX2_firstUnlike 2) rfl rfl trivial ?_)
          refine zv_step (bX2_firstUnlike 2) rfl rfl (vp_in_iff.mpr ⟨h1.1, Int.lt_of_lt_of_le h1.2 hu⟩) ?_
          refine zv_V1 (bX2_firstUnlike 2) rfl rfl rfl rfl rfl rfl rfl ⟨rfl, rfl, rfl⟩ ⟨by decide, by decide⟩ ⟨Nat.zero_le _, Nat.zero_le _⟩ (pShape14 O P Y g hu _) ?_
          rintro r _ ⟨rfl, hr⟩
          obtain rfl := shq_of hr
          iterate 4 (refine zv_step (bX2_firstUnlike 2) rfl rfl trivial ?_)
          refine zv_step (bX2_firstUnlike 2) rfl rfl (vp_in_iff.mpr ⟨h2.1, Int.lt_of_lt_of_le h2.2 hu⟩) ?_
          refine zv_V1 (bX2_firstUnlike 2) rfl rfl rfl rfl rfl rfl rfl ⟨rfl, rfl, rfl⟩ ⟨by decide, by decide⟩ ⟨Nat.zero_le _, Nat.zero_le _⟩ (pShape14 O P Y g hu _) ?_
          rintro r _ ⟨rfl, hr⟩
          obtain rfl := shq_of hr
          iterate 1 (refine zv_step (bX2_firstUnlike 2) rfl rfl trivial ?_)
          have q3 := h3
          rw [nI_clamp (show n < 2 ^ 31 by omega), nI_clamp (show m < 2 ^ 31 by omega)] at q3
          obtain ⟨d1, d2⟩ := un_dn hu0 hP hS hn hm hne q3.1 q3.2
          have esh : ∀ k, k < u → shQ (O 2) (P 25) (P 17 (nI k).toNatClampNeg) = shV (P 25) (P 17 k) := fun k hk => by
            rw [nI_clamp (by omega), hU, shQ_V hu0 (okp_up (gN_dn (hP k hk)).1 (by omega))]
          refine zv_ifb (fun h4 => ?_) (fun h4 => ?_)
          · have w4 : shV (P 25) (P 17 n) = shV (P 25) (P 17 m) := by rw [← esh n hn, ← esh m hm]; exact h4
            obtain ⟨a, b, ea, eb, ha, hb, hab, hX, hl2⟩ := d2 w4
            iterate 5 (refine zv_step (bX2_firstUnlike 2) rfl rfl trivial ?_)
            refine zv_V2 (bX2_firstUnlike 2) rfl rfl rfl rfl rfl rfl rfl ⟨rfl, rfl, rfl⟩ ⟨by decide, by decide⟩ ⟨Nat.zero_le _, Nat.zero_le _⟩ (pPartOf14 O P Y g hu _ _) ?_
            rintro r _ ⟨rfl, hr⟩
            obtain rfl := pt_2 hu0 hU hn hr
            rw [ea]
            iterate 4 (refine zv_step (bX2_firstUnlike 2) rfl rfl trivial ?_)
            refine zv_V2 (bX2_firstUnlike 2) rfl rfl rfl rfl rfl rfl rfl ⟨rfl, rfl, rfl⟩ ⟨by decide, by decide⟩ ⟨Nat.zero_le _, Nat.zero_le _⟩ (pPartOf14 O P Y g hu _ _) ?_
            rintro r _ ⟨rfl, hr⟩
            obtain rfl := pt_2 hu0 hU hm hr
            rw [eb]
            iterate 13 (refine zv_step (bX2_firstUnlike 2) rfl rfl trivial ?_)
            refine zv_locals (l := [(7, .int (nI i + Int32.ofInt 1)), (6, .int (d * Int32.ofInt 3)), (5, .int (t + Int32.ofInt 2 * d)), (4, .int (nI b)), (3, .int (nI a)), (8, .int (Int32.ofInt 2)), (0, .ref 14), (1, .int n1), (2, .int n2)]) (l' := [(7, .int (nI i + Int32.ofInt 1)), (6, .int (d * Int32.ofInt 3)), (5, .int (t + Int32.ofInt 2 * d)), (4, .int (nI b)), (3, .int (nI a)), (0, .ref 14), (1, .int n1), (2, .int n2)]) ?_ (zv_weak (fun r w q => ⟨q.1, by
              obtain ⟨R, e, r9⟩ := q.2
              exact ⟨R, e, _, _, _, _, _, _, tw_d hu0 hP hn, tw_d hu0 hP hm, Or.inr (Or.inr ⟨(kvC_eq (hP n hn) (hP m hm)).mpr q3, hX, by rw [ea, eb]; exact r9⟩)⟩⟩) (ih (i + 1) (by omega) a b ha hb hab (by omega) (nI_1 i) rfl rfl))
            simp
          · have w4 : ¬ shV (P 25) (P 17 n) = shV (P 25) (P 17 m) := by rw [← esh n hn, ← esh m hm]; exact h4
            obtain ⟨a, b, ea, eb, ha, hb, hab, hl2⟩ := d1 w4
            iterate 6 (refine zv_step (bX2_firstUnlike 2) rfl rfl trivial ?_)
            refine zv_V2 (bX2_firstUnlike 2) rfl rfl rfl rfl rfl rfl rfl ⟨rfl, rfl, rfl⟩ ⟨by decide, by decide⟩ ⟨Nat.zero_le _, Nat.zero_le _⟩ (pPartOf14 O P Y g hu _ _) ?_
            rintro r _ ⟨rfl, hr⟩
            obtain rfl := pt_1x hu0 hU hn hr
            rw [ea]
            iterate 4 (refine zv_step (bX2_firstUnlike 2) rfl rfl trivial ?_)
            refine zv_V2 (bX2_firstUnlike 2) rfl rfl rfl rfl rfl rfl rfl ⟨rfl, rfl, rfl⟩ ⟨by decide, by decide⟩ ⟨Nat.zero_le _, Nat.zero_le _⟩ (pPartOf14 O P Y g hu _ _) ?_
            rintro r _ ⟨rfl, hr⟩
            obtain rfl := pt_1x hu0 hU hm hr
            rw [eb]
            iterate 13 (refine zv_step (bX2_firstUnlike 2) rfl rfl trivial ?_)
            refine zv_locals (l := [(7, .int (nI i + Int32.ofInt 1)), (6, .int (d * Int32.ofInt 3)), (5, .int (t + Int32.ofInt 1 * d)), (4, .int (nI b)), (3, .int (nI a)), (8, .int (Int32.ofInt 1)), (0, .ref 14), (1, .int n1), (2, .int n2)]) (l' := [(7, .int (nI i + Int32.ofInt 1)), (6, .int (d * Int32.ofInt 3)), (5, .int (t + Int32.ofInt 1 * d)), (4, .int (nI b)), (3, .int (nI a)), (0, .ref 14), (1, .int n1), (2, .int n2)]) ?_ (zv_weak (fun r w q => ⟨q.1, by
              obtain ⟨R, e, r9⟩ := q.2
              rw [show t + Int32.ofInt 1 * d = t + d by rw [show Int32.ofInt 1 * d = d from Int32.one_mul d]] at r9
              exact ⟨R, e, _, _, _, _, _, _, tw_d hu0 hP hn, tw_d hu0 hP hm, Or.inr (Or.inl ⟨(kvC_eq (hP n hn) (hP m hm)).mpr q3, by rw [ea, eb]; exact hab, by rw [ea, eb]; exact r9⟩)⟩⟩) (ih (i + 1) (by omega) a b ha hb hab (by omega) (nI_1 i) rfl rfl))
            simp
        · iterate 1 (refine zv_step (bX2_firstUnlike 2) rfl rfl trivial ?_)
          refine zv_iff (by decide) ?_
          iterate 1 (refine zv_step (bX2_firstUnlike 2) rfl rfl trivial ?_)
          exact zv_iret (bX2_firstUnlike 2) rfl (Or.inl rfl) (Nat.zero_le _) (Nat.zero_le _) ⟨rfl, _, rfl, _, _, _, _, _, _, tw_d hu0 hP hn, tw_d hu0 hP hm, Or.inl ⟨fun e => h3 (by rw [nI_clamp (show n < 2 ^ 31 by omega), nI_clamp (show m < 2 ^ 31 by omega)]; exact (kvC_eq (hP n hn) (hP m hm)).mp e), rfl⟩⟩
      · iterate 1 (refine zv_step (bX2_firstUnlike 2) rfl rfl trivial ?_)
        refine zv_ift (by decide) ?_
        iterate 1 (refine zv_step (bX2_firstUnlike 2) rfl rfl trivial ?_)
        exact zv_iret (bX2_firstUnlike 2) rfl (Or.inl rfl) (Nat.zero_le _) (Nat.zero_le _) (absurd ⟨by rw [nI_toInt (by omega)]; omega, by rw [hU, nI_toInt (by omega), nI_toInt (by omega)]; omega⟩ h2)
    · iterate 1 (refine zv_step (bX2_firstUnlike 2) rfl rfl trivial ?_)
      refine zv_ift (by decide) ?_
      iterate 1 (refine zv_step (bX2_firstUnlike 2) rfl rfl trivial ?_)
      exact zv_iret (bX2_firstUnlike 2) rfl (Or.inl rfl) (Nat.zero_le _) (Nat.zero_le _) (absurd ⟨by rw [nI_toInt (by omega)]; omega, by rw [hU, nI_toInt (by omega), nI_toInt (by omega)]; omega⟩ h1)
set_option maxHeartbeats 1000000 in
set_option maxRecDepth 20000 in
theorem pUnlikeX (O : Nat → Int32) (P : Nat → Nat → Int32) (Y : Nat → Nat → Int64) (g : Nat → zC) {u : Nat} (hu0 : u ≤ 120) (hU : O 2 = nI u) (hP : PG u P) (hS : SI 14 u P) {n m : Nat} (hn : n < u) (hm : m < u) (hne : ¬ twC P 200 (nI n) = twC P 200 (nI m)) (hlen : (twC P 200 (nI n)).length ≤ 20) : zK 2 zX2_firstUnlike [.ref 14, .int (nI n), .int (nI m)] (wX O P Y g) (fun r w' => w' = wX O P Y g ∧ ∃ R : Int32, r = some (.int R) ∧ DB 20 (twC P 200 (nI n)) (twC P 200 (nI m)) (Int32.ofInt 0) (Int32.ofInt 1) R) := by
  refine zK_of qX2_firstUnlike (by decide +kernel) rfl ?_
  iterate 10 (refine zv_step (bX2_firstUnlike 2) rfl rfl trivial ?_)
  exact pUnlikeLX O P Y g hu0 hU hP hS _ _ 19 0 rfl n m hn hm hne hlen rfl rfl rfl
end
section
set_option maxHeartbeats 1000000 in
set_option maxRecDepth 20000 in
theorem cDoubtX (O : Nat → Int32) (P : Nat → Nat → Int32) (Y : Nat → Nat → Int64) (g : Nat → zC) (hY9 : wyI Y) {u : Nat} (hu : u ≤ 120) (hO1 : O 1 = nI u) {n : Nat} {E : Nat → Nat} (hE : eaR n P E) (hO : O 9 = nI n) (hn : n ≤ 20) {G : Nat → Int32} (hG : gfR (O 0) G) {lt : Nat → Nat → Nat → Bool} (hy : ∀ s, s ≤ 8 → syR P s (lt s)) (hSI : ∀ u P k v x y sh, u < 120 → PG u P → SI 14 u P → PG (u + 1) (stC 14 P u k v x y sh) → SI 14 (u + 1) (stC 14 P u k v x y sh)) (x : Int32) (z1 z2 : Int64) : zK 66 zX6_doubt [.ref 0, .int x, .long z1, .long z2] (wX O P Y g) (fun r w' => ∃ (O' : Nat → Int32) (P' : Nat → Nat → Int32) (Y' : Nat → Nat → Int64) (R : Int32), r = some (.int R) ∧ w' = wX O' P' Y' g ∧ dbC O P O' P' Y' ∧ dbR x z1 z2 (fun s R => ∃ Y1, okZ Y n E G (lt s) Y1 (n + 1) 0 ∧ dbA (ctY n Y1) z1 z2 (fun p1 p2 R => ∃ T1 T2 z, RT E (mG E G (lt s) (lY Y1)) (lY Y1) 20 0 n p1 T1 ∧ RT E (mG E G (lt s) (lY Y1)) (lY Y1) 20 0 n p2 T2 ∧ DB z T1 T2 (Int32.ofInt 0) (Int32.ofInt 1) R) R) R) := by
  refine zK_of qX6_doubt (by decide +kernel) rfl ?_
  iterate 1 (refine zv_step (bX6_doubt 66) rfl rfl trivial ?_)
  refine zv_S1 (bX6_doubt 66) rfl rfl rfl rfl ⟨rfl, rfl, rfl⟩ ⟨by decide, by decide⟩ ⟨Nat.zero_le _, Nat.zero_le _⟩ (hX6_isStyleOrFree _ _) ?_
  rintro _ _ ⟨rfl, ⟨hx, rfl⟩ | ⟨hx, rfl⟩⟩
  · obtain ⟨s, hs, rfl⟩ := in_nat (x := x) (b := 8) (by decide) hx
    iterate 1 (refine zv_step (bX6_doubt 66) rfl rfl trivial ?_)
    refine zv_iff (by decide) ?_
    iterate 4 (refine zv_step (bX6_doubt 66) rfl rfl trivial ?_)
    refine zv_ifb (fun h10 => ?_) (fun h10 => ?_)
    · have z1n : z1.toInt < 0 := by
        rw [lg_cmp_lt, Int64.lt_iff_toInt_lt] at h10
        exact h10
      iterate 1 (refine zv_step (bX6_doubt 66) rfl rfl trivial ?_)
      exact zv_iret (bX6_doubt 66) rfl (Or.inl rfl) (Nat.zero_le _) (Nat.zero_le _) ⟨O, P, Y, _, rfl, rfl, ⟨hY9, fun _ _ _ _ _ => rfl, fun _ _ => rfl⟩, Or.inl ⟨rfl, fun q => absurd q.2.1 (Int.not_le.mpr z1n)⟩⟩
    · have z10 : 0 ≤ z1.toInt := by
        rw [lg_cmp_lt, Int64.lt_iff_toInt_lt] at h10
        exact Int.not_lt.mp h10
      iterate 4 (refine zv_step (bX6_doubt 66) rfl rfl trivial ?_)
      refine zv_ifb (fun h17 => ?_) (fun h17 => ?_)
      · have z20 : 0 ≤ z2.toInt := by
          rw [lg_cmp_ge, Int64.le_iff_toInt_le] at h17
          exact h17
        iterate 2 (refine zv_step (bX6_doubt 66) rfl rfl trivial ?_)
        refine zv_V1 (bX6_doubt 66) rfl rfl rfl rfl rfl rfl rfl ⟨rfl, rfl, rfl⟩ ⟨by decide, by decide⟩ ⟨Nat.zero_le _, Nat.zero_le _⟩ (cTallyInX O P Y g hE hO hn hG (s := s) (by omega) (hy s (by omega))) ?_
        rintro _ _ ⟨a, b, Y1, rfl, rfl, hZ, ha, hb⟩
        iterate 5 (refine zv_step (bX6_doubt 66) rfl rfl trivial ?_)
        refine zv_ifb (fun h33 => ?_) (fun h33 => ?_)
        · iterate 1 (refine zv_step (bX6_doubt 66) rfl rfl trivial ?_)
          exact zv_iret (bX6_doubt 66) rfl (Or.inl rfl) (Nat.zero_le _) (Nat.zero_le _) ⟨_, P, Y1, _, rfl, rfl, ⟨hZ.2 hY9, fun j b2 b3 b4 b5 => upd_3 O a b (O 0) b3 b4 b5, fun _ _ => rfl⟩, Or.inr ⟨s, by omega, rfl, z10, z20, Y1, hZ, Or.inl ⟨fun q => Int64.not_le.mpr q.1 ((lg_cmp_ge _ _).mp h33), rfl⟩⟩⟩
        · iterate 4 (refine zv_step (bX6_doubt 66) rfl rfl trivial ?_)
          refine zv_ifb (fun h41 => ?_) (fun h41 => ?_)
          · iterate 4 (refine zv_step (bX6_doubt 66) rfl rfl trivial ?_)
            refine zv_ifb (fun h51 => ?_) (fun h51 => ?_)
            · obtain ⟨p1, hp1, rfl⟩ := l_nat z10 (ctY_le hn hZ) (Int64.not_le.mp (fun e => h33 ((lg_cmp_ge _ _).mpr e)))
              obtain ⟨p2, hp2, rfl⟩ := l_nat z20 (ctY_le hn hZ) ((lg_cmp_lt _ _).mp h41)
              have hpne : p1 ≠ p2 := fun e => h51 ((lg_cmp_eq _ _).mpr (by rw [e]))
              have h0 : 0 < n := by
                unfold ctY at hp1
                split at hp1
                · omega
                · omega
              have ec : ctY n Y1 = lY Y1 0 n := if_neg (by omega)
              obtain ⟨T1, hT1, hT120⟩ := RT_ex hn (fun i j h1 h2 => (hZ.1 i j h1 h2 (by omega)).2.1) 20 0 n p1 h0 (Nat.le_refl _) (by omega) (by rw [← ec]; exact hp1)
              obtain ⟨T2, hT2, hT220⟩ := RT_ex hn (fun i j h1 h2 => (hZ.1 i j h1 h2 (by omega)).2.1) 20 0 n p2 h0 (Nat.le_refl _) (by omega) (by rw [← ec]; exact hp2)
              iterate 4 (refine zv_step (bX6_doubt 66) rfl rfl trivial ?_)
              refine zv_world (show _ = wX (upd (upd (upd (upd O 10 a) 11 b) 12 (O 0)) 2 (nI 0)) P Y1 g from rfl) ?_
              iterate 5 (refine zv_step (bX6_doubt 66) rfl rfl trivial ?_)
              refine zv_V2 (bX6_doubt 66) rfl rfl rfl rfl rfl rfl rfl ⟨rfl, rfl, rfl⟩ ⟨by decide, by decide⟩ ⟨Nat.zero_le _, Nat.zero_le _⟩ (hBuildX14 hE hn (O := (upd (upd (upd O 10 a) 11 b) 12 (O 0))) (Y := Y1) (g := g) hG ha hb (fun c d h1 h2 => (hZ.1 c d h1 h2 (by omega)).1) (fun c d h1 h2 => (hZ.1 c d h1 h2 (by omega)).2.2) hO h0 hT1 (u := 0) (P := P) (st := []) rfl (by omega)) ?_
              rintro _ _ ⟨P1, rfl, rfl, ly1, fr1, ln1⟩
              obtain ⟨⟨pg1, si1⟩, _, tw1, _, _⟩ := ly14 (Z := SI 14) hSI 20 0 n p1 T1 hT1 0 P [] _ (fun k hk => absurd hk (Nat.not_lt_zero _)) (fun k hk => absurd hk (Nat.not_lt_zero _)) (by omega) ly1
              rw [show upd (upd (upd (upd O 10 a) 11 b) 12 (O 0)) 2 (nI (0 + T1.length)) = upd (upd (upd (upd O 10 a) 11 b) 12 (O 0)) 2 (nI (0 + T1.length)) from rfl]
              iterate 6 (refine zv_step (bX6_doubt 66) rfl rfl trivial ?_)
              refine zv_V2 (bX6_doubt 66) rfl rfl rfl rfl rfl rfl rfl ⟨rfl, rfl, rfl⟩ ⟨by decide, by decide⟩ ⟨Nat.zero_le _, Nat.zero_le _⟩ (hBuildX14 hE hn (O := (upd (upd (upd O 10 a) 11 b) 12 (O 0))) (Y := Y1) (g := g) hG ha hb (fun c d h1 h2 => (hZ.1 c d h1 h2 (by omega)).1) (fun c d h1 h2 => (hZ.1 c d h1 h2 (by omega)).2.2) hO h0 hT2 (u := 0 + T1.length) (P := P1) (st := [0 + T1.length - 1]) (fr1 32 (by omega)) (by omega)) ?_
              rintro _ _ ⟨P2, rfl, rfl, ly2, fr2, ln2⟩
              obtain ⟨⟨pg2, si2⟩, _, tw2, fj2, _⟩ := ly14 (Z := SI 14) hSI 20 0 n p2 T2 hT2 (0 + T1.length) P1 [0 + T1.length - 1] _ pg1 si1 (by omega) ly2
              have tw1b : twC P2 200 (nI (0 + T1.length - 1)) = T1 := (twC_fr (by omega) pg1 (fun i _ _ j hj => fj2 i j hj) 200 (0 + T1.length - 1) (by omega)).trans tw1
              have hne9 : ¬ T1 = T2 := fun e => hpne (RT_pl 20 0 n p1 p2 T1 hT1 (by rw [e]; exact hT2))
              iterate 5 (refine zv_step (bX6_doubt 66) rfl rfl trivial ?_)
              refine zv_V2 (bX6_doubt 66) rfl rfl rfl rfl rfl rfl rfl ⟨rfl, rfl, rfl⟩ ⟨by decide, by decide⟩ ⟨Nat.zero_le _, Nat.zero_le _⟩ (pUnlikeX (upd (upd (upd (upd O 10 a) 11 b) 12 (O 0)) 2 (nI (0 + T1.length + T2.length))) P2 Y1 g (u := 0 + T1.length + T2.length) (by omega) rfl pg2 si2 (n := 0 + T1.length - 1) (m := 0 + T1.length + T2.length - 1) (by omega) (by omega) (fun e => hne9 (tw1b.symm.trans (e.trans tw2))) (by rw [tw1b]; omega)) ?_
              rintro _ _ ⟨rfl, R, rfl, gR9⟩
              rw [tw1b, tw2] at gR9
              exact zv_iret (bX6_doubt 66) rfl (Or.inl rfl) (Nat.zero_le _) (Nat.zero_le _) ⟨_, P2, Y1, _, rfl, rfl, ⟨hZ.2 hY9, fun j b2 b3 b4 b5 => (upd_ne _ _ b2).trans (upd_3 O a b (O 0) b3 b4 b5), fun i hi => (fr2 i (by omega)).trans (fr1 i (by omega))⟩, Or.inr ⟨s, by omega, rfl, z10, z20, Y1, hZ, Or.inr (Or.inr ⟨p1, p2, hp1, hp2, hpne, rfl, rfl, T1, T2, 20, hT1, hT2, gR9⟩)⟩⟩
            · iterate 1 (refine zv_step (bX6_doubt 66) rfl rfl trivial ?_)
              exact zv_iret (bX6_doubt 66) rfl (Or.inl rfl) (Nat.zero_le _) (Nat.zero_le _) ⟨_, P, Y1, _, rfl, rfl, ⟨hZ.2 hY9, fun j b2 b3 b4 b5 => upd_3 O a b (O 0) b3 b4 b5, fun _ _ => rfl⟩, Or.inr ⟨s, by omega, rfl, z10, z20, Y1, hZ, Or.inr (Or.inl ⟨Int64.not_le.mp (fun e => h33 ((lg_cmp_ge _ _).mpr e)), (lg_cmp_eq _ _).mp (Decidable.not_not.mp h51), rfl⟩)⟩⟩
          · iterate 1 (refine zv_step (bX6_doubt 66) rfl rfl trivial ?_)
            exact zv_iret (bX6_doubt 66) rfl (Or.inl rfl) (Nat.zero_le _) (Nat.zero_le _) ⟨_, P, Y1, _, rfl, rfl, ⟨hZ.2 hY9, fun j b2 b3 b4 b5 => upd_3 O a b (O 0) b3 b4 b5, fun _ _ => rfl⟩, Or.inr ⟨s, by omega, rfl, z10, z20, Y1, hZ, Or.inl ⟨fun q => h41 ((lg_cmp_lt _ _).mpr q.2), rfl⟩⟩⟩
      · have z2n : z2.toInt < 0 := by
          rw [lg_cmp_ge, Int64.le_iff_toInt_le] at h17
          exact Int.not_le.mp h17
        iterate 1 (refine zv_step (bX6_doubt 66) rfl rfl trivial ?_)
        exact zv_iret (bX6_doubt 66) rfl (Or.inl rfl) (Nat.zero_le _) (Nat.zero_le _) ⟨O, P, Y, _, rfl, rfl, ⟨hY9, fun _ _ _ _ _ => rfl, fun _ _ => rfl⟩, Or.inl ⟨rfl, fun q => absurd q.2.2 (Int.not_le.mpr z2n)⟩⟩
  · skip
    iterate 1 (refine zv_step (bX6_doubt 66) rfl rfl trivial ?_)
    refine zv_ift (by decide) ?_
    iterate 1 (refine zv_step (bX6_doubt 66) rfl rfl trivial ?_)
    exact zv_iret (bX6_doubt 66) rfl (Or.inl rfl) (Nat.zero_le _) (Nat.zero_le _) ⟨O, P, Y, _, rfl, rfl, ⟨hY9, fun _ _ _ _ _ => rfl, fun _ _ => rfl⟩, Or.inl ⟨rfl, fun q => hx q.1⟩⟩
theorem db_same {h : Nat} (hh : h ≤ 20) {A : Nat → Nat → Int32} {Y : Nat → Nat → Int64} {x R R' : Int32} {z1 z2 : Int64} (g : dbR x z1 z2 (fun s R => ∃ Y1, okZ Y h (eW A) (A 6) (ltW A s) Y1 (h + 1) 0 ∧ dbA (ctY h Y1) z1 z2 (fun p1 p2 R => ∃ T1 T2 z, RT (eW A) (mG (eW A) (A 6) (ltW A s) (lY Y1)) (lY Y1) 20 0 h p1 T1 ∧ RT (eW A) (mG (eW A) (A 6) (ltW A s) (lY Y1)) (lY Y1) 20 0 h p2 T2 ∧ DB z T1 T2 (Int32.ofInt 0) (Int32.ofInt 1) R) R) R) (g' : dbR x z1 z2 (fun s R => ∃ J1, okJ h A s J1 ∧ dbA (ctW h J1) z1 z2 (fun p1 p2 R => ∃ T1 T2 z, RT (eW A) (mG (eW A) (A 6) (ltW A s) (lW J1)) (lW J1) 20 0 h p1 T1 ∧ RT (eW A) (mG (eW A) (A 6) (ltW A s) (lW J1)) (lW J1) 20 0 h p2 T2 ∧ DB z T1 T2 (Int32.ofInt 0) (Int32.ofInt 1) R) R) R') : R = R' := by
  rcases g with ⟨r, q⟩ | ⟨s, hs, ex, k1, k2, Y1, hZ, g⟩ <;> rcases g' with ⟨r', q'⟩ | ⟨s', hs', ex', k1', k2', J1, hJ, g'⟩
  · rw [r, r']
  · exact absurd ⟨by rw [ex', nI_toInt (by omega)]; omega, k1', k2'⟩ q
  · exact absurd ⟨by rw [ex, nI_toInt (by omega)]; omega, k1, k2⟩ q'
  · have es : s = s' := (nI_eq (by omega) (by omega)).mp (ex.symm.trans ex')
    subst es
    have ec := ct_same hh hZ hJ
    have cl := ctW_le hJ
    unfold cap at cl
    rw [ec] at g
    have lt9 : ∀ p, p < ctW h J1 → lN p < lN (ctW h J1) := fun p hp => (lN_ltJ (by omega) (by omega)).mpr hp
    rcases g with ⟨w, r⟩ | ⟨w, e, r⟩ | ⟨p1, p2, hp1, hp2, ne, e1, e2, T1, T2, z, t1, t2, d⟩ <;> rcases g' with ⟨w', r'⟩ | ⟨w', e', r'⟩ | ⟨p1', p2', hp1', hp2', ne', e1', e2', T1', T2', z', t1', t2', d'⟩
    · rw [r, r']
    · exact absurd ⟨w', by rw [← e']; exact w'⟩ w
    · exact absurd ⟨by rw [e1']; exact lt9 _ hp1', by rw [e2']; exact lt9 _ hp2'⟩ w
    · exact absurd ⟨w, by rw [← e]; exact w⟩ w'
    · rw [r, r']
    · exact absurd ((lN_eqJ (by omega) (by omega)).mp (e1'.symm.trans (e.trans e2'))) ne'
    · exact absurd ⟨by rw [e1]; exact lt9 _ hp1, by rw [e2]; exact lt9 _ hp2⟩ w'
    · exact absurd ((lN_eqJ (by omega) (by omega)).mp (e1.symm.trans (e'.trans e2))) ne
    · have q1 : p1 = p1' := (lN_eqJ (by omega) (by omega)).mp (e1.symm.trans e1')
      have q2 : p2 = p2' := (lN_eqJ (by omega) (by omega)).mp (e2.symm.trans e2')
      subst q1 q2
      have u1 : T1 = T1' := RT_uq 20 0 h p1 T1 T1' (RT_cg (L_same hh hZ hJ) 20 0 h p1 T1 (Nat.le_refl _) t1) t1'
      have u2 : T2 = T2' := RT_uq 20 0 h p2 T2 T2' (RT_cg (L_same hh hZ hJ) 20 0 h p2 T2 (Nat.le_refl _) t2) t2'
      subst u1 u2
      exact DB_uq z z' _ _ _ _ _ _ d d'
end
section
theorem SI_14 (u : Nat) (P : Nat → Nat → Int32) (k v x y sh : Int32) (hu : u < 120) (hP : PG u P) (h : SI 14 u P) (hP' : PG (u + 1) (stC 14 P u k v x y sh)) : SI 14 (u + 1) (stC 14 P u k v x y sh) := by
  have po : ∀ {w : Nat} {Q : Nat → Nat → Int32}, PG w Q → PO 14 w Q := fun hg n hn => gN_dn (hg n hn)
  have h0 : SI 14 u (stC 14 P u k v x y sh) := SI_fr (by omega) (po hP) h (fun i _ _ j hj => stC_ne (by omega))
  refine SI_put (X := adI 14 (nI u) (adI 14 (nI u) (putV 14 P u k v x y (owW k v) (hbW (Int16.ofInt 764).toInt32 k) (if k = 0 then Int32.ofInt 1 <<< (v &&& 31) else Int32.ofInt 0) (if k = c8 9 then Int32.ofInt 1 <<< (v &&& 31) else Int32.ofInt 0)) u x) u y) hu h0 (po hP') (fun r h1 h2 => ?_) (fun j hj => ?_) ?_
  · unfold stC
    rw [updA_ne _ _ (show r ≠ 14 + 11 by omega)]
  · unfold stC
    rw [updA_self, upd_ne _ _ (show j ≠ u by omega)]
  · unfold stC
    rw [updA_self, upd_self]
end
