/-- the NODES are the same on both sides, and their shapes are right -/
def NS (u : Nat) (P A : Nat → Nat → Int32) : Prop := NR u P A ∧ SI 1 u P
theorem NS_fr {u : Nat} {P P' A A' : Nat → Nat → Int32} (hu : u ≤ 120) (h : NS u P A) (e : ∀ i, 2 ≤ i → i ≤ 12 → ∀ j, j < u → P' i j = P i j) (e' : ∀ r, r < 5 → ∀ j, j < u → A' r j = A r j) : NS u P' A' := ⟨NR_fr hu h.1 (fun i h1 h2 _ => e i h1 (by omega)) (fun r hr => e' r hr), SI_fr hu (NR_PO h.1) h.2 (fun i h1 h2 j hj => e i (by omega) (by omega) j hj)⟩
theorem SI_st {u : Nat} {P A A' : Nat → Nat → Int32} (hu : u < 120) (hN : NR u P A) (h : SI 1 u P) {k v x y sh : Int32} (hN' : NR (u + 1) (stC 1 P u k v x y sh) A') : SI 1 (u + 1) (stC 1 P u k v x y sh) := by
  have h0 : SI 1 u (stC 1 P u k v x y sh) := SI_fr (by omega) (NR_PO hN) h (fun i _ _ j hj => stC_ne (by omega))
  refine SI_put (X := adI 1 (nI u) (adI 1 (nI u) (putV 1 P u k v x y (owW k v) (hbW (Int16.ofInt 764).toInt32 k) (if k = 0 then Int32.ofInt 1 <<< (v &&& 31) else Int32.ofInt 0) (if k = c8 9 then Int32.ofInt 1 <<< (v &&& 31) else Int32.ofInt 0)) u x) u y) hu h0 (NR_PO hN') (fun r h1 h2 => ?_) (fun j hj => ?_) ?_
  · unfold stC
    rw [updA_ne _ _ (show r ≠ 1 + 11 by omega)]
  · unfold stC
    rw [updA_self, upd_ne _ _ (show j ≠ u by omega)]
  · unfold stC
    rw [updA_self, upd_self]
theorem NS_st {u : Nat} {P A : Nat → Nat → Int32} (hu : u < 120) (h : NS u P A) {k v x y sh : Int32} (hx : x = m2 ∨ ∃ a, a < u ∧ x = nI a) (hy : y = m2 ∨ ∃ a, a < u ∧ y = nI a) : NS (u + 1) (stC 1 P u k (cvI v) (cvI x) (cvI y) sh) (setsA A u k v x y) :=
  ⟨NR_st hu h.1 hx hy, SI_st hu h.1 h.2 (NR_st hu h.1 hx hy)⟩
theorem NS_ly {E : Nat → Nat} {G : Nat → Int32} {lt : Nat → Nat → Bool} {L : Nat → Nat → Nat} : ∀ (f i j p : Nat) (T : List (Nat × Nat)), RT E (mG E G lt L) L f i j p T → ∀ (u : Nat) (P A : Nat → Nat → Int32) (st : List Nat) (s' : (Nat → Nat → Int32) × Nat × List Nat), NS u P A → u + T.length ≤ 120 → lyC 1 T (P, u, st) s' → NS (u + T.length) s'.1 (lyM T (A, u, st)).1 ∧ s'.2 = (u + T.length, (u + T.length - 1) :: st) ∧ (lyM T (A, u, st)).2 = (u + T.length, (u + T.length - 1) :: st) ∧ 1 ≤ T.length
  | 0, _, _, _, _, h => h.elim
  | f + 1, i, j, p, T, ⟨c, q, h1, h2, h3, h4⟩ => by
    intro u P A st s' hN hu hl
    obtain ⟨w1, w2, w3⟩ := mG_pos h3
    have hc : c / 2 < 10 := by omega
    rcases h4 with ⟨a1, a2⟩ | ⟨a1, X, a2, a3⟩ | ⟨a1, a2, d, r, X, Y, b1, b2, b3, b4, b5, b6, b7⟩
    · have hv : (if c / 2 = 0 then E (i + c % 2) else nvN E (j - c % 2 - (i + c % 2)) (i + c % 2) 0) < 10000 := by
        refine isNum_E hc w1 _ ?_
        rcases (show c / 2 = 0 ∨ c / 2 = 1 by omega) with e | e
        · exact Or.inl ⟨e, by rw [if_pos e]⟩
        · exact Or.inr (Or.inl ⟨e, by rw [if_neg (by omega)]⟩)
      rw [a2] at hl hu ⊢
      obtain ⟨sh, rfl⟩ := tkC_0 a1 hl
      rw [tkM_0 a1]
      refine ⟨?_, rfl, rfl, Nat.le_refl _⟩
      have := NS_st (k := nI (c / 2)) (v := nI (if c / 2 = 0 then E (i + c % 2) else nvN E (j - c % 2 - (i + c % 2)) (i + c % 2) 0)) (sh := sh) (by have h9 : u + 1 ≤ 120 := hu; omega) hN (Or.inl rfl) (Or.inl rfl)
      rw [cvI_m2, cvI_nI (by omega)] at this
      exact this
    · have hv : E (i + c % 2) < 10000 := isNum_E hc w1 _ (Or.inr (Or.inr ⟨a1, rfl⟩))
      have hlen : T.length = X.length + 1 := by rw [a2, List.length_append]; rfl
      rw [a2] at hl
      obtain ⟨m, l1, l2⟩ := lyC_split X _ _ _ hl
      obtain ⟨n1, n2, n3, n4⟩ := NS_ly f _ _ _ X a3 u P A st m hN (by omega) l1
      obtain ⟨P1, m2'⟩ := m
      rw [show m2' = (u + X.length, (u + X.length - 1) :: st) from n2] at l2
      obtain ⟨sh, rfl⟩ := tkC_1 a1 l2
      have eM : lyM X (A, u, st) = ((lyM X (A, u, st)).1, u + X.length, (u + X.length - 1) :: st) := Prod.ext rfl n3
      rw [a2, lyM_app, eM, tkM_1 a1, ← a2, hlen]
      refine ⟨?_, rfl, rfl, by omega⟩
      have := NS_st (k := nI (c / 2)) (v := if c / 2 = 9 then nI (E (i + c % 2)) else m2) (x := nI (u + X.length - 1)) (y := m2) (sh := sh) (by omega) n1 (Or.inr ⟨u + X.length - 1, by omega, rfl⟩) (Or.inl rfl)
      have ec : cvI (if c / 2 = 9 then nI (E (i + c % 2)) else m2) = if c / 2 = 9 then nI (E (i + c % 2)) else m1 := by
        split
        · exact cvI_nI (by omega)
        · exact cvI_m2
      rw [cvI_m2, cvI_nI (by omega), ec] at this
      exact this
    · have hlen : T.length = X.length + Y.length + 1 := by rw [b5, List.length_append, List.length_append]; rfl
      rw [b5] at hl
      obtain ⟨m, l1, l3⟩ := lyC_split (X ++ Y) _ _ _ hl
      obtain ⟨m0, l1, l2⟩ := lyC_split X Y _ _ l1
      obtain ⟨n1, n2, n3, n4⟩ := NS_ly f _ _ _ X b6 u P A st m0 hN (by omega) l1
      obtain ⟨P1, m2'⟩ := m0
      rw [show m2' = (u + X.length, (u + X.length - 1) :: st) from n2] at l2
      obtain ⟨k1, k2, k3, k4⟩ := NS_ly f _ _ _ Y b7 (u + X.length) P1 (lyM X (A, u, st)).1 ((u + X.length - 1) :: st) m n1 (by omega) l2
      obtain ⟨P2, m3'⟩ := m
      rw [show m3' = (u + X.length + Y.length, (u + X.length + Y.length - 1) :: (u + X.length - 1) :: st) from k2] at l3
      obtain ⟨sh, rfl⟩ := tkC_2 a1 a2 l3
      have eM : lyM X (A, u, st) = ((lyM X (A, u, st)).1, u + X.length, (u + X.length - 1) :: st) := Prod.ext rfl n3
      have eN : lyM Y (lyM X (A, u, st)) = ((lyM Y ((lyM X (A, u, st)).1, u + X.length, (u + X.length - 1) :: st)).1, u + X.length + Y.length, (u + X.length + Y.length - 1) :: (u + X.length - 1) :: st) := by
        rw [eM]
        exact Prod.ext rfl k3
      rw [b5, lyM_app, lyM_app, eN, tkM_2 a1 a2, ← b5, hlen, show u + (X.length + Y.length + 1) = u + X.length + Y.length + 1 by omega]
      refine ⟨?_, rfl, rfl, by omega⟩
      have := NS_st (k := nI (c / 2)) (v := m2) (x := nI (u + X.length - 1)) (y := nI (u + X.length + Y.length - 1)) (sh := sh) (by omega) k1 (Or.inr ⟨u + X.length - 1, by omega, rfl⟩) (Or.inr ⟨u + X.length + Y.length - 1, by omega, rfl⟩)
      rw [cvI_m2, cvI_nI (by omega), cvI_nI (by omega)] at this
      exact this
theorem write_NS {u h : Nat} (hu : u ≤ 120) (hh : h ≤ 20) {O O' : Nat → Int32} {P P' : Nat → Nat → Int32} {o o' : Nat → Int32} {A A' : Nat → Nat → Int32} {Y : Nat → Nat → Int64} {x R R' : Int32} {z : Int64} (s : SS u h O P o A) (hD : NS u P A) (c : ∀ j, j ≠ 1 → j ≠ 2 → j ≠ 10 → j ≠ 11 → j ≠ 12 → O' j = O j) (m : ndY o u A o' A') (g : wrC O P Y (eW A) (A 6) (ltW A) u h x z O' P' R) (g' : wrM o A u h x z o' A' R') : ∃ u', u' ≤ 120 ∧ O' 1 = nI u' ∧ NS u' P' A' := by
  have same : O' 1 = nI u → (∀ i, ¬ (14 < i ∧ i ≤ 26) → P' i = P i) → ∃ u', u' ≤ 120 ∧ O' 1 = nI u' ∧ NS u' P' A' := fun e1 e => ⟨u, hu, e1, NS_fr hu hD (fun i h1 h2 j _ => by rw [e i (by omega)]) (fun r _ j hj => m.2.2.2 r j hj)⟩
  rcases g with ⟨r, q, e1, ep⟩ | ⟨sy, Y1, hs, ex, z0, hZ, g⟩
  · rcases g' with ⟨r', _, e0⟩ | ⟨s', J1, hs', ex', z0', _⟩
    · exact same e1 (fun i _ => by rw [ep])
    · exact absurd ⟨⟨by rw [ex', nI_toInt (by omega)]; omega, by rw [ex', nI_toInt (by omega)]; omega⟩, z0'⟩ q
  · rcases g' with ⟨_, q, _⟩ | ⟨s', J1, hs', ex', z0', hJ, g'⟩
    · exact absurd ⟨⟨by rw [ex, nI_toInt (by omega)]; omega, by rw [ex, nI_toInt (by omega)]; omega⟩, z0⟩ q
    · have e1 : sy = s' := (nI_eq (by omega) (by omega)).mp (ex.symm.trans ex')
      subst e1
      have ec := ct_same hh hZ hJ
      have cl := ctW_le hJ
      unfold cap at cl
      rw [ec] at g
      rcases g with ⟨r, q, e1, ep⟩ | ⟨p, T, ez, hp, hT, g⟩
      · rcases g' with ⟨r', _, e0⟩ | ⟨p', T', ez', hp', _⟩
        · exact same e1 (fun i _ => by rw [ep])
        · exact absurd (by rw [ez']; exact (lN_ltJ (by omega) (by omega)).mpr hp') q
      · rcases g' with ⟨_, q, _⟩ | ⟨p', T', ez', hp', hT', g'⟩
        · exact absurd (by rw [ez]; exact (lN_ltJ (by omega) (by omega)).mpr hp) q
        · have e2 : p = p' := (lN_eqJ (by omega) (by omega)).mp (ez.symm.trans ez')
          subst e2
          have e3 : T = T' := RT_uq 20 0 h p T T' (RT_cg (L_same hh hZ hJ) 20 0 h p T (Nat.le_refl _) hT) hT'
          subst e3
          rcases g with ⟨r, w, e1, ep⟩ | ⟨r, w, e1, ep, P1, ep1, hl⟩
          · rcases g' with ⟨r', _, e0⟩ | ⟨_, w', _⟩
            · exact same e1 ep
            · omega
          · rcases g' with ⟨_, w', _⟩ | ⟨r', _, e0, A1, ea1, eA⟩
            · omega
            · have n1 : NS u P1 A1 := NS_fr hu hD (fun i h1 h2 j _ => by rw [ep1 i (by omega)]) (fun r _ j hj => ea1 r j (by omega))
              have n2 := (NS_ly 20 0 h p T hT u P1 A1 [] _ n1 w hl).1
              refine ⟨_, w, e1, ?_⟩
              rw [eA]
              exact n2
/-- the invariant with shapes -/
def XS (O : Nat → Int32) (P A : Nat → Nat → Int32) : Prop := ∀ u, u ≤ 120 → O 1 = nI u → NS u P A
def LI5 (O : Nat → Int32) (P : Nat → Nat → Int32) (Y : Nat → Nat → Int64) (o : Nat → Int32) (A : Nat → Nat → Int32) : Prop := LI2 O P Y o A ∧ XS O P A
theorem LI5_0 : LI5 O00 P00 (fun _ _ => 0) o00 A00 := ⟨LI2_0, fun u hu e => by
  have : u = 0 := (nI_eq (by omega) (by decide)).mp e.symm
  subst this
  exact ⟨fun n hn => absurd hn (Nat.not_lt_zero n), fun n hn => absurd hn (Nat.not_lt_zero n)⟩⟩
theorem XS_of {O' : Nat → Int32} {P' A' : Nat → Nat → Int32} {u' : Nat} (hu : u' ≤ 120) (e : O' 1 = nI u') (n : NS u' P' A') : XS O' P' A' := fun u hu2 e2 => by
  have : u = u' := (nI_eq (by omega) (by omega)).mp (e2.symm.trans e)
  subst this
  exact n
theorem XS_fr {O O' : Nat → Int32} {P P' : Nat → Nat → Int32} {o o' : Nat → Int32} {A A' : Nat → Nat → Int32} {u : Nat} (hX : XS O P A) (hu : u ≤ 120) (h1 : O 1 = nI u) (c : cE O P O' P') (m : mE u o A o' A') (d : P' 12 = P 12) : XS O' P' A' := by
  refine XS_of hu (c.1.trans h1) (NS_fr hu (hX u hu h1) (fun i h1 h2 j _ => ?_) (fun r hr j hj => m.2.2.2.1 r j hr hj))
  by_cases q : i = 12
  · rw [q, d]
  · rw [c.2.2.2.1 i h1 (by omega)]
theorem LI5_fr {O O' : Nat → Int32} {P P' : Nat → Nat → Int32} {Y Y' : Nat → Nat → Int64} {o o' : Nat → Int32} {A A' : Nat → Nat → Int32} {u h d d2 : Nat} (H : LI5 O P Y o A) (hC : cI u h d O P Y) (s : SS u h O P o A) (c : cInv O' P' Y' ∧ cSt O P O' P') (m : mInv o' A' ∧ mSt A A') (ce : cE O P O' P') (me : mE u o A o' A') (dc : P' 12 = P 12) : LI5 O' P' Y' o' A' := ⟨LI2_fr H.1 hC.1 hC.2.2.2.1 s c m ce me, XS_fr H.2 hC.1 hC.2.1 ce me dc⟩
theorem NS_le {u u' : Nat} {P A : Nat → Nat → Int32} (h : NS u P A) (hu : u' ≤ u) : NS u' P A := ⟨NR_le h.1 hu, SI_le h.2 hu⟩
theorem leaf_NS {u : Nat} (hu : u < 120) {P A : Nat → Nat → Int32} (n : NS u P A) {k v sh : Int32} (g : lfG k v) : NS (u + 1) (stC 1 P u k v m1 m1 sh) (setsA A u k v m2 m2) := by
  have := NS_st (k := k) (v := v) (x := m2) (y := m2) (sh := sh) hu n (Or.inl rfl) (Or.inl rfl)
  have hv : 0 ≤ v.toInt := by
    rcases g with g | g <;> exact g.2.1
  rwa [cvI_m2, cvI_pos hv] at this
theorem node_NS {u : Nat} (hu : u < 120) {P A : Nat → Nat → Int32} (n : NS u P A) {k x y sh : Int32} (g : ndG u k x y) : NS (u + 1) (stC 1 P u k (ndv m1 k y) x (ndy m1 k y) sh) (setsA A u k (ndv m2 k y) x (ndy m2 k y)) := by
  obtain ⟨a, ha, ex⟩ := isN_n (by omega) (show isN u x from g.2.1)
  have hy : ndy m2 k y = m2 ∨ ∃ a, a < u ∧ ndy m2 k y = nI a := by
    unfold ndy
    split
    · rename_i q
      obtain ⟨b, hb, ey⟩ := isN_n (by omega) (show isN u y from g.2.2.1 q)
      exact Or.inr ⟨b, hb, ey⟩
    · exact Or.inl rfl
  have := NS_st (k := k) (v := ndv m2 k y) (x := x) (y := ndy m2 k y) (sh := sh) hu n (Or.inr ⟨a, ha, ex⟩) hy
  have e1 : cvI (ndv m2 k y) = ndv m1 k y := by
    unfold ndv
    split
    · rename_i q
      exact cvI_pos (g.2.2.2 q).1
    · exact cvI_m2
  have e2 : cvI x = x := cvI_pos g.2.1.1
  have e3 : cvI (ndy m2 k y) = ndy m1 k y := by
    unfold ndy
    split
    · rename_i q
      exact cvI_pos (g.2.2.1 q).1
    · exact cvI_m2
  rwa [e1, e2, e3] at this
theorem XS_rw {O O' : Nat → Int32} {P P' A A' : Nat → Nat → Int32} {u : Nat} (hX : XS O P A) (hu : u ≤ 120) (h1 : O 1 = nI u) (e1 : O' 1 = O 1) (e : ∀ i, 2 ≤ i → i ≤ 12 → P' i = P i) (e' : ∀ r, r < 5 → ∀ j, j < u → A' r j = A r j) : XS O' P' A' :=
  XS_of hu (e1.trans h1) (NS_fr hu (hX u hu h1) (fun i h1 h2 j _ => by rw [e i h1 h2]) e')
theorem wr_XS {O' : Nat → Int32} {P' A' : Nat → Nat → Int32} (h : ∃ u', u' ≤ 120 ∧ O' 1 = nI u' ∧ NS u' P' A') : XS O' P' A' := by
  obtain ⟨u', a, b, c⟩ := h
  exact XS_of a b c
theorem c12_sp {O O' : Nat → Int32} {P P' : Nat → Nat → Int32} (q : spT O P O' P') : P' 12 = P 12 := q.2 12 (by decide) (by decide)
theorem c12_Fr {O O' : Nat → Int32} {P P' : Nat → Nat → Int32} (q : cFr O P O' P') : P' 12 = P 12 := by rw [q.1]
theorem c12_sh {O O' : Nat → Int32} {P P' : Nat → Nat → Int32} {s : Nat} (q : shW O P s O' P') : P' 12 = P 12 := q.2.1 12 (by omega)
theorem c12_db {O O' : Nat → Int32} {P P' : Nat → Nat → Int32} {Y' : Nat → Nat → Int64} (q : dbC O P O' P' Y') : P' 12 = P 12 := q.2.2 12 (by omega)
theorem ak_same {u : Nat} (hu : u ≤ 120) {P A : Nat → Nat → Int32} (hT : tbI 0 u A) (hN : NS u P A) : ∀ n m, n < u → m < u → (P 12 n = P 12 m ↔ alk A 40 (nI n) (nI m)) := fun n m hn hm => (sh_alk hu hT hN.1 hN.2 40 n m hn hm (rN_sz (hT n (Nat.zero_le _) hn)).2.1).symm
