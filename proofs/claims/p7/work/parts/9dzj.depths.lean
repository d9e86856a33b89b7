/-- the NODES and their depths are the same on both sides -/
def ND (u : Nat) (P A : Nat → Nat → Int32) : Prop := NR u P A ∧ ∀ n, n < u → P 7 n = A 5 n ∧ ∃ e, 1 ≤ e ∧ e ≤ n + 1 ∧ A 5 n = nI e
theorem ND_fr {u : Nat} {P P' A A' : Nat → Nat → Int32} (hu : u ≤ 120) (h : ND u P A) (e : ∀ i, 2 ≤ i → i ≤ 11 → ∀ j, j < u → P' i j = P i j) (e' : ∀ r, r < 6 → ∀ j, j < u → A' r j = A r j) : ND u P' A' := ⟨NR_fr hu h.1 (fun i h1 h2 _ => e i h1 h2) (fun r hr => e' r (by omega)), fun n hn => by
  rw [e 7 (by decide) (by decide) n hn, e' 5 (by decide) n hn]
  exact h.2 n hn⟩
theorem mx_nI {p e : Nat} (hp : p < 300) (he : e < 300) : (if nI p < Int32.ofInt 1 + nI e then Int32.ofInt 1 + nI e else nI p) = nI (max p (1 + e)) := by
  rw [show Int32.ofInt 1 + nI e = nI (1 + e) from nI_add 1 e]
  by_cases q : p < 1 + e
  · rw [if_pos (nI_lt (by omega) (by omega)), Nat.max_eq_right (by omega)]
  · rw [if_neg (nI_nlt (by omega) (by omega)), Nat.max_eq_left (by omega)]
theorem adA_7 {n x p e : Nat} {P : Nat → Nat → Int32} (hp : p < 300) (he : e < 300) (h1 : P 7 n = nI p) (h2 : P 7 x = nI e) : adA 1 P n x 7 n = nI (max p (1 + e)) := by
  show upd (P 7) n (if P 7 n < Int32.ofInt 1 + P 7 x then Int32.ofInt 1 + P 7 x else P 7 n) n = _
  rw [upd_self, h1, h2]
  exact mx_nI hp he
theorem mxv_nI {a b : Nat} (ha : a < 300) (hb : b < 300) : Int32.ofInt 1 + mxv (nI a) (nI b) = nI (1 + max a b) := by
  unfold mxv
  by_cases q : a ≤ b
  · rw [if_pos ((nI_leI (by omega) (by omega)).mpr q), Nat.max_eq_right q]
    exact nI_add 1 b
  · rw [if_neg (fun w => q ((nI_leI (by omega) (by omega)).mp w)), Nat.max_eq_left (by omega)]
    exact nI_add 1 a
theorem ND_st {u : Nat} {P A : Nat → Nat → Int32} (hu : u < 120) (h : ND u P A) {k v x y sh : Int32} (hx : x = m2 ∨ ∃ a, a < u ∧ x = nI a) (hy : y = m2 ∨ ∃ a, a < u ∧ y = nI a) : ND (u + 1) (stC 1 P u k (cvI v) (cvI x) (cvI y) sh) (setsA A u k v x y) := by
  refine ⟨NR_st hu h.1 hx hy, fun n hn => ?_⟩
  by_cases e : n = u
  · subst e
    have dep : ∀ z, (z = m2 ∨ ∃ a, a < n ∧ z = nI a) → ∃ e, e ≤ n ∧ rdv (A 5) z = nI e ∧ ∀ (Q : Nat → Nat → Int32) (p : Nat), 1 ≤ p → p < 200 → Q 7 n = nI p → (∀ j, j < n → Q 7 j = P 7 j) → adI 1 (nI n) Q n (cvI z) 7 n = nI (max p (1 + e)) := by
      rintro z (rfl | ⟨a, ha, rfl⟩)
      · refine ⟨0, Nat.zero_le _, by rw [rdv_m2]; rfl, fun Q p h1 h2 hQ _ => ?_⟩
        rw [cvI_m2, adI_m1, hQ, Nat.max_eq_left (by omega)]
      · obtain ⟨e7, e, e1, e2, e5⟩ := h.2 a ha
        refine ⟨e, by omega, by rw [rdv_nI (by omega)]; exact e5, fun Q p h1 h2 hQ hj => ?_⟩
        rw [cvI_nI (by omega), adI_nI ha hu]
        exact adA_7 (by omega) (by omega) hQ (by rw [hj a ha, e7, e5])
    obtain ⟨ex, hex, rx, fx⟩ := dep x hx
    obtain ⟨ey, hey, ry, fy⟩ := dep y hy
    have ec : stC 1 P n k (cvI v) (cvI x) (cvI y) sh 7 n = nI (max (max 1 (1 + ex)) (1 + ey)) := by
      have e0 : stC 1 P n k (cvI v) (cvI x) (cvI y) sh 7 = adI 1 (nI n) (adI 1 (nI n) (putV 1 P n k (cvI v) (cvI x) (cvI y) (owW k (cvI v)) (hbW (Int16.ofInt 764).toInt32 k) (leW k (cvI v)) (caW k (cvI v))) n (cvI x)) n (cvI y) 7 := updA_ne _ _ (by decide)
      rw [e0]
      have q1 := fx (putV 1 P n k (cvI v) (cvI x) (cvI y) (owW k (cvI v)) (hbW (Int16.ofInt 764).toInt32 k) (leW k (cvI v)) (caW k (cvI v))) 1 (by decide) (by decide) (upd_self _ _ _) (fun j hj => putV_ne (by omega))
      exact fy _ (max 1 (1 + ex)) (by omega) (by omega) q1 (fun j hj => by rw [adI_ne (by omega), putV_ne (by omega)])
    have ea : setsA A n k v x y 5 n = nI (1 + max ex ey) := by
      show upd (A 5) n (Int32.ofInt 1 + mxv (rdv (A 5) x) (rdv (A 5) y)) n = _
      rw [upd_self, rx, ry]
      exact mxv_nI (by omega) (by omega)
    refine ⟨by rw [ec, ea, show max (max 1 (1 + ex)) (1 + ey) = 1 + max ex ey by omega], 1 + max ex ey, by omega, by omega, ea⟩
  · rw [stC_ne (by omega), setsA_o (by omega)]
    exact h.2 n (by omega)
theorem ND_ly {E : Nat → Nat} {G : Nat → Int32} {lt : Nat → Nat → Bool} {L : Nat → Nat → Nat} : ∀ (f i j p : Nat) (T : List (Nat × Nat)), RT E (mG E G lt L) L f i j p T → ∀ (u : Nat) (P A : Nat → Nat → Int32) (st : List Nat) (s' : (Nat → Nat → Int32) × Nat × List Nat), ND u P A → u + T.length ≤ 120 → lyC 1 T (P, u, st) s' → ND (u + T.length) s'.1 (lyM T (A, u, st)).1 ∧ s'.2 = (u + T.length, (u + T.length - 1) :: st) ∧ (lyM T (A, u, st)).2 = (u + T.length, (u + T.length - 1) :: st) ∧ 1 ≤ T.length
  | 0, _, _, _, _, h => h.elim
  | f + 1, i, j, p, T, ⟨c, q, h1, h2, h3, h4⟩ => by
    intro u P A st s' hN hu hl
    obtain ⟨w1, w2, w3⟩ := mG_pos h3
    have hc : c / 2 < 10 := by omega
    rcases h4 with ⟨a1, a2⟩ | ⟨a1, X, a2, a3⟩ | ⟨a1, a2, d, r, X, Y, b1, b2, b3, b4, b5, b6, b7⟩
    · have hv : (if c / 2 = 0 then E (i + c % 2) else nvN E (j - c % 2 - (i + c % 2)) (i + c % 2) 0) < 10000 := by
        refine isNum_E hc w1 _ ?_
        rcases (show c / 2 = 0 ∨ c / 2 = 1 by omega) with e | e
        · exact Or.inl ⟨e, by rw [if_pos e]⟩
        · exact Or.inr (Or.inl ⟨e, by rw [if_neg (by omega)]⟩)
      rw [a2] at hl hu ⊢
      obtain ⟨sh, rfl⟩ := tkC_0 a1 hl
      rw [tkM_0 a1]
      refine ⟨?_, rfl, rfl, Nat.le_refl _⟩
      have := ND_st (k := nI (c / 2)) (v := nI (if c / 2 = 0 then E (i + c % 2) else nvN E (j - c % 2 - (i + c % 2)) (i + c % 2) 0)) (sh := sh) (by have h9 : u + 1 ≤ 120 := hu; omega) hN (Or.inl rfl) (Or.inl rfl)
      rw [cvI_m2, cvI_nI (by omega)] at this
      exact this
    · have hv : E (i + c % 2) < 10000 := isNum_E hc w1 _ (Or.inr (Or.inr ⟨a1, rfl⟩))
      have hlen : T.length = X.length + 1 := by rw [a2, List.length_append]; rfl
      rw [a2] at hl
      obtain ⟨m, l1, l2⟩ := lyC_split X _ _ _ hl
      obtain ⟨n1, n2, n3, n4⟩ := ND_ly f _ _ _ X a3 u P A st m hN (by omega) l1
      obtain ⟨P1, m2'⟩ := m
      rw [show m2' = (u + X.length, (u + X.length - 1) :: st) from n2] at l2
      obtain ⟨sh, rfl⟩ := tkC_1 a1 l2
      have eM : lyM X (A, u, st) = ((lyM X (A, u, st)).1, u + X.length, (u + X.length - 1) :: st) := Prod.ext rfl n3
      rw [a2, lyM_app, eM, tkM_1 a1, ← a2, hlen]
      refine ⟨?_, rfl, rfl, by omega⟩
      have := ND_st (k := nI (c / 2)) (v := if c / 2 = 9 then nI (E (i + c % 2)) else m2) (x := nI (u + X.length - 1)) (y := m2) (sh := sh) (by omega) n1 (Or.inr ⟨u + X.length - 1, by omega, rfl⟩) (Or.inl rfl)
      have ec : cvI (if c / 2 = 9 then nI (E (i + c % 2)) else m2) = if c / 2 = 9 then nI (E (i + c % 2)) else m1 := by
        split
        · exact cvI_nI (by omega)
        · exact cvI_m2
      rw [cvI_m2, cvI_nI (by omega), ec] at this
      exact this
    · have hlen : T.length = X.length + Y.length + 1 := by rw [b5, List.length_append, List.length_append]; rfl
      rw [b5] at hl
      obtain ⟨m, l1, l3⟩ := lyC_split (X ++ Y) _ _ _ hl
      obtain ⟨m0, l1, l2⟩ := lyC_split X Y _ _ l1
      obtain ⟨n1, n2, n3, n4⟩ := ND_ly f _ _ _ X b6 u P A st m0 hN (by omega) l1
      obtain ⟨P1, m2'⟩ := m0
      rw [show m2' = (u + X.length, (u + X.length - 1) :: st) from n2] at l2
      obtain ⟨k1, k2, k3, k4⟩ := ND_ly f _ _ _ Y b7 (u + X.length) P1 (lyM X (A, u, st)).1 ((u + X.length - 1) :: st) m n1 (by omega) l2
      obtain ⟨P2, m3'⟩ := m
      rw [show m3' = (u + X.length + Y.length, (u + X.length + Y.length - 1) :: (u + X.length - 1) :: st) from k2] at l3
      obtain ⟨sh, rfl⟩ := tkC_2 a1 a2 l3
      have eM : lyM X (A, u, st) = ((lyM X (A, u, st)).1, u + X.length, (u + X.length - 1) :: st) := Prod.ext rfl n3
      have eN : lyM Y (lyM X (A, u, st)) = ((lyM Y ((lyM X (A, u, st)).1, u + X.length, (u + X.length - 1) :: st)).1, u + X.length + Y.length, (u + X.length + Y.length - 1) :: (u + X.length - 1) :: st) := by
        rw [eM]
        exact Prod.ext rfl k3
      rw [b5, lyM_app, lyM_app, eN, tkM_2 a1 a2, ← b5, hlen, show u + (X.length + Y.length + 1) = u + X.length + Y.length + 1 by omega]
      refine ⟨?_, rfl, rfl, by omega⟩
      have := ND_st (k := nI (c / 2)) (v := m2) (x := nI (u + X.length - 1)) (y := nI (u + X.length + Y.length - 1)) (sh := sh) (by omega) k1 (Or.inr ⟨u + X.length - 1, by omega, rfl⟩) (Or.inr ⟨u + X.length + Y.length - 1, by omega, rfl⟩)
      rw [cvI_m2, cvI_nI (by omega), cvI_nI (by omega)] at this
      exact this
theorem write_ND {u h : Nat} (hu : u ≤ 120) (hh : h ≤ 20) {O O' : Nat → Int32} {P P' : Nat → Nat → Int32} {o o' : Nat → Int32} {A A' : Nat → Nat → Int32} {Y : Nat → Nat → Int64} {x R R' : Int32} {z : Int64} (s : SS u h O P o A) (hD : ND u P A) (c : ∀ j, j ≠ 1 → j ≠ 2 → j ≠ 10 → j ≠ 11 → j ≠ 12 → O' j = O j) (m : ndY o u A o' A') (g : wrC O P Y (eW A) (A 6) (ltW A) u h x z O' P' R) (g' : wrM o A u h x z o' A' R') : ∃ u', u' ≤ 120 ∧ O' 1 = nI u' ∧ ND u' P' A' := by
  have same : O' 1 = nI u → (∀ i, ¬ (14 < i ∧ i ≤ 26) → P' i = P i) → ∃ u', u' ≤ 120 ∧ O' 1 = nI u' ∧ ND u' P' A' := fun e1 e => ⟨u, hu, e1, ND_fr hu hD (fun i h1 h2 j _ => by rw [e i (by omega)]) (fun r _ j hj => m.2.2.2 r j hj)⟩
  rcases g with ⟨r, q, e1, ep⟩ | ⟨sy, Y1, hs, ex, z0, hZ, g⟩
  · rcases g' with ⟨r', _, e0⟩ | ⟨s', J1, hs', ex', z0', _⟩
    · exact same e1 (fun i _ => by rw [ep])
    · exact absurd ⟨⟨by rw [ex', nI_toInt (by omega)]; omega, by rw [ex', nI_toInt (by omega)]; omega⟩, z0'⟩ q
  · rcases g' with ⟨_, q, _⟩ | ⟨s', J1, hs', ex', z0', hJ, g'⟩
    · exact absurd ⟨⟨by rw [ex, nI_toInt (by omega)]; omega, by rw [ex, nI_toInt (by omega)]; omega⟩, z0⟩ q
    · have e1 : sy = s' := (nI_eq (by omega) (by omega)).mp (ex.symm.trans ex')
      subst e1
      have ec := ct_same hh hZ hJ
      have cl := ctW_le hJ
      unfold cap at cl
      rw [ec] at g
      rcases g with ⟨r, q, e1, ep⟩ | ⟨p, T, ez, hp, hT, g⟩
      · rcases g' with ⟨r', _, e0⟩ | ⟨p', T', ez', hp', _⟩
        · exact same e1 (fun i _ => by rw [ep])
        · exact absurd (by rw [ez']; exact (lN_ltJ (by omega) (by omega)).mpr hp') q
      · rcases g' with ⟨_, q, _⟩ | ⟨p', T', ez', hp', hT', g'⟩
        · exact absurd (by rw [ez]; exact (lN_ltJ (by omega) (by omega)).mpr hp) q
        · have e2 : p = p' := (lN_eqJ (by omega) (by omega)).mp (ez.symm.trans ez')
          subst e2
          have e3 : T = T' := RT_uq 20 0 h p T T' (RT_cg (L_same hh hZ hJ) 20 0 h p T (Nat.le_refl _) hT) hT'
          subst e3
          rcases g with ⟨r, w, e1, ep⟩ | ⟨r, w, e1, ep, P1, ep1, hl⟩
          · rcases g' with ⟨r', _, e0⟩ | ⟨_, w', _⟩
            · exact same e1 ep
            · omega
          · rcases g' with ⟨_, w', _⟩ | ⟨r', _, e0, A1, ea1, eA⟩
            · omega
            · have n1 : ND u P1 A1 := ND_fr hu hD (fun i h1 h2 j _ => by rw [ep1 i (by omega)]) (fun r _ j hj => ea1 r j (by omega))
              have n2 := (ND_ly 20 0 h p T hT u P1 A1 [] _ n1 w hl).1
              refine ⟨_, w, e1, ?_⟩
              rw [eA]
              exact n2
/-- the invariant with depths -/
def XD (O : Nat → Int32) (P A : Nat → Nat → Int32) : Prop := ∀ u, u ≤ 120 → O 1 = nI u → ND u P A
def LI4 (O : Nat → Int32) (P : Nat → Nat → Int32) (Y : Nat → Nat → Int64) (o : Nat → Int32) (A : Nat → Nat → Int32) : Prop := LI2 O P Y o A ∧ XD O P A
theorem LI4_0 : LI4 O00 P00 (fun _ _ => 0) o00 A00 := ⟨LI2_0, fun u hu e => by
  have : u = 0 := (nI_eq (by omega) (by decide)).mp e.symm
  subst this
  exact ⟨fun n hn => absurd hn (Nat.not_lt_zero n), fun n hn => absurd hn (Nat.not_lt_zero n)⟩⟩
/-- what a call leaves of the reference's depths -/
def d5 (u : Nat) (A A' : Nat → Nat → Int32) : Prop := ∀ i, i < u → A' 5 i = A 5 i
theorem XD_fr {O O' : Nat → Int32} {P P' : Nat → Nat → Int32} {o o' : Nat → Int32} {A A' : Nat → Nat → Int32} {u : Nat} (hX : XD O P A) (hu : u ≤ 120) (h1 : O 1 = nI u) (c : cE O P O' P') (m : mE u o A o' A') (d : d5 u A A') : XD O' P' A' := fun u' hu' e' => by
  have e : u' = u := (nI_eq (by omega) (by omega)).mp (e'.symm.trans (c.1.trans h1))
  subst e
  refine ND_fr hu (hX u' hu h1) (fun i h1 h2 j _ => by rw [c.2.2.2.1 i h1 h2]) (fun r hr j hj => ?_)
  by_cases q : r = 5
  · subst q
    exact d j hj
  · exact m.2.2.2.1 r j (by omega) hj
theorem LI4_fr {O O' : Nat → Int32} {P P' : Nat → Nat → Int32} {Y Y' : Nat → Nat → Int64} {o o' : Nat → Int32} {A A' : Nat → Nat → Int32} {u h d d2 : Nat} (H : LI4 O P Y o A) (hC : cI u h d O P Y) (s : SS u h O P o A) (c : cInv O' P' Y' ∧ cSt O P O' P') (m : mInv o' A' ∧ mSt A A') (ce : cE O P O' P') (me : mE u o A o' A') (dm : d5 u A A') : LI4 O' P' Y' o' A' := ⟨LI2_fr H.1 hC.1 hC.2.2.2.1 s c m ce me, XD_fr H.2 hC.1 hC.2.1 ce me dm⟩
theorem XD_of {O' : Nat → Int32} {P' A' : Nat → Nat → Int32} {u' : Nat} (hu : u' ≤ 120) (e : O' 1 = nI u') (n : ND u' P' A') : XD O' P' A' := fun u hu2 e2 => by
  have : u = u' := (nI_eq (by omega) (by omega)).mp (e2.symm.trans e)
  subst this
  exact n
theorem ND_le {u u' : Nat} {P A : Nat → Nat → Int32} (h : ND u P A) (hu : u' ≤ u) : ND u' P A := ⟨NR_le h.1 hu, fun n hn => h.2 n (by omega)⟩
theorem leaf_ND {u : Nat} (hu : u < 120) {P A : Nat → Nat → Int32} (n : ND u P A) {k v sh : Int32} (g : lfG k v) : ND (u + 1) (stC 1 P u k v m1 m1 sh) (setsA A u k v m2 m2) := by
  have := ND_st (k := k) (v := v) (x := m2) (y := m2) (sh := sh) hu n (Or.inl rfl) (Or.inl rfl)
  have hv : 0 ≤ v.toInt := by
    rcases g with g | g <;> exact g.2.1
  rwa [cvI_m2, cvI_pos hv] at this
theorem node_ND {u : Nat} (hu : u < 120) {P A : Nat → Nat → Int32} (n : ND u P A) {k x y sh : Int32} (g : ndG u k x y) : ND (u + 1) (stC 1 P u k (ndv m1 k y) x (ndy m1 k y) sh) (setsA A u k (ndv m2 k y) x (ndy m2 k y)) := by
  obtain ⟨a, ha, ex⟩ := isN_n (by omega) (show isN u x from g.2.1)
  have hy : ndy m2 k y = m2 ∨ ∃ a, a < u ∧ ndy m2 k y = nI a := by
    unfold ndy
    split
    · rename_i q
      obtain ⟨b, hb, ey⟩ := isN_n (by omega) (show isN u y from g.2.2.1 q)
      exact Or.inr ⟨b, hb, ey⟩
    · exact Or.inl rfl
  have := ND_st (k := k) (v := ndv m2 k y) (x := x) (y := ndy m2 k y) (sh := sh) hu n (Or.inr ⟨a, ha, ex⟩) hy
  have e1 : cvI (ndv m2 k y) = ndv m1 k y := by
    unfold ndv
    split
    · rename_i q
      exact cvI_pos (g.2.2.2 q).1
    · exact cvI_m2
  have e2 : cvI x = x := cvI_pos g.2.1.1
  have e3 : cvI (ndy m2 k y) = ndy m1 k y := by
    unfold ndy
    split
    · rename_i q
      exact cvI_pos (g.2.2.1 q).1
    · exact cvI_m2
  rwa [e1, e2, e3] at this
theorem XD_rw {O O' : Nat → Int32} {P P' A A' : Nat → Nat → Int32} {u : Nat} (hX : XD O P A) (hu : u ≤ 120) (h1 : O 1 = nI u) (e1 : O' 1 = O 1) (e : ∀ i, 2 ≤ i → i ≤ 11 → P' i = P i) (e' : ∀ r, r < 6 → ∀ j, j < u → A' r j = A r j) : XD O' P' A' :=
  XD_of hu (e1.trans h1) (ND_fr hu (hX u hu h1) (fun i h1 h2 j _ => by rw [e i h1 h2]) e')
theorem wr_XD {O' : Nat → Int32} {P' A' : Nat → Nat → Int32} (h : ∃ u', u' ≤ 120 ∧ O' 1 = nI u' ∧ ND u' P' A') : XD O' P' A' := by
  obtain ⟨u', a, b, c⟩ := h
  exact XD_of a b c
theorem d5_id (u : Nat) (A : Nat → Nat → Int32) : d5 u A A := fun _ _ => rfl
theorem d5_q {o o' : Nat → Int32} {A A' : Nat → Nat → Int32} (u : Nat) (q : qX o A o' A') : d5 u A A' := fun _ _ => by rw [q.2 5 (by decide) (by decide)]
theorem d5_cl {o o' : Nat → Int32} {A A' : Nat → Nat → Int32} {u : Nat} (hu : u ≤ 120) (q : clX o A o' A') : d5 u A A' := fun i hi => q.2.1 5 i (by omega) (by decide)
theorem d5_sh {o o' : Nat → Int32} {A A' : Nat → Nat → Int32} (u : Nat) (q : shM o A o' A') : d5 u A A' := fun _ _ => by rw [q.2.1 5 (by decide) (by decide)]
theorem d5_db {o o' : Nat → Int32} {A A' : Nat → Nat → Int32} {u : Nat} (q : dbM o u A o' A') : d5 u A A' := fun i hi => q.2.2.2 5 i hi
theorem d5_go (u : Nat) (A : Nat → Nat → Int32) (N D : Nat → Int32) : d5 u A (updA (updA A 20 N) 21 D) := fun _ _ => rfl
