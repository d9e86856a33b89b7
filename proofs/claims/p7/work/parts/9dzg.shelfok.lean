theorem cI_id3 {u l d : Nat} {O : Nat → Int32} {P : Nat → Nat → Int32} {Y : Nat → Nat → Int64} (h : cI u l d O P Y) : cInv O P Y ∧ cSt O P O P := ⟨⟨u, l, d, h⟩, cSt_refl O P⟩
theorem nI_ne {a b : Nat} (ha : a < 10) (hb : b < 10) (h : a ≠ b) : ¬ nI a = nI b := fun e => h ((nI_eq (by omega) (by omega)).mp e)
/-- a shelf's change on both sides: all but the shelf's own rows -/
theorem sh_LI {O O' : Nat → Int32} {P P' : Nat → Nat → Int32} {Y : Nat → Nat → Int64} {o o' : Nat → Int32} {A A' : Nat → Nat → Int32} {u h d d2 s : Nat} (H : LI3 O P Y o A) (hC : cI u h d O P Y) (hM : mI u h d2 o A) (S : SS u h O P o A) (hs : s < 8) (q : shW O P s O' P') (qm : shM o A o' A') (f : shF s A A') (own : O' (20 + 10 * s) = A' 9 s ∧ (A' 9 s = nI 0 ∨ A' 9 s = nI 1 ∨ A' 9 s = nI 3 ∨ A' 9 s = nI 4) ∧ (A' 9 s = nI 1 → O' (22 + 10 * s) = A' 10 s ∧ O' (21 + 10 * s) = cvI (A' 11 s) ∧ O' (23 + 10 * s) = A' 12 s ∧ (A' 11 s = m2 ∨ ∃ v, v ≤ 9999 ∧ A' 11 s = nI v) ∧ (A' 10 s = nI 1 → ∃ v, v ≤ 9999 ∧ A' 11 s = nI v)) ∧ ((A' 9 s = nI 3 ∨ A' 9 s = nI 4) → O' (24 + 10 * s) = A' 12 s ∧ ∃ m, m ≤ 60 ∧ A' 12 s = nI m ∧ ∀ i, i < m → P' (60 + 2 * s) i = A' 13 (60 * s + i))) : LI3 O' P' Y o' A' := by
  refine ⟨LI2_fr H.1 hC.1 hC.2.2.2.1 S (cI_sh hC hs q) (mI_sh hM qm) (cE_sh q) (mE_sh u qm), wk3_fr hC hM S H.2.1 (q.1 13 (by omega)) (q.1 14 (by omega)) (q.2.1 56 (by omega)) (q.2.1 57 (by omega)) (qm.1 33 (by decide)) (qm.2.1 20 (by decide) (by decide)) (qm.2.1 21 (by decide) (by decide)) (fun r i hr _ => by rw [qm.2.1 r (by omega) (by omega)]), fun t ht => ?_⟩
  by_cases e : t = s
  · subst e
    exact own
  · have a9 := f.1 9 t (by decide) (by decide) e
    have a10 := f.1 10 t (by decide) (by decide) e
    have a11 := f.1 11 t (by decide) (by decide) e
    have a12 := f.1 12 t (by decide) (by decide) e
    rw [q.1 _ (by omega), q.1 _ (by omega), q.1 _ (by omega), q.1 _ (by omega), q.1 _ (by omega), q.2.1 _ (by omega), a9, a10, a11, a12]
    obtain ⟨h1, h2, h3, h4⟩ := H.2.2 t ht
    refine ⟨h1, h2, h3, fun w => ?_⟩
    obtain ⟨k1, m, hm, k2, k3⟩ := h4 w
    exact ⟨k1, m, hm, k2, fun i hi => by rw [f.2 _ (by omega)]; exact k3 i hi⟩
theorem kpG_C {O : Nat → Int32} {P : Nat → Nat → Int32} {u s : Nat} (hu : u ≤ 120) {y x n : Int32} (hs : s < 8) (ey : y = nI s) (h : x = nI 0 ∨ (∃ j, j < u ∧ n = nI j ∧ x = nI 1) ∨ x = nI 3 ∨ (∃ j, j < u ∧ n = nI j ∧ x = nI 4)) : kpG u y x n := by
  refine ⟨by rw [ey, nI_toInt (by omega)]; omega, ?_⟩
  rcases h with e | ⟨j, hj, en, e⟩ | e | ⟨j, hj, en, e⟩
  · exact Or.inl e
  · exact Or.inr (Or.inr ⟨Or.inl e, by rw [en]; exact isN_nI hu hj⟩)
  · exact Or.inr (Or.inl e)
  · exact Or.inr (Or.inr ⟨Or.inr e, by rw [en]; exact isN_nI hu hj⟩)
theorem keep_LI {O O' : Nat → Int32} {P P' : Nat → Nat → Int32} {Y : Nat → Nat → Int64} {o o' : Nat → Int32} {A A' : Nat → Nat → Int32} {u h d d2 : Nat} {y x n R R' : Int32} (H : LI3 O P Y o A) (hC : cI u h d O P Y) (hM : mI u h d2 o A) (S : SS u h O P o A) (g : kpC O P u h y x n O' P' R) (g' : kpM A u h y x n o o' A' R') (qm : shM o A o' A') : R = R' ∧ LI3 O' P' Y o' A' := by
  have hu := hC.1
  rcases g with ⟨r, q, e1, e2⟩ | ⟨s, hs, ey, r, q, g⟩ <;> rcases g' with ⟨r', q', e1', e2'⟩ | ⟨s', hs', ey', r', f', a9', g'⟩
  · subst e1
    subst e2
    subst e1'
    subst e2'
    exact ⟨by rw [r, r'], H⟩
  · refine absurd (kpG_C (O := O) (P := P) hu hs' ey' ?_) q
    rcases g' with e | ⟨j, hj, en, e, _⟩ | ⟨e, _⟩ | ⟨j, hj, en, e, _⟩
    · exact Or.inl e
    · exact Or.inr (Or.inl ⟨j, hj, en, e⟩)
    · exact Or.inr (Or.inr (Or.inl e))
    · exact Or.inr (Or.inr (Or.inr ⟨j, hj, en, e⟩))
  · refine absurd (kpG_C (O := O) (P := P) hu hs ey ?_) q'
    rcases g with ⟨e, _⟩ | ⟨j, hj, en, e, _⟩ | ⟨e, _⟩ | ⟨j, hj, en, e, _⟩
    · exact Or.inl e
    · exact Or.inr (Or.inl ⟨j, hj, en, e⟩)
    · exact Or.inr (Or.inr (Or.inl e))
    · exact Or.inr (Or.inr (Or.inr ⟨j, hj, en, e⟩))
  · have es : s = s' := (nI_eq (by omega) (by omega)).mp (ey.symm.trans ey')
    subst es
    refine ⟨by rw [r, r'], sh_LI H hC hM S hs q qm f' ?_⟩
    rcases g with ⟨e, c1⟩ | ⟨j, hj, en, e, c1, c2, c3, c4⟩ | ⟨e, c1, c2, c3⟩ | ⟨j, hj, en, e, c1, c2, c3⟩ <;> rcases g' with e' | ⟨j', hj', en', e', b1, b2, b3⟩ | ⟨e', b1, b2⟩ | ⟨j', hj', en', e', b1, b2⟩
    all_goals first
      | exact absurd (e.symm.trans e') (by decide)
      | skip
    · rw [a9', e]
      exact ⟨c1, Or.inl rfl, fun w => absurd w (by decide), fun w => absurd w (by decide)⟩
    · have ej : j = j' := (nI_eq (by omega) (by omega)).mp (en.symm.trans en')
      subst ej
      obtain ⟨n1, n2, n3, n4, n5, _⟩ := S.2.2.1 j hj
      obtain ⟨k, h0, hk, _, _, hv⟩ := rN_val (hM.2.2.1 j (Nat.zero_le _) hj)
      rw [a9', e]
      refine ⟨c1, Or.inr (Or.inl rfl), fun _ => ⟨by rw [c2, b1, n1], by rw [c3, b2, n2], by rw [c4, b3, n5]; exact (rN_sz (hM.2.2.1 j (Nat.zero_le _) hj)).2.2, ?_, fun w => ?_⟩, fun w => absurd w (by decide)⟩
      · rw [b2]
        by_cases q28 : 2 ≤ k ∧ k ≤ 8
        · exact Or.inl (hv.2.2 q28.1 q28.2)
        · rcases (show k = 1 ∨ (k = 0 ∨ k = 9) by omega) with q1 | q1
          · exact Or.inr (hv.2.1 q1)
          · obtain ⟨v, a, b⟩ := hv.1 q1
            exact Or.inr ⟨v, by omega, b⟩
      · rw [b1, h0, nI_eq (by omega) (by decide)] at w
        rw [b2]
        exact hv.2.1 w
    · rw [a9', e]
      refine ⟨c1, Or.inr (Or.inr (Or.inl rfl)), fun w => absurd w (by decide), fun _ => ⟨by rw [c2, b1], h, by have := hC.2.2.2.1; omega, b1, fun i hi => ?_⟩⟩
      rw [c3 i hi, b2 i hi]
      exact S.2.2.2.2.2.1 i hi
    · have ej : j = j' := (nI_eq (by omega) (by omega)).mp (en.symm.trans en')
      subst ej
      obtain ⟨n1, n2, n3, n4, n5, _⟩ := S.2.2.1 j hj
      have sz := rN_sz (hM.2.2.1 j (Nat.zero_le _) hj)
      rw [a9', e]
      refine ⟨c1, Or.inr (Or.inr (Or.inr rfl)), fun w => absurd w (by decide), fun _ => ⟨by rw [c2, b1, n5]; exact sz.2.2, szN A j, by omega, b1, fun i hi => ?_⟩⟩
      rw [hC.2.1, kl_same hu hM.2.2.1 S.2.2.1 40 j hj sz.2.1] at c3
      have hl := klA_len (by omega) hM.2.2.1 40 j (Nat.zero_le _) hj sz.2.1
      have hg : (klA A 40 (nI j))[i]? = some (klA A 40 (nI j))[i] := List.getElem?_eq_getElem (by omega)
      rw [c3 i _ hg, b2 i _ hg]
theorem make_LI {O O' : Nat → Int32} {P P' : Nat → Nat → Int32} {Y : Nat → Nat → Int64} {o o' : Nat → Int32} {A A' : Nat → Nat → Int32} {u h d d2 : Nat} {x k n : Int32} (H : LI3 O P Y o A) (hC : cI u h d O P Y) (hM : mI u h d2 o A) (S : SS u h O P o A) (g : mkC O P x k n O' P') (g' : mkM o A x k n o' A') (qm : shM o A o' A') : LI3 O' P' Y o' A' := by
  rcases g with ⟨q, e1, e2⟩ | ⟨s, m, hs, hm, ex, en, hG, eO, hP, hD⟩ <;> rcases g' with ⟨q', e1', e2'⟩ | ⟨s', m', hs', hm', ex', en', hG', f', a9', a12', hD'⟩
  · subst e1
    subst e2
    subst e1'
    subst e2'
    exact H
  · exact absurd hG' q
  · exact absurd hG q'
  · have es : s = s' := (nI_eq (by omega) (by omega)).mp (ex.symm.trans ex')
    have em : m = m' := (nI_eq (by omega) (by omega)).mp (en.symm.trans en')
    subst es
    subst em
    have k34' : k = nI 3 ∨ k = nI 4 := k34.mpr hG.2.1
    have w : shW O P s O' P' := ⟨fun j hj => by rw [eO, upd_ne _ _ (by omega), upd_ne _ _ (by omega)], hP, Or.inr ⟨m, hm, by rw [eO, upd_self]⟩⟩
    refine sh_LI H hC hM S hs w qm f' ?_
    rw [a9']
    refine ⟨by rw [eO, upd_ne _ _ (by omega), upd_self], Or.inr (Or.inr k34'), fun e => ?_, fun _ => ⟨by rw [eO, upd_self, a12'], m, hm, a12', fun i hi => by rw [hD i (by omega), hD' i hi]⟩⟩
    rcases k34' with e4 | e4 <;> exact absurd (e4.symm.trans e) (by decide)
theorem sp3_le {a c m : Nat} (ha : a < 2 ^ 31) (hc : c < 2 ^ 31) (hm : m ≤ 60) (h : sp3 (nI a) (nI c) (nI m)) : a + c ≤ m := by
  have h3 := h.2.2
  rw [Int32.le_iff_toInt_le, Int32.toInt_sub, nI_toInt ha, nI_toInt hc, nI_toInt (by omega), Int.bmod_eq_of_le (by omega) (by omega)] at h3
  omega
theorem copy_LI {O : Nat → Int32} {P P' : Nat → Nat → Int32} {Y : Nat → Nat → Int64} {o o' : Nat → Int32} {A A' : Nat → Nat → Int32} {u h d d2 : Nat} {x i y j n R R' : Int32} (H : LI3 O P Y o A) (hC : cI u h d O P Y) (hM : mI u h d2 o A) (S : SS u h O P o A) (g : cyR (fun s => O (20 + 10 * s)) (fun s => O (24 + 10 * s)) x i y j n R (P' = P) (fun s t => P' = updA P (60 + 2 * t) (va_cpy (P (60 + 2 * s)) (P (60 + 2 * t)) i.toNatClampNeg j.toNatClampNeg n.toNatClampNeg))) (g' : cyR (A 9) (A 12) x i y j n R' (A' = A) (fun s t => ∃ a b c, i = nI a ∧ j = nI b ∧ n = nI c ∧ a + c ≤ 60 ∧ b + c ≤ 60 ∧ A' 13 = cpO (A 13) (fun k => A 13 (60 * s + a + k)) (60 * t + b) c ∧ ∀ r, r ≠ 13 → r ≠ 15 → A' r = A r)) (qm : shM o A o' A') : R = R' ∧ LI3 O P' Y o' A' := by
  obtain ⟨e, g⟩ := cyR_same (fun s hs => (H.2.2 s hs).1) (fun s hs w => ((H.2.2 s hs).2.2.2 (by rw [← (H.2.2 s hs).1]; exact w)).1) g g'
  refine ⟨e, ?_⟩
  rcases g with ⟨e1, e2⟩ | ⟨s, t, hs, ht, w1, w2, p1, p2, e1, a, b, c, rfl, rfl, rfl, ha, hb, e2, e3⟩
  · subst e1
    refine ⟨LI2_fr H.1 hC.1 hC.2.2.2.1 S (cI_id3 hC) (mI_sh hM qm) (cE_id O P') (mE_sh u qm), wk3_fr hC hM S H.2.1 rfl rfl rfl rfl (qm.1 33 (by decide)) (by rw [e2]) (by rw [e2]) (fun r i _ _ => by rw [e2]), ?_⟩
    rw [e2]
    exact H.2.2
  · obtain ⟨s1, s2, s3, s4⟩ := H.2.2 s hs
    obtain ⟨t1, t2, t3, t4⟩ := H.2.2 t ht
    have w1' : A 9 s = nI 3 ∨ A 9 s = nI 4 := by rw [← s1]; exact w1
    have w2' : A 9 s = A 9 t := by rw [← s1, ← t1]; exact w2
    obtain ⟨l1, m1', hm1, l2, l3⟩ := s4 w1'
    obtain ⟨k1, m2', hm2, k2, k3⟩ := t4 (by rw [← w2']; exact w1')
    have p1' : sp3 (nI a) (nI c) (nI m1') := by
      have : sp3 (nI a) (nI c) (O (24 + 10 * s)) := p1
      rwa [l1, l2] at this
    have hac := sp3_le (by omega) (by omega) hm1 p1'
    have q : shW O P t O P' := ⟨fun _ _ => rfl, fun i hi => by rw [e1]; exact updA_ne _ _ hi, Or.inl rfl⟩
    have f : shF t A A' := ⟨fun r w h1 h2 _ => by rw [e3 r (by omega) (by omega)], fun j hj => by rw [e2]; exact cpO_out (by omega)⟩
    refine sh_LI H hC hM S ht q qm f ?_
    rw [e3 9 (by decide) (by decide), e3 10 (by decide) (by decide), e3 11 (by decide) (by decide), e3 12 (by decide) (by decide)]
    refine ⟨t1, t2, t3, fun _ => ⟨k1, m2', hm2, k2, fun z hz => ?_⟩⟩
    rw [e1, e2, updA_self, nI_clamp (by omega), nI_clamp (by omega), nI_clamp (by omega)]
    by_cases q : b ≤ z ∧ z < b + c
    · rw [show va_cpy (P (60 + 2 * s)) (P (60 + 2 * t)) a b c z = P (60 + 2 * s) (a + (z - b)) from if_pos q, l3 _ (by omega), show 60 * t + z = 60 * t + b + (z - b) by omega, cpO_in (by omega), show 60 * s + (a + (z - b)) = 60 * s + a + (z - b) by omega]
    · rw [show va_cpy (P (60 + 2 * s)) (P (60 + 2 * t)) a b c z = P (60 + 2 * t) z from if_neg q, k3 z hz, cpO_out (by omega)]
theorem wg_same {O : Nat → Int32} {P A : Nat → Nat → Int32} (H : shR O P A) : ∀ s, s < 8 → O (20 + 10 * s) = nI 1 → wgV (O (22 + 10 * s)) (O (21 + 10 * s)) (O (23 + 10 * s)) = wgV (A 10 s) (A 11 s) (A 12 s) := fun s hs e => by
  obtain ⟨h1, _, h3, _⟩ := H s hs
  obtain ⟨a1, a2, a3, a4, a5⟩ := h3 (h1.symm.trans e)
  rw [a1, a2, a3]
  by_cases k : A 10 s = nI 1
  · obtain ⟨v, hv, ev⟩ := a5 k
    rw [ev, cvI_nI (by omega)]
  · unfold wgV
    rw [if_neg k, if_neg k]
theorem ts_same {O : Nat → Int32} {P A : Nat → Nat → Int32} (H : shR O P A) : ∀ s, s < 8 → O (20 + 10 * s) = nI 1 → tsV (O (21 + 10 * s)) (Int32.ofInt (-1)) = if A 11 s < 0 then c8 (-15) else A 11 s := fun s hs e => by
  obtain ⟨h1, _, h3, _⟩ := H s hs
  obtain ⟨a1, a2, a3, a4, a5⟩ := h3 (h1.symm.trans e)
  unfold tsV
  rw [a2]
  rcases a4 with q | ⟨v, hv, q⟩
  · rw [q, cvI_m2, if_pos rfl, if_pos (by decide)]
  · rw [q, cvI_nI (by omega), if_neg (m1_n (by omega)), if_neg (nI_pos (by omega))]
