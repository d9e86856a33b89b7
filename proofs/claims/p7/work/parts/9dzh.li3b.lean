theorem kl_60 {O : Nat → Int32} {P : Nat → Nat → Int32} {Y : Nat → Nat → Int64} {o : Nat → Int32} {A : Nat → Nat → Int32} {u h d d2 : Nat} (hC : cI u h d O P Y) (hM : mI u h d2 o A) (S : SS u h O P o A) : ∀ j, j < u → (klP P (O 1) 40 (nI j)).length ≤ 60 := fun j hj => by
  have sz := rN_sz (hM.2.2.1 j (Nat.zero_le _) hj)
  rw [hC.2.1, kl_same hC.1 hM.2.2.1 S.2.2.1 40 j hj sz.2.1, klA_len (by have := hC.1; omega) hM.2.2.1 40 j (Nat.zero_le _) hj sz.2.1]
  omega
theorem gl_same {O : Nat → Int32} {P : Nat → Nat → Int32} {Y : Nat → Nat → Int64} {o : Nat → Int32} {A : Nat → Nat → Int32} {u h d d2 s m : Nat} (H : LI3 O P Y o A) (hC : cI u h d O P Y) (hM : mI u h d2 o A) (S : SS u h O P o A) (hk : kpR P A) (b : O 13 = 1) (hs : s < 8) : (tlW (O 1) (P 75 s) (Int32.ofInt 0) P (m + 1) (P 56 d) (hbW (P 75 s) (P 2 (nC (P 56 d))))).length = glN A s (m + 1) (A 20 d2) := by
  obtain ⟨ed, w⟩ := wk_d hC hM H.2.1 b
  subst ed
  have b1 : o 30 = 1 := S.2.2.2.2.2.2.1.symm.trans b
  obtain ⟨t, ht, hr⟩ := hM.2.2.2.2.2.2.2.2.2.2.1 b1
  obtain ⟨j, hj, ej, _⟩ := hr.2 d (Nat.le_refl _)
  have hju : j < u := by omega
  have hu := hC.1
  have eP : P 56 d = nI j := (w.2.1 d (Nat.le_refl _)).trans ej
  obtain ⟨k, hk9, h0⟩ := rN_kd (hM.2.2.1 j (Nat.zero_le _) hju)
  have := tl_gl hu hM.2.2.1 S.2.2.1 (kp_hb hk hs) (m + 1) (nI j) (Or.inr ⟨j, rfl, hju⟩) (hbW (P 75 s) (P 2 j)) (by rw [kpI_n (by omega) hk9 h0, (S.2.2.1 j hju).1, h0]; exact kp_hb hk hs k hk9)
  rw [cvI_nI (by omega)] at this
  rw [eP, ej, hC.2.1, show nC (nI j) = j from nI_clamp (by omega)]
  exact this
theorem wh_same {b b' : Prop} {d d' : Nat} {here here' tol tol' x : Int32} {thr thr' : Bool} {R R' : Int32} (hb : b ↔ b') (hd : b → d = d' ∧ here = here' ∧ tol = tol') (g : whR b d here tol x thr R) (g' : whR b' d' here' tol' x thr' R') : thr = thr' ∧ (thr = false → R = R') := by
  rcases g with ⟨q, e, r⟩ | ⟨q, g⟩ <;> rcases g' with ⟨q', e', r'⟩ | ⟨q', g'⟩
  · exact ⟨by rw [e, e'], fun _ => by rw [r, r']⟩
  · exact absurd q' q
  · exact absurd q q'
  · rcases g with ⟨c, e, r⟩ | ⟨c, g⟩ <;> rcases g' with ⟨c', e', r'⟩ | ⟨c', g'⟩
    · exact ⟨by rw [e, e'], fun _ => by rw [r, r']⟩
    · exact absurd (hb.mpr c') c
    · exact absurd (hb.mp c) c'
    · obtain ⟨e1, e2, e3⟩ := hd c
      subst e1
      subst e2
      subst e3
      rcases g with ⟨ex, e, r⟩ | ⟨ex, e, r⟩ | ⟨ex, k, e⟩ | ⟨ex, k, e, r⟩ <;> rcases g' with ⟨ex', e', r'⟩ | ⟨ex', e', r'⟩ | ⟨ex', k', e'⟩ | ⟨ex', k', e', r'⟩
      all_goals first
        | exact absurd (ex.symm.trans ex') (by decide)
        | (exfalso; omega)
        | exact ⟨e.trans e'.symm, fun _ => r.trans r'.symm⟩
        | exact ⟨e.trans e'.symm, fun q => Bool.noConfusion (q.symm.trans e)⟩
theorem wh_LI {O : Nat → Int32} {P : Nat → Nat → Int32} {Y : Nat → Nat → Int64} {o : Nat → Int32} {A : Nat → Nat → Int32} {u h d d2 : Nat} {x R R' : Int32} {thr thr' : Bool} (H : LI3 O P Y o A) (hC : cI u h d O P Y) (hM : mI u h d2 o A) (S : SS u h O P o A) (g : whR (O 13 = 1) d (P 56 d) (anW (P 57) d (Int32.ofInt 0)) x thr R) (g' : whR (o 30 = 1) d2 (A 20 d2) (anA (A 21) d2 (Int32.ofInt 0)) x thr' R') : thr = thr' ∧ (thr = false → R = R') :=
  wh_same (by rw [S.2.2.2.2.2.2.1]) (fun b => by
    obtain ⟨ed, w⟩ := wk_d hC hM H.2.1 b
    subst ed
    exact ⟨rfl, w.2.1 d (Nat.le_refl _), an_same w d _ (Nat.le_refl _)⟩) g g'
theorem el_LI {O : Nat → Int32} {P : Nat → Nat → Int32} {o : Nat → Int32} {A : Nat → Nat → Int32} {x i : Int32} {t t' : Nat} {R R' : Int64} (H : shR O P A) (g : elR (fun s => O (20 + 10 * s)) (fun s => O (24 + 10 * s)) (fun s => P (60 + 2 * s)) x i t R) (g' : elR (A 9) (A 12) (fun s i => A 13 (60 * s + i)) x i t' R') : t = t' ∧ (t = 0 → R = R') :=
  elR_same (fun s hs => (H s hs).1) (fun s hs w => by
    obtain ⟨h1, _, _, h4⟩ := H s hs
    obtain ⟨k1, m, hm, k2, k3⟩ := h4 (by rw [← h1]; exact w)
    refine ⟨k1, fun q => k3 _ ?_⟩
    have q1 := Int32.le_iff_toInt_le.mp q.1
    have q3 := q.2.2
    rw [show O (24 + 10 * s) = nI m from k1.trans k2, Int32.le_iff_toInt_le, pred_toInt (by omega)] at q3
    rw [Int32.toInt_zero] at q1
    show i.toInt.toNat < m
    omega) g g'
