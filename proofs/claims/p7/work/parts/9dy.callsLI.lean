/-! the law's invariant after each call that changes both -/
theorem sets_lt (A : Nat → Nat → Int32) {u i : Nat} (k v x y : Int32) (r : Nat) (h : i < u) : setsA A u k v x y r i = A r i := by
  unfold setsA updA
  have e : i ≠ u := by omega
  by_cases h5 : r = 5
  · rw [if_pos h5, upd_ne _ _ e, h5]
  · rw [if_neg h5]
    by_cases h4 : r = 4
    · rw [if_pos h4, upd_ne _ _ e, h4]
    · rw [if_neg h4]
      by_cases h3 : r = 3
      · rw [if_pos h3, upd_ne _ _ e, h3]
      · rw [if_neg h3]
        by_cases h2 : r = 2
        · rw [if_pos h2, upd_ne _ _ e, h2]
        · rw [if_neg h2]
          by_cases h1 : r = 1
          · rw [if_pos h1, upd_ne _ _ e, h1]
          · rw [if_neg h1]
            by_cases h0 : r = 0
            · rw [if_pos h0, upd_ne _ _ e, h0]
            · rw [if_neg h0]
theorem page_LI {O : Nat → Int32} {P P' : Nat → Nat → Int32} {Y : Nat → Nat → Int64} {o : Nat → Int32} {A : Nat → Nat → Int32} {u h d d2 : Nat} (H : LI2 O P Y o A) (hC : cI u h d O P Y) (hM : mI u h d2 o A) (hu : u < 120) {k v x y : Int32} (qT : tbI 0 (u + 1) (setsA A u k v x y)) (s : SS (u + 1) h (upd O 1 (nI (u + 1))) P' (upd o 0 (nI (u + 1))) (setsA A u k v x y)) (e : ∀ i, ¬ (1 < i ∧ i ≤ 13) → P' i = P i) : LI2 (upd O 1 (nI (u + 1))) P' Y (upd o 0 (nI (u + 1))) (setsA A u k v x y) :=
  LI2_mk H hC (Nat.le_succ u) hu hC.2.2.2.1 s (mI_nd hM ⟨Nat.le_succ u, hu, qT, fun r hr => sets_ne6 _ _ _ _ _ _ hr, fun r i hi => sets_lt _ _ _ _ _ r hi⟩) ⟨rfl, e 75 (by omega)⟩ hC.2.2.2.2.2.1 rfl rfl (e 56 (by omega)) (fun j hj => upd_ne _ _ (by omega))
theorem leaf_LI {O : Nat → Int32} {P : Nat → Nat → Int32} {Y : Nat → Nat → Int64} {o : Nat → Int32} {A : Nat → Nat → Int32} {u h d d2 : Nat} (H : LI2 O P Y o A) (hC : cI u h d O P Y) (hM : mI u h d2 o A) (s : SS u h O P o A) {k v sh : Int32} (q : lfG k v ∧ u < 120) (qT : tbI 0 (u + 1) (setsA A u k v m2 m2)) : LI2 (upd O 1 (nI (u + 1))) (stC 1 P u k v m1 m1 sh) Y (upd o 0 (nI (u + 1))) (setsA A u k v m2 m2) :=
  page_LI H hC hM q.2 qT (leaf_ok q.2 s sh q.1) (fun _ w => stC_ne1 _ _ _ _ _ _ _ w)
theorem node_LI {O : Nat → Int32} {P : Nat → Nat → Int32} {Y : Nat → Nat → Int64} {o : Nat → Int32} {A : Nat → Nat → Int32} {u h d d2 : Nat} (H : LI2 O P Y o A) (hC : cI u h d O P Y) (hM : mI u h d2 o A) (s : SS u h O P o A) {k x y sh : Int32} (g : ndG u k x y) (hu : u < 120) (qT : tbI 0 (u + 1) (setsA A u k (ndv m2 k y) x (ndy m2 k y))) : LI2 (upd O 1 (nI (u + 1))) (stC 1 P u k (ndv m1 k y) x (ndy m1 k y) sh) Y (upd o 0 (nI (u + 1))) (setsA A u k (ndv m2 k y) x (ndy m2 k y)) :=
  page_LI H hC hM hu qT (node_ok hu s sh g) (fun _ w => stC_ne1 _ _ _ _ _ _ _ w)
theorem undo_LI {O : Nat → Int32} {P : Nat → Nat → Int32} {Y : Nat → Nat → Int64} {o : Nat → Int32} {A : Nat → Nat → Int32} {u h d d2 : Nat} (H : LI2 O P Y o A) (hC : cI u h d O P Y) (hM : mI u h d2 o A) (s : SS u h O P o A) (q : u ≠ 0 ∧ ¬ (O 13 = 1 ∧ P 56 0 = nI (u - 1))) (q' : u ≠ 0 ∧ ¬ (o 30 = 1 ∧ A 20 0 = nI (u - 1))) : LI2 (upd O 1 (nI (u - 1))) P Y (upd o 0 (nI (u - 1))) A :=
  ⟨LI_mk H.1 (cI_un hC (by have := q.1; omega) (fun a b => q.2 ⟨a, b⟩)) (mI_un hM (by have := q.1; omega) (fun a b => q'.2 ⟨a, b⟩)), u - 1, h, by have := hC.1; omega, hC.2.2.2.1, SS_lv s (by omega)⟩
theorem hush_LI {O : Nat → Int32} {P : Nat → Nat → Int32} {Y : Nat → Nat → Int64} {o : Nat → Int32} {A : Nat → Nat → Int32} {u h d d2 : Nat} (H : LI2 O P Y o A) (hC : cI u h d O P Y) (hM : mI u h d2 o A) (s : SS u h O P o A) : LI2 (upd O 9 (Int32.ofInt 0)) P Y (upd o 10 (Int32.ofInt 0)) A :=
  ⟨LI_mk H.1 (cI_hr (l' := 0) hC (by decide) (fun _ _ => rfl)) (mI_hu hM), u, 0, hC.1, by decide, (hush_ok hC.1 s).2⟩
theorem walk_LI {O : Nat → Int32} {P : Nat → Nat → Int32} {Y : Nat → Nat → Int64} {o : Nat → Int32} {A : Nat → Nat → Int32} {u h d d2 : Nat} (H : LI2 O P Y o A) (hC : cI u h d O P Y) (hM : mI u h d2 o A) (s : SS u h O P o A) {x : Int32} (q : isN u x) : LI2 (upd (upd O 13 (Int32.ofInt 1)) 14 (Int32.ofInt 0)) (updA P 56 (upd (P 56) 0 x)) Y (upd (upd o 30 (Int32.ofInt 1)) 33 (Int32.ofInt 0)) (updA A 20 (upd (A 20) 0 x)) := by
  obtain ⟨n, hn, e⟩ := isN_n hC.1 q
  subst e
  exact ⟨LI_mk H.1 (cI_wk hC hn) (mI_wk hM hn), u, h, hC.1, hC.2.2.2.1, walk_ok hC.1 s _⟩
theorem spV_W {O O' : Nat → Int32} {P P' : Nat → Nat → Int32} {l : Nat} (hl : l ≤ 20) (h9 : O' 9 = nI l) (q : spV O P O' P') : spW O P O' P' := ⟨⟨l, hl, h9⟩, q.1, q.2⟩
theorem listen_LI {O O' : Nat → Int32} {P P' : Nat → Nat → Int32} {Y : Nat → Nat → Int64} {o o' : Nat → Int32} {A A' : Nat → Nat → Int32} {u h d d2 : Nat} {x y R R' : Int32} (H : LI2 O P Y o A) (hC : cI u h d O P Y) (hM : mI u h d2 o A) (s : SS u h O P o A) (hk : kpR P A) (c : spV O P O' P') (m : eX o A o' A') (g : clR O P u x y O' P' R) (g' : mlR o A u x y o' A' R') : R = R' ∧ LI2 O' P' Y o' A' := by
  obtain ⟨e, h', hh', s'⟩ := listen_ok hC.1 hC.2.2.2.1 s hM.2.2.1 hk c m g g'
  exact ⟨e, LI_mk H.1 (cI_sp hC (spV_W hh' s'.2.2.2.1 c)) (mI_e hM m), u, h', hC.1, hh', s'⟩
theorem fewest_LI {O O' : Nat → Int32} {P P' : Nat → Nat → Int32} {Y : Nat → Nat → Int64} {o o' : Nat → Int32} {A A' : Nat → Nat → Int32} {u h d d2 : Nat} {x R R' : Int32} (H : LI2 O P Y o A) (hC : cI u h d O P Y) (hM : mI u h d2 o A) (s : SS u h O P o A) (hf : fnR O A) (c : spV O P O' P') (m : fwX o A o' A') (g : cfR O P u x O' P' R) (g' : fwR A u h x o' A' R' (o' = o ∧ A' = A)) : R = R' ∧ LI2 O' P' Y o' A' := by
  obtain ⟨e, h', hh', s'⟩ := fewest_ok hC.1 hC.2.2.2.1 s hM.2.2.1 hf c m g g'
  exact ⟨e, LI_mk H.1 (cI_sp hC (spV_W hh' s'.2.2.2.1 c)) (mI_f hM m), u, h', hC.1, hh', s'⟩
theorem wrC_P {O O' : Nat → Int32} {P P' : Nat → Nat → Int32} {Y : Nat → Nat → Int64} {E : Nat → Nat} {G : Nat → Int32} {lt : Nat → Nat → Nat → Bool} {u n : Nat} {x R : Int32} {z : Int64} (g : wrC O P Y E G lt u n x z O' P' R) : ∀ i, 26 < i → P' i = P i := fun i hi => by
  rcases g with ⟨_, _, _, e⟩ | ⟨_, _, _, _, _, _, ⟨_, _, _, e⟩ | ⟨_, _, _, _, _, ⟨_, _, _, e⟩ | ⟨_, _, _, e, _⟩⟩⟩
  · rw [e]
  · rw [e]
  · exact e i (by omega)
  · exact e i (by omega)
theorem write_LI {O O' : Nat → Int32} {P P' : Nat → Nat → Int32} {Y Y' : Nat → Nat → Int64} {o o' : Nat → Int32} {A A' : Nat → Nat → Int32} {u h d d2 : Nat} {x R R' : Int32} {z : Int64} (H : LI2 O P Y o A) (hC : cI u h d O P Y) (hM : mI u h d2 o A) (s : SS u h O P o A) (hY : wyI Y → wyI Y') (c : ∀ j, j ≠ 1 → j ≠ 2 → j ≠ 10 → j ≠ 11 → j ≠ 12 → O' j = O j) (m : ndY o u A o' A') (g : wrC O P Y (eW A) (A 6) (ltW A) u h x z O' P' R) (g' : wrM o A u h x z o' A' R') : R = R' ∧ LI2 O' P' Y' o' A' := by
  obtain ⟨e, u', hu', s'⟩ := write_ok hC.1 hC.2.2.2.1 s c m g g'
  have f := fun (j : Nat) (w : 13 ≤ j ∨ j = 0) => c j (by omega) (by omega) (by omega) (by omega) (by omega)
  obtain ⟨u2, w1, w2, w3, w4⟩ := id m.1
  have e2 : u2 = u' := (nI_eq (by omega) (by omega)).mp (w3.symm.trans s'.2.1)
  subst e2
  exact ⟨e, LI2_mk H hC w1 w2 hC.2.2.2.1 s' (mI_y hM m) ⟨f 0 (Or.inr rfl), wrC_P g 75 (by decide)⟩ (hY hC.2.2.2.2.2.1) (f 13 (by omega)) (f 14 (by omega)) (wrC_P g 56 (by decide)) (fun j hj => f j (by omega))⟩
theorem heL_nn (y : Int32) : ∀ (k : Nat) (g : Nat → Int32) (l : Nat), nnW l g → nnW (l + k) (heL y k g l)
  | 0, _, _, h => h
  | k + 1, g, l, h => by
    have := heL_nn y k (upd g l (dgV y k)) (l + 1) (fun i hi => by
      by_cases e : i = l
      · subst e
        rw [upd_self]
        exact (dgV_31 y k).2
      · rw [upd_ne _ _ e]
        exact h i (by omega))
    rw [show l + 1 + k = l + (k + 1) by omega] at this
    exact this
theorem hear_LI {O : Nat → Int32} {P : Nat → Nat → Int32} {Y : Nat → Nat → Int64} {o : Nat → Int32} {A : Nat → Nat → Int32} {u h d d2 n : Nat} (H : LI2 O P Y o A) (hC : cI u h d O P Y) (hM : mI u h d2 o A) (s : SS u h O P o A) (y : Int32) (hn : h + n ≤ 20) : LI2 (upd O 9 (nI (h + n))) (updA P 32 (heL y n (P 32) h)) Y (upd o 10 (nI (h + n))) (updA A 8 (heL y n (A 8) h)) :=
  ⟨LI_mk H.1 (cI_hr hC hn (fun i hi => updA_ne _ _ hi)) (mI_hr hM hn (heL_nn y n _ h hM.2.2.2.2.2.2.1)), u, h + n, hC.1, hn, hear_st hC.1 s y⟩
