/-! both tables of NODES hold the same -/
def cvI (x : Int32) : Int32 := if x = m2 then m1 else x
def pvI (g : Nat → Int32) (x : Int32) : Int32 := if x = m1 then 0 else g x.toNatClampNeg
theorem pvI_m1 (g : Nat → Int32) : pvI g m1 = 0 := if_pos rfl
theorem pvI_nI (g : Nat → Int32) {a : Nat} (h : a < 120) : pvI g (nI a) = g a := by
  unfold pvI
  rw [if_neg (nI_m1' (by omega)), nI_clamp (by omega)]
theorem adI_m1 (b u n : Nat) (P : Nat → Nat → Int32) : adI b (nI u) P n m1 = P := by
  unfold adI
  rw [if_neg (fun q => absurd q.1 (by decide))]
theorem adI_nI {b u a : Nat} (ha : a < u) (hu : u < 120) (n : Nat) (P : Nat → Nat → Int32) : adI b (nI u) P n (nI a) = adA b P n a := by
  unfold adI
  rw [if_pos ⟨by rw [nI_toInt (by omega)]; omega, by rw [nI_toInt (by omega), nI_toInt (by omega)]; omega⟩, show nC (nI a) = a from nI_clamp (by omega)]
theorem adA_ne {b n x j i : Nat} {P : Nat → Nat → Int32} (h : j ≠ n) : adA b P n x i j = P i j := by
  unfold adA updA
  split
  · rename_i e; subst e; exact upd_ne _ _ h
  · split
    · rename_i e; subst e; exact upd_ne _ _ h
    · split
      · rename_i e; subst e; exact upd_ne _ _ h
      · split
        · rename_i e; subst e; exact upd_ne _ _ h
        · split
          · rename_i e; subst e; exact upd_ne _ _ h
          · split
            · rename_i e; subst e; exact upd_ne _ _ h
            · rfl
theorem adI_ne {b n j i : Nat} {u x : Int32} {P : Nat → Nat → Int32} (h : j ≠ n) : adI b u P n x i j = P i j := by
  unfold adI
  split
  · exact adA_ne h
  · rfl
theorem putV_ne {b n j i : Nat} {P : Nat → Nat → Int32} {k v x y ow ch le ca : Int32} (h : j ≠ n) : putV b P n k v x y ow ch le ca i j = P i j := by
  unfold putV updA
  split
  · rename_i e; subst e; exact upd_ne _ _ h
  · split
    · rename_i e; subst e; exact upd_ne _ _ h
    · split
      · rename_i e; subst e; exact upd_ne _ _ h
      · split
        · rename_i e; subst e; exact upd_ne _ _ h
        · split
          · rename_i e; subst e; exact upd_ne _ _ h
          · split
            · rename_i e; subst e; exact upd_ne _ _ h
            · split
              · rename_i e; subst e; exact upd_ne _ _ h
              · split
                · rename_i e; subst e; exact upd_ne _ _ h
                · split
                  · rename_i e; subst e; exact upd_ne _ _ h
                  · split
                    · rename_i e; subst e; exact upd_ne _ _ h
                    · rfl
theorem stC_ne {b u j i : Nat} {P : Nat → Nat → Int32} {k v x y sh : Int32} (h : j ≠ u) : stC b P u k v x y sh i j = P i j := by
  unfold stC updA
  split
  · rename_i e
    subst e
    rw [upd_ne _ _ h, adI_ne h, adI_ne h, putV_ne h]
  · rw [adI_ne h, adI_ne h, putV_ne h]
def leW (k v : Int32) : Int32 := if k = 0 then Int32.ofInt 1 <<< (v &&& 31) else Int32.ofInt 0
def caW (k v : Int32) : Int32 := if k = c8 9 then Int32.ofInt 1 <<< (v &&& 31) else Int32.ofInt 0
theorem adA_u {n x : Nat} {P : Nat → Nat → Int32} : adA 1 P n x 2 n = P 2 n ∧ adA 1 P n x 3 n = P 3 n ∧ adA 1 P n x 4 n = P 4 n ∧ adA 1 P n x 5 n = P 5 n ∧ adA 1 P n x 6 n = P 6 n + P 6 x ∧ adA 1 P n x 8 n = P 8 n + P 8 x ∧ adA 1 P n x 9 n = P 9 n + P 9 x ∧ adA 1 P n x 10 n = P 10 n ||| P 10 x ∧ adA 1 P n x 11 n = P 11 n ||| P 11 x :=
  ⟨rfl, rfl, rfl, rfl, upd_self _ _ _, upd_self _ _ _, upd_self _ _ _, upd_self _ _ _, upd_self _ _ _⟩
theorem adI_u {u : Nat} {x : Int32} {P : Nat → Nat → Int32} (hu : u < 120) (hx : okp u x) : adI 1 (nI u) P u x 2 u = P 2 u ∧ adI 1 (nI u) P u x 3 u = P 3 u ∧ adI 1 (nI u) P u x 4 u = P 4 u ∧ adI 1 (nI u) P u x 5 u = P 5 u ∧ adI 1 (nI u) P u x 6 u = P 6 u + pvI (P 6) x ∧ adI 1 (nI u) P u x 8 u = P 8 u + pvI (P 8) x ∧ adI 1 (nI u) P u x 9 u = P 9 u + pvI (P 9) x ∧ adI 1 (nI u) P u x 10 u = P 10 u ||| pvI (P 10) x ∧ adI 1 (nI u) P u x 11 u = P 11 u ||| pvI (P 11) x := by
  rcases hx with rfl | ⟨a, ha, rfl⟩
  · rw [adI_m1, pvI_m1 (P 6), pvI_m1 (P 8), pvI_m1 (P 9), pvI_m1 (P 10), pvI_m1 (P 11)]
    exact ⟨rfl, rfl, rfl, rfl, (Int32.add_zero _).symm, (Int32.add_zero _).symm, (Int32.add_zero _).symm, Int32.or_zero.symm, Int32.or_zero.symm⟩
  · rw [adI_nI ha hu]
    simp only [pvI_nI _ (show a < 120 by omega)]
    exact adA_u
theorem pvI_e {g g' : Nat → Int32} {u : Nat} {x : Int32} (hu : u < 120) (hx : okp u x) (e : ∀ j, j < u → g' j = g j) : pvI g' x = pvI g x := by
  rcases hx with rfl | ⟨a, ha, rfl⟩
  · rw [pvI_m1, pvI_m1]
  · rw [pvI_nI _ (by omega), pvI_nI _ (by omega), e a ha]
theorem stC_u {u : Nat} {P : Nat → Nat → Int32} {k v x y sh : Int32} (hu : u < 120) (hx : okp u x) (hy : okp u y) : stC 1 P u k v x y sh 2 u = k ∧ stC 1 P u k v x y sh 3 u = v ∧ stC 1 P u k v x y sh 4 u = x ∧ stC 1 P u k v x y sh 5 u = y ∧ stC 1 P u k v x y sh 6 u = Int32.ofInt 1 + pvI (P 6) x + pvI (P 6) y ∧ stC 1 P u k v x y sh 8 u = owW k v + pvI (P 8) x + pvI (P 8) y ∧ stC 1 P u k v x y sh 9 u = hbW (Int16.ofInt 764).toInt32 k + pvI (P 9) x + pvI (P 9) y ∧ stC 1 P u k v x y sh 10 u = leW k v ||| pvI (P 10) x ||| pvI (P 10) y ∧ stC 1 P u k v x y sh 11 u = caW k v ||| pvI (P 11) x ||| pvI (P 11) y := by
  have e : ∀ i, i ≠ 12 → stC 1 P u k v x y sh i = adI 1 (nI u) (adI 1 (nI u) (putV 1 P u k v x y (owW k v) (hbW (Int16.ofInt 764).toInt32 k) (leW k v) (caW k v)) u x) u y i := fun i hi => updA_ne _ _ hi
  rw [e 2 (by decide), e 3 (by decide), e 4 (by decide), e 5 (by decide), e 6 (by decide), e 8 (by decide), e 9 (by decide), e 10 (by decide), e 11 (by decide)]
  obtain ⟨a1, a2, a3, a4, a5, a6, a7, a8, a9⟩ := adI_u (P := putV 1 P u k v x y (owW k v) (hbW (Int16.ofInt 764).toInt32 k) (leW k v) (caW k v)) hu hx
  obtain ⟨b1, b2, b3, b4, b5, b6, b7, b8, b9⟩ := adI_u (P := adI 1 (nI u) (putV 1 P u k v x y (owW k v) (hbW (Int16.ofInt 764).toInt32 k) (leW k v) (caW k v)) u x) hu hy
  have pe : ∀ i, ∀ z, okp u z → pvI (putV 1 P u k v x y (owW k v) (hbW (Int16.ofInt 764).toInt32 k) (leW k v) (caW k v) i) z = pvI (P i) z := fun i z hz => pvI_e hu hz (fun j hj => putV_ne (by omega))
  have qe : ∀ i, ∀ z, okp u z → pvI (adI 1 (nI u) (putV 1 P u k v x y (owW k v) (hbW (Int16.ofInt 764).toInt32 k) (leW k v) (caW k v)) u x i) z = pvI (P i) z := fun i z hz => pvI_e hu hz (fun j hj => by rw [adI_ne (by omega), putV_ne (by omega)])
  rw [b1, b2, b3, b4, b5, b6, b7, b8, b9, a1, a2, a3, a4, a5, a6, a7, a8, a9, pe 6 x hx, pe 8 x hx, pe 9 x hx, pe 10 x hx, pe 11 x hx, qe 6 y hy, qe 8 y hy, qe 9 y hy, qe 10 y hy, qe 11 y hy]
  refine ⟨upd_self _ _ _, upd_self _ _ _, upd_self _ _ _, upd_self _ _ _, ?_, ?_, ?_, ?_, ?_⟩
  · rw [show putV 1 P u k v x y (owW k v) (hbW (Int16.ofInt 764).toInt32 k) (leW k v) (caW k v) 6 u = Int32.ofInt 1 from upd_self _ _ _]
  · rw [show putV 1 P u k v x y (owW k v) (hbW (Int16.ofInt 764).toInt32 k) (leW k v) (caW k v) 8 u = owW k v from upd_self _ _ _]
  · rw [show putV 1 P u k v x y (owW k v) (hbW (Int16.ofInt 764).toInt32 k) (leW k v) (caW k v) 9 u = hbW (Int16.ofInt 764).toInt32 k from upd_self _ _ _]
  · rw [show putV 1 P u k v x y (owW k v) (hbW (Int16.ofInt 764).toInt32 k) (leW k v) (caW k v) 10 u = leW k v from upd_self _ _ _]
  · rw [show putV 1 P u k v x y (owW k v) (hbW (Int16.ofInt 764).toInt32 k) (leW k v) (caW k v) 11 u = caW k v from upd_self _ _ _]
/-- what the class keeps beside a NODE -/
def cN (P : Nat → Nat → Int32) (n : Nat) : Prop := P 8 n = owW (P 2 n) (P 3 n) + pvI (P 8) (P 4 n) + pvI (P 8) (P 5 n) ∧ P 9 n = hbW (Int16.ofInt 764).toInt32 (P 2 n) + pvI (P 9) (P 4 n) + pvI (P 9) (P 5 n) ∧ P 10 n = leW (P 2 n) (P 3 n) ||| pvI (P 10) (P 4 n) ||| pvI (P 10) (P 5 n) ∧ P 11 n = caW (P 2 n) (P 3 n) ||| pvI (P 11) (P 4 n) ||| pvI (P 11) (P 5 n)
def NR (u : Nat) (P A : Nat → Nat → Int32) : Prop := ∀ n, n < u → P 2 n = A 0 n ∧ P 3 n = cvI (A 1 n) ∧ P 4 n = cvI (A 2 n) ∧ P 5 n = cvI (A 3 n) ∧ P 6 n = A 4 n ∧ okp n (P 4 n) ∧ okp n (P 5 n) ∧ cN P n
theorem cvI_m2 : cvI m2 = m1 := if_pos rfl
theorem cvI_nI {n : Nat} (h : n < 2 ^ 31) : cvI (nI n) = nI n := if_neg (fun e => by
  have := congrArg Int32.toInt e
  rw [nI_toInt h] at this
  have e2 : m2.toInt = -2 := by decide
  omega)
theorem NR_le {u u' : Nat} {P A : Nat → Nat → Int32} (h : NR u P A) (hu : u' ≤ u) : NR u' P A := fun n hn => h n (by omega)
theorem cN_fr {P P' : Nat → Nat → Int32} {n : Nat} (hn : n < 120) (h : cN P n) (h4 : okp n (P 4 n)) (h5 : okp n (P 5 n)) (e : ∀ i, 2 ≤ i → i ≤ 11 → i ≠ 7 → ∀ j, j ≤ n → P' i j = P i j) : cN P' n := by
  unfold cN at h ⊢
  have p : ∀ i, 2 ≤ i → i ≤ 11 → i ≠ 7 → ∀ z, okp n z → pvI (P' i) z = pvI (P i) z := fun i i1 i2 i3 z hz => pvI_e hn hz (fun j hj => e i i1 i2 i3 j (by omega))
  rw [e 2 (by decide) (by decide) (by decide) n (Nat.le_refl _), e 3 (by decide) (by decide) (by decide) n (Nat.le_refl _), e 4 (by decide) (by decide) (by decide) n (Nat.le_refl _), e 5 (by decide) (by decide) (by decide) n (Nat.le_refl _), e 8 (by decide) (by decide) (by decide) n (Nat.le_refl _), e 9 (by decide) (by decide) (by decide) n (Nat.le_refl _), e 10 (by decide) (by decide) (by decide) n (Nat.le_refl _), e 11 (by decide) (by decide) (by decide) n (Nat.le_refl _), p 8 (by decide) (by decide) (by decide) _ h4, p 8 (by decide) (by decide) (by decide) _ h5, p 9 (by decide) (by decide) (by decide) _ h4, p 9 (by decide) (by decide) (by decide) _ h5, p 10 (by decide) (by decide) (by decide) _ h4, p 10 (by decide) (by decide) (by decide) _ h5, p 11 (by decide) (by decide) (by decide) _ h4, p 11 (by decide) (by decide) (by decide) _ h5]
  exact h
theorem NR_fr {u : Nat} {P P' A A' : Nat → Nat → Int32} (hu : u ≤ 120) (h : NR u P A) (e : ∀ i, 2 ≤ i → i ≤ 11 → i ≠ 7 → ∀ j, j < u → P' i j = P i j) (e' : ∀ r, r < 5 → ∀ j, j < u → A' r j = A r j) : NR u P' A' := fun n hn => by
  obtain ⟨h1, h2, h3, h4, h5, h6, h7, h8⟩ := h n hn
  rw [e 2 (by decide) (by decide) (by decide) n hn, e 3 (by decide) (by decide) (by decide) n hn, e 4 (by decide) (by decide) (by decide) n hn, e 5 (by decide) (by decide) (by decide) n hn, e 6 (by decide) (by decide) (by decide) n hn, e' 0 (by decide) n hn, e' 1 (by decide) n hn, e' 2 (by decide) n hn, e' 3 (by decide) n hn, e' 4 (by decide) n hn]
  exact ⟨h1, h2, h3, h4, h5, h6, h7, cN_fr (by omega) h8 h6 h7 (fun i i1 i2 i3 j hj => e i i1 i2 i3 j (by omega))⟩
/-- a NODE comes to both -/
theorem NR_st {u : Nat} {P A : Nat → Nat → Int32} (hu : u < 120) (h : NR u P A) {k v x y sh : Int32} (hx : x = m2 ∨ ∃ a, a < u ∧ x = nI a) (hy : y = m2 ∨ ∃ a, a < u ∧ y = nI a) : NR (u + 1) (stC 1 P u k (cvI v) (cvI x) (cvI y) sh) (setsA A u k v x y) := by
  have ok : ∀ z, (z = m2 ∨ ∃ a, a < u ∧ z = nI a) → okp u (cvI z) ∧ pvI (P 6) (cvI z) = rdv (A 4) z := by
    rintro z (rfl | ⟨a, ha, rfl⟩)
    · exact ⟨Or.inl cvI_m2, by rw [cvI_m2, pvI_m1, rdv_m2]; rfl⟩
    · rw [cvI_nI (by omega), pvI_nI _ (by omega), rdv_nI (by omega)]
      exact ⟨Or.inr ⟨a, ha, rfl⟩, (h a ha).2.2.2.2.1⟩
  obtain ⟨ox, sx⟩ := ok x hx
  obtain ⟨oy, sy⟩ := ok y hy
  intro n hn
  by_cases e : n = u
  · subst e
    obtain ⟨a1, a2, a3, a4, a5, a6, a7, a8, a9⟩ := stC_u (P := P) (k := k) (v := cvI v) (sh := sh) hu ox oy
    have pe : ∀ i z, okp n z → pvI (stC 1 P n k (cvI v) (cvI x) (cvI y) sh i) z = pvI (P i) z := fun i z hz => pvI_e hu hz (fun j hj => stC_ne (by omega))
    refine ⟨a1.trans (upd_self _ _ _).symm, a2.trans (by rw [show setsA A n k v x y 1 n = v from upd_self _ _ _]), a3.trans (by rw [show setsA A n k v x y 2 n = x from upd_self _ _ _]), a4.trans (by rw [show setsA A n k v x y 3 n = y from upd_self _ _ _]), ?_, by rw [a3]; exact ox, by rw [a4]; exact oy, ?_⟩
    · rw [a5, sx, sy]
      exact (upd_self _ _ _).symm
    · unfold cN
      rw [a1, a2, a3, a4, a6, a7, a8, a9, pe 8 _ ox, pe 8 _ oy, pe 9 _ ox, pe 9 _ oy, pe 10 _ ox, pe 10 _ oy, pe 11 _ ox, pe 11 _ oy]
      exact ⟨rfl, rfl, rfl, rfl⟩
  · exact NR_fr (P' := stC 1 P u k (cvI v) (cvI x) (cvI y) sh) (A' := setsA A u k v x y) (by omega) h (fun i _ _ _ j hj => stC_ne (by omega)) (fun r _ j hj => setsA_o (by omega)) n (by omega)
/-- the same row on the reference's table -/
def tkM (t : Nat × Nat) (s : (Nat → Nat → Int32) × Nat × List Nat) : (Nat → Nat → Int32) × Nat × List Nat :=
  if t.1 < 2 then (setsA s.1 s.2.1 (nI t.1) (nI t.2) m2 m2, s.2.1 + 1, s.2.1 :: s.2.2)
  else if t.1 ≤ 6 then (setsA s.1 s.2.1 (nI t.1) m2 (nI (s.2.2.getD 1 0)) (nI (s.2.2.getD 0 0)), s.2.1 + 1, s.2.1 :: s.2.2.drop 2)
  else (setsA s.1 s.2.1 (nI t.1) (if t.1 = 9 then nI t.2 else m2) (nI (s.2.2.getD 0 0)) m2, s.2.1 + 1, s.2.1 :: s.2.2.drop 1)
def lyM : List (Nat × Nat) → (Nat → Nat → Int32) × Nat × List Nat → (Nat → Nat → Int32) × Nat × List Nat
  | [], s => s
  | t :: T, s => lyM T (tkM t s)
theorem lyM_app : ∀ (X Y : List (Nat × Nat)) (s : (Nat → Nat → Int32) × Nat × List Nat), lyM (X ++ Y) s = lyM Y (lyM X s)
  | [], _, _ => rfl
  | t :: X, Y, s => lyM_app X Y (tkM t s)
theorem lyC_split {b : Nat} : ∀ (X Y : List (Nat × Nat)) (s s' : (Nat → Nat → Int32) × Nat × List Nat), lyC b (X ++ Y) s s' → ∃ m, lyC b X s m ∧ lyC b Y m s'
  | [], Y, s, s', h => ⟨s, rfl, h⟩
  | t :: X, Y, s, s', ⟨sh, h⟩ => by
    obtain ⟨m, h1, h2⟩ := lyC_split X Y _ s' h
    exact ⟨m, ⟨sh, h1⟩, h2⟩
theorem tkM_0 {k v u : Nat} {A : Nat → Nat → Int32} {st : List Nat} (h : k < 2) : lyM [(k, v)] (A, u, st) = (setsA A u (nI k) (nI v) m2 m2, u + 1, u :: st) := by
  show tkM (k, v) (A, u, st) = _
  unfold tkM
  rw [if_pos h]
theorem tkM_1 {k v u x : Nat} {A : Nat → Nat → Int32} {st : List Nat} (h : 7 ≤ k) : lyM [(k, v)] (A, u, x :: st) = (setsA A u (nI k) (if k = 9 then nI v else m2) (nI x) m2, u + 1, u :: st) := by
  show tkM (k, v) (A, u, x :: st) = _
  unfold tkM
  rw [if_neg (by show ¬ k < 2; omega), if_neg (by show ¬ k ≤ 6; omega)]
  rfl
theorem tkM_2 {k v u x y : Nat} {A : Nat → Nat → Int32} {st : List Nat} (h : 2 ≤ k) (h6 : k ≤ 6) : lyM [(k, v)] (A, u, y :: x :: st) = (setsA A u (nI k) m2 (nI x) (nI y), u + 1, u :: st) := by
  show tkM (k, v) (A, u, y :: x :: st) = _
  unfold tkM
  rw [if_neg (by show ¬ k < 2; omega), if_pos (by show k ≤ 6; omega)]
  rfl
theorem tkC_0 {b k v u : Nat} {P : Nat → Nat → Int32} {st : List Nat} {s' : (Nat → Nat → Int32) × Nat × List Nat} (h : k < 2) (g : lyC b [(k, v)] (P, u, st) s') : ∃ sh, s' = (stC b P u (nI k) (nI v) m1 m1 sh, u + 1, u :: st) := by
  obtain ⟨sh, g⟩ := g
  refine ⟨sh, ?_⟩
  rw [← show tkC b (k, v) (P, u, st) sh = s' from g]
  unfold tkC
  rw [if_pos h]
theorem tkC_1 {b k v u x : Nat} {P : Nat → Nat → Int32} {st : List Nat} {s' : (Nat → Nat → Int32) × Nat × List Nat} (h : 7 ≤ k) (g : lyC b [(k, v)] (P, u, x :: st) s') : ∃ sh, s' = (stC b P u (nI k) (if k = 9 then nI v else m1) (nI x) m1 sh, u + 1, u :: st) := by
  obtain ⟨sh, g⟩ := g
  refine ⟨sh, ?_⟩
  rw [← show tkC b (k, v) (P, u, x :: st) sh = s' from g]
  unfold tkC
  rw [if_neg (by show ¬ k < 2; omega), if_neg (by show ¬ k ≤ 6; omega)]
  rfl
theorem tkC_2 {b k v u x y : Nat} {P : Nat → Nat → Int32} {st : List Nat} {s' : (Nat → Nat → Int32) × Nat × List Nat} (h : 2 ≤ k) (h6 : k ≤ 6) (g : lyC b [(k, v)] (P, u, y :: x :: st) s') : ∃ sh, s' = (stC b P u (nI k) m1 (nI x) (nI y) sh, u + 1, u :: st) := by
  obtain ⟨sh, g⟩ := g
  refine ⟨sh, ?_⟩
  rw [← show tkC b (k, v) (P, u, y :: x :: st) sh = s' from g]
  unfold tkC
  rw [if_neg (by show ¬ k < 2; omega), if_pos (by show k ≤ 6; omega)]
  rfl
theorem isNum_E {E : Nat → Nat} {G : Nat → Int32} {L : Nat → Nat → Nat} {k a b q : Nat} (hk : k < 10) (h : q < wi E G L k a b) (v : Nat) (hv : (k = 0 ∧ v = E a) ∨ (k = 1 ∧ v = nvN E (b - a) a 0) ∨ (7 ≤ k ∧ v = E a)) : v < 10000 := by
  have w := wi_pos h
  rcases hv with ⟨e, rfl⟩ | ⟨e, rfl⟩ | ⟨e, rfl⟩
  · have := w.2.1 e
    omega
  · exact nv_sm (w.2.2.1 e).1
  · rcases (show k = 7 ∨ k = 8 ∨ k = 9 by omega) with e | e | e
    · have := w.2.2.2.1 e
      omega
    · have := w.2.2.2.2.1 e
      omega
    · have := w.2.2.2.2.2 e
      omega
/-- a READING written on both sides leaves them the same -/
theorem NR_ly {E : Nat → Nat} {G : Nat → Int32} {lt : Nat → Nat → Bool} {L : Nat → Nat → Nat} : ∀ (f i j p : Nat) (T : List (Nat × Nat)), RT E (mG E G lt L) L f i j p T → ∀ (u : Nat) (P A : Nat → Nat → Int32) (st : List Nat) (s' : (Nat → Nat → Int32) × Nat × List Nat), NR u P A → u + T.length ≤ 120 → lyC 1 T (P, u, st) s' → NR (u + T.length) s'.1 (lyM T (A, u, st)).1 ∧ s'.2 = (u + T.length, (u + T.length - 1) :: st) ∧ (lyM T (A, u, st)).2 = (u + T.length, (u + T.length - 1) :: st) ∧ 1 ≤ T.length
  | 0, _, _, _, _, h => h.elim
  | f + 1, i, j, p, T, ⟨c, q, h1, h2, h3, h4⟩ => by
    intro u P A st s' hN hu hl
    obtain ⟨w1, w2, w3⟩ := mG_pos h3
    have hc : c / 2 < 10 := by omega
    rcases h4 with ⟨a1, a2⟩ | ⟨a1, X, a2, a3⟩ | ⟨a1, a2, d, r, X, Y, b1, b2, b3, b4, b5, b6, b7⟩
    · have hv : (if c / 2 = 0 then E (i + c % 2) else nvN E (j - c % 2 - (i + c % 2)) (i + c % 2) 0) < 10000 := by
        refine isNum_E hc w1 _ ?_
        rcases (show c / 2 = 0 ∨ c / 2 = 1 by omega) with e | e
        · exact Or.inl ⟨e, by rw [if_pos e]⟩
        · exact Or.inr (Or.inl ⟨e, by rw [if_neg (by omega)]⟩)
      rw [a2] at hl hu ⊢
      obtain ⟨sh, rfl⟩ := tkC_0 a1 hl
      rw [tkM_0 a1]
      refine ⟨?_, rfl, rfl, Nat.le_refl _⟩
      have := NR_st (k := nI (c / 2)) (v := nI (if c / 2 = 0 then E (i + c % 2) else nvN E (j - c % 2 - (i + c % 2)) (i + c % 2) 0)) (sh := sh) (by have h9 : u + 1 ≤ 120 := hu; omega) hN (Or.inl rfl) (Or.inl rfl)
      rw [cvI_m2, cvI_nI (by omega)] at this
      exact this
    · have hv : E (i + c % 2) < 10000 := isNum_E hc w1 _ (Or.inr (Or.inr ⟨a1, rfl⟩))
      have hlen : T.length = X.length + 1 := by rw [a2, List.length_append]; rfl
      rw [a2] at hl
      obtain ⟨m, l1, l2⟩ := lyC_split X _ _ _ hl
      obtain ⟨n1, n2, n3, n4⟩ := NR_ly f _ _ _ X a3 u P A st m hN (by omega) l1
      obtain ⟨P1, m2'⟩ := m
      rw [show m2' = (u + X.length, (u + X.length - 1) :: st) from n2] at l2
      obtain ⟨sh, rfl⟩ := tkC_1 a1 l2
      have eM : lyM X (A, u, st) = ((lyM X (A, u, st)).1, u + X.length, (u + X.length - 1) :: st) := Prod.ext rfl n3
      rw [a2, lyM_app, eM, tkM_1 a1, ← a2, hlen]
      refine ⟨?_, rfl, rfl, by omega⟩
      have := NR_st (k := nI (c / 2)) (v := if c / 2 = 9 then nI (E (i + c % 2)) else m2) (x := nI (u + X.length - 1)) (y := m2) (sh := sh) (by omega) n1 (Or.inr ⟨u + X.length - 1, by omega, rfl⟩) (Or.inl rfl)
      have ec : cvI (if c / 2 = 9 then nI (E (i + c % 2)) else m2) = if c / 2 = 9 then nI (E (i + c % 2)) else m1 := by
        split
        · exact cvI_nI (by omega)
        · exact cvI_m2
      rw [cvI_m2, cvI_nI (by omega), ec] at this
      exact this
    · have hlen : T.length = X.length + Y.length + 1 := by rw [b5, List.length_append, List.length_append]; rfl
      rw [b5] at hl
      obtain ⟨m, l1, l3⟩ := lyC_split (X ++ Y) _ _ _ hl
      obtain ⟨m0, l1, l2⟩ := lyC_split X Y _ _ l1
      obtain ⟨n1, n2, n3, n4⟩ := NR_ly f _ _ _ X b6 u P A st m0 hN (by omega) l1
      obtain ⟨P1, m2'⟩ := m0
      rw [show m2' = (u + X.length, (u + X.length - 1) :: st) from n2] at l2
      obtain ⟨k1, k2, k3, k4⟩ := NR_ly f _ _ _ Y b7 (u + X.length) P1 (lyM X (A, u, st)).1 ((u + X.length - 1) :: st) m n1 (by omega) l2
      obtain ⟨P2, m3'⟩ := m
      rw [show m3' = (u + X.length + Y.length, (u + X.length + Y.length - 1) :: (u + X.length - 1) :: st) from k2] at l3
      obtain ⟨sh, rfl⟩ := tkC_2 a1 a2 l3
      have eM : lyM X (A, u, st) = ((lyM X (A, u, st)).1, u + X.length, (u + X.length - 1) :: st) := Prod.ext rfl n3
      have eN : lyM Y (lyM X (A, u, st)) = ((lyM Y ((lyM X (A, u, st)).1, u + X.length, (u + X.length - 1) :: st)).1, u + X.length + Y.length, (u + X.length + Y.length - 1) :: (u + X.length - 1) :: st) := by
        rw [eM]
        exact Prod.ext rfl k3
      rw [b5, lyM_app, lyM_app, eN, tkM_2 a1 a2, ← b5, hlen, show u + (X.length + Y.length + 1) = u + X.length + Y.length + 1 by omega]
      refine ⟨?_, rfl, rfl, by omega⟩
      have := NR_st (k := nI (c / 2)) (v := m2) (x := nI (u + X.length - 1)) (y := nI (u + X.length + Y.length - 1)) (sh := sh) (by omega) k1 (Or.inr ⟨u + X.length - 1, by omega, rfl⟩) (Or.inr ⟨u + X.length + Y.length - 1, by omega, rfl⟩)
      rw [cvI_m2, cvI_nI (by omega), cvI_nI (by omega)] at this
      exact this
/-- READINGS hang on the counts of their spans alone -/
theorem pfS_cg {E : Nat → Nat} {L L' : Nat → Nat → Nat} {h k a b : Nat} (hb : b ≤ h) (e : ∀ a b, a < b → b ≤ h → L a b = L' a b) : ∀ c, a + 1 + c ≤ b - 1 → pfS E L k a b c = pfS E L' k a b c
  | 0, _ => rfl
  | c + 1, hc => by
    show pfS E L k a b c + _ = pfS E L' k a b c + _
    rw [pfS_cg hb e c (by omega), e a (a + 1 + c) (by omega) (by omega), e (a + 1 + c + 1) b (by omega) (by omega)]
theorem RT_cg {E : Nat → Nat} {G : Nat → Int32} {lt : Nat → Nat → Bool} {L L' : Nat → Nat → Nat} {h : Nat} (e : ∀ a b, a < b → b ≤ h → L a b = L' a b) : ∀ (f i j p : Nat) (T : List (Nat × Nat)), j ≤ h → RT E (mG E G lt L) L f i j p T → RT E (mG E G lt L') L' f i j p T
  | 0, _, _, _, _, _, h => h
  | f + 1, i, j, p, T, hj, ⟨c, q, h1, h2, h3, h4⟩ => by
    have em : ∀ d, mG E G lt L i j d = mG E G lt L' i j d := fun d => mG_cg (fun a b _ q2 q3 _ => e a b q2 (by omega))
    refine ⟨c, q, h1, ?_, by rw [← em]; exact h3, ?_⟩
    · rw [h2, sW_cg c (fun d _ => em d)]
    · rcases h4 with ⟨a1, a2⟩ | ⟨a1, X, a2, a3⟩ | ⟨a1, a2, d, r, X, Y, b1, b2, b3, b4, b5, b6, b7⟩
      · exact Or.inl ⟨a1, a2⟩
      · refine Or.inr (Or.inl ⟨a1, X, a2, RT_cg e f _ _ _ X ?_ a3⟩)
        unfold ptN
        split <;> omega
      · have e1 := e (i + c % 2) (i + c % 2 + 1 + d) (by omega) (by omega)
        have e2 := e (i + c % 2 + 1 + d + 1) (j - c % 2) (by omega) (by omega)
        refine Or.inr (Or.inr ⟨a1, a2, d, r, X, Y, b1, b2, ?_, by rw [← e1, ← e2]; exact b4, b5, ?_, ?_⟩)
        · rw [b3, pfS_cg (by omega) e d (by omega)]
        · rw [← e2]
          exact RT_cg e f _ _ _ X (by omega) b6
        · rw [← e2]
          exact RT_cg e f _ _ _ Y (by omega) b7
