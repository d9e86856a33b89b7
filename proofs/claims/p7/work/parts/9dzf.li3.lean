/-- the walk of both sides, where one has begun -/
def wk3 (O : Nat → Int32) (P : Nat → Nat → Int32) (o : Nat → Int32) (A : Nat → Nat → Int32) : Prop := O 13 = 1 → ∃ d, d < 40 ∧ O 14 = nI d ∧ o 33 = nI d ∧ wkR A (d, P 56, P 57) (d, A 20, A 21)
/-- the shelves of both sides -/
def shR (O : Nat → Int32) (P : Nat → Nat → Int32) (A : Nat → Nat → Int32) : Prop := ∀ s, s < 8 → O (20 + 10 * s) = A 9 s ∧ (A 9 s = nI 0 ∨ A 9 s = nI 1 ∨ A 9 s = nI 3 ∨ A 9 s = nI 4) ∧ (A 9 s = nI 1 → O (22 + 10 * s) = A 10 s ∧ O (21 + 10 * s) = cvI (A 11 s) ∧ O (23 + 10 * s) = A 12 s ∧ (A 11 s = m2 ∨ ∃ v, v ≤ 9999 ∧ A 11 s = nI v) ∧ (A 10 s = nI 1 → ∃ v, v ≤ 9999 ∧ A 11 s = nI v)) ∧ ((A 9 s = nI 3 ∨ A 9 s = nI 4) → O (24 + 10 * s) = A 12 s ∧ ∃ m, m ≤ 60 ∧ A 12 s = nI m ∧ ∀ i, i < m → P (60 + 2 * s) i = A 13 (60 * s + i))
def X3 (O : Nat → Int32) (P : Nat → Nat → Int32) (o : Nat → Int32) (A : Nat → Nat → Int32) : Prop := wk3 O P o A ∧ shR O P A
/-- what most calls leave of the walk and of the shelves -/
def sC (O : Nat → Int32) (P : Nat → Nat → Int32) (O' : Nat → Int32) (P' : Nat → Nat → Int32) : Prop := (∀ j, 13 ≤ j → O' j = O j) ∧ (∀ i, 56 ≤ i → i < 75 → P' i = P i)
def sM (u : Nat) (o : Nat → Int32) (A : Nat → Nat → Int32) (o' : Nat → Int32) (A' : Nat → Nat → Int32) : Prop := o' 33 = o 33 ∧ (∀ r, (9 ≤ r ∧ r ≤ 13) ∨ r = 20 ∨ r = 21 → A' r = A r) ∧ (∀ r i, r < 5 → i < u → A' r i = A r i)
theorem wkR_fr {A A' : Nat → Nat → Int32} {u t d : Nat} {N D N' D' : Nat → Int32} (hu : u ≤ 120) (ht : t < u) (hr : rtM A t d N') (e : ∀ r i, r < 5 → i < u → A' r i = A r i) (w : wkR A (d, N, D) (d, N', D')) : wkR A' (d, N, D) (d, N', D') := by
  refine ⟨rfl, w.2.1, fun j hj => ?_⟩
  have hj : j < d := hj
  obtain ⟨a, ha, ea, _⟩ := hr.2 j (by omega)
  have h := w.2.2 j hj
  show (D' (j + 1) = nI 0 ∧ D (j + 1) = nI 1 ∧ N' (j + 1) = A' 2 (nC (N' j))) ∨ (D' (j + 1) = nI 1 ∧ D (j + 1) = nI 2 ∧ N' (j + 1) = A' 3 (nC (N' j)))
  rw [ea, show nC (nI a) = a from nI_clamp (by omega), e 2 a (by decide) (by omega), e 3 a (by decide) (by omega)]
  have h : (D' (j + 1) = nI 0 ∧ D (j + 1) = nI 1 ∧ N' (j + 1) = A 2 (nC (N' j))) ∨ (D' (j + 1) = nI 1 ∧ D (j + 1) = nI 2 ∧ N' (j + 1) = A 3 (nC (N' j))) := h
  rw [ea, show nC (nI a) = a from nI_clamp (by omega)] at h
  exact h
/-- the walk's depth is one on both sides -/
theorem wk_d {O : Nat → Int32} {P : Nat → Nat → Int32} {Y : Nat → Nat → Int64} {o : Nat → Int32} {A : Nat → Nat → Int32} {u h d d2 : Nat} (hC : cI u h d O P Y) (hM : mI u h d2 o A) (w : wk3 O P o A) (b : O 13 = 1) : d = d2 ∧ wkR A (d, P 56, P 57) (d, A 20, A 21) := by
  obtain ⟨e, he, e1, e2, e3⟩ := w b
  have q1 : d = e := (nI_eq (by have := hC.2.2.2.2.2.2.1; omega) (by omega)).mp (hC.2.2.2.2.2.2.2.1.symm.trans e1)
  have q2 : d2 = e := (nI_eq (by have := hM.2.2.2.2.2.2.2.1; omega) (by omega)).mp (hM.2.2.2.2.2.2.2.2.1.symm.trans e2)
  subst q1
  exact ⟨q2.symm, e3⟩
theorem wk3_fr {O O' : Nat → Int32} {P P' : Nat → Nat → Int32} {Y : Nat → Nat → Int64} {o o' : Nat → Int32} {A A' : Nat → Nat → Int32} {u h d d2 : Nat} (hC : cI u h d O P Y) (hM : mI u h d2 o A) (s : SS u h O P o A) (w : wk3 O P o A) (c13 : O' 13 = O 13) (c14 : O' 14 = O 14) (c56 : P' 56 = P 56) (c57 : P' 57 = P 57) (m33 : o' 33 = o 33) (m20 : A' 20 = A 20) (m21 : A' 21 = A 21) (e : ∀ r i, r < 5 → i < u → A' r i = A r i) : wk3 O' P' o' A' := fun b => by
  have b0 : O 13 = 1 := c13.symm.trans b
  obtain ⟨ed, hw⟩ := wk_d hC hM w b0
  subst ed
  have b1 : o 30 = 1 := s.2.2.2.2.2.2.1.symm.trans b0
  obtain ⟨t, ht, hr⟩ := hM.2.2.2.2.2.2.2.2.2.2.1 b1
  refine ⟨d, hC.2.2.2.2.2.2.1, c14.trans hC.2.2.2.2.2.2.2.1, m33.trans hM.2.2.2.2.2.2.2.2.1, ?_⟩
  rw [c56, c57, m20, m21]
  exact wkR_fr hC.1 ht hr e hw
theorem shR_fr {O O' : Nat → Int32} {P P' A A' : Nat → Nat → Int32} (h : shR O P A) (c : ∀ j, 20 ≤ j → O' j = O j) (p : ∀ i, 60 ≤ i → i < 75 → P' i = P i) (m : ∀ r, 9 ≤ r → r ≤ 13 → A' r = A r) : shR O' P' A' := fun s hs => by
  rw [c _ (by omega), c _ (by omega), c _ (by omega), c _ (by omega), c _ (by omega), p _ (by omega) (by omega), m 9 (by decide) (by decide), m 10 (by decide) (by decide), m 11 (by decide) (by decide), m 12 (by decide) (by decide), m 13 (by decide) (by decide)]
  exact h s hs
theorem X3_fr {O O' : Nat → Int32} {P P' : Nat → Nat → Int32} {Y : Nat → Nat → Int64} {o o' : Nat → Int32} {A A' : Nat → Nat → Int32} {u h d d2 : Nat} (hX : X3 O P o A) (hC : cI u h d O P Y) (hM : mI u h d2 o A) (s : SS u h O P o A) (c : sC O P O' P') (m : sM u o A o' A') : X3 O' P' o' A' :=
  ⟨wk3_fr hC hM s hX.1 (c.1 13 (by decide)) (c.1 14 (by decide)) (c.2 56 (by decide) (by decide)) (c.2 57 (by decide) (by decide)) m.1 (m.2.1 20 (by decide)) (m.2.1 21 (by decide)) m.2.2, shR_fr hX.2 (fun j hj => c.1 j (by omega)) (fun i h1 h2 => c.2 i (by omega) h2) (fun r h1 h2 => m.2.1 r (Or.inl ⟨h1, h2⟩))⟩
theorem sC_id (O : Nat → Int32) (P : Nat → Nat → Int32) : sC O P O P := ⟨fun _ _ => rfl, fun _ _ _ => rfl⟩
theorem sC_sp {O O' : Nat → Int32} {P P' : Nat → Nat → Int32} (q : spT O P O' P') : sC O P O' P' := ⟨fun j hj => q.1 j (by omega), fun i h1 h2 => q.2 i (by omega) (by omega)⟩
theorem sC_spV {O O' : Nat → Int32} {P P' : Nat → Nat → Int32} (q : spV O P O' P') : sC O P O' P' := ⟨fun j hj => q.1 j (by omega), fun i h1 h2 => q.2 i (by omega) (by omega) (by omega)⟩
theorem sC_13 (O : Nat → Int32) (P : Nat → Nat → Int32) (R : Nat → Int32) : sC O P O (updA P 13 R) := ⟨fun _ _ => rfl, fun i h1 h2 => updA_ne _ _ (by omega)⟩
theorem sC_ty {O O' : Nat → Int32} {P : Nat → Nat → Int32} (q : ∀ j, j ≠ 10 → j ≠ 11 → j ≠ 12 → O' j = O j) : sC O P O' P := ⟨fun j hj => q j (by omega) (by omega) (by omega), fun _ _ _ => rfl⟩
theorem sC_Fr {O O' : Nat → Int32} {P P' : Nat → Nat → Int32} (q : cFr O P O' P') : sC O P O' P' := ⟨fun j hj => q.2 j (by omega) (by omega) (by omega), fun i _ _ => by rw [q.1]⟩
theorem sC_db {O O' : Nat → Int32} {P P' : Nat → Nat → Int32} {Y' : Nat → Nat → Int64} (q : dbC O P O' P' Y') : sC O P O' P' := ⟨fun j hj => q.2.1 j (by omega) (by omega) (by omega) (by omega), fun i h1 h2 => q.2.2 i (by omega)⟩
theorem sC_o (O : Nat → Int32) (P : Nat → Nat → Int32) {k : Nat} (hk : k < 13) (x : Int32) : sC O P (upd O k x) P := ⟨fun j hj => upd_ne _ _ (by omega), fun _ _ _ => rfl⟩
theorem sC_pg (O : Nat → Int32) (P : Nat → Nat → Int32) (u : Nat) (k v x y sh z : Int32) : sC O P (upd O 1 z) (stC 1 P u k v x y sh) := ⟨fun j hj => upd_ne _ _ (by omega), fun i h1 h2 => stC_ne1 P u k v x y sh (by omega)⟩
theorem sC_hr (O : Nat → Int32) (P : Nat → Nat → Int32) (z : Int32) (g : Nat → Int32) : sC O P (upd O 9 z) (updA P 32 g) := ⟨fun j hj => upd_ne _ _ (by omega), fun i h1 h2 => updA_ne _ _ (by omega)⟩
theorem sC_ks (O : Nat → Int32) (P : Nat → Nat → Int32) (g : Nat → Int32) : sC O P O (updA P 75 g) := ⟨fun _ _ => rfl, fun i h1 h2 => updA_ne _ _ (by omega)⟩
theorem sC_wr {O O' : Nat → Int32} {P P' : Nat → Nat → Int32} (c : ∀ j, j ≠ 1 → j ≠ 2 → j ≠ 10 → j ≠ 11 → j ≠ 12 → O' j = O j) (p : ∀ i, 26 < i → P' i = P i) : sC O P O' P' := ⟨fun j hj => c j (by omega) (by omega) (by omega) (by omega) (by omega), fun i h1 h2 => p i (by omega)⟩
theorem sM_id (u : Nat) (o : Nat → Int32) (A : Nat → Nat → Int32) : sM u o A o A := ⟨rfl, fun _ _ => rfl, fun _ _ _ _ => rfl⟩
theorem sM_q {o o' : Nat → Int32} {A A' : Nat → Nat → Int32} (u : Nat) (q : qX o A o' A') : sM u o A o' A' := ⟨q.1 33 (by decide), fun r hr => q.2 r (by omega) (by omega), fun r i hr _ => by rw [q.2 r (by omega) (by omega)]⟩
theorem sM_e {o o' : Nat → Int32} {A A' : Nat → Nat → Int32} (u : Nat) (q : eX o A o' A') : sM u o A o' A' := ⟨q.2.1 33 (by decide) (by decide), fun r hr => q.2.2 r (by omega) (by omega) (by omega), fun r i hr _ => by rw [q.2.2 r (by omega) (by omega) (by omega)]⟩
theorem sM_f {o o' : Nat → Int32} {A A' : Nat → Nat → Int32} (u : Nat) (q : fwX o A o' A') : sM u o A o' A' := ⟨q.2.1 33 (by decide) (by decide) (by decide), fun r hr => q.2.2 r (by omega) (by omega) (by omega), fun r i hr _ => by rw [q.2.2 r (by omega) (by omega) (by omega)]⟩
theorem sM_cl {o o' : Nat → Int32} {A A' : Nat → Nat → Int32} {u : Nat} (hu : u ≤ 120) (q : clX o A o' A') : sM u o A o' A' := ⟨q.1 33 (by decide), fun r hr => q.2.2 r (by omega) (by omega), fun r i hr hi => q.2.1 r i (by omega) (by omega)⟩
theorem sM_o {o o' : Nat → Int32} (A : Nat → Nat → Int32) (u : Nat) (q : ∀ j, j ≠ 16 → j ≠ 28 → o' j = o j) : sM u o A o' A := ⟨q 33 (by decide) (by decide), fun _ _ => rfl, fun _ _ _ _ => rfl⟩
theorem sM_k {o : Nat → Int32} (A : Nat → Nat → Int32) (u : Nat) {k : Nat} (hk : k ≠ 33) (x : Int32) : sM u o A (upd o k x) A := ⟨upd_ne _ _ (fun e => hk e.symm), fun _ _ => rfl, fun _ _ _ _ => rfl⟩
theorem sM_db {o o' : Nat → Int32} {A A' : Nat → Nat → Int32} {u : Nat} (q : dbM o u A o' A') : sM u o A o' A' := ⟨q.2.1 33 (by decide) (by decide) (by decide), fun r hr => q.2.2.1 r (by omega), fun r i _ hi => q.2.2.2 r i hi⟩
theorem sM_wr {o o' : Nat → Int32} {A A' : Nat → Nat → Int32} {u : Nat} (q : ndY o u A o' A') : sM u o A o' A' := ⟨q.2.1 33 (by decide) (by decide) (by decide), fun r hr => q.2.2.1 r (by omega), fun r i _ hi => q.2.2.2 r i hi⟩
theorem sM_pg (o : Nat → Int32) (A : Nat → Nat → Int32) (u : Nat) (k v x y z : Int32) : sM u o A (upd o 0 z) (setsA A u k v x y) := ⟨upd_ne _ _ (by decide), fun r hr => sets_ne6 A u k v x y (by omega), fun r i _ hi => sets_lt A k v x y r hi⟩
theorem sM_hr (o : Nat → Int32) (A : Nat → Nat → Int32) (u : Nat) (z : Int32) (g : Nat → Int32) : sM u o A (upd o 10 z) (updA A 8 g) := ⟨upd_ne _ _ (by decide), fun r hr => updA_ne _ _ (by omega), fun r i hr _ => by rw [updA_ne _ _ (by omega)]⟩
theorem sM_67 (o : Nat → Int32) (A : Nat → Nat → Int32) (u : Nat) {k : Nat} (hk : k = 6 ∨ k = 7) (g : Nat → Int32) : sM u o A o (updA A k g) := ⟨rfl, fun r hr => updA_ne _ _ (by omega), fun r i hr _ => by rw [updA_ne _ _ (by omega)]⟩
theorem X3_0 : X3 O00 P00 o00 A00 := ⟨fun e => absurd e (by decide), fun s hs => by
  match s, hs with
  | 0, _ => exact ⟨rfl, Or.inl rfl, fun e => absurd e (by decide), fun e => absurd e (by decide)⟩
  | 1, _ => exact ⟨rfl, Or.inl rfl, fun e => absurd e (by decide), fun e => absurd e (by decide)⟩
  | 2, _ => exact ⟨rfl, Or.inl rfl, fun e => absurd e (by decide), fun e => absurd e (by decide)⟩
  | 3, _ => exact ⟨rfl, Or.inl rfl, fun e => absurd e (by decide), fun e => absurd e (by decide)⟩
  | 4, _ => exact ⟨rfl, Or.inl rfl, fun e => absurd e (by decide), fun e => absurd e (by decide)⟩
  | 5, _ => exact ⟨rfl, Or.inl rfl, fun e => absurd e (by decide), fun e => absurd e (by decide)⟩
  | 6, _ => exact ⟨rfl, Or.inl rfl, fun e => absurd e (by decide), fun e => absurd e (by decide)⟩
  | 7, _ => exact ⟨rfl, Or.inl rfl, fun e => absurd e (by decide), fun e => absurd e (by decide)⟩
  | s + 8, h => exact absurd h (by omega)⟩
/-- walk: a new one, at its top -/
theorem X3_wk {O : Nat → Int32} {P : Nat → Nat → Int32} {o : Nat → Int32} {A : Nat → Nat → Int32} (hX : X3 O P o A) (x : Int32) : X3 (upd (upd O 13 (Int32.ofInt 1)) 14 (Int32.ofInt 0)) (updA P 56 (upd (P 56) 0 x)) (upd (upd o 30 (Int32.ofInt 1)) 33 (Int32.ofInt 0)) (updA A 20 (upd (A 20) 0 x)) :=
  ⟨fun _ => ⟨0, by decide, rfl, rfl, rfl, fun j hj => by
    have hj : j ≤ 0 := hj
    rw [show j = 0 by omega]
    rfl, fun j hj => absurd (show j < 0 from hj) (Nat.not_lt_zero j)⟩, shR_fr hX.2 (fun j hj => by rw [upd_ne _ _ (by omega), upd_ne _ _ (by omega)]) (fun i h1 h2 => updA_ne _ _ (by omega)) (fun r h1 h2 => updA_ne _ _ (by omega))⟩
/-- go, lead: what they leave of the class's cells, told by the walk's triple -/
def LI3 (O : Nat → Int32) (P : Nat → Nat → Int32) (Y : Nat → Nat → Int64) (o : Nat → Int32) (A : Nat → Nat → Int32) : Prop := LI2 O P Y o A ∧ X3 O P o A
theorem LI3_0 : LI3 O00 P00 (fun _ _ => 0) o00 A00 := ⟨LI2_0, X3_0⟩
theorem LI3_fr {O O' : Nat → Int32} {P P' : Nat → Nat → Int32} {Y Y' : Nat → Nat → Int64} {o o' : Nat → Int32} {A A' : Nat → Nat → Int32} {u h d d2 : Nat} (H : LI3 O P Y o A) (hC : cI u h d O P Y) (hM : mI u h d2 o A) (s : SS u h O P o A) (c : cInv O' P' Y' ∧ cSt O P O' P') (m : mInv o' A' ∧ mSt A A') (ce : cE O P O' P') (me : mE u o A o' A') (sc : sC O P O' P') (sm : sM u o A o' A') : LI3 O' P' Y' o' A' := ⟨LI2_fr H.1 hC.1 hC.2.2.2.1 s c m ce me, X3_fr H.2 hC hM s sc sm⟩
theorem rtN_of {u t d : Nat} {A : Nat → Nat → Int32} {N D N' D' : Nat → Int32} (w : wkR A (d, N, D) (d, N', D')) (h : rtM A t d N') : rtN t d N := ⟨(w.2.1 0 (Nat.zero_le _)).trans h.1, fun i hi => by
  obtain ⟨j, hj, ej, _⟩ := h.2 i hi
  exact ⟨j, hj, (w.2.1 i hi).trans ej⟩⟩
/-- a walk moved on both sides -/
theorem mv_LI {O : Nat → Int32} {P : Nat → Nat → Int32} {Y : Nat → Nat → Int64} {o : Nat → Int32} {A : Nat → Nat → Int32} {u h d d2 t : Nat} (H : LI3 O P Y o A) (hC : cI u h d O P Y) (hM : mI u h d2 o A) (s : SS u h O P o A) (b : O 13 = 1) (ht : t < u) (hb : A 20 0 = nI t) {e : Nat} {N D N' D' : Nat → Int32} (he : e < 40) (w : wkR A (e, N, D) (e, N', D')) (hr : rtM A t e N') : LI3 (upd O 14 (nI e)) (updA (updA P 56 N) 57 D) Y (upd o 33 (nI e)) (updA (updA A 20 N') 21 D') := by
  have hr2 := rtN_of (u := u) w hr
  have hp : P 56 0 = nI t := (s.2.2.2.2.2.2.2.1 b).trans hb
  refine ⟨LI2_fr H.1 hC.1 hC.2.2.2.1 s (cI_go (D := D) hC he (fun _ => ⟨t, ht, hr2⟩)) (mI_go (D := D') hM (by omega) (fun _ => ⟨t, ht, hr⟩)) (cE_go (D := D) (fun _ => ⟨t, ⟨ht, hp⟩, hr2⟩)) (mE_go (D := D') (fun _ => ⟨t, ⟨ht, hb⟩, hr⟩)), fun _ => ⟨e, he, upd_self _ _ _, upd_self _ _ _, ?_⟩, shR_fr H.2.2 (fun j hj => upd_ne _ _ (by omega)) (fun i h1 h2 => by rw [updA_ne _ _ (by omega), updA_ne _ _ (by omega)]) (fun r h1 h2 => by rw [updA_ne _ _ (by omega), updA_ne _ _ (by omega)])⟩
  exact ⟨rfl, w.2.1, w.2.2⟩
theorem go_LI {O : Nat → Int32} {P : Nat → Nat → Int32} {Y : Nat → Nat → Int64} {o : Nat → Int32} {A : Nat → Nat → Int32} {u h d d2 : Nat} {x R R' : Int32} {s' t' : Nat × (Nat → Int32) × (Nat → Int32)} (H : LI3 O P Y o A) (hC : cI u h d O P Y) (hM : mI u h d2 o A) (s : SS u h O P o A) (g : goR (O 13 = 1) (goW (O 1) (P 4) (P 5)) (d, P 56, P 57) x s' R) (g' : goR (o 30 = 1) (goA A) (d2, A 20, A 21) x t' R') (hr : o 30 = 1 → ∃ t, (t < u ∧ A 20 0 = nI t) ∧ rtM A t t'.1 t'.2.1) (hd : t'.1 ≤ 39) : R = R' ∧ LI3 (upd O 14 (nI s'.1)) (updA (updA P 56 s'.2.1) 57 s'.2.2) Y (upd o 33 (nI t'.1)) (updA (updA A 20 t'.2.1) 21 t'.2.2) := by
  have hb : O 13 = 1 ↔ o 30 = 1 := by rw [s.2.2.2.2.2.2.1]
  have same : s' = (d, P 56, P 57) → t' = (d2, A 20, A 21) → LI3 (upd O 14 (nI s'.1)) (updA (updA P 56 s'.2.1) 57 s'.2.2) Y (upd o 33 (nI t'.1)) (updA (updA A 20 t'.2.1) 21 t'.2.2) := fun e1 e2 => by
    rw [e1, e2]
    show LI3 (upd O 14 (nI d)) (updA (updA P 56 (P 56)) 57 (P 57)) Y (upd o 33 (nI d2)) (updA (updA A 20 (A 20)) 21 (A 21))
    rw [upd_same hC.2.2.2.2.2.2.2.1, upd_same hM.2.2.2.2.2.2.2.2.1, updA_same P 56, updA_same P 57, updA_same A 20, updA_same A 21]
    exact H
  rcases g with ⟨r, q, z⟩ | ⟨q, c, r, z⟩ | ⟨c, k, hk, ex, g⟩ <;> rcases g' with ⟨r', q', z'⟩ | ⟨q', c', r', z'⟩ | ⟨c', k', hk', ex', g'⟩
  · exact ⟨by rw [r, r'], same z z'⟩
  · exact absurd q' q
  · exact absurd (by rw [ex', nI_toInt (by omega)]; omega) q
  · exact absurd q q'
  · exact ⟨by rw [r, r'], same z z'⟩
  · exact absurd (hb.mpr c') c
  · exact absurd (by rw [ex, nI_toInt (by omega)]; omega) q'
  · exact absurd (hb.mp c) c'
  · have ek : k = k' := (nI_eq (by omega) (by omega)).mp (ex.symm.trans ex')
    subst ek
    obtain ⟨ed, hw⟩ := wk_d hC hM H.2.1 c
    subst ed
    obtain ⟨t, ht, hr0⟩ := hM.2.2.2.2.2.2.2.2.2.2.1 c'
    rw [hC.2.1] at g
    rcases go_ok hC.1 hM.2.2.1 s.2.2.1 ht hr0 hw hk with ⟨e1, e2⟩ | ⟨s1, t1, e1, e2, w1, tp⟩
    · rcases g with ⟨_, r, z⟩ | ⟨q, _⟩ <;> rcases g' with ⟨_, r', z'⟩ | ⟨q', _⟩
      · exact ⟨by rw [r, r'], same z z'⟩
      · rw [e2] at q'
        cases q'
      · rw [e1] at q
        cases q
      · rw [e1] at q
        cases q
    · rcases g with ⟨q, _⟩ | ⟨q, r⟩ <;> rcases g' with ⟨q', _⟩ | ⟨q', r'⟩
      · rw [e1] at q
        cases q
      · rw [e1] at q
        cases q
      · rw [e2] at q'
        cases q'
      · rw [e1] at q
        rw [e2] at q'
        cases q
        cases q'
        obtain ⟨t9, ⟨ht9, hb9⟩, hr9⟩ := hr c'
        refine ⟨by rw [r, r', tp], ?_⟩
        have e0 : s'.1 = t'.1 := w1.1
        have := mv_LI H hC hM s c ht9 hb9 (e := t'.1) (N := s'.2.1) (D := s'.2.2) (N' := t'.2.1) (D' := t'.2.2) (by omega) ⟨rfl, by rw [← e0]; exact w1.2.1, by rw [← e0]; exact w1.2.2⟩ hr9
        rw [← e0] at this ⊢
        exact this
theorem lsA_or {u : Nat} {A : Nat → Nat → Int32} (hT : tbI 0 u A) (hu : u ≤ 120) : ∀ (c : Nat) (x r : Int32), (x = m2 ∨ ∃ n, x = nI n ∧ n < u) → lsA A c x r = m2 ∨ ∃ n, lsA A c x r = nI n ∧ n < u
  | 0, _, _, hx => hx
  | c + 1, x, r, hx => by
    by_cases h : r ≤ 0
    · rw [lsA_y h]
      exact hx
    · rw [lsA_n h]
      exact lsA_or hT hu c _ _ (ptA_or hT hu hx _)
theorem lead_LI {O : Nat → Int32} {P : Nat → Nat → Int32} {Y : Nat → Nat → Int64} {o : Nat → Int32} {A : Nat → Nat → Int32} {u h d d2 : Nat} {x R R' : Int32} {s' t' : Nat × (Nat → Int32) × (Nat → Int32)} (H : LI3 O P Y o A) (hC : cI u h d O P Y) (hM : mI u h d2 o A) (s : SS u h O P o A) (g : ldR (O 13 = 1) (0 ≤ x.toInt ∧ ¬ lsW (O 1) (P 4) (P 5) 20 (P 56 0) x = Int32.ofInt (-1)) (foW (O 1) (P 4) (P 5) 20 x (0, P 56, P 57)) (d, P 56, P 57) s' R) (g' : ldR (o 30 = 1) (0 ≤ x.toInt ∧ ¬ lsA A 20 (A 20 0) x = m2) (foA A 20 x (0, A 20, A 21)) (d2, A 20, A 21) t' R') : R = R' ∧ LI3 (upd O 14 (nI s'.1)) (updA (updA P 56 s'.2.1) 57 s'.2.2) Y (upd o 33 (nI t'.1)) (updA (updA A 20 t'.2.1) 21 t'.2.2) := by
  have hb : O 13 = 1 ↔ o 30 = 1 := by rw [s.2.2.2.2.2.2.1]
  have same : s' = (d, P 56, P 57) → t' = (d2, A 20, A 21) → LI3 (upd O 14 (nI s'.1)) (updA (updA P 56 s'.2.1) 57 s'.2.2) Y (upd o 33 (nI t'.1)) (updA (updA A 20 t'.2.1) 21 t'.2.2) := fun e1 e2 => by
    rw [e1, e2]
    show LI3 (upd O 14 (nI d)) (updA (updA P 56 (P 56)) 57 (P 57)) Y (upd o 33 (nI d2)) (updA (updA A 20 (A 20)) 21 (A 21))
    rw [upd_same hC.2.2.2.2.2.2.2.1, upd_same hM.2.2.2.2.2.2.2.2.1, updA_same P 56, updA_same P 57, updA_same A 20, updA_same A 21]
    exact H
  rcases g with ⟨c, r, z⟩ | ⟨c, g⟩ <;> rcases g' with ⟨c', r', z'⟩ | ⟨c', g'⟩
  · exact ⟨by rw [r, r'], same z z'⟩
  · exact absurd (hb.mpr c') c
  · exact absurd (hb.mp c) c'
  · obtain ⟨ed, hw⟩ := wk_d hC hM H.2.1 c
    subst ed
    obtain ⟨t, ht, hr0⟩ := hM.2.2.2.2.2.2.2.2.2.2.1 c'
    have hp : P 56 0 = cvI (A 20 0) := by
      rw [s.2.2.2.2.2.2.2.1 c, hr0.1, cvI_nI (by have := hC.1; omega)]
    have hl : lsW (O 1) (P 4) (P 5) 20 (P 56 0) x = cvI (lsA A 20 (A 20 0) x) := by
      rw [hC.2.1, hp]
      exact ls_same hC.1 hM.2.2.1 s.2.2.1 20 _ x (Or.inr ⟨t, hr0.1, ht⟩)
    have hor : lsA A 20 (A 20 0) x = m2 ∨ ∃ n, lsA A 20 (A 20 0) x = nI n ∧ n < u := lsA_or hM.2.2.1 hC.1 20 _ x (Or.inr ⟨t, hr0.1, ht⟩)
    have hi : lsW (O 1) (P 4) (P 5) 20 (P 56 0) x = Int32.ofInt (-1) ↔ lsA A 20 (A 20 0) x = m2 := by
      rw [hl]
      rcases hor with e | ⟨n, e, hn⟩
      · rw [e, cvI_m2]
        exact ⟨fun _ => rfl, fun _ => rfl⟩
      · rw [e, cvI_nI (by have := hC.1; omega)]
        exact ⟨fun q => absurd q (m1_n (by have := hC.1; omega)), fun q => absurd q (m2_n (by have := hC.1; omega))⟩
    rw [hi, hC.2.1] at g
    rcases g with ⟨q, r, z⟩ | ⟨q, r, z⟩ <;> rcases g' with ⟨q', r', z'⟩ | ⟨q', r', z'⟩
    · exact ⟨by rw [r, r'], same z z'⟩
    · exact absurd q' q
    · exact absurd q q'
    · obtain ⟨w1, hr1⟩ := fo_ok hC.1 hM.2.2.1 s.2.2.1 ht 20 x 0 (P 56) (P 57) (A 20) (A 21) (rtM_up hr0 (Nat.zero_le _)) (wk_up hw (Nat.zero_le _)) q'.2
      rw [← z, ← z'] at w1
      rw [← z'] at hr1
      rw [← z] at r
      rw [← z'] at r'
      have e0 : s'.1 = t'.1 := w1.1
      have hd9 := rtM_d hM.2.2.1 ht hr1
      refine ⟨by rw [r, r', ← e0]; exact w1.2.1 _ (Nat.le_refl _), ?_⟩
      have := mv_LI H hC hM s c ht hr0.1 (e := t'.1) (N := s'.2.1) (D := s'.2.2) (N' := t'.2.1) (D' := t'.2.2) (by omega) ⟨rfl, by rw [← e0]; exact w1.2.1, by rw [← e0]; exact w1.2.2⟩ hr1
      rw [← e0] at this ⊢
      exact this
