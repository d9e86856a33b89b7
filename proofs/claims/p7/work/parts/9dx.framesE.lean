/-! frames of the calls that leave the same state -/
theorem spT_W {O O' : Nat → Int32} {P P' : Nat → Nat → Int32} {l : Nat} (hl : l ≤ 20) (h9 : O 9 = nI l) (q : spT O P O' P') : spW O P O' P' := ⟨⟨l, hl, (q.1 9 (by decide)).trans h9⟩, fun j hj => q.1 j (by omega), fun i h1 h2 _ => q.2 i h1 h2⟩
theorem cE_sp {O O' : Nat → Int32} {P P' : Nat → Nat → Int32} (q : spT O P O' P') : cE O P O' P' := ⟨q.1 1 (by decide), q.1 9 (by decide), q.1 13 (by decide), fun i _ h2 => q.2 i (by omega) (by omega), q.2 32 (by decide) (by decide), fun _ => by rw [q.2 56 (by decide) (by decide)]⟩
theorem cE_13 (O : Nat → Int32) (P : Nat → Nat → Int32) (R : Nat → Int32) : cE O P O (updA P 13 R) := ⟨rfl, rfl, rfl, fun i _ h2 => updA_ne _ _ (by omega), rfl, fun _ => rfl⟩
theorem cE_ty {O O' : Nat → Int32} {P : Nat → Nat → Int32} (q : ∀ j, j ≠ 10 → j ≠ 11 → j ≠ 12 → O' j = O j) : cE O P O' P := ⟨q 1 (by decide) (by decide) (by decide), q 9 (by decide) (by decide) (by decide), q 13 (by decide) (by decide) (by decide), fun _ _ _ => rfl, rfl, fun _ => rfl⟩
theorem cE_Fr {O O' : Nat → Int32} {P P' : Nat → Nat → Int32} (q : cFr O P O' P') : cE O P O' P' := by
  obtain ⟨e, q⟩ := q
  subst e
  exact cE_ty q
theorem cFr_St {O O' : Nat → Int32} {P P' : Nat → Nat → Int32} {Y' : Nat → Nat → Int64} (q : cInv O' P' Y' ∧ cFr O P O' P') : cInv O' P' Y' ∧ cSt O P O' P' := ⟨q.1, q.2.2 0 (by decide) (by decide) (by decide), by rw [q.2.1]⟩
theorem cE_sh {O O' : Nat → Int32} {P P' : Nat → Nat → Int32} {s : Nat} (q : shW O P s O' P') : cE O P O' P' := ⟨q.1 1 (by omega), q.1 9 (by omega), q.1 13 (by omega), fun i _ h2 => q.2.1 i (by omega), q.2.1 32 (by omega), fun _ => by
  by_cases e : 56 = 60 + 2 * s
  · omega
  · rw [q.2.1 56 e]⟩
theorem cE_db {O O' : Nat → Int32} {P P' : Nat → Nat → Int32} {Y' : Nat → Nat → Int64} (q : dbC O P O' P' Y') : cE O P O' P' := ⟨q.2.1 1 (by decide) (by decide) (by decide) (by decide), q.2.1 9 (by decide) (by decide) (by decide) (by decide), q.2.1 13 (by decide) (by decide) (by decide) (by decide), fun i _ h2 => q.2.2 i (by omega), q.2.2 32 (by omega), fun _ => by rw [q.2.2 56 (by omega)]⟩
theorem cI_db {O O' : Nat → Int32} {P P' : Nat → Nat → Int32} {Y Y' : Nat → Nat → Int64} {u l d : Nat} (h : cI u l d O P Y) (q : dbC O P O' P' Y') : cInv O' P' Y' ∧ cSt O P O' P' :=
  cI_gr h ⟨q.1, ⟨u, (q.2.1 1 (by decide) (by decide) (by decide) (by decide)).trans h.2.1, Nat.le_refl _, h.1, pgB_row h.2.2.1 (fun i hi => q.2.2 i (by omega))⟩, fun j _ h2 h3 h4 h5 => q.2.1 j h2 h3 h4 h5, fun i hi => q.2.2 i (by omega)⟩
theorem cE_go {O : Nat → Int32} {P : Nat → Nat → Int32} {u d' : Nat} {N D : Nat → Int32} (q : O 13 = 1 → ∃ t, (t < u ∧ P 56 0 = nI t) ∧ rtN t d' N) : cE O P (upd O 14 (nI d')) (updA (updA P 56 N) 57 D) := ⟨rfl, rfl, rfl, fun i _ h2 => by rw [updA_ne _ _ (by omega), updA_ne _ _ (by omega)], rfl, fun e => by
  obtain ⟨t, ⟨_, h0⟩, r⟩ := q e
  rw [updA_ne _ _ (by decide), updA_self, h0]
  exact r.1⟩
theorem top_N {b : Prop} {u : Nat} {x : Int32} {R : Nat → Prop} (q : b → ∃ t, (t < u ∧ x = nI t) ∧ R t) : b → ∃ t, t < u ∧ R t := fun h => by
  obtain ⟨t, a, r⟩ := q h
  exact ⟨t, a.1, r⟩
theorem mE_q {o o' : Nat → Int32} {A A' : Nat → Nat → Int32} (u : Nat) (q : qX o A o' A') : mE u o A o' A' := ⟨q.1 0 (by decide), q.1 10 (by decide), q.1 30 (by decide), fun r i hr _ => by rw [q.2 r (by omega) (by omega)], q.2 8 (by decide) (by decide), fun _ => by rw [q.2 20 (by decide) (by decide)], q.2 7 (by decide) (by decide)⟩
theorem mE_cl {o o' : Nat → Int32} {A A' : Nat → Nat → Int32} {u : Nat} (hu : u ≤ 120) (q : clX o A o' A') : mE u o A o' A' := ⟨q.1 0 (by decide), q.1 10 (by decide), q.1 30 (by decide), fun r i hr hi => q.2.1 r i (by omega) (by omega), q.2.2 8 (by decide) (by decide), fun _ => by rw [q.2.2 20 (by decide) (by decide)], q.2.2 7 (by decide) (by decide)⟩
theorem mE_o {o o' : Nat → Int32} (A : Nat → Nat → Int32) (u : Nat) (q : ∀ j, j ≠ 16 → j ≠ 28 → o' j = o j) : mE u o A o' A := ⟨q 0 (by decide) (by decide), q 10 (by decide) (by decide), q 30 (by decide) (by decide), fun _ _ _ _ => rfl, rfl, fun _ => rfl, rfl⟩
theorem mE_sh {o o' : Nat → Int32} {A A' : Nat → Nat → Int32} (u : Nat) (q : shM o A o' A') : mE u o A o' A' := ⟨q.1 0 (by decide), q.1 10 (by decide), q.1 30 (by decide), fun r i hr _ => by rw [q.2.1 r (by omega) (by omega)], q.2.1 8 (by decide) (by decide), fun _ => by rw [q.2.1 20 (by decide) (by decide)], q.2.1 7 (by decide) (by decide)⟩
theorem mE_db {o o' : Nat → Int32} {A A' : Nat → Nat → Int32} {u : Nat} (h0 : o 0 = nI u) (q : dbM o u A o' A') : mE u o A o' A' := ⟨q.1.1.trans h0.symm, q.2.1 10 (by decide) (by decide) (by decide), q.2.1 30 (by decide) (by decide) (by decide), fun r i _ hi => q.2.2.2 r i hi, q.2.2.1 8 (by decide), fun _ => by rw [q.2.2.1 20 (by decide)], q.2.2.1 7 (by decide)⟩
theorem mI_db {o o' : Nat → Int32} {A A' : Nat → Nat → Int32} {u h d : Nat} (H : mI u h d o A) (q : dbM o u A o' A') : mInv o' A' ∧ mSt A A' := mI_y H ⟨⟨u, Nat.le_refl _, H.1, q.1.1, q.1.2⟩, q.2.1, q.2.2.1, q.2.2.2⟩
theorem mE_go {o : Nat → Int32} {A : Nat → Nat → Int32} {u d' : Nat} {N D : Nat → Int32} (q : o 30 = 1 → ∃ t, (t < u ∧ A 20 0 = nI t) ∧ rtM A t d' N) : mE u o A (upd o 33 (nI d')) (updA (updA A 20 N) 21 D) := ⟨rfl, rfl, rfl, fun r i hr _ => by rw [updA_ne _ _ (by omega), updA_ne _ _ (by omega)], rfl, fun e => by
  obtain ⟨t, ⟨_, h0⟩, r⟩ := q e
  rw [updA_ne _ _ (by decide), updA_self, h0]
  exact r.1, rfl⟩
