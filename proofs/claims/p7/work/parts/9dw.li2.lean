/-! the law's invariant with the same state -/
theorem pg_NR {u : Nat} (hu : u ≤ 120) {P A : Nat → Nat → Int32} (n : NR u P A) (hT : tbI 0 u A) : pgB 1 u P := fun i hi => by
  obtain ⟨e0, _, e2, e3, e4, p4, p5, _⟩ := n i hi
  obtain ⟨k, z, h0, hk, h4, hz, hs, _⟩ := hT i (Nat.zero_le _) hi
  have sz : ∀ a, a < i → szq (P 6) (nI a) = szN A a := fun a ha => by
    rw [szq_nI _ (by omega)]
    show (P 6 a).toNatClampNeg = (A 4 a).toNatClampNeg
    rw [(n a (by omega)).2.2.2.2.1]
  have hz1 := (rN_sz (hT i (Nat.zero_le _) hi)).1
  rw [szN_of h4 hz] at hz1
  refine ⟨⟨k, hk, e0.trans h0⟩, p4, p5, z, e4.trans h4, hz1, hz, ?_⟩
  show 1 + szq (P 6) (P 4 i) + szq (P 6) (P 5 i) ≤ z
  rw [e2, e3]
  rcases hs with ⟨_, h2, h3, e⟩ | ⟨_, _, a, b, h2, _, ha, h3, _, hb, e⟩ | ⟨_, a, h2, _, ha, h3, e⟩
  · rw [h2, h3, cvI_m2, show szq (P 6) m1 = 0 from szq_m1 _]
    omega
  · rw [h2, h3, cvI_nI (by omega), cvI_nI (by omega), sz a ha, sz b hb]
    omega
  · rw [h2, h3, cvI_m2, cvI_nI (by omega), sz a ha, show szq (P 6) m1 = 0 from szq_m1 _]
    omega
def LI2 (O : Nat → Int32) (P : Nat → Nat → Int32) (Y : Nat → Nat → Int64) (o : Nat → Int32) (A : Nat → Nat → Int32) : Prop := LI O P Y o A ∧ ∃ u h, u ≤ 120 ∧ h ≤ 20 ∧ SS u h O P o A
theorem LI2_open {O : Nat → Int32} {P : Nat → Nat → Int32} {Y : Nat → Nat → Int64} {o : Nat → Int32} {A : Nat → Nat → Int32} (H : LI2 O P Y o A) : ∃ u h d d2, cI u h d O P Y ∧ mI u h d2 o A ∧ kpR P A ∧ fnR O A ∧ SS u h O P o A := by
  obtain ⟨⟨⟨u, l, d, hC⟩, ⟨u2, h2, d2, hM⟩, hk, hf⟩, u3, h3, b1, b2, s⟩ := H
  have c1 := hC.1
  have c2 := hC.2.2.2.1
  have k1 := hM.1
  have k2 := hM.2.2.2.2.1
  have e1 : u = u3 := (nI_eq (by omega) (by omega)).mp (hC.2.1.symm.trans s.1)
  have e2 : u2 = u3 := (nI_eq (by omega) (by omega)).mp (hM.2.1.symm.trans s.2.1)
  have e3 : l = h3 := (nI_eq (by omega) (by omega)).mp (hC.2.2.2.2.1.symm.trans s.2.2.2.1)
  have e4 : h2 = h3 := (nI_eq (by omega) (by omega)).mp (hM.2.2.2.2.2.1.symm.trans s.2.2.2.2.1)
  subst e1 e2 e3 e4
  exact ⟨_, _, d, d2, hC, hM, hk, hf, s⟩
theorem kp0_0 : kp0 A00 := fun s hs => by
  match s, hs with
  | 0, _ => decide +kernel
  | 1, _ => decide +kernel
  | 2, _ => decide +kernel
  | 3, _ => decide +kernel
  | 4, _ => decide +kernel
  | 5, _ => decide +kernel
  | 6, _ => decide +kernel
  | 7, _ => decide +kernel
  | s + 8, h => exact absurd h (by omega)
theorem LI2_0 : LI2 O00 P00 (fun _ _ => 0) o00 A00 := ⟨LI_0, 0, 0, by decide, by decide, rfl, rfl, fun n hn => absurd hn (Nat.not_lt_zero n), rfl, rfl, fun i hi => absurd hi (Nat.not_lt_zero i), rfl, fun e => absurd e (by decide), kp0_0⟩
/-- a call that leaves the same state -/
theorem LI2_fr {O O' : Nat → Int32} {P P' : Nat → Nat → Int32} {Y Y' : Nat → Nat → Int64} {o o' : Nat → Int32} {A A' : Nat → Nat → Int32} {u h : Nat} (H : LI2 O P Y o A) (hu : u ≤ 120) (hh : h ≤ 20) (s : SS u h O P o A) (c : cInv O' P' Y' ∧ cSt O P O' P') (m : mInv o' A' ∧ mSt A A') (ce : cE O P O' P') (me : mE u o A o' A') : LI2 O' P' Y' o' A' := ⟨LI_mk H.1 c m, u, h, hu, hh, SS_fr hu s ce me⟩
/-- a call that changes both alike -/
theorem LI2_mk {O O' : Nat → Int32} {P P' : Nat → Nat → Int32} {Y Y' : Nat → Nat → Int64} {o o' : Nat → Int32} {A A' : Nat → Nat → Int32} {u h d u' h' : Nat} (H : LI2 O P Y o A) (hC : cI u h d O P Y) (hu : u ≤ u') (hu' : u' ≤ 120) (hh' : h' ≤ 20) (s : SS u' h' O' P' o' A') (m : mInv o' A' ∧ mSt A A') (cs : cSt O P O' P') (hY : wyI Y') (h13 : O' 13 = O 13) (h14 : O' 14 = O 14) (h56 : P' 56 = P 56) (hs : ∀ j, 20 ≤ j → O' j = O j) : LI2 O' P' Y' o' A' := by
  obtain ⟨u2, h2, d2, hM⟩ := id m.1
  have k1 := hM.1
  have e2 : u2 = u' := (nI_eq (by omega) (by omega)).mp (hM.2.1.symm.trans s.2.1)
  subst e2
  refine ⟨LI_mk H.1 ⟨⟨u2, h', d, cI_mk hC hu hu' s.1 (pg_NR hu' s.2.2.1 hM.2.2.1) hh' s.2.2.2.1 hY h13 h14 h56 (fun t ht => ?_)⟩, cs⟩ m, u2, h', hu', hh', s⟩
  rw [hs _ (by omega)]
  exact hC.2.2.2.2.2.2.2.2.2.2 t ht
theorem keeps_SS {u h : Nat} (hu : u ≤ 120) {O : Nat → Int32} {P : Nat → Nat → Int32} {o : Nat → Int32} {A : Nat → Nat → Int32} (s : SS u h O P o A) {y k : Nat} (hk : 2 ≤ k ∧ k ≤ 9) (hk8 : k ≠ 8) (R : Nat → Int32) (on : Int32) : SS u h O (updA P 75 R) o (updA A 7 (upd (A 7) (10 * y + k) on)) := by
  obtain ⟨s1, s2, s3, s4, s5, s6, s7, s8, s9⟩ := s
  refine ⟨s1, s2, NR_fr hu s3 (fun i h1 h2 _ j _ => by rw [updA_ne _ _ (by omega)]) (fun r hr j hj => by rw [updA_ne _ _ (by omega)]), s4, s5, s6, s7, s8, fun t ht => ?_⟩
  rw [updA_self]
  have := s9 t ht
  exact ⟨by rw [upd_ne _ _ (by omega)]; exact this.1, by rw [upd_ne _ _ (by omega)]; exact this.2.1, by rw [upd_ne _ _ (by omega)]; exact this.2.2⟩
theorem means_SS {u h : Nat} (hu : u ≤ 120) {O : Nat → Int32} {P : Nat → Nat → Int32} {o : Nat → Int32} {A : Nat → Nat → Int32} (s : SS u h O P o A) (x : Int32) (R : Nat → Int32) : SS u h (upd O 0 x) P o (updA A 6 R) :=
  SS_fr hu s ⟨rfl, rfl, rfl, fun _ _ _ => rfl, rfl, fun _ => rfl⟩ ⟨rfl, rfl, rfl, fun r i hr _ => by rw [updA_ne _ _ (by omega)], rfl, fun _ => rfl, rfl⟩
