section
/-! write, keeps, means: the same state again -/
theorem ea_of {u h : Nat} {O : Nat → Int32} {P : Nat → Nat → Int32} {o : Nat → Int32} {A : Nat → Nat → Int32} (s : SS u h O P o A) (hw : nnW h (A 8)) : eaR h P (eW A) := fun i hi => by
  rw [s.2.2.2.2.2.1 i hi]
  exact eW_of hw hi
theorem gf_of {O : Nat → Int32} {A : Nat → Nat → Int32} (h : fnR O A) : gfR (O 0) (A 6) := fun v hv => by
  obtain ⟨m, hm, e, hb⟩ := h
  rw [e, hb_bt m hm v hv, hb v hv]
theorem bt_1 (m k : Nat) : decide (bt m k = nI 1) = m.testBit k := by
  unfold bt
  cases m.testBit k <;> decide
theorem bt_0 (m k : Nat) : decide (bt m k = nI 0) = !m.testBit k := by
  unfold bt
  cases m.testBit k <;> decide
theorem sy_of {P A : Nat → Nat → Int32} (h : kpR P A) : ∀ s, s ≤ 8 → syR P s (ltW A s) := fun s hs => by
  unfold syR
  split
  · rename_i e
    intro k _
    rw [ltW_8 e, ltW_8 e]
    exact ⟨rfl, rfl⟩
  · rename_i e
    obtain ⟨m, hm, q, hb⟩ := h s (by omega)
    refine ⟨m, hm, q, fun k hk => ?_⟩
    rw [ltW_n e, ltW_n e, hb k hk]
    exact ⟨bt_1 m k, bt_0 m k⟩
/-- both tables count the same -/
theorem L_same {h : Nat} (hh : h ≤ 20) {A : Nat → Nat → Int32} {s : Nat} {Y Y1 J1 : Nat → Nat → Int64} (z : okZ Y h (eW A) (A 6) (ltW A s) Y1 (h + 1) 0) (j : okJ h A s J1) : ∀ a b, a < b → b ≤ h → lY Y1 a b = lW J1 a b := fun a b h1 h2 => by
  have eJ : ∀ i j, i < j → j ≤ h → lW J1 i j = csW (mG (eW A) (A 6) (ltW A s) (lW J1) i j) 20 := fun i k q1 q2 => (okS_l (j i k q1 q2)).1
  exact L_uq (E := eW A) (G := A 6) (lt := ltW A s) (h := h) (fun i k q1 q2 => (z.1 i k q1 q2 (Or.inl (by omega))).2.1) (fun i k q1 q2 => (L_le hh eJ (k - i) i k q1 q2 (Nat.le_refl _)).2) (b - a) a b h1 h2 (Nat.le_refl _)
theorem ct_same {h : Nat} (hh : h ≤ 20) {A : Nat → Nat → Int32} {s : Nat} {Y Y1 J1 : Nat → Nat → Int64} (z : okZ Y h (eW A) (A 6) (ltW A s) Y1 (h + 1) 0) (j : okJ h A s J1) : ctY h Y1 = ctW h J1 := by
  unfold ctY ctW
  split
  · rfl
  · exact L_same hh z j 0 h (by omega) (Nat.le_refl _)
/-- NODES, where other fields and tables may have changed -/
theorem SS_pg {u u' h : Nat} {O O' : Nat → Int32} {P P' : Nat → Nat → Int32} {o o' : Nat → Int32} {A A' : Nat → Nat → Int32} (s : SS u h O P o A) (n : NR u' P' A') (c1 : O' 1 = nI u') (c2 : O' 9 = O 9) (c3 : O' 13 = O 13) (c4 : P' 32 = P 32) (c5 : P' 56 = P 56) (m1' : o' 0 = nI u') (m2' : o' 10 = o 10) (m3 : o' 30 = o 30) (m : ∀ r, 6 ≤ r → A' r = A r) : SS u' h O' P' o' A' := by
  obtain ⟨s1, s2, s3, s4, s5, s6, s7, s8, s9⟩ := s
  exact ⟨c1, m1', n, c2.trans s4, m2'.trans s5, fun i hi => by rw [c4, m 8 (by decide)]; exact s6 i hi, by rw [c3, m3]; exact s7, fun e => by rw [c5, m 20 (by decide)]; exact s8 (by rw [← c3]; exact e), kp0_r s9 (m 7 (by decide))⟩
/-- write -/
theorem write_ok {u h : Nat} (hu : u ≤ 120) (hh : h ≤ 20) {O O' : Nat → Int32} {P P' : Nat → Nat → Int32} {o o' : Nat → Int32} {A A' : Nat → Nat → Int32} {Y : Nat → Nat → Int64} {x R R' : Int32} {z : Int64} (s : SS u h O P o A) (c : ∀ j, j ≠ 1 → j ≠ 2 → j ≠ 10 → j ≠ 11 → j ≠ 12 → O' j = O j) (m : ndY o u A o' A') (g : wrC O P Y (eW A) (A 6) (ltW A) u h x z O' P' R) (g' : wrM o A u h x z o' A' R') : R = R' ∧ ∃ u', u' ≤ 120 ∧ SS u' h O' P' o' A' := by
  have mk : ∀ u', NR u' P' A' → O' 1 = nI u' → o' 0 = nI u' → P' 32 = P 32 → P' 56 = P 56 → SS u' h O' P' o' A' := fun u' n e1 e0 e32 e56 => SS_pg s n e1 (c 9 (by decide) (by decide) (by decide) (by decide) (by decide)) (c 13 (by decide) (by decide) (by decide) (by decide) (by decide)) e32 e56 e0 (m.2.1 10 (by decide) (by decide) (by decide)) (m.2.1 30 (by decide) (by decide) (by decide)) m.2.2.1
  have same : O' 1 = nI u → o' 0 = nI u → (∀ i, ¬ (14 < i ∧ i ≤ 26) → P' i = P i) → ∃ u', u' ≤ 120 ∧ SS u' h O' P' o' A' := fun e1 e0 e => ⟨u, hu, mk u (NR_fr hu s.2.2.1 (fun i h1 h2 _ j _ => by rw [e i (by omega)]) (fun r _ j hj => m.2.2.2 r j hj)) e1 e0 (e 32 (by omega)) (e 56 (by omega))⟩
  rcases g with ⟨r, q, e1, ep⟩ | ⟨sy, Y1, hs, ex, z0, hZ, g⟩
  · rcases g' with ⟨r', _, e0⟩ | ⟨s', J1, hs', ex', z0', _⟩
    · exact ⟨r.trans r'.symm, same e1 e0 (fun i _ => by rw [ep])⟩
    · exact absurd ⟨⟨by rw [ex', nI_toInt (by omega)]; omega, by rw [ex', nI_toInt (by omega)]; omega⟩, z0'⟩ q
  · rcases g' with ⟨_, q, _⟩ | ⟨s', J1, hs', ex', z0', hJ, g'⟩
    · exact absurd ⟨⟨by rw [ex, nI_toInt (by omega)]; omega, by rw [ex, nI_toInt (by omega)]; omega⟩, z0⟩ q
    · have e1 : sy = s' := (nI_eq (by omega) (by omega)).mp (ex.symm.trans ex')
      subst e1
      have ec := ct_same hh hZ hJ
      have cl := ctW_le hJ
      unfold cap at cl
      rw [ec] at g
      rcases g with ⟨r, q, e1, ep⟩ | ⟨p, T, ez, hp, hT, g⟩
      · rcases g' with ⟨r', _, e0⟩ | ⟨p', T', ez', hp', _⟩
        · exact ⟨r.trans r'.symm, same e1 e0 (fun i _ => by rw [ep])⟩
        · exact absurd (by rw [ez']; exact (lN_ltJ (by omega) (by omega)).mpr hp') q
      · rcases g' with ⟨_, q, _⟩ | ⟨p', T', ez', hp', hT', g'⟩
        · exact absurd (by rw [ez]; exact (lN_ltJ (by omega) (by omega)).mpr hp) q
        · have e2 : p = p' := (lN_eqJ (by omega) (by omega)).mp (ez.symm.trans ez')
          subst e2
          have e3 : T = T' := RT_uq 20 0 h p T T' (RT_cg (L_same hh hZ hJ) 20 0 h p T (Nat.le_refl _) hT) hT'
          subst e3
          rcases g with ⟨r, w, e1, ep⟩ | ⟨r, w, e1, ep, P1, ep1, hl⟩
          · rcases g' with ⟨r', _, e0⟩ | ⟨_, w', _⟩
            · exact ⟨r.trans r'.symm, same e1 e0 ep⟩
            · omega
          · rcases g' with ⟨_, w', _⟩ | ⟨r', _, e0, A1, ea1, eA⟩
            · omega
            · have n1 : NR u P1 A1 := NR_fr hu s.2.2.1 (fun i h1 h2 _ j _ => by rw [ep1 i (by omega)]) (fun r _ j hj => ea1 r j (by omega))
              have n2 := (NR_ly 20 0 h p T hT u P1 A1 [] _ n1 w hl).1
              refine ⟨r.trans r'.symm, _, w, mk _ ?_ e1 e0 (ep 32 (by omega)) (ep 56 (by omega))⟩
              rw [eA]
              exact n2
end
section
/-! the law's invariant with the same state -/
theorem pg_NR {u : Nat} (hu : u ≤ 120) {P A : Nat → Nat → Int32} (n : NR u P A) (hT : tbI 0 u A) : pgB 1 u P := fun i hi => by
  obtain ⟨e0, _, e2, e3, e4, p4, p5, _⟩ := n i hi
  obtain ⟨k, z, h0, hk, h4, hz, hs, _⟩ := hT i (Nat.zero_le _) hi
  have sz : ∀ a, a < i → szq (P 6) (nI a) = szN A a := fun a ha => by
    rw [szq_nI _ (by omega)]
    show (P 6 a).toNatClampNeg = (A 4 a).toNatClampNeg
    rw [(n a (by omega)).2.2.2.2.1]
  have hz1 := (rN_sz (hT i (Nat.zero_le _) hi)).1
  rw [szN_of h4 hz] at hz1
  refine ⟨⟨k, hk, e0.trans h0⟩, p4, p5, z, e4.trans h4, hz1, hz, ?_⟩
  show 1 + szq (P 6) (P 4 i) + szq (P 6) (P 5 i) ≤ z
  rw [e2, e3]
  rcases hs with ⟨_, h2, h3, e⟩ | ⟨_, _, a, b, h2, _, ha, h3, _, hb, e⟩ | ⟨_, a, h2, _, ha, h3, e⟩
  · rw [h2, h3, cvI_m2, show szq (P 6) m1 = 0 from szq_m1 _]
    omega
  · rw [h2, h3, cvI_nI (by omega), cvI_nI (by omega), sz a ha, sz b hb]
    omega
  · rw [h2, h3, cvI_m2, cvI_nI (by omega), sz a ha, show szq (P 6) m1 = 0 from szq_m1 _]
    omega
def LI2 (O : Nat → Int32) (P : Nat → Nat → Int32) (Y : Nat → Nat → Int64) (o : Nat → Int32) (A : Nat → Nat → Int32) : Prop := LI O P Y o A ∧ ∃ u h, u ≤ 120 ∧ h ≤ 20 ∧ SS u h O P o A
theorem LI2_open {O : Nat → Int32} {P : Nat → Nat → Int32} {Y : Nat → Nat → Int64} {o : Nat → Int32} {A : Nat → Nat → Int32} (H : LI2 O P Y o A) : ∃ u h d d2, cI u h d O P Y ∧ mI u h d2 o A ∧ kpR P A ∧ fnR O A ∧ SS u h O P o A := by
  obtain ⟨⟨⟨u, l, d, hC⟩, ⟨u2, h2, d2, hM⟩, hk, hf⟩, u3, h3, b1, b2, s⟩ := H
  have c1 := hC.1
  have c2 := hC.2.2.2.1
  have k1 := hM.1
  have k2 := hM.2.2.2.2.1
  have e1 : u = u3 := (nI_eq (by omega) (by omega)).mp (hC.2.1.symm.trans s.1)
  have e2 : u2 = u3 := (nI_eq (by omega) (by omega)).mp (hM.2.1.symm.trans s.2.1)
  have e3 : l = h3 := (nI_eq (by omega) (by omega)).mp (hC.2.2.2.2.1.symm.trans s.2.2.2.1)
  have e4 : h2 = h3 := (nI_eq (by omega) (by omega)).mp (hM.2.2.2.2.2.1.symm.trans s.2.2.2.2.1)
  subst e1 e2 e3 e4
  exact ⟨_, _, d, d2, hC, hM, hk, hf, s⟩
theorem kp0_0 : kp0 A00 := fun s hs => by
  match s, hs with
  | 0, _ => decide +kernel
  | 1, _ => decide +kernel
  | 2, _ => decide +kernel
  | 3, _ => decide +kernel
  | 4, _ => decide +kernel
  | 5, _ => decide +kernel
  | 6, _ => decide +kernel
  | 7, _ => decide +kernel
  | s + 8, h => exact absurd h (by omega)
theorem LI2_0 : LI2 O00 P00 (fun _ _ => 0) o00 A00 := ⟨LI_0, 0, 0, by decide, by decide, rfl, rfl, fun n hn => absurd hn (Nat.not_lt_zero n), rfl, rfl, fun i hi => absurd hi (Nat.not_lt_zero i), rfl, fun e => absurd e (by decide), kp0_0⟩
/-- a call that leaves the same state -/
theorem LI2_fr {O O' : Nat → Int32} {P P' : Nat → Nat → Int32} {Y Y' : Nat → Nat → Int64} {o o' : Nat → Int32} {A A' : Nat → Nat → Int32} {u h : Nat} (H : LI2 O P Y o A) (hu : u ≤ 120) (hh : h ≤ 20) (s : SS u h O P o A) (c : cInv O' P' Y' ∧ cSt O P O' P') (m : mInv o' A' ∧ mSt A A') (ce : cE O P O' P') (me : mE u o A o' A') : LI2 O' P' Y' o' A' := ⟨LI_mk H.1 c m, u, h, hu, hh, SS_fr hu s ce me⟩
/-- a call that changes both alike -/
theorem LI2_mk {O O' : Nat → Int32} {P P' : Nat → Nat → Int32} {Y Y' : Nat → Nat → Int64} {o o' : Nat → Int32} {A A' : Nat → Nat → Int32} {u h d u' h' : Nat} (H : LI2 O P Y o A) (hC : cI u h d O P Y) (hu : u ≤ u') (hu' : u' ≤ 120) (hh' : h' ≤ 20) (s : SS u' h' O' P' o' A') (m : mInv o' A' ∧ mSt A A') (cs : cSt O P O' P') (hY : wyI Y') (h13 : O' 13 = O 13) (h14 : O' 14 = O 14) (h56 : P' 56 = P 56) (hs : ∀ j, 20 ≤ j → O' j = O j) : LI2 O' P' Y' o' A' := by
  obtain ⟨u2, h2, d2, hM⟩ := id m.1
  have k1 := hM.1
  have e2 : u2 = u' := (nI_eq (by omega) (by omega)).mp (hM.2.1.symm.trans s.2.1)
  subst e2
  refine ⟨LI_mk H.1 ⟨⟨u2, h', d, cI_mk hC hu hu' s.1 (pg_NR hu' s.2.2.1 hM.2.2.1) hh' s.2.2.2.1 hY h13 h14 h56 (fun t ht => ?_)⟩, cs⟩ m, u2, h', hu', hh', s⟩
  rw [hs _ (by omega)]
  exact hC.2.2.2.2.2.2.2.2.2.2 t ht
theorem keeps_SS {u h : Nat} (hu : u ≤ 120) {O : Nat → Int32} {P : Nat → Nat → Int32} {o : Nat → Int32} {A : Nat → Nat → Int32} (s : SS u h O P o A) {y k : Nat} (hk : 2 ≤ k ∧ k ≤ 9) (hk8 : k ≠ 8) (R : Nat → Int32) (on : Int32) : SS u h O (updA P 75 R) o (updA A 7 (upd (A 7) (10 * y + k) on)) := by
  obtain ⟨s1, s2, s3, s4, s5, s6, s7, s8, s9⟩ := s
  refine ⟨s1, s2, NR_fr hu s3 (fun i h1 h2 _ j _ => by rw [updA_ne _ _ (by omega)]) (fun r hr j hj => by rw [updA_ne _ _ (by omega)]), s4, s5, s6, s7, s8, fun t ht => ?_⟩
  rw [updA_self]
  have := s9 t ht
  exact ⟨by rw [upd_ne _ _ (by omega)]; exact this.1, by rw [upd_ne _ _ (by omega)]; exact this.2.1, by rw [upd_ne _ _ (by omega)]; exact this.2.2⟩
theorem means_SS {u h : Nat} (hu : u ≤ 120) {O : Nat → Int32} {P : Nat → Nat → Int32} {o : Nat → Int32} {A : Nat → Nat → Int32} (s : SS u h O P o A) (x : Int32) (R : Nat → Int32) : SS u h (upd O 0 x) P o (updA A 6 R) :=
  SS_fr hu s ⟨rfl, rfl, rfl, fun _ _ _ => rfl, rfl, fun _ => rfl⟩ ⟨rfl, rfl, rfl, fun r i hr _ => by rw [updA_ne _ _ (by omega)], rfl, fun _ => rfl, rfl⟩
end
section
/-! frames of the calls that leave the same state -/
theorem spT_W {O O' : Nat → Int32} {P P' : Nat → Nat → Int32} {l : Nat} (hl : l ≤ 20) (h9 : O 9 = nI l) (q : spT O P O' P') : spW O P O' P' := ⟨⟨l, hl, (q.1 9 (by decide)).trans h9⟩, fun j hj => q.1 j (by omega), fun i h1 h2 _ => q.2 i h1 h2⟩
theorem cE_sp {O O' : Nat → Int32} {P P' : Nat → Nat → Int32} (q : spT O P O' P') : cE O P O' P' := ⟨q.1 1 (by decide), q.1 9 (by decide), q.1 13 (by decide), fun i _ h2 => q.2 i (by omega) (by omega), q.2 32 (by decide) (by decide), fun _ => by rw [q.2 56 (by decide) (by decide)]⟩
theorem cE_13 (O : Nat → Int32) (P : Nat → Nat → Int32) (R : Nat → Int32) : cE O P O (updA P 13 R) := ⟨rfl, rfl, rfl, fun i _ h2 => updA_ne _ _ (by omega), rfl, fun _ => rfl⟩
theorem cE_ty {O O' : Nat → Int32} {P : Nat → Nat → Int32} (q : ∀ j, j ≠ 10 → j ≠ 11 → j ≠ 12 → O' j = O j) : cE O P O' P := ⟨q 1 (by decide) (by decide) (by decide), q 9 (by decide) (by decide) (by decide), q 13 (by decide) (by decide) (by decide), fun _ _ _ => rfl, rfl, fun _ => rfl⟩
theorem cE_Fr {O O' : Nat → Int32} {P P' : Nat → Nat → Int32} (q : cFr O P O' P') : cE O P O' P' := by
  obtain ⟨e, q⟩ := q
  subst e
  exact cE_ty q
theorem cFr_St {O O' : Nat → Int32} {P P' : Nat → Nat → Int32} {Y' : Nat → Nat → Int64} (q : cInv O' P' Y' ∧ cFr O P O' P') : cInv O' P' Y' ∧ cSt O P O' P' := ⟨q.1, q.2.2 0 (by decide) (by decide) (by decide), by rw [q.2.1]⟩
theorem cE_sh {O O' : Nat → Int32} {P P' : Nat → Nat → Int32} {s : Nat} (q : shW O P s O' P') : cE O P O' P' := ⟨q.1 1 (by omega), q.1 9 (by omega), q.1 13 (by omega), fun i _ h2 => q.2.1 i (by omega), q.2.1 32 (by omega), fun _ => by
  by_cases e : 56 = 60 + 2 * s
  · omega
  · rw [q.2.1 56 e]⟩
theorem cE_db {O O' : Nat → Int32} {P P' : Nat → Nat → Int32} {Y' : Nat → Nat → Int64} (q : dbC O P O' P' Y') : cE O P O' P' := ⟨q.2.1 1 (by decide) (by decide) (by decide) (by decide), q.2.1 9 (by decide) (by decide) (by decide) (by decide), q.2.1 13 (by decide) (by decide) (by decide) (by decide), fun i _ h2 => q.2.2 i (by omega), q.2.2 32 (by omega), fun _ => by rw [q.2.2 56 (by omega)]⟩
theorem cI_db {O O' : Nat → Int32} {P P' : Nat → Nat → Int32} {Y Y' : Nat → Nat → Int64} {u l d : Nat} (h : cI u l d O P Y) (q : dbC O P O' P' Y') : cInv O' P' Y' ∧ cSt O P O' P' :=
  cI_gr h ⟨q.1, ⟨u, (q.2.1 1 (by decide) (by decide) (by decide) (by decide)).trans h.2.1, Nat.le_refl _, h.1, pgB_row h.2.2.1 (fun i hi => q.2.2 i (by omega))⟩, fun j _ h2 h3 h4 h5 => q.2.1 j h2 h3 h4 h5, fun i hi => q.2.2 i (by omega)⟩
theorem cE_go {O : Nat → Int32} {P : Nat → Nat → Int32} {u d' : Nat} {N D : Nat → Int32} (q : O 13 = 1 → ∃ t, (t < u ∧ P 56 0 = nI t) ∧ rtN t d' N) : cE O P (upd O 14 (nI d')) (updA (updA P 56 N) 57 D) := ⟨rfl, rfl, rfl, fun i _ h2 => by rw [updA_ne _ _ (by omega), updA_ne _ _ (by omega)], rfl, fun e => by
  obtain ⟨t, ⟨_, h0⟩, r⟩ := q e
  rw [updA_ne _ _ (by decide), updA_self, h0]
  exact r.1⟩
theorem mE_q {o o' : Nat → Int32} {A A' : Nat → Nat → Int32} (u : Nat) (q : qX o A o' A') : mE u o A o' A' := ⟨q.1 0 (by decide), q.1 10 (by decide), q.1 30 (by decide), fun r i hr _ => by rw [q.2 r (by omega) (by omega)], q.2 8 (by decide) (by decide), fun _ => by rw [q.2 20 (by decide) (by decide)], q.2 7 (by decide) (by decide)⟩
theorem mE_cl {o o' : Nat → Int32} {A A' : Nat → Nat → Int32} {u : Nat} (hu : u ≤ 120) (q : clX o A o' A') : mE u o A o' A' := ⟨q.1 0 (by decide), q.1 10 (by decide), q.1 30 (by decide), fun r i hr hi => q.2.1 r i (by omega) (by omega), q.2.2 8 (by decide) (by decide), fun _ => by rw [q.2.2 20 (by decide) (by decide)], q.2.2 7 (by decide) (by decide)⟩
theorem mE_o {o o' : Nat → Int32} (A : Nat → Nat → Int32) (u : Nat) (q : ∀ j, j ≠ 16 → j ≠ 28 → o' j = o j) : mE u o A o' A := ⟨q 0 (by decide) (by decide), q 10 (by decide) (by decide), q 30 (by decide) (by decide), fun _ _ _ _ => rfl, rfl, fun _ => rfl, rfl⟩
theorem mE_sh {o o' : Nat → Int32} {A A' : Nat → Nat → Int32} (u : Nat) (q : shM o A o' A') : mE u o A o' A' := ⟨q.1 0 (by decide), q.1 10 (by decide), q.1 30 (by decide), fun r i hr _ => by rw [q.2.1 r (by omega) (by omega)], q.2.1 8 (by decide) (by decide), fun _ => by rw [q.2.1 20 (by decide) (by decide)], q.2.1 7 (by decide) (by decide)⟩
theorem mE_db {o o' : Nat → Int32} {A A' : Nat → Nat → Int32} {u : Nat} (h0 : o 0 = nI u) (q : dbM o u A o' A') : mE u o A o' A' := ⟨q.1.1.trans h0.symm, q.2.1 10 (by decide) (by decide) (by decide), q.2.1 30 (by decide) (by decide) (by decide), fun r i _ hi => q.2.2.2 r i hi, q.2.2.1 8 (by decide), fun _ => by rw [q.2.2.1 20 (by decide)], q.2.2.1 7 (by decide)⟩
theorem mI_db {o o' : Nat → Int32} {A A' : Nat → Nat → Int32} {u h d : Nat} (H : mI u h d o A) (q : dbM o u A o' A') : mInv o' A' ∧ mSt A A' := mI_y H ⟨⟨u, Nat.le_refl _, H.1, q.1.1, q.1.2⟩, q.2.1, q.2.2.1, q.2.2.2⟩
theorem mE_go {o : Nat → Int32} {A : Nat → Nat → Int32} {u d' : Nat} {N D : Nat → Int32} (q : o 30 = 1 → ∃ t, (t < u ∧ A 20 0 = nI t) ∧ rtM A t d' N) : mE u o A (upd o 33 (nI d')) (updA (updA A 20 N) 21 D) := ⟨rfl, rfl, rfl, fun r i hr _ => by rw [updA_ne _ _ (by omega), updA_ne _ _ (by omega)], rfl, fun e => by
  obtain ⟨t, ⟨_, h0⟩, r⟩ := q e
  rw [updA_ne _ _ (by decide), updA_self, h0]
  exact r.1, rfl⟩
end
section
/-! the law's invariant after each call that changes both -/
theorem sets_lt (A : Nat → Nat → Int32) {u i : Nat} (k v x y : Int32) (r : Nat) (h : i < u) : setsA A u k v x y r i = A r i := by
  unfold setsA updA
  have e : i ≠ u := by omega
  by_cases h5 : r = 5
  · rw [if_pos h5, upd_ne _ _ e, h5]
  · rw [if_neg h5]
    by_cases h4 : r = 4
    · rw [if_pos h4, upd_ne _ _ e, h4]
    · rw [if_neg h4]
      by_cases h3 : r = 3
      · rw [if_pos h3, upd_ne _ _ e, h3]
      · rw [if_neg h3]
        by_cases h2 : r = 2
        · rw [if_pos h2, upd_ne _ _ e, h2]
        · rw [if_neg h2]
          by_cases h1 : r = 1
          · rw [if_pos h1, upd_ne _ _ e, h1]
          · rw [if_neg h1]
            by_cases h0 : r = 0
            · rw [if_pos h0, upd_ne _ _ e, h0]
            · rw [if_neg h0]
theorem page_LI {O : Nat → Int32} {P P' : Nat → Nat → Int32} {Y : Nat → Nat → Int64} {o : Nat → Int32} {A : Nat → Nat → Int32} {u h d d2 : Nat} (H : LI2 O P Y o A) (hC : cI u h d O P Y) (hM : mI u h d2 o A) (hu : u < 120) {k v x y : Int32} (qT : tbI 0 (u + 1) (setsA A u k v x y)) (s : SS (u + 1) h (upd O 1 (nI (u + 1))) P' (upd o 0 (nI (u + 1))) (setsA A u k v x y)) (e : ∀ i, ¬ (1 < i ∧ i ≤ 13) → P' i = P i) : LI2 (upd O 1 (nI (u + 1))) P' Y (upd o 0 (nI (u + 1))) (setsA A u k v x y) :=
  LI2_mk H hC (Nat.le_succ u) hu hC.2.2.2.1 s (mI_nd hM ⟨Nat.le_succ u, hu, qT, fun r hr => sets_ne6 _ _ _ _ _ _ hr, fun r i hi => sets_lt _ _ _ _ _ r hi⟩) ⟨rfl, e 75 (by omega)⟩ hC.2.2.2.2.2.1 rfl rfl (e 56 (by omega)) (fun j hj => upd_ne _ _ (by omega))
theorem leaf_LI {O : Nat → Int32} {P : Nat → Nat → Int32} {Y : Nat → Nat → Int64} {o : Nat → Int32} {A : Nat → Nat → Int32} {u h d d2 : Nat} (H : LI2 O P Y o A) (hC : cI u h d O P Y) (hM : mI u h d2 o A) (s : SS u h O P o A) {k v sh : Int32} (q : lfG k v ∧ u < 120) (qT : tbI 0 (u + 1) (setsA A u k v m2 m2)) : LI2 (upd O 1 (nI (u + 1))) (stC 1 P u k v m1 m1 sh) Y (upd o 0 (nI (u + 1))) (setsA A u k v m2 m2) :=
  page_LI H hC hM q.2 qT (leaf_ok q.2 s sh q.1) (fun _ w => stC_ne1 _ _ _ _ _ _ _ w)
theorem node_LI {O : Nat → Int32} {P : Nat → Nat → Int32} {Y : Nat → Nat → Int64} {o : Nat → Int32} {A : Nat → Nat → Int32} {u h d d2 : Nat} (H : LI2 O P Y o A) (hC : cI u h d O P Y) (hM : mI u h d2 o A) (s : SS u h O P o A) {k x y sh : Int32} (g : ndG u k x y) (hu : u < 120) (qT : tbI 0 (u + 1) (setsA A u k (ndv m2 k y) x (ndy m2 k y))) : LI2 (upd O 1 (nI (u + 1))) (stC 1 P u k (ndv m1 k y) x (ndy m1 k y) sh) Y (upd o 0 (nI (u + 1))) (setsA A u k (ndv m2 k y) x (ndy m2 k y)) :=
  page_LI H hC hM hu qT (node_ok hu s sh g) (fun _ w => stC_ne1 _ _ _ _ _ _ _ w)
theorem undo_LI {O : Nat → Int32} {P : Nat → Nat → Int32} {Y : Nat → Nat → Int64} {o : Nat → Int32} {A : Nat → Nat → Int32} {u h d d2 : Nat} (H : LI2 O P Y o A) (hC : cI u h d O P Y) (hM : mI u h d2 o A) (s : SS u h O P o A) (q : u ≠ 0 ∧ ¬ (O 13 = 1 ∧ P 56 0 = nI (u - 1))) (q' : u ≠ 0 ∧ ¬ (o 30 = 1 ∧ A 20 0 = nI (u - 1))) : LI2 (upd O 1 (nI (u - 1))) P Y (upd o 0 (nI (u - 1))) A :=
  ⟨LI_mk H.1 (cI_un hC (by have := q.1; omega) (fun a b => q.2 ⟨a, b⟩)) (mI_un hM (by have := q.1; omega) (fun a b => q'.2 ⟨a, b⟩)), u - 1, h, by have := hC.1; omega, hC.2.2.2.1, SS_lv s (by omega)⟩
theorem hush_LI {O : Nat → Int32} {P : Nat → Nat → Int32} {Y : Nat → Nat → Int64} {o : Nat → Int32} {A : Nat → Nat → Int32} {u h d d2 : Nat} (H : LI2 O P Y o A) (hC : cI u h d O P Y) (hM : mI u h d2 o A) (s : SS u h O P o A) : LI2 (upd O 9 (Int32.ofInt 0)) P Y (upd o 10 (Int32.ofInt 0)) A :=
  ⟨LI_mk H.1 (cI_hr (l' := 0) hC (by decide) (fun _ _ => rfl)) (mI_hu hM), u, 0, hC.1, by decide, (hush_ok hC.1 s).2⟩
theorem walk_LI {O : Nat → Int32} {P : Nat → Nat → Int32} {Y : Nat → Nat → Int64} {o : Nat → Int32} {A : Nat → Nat → Int32} {u h d d2 : Nat} (H : LI2 O P Y o A) (hC : cI u h d O P Y) (hM : mI u h d2 o A) (s : SS u h O P o A) {x : Int32} (q : isN u x) : LI2 (upd (upd O 13 (Int32.ofInt 1)) 14 (Int32.ofInt 0)) (updA P 56 (upd (P 56) 0 x)) Y (upd (upd o 30 (Int32.ofInt 1)) 33 (Int32.ofInt 0)) (updA A 20 (upd (A 20) 0 x)) := by
  obtain ⟨n, hn, e⟩ := isN_n hC.1 q
  subst e
  exact ⟨LI_mk H.1 (cI_wk hC hn) (mI_wk hM hn), u, h, hC.1, hC.2.2.2.1, walk_ok hC.1 s _⟩
theorem spV_W {O O' : Nat → Int32} {P P' : Nat → Nat → Int32} {l : Nat} (hl : l ≤ 20) (h9 : O' 9 = nI l) (q : spV O P O' P') : spW O P O' P' := ⟨⟨l, hl, h9⟩, q.1, q.2⟩
theorem listen_LI {O O' : Nat → Int32} {P P' : Nat → Nat → Int32} {Y : Nat → Nat → Int64} {o o' : Nat → Int32} {A A' : Nat → Nat → Int32} {u h d d2 : Nat} {x y R R' : Int32} (H : LI2 O P Y o A) (hC : cI u h d O P Y) (hM : mI u h d2 o A) (s : SS u h O P o A) (hk : kpR P A) (c : spV O P O' P') (m : eX o A o' A') (g : clR O P u x y O' P' R) (g' : mlR o A u x y o' A' R') : R = R' ∧ LI2 O' P' Y o' A' := by
  obtain ⟨e, h', hh', s'⟩ := listen_ok hC.1 hC.2.2.2.1 s hM.2.2.1 hk c m g g'
  exact ⟨e, LI_mk H.1 (cI_sp hC (spV_W hh' s'.2.2.2.1 c)) (mI_e hM m), u, h', hC.1, hh', s'⟩
theorem fewest_LI {O O' : Nat → Int32} {P P' : Nat → Nat → Int32} {Y : Nat → Nat → Int64} {o o' : Nat → Int32} {A A' : Nat → Nat → Int32} {u h d d2 : Nat} {x R R' : Int32} (H : LI2 O P Y o A) (hC : cI u h d O P Y) (hM : mI u h d2 o A) (s : SS u h O P o A) (hf : fnR O A) (c : spV O P O' P') (m : fwX o A o' A') (g : cfR O P u x O' P' R) (g' : fwR A u h x o' A' R' (o' = o ∧ A' = A)) : R = R' ∧ LI2 O' P' Y o' A' := by
  obtain ⟨e, h', hh', s'⟩ := fewest_ok hC.1 hC.2.2.2.1 s hM.2.2.1 hf c m g g'
  exact ⟨e, LI_mk H.1 (cI_sp hC (spV_W hh' s'.2.2.2.1 c)) (mI_f hM m), u, h', hC.1, hh', s'⟩
theorem wrC_P {O O' : Nat → Int32} {P P' : Nat → Nat → Int32} {Y : Nat → Nat → Int64} {E : Nat → Nat} {G : Nat → Int32} {lt : Nat → Nat → Nat → Bool} {u n : Nat} {x R : Int32} {z : Int64} (g : wrC O P Y E G lt u n x z O' P' R) : ∀ i, 26 < i → P' i = P i := fun i hi => by
  rcases g with ⟨_, _, _, e⟩ | ⟨_, _, _, _, _, _, ⟨_, _, _, e⟩ | ⟨_, _, _, _, _, ⟨_, _, _, e⟩ | ⟨_, _, _, e, _⟩⟩⟩
  · rw [e]
  · rw [e]
  · exact e i (by omega)
  · exact e i (by omega)
theorem write_LI {O O' : Nat → Int32} {P P' : Nat → Nat → Int32} {Y Y' : Nat → Nat → Int64} {o o' : Nat → Int32} {A A' : Nat → Nat → Int32} {u h d d2 : Nat} {x R R' : Int32} {z : Int64} (H : LI2 O P Y o A) (hC : cI u h d O P Y) (hM : mI u h d2 o A) (s : SS u h O P o A) (hY : wyI Y → wyI Y') (c : ∀ j, j ≠ 1 → j ≠ 2 → j ≠ 10 → j ≠ 11 → j ≠ 12 → O' j = O j) (m : ndY o u A o' A') (g : wrC O P Y (eW A) (A 6) (ltW A) u h x z O' P' R) (g' : wrM o A u h x z o' A' R') : R = R' ∧ LI2 O' P' Y' o' A' := by
  obtain ⟨e, u', hu', s'⟩ := write_ok hC.1 hC.2.2.2.1 s c m g g'
  have f := fun (j : Nat) (w : 13 ≤ j ∨ j = 0) => c j (by omega) (by omega) (by omega) (by omega) (by omega)
  obtain ⟨u2, w1, w2, w3, w4⟩ := id m.1
  have e2 : u2 = u' := (nI_eq (by omega) (by omega)).mp (w3.symm.trans s'.2.1)
  subst e2
  exact ⟨e, LI2_mk H hC w1 w2 hC.2.2.2.1 s' (mI_y hM m) ⟨f 0 (Or.inr rfl), wrC_P g 75 (by decide)⟩ (hY hC.2.2.2.2.2.1) (f 13 (by omega)) (f 14 (by omega)) (wrC_P g 56 (by decide)) (fun j hj => f j (by omega))⟩
theorem heL_nn (y : Int32) : ∀ (k : Nat) (g : Nat → Int32) (l : Nat), nnW l g → nnW (l + k) (heL y k g l)
  | 0, _, _, h => h
  | k + 1, g, l, h => by
    have := heL_nn y k (upd g l (dgV y k)) (l + 1) (fun i hi => by
      by_cases e : i = l
      · subst e
        rw [upd_self]
        exact (dgV_31 y k).2
      · rw [upd_ne _ _ e]
        exact h i (by omega))
    rw [show l + 1 + k = l + (k + 1) by omega] at this
    exact this
theorem hear_LI {O : Nat → Int32} {P : Nat → Nat → Int32} {Y : Nat → Nat → Int64} {o : Nat → Int32} {A : Nat → Nat → Int32} {u h d d2 n : Nat} (H : LI2 O P Y o A) (hC : cI u h d O P Y) (hM : mI u h d2 o A) (s : SS u h O P o A) (y : Int32) (hn : h + n ≤ 20) : LI2 (upd O 9 (nI (h + n))) (updA P 32 (heL y n (P 32) h)) Y (upd o 10 (nI (h + n))) (updA A 8 (heL y n (A 8) h)) :=
  ⟨LI_mk H.1 (cI_hr hC hn (fun i hi => updA_ne _ _ hi)) (mI_hr hM hn (heL_nn y n _ h hM.2.2.2.2.2.2.1)), u, h + n, hC.1, hn, hear_st hC.1 s y⟩
end
section
theorem er_0 {x : Int32} : x < 0 ↔ x.toInt < 0 := by
  rw [Int32.lt_iff_toInt_lt, Int32.toInt_zero]
theorem isN_nI {u n : Nat} (hu : u ≤ 120) (hn : n < u) : isN u (nI n) := by
  unfold isN
  rw [nI_toInt (by omega)]
  omega
end
section
theorem has_appA (ws : List Int32) (g : Nat → Int32) : hasW (appA g 0 ws) ws := fun t v e => by
  have := appA_at ws g 0 t e
  rwa [Nat.zero_add] at this
end
section
noncomputable def eN (A : Nat → Nat → Int32) : Nat → Int32 → Int32 → Nat
  | 0, _, _ => 0
  | z + 1, x, y => if x < 0 then 0 else (if A 0 (nC x) = A 0 (nC y) then eN A z (A 2 (nC x)) (A 2 (nC y)) + eN A z (A 3 (nC x)) (A 3 (nC y)) else 1)
end
section
/-- the KINDS of a tree, a NODE ahead of its PARTS -/
noncomputable def klP (P : Nat → Nat → Int32) (u : Int32) : Nat → Int32 → List Int32
  | 0, _ => []
  | f + 1, n => if 0 ≤ n.toInt ∧ n.toInt < u.toInt then P 2 (nC n) :: (klP P u f (P 4 (nC n)) ++ klP P u f (P 5 (nC n))) else []
theorem klP_y {P : Nat → Nat → Int32} {u n : Int32} (f : Nat) (h : 0 ≤ n.toInt ∧ n.toInt < u.toInt) : klP P u (f + 1) n = P 2 (nC n) :: (klP P u f (P 4 (nC n)) ++ klP P u f (P 5 (nC n))) := if_pos h
theorem klP_n {P : Nat → Nat → Int32} {u n : Int32} (f : Nat) (h : ¬ (0 ≤ n.toInt ∧ n.toInt < u.toInt)) : klP P u f n = [] := by
  cases f with
  | zero => rfl
  | succ f => exact if_neg h
theorem updA_2 (A : Nat → Nat → Int32) (k : Nat) (g h : Nat → Int32) : updA (updA A k g) k h = updA A k h := by
  funext j
  unfold updA
  split <;> rfl
theorem appA_c (g : Nat → Int32) (q : Nat) (v : Int32) (L : List Int32) : appA g q (v :: L) = appA (upd g q v) (q + 1) L := rfl
/-- one shelf of the class: a NODE, a ROW -/
def cNd (s : Nat) (O : Nat → Int32) (k v z : Int32) : Prop := O (20 + 10 * s) = nI 1 ∧ O (22 + 10 * s) = k ∧ O (21 + 10 * s) = v ∧ O (23 + 10 * s) = z
def kpG (u : Nat) (y x n : Int32) : Prop := (0 ≤ y.toInt ∧ y.toInt ≤ 7) ∧ (x = nI 0 ∨ x = nI 3 ∨ ((x = nI 1 ∨ x = nI 4) ∧ isN u n))
/-- what keep leaves of the class -/
def kpC (O : Nat → Int32) (P : Nat → Nat → Int32) (u l : Nat) (y x n : Int32) (O' : Nat → Int32) (P' : Nat → Nat → Int32) (R : Int32) : Prop :=
  (R = Int32.ofInt (-1) ∧ ¬ kpG u y x n ∧ O' = O ∧ P' = P) ∨ ∃ s, s < 8 ∧ y = nI s ∧ R = Int32.ofInt 0 ∧ shW O P s O' P' ∧ ((x = nI 0 ∧ O' (20 + 10 * s) = nI 0) ∨ (∃ j, j < u ∧ n = nI j ∧ x = nI 1 ∧ cNd s O' (P 2 j) (P 3 j) (P 6 j)) ∨ (x = nI 3 ∧ O' (20 + 10 * s) = nI 3 ∧ O' (24 + 10 * s) = nI l ∧ ∀ i, i < l → P' (60 + 2 * s) i = P 32 i) ∨ (∃ j, j < u ∧ n = nI j ∧ x = nI 4 ∧ O' (20 + 10 * s) = nI 4 ∧ O' (24 + 10 * s) = P 6 j ∧ hasW (P' (60 + 2 * s)) (klP P (O 1) 40 (nI j))))
set_option maxHeartbeats 1000000 in
set_option maxRecDepth 20000 in
theorem hNouLX (O : Nat → Int32) (P0 : Nat → Nat → Int32) (Y : Nat → Nat → Int64) (g : Nat → zC) {s : Nat} (hs : s < 8) (a b : Int32) {n0 : Nat} : ∀ (c i : Nat), i + c = 60 → ∀ {P : Nat → Nat → Int32}, (∀ j, j ≠ 60 + 2 * s → P j = P0 j) → (∀ j, j < i → P (60 + 2 * s) j = Int32.ofInt 0) → ∀ {x3 : Int32}, x3 = nI i → zV (zMo 0 zX3_holdNoughts) false n0 0 0 12 [(3, .int x3), (0, .ref (59 + 2 * s)), (1, .int a), (2, .int b)] [] (wX O P Y g) (fun r w' => r = none ∧ ∃ P' : Nat → Nat → Int32, w' = wX O P' Y g ∧ (∀ j, j ≠ 60 + 2 * s → P' j = P0 j) ∧ ∀ j, j < 60 → P' (60 + 2 * s) j = Int32.ofInt 0) := by
  intro c
  induction c with
  | zero =>
    intro i hc P hP hD x3 e3
    subst e3
    iterate 3 (refine zv_step (bX3_holdNoughts 0) rfl rfl trivial ?_)
    refine zv_ift (show c8 60 ≤ nI i by rw [show c8 60 = nI 60 from rfl]; exact nI_le (by omega) (by omega)) ?_
    exact zv_ret (bX3_holdNoughts 0) rfl rfl (Nat.zero_le _) (Nat.zero_le _) ⟨rfl, P, rfl, hP, fun j hj => hD j (by omega)⟩
  | succ c ih =>
    intro i hc P hP hD x3 e3
    subst e3
    iterate 3 (refine zv_step (bX3_holdNoughts 0) rfl rfl trivial ?_)
    refine zv_iff (show ¬ c8 60 ≤ nI i by rw [show c8 60 = nI 60 from rfl]; exact nI_ge (by omega) (by omega)) ?_
    iterate 1 (refine zv_step (bX3_holdNoughts 0) rfl rfl trivial ?_)
    refine zv_getf (bX3_holdNoughts 0) rfl (wS O P Y g hs) rfl ?_
    iterate 2 (refine zv_step (bX3_holdNoughts 0) rfl rfl trivial ?_)
    refine zv_iast (bX3_holdNoughts 0) rfl (wSr O P Y g hs) (show vp_in (nI i) 60 from vp_in_nI (by omega) (by decide)) ?_
    refine zv_world (wSrset O P Y g _ hs) ?_
    iterate 2 (refine zv_step (bX3_holdNoughts 0) rfl rfl trivial ?_)
    exact ih (i + 1) (by omega) (fun j hj => (updA_ne _ _ hj).trans (hP j hj)) (fun j hj => by
      rw [updA_self]
      by_cases w : j = i
      · subst w
        rw [nI_clamp (by omega), upd_self]
      · rw [nI_clamp (by omega), upd_ne _ _ w]
        exact hD j (by omega)) (nI_1 i)
set_option maxHeartbeats 1000000 in
set_option maxRecDepth 20000 in
theorem hNoughtsX (O : Nat → Int32) (P : Nat → Nat → Int32) (Y : Nat → Nat → Int64) (g : Nat → zC) {s : Nat} (hs : s < 8) (a b : Int32) : zK 0 zX3_holdNoughts [.ref (59 + 2 * s), .int a, .int b] (wX O P Y g) (fun r w' => r = none ∧ ∃ P' : Nat → Nat → Int32, w' = wX (upd (upd O (20 + 10 * s) a) (24 + 10 * s) b) P' Y g ∧ (∀ j, j ≠ 60 + 2 * s → P' j = P j) ∧ ∀ j, j < 60 → P' (60 + 2 * s) j = Int32.ofInt 0) := by
  refine zK_of qX3_holdNoughts (by decide +kernel) rfl ?_
  iterate 2 (refine zv_step (bX3_holdNoughts 0) rfl rfl trivial ?_)
  refine zv_putf (bX3_holdNoughts 0) rfl (wS O P Y g hs) rfl rfl ?_
  refine zv_world (wSset0 O P Y g a hs) ?_
  iterate 2 (refine zv_step (bX3_holdNoughts 0) rfl rfl trivial ?_)
  refine zv_putf (bX3_holdNoughts 0) rfl (wS (upd O (20 + 10 * s) a) P Y g hs) rfl rfl ?_
  refine zv_world (wSset5 (upd O (20 + 10 * s) a) P Y g b hs) ?_
  iterate 2 (refine zv_step (bX3_holdNoughts 0) rfl rfl trivial ?_)
  exact hNouLX (upd (upd O (20 + 10 * s) a) (24 + 10 * s) b) P Y g hs a b 60 0 rfl (fun _ _ => rfl) (fun j hj => absurd hj (Nat.not_lt_zero j)) rfl
set_option maxHeartbeats 1000000 in
set_option maxRecDepth 20000 in
theorem hRowLX (O : Nat → Int32) (P0 : Nat → Nat → Int32) (Y : Nat → Nat → Int64) (g : Nat → zC) {s : Nat} (hs : s < 8) (a : Int32) {n : Nat} (hn : n ≤ 20) {n0 : Nat} : ∀ (c i : Nat), i + c = n → ∀ {P : Nat → Nat → Int32}, (∀ j, j ≠ 60 + 2 * s → P j = P0 j) → (∀ j, j < i → P (60 + 2 * s) j = P0 32 j) → ∀ {x4 : Int32}, x4 = nI i → zV (zMo 0 zX3_holdRow) false n0 0 0 13 [(4, .int x4), (0, .ref (59 + 2 * s)), (1, .int a), (2, .ref 32), (3, .int (nI n))] [] (wX O P Y g) (fun r w' => r = none ∧ ∃ P' : Nat → Nat → Int32, w' = wX O P' Y g ∧ (∀ j, j ≠ 60 + 2 * s → P' j = P0 j) ∧ ∀ j, j < n → P' (60 + 2 * s) j = P0 32 j) := by
  intro c
  induction c with
  | zero =>
    intro i hc P hP hD x4 e4
    subst e4
    iterate 3 (refine zv_step (bX3_holdRow 0) rfl rfl trivial ?_)
    refine zv_ift (nI_le (by omega) (by omega)) ?_
    exact zv_ret (bX3_holdRow 0) rfl rfl (Nat.zero_le _) (Nat.zero_le _) ⟨rfl, P, rfl, hP, fun j hj => hD j (by omega)⟩
  | succ c ih =>
    intro i hc P hP hD x4 e4
    subst e4
    iterate 3 (refine zv_step (bX3_holdRow 0) rfl rfl trivial ?_)
    refine zv_iff (nI_ge (by omega) (by omega)) ?_
    iterate 3 (refine zv_step (bX3_holdRow 0) rfl rfl trivial ?_)
    refine zv_iff (show ¬ c8 60 ≤ nI i by rw [show c8 60 = nI 60 from rfl]; exact nI_ge (by omega) (by omega)) ?_
    iterate 4 (refine zv_step (bX3_holdRow 0) rfl rfl trivial ?_)
    refine zv_iff (show ¬ Int32.ofNat 20 ≤ nI i by rw [show Int32.ofNat 20 = nI 20 from rfl]; exact nI_ge (by omega) (by omega)) ?_
    iterate 1 (refine zv_step (bX3_holdRow 0) rfl rfl trivial ?_)
    refine zv_getf (bX3_holdRow 0) rfl (wS O P Y g hs) rfl ?_
    iterate 3 (refine zv_step (bX3_holdRow 0) rfl rfl trivial ?_)
    refine zv_iale (bX3_holdRow 0) rfl rfl (show vp_in (nI i) 20 from vp_in_nI (by omega) (by decide)) (show P 32 (nI i).toNatClampNeg = P0 32 i by rw [nI_clamp (by omega), hP 32 (by omega)]) ?_
    refine zv_iast (bX3_holdRow 0) rfl (wSr O P Y g hs) (show vp_in (nI i) 60 from vp_in_nI (by omega) (by decide)) ?_
    refine zv_world (wSrset O P Y g _ hs) ?_
    iterate 2 (refine zv_step (bX3_holdRow 0) rfl rfl trivial ?_)
    exact ih (i + 1) (by omega) (fun j hj => (updA_ne _ _ hj).trans (hP j hj)) (fun j hj => by
      rw [updA_self]
      by_cases w : j = i
      · subst w
        rw [nI_clamp (by omega), upd_self]
      · rw [nI_clamp (by omega), upd_ne _ _ w]
        exact hD j (by omega)) (nI_1 i)
set_option maxHeartbeats 1000000 in
set_option maxRecDepth 20000 in
theorem hHoldRowX (O : Nat → Int32) (P : Nat → Nat → Int32) (Y : Nat → Nat → Int64) (g : Nat → zC) {s : Nat} (hs : s < 8) (a : Int32) {n : Nat} (hn : n ≤ 20) : zK 0 zX3_holdRow [.ref (59 + 2 * s), .int a, .ref 32, .int (nI n)] (wX O P Y g) (fun r w' => r = none ∧ ∃ P' : Nat → Nat → Int32, w' = wX (upd (upd O (20 + 10 * s) a) (24 + 10 * s) (nI n)) P' Y g ∧ (∀ j, j ≠ 60 + 2 * s → P' j = P j) ∧ ∀ j, j < n → P' (60 + 2 * s) j = P 32 j) := by
  refine zK_of qX3_holdRow (by decide +kernel) rfl ?_
  iterate 2 (refine zv_step (bX3_holdRow 0) rfl rfl trivial ?_)
  refine zv_putf (bX3_holdRow 0) rfl (wS O P Y g hs) rfl rfl ?_
  refine zv_world (wSset0 O P Y g a hs) ?_
  iterate 2 (refine zv_step (bX3_holdRow 0) rfl rfl trivial ?_)
  refine zv_putf (bX3_holdRow 0) rfl (wS (upd O (20 + 10 * s) a) P Y g hs) rfl rfl ?_
  refine zv_world (wSset5 (upd O (20 + 10 * s) a) P Y g (nI n) hs) ?_
  iterate 2 (refine zv_step (bX3_holdRow 0) rfl rfl trivial ?_)
  exact hRowLX (upd (upd O (20 + 10 * s) a) (24 + 10 * s) (nI n)) P Y g hs a hn n 0 (by omega) (fun _ _ => rfl) (fun j hj => absurd hj (Nat.not_lt_zero j)) rfl
set_option maxHeartbeats 1000000 in
set_option maxRecDepth 20000 in
theorem pLayFX (O : Nat → Int32) (P : Nat → Nat → Int32) (Y : Nat → Nat → Int64) (g : Nat → zC) (hu : (O 1).toInt ≤ 120) {s : Nat} (hs : s < 8) : ∀ (f : Nat), f < 100 → ∀ (ρ : Nat → Int32) (n : Int32) (q : Nat) (y z : Int32), y = nI q → z = nI f → q + (klP P (O 1) f n).length ≤ 60 → zK (f + 1) zX2_layKindsFrom [.ref 1, .int n, .ref (60 + 2 * s), .int y, .int z] (wX O (updA P (60 + 2 * s) ρ) Y g) (fun r w' => r = some (.int (nI (q + (klP P (O 1) f n).length))) ∧ w' = wX O (updA P (60 + 2 * s) (appA ρ q (klP P (O 1) f n))) Y g) := by
  intro f
  induction f with
  | zero =>
    intro hf ρ n q y z ey ez hq
    subst ey ez
    refine zK_of qX2_layKindsFrom (by decide +kernel) rfl ?_
    iterate 2 (refine zv_step (bX2_layKindsFrom (0 + 1)) rfl rfl trivial ?_)
    refine zv_V1 (bX2_layKindsFrom (0 + 1)) rfl rfl rfl rfl rfl rfl rfl ⟨rfl, rfl, rfl⟩ ⟨by show 0 + 1 ≤ 0 + 1; omega, by show 8 + (2 + 11) + 64 * (0) ≤ 64 * (0 + 1); omega⟩ ⟨Nat.zero_le _, Nat.zero_le _⟩ (pHas1 O (updA P (60 + 2 * s) ρ) Y g _) ?_
    rintro _ _ ⟨rfl, ⟨hh, rfl⟩ | ⟨hh, rfl⟩⟩
    · skip
      iterate 1 (refine zv_step (bX2_layKindsFrom (0 + 1)) rfl rfl trivial ?_)
      refine zv_iff (by decide) ?_
      iterate 2 (refine zv_step (bX2_layKindsFrom (0 + 1)) rfl rfl trivial ?_)
      refine zv_alen (bX2_layKindsFrom (0 + 1)) rfl (wSr O (updA P (60 + 2 * s) ρ) Y g hs) ?_
      iterate 1 (refine zv_step (bX2_layKindsFrom (0 + 1)) rfl rfl trivial ?_)
      refine zv_ifb (fun h11 => ?_) (fun h11 => ?_)
      · iterate 1 (refine zv_step (bX2_layKindsFrom (0 + 1)) rfl rfl trivial ?_)
        exact zv_iret (bX2_layKindsFrom (0 + 1)) rfl (Or.inl rfl) (Nat.zero_le _) (Nat.zero_le _) ⟨rfl, rfl⟩
      · iterate 2 (refine zv_step (bX2_layKindsFrom (0 + 1)) rfl rfl trivial ?_)
        refine zv_iff (by decide) ?_
        iterate 1 (refine zv_step (bX2_layKindsFrom (0 + 1)) rfl rfl trivial ?_)
        exact zv_iret (bX2_layKindsFrom (0 + 1)) rfl (Or.inl rfl) (Nat.zero_le _) (Nat.zero_le _) ⟨rfl, rfl⟩
    · skip
      iterate 1 (refine zv_step (bX2_layKindsFrom (0 + 1)) rfl rfl trivial ?_)
      refine zv_ift (by decide) ?_
      iterate 1 (refine zv_step (bX2_layKindsFrom (0 + 1)) rfl rfl trivial ?_)
      exact zv_iret (bX2_layKindsFrom (0 + 1)) rfl (Or.inl rfl) (Nat.zero_le _) (Nat.zero_le _) ⟨by rw [klP_n _ hh]; rfl, by rw [klP_n _ hh]; rfl⟩
  | succ f ih0 =>
    intro hf ρ n q y z ey ez hq
    subst ey ez
    have ih : ∀ (ρ : Nat → Int32) (n : Int32) (q : Nat) (y z : Int32), y = nI q → z = nI f → q + (klP P (O 1) f n).length ≤ 60 → zK (f + 1) zX2_layKindsFrom [.ref 1, .int n, .ref (60 + 2 * s), .int y, .int z] (wX O (updA P (60 + 2 * s) ρ) Y g) (fun r w' => r = some (.int (nI (q + (klP P (O 1) f n).length))) ∧ w' = wX O (updA P (60 + 2 * s) (appA ρ q (klP P (O 1) f n))) Y g) := ih0 (by omega)
    refine zK_of qX2_layKindsFrom (by decide +kernel) rfl ?_
    iterate 2 (refine zv_step (bX2_layKindsFrom (f + 1 + 1)) rfl rfl trivial ?_)
    refine zv_V1 (bX2_layKindsFrom (f + 1 + 1)) rfl rfl rfl rfl rfl rfl rfl ⟨rfl, rfl, rfl⟩ ⟨by show 0 + 1 ≤ f + 1 + 1; omega, by show 8 + (2 + 11) + 64 * (0) ≤ 64 * (f + 1 + 1); omega⟩ ⟨Nat.zero_le _, Nat.zero_le _⟩ (pHas1 O (updA P (60 + 2 * s) ρ) Y g _) ?_
    rintro _ _ ⟨rfl, ⟨hh, rfl⟩ | ⟨hh, rfl⟩⟩
    · skip
      iterate 1 (refine zv_step (bX2_layKindsFrom (f + 1 + 1)) rfl rfl trivial ?_)
      refine zv_iff (by decide) ?_
      have ek := klP_y (P := P) f hh
      have hv : vp_in n 120 := vp_in_iff.mpr ⟨hh.1, Int.lt_of_lt_of_le hh.2 hu⟩
      rw [ek] at hq ⊢
      have hl9 : q + (1 + ((klP P (O 1) f (P 4 (nC n))).length + (klP P (O 1) f (P 5 (nC n))).length)) ≤ 60 := by
        simp only [List.length_cons, List.length_append] at hq
        omega
      iterate 2 (refine zv_step (bX2_layKindsFrom (f + 1 + 1)) rfl rfl trivial ?_)
      refine zv_alen (bX2_layKindsFrom (f + 1 + 1)) rfl (wSr O (updA P (60 + 2 * s) ρ) Y g hs) ?_
      iterate 1 (refine zv_step (bX2_layKindsFrom (f + 1 + 1)) rfl rfl trivial ?_)
      refine zv_iff (show ¬ Int32.ofNat 60 ≤ nI q by rw [show Int32.ofNat 60 = nI 60 from rfl, nI_leI (by omega) (by omega)]; omega) ?_
      iterate 2 (refine zv_step (bX2_layKindsFrom (f + 1 + 1)) rfl rfl trivial ?_)
      refine zv_ift (nI_gt0 (by omega)) ?_
      iterate 5 (refine zv_step (bX2_layKindsFrom (f + 1 + 1)) rfl rfl trivial ?_)
      refine zv_iale (bX2_layKindsFrom (f + 1 + 1)) rfl rfl hv (show (updA P (60 + 2 * s) ρ) 2 n.toNatClampNeg = P 2 (nC n) by rw [updA_ne _ _ (by omega)]; rfl) ?_
      refine zv_iast (bX2_layKindsFrom (f + 1 + 1)) rfl (wSr O (updA P (60 + 2 * s) ρ) Y g hs) (show vp_in (nI q) 60 from vp_in_nI (by omega) (by decide)) ?_
      refine zv_world (show _ = wX O (updA P (60 + 2 * s) (upd ρ q (P 2 (nC n)))) Y g from by rw [wSrset O (updA P (60 + 2 * s) ρ) Y g _ hs, updA_2, updA_self, nI_clamp (by omega)]) ?_
      iterate 4 (refine zv_step (bX2_layKindsFrom (f + 1 + 1)) rfl rfl trivial ?_)
      refine zv_iale (bX2_layKindsFrom (f + 1 + 1)) rfl rfl hv (show (updA P (60 + 2 * s) (upd ρ q (P 2 (nC n)))) 4 n.toNatClampNeg = P 4 (nC n) by rw [updA_ne _ _ (by omega)]; rfl) ?_
      iterate 7 (refine zv_step (bX2_layKindsFrom (f + 1 + 1)) rfl rfl trivial ?_)
      refine zv_V4 (bX2_layKindsFrom (f + 1 + 1)) rfl rfl rfl rfl rfl rfl rfl ⟨rfl, rfl, rfl⟩ ⟨by show f + 1 + 1 ≤ f + 1 + 1; omega, by show 8 + (6 + 11) + 64 * (f + 1) ≤ 64 * (f + 1 + 1); omega⟩ ⟨Nat.zero_le _, Nat.zero_le _⟩ (ih (upd ρ q (P 2 (nC n))) _ (q + 1) _ _ (nI_1 q) (sub_1 (by omega)) (by omega)) ?_
      rintro _ _ ⟨rfl, rfl⟩
      iterate 5 (refine zv_step (bX2_layKindsFrom (f + 1 + 1)) rfl rfl trivial ?_)
      refine zv_iale (bX2_layKindsFrom (f + 1 + 1)) rfl rfl hv (show (updA P (60 + 2 * s) (appA (upd ρ q (P 2 (nC n))) (q + 1) (klP P (O 1) f (P 4 (nC n))))) 5 n.toNatClampNeg = P 5 (nC n) by rw [updA_ne _ _ (by omega)]; rfl) ?_
      iterate 5 (refine zv_step (bX2_layKindsFrom (f + 1 + 1)) rfl rfl trivial ?_)
      refine zv_V4 (bX2_layKindsFrom (f + 1 + 1)) rfl rfl rfl rfl rfl rfl rfl ⟨rfl, rfl, rfl⟩ ⟨by show f + 1 + 1 ≤ f + 1 + 1; omega, by show 8 + (6 + 11) + 64 * (f + 1) ≤ 64 * (f + 1 + 1); omega⟩ ⟨Nat.zero_le _, Nat.zero_le _⟩ (ih (appA (upd ρ q (P 2 (nC n))) (q + 1) (klP P (O 1) f (P 4 (nC n)))) _ (q + 1 + (klP P (O 1) f (P 4 (nC n))).length) _ _ rfl (sub_1 (by omega)) (by omega)) ?_
      rintro _ _ ⟨rfl, rfl⟩
      exact zv_iret (bX2_layKindsFrom (f + 1 + 1)) rfl (Or.inl rfl) (Nat.zero_le _) (Nat.zero_le _) ⟨congrArg (fun v => some (Value.int v)) (show nI (q + 1 + (klP P (O 1) f (P 4 (nC n))).length + (klP P (O 1) f (P 5 (nC n))).length) = nI (q + (P 2 (nC n) :: ((klP P (O 1) f (P 4 (nC n))) ++ (klP P (O 1) f (P 5 (nC n))))).length) by rw [List.length_cons, List.length_append, show q + 1 + (klP P (O 1) f (P 4 (nC n))).length + (klP P (O 1) f (P 5 (nC n))).length = q + ((klP P (O 1) f (P 4 (nC n))).length + (klP P (O 1) f (P 5 (nC n))).length + 1) by omega]), by rw [appA_c, appA_app]⟩
    · skip
      iterate 1 (refine zv_step (bX2_layKindsFrom (f + 1 + 1)) rfl rfl trivial ?_)
      refine zv_ift (by decide) ?_
      iterate 1 (refine zv_step (bX2_layKindsFrom (f + 1 + 1)) rfl rfl trivial ?_)
      exact zv_iret (bX2_layKindsFrom (f + 1 + 1)) rfl (Or.inl rfl) (Nat.zero_le _) (Nat.zero_le _) ⟨by rw [klP_n _ hh]; rfl, by rw [klP_n _ hh]; rfl⟩
set_option maxHeartbeats 1000000 in
set_option maxRecDepth 20000 in
theorem pLayX (O : Nat → Int32) (P : Nat → Nat → Int32) (Y : Nat → Nat → Int64) (g : Nat → zC) (hu : (O 1).toInt ≤ 120) {s : Nat} (hs : s < 8) (ρ : Nat → Int32) (n : Int32) (hq : (klP P (O 1) 40 n).length ≤ 60) : zK 42 zX2_layKinds [.ref 1, .int n, .ref (60 + 2 * s)] (wX O (updA P (60 + 2 * s) ρ) Y g) (fun r w' => r = none ∧ w' = wX O (updA P (60 + 2 * s) (appA ρ 0 (klP P (O 1) 40 n))) Y g) := by
  refine zK_of qX2_layKinds (by decide +kernel) rfl ?_
  iterate 5 (refine zv_step (bX2_layKinds 42) rfl rfl trivial ?_)
  refine zv_V4 (bX2_layKinds 42) rfl rfl rfl rfl rfl rfl rfl ⟨rfl, rfl, rfl⟩ ⟨by decide, by decide⟩ ⟨Nat.zero_le _, Nat.zero_le _⟩ (pLayFX O P Y g hu hs 40 (by decide) ρ _ 0 _ _ rfl rfl (by omega)) ?_
  rintro _ _ ⟨rfl, rfl⟩
  iterate 1 (refine zv_step (bX2_layKinds 42) rfl rfl trivial ?_)
  exact zv_ret (bX2_layKinds 42) rfl rfl (Nat.zero_le _) (Nat.zero_le _) ⟨rfl, rfl⟩
theorem klP_fr {P P' : Nat → Nat → Int32} {u : Int32} (h2 : P' 2 = P 2) (h4 : P' 4 = P 4) (h5 : P' 5 = P 5) : ∀ (f : Nat) (n : Int32), klP P' u f n = klP P u f n
  | 0, _ => rfl
  | f + 1, n => by
    show (if 0 ≤ n.toInt ∧ n.toInt < u.toInt then P' 2 (nC n) :: (klP P' u f (P' 4 (nC n)) ++ klP P' u f (P' 5 (nC n))) else []) = (if 0 ≤ n.toInt ∧ n.toInt < u.toInt then P 2 (nC n) :: (klP P u f (P 4 (nC n)) ++ klP P u f (P 5 (nC n))) else [])
    rw [h2, h4, h5, klP_fr h2 h4 h5 f, klP_fr h2 h4 h5 f]
set_option maxHeartbeats 1000000 in
set_option maxRecDepth 20000 in
theorem cKeepNodeX (O : Nat → Int32) (P : Nat → Nat → Int32) (Y : Nat → Nat → Int64) (g : Nat → zC) {u : Nat} (hu0 : u ≤ 120) (h1 : O 1 = nI u) (hp : pgI u (P 2) (P 4) (P 5) (P 6)) (hkl : ∀ j, j < u → (klP P (O 1) 40 (nI j)).length ≤ 60) {s : Nat} (hs : s < 8) (k n : Int32) : zK 43 zX6_keepNode [.ref 0, .ref (59 + 2 * s), .int k, .int n] (wX O P Y g) (fun r w' => ∃ (O' : Nat → Int32) (P' : Nat → Nat → Int32) (R : Int32), r = some (.int R) ∧ w' = wX O' P' Y g ∧ ((R = Int32.ofInt (-1) ∧ ¬ isN u n ∧ O' = O ∧ P' = P) ∨ (R = Int32.ofInt 0 ∧ shW O P s O' P' ∧ ∃ j, j < u ∧ n = nI j ∧ ((k = nI 1 ∧ cNd s O' (P 2 j) (P 3 j) (P 6 j)) ∨ (¬ k = nI 1 ∧ O' (20 + 10 * s) = nI 4 ∧ O' (24 + 10 * s) = P 6 j ∧ hasW (P' (60 + 2 * s)) (klP P (O 1) 40 (nI j))))))) := by
  refine zK_of qX6_keepNode (by decide +kernel) rfl ?_
  iterate 1 (refine zv_step (bX6_keepNode 43) rfl rfl trivial ?_)
  refine zv_getf (bX6_keepNode 43) rfl (rfl) rfl ?_
  iterate 1 (refine zv_step (bX6_keepNode 43) rfl rfl trivial ?_)
  refine zv_V1 (bX6_keepNode 43) rfl rfl rfl rfl rfl rfl rfl ⟨rfl, rfl, rfl⟩ ⟨by decide, by decide⟩ ⟨Nat.zero_le _, Nat.zero_le _⟩ (pHas1 O P Y g _) ?_
  rintro _ _ ⟨rfl, ⟨hh, rfl⟩ | ⟨hh, rfl⟩⟩
  · have hu : (O 1).toInt ≤ 120 := by rw [h1, nI_toInt (by omega)]; omega
    obtain ⟨j, hj, rfl⟩ := has_j hu0 h1 hh
    have hv : vp_in (nI j) 120 := vp_in_nI (by omega) (by decide)
    obtain ⟨m, hm, em⟩ : ∃ m : Nat, m ≤ 60 ∧ P 6 j = nI m := by
      obtain ⟨-, -, -, z, hz, -, z2, -⟩ := hp j hj
      exact ⟨z, by omega, hz⟩
    iterate 1 (refine zv_step (bX6_keepNode 43) rfl rfl trivial ?_)
    refine zv_ift (by decide) ?_
    iterate 3 (refine zv_step (bX6_keepNode 43) rfl rfl trivial ?_)
    refine zv_ifb (fun h15 => ?_) (fun h15 => ?_)
    · iterate 3 (refine zv_step (bX6_keepNode 43) rfl rfl trivial ?_)
      refine zv_getf (bX6_keepNode 43) rfl (rfl) rfl ?_
      refine zv_getf (bX6_keepNode 43) rfl (rfl) rfl ?_
      iterate 1 (refine zv_step (bX6_keepNode 43) rfl rfl trivial ?_)
      refine zv_iale (bX6_keepNode 43) rfl rfl hv (show P 6 (nI j).toNatClampNeg = P 6 j by rw [nI_clamp (by omega)]) ?_
      refine zv_V2 (bX6_keepNode 43) rfl rfl rfl (wS O P Y g hs) rfl rfl rfl ⟨rfl, rfl, rfl⟩ ⟨by decide, by decide⟩ ⟨Nat.zero_le _, Nat.zero_le _⟩ (hNoughtsX O P Y g hs _ _) ?_
      rintro _ _ ⟨rfl, P1, rfl, hP1, hD1⟩
      refine zv_world (show _ = wX (upd (upd O (20 + 10 * s) (Int32.ofInt 4)) (24 + 10 * s) (P 6 j)) (updA P1 (60 + 2 * s) (P1 (60 + 2 * s))) Y g from by rw [updA_same]) ?_
      have ekl : klP P1 ((upd (upd O (20 + 10 * s) (Int32.ofInt 4)) (24 + 10 * s) (P 6 j)) 1) 40 (nI j) = klP P (O 1) 40 (nI j) := by
        rw [upd_ne _ _ (by omega), upd_ne _ _ (by omega)]
        exact klP_fr (hP1 2 (by omega)) (hP1 4 (by omega)) (hP1 5 (by omega)) 40 _
      iterate 1 (refine zv_step (bX6_keepNode 43) rfl rfl trivial ?_)
      refine zv_getf (bX6_keepNode 43) rfl (rfl) rfl ?_
      iterate 2 (refine zv_step (bX6_keepNode 43) rfl rfl trivial ?_)
      refine zv_getf (bX6_keepNode 43) rfl (wS (upd (upd O (20 + 10 * s) (Int32.ofInt 4)) (24 + 10 * s) (P 6 j)) (updA P1 (60 + 2 * s) (P1 (60 + 2 * s))) Y g hs) rfl ?_
      refine zv_V2 (bX6_keepNode 43) rfl rfl rfl rfl rfl rfl rfl ⟨rfl, rfl, rfl⟩ ⟨by decide, by decide⟩ ⟨Nat.zero_le _, Nat.zero_le _⟩ (pLayX (upd (upd O (20 + 10 * s) (Int32.ofInt 4)) (24 + 10 * s) (P 6 j)) P1 Y g (by rw [upd_ne _ _ (by omega), upd_ne _ _ (by omega)]; exact hu) hs _ _ (by rw [ekl]; exact hkl j hj)) ?_
      rintro _ _ ⟨rfl, rfl⟩
      iterate 1 (refine zv_step (bX6_keepNode 43) rfl rfl trivial ?_)
      exact zv_iret (bX6_keepNode 43) rfl (Or.inl rfl) (Nat.zero_le _) (Nat.zero_le _) ⟨_, _, _, rfl, rfl, Or.inr ⟨rfl, ⟨fun j hj => by rw [upd_ne _ _ (by omega), upd_ne _ _ (by omega)], fun i hi => (updA_ne _ _ hi).trans (hP1 i hi), Or.inr ⟨m, hm, by rw [upd_self]; exact em⟩⟩, j, hj, rfl, Or.inr ⟨h15, by rw [upd_ne _ _ (by omega), upd_self]; rfl, upd_self _ _ _, by rw [updA_self, ekl]; exact has_appA _ _⟩⟩⟩
    · iterate 2 (refine zv_step (bX6_keepNode 43) rfl rfl trivial ?_)
      refine zv_getf (bX6_keepNode 43) rfl (rfl) rfl ?_
      refine zv_getf (bX6_keepNode 43) rfl (rfl) rfl ?_
      iterate 1 (refine zv_step (bX6_keepNode 43) rfl rfl trivial ?_)
      refine zv_iale (bX6_keepNode 43) rfl rfl hv (show P 2 (nI j).toNatClampNeg = P 2 j by rw [nI_clamp (by omega)]) ?_
      iterate 1 (refine zv_step (bX6_keepNode 43) rfl rfl trivial ?_)
      refine zv_getf (bX6_keepNode 43) rfl (rfl) rfl ?_
      refine zv_getf (bX6_keepNode 43) rfl (rfl) rfl ?_
      iterate 1 (refine zv_step (bX6_keepNode 43) rfl rfl trivial ?_)
      refine zv_iale (bX6_keepNode 43) rfl rfl hv (show P 3 (nI j).toNatClampNeg = P 3 j by rw [nI_clamp (by omega)]) ?_
      iterate 1 (refine zv_step (bX6_keepNode 43) rfl rfl trivial ?_)
      refine zv_getf (bX6_keepNode 43) rfl (rfl) rfl ?_
      refine zv_getf (bX6_keepNode 43) rfl (rfl) rfl ?_
      iterate 1 (refine zv_step (bX6_keepNode 43) rfl rfl trivial ?_)
      refine zv_iale (bX6_keepNode 43) rfl rfl hv (show P 6 (nI j).toNatClampNeg = P 6 j by rw [nI_clamp (by omega)]) ?_
      refine zv_V3 (bX6_keepNode 43) rfl rfl rfl (wS O P Y g hs) rfl rfl rfl ⟨rfl, rfl, rfl⟩ ⟨by decide, by decide⟩ ⟨Nat.zero_le _, Nat.zero_le _⟩ (hHoldNode O P Y g hs _ _ _) ?_
      rintro _ _ ⟨rfl, rfl⟩
      iterate 2 (refine zv_step (bX6_keepNode 43) rfl rfl trivial ?_)
      exact zv_iret (bX6_keepNode 43) rfl (Or.inl rfl) (Nat.zero_le _) (Nat.zero_le _) ⟨_, P, _, rfl, rfl, Or.inr ⟨rfl, ⟨fun j hj => by rw [upd_ne _ _ (by omega), upd_ne _ _ (by omega), upd_ne _ _ (by omega), upd_ne _ _ (by omega)], fun _ _ => rfl, Or.inl (by rw [upd_ne _ _ (by omega), upd_ne _ _ (by omega), upd_ne _ _ (by omega), upd_ne _ _ (by omega)])⟩, j, hj, rfl, Or.inl ⟨Decidable.not_not.mp h15, by rw [upd_ne _ _ (by omega), upd_ne _ _ (by omega), upd_ne _ _ (by omega), upd_self]; rfl, by rw [upd_ne _ _ (by omega), upd_ne _ _ (by omega), upd_self], by rw [upd_ne _ _ (by omega), upd_self], upd_self _ _ _⟩⟩⟩
  · skip
    iterate 1 (refine zv_step (bX6_keepNode 43) rfl rfl trivial ?_)
    refine zv_iff (by decide) ?_
    iterate 1 (refine zv_step (bX6_keepNode 43) rfl rfl trivial ?_)
    exact zv_iret (bX6_keepNode 43) rfl (Or.inl rfl) (Nat.zero_le _) (Nat.zero_le _) ⟨O, P, _, rfl, rfl, Or.inl ⟨rfl, fun q => hh (by rw [h1, nI_toInt (by omega)]; exact q), rfl, rfl⟩⟩
set_option maxHeartbeats 1000000 in
set_option maxRecDepth 20000 in
theorem cKeepTX (O : Nat → Int32) (P : Nat → Nat → Int32) (Y : Nat → Nat → Int64) (g : Nat → zC) {u : Nat} (hu0 : u ≤ 120) (h1 : O 1 = nI u) (hp : pgI u (P 2) (P 4) (P 5) (P 6)) (hkl : ∀ j, j < u → (klP P (O 1) 40 (nI j)).length ≤ 60) {l : Nat} (hl : l ≤ 20) (hO : O 9 = nI l) {s : Nat} (hs : s < 8) (x n : Int32) {n0 : Nat} : zV (zMo 44 zX6_keep) false n0 0 0 9 [(0, .ref 0), (1, .int (nI s)), (2, .int x), (3, .int n)] [] (wX O P Y g) (fun r w' => ∃ (O' : Nat → Int32) (P' : Nat → Nat → Int32) (R : Int32), r = some (.int R) ∧ w' = wX O' P' Y g ∧ kpC O P u l (nI s) x n O' P' R) := by
  refine zv_step (bX6_keep 44) rfl rfl trivial ?_
  by_cases hd : x.toInt < 0 ∨ 4 < x.toInt
  · refine zv_step (bX6_keep 44) rfl rfl (by decide) ?_
    rw [if_pos hd]
    iterate 1 (refine zv_step (bX6_keep 44) rfl rfl trivial ?_)
    exact zv_iret (bX6_keep 44) rfl (Or.inl rfl) (Nat.zero_le _) (Nat.zero_le _) ⟨O, P, _, rfl, rfl, Or.inl ⟨rfl, (fun q => by rcases q.2 with e | e | ⟨e | e, _⟩ <;> (rw [e, nI_toInt (by decide)] at hd; omega)), rfl, rfl⟩⟩
  · obtain ⟨c, hc, rfl⟩ : ∃ c : Nat, c < 5 ∧ x = nI c := by
      refine ⟨x.toInt.toNat, by omega, ?_⟩
      rw [← Int32.toInt_inj, nI_toInt (by omega)]
      omega
    match c, hc with
    | 0, _ =>
      refine zv_step (bX6_keep 44) rfl rfl (by decide) ?_
      iterate 1 (refine zv_step (bX6_keep 44) rfl rfl trivial ?_)
      refine zv_getf (bX6_keep 44) rfl (rfl) rfl ?_
      iterate 1 (refine zv_step (bX6_keep 44) rfl rfl trivial ?_)
      refine zv_aald (bX6_keep 44) rfl (Or.inl rfl) rfl (show vp_in (nI s) 8 from vp_in_nI (by omega) (by decide)) (show ([some 59, some 61, some 63, some 65, some 67, some 69, some 71, some 73] : List (Option Nat)).getD (nI s).toNatClampNeg none = some (59 + 2 * s) by rw [nI_clamp (by omega)]; exact dSs hs) ?_
      refine zv_V0 (bX6_keep 44) rfl rfl rfl (wS O P Y g hs) rfl rfl rfl ⟨rfl, rfl, rfl⟩ ⟨by decide, by decide⟩ ⟨Nat.zero_le _, Nat.zero_le _⟩ (hDrop O P Y g hs) ?_
      rintro _ _ ⟨rfl, rfl⟩
      iterate 1 (refine zv_step (bX6_keep 44) rfl rfl trivial ?_)
      exact zv_iret (bX6_keep 44) rfl (Or.inl rfl) (Nat.zero_le _) (Nat.zero_le _) ⟨_, P, _, rfl, rfl, Or.inr ⟨s, hs, rfl, rfl, ⟨fun j hj => by rw [upd_ne _ _ (by omega)], fun _ _ => rfl, Or.inl (by rw [upd_ne _ _ (by omega)])⟩, Or.inl ⟨rfl, upd_self _ _ _⟩⟩⟩
    | 1, _ =>
      refine zv_step (bX6_keep 44) rfl rfl (by decide) ?_
      iterate 2 (refine zv_step (bX6_keep 44) rfl rfl trivial ?_)
      refine zv_getf (bX6_keep 44) rfl (rfl) rfl ?_
      iterate 1 (refine zv_step (bX6_keep 44) rfl rfl trivial ?_)
      refine zv_aald (bX6_keep 44) rfl (Or.inl rfl) rfl (show vp_in (nI s) 8 from vp_in_nI (by omega) (by decide)) (show ([some 59, some 61, some 63, some 65, some 67, some 69, some 71, some 73] : List (Option Nat)).getD (nI s).toNatClampNeg none = some (59 + 2 * s) by rw [nI_clamp (by omega)]; exact dSs hs) ?_
      iterate 2 (refine zv_step (bX6_keep 44) rfl rfl trivial ?_)
      refine zv_V3 (bX6_keep 44) rfl rfl rfl rfl rfl rfl rfl ⟨rfl, rfl, rfl⟩ ⟨by decide, by decide⟩ ⟨Nat.zero_le _, Nat.zero_le _⟩ (cKeepNodeX O P Y g hu0 h1 hp hkl hs _ _) ?_
      rintro _ _ ⟨O1, P1, R1, rfl, rfl, ⟨rfl, qn, rfl, rfl⟩ | ⟨rfl, hW, j, hj, rfl, ⟨qk, qc⟩ | ⟨qk, qc⟩⟩⟩
      · skip
        exact zv_iret (bX6_keep 44) rfl (Or.inl rfl) (Nat.zero_le _) (Nat.zero_le _) ⟨_, _, _, rfl, rfl, Or.inl ⟨rfl, (fun q => by rcases q.2 with e | e | ⟨_, e⟩ <;> first | exact qn e | exact absurd e (by decide)), rfl, rfl⟩⟩
      · skip
        exact zv_iret (bX6_keep 44) rfl (Or.inl rfl) (Nat.zero_le _) (Nat.zero_le _) ⟨_, _, _, rfl, rfl, Or.inr ⟨s, hs, rfl, rfl, hW, Or.inr (Or.inl ⟨j, hj, rfl, rfl, qc⟩)⟩⟩
      · skip
        exact absurd rfl qk
    | 2, _ =>
      refine zv_step (bX6_keep 44) rfl rfl (by decide) ?_
      iterate 1 (refine zv_step (bX6_keep 44) rfl rfl trivial ?_)
      exact zv_iret (bX6_keep 44) rfl (Or.inl rfl) (Nat.zero_le _) (Nat.zero_le _) ⟨O, P, _, rfl, rfl, Or.inl ⟨rfl, (fun q => by rcases q.2 with e | e | ⟨e | e, _⟩ <;> exact absurd e (by decide)), rfl, rfl⟩⟩
    | 3, _ =>
      refine zv_step (bX6_keep 44) rfl rfl (by decide) ?_
      iterate 1 (refine zv_step (bX6_keep 44) rfl rfl trivial ?_)
      refine zv_getf (bX6_keep 44) rfl (rfl) rfl ?_
      iterate 1 (refine zv_step (bX6_keep 44) rfl rfl trivial ?_)
      refine zv_aald (bX6_keep 44) rfl (Or.inl rfl) rfl (show vp_in (nI s) 8 from vp_in_nI (by omega) (by decide)) (show ([some 59, some 61, some 63, some 65, some 67, some 69, some 71, some 73] : List (Option Nat)).getD (nI s).toNatClampNeg none = some (59 + 2 * s) by rw [nI_clamp (by omega)]; exact dSs hs) ?_
      iterate 2 (refine zv_step (bX6_keep 44) rfl rfl trivial ?_)
      refine zv_getf (bX6_keep 44) rfl (rfl) rfl ?_
      refine zv_getf (bX6_keep 44) rfl (rfl) rfl ?_
      iterate 1 (refine zv_step (bX6_keep 44) rfl rfl trivial ?_)
      refine zv_getf (bX6_keep 44) rfl (rfl) rfl ?_
      refine zv_getf (bX6_keep 44) rfl (rfl) (congrArg (fun q => some (Value.int q)) hO) ?_
      refine zv_V3 (bX6_keep 44) rfl rfl rfl (wS O P Y g hs) rfl rfl rfl ⟨rfl, rfl, rfl⟩ ⟨by decide, by decide⟩ ⟨Nat.zero_le _, Nat.zero_le _⟩ (hHoldRowX O P Y g hs _ hl) ?_
      rintro _ _ ⟨rfl, P1, rfl, hP1, hD1⟩
      iterate 1 (refine zv_step (bX6_keep 44) rfl rfl trivial ?_)
      exact zv_iret (bX6_keep 44) rfl (Or.inl rfl) (Nat.zero_le _) (Nat.zero_le _) ⟨_, P1, _, rfl, rfl, Or.inr ⟨s, hs, rfl, rfl, ⟨fun j hj => by rw [upd_ne _ _ (by omega), upd_ne _ _ (by omega)], hP1, Or.inr ⟨l, by omega, by rw [upd_self]⟩⟩, Or.inr (Or.inr (Or.inl ⟨rfl, by rw [upd_ne _ _ (by omega), upd_self]; rfl, upd_self _ _ _, hD1⟩))⟩⟩
    | 4, _ =>
      refine zv_step (bX6_keep 44) rfl rfl (by decide) ?_
      iterate 2 (refine zv_step (bX6_keep 44) rfl rfl trivial ?_)
      refine zv_getf (bX6_keep 44) rfl (rfl) rfl ?_
      iterate 1 (refine zv_step (bX6_keep 44) rfl rfl trivial ?_)
      refine zv_aald (bX6_keep 44) rfl (Or.inl rfl) rfl (show vp_in (nI s) 8 from vp_in_nI (by omega) (by decide)) (show ([some 59, some 61, some 63, some 65, some 67, some 69, some 71, some 73] : List (Option Nat)).getD (nI s).toNatClampNeg none = some (59 + 2 * s) by rw [nI_clamp (by omega)]; exact dSs hs) ?_
      iterate 2 (refine zv_step (bX6_keep 44) rfl rfl trivial ?_)
      refine zv_V3 (bX6_keep 44) rfl rfl rfl rfl rfl rfl rfl ⟨rfl, rfl, rfl⟩ ⟨by decide, by decide⟩ ⟨Nat.zero_le _, Nat.zero_le _⟩ (cKeepNodeX O P Y g hu0 h1 hp hkl hs _ _) ?_
      rintro _ _ ⟨O1, P1, R1, rfl, rfl, ⟨rfl, qn, rfl, rfl⟩ | ⟨rfl, hW, j, hj, rfl, ⟨qk, qc⟩ | ⟨qk, qc⟩⟩⟩
      · skip
        exact zv_iret (bX6_keep 44) rfl (Or.inl rfl) (Nat.zero_le _) (Nat.zero_le _) ⟨_, _, _, rfl, rfl, Or.inl ⟨rfl, (fun q => by rcases q.2 with e | e | ⟨_, e⟩ <;> first | exact qn e | exact absurd e (by decide)), rfl, rfl⟩⟩
      · skip
        exact absurd qk (by decide)
      · skip
        exact zv_iret (bX6_keep 44) rfl (Or.inl rfl) (Nat.zero_le _) (Nat.zero_le _) ⟨_, _, _, rfl, rfl, Or.inr ⟨s, hs, rfl, rfl, hW, Or.inr (Or.inr (Or.inr ⟨j, hj, rfl, rfl, qc⟩))⟩⟩
    | c + 5, h => exact absurd h (by omega)
set_option maxHeartbeats 1000000 in
set_option maxRecDepth 20000 in
theorem cKeepX (O : Nat → Int32) (P : Nat → Nat → Int32) (Y : Nat → Nat → Int64) (g : Nat → zC) {u : Nat} (hu0 : u ≤ 120) (h1 : O 1 = nI u) (hp : pgI u (P 2) (P 4) (P 5) (P 6)) (hkl : ∀ j, j < u → (klP P (O 1) 40 (nI j)).length ≤ 60) {l : Nat} (hl : l ≤ 20) (hO : O 9 = nI l) (y x n : Int32) : zK 44 zX6_keep [.ref 0, .int y, .int x, .int n] (wX O P Y g) (fun r w' => ∃ (O' : Nat → Int32) (P' : Nat → Nat → Int32) (R : Int32), r = some (.int R) ∧ w' = wX O' P' Y g ∧ kpC O P u l y x n O' P' R) := by
  refine zK_of qX6_keep (by decide +kernel) rfl ?_
  iterate 1 (refine zv_step (bX6_keep 44) rfl rfl trivial ?_)
  refine zv_S1 (bX6_keep 44) rfl rfl rfl rfl ⟨rfl, rfl, rfl⟩ ⟨by decide, by decide⟩ ⟨Nat.zero_le _, Nat.zero_le _⟩ (hX6_isShelf _ _) ?_
  rintro _ _ ⟨rfl, ⟨hx, rfl⟩ | ⟨hx, rfl⟩⟩
  · obtain ⟨s, hs, rfl⟩ := sh_of hx
    iterate 1 (refine zv_step (bX6_keep 44) rfl rfl trivial ?_)
    refine zv_ift (by decide) ?_
    exact cKeepTX O P Y g hu0 h1 hp hkl hl hO hs _ _
  · skip
    iterate 1 (refine zv_step (bX6_keep 44) rfl rfl trivial ?_)
    refine zv_iff (by decide) ?_
    iterate 1 (refine zv_step (bX6_keep 44) rfl rfl trivial ?_)
    exact zv_iret (bX6_keep 44) rfl (Or.inl rfl) (Nat.zero_le _) (Nat.zero_le _) ⟨O, P, _, rfl, rfl, Or.inl ⟨rfl, fun q => hx q.1, rfl, rfl⟩⟩
end
section
noncomputable def klA (A : Nat → Nat → Int32) : Nat → Int32 → List Int32
  | 0, _ => []
  | z + 1, x => if x < 0 then [] else A 0 (nC x) :: (klA A z (A 2 (nC x)) ++ klA A z (A 3 (nC x)))
theorem klA_m2 (A : Nat → Nat → Int32) (z : Nat) : klA A z m2 = [] := by
  cases z with
  | zero => rfl
  | succ z => exact if_pos (by decide)
theorem klA_nI {A : Nat → Nat → Int32} {n : Nat} (hn : n < 450) (z : Nat) : klA A (z + 1) (nI n) = A 0 n :: (klA A z (A 2 n) ++ klA A z (A 3 n)) := by
  show (if nI n < 0 then [] else A 0 (nI n).toNatClampNeg :: (klA A z (A 2 (nI n).toNatClampNeg) ++ klA A z (A 3 (nI n).toNatClampNeg))) = _
  rw [if_neg (nI_pos (by omega)), nI_clamp (by omega)]
theorem klA_len {lo hi : Nat} {A : Nat → Nat → Int32} (hh : hi ≤ 450) (hT : tbI lo hi A) : ∀ (z n : Nat), lo ≤ n → n < hi → szN A n ≤ z → (klA A z (nI n)).length = szN A n
  | 0, n, hlo, hn, hz => by
    have := (rN_sz (hT n hlo hn)).1
    omega
  | z + 1, n, hlo, hn, hz => by
    rw [klA_nI (by omega)]
    rcases rN_sum (hT n hlo hn) with ⟨h2, h3, es⟩ | ⟨a, h2, h3, la, ha, es⟩ | ⟨a, b, h2, h3, la, ha, lb, hb, es⟩
    · rw [h2, h3, klA_m2]
      exact es.symm
    · rw [h2, h3, klA_m2, List.append_nil, List.length_cons, klA_len hh hT z a (by omega) (by omega) (by omega)]
      omega
    · rw [h2, h3, List.length_cons, List.length_append, klA_len hh hT z a (by omega) (by omega) (by omega), klA_len hh hT z b (by omega) (by omega) (by omega)]
      omega
theorem kl_same {u : Nat} (hu : u ≤ 120) {P A : Nat → Nat → Int32} (hT : tbI 0 u A) (hN : NR u P A) : ∀ (z n : Nat), n < u → szN A n ≤ z → klP P (nI u) z (nI n) = klA A z (nI n)
  | 0, n, hn, hz => by
    have := (rN_sz (hT n (Nat.zero_le _) hn)).1
    omega
  | z + 1, n, hn, hz => by
    obtain ⟨n1, n2, n3, n4, n5, _⟩ := hN n hn
    have e1 : klP P (nI u) z m1 = [] := klP_n z (fun q => absurd q.1 (by decide))
    rw [klA_nI (by omega), klP_y z (has_n hn hu), show nC (nI n) = n from nI_clamp (by omega), n1, n3, n4]
    rcases rN_sum (hT n (Nat.zero_le _) hn) with ⟨h2, h3, es⟩ | ⟨a, h2, h3, la, ha, es⟩ | ⟨a, b, h2, h3, la, ha, lb, hb, es⟩
    · rw [h2, h3, cvI_m2, e1, klA_m2]
    · rw [h2, h3, cvI_m2, e1, klA_m2, cvI_nI (by omega), kl_same hu hT hN z a (by omega) (by omega)]
    · rw [h2, h3, cvI_nI (by omega), cvI_nI (by omega), kl_same hu hT hN z a (by omega) (by omega), kl_same hu hT hN z b (by omega) (by omega)]
/-- n of them written from b on -/
def cpO (g s : Nat → Int32) (b n : Nat) (j : Nat) : Int32 := if b ≤ j ∧ j < b + n then s (j - b) else g j
theorem cpO_0 (g s : Nat → Int32) (b : Nat) : cpO g s b 0 = g := by
  funext j
  exact if_neg (by omega)
theorem cpO_s (g s : Nat → Int32) (b n : Nat) : upd (cpO g s b n) (b + n) (s n) = cpO g s b (n + 1) := by
  funext j
  unfold upd cpO
  by_cases e : j = b + n
  · rw [if_pos e, if_pos (by omega), show j - b = n by omega]
  · rw [if_neg e]
    by_cases w : b ≤ j ∧ j < b + n
    · rw [if_pos w, if_pos (by omega)]
    · rw [if_neg w, if_neg (by omega)]
theorem cpO_in {g s : Nat → Int32} {b n i : Nat} (h : i < n) : cpO g s b n (b + i) = s i := by
  unfold cpO
  rw [if_pos (by omega), show b + i - b = i by omega]
theorem cpO_out {g s : Nat → Int32} {b n j : Nat} (h : ¬ (b ≤ j ∧ j < b + n)) : cpO g s b n j = g j := if_neg h
/-- but for shelf s, the shelves are as they were -/
def shF (s : Nat) (A A' : Nat → Nat → Int32) : Prop := (∀ r t, 9 ≤ r → r ≤ 12 → t ≠ s → A' r t = A r t) ∧ (∀ j, ¬ (60 * s ≤ j ∧ j < 60 * s + 60) → A' 13 j = A 13 j)
def kpM (A : Nat → Nat → Int32) (u h : Nat) (y x n : Int32) (o o' : Nat → Int32) (A' : Nat → Nat → Int32) (R : Int32) : Prop :=
  (R = Int32.ofInt (-1) ∧ ¬ kpG u y x n ∧ o' = o ∧ A' = A) ∨ ∃ s, s < 8 ∧ y = nI s ∧ R = Int32.ofInt 0 ∧ shF s A A' ∧ A' 9 s = x ∧ ((x = nI 0) ∨ (∃ j, j < u ∧ n = nI j ∧ x = nI 1 ∧ A' 10 s = A 0 j ∧ A' 11 s = A 1 j ∧ A' 12 s = nI (szN A j)) ∨ (x = nI 3 ∧ A' 12 s = nI h ∧ ∀ i, i < h → A' 13 (60 * s + i) = A 8 i) ∨ (∃ j, j < u ∧ n = nI j ∧ x = nI 4 ∧ A' 12 s = nI (szN A j) ∧ ∀ i v, (klA A 40 (nI j))[i]? = some v → A' 13 (60 * s + i) = v))
theorem cl60 {s q : Nat} (hs : s < 8) (hq : q ≤ 60) : (c8 60 * nI s + nI q).toNatClampNeg = 60 * s + q := by
  rw [ix60, nI_clamp (by omega)]
set_option maxHeartbeats 1000000 in
set_option maxRecDepth 20000 in
theorem mKindsX (f : Nat → zC) (o : Nat → Int32) (A : Nat → Nat → Int32) (J : Nat → Nat → Int64) {lo hi : Nat} (hh : hi ≤ 450) (hT : tbI lo hi A) {s : Nat} (hs : s < 8) : ∀ (z n : Nat), lo ≤ n → n < hi → szN A n ≤ z → ∀ (q : Nat) (g : Nat → Int32), q + szN A n ≤ 60 → zK (z + 1) zX7_kinds [.ref 76, .int (nI s), .int (nI n)] (wR f (upd o 34 (nI q)) (updA A 13 g) J) (fun r w' => r = none ∧ w' = (wR f (upd o 34 (nI (q + szN A n))) (updA A 13 (appA g (60 * s + q) (klA A z (nI n)))) J)) := by
  intro z
  induction z with
  | zero =>
    intro n hlo hn hz
    have := (rN_sz (hT n hlo hn)).1
    omega
  | succ z ih =>
    intro n hlo hn hz q g hq
    refine zK_of qX7_kinds (by decide +kernel) rfl ?_
    rcases rN_sum (hT n hlo hn) with ⟨h2, h3, es⟩ | ⟨a, h2, h3, la, ha, es⟩ | ⟨a, b, h2, h3, la, ha, lb, hb, es⟩
    · iterate 11 (refine zv_step (bX7_kinds (z + 1 + 1)) rfl rfl trivial ?_)
      refine zv_iale (bX7_kinds (z + 1 + 1)) rfl rfl (vp_in_nI (by omega) (by decide)) (show A 0 (nI n).toNatClampNeg = A 0 n by rw [nI_clamp (by omega)]) ?_
      refine zv_step (bX7_kinds (z + 1 + 1)) rfl rfl (show vp_in (c8 60 * nI s + nI q) 480 by rw [ix60]; exact vp_in_nI (by omega) (by decide)) ?_
      iterate 6 (refine zv_step (bX7_kinds (z + 1 + 1)) rfl rfl trivial ?_)
      refine zv_world (show _ = (wR f (upd o 34 (nI (q + 1))) (updA A 13 (upd g (60 * s + q) (A 0 n))) J) from by rw [show nI (q + 1) = nI q + Int32.ofInt 1 from (nI_1 q).symm, ← cl60 hs (show q ≤ 60 by omega)]; rfl) ?_
      iterate 3 (refine zv_step (bX7_kinds (z + 1 + 1)) rfl rfl trivial ?_)
      refine zv_iale (bX7_kinds (z + 1 + 1)) rfl rfl (vp_in_nI (by omega) (by decide)) (show A 2 (nI n).toNatClampNeg = m2 by rw [nI_clamp (by omega)]; exact h2) ?_
      iterate 1 (refine zv_step (bX7_kinds (z + 1 + 1)) rfl rfl trivial ?_)
      refine zv_ift (by decide) ?_
      iterate 3 (refine zv_step (bX7_kinds (z + 1 + 1)) rfl rfl trivial ?_)
      refine zv_iale (bX7_kinds (z + 1 + 1)) rfl rfl (vp_in_nI (by omega) (by decide)) (show A 3 (nI n).toNatClampNeg = m2 by rw [nI_clamp (by omega)]; exact h3) ?_
      iterate 1 (refine zv_step (bX7_kinds (z + 1 + 1)) rfl rfl trivial ?_)
      refine zv_ift (by decide) ?_
      exact zv_ret (bX7_kinds (z + 1 + 1)) rfl rfl (Nat.zero_le _) (Nat.zero_le _) ⟨rfl, by rw [es, klA_nI (by omega), h2, h3, klA_m2]; rfl⟩
    · iterate 11 (refine zv_step (bX7_kinds (z + 1 + 1)) rfl rfl trivial ?_)
      refine zv_iale (bX7_kinds (z + 1 + 1)) rfl rfl (vp_in_nI (by omega) (by decide)) (show A 0 (nI n).toNatClampNeg = A 0 n by rw [nI_clamp (by omega)]) ?_
      refine zv_step (bX7_kinds (z + 1 + 1)) rfl rfl (show vp_in (c8 60 * nI s + nI q) 480 by rw [ix60]; exact vp_in_nI (by omega) (by decide)) ?_
      iterate 6 (refine zv_step (bX7_kinds (z + 1 + 1)) rfl rfl trivial ?_)
      refine zv_world (show _ = (wR f (upd o 34 (nI (q + 1))) (updA A 13 (upd g (60 * s + q) (A 0 n))) J) from by rw [show nI (q + 1) = nI q + Int32.ofInt 1 from (nI_1 q).symm, ← cl60 hs (show q ≤ 60 by omega)]; rfl) ?_
      iterate 3 (refine zv_step (bX7_kinds (z + 1 + 1)) rfl rfl trivial ?_)
      refine zv_iale (bX7_kinds (z + 1 + 1)) rfl rfl (vp_in_nI (by omega) (by decide)) (show A 2 (nI n).toNatClampNeg = nI a by rw [nI_clamp (by omega)]; exact h2) ?_
      iterate 1 (refine zv_step (bX7_kinds (z + 1 + 1)) rfl rfl trivial ?_)
      refine zv_iff (nI_pos (by omega)) ?_
      iterate 5 (refine zv_step (bX7_kinds (z + 1 + 1)) rfl rfl trivial ?_)
      refine zv_iale (bX7_kinds (z + 1 + 1)) rfl rfl (vp_in_nI (by omega) (by decide)) (show A 2 (nI n).toNatClampNeg = nI a by rw [nI_clamp (by omega)]; exact h2) ?_
      refine zv_V2 (bX7_kinds (z + 1 + 1)) rfl rfl rfl rfl rfl rfl rfl ⟨rfl, rfl, rfl⟩ ⟨by show z + 1 + 1 ≤ z + 1 + 1; omega, by show 8 + (3 + 11) + 64 * (z + 1) ≤ 64 * (z + 1 + 1); omega⟩ ⟨Nat.zero_le _, Nat.zero_le _⟩ (ih a (by omega) (by omega) (by omega) (q + 1) (upd g (60 * s + q) (A 0 n)) (by omega)) ?_
      rintro _ _ ⟨rfl, rfl⟩
      refine zv_world (show _ = (wR f (upd o 34 (nI (q + 1 + szN A a))) (updA A 13 (appA (upd g (60 * s + q) (A 0 n)) (60 * s + (q + 1)) (klA A z (nI a)))) J) from rfl) ?_
      iterate 3 (refine zv_step (bX7_kinds (z + 1 + 1)) rfl rfl trivial ?_)
      refine zv_iale (bX7_kinds (z + 1 + 1)) rfl rfl (vp_in_nI (by omega) (by decide)) (show A 3 (nI n).toNatClampNeg = m2 by rw [nI_clamp (by omega)]; exact h3) ?_
      iterate 1 (refine zv_step (bX7_kinds (z + 1 + 1)) rfl rfl trivial ?_)
      refine zv_ift (by decide) ?_
      exact zv_ret (bX7_kinds (z + 1 + 1)) rfl rfl (Nat.zero_le _) (Nat.zero_le _) ⟨rfl, by rw [es, klA_nI (by omega), h2, h3, klA_m2, List.append_nil, show q + (1 + szN A a) = q + 1 + szN A a by omega, appA_c, show 60 * s + q + 1 = 60 * s + (q + 1) by omega]⟩
    · iterate 11 (refine zv_step (bX7_kinds (z + 1 + 1)) rfl rfl trivial ?_)
      refine zv_iale (bX7_kinds (z + 1 + 1)) rfl rfl (vp_in_nI (by omega) (by decide)) (show A 0 (nI n).toNatClampNeg = A 0 n by rw [nI_clamp (by omega)]) ?_
      refine zv_step (bX7_kinds (z + 1 + 1)) rfl rfl (show vp_in (c8 60 * nI s + nI q) 480 by rw [ix60]; exact vp_in_nI (by omega) (by decide)) ?_
      iterate 6 (refine zv_step (bX7_kinds (z + 1 + 1)) rfl rfl trivial ?_)
      refine zv_world (show _ = (wR f (upd o 34 (nI (q + 1))) (updA A 13 (upd g (60 * s + q) (A 0 n))) J) from by rw [show nI (q + 1) = nI q + Int32.ofInt 1 from (nI_1 q).symm, ← cl60 hs (show q ≤ 60 by omega)]; rfl) ?_
      iterate 3 (refine zv_step (bX7_kinds (z + 1 + 1)) rfl rfl trivial ?_)
      refine zv_iale (bX7_kinds (z + 1 + 1)) rfl rfl (vp_in_nI (by omega) (by decide)) (show A 2 (nI n).toNatClampNeg = nI a by rw [nI_clamp (by omega)]; exact h2) ?_
      iterate 1 (refine zv_step (bX7_kinds (z + 1 + 1)) rfl rfl trivial ?_)
      refine zv_iff (nI_pos (by omega)) ?_
      iterate 5 (refine zv_step (bX7_kinds (z + 1 + 1)) rfl rfl trivial ?_)
      refine zv_iale (bX7_kinds (z + 1 + 1)) rfl rfl (vp_in_nI (by omega) (by decide)) (show A 2 (nI n).toNatClampNeg = nI a by rw [nI_clamp (by omega)]; exact h2) ?_
      refine zv_V2 (bX7_kinds (z + 1 + 1)) rfl rfl rfl rfl rfl rfl rfl ⟨rfl, rfl, rfl⟩ ⟨by show z + 1 + 1 ≤ z + 1 + 1; omega, by show 8 + (3 + 11) + 64 * (z + 1) ≤ 64 * (z + 1 + 1); omega⟩ ⟨Nat.zero_le _, Nat.zero_le _⟩ (ih a (by omega) (by omega) (by omega) (q + 1) (upd g (60 * s + q) (A 0 n)) (by omega)) ?_
      rintro _ _ ⟨rfl, rfl⟩
      refine zv_world (show _ = (wR f (upd o 34 (nI (q + 1 + szN A a))) (updA A 13 (appA (upd g (60 * s + q) (A 0 n)) (60 * s + (q + 1)) (klA A z (nI a)))) J) from rfl) ?_
      iterate 3 (refine zv_step (bX7_kinds (z + 1 + 1)) rfl rfl trivial ?_)
      refine zv_iale (bX7_kinds (z + 1 + 1)) rfl rfl (vp_in_nI (by omega) (by decide)) (show A 3 (nI n).toNatClampNeg = nI b by rw [nI_clamp (by omega)]; exact h3) ?_
      iterate 1 (refine zv_step (bX7_kinds (z + 1 + 1)) rfl rfl trivial ?_)
      refine zv_iff (nI_pos (by omega)) ?_
      iterate 5 (refine zv_step (bX7_kinds (z + 1 + 1)) rfl rfl trivial ?_)
      refine zv_iale (bX7_kinds (z + 1 + 1)) rfl rfl (vp_in_nI (by omega) (by decide)) (show A 3 (nI n).toNatClampNeg = nI b by rw [nI_clamp (by omega)]; exact h3) ?_
      refine zv_V2 (bX7_kinds (z + 1 + 1)) rfl rfl rfl rfl rfl rfl rfl ⟨rfl, rfl, rfl⟩ ⟨by show z + 1 + 1 ≤ z + 1 + 1; omega, by show 8 + (3 + 11) + 64 * (z + 1) ≤ 64 * (z + 1 + 1); omega⟩ ⟨Nat.zero_le _, Nat.zero_le _⟩ (ih b (by omega) (by omega) (by omega) (q + 1 + szN A a) (appA (upd g (60 * s + q) (A 0 n)) (60 * s + (q + 1)) (klA A z (nI a))) (by omega)) ?_
      rintro _ _ ⟨rfl, rfl⟩
      exact zv_ret (bX7_kinds (z + 1 + 1)) rfl rfl (Nat.zero_le _) (Nat.zero_le _) ⟨rfl, by rw [es, klA_nI (by omega), h2, h3, show q + (1 + szN A a + szN A b) = q + 1 + szN A a + szN A b by omega, appA_c, appA_app, klA_len hh hT z a (by omega) (by omega) (by omega), show 60 * s + q + 1 = 60 * s + (q + 1) by omega, show 60 * s + (q + 1) + szN A a = 60 * s + (q + 1 + szN A a) by omega]⟩
set_option maxHeartbeats 1000000 in
set_option maxRecDepth 20000 in
theorem keepLX (f : Nat → zC) (o : Nat → Int32) (A : Nat → Nat → Int32) (J : Nat → Nat → Int64) {h s : Nat} (hh : h ≤ 20) (ho10 : o 10 = nI h) (hs : s < 8) {x y : Int32} {n0 : Nat} {Q : Option Value → zW → Prop} (hQ : Q (some (.int (Int32.ofInt 0))) (wR f o (updA A 13 (cpO (A 13) (A 8) (60 * s) h)) J)) : ∀ (c i : Nat), i + c = h → ∀ {x5 : Int32}, x5 = nI i → zV (zMo 42 zX7_keep) false n0 0 0 117 [(5, .int x5), (4, .int (Int32.ofInt 1)), (0, .ref 76), (1, .int (nI s)), (2, .int y), (3, .int x)] [] (wR f o (updA A 13 (cpO (A 13) (A 8) (60 * s) i)) J) Q := by
  intro c
  induction c with
  | zero =>
    intro i hc x5 e5
    subst e5
    iterate 4 (refine zv_step (bX7_keep 42) rfl rfl trivial ?_)
    refine zv_ift (show o 10 ≤ nI i by rw [ho10]; exact nI_le (by omega) (by omega)) ?_
    iterate 2 (refine zv_step (bX7_keep 42) rfl rfl trivial ?_)
    obtain rfl : i = h := by omega
    exact zv_iret (bX7_keep 42) rfl (Or.inl rfl) (Nat.zero_le _) (Nat.zero_le _) hQ
  | succ c ih =>
    intro i hc x5 e5
    subst e5
    iterate 4 (refine zv_step (bX7_keep 42) rfl rfl trivial ?_)
    refine zv_iff (show ¬ o 10 ≤ nI i by rw [ho10]; exact fun h => absurd ((nI_leI (by omega) (by omega)).mp h) (by omega)) ?_
    iterate 10 (refine zv_step (bX7_keep 42) rfl rfl trivial ?_)
    refine zv_iale (bX7_keep 42) rfl rfl (vp_in_nI (by omega) (by decide)) (show A 8 (nI i).toNatClampNeg = A 8 i by rw [nI_clamp (by omega)]) ?_
    refine zv_step (bX7_keep 42) rfl rfl (show vp_in (c8 60 * nI s + nI i) 480 by rw [ix60]; exact vp_in_nI (by omega) (by decide)) ?_
    iterate 2 (refine zv_step (bX7_keep 42) rfl rfl trivial ?_)
    refine zv_world (show _ = wR f o (updA A 13 (cpO (A 13) (A 8) (60 * s) (i + 1))) J from by rw [← cpO_s, ← cl60 hs (show i ≤ 60 by omega)]; rfl) ?_
    exact ih (i + 1) (by omega) (nI_1 i)
theorem upd_cl {f : Nat → Int32} {s t : Nat} {v : Int32} (hs : s < 8) : upd f (nI s).toNatClampNeg v t = if t = s then v else f t := by
  rw [nI_clamp (by omega)]
  rfl
theorem shF_of {s : Nat} (hs : s < 8) {A : Nat → Nat → Int32} {a9 a10 a11 a12 : Int32} {g : Nat → Int32} (b10 b11 b12 : Bool) (hg : ∀ j, ¬ (60 * s ≤ j ∧ j < 60 * s + 60) → g j = A 13 j) {A' : Nat → Nat → Int32} (e9 : A' 9 = upd (A 9) (nI s).toNatClampNeg a9) (e10 : A' 10 = if b10 then upd (A 10) (nI s).toNatClampNeg a10 else A 10) (e11 : A' 11 = if b11 then upd (A 11) (nI s).toNatClampNeg a11 else A 11) (e12 : A' 12 = if b12 then upd (A 12) (nI s).toNatClampNeg a12 else A 12) (e13 : A' 13 = g) : shF s A A' := by
  refine ⟨fun r t h1 h2 h3 => ?_, fun j hj => by rw [e13]; exact hg j hj⟩
  rcases (show r = 9 ∨ r = 10 ∨ r = 11 ∨ r = 12 by omega) with rfl | rfl | rfl | rfl
  · rw [e9, upd_cl hs, if_neg h3]
  · rw [e10]
    cases b10
    · rfl
    · rw [if_pos rfl, upd_cl hs, if_neg h3]
  · rw [e11]
    cases b11
    · rfl
    · rw [if_pos rfl, upd_cl hs, if_neg h3]
  · rw [e12]
    cases b12
    · rfl
    · rw [if_pos rfl, upd_cl hs, if_neg h3]
theorem upd_at {f : Nat → Int32} {s : Nat} {v : Int32} (hs : s < 8) : upd f (nI s).toNatClampNeg v s = v := by
  rw [upd_cl hs, if_pos rfl]
theorem appA_hi : ∀ (L : List Int32) (g : Nat → Int32) (q j : Nat), q + L.length ≤ j → appA g q L j = g j
  | [], _, _, _, _ => rfl
  | v :: L, g, q, j, h => by
    rw [List.length_cons] at h
    rw [appA_c, appA_hi L _ _ _ (by omega), upd_ne _ _ (by omega)]
theorem appA_fr (L : List Int32) (g : Nat → Int32) {q b : Nat} (h : L.length ≤ 60) (e : q = b) : ∀ j, ¬ (b ≤ j ∧ j < b + 60) → appA g q L j = g j := fun j hj => by
  subst e
  by_cases w : j < q
  · exact appA_lo L g q j w
  · exact appA_hi L g q j (by omega)
theorem klA_fr {A A' : Nat → Nat → Int32} (h0 : A' 0 = A 0) (h2 : A' 2 = A 2) (h3 : A' 3 = A 3) : ∀ (z : Nat) (x : Int32), klA A' z x = klA A z x
  | 0, _ => rfl
  | z + 1, x => by
    show (if x < 0 then [] else A' 0 (nC x) :: (klA A' z (A' 2 (nC x)) ++ klA A' z (A' 3 (nC x)))) = (if x < 0 then [] else A 0 (nC x) :: (klA A z (A 2 (nC x)) ++ klA A z (A 3 (nC x))))
    rw [h0, h2, h3, klA_fr h0 h2 h3 z, klA_fr h0 h2 h3 z]
set_option maxHeartbeats 1000000 in
set_option maxRecDepth 20000 in
theorem mKeepX (f : Nat → zC) (o : Nat → Int32) (A : Nat → Nat → Int32) (J : Nat → Nat → Int64) {u : Nat} (hu : u ≤ 120) (ho : o 0 = nI u) (hT : tbI 0 u A) {h : Nat} (hh : h ≤ 20) (ho10 : o 10 = nI h) (hS : szS A) (d y x : Int32) : zK 42 zX7_keep [.ref 76, .int d, .int y, .int x] (wR f o A J) (fun r w' => ∃ (o' : Nat → Int32) (A' : Nat → Nat → Int32) (R : Int32), r = some (.int R) ∧ w' = wR f o' A' J ∧ shM o A o' A' ∧ kpM A u h d y x o o' A' R) := by
  refine zK_of qX7_keep (by decide +kernel) rfl ?_
  iterate 2 (refine zv_step (bX7_keep 42) rfl rfl trivial ?_)
  refine zv_ifb (fun h1 => ?_) (fun h1 => ?_)
  · iterate 4 (refine zv_step (bX7_keep 42) rfl rfl trivial ?_)
    refine zv_S1 (bX7_keep 42) rfl rfl rfl rfl ⟨rfl, rfl, rfl⟩ ⟨by decide, by decide⟩ ⟨Nat.zero_le _, Nat.zero_le _⟩ (hX7_isShelf _ _) ?_
    rintro _ _ ⟨rfl, ⟨g2, rfl⟩ | ⟨g2, rfl⟩⟩
    · obtain ⟨s, hs, rfl⟩ := in_nat (b := 7) (by decide) g2
      iterate 1 (refine zv_step (bX7_keep 42) rfl rfl trivial ?_)
      refine zv_iff (by decide) ?_
      iterate 2 (refine zv_step (bX7_keep 42) rfl rfl trivial ?_)
      refine zv_ift (by decide) ?_
      iterate 4 (refine zv_step (bX7_keep 42) rfl rfl trivial ?_)
      refine zv_step (bX7_keep 42) rfl rfl (show vp_in (nI s) 8 from vp_in_nI (by omega) (by decide)) ?_
      iterate 3 (refine zv_step (bX7_keep 42) rfl rfl trivial ?_)
      refine zv_ift (fun h => absurd ((h1).symm.trans h) (by decide)) ?_
      iterate 3 (refine zv_step (bX7_keep 42) rfl rfl trivial ?_)
      refine zv_ift (fun h => absurd ((h1).symm.trans h) (by decide)) ?_
      iterate 3 (refine zv_step (bX7_keep 42) rfl rfl trivial ?_)
      refine zv_ift (fun h => absurd ((h1).symm.trans h) (by decide)) ?_
      iterate 1 (refine zv_step (bX7_keep 42) rfl rfl trivial ?_)
      exact zv_iret (bX7_keep 42) rfl (Or.inl rfl) (Nat.zero_le _) (Nat.zero_le _) ⟨o, (updA A 9 (upd (A 9) (nI s).toNatClampNeg y)), _, rfl, rfl, ⟨fun _ _ => rfl, fun r a b => updA_ne _ _ (by omega), hS⟩, Or.inr ⟨s, by omega, rfl, rfl, shF_of (by omega) (a9 := y) (a10 := 0) (a11 := 0) (a12 := 0) false false false (fun _ _ => rfl) rfl rfl rfl rfl rfl, upd_at (by omega), Or.inl h1⟩⟩
    · skip
      iterate 1 (refine zv_step (bX7_keep 42) rfl rfl trivial ?_)
      refine zv_ift (by decide) ?_
      iterate 1 (refine zv_step (bX7_keep 42) rfl rfl trivial ?_)
      exact zv_iret (bX7_keep 42) rfl (Or.inl rfl) (Nat.zero_le _) (Nat.zero_le _) ⟨o, A, _, rfl, rfl, shM_refl hS, Or.inl ⟨rfl, fun q => g2 q.1, rfl, rfl⟩⟩
  · iterate 3 (refine zv_step (bX7_keep 42) rfl rfl trivial ?_)
    refine zv_ifb (fun h6 => ?_) (fun h6 => ?_)
    · iterate 4 (refine zv_step (bX7_keep 42) rfl rfl trivial ?_)
      refine zv_S1 (bX7_keep 42) rfl rfl rfl rfl ⟨rfl, rfl, rfl⟩ ⟨by decide, by decide⟩ ⟨Nat.zero_le _, Nat.zero_le _⟩ (hX7_isShelf _ _) ?_
      rintro _ _ ⟨rfl, ⟨g2, rfl⟩ | ⟨g2, rfl⟩⟩
      · obtain ⟨s, hs, rfl⟩ := in_nat (b := 7) (by decide) g2
        iterate 1 (refine zv_step (bX7_keep 42) rfl rfl trivial ?_)
        refine zv_iff (by decide) ?_
        iterate 2 (refine zv_step (bX7_keep 42) rfl rfl trivial ?_)
        refine zv_ift (by decide) ?_
        iterate 4 (refine zv_step (bX7_keep 42) rfl rfl trivial ?_)
        refine zv_step (bX7_keep 42) rfl rfl (show vp_in (nI s) 8 from vp_in_nI (by omega) (by decide)) ?_
        iterate 3 (refine zv_step (bX7_keep 42) rfl rfl trivial ?_)
        refine zv_ift (fun h => absurd ((h6).symm.trans h) (by decide)) ?_
        iterate 3 (refine zv_step (bX7_keep 42) rfl rfl trivial ?_)
        refine zv_iff (fun h => h (h6)) ?_
        iterate 5 (refine zv_step (bX7_keep 42) rfl rfl trivial ?_)
        refine zv_step (bX7_keep 42) rfl rfl (show vp_in (nI s) 8 from vp_in_nI (by omega) (by decide)) ?_
        iterate 2 (refine zv_step (bX7_keep 42) rfl rfl trivial ?_)
        refine zv_world (show _ = wR f o (updA (updA (updA A 9 (upd (A 9) (nI s).toNatClampNeg y)) 12 (upd (A 12) (nI s).toNatClampNeg (o 10))) 13 (cpO (A 13) (A 8) (60 * s) 0)) J from by rw [cpO_0]; rfl) ?_
        exact keepLX f o (updA (updA A 9 (upd (A 9) (nI s).toNatClampNeg y)) 12 (upd (A 12) (nI s).toNatClampNeg (o 10))) J hh ho10 (by omega) ⟨o, _, _, rfl, rfl, ⟨fun _ _ => rfl, fun r a b => by rw [updA_ne _ _ (by omega), updA_ne _ _ (by omega), updA_ne _ _ (by omega)], up12 hS ⟨h, by omega, ho10⟩⟩, Or.inr ⟨s, by omega, rfl, rfl, shF_of (by omega) (a9 := y) (a10 := 0) (a11 := 0) (a12 := o 10) false false true (fun j hj => cpO_out (by omega)) rfl rfl rfl rfl rfl, upd_at (by omega), Or.inr (Or.inr (Or.inl ⟨h6, by rw [← ho10]; exact upd_at (by omega), fun i hi => cpO_in hi⟩))⟩⟩ h 0 (by omega) rfl
      · skip
        iterate 1 (refine zv_step (bX7_keep 42) rfl rfl trivial ?_)
        refine zv_ift (by decide) ?_
        iterate 1 (refine zv_step (bX7_keep 42) rfl rfl trivial ?_)
        exact zv_iret (bX7_keep 42) rfl (Or.inl rfl) (Nat.zero_le _) (Nat.zero_le _) ⟨o, A, _, rfl, rfl, shM_refl hS, Or.inl ⟨rfl, fun q => g2 q.1, rfl, rfl⟩⟩
    · iterate 3 (refine zv_step (bX7_keep 42) rfl rfl trivial ?_)
      refine zv_ifb (fun h11 => ?_) (fun h11 => ?_)
      · iterate 2 (refine zv_step (bX7_keep 42) rfl rfl trivial ?_)
        refine zv_V1 (bX7_keep 42) rfl rfl rfl rfl rfl rfl rfl ⟨rfl, rfl, rfl⟩ ⟨by decide, by decide⟩ ⟨Nat.zero_le _, Nat.zero_le _⟩ (mIsNode f o A J hu ho _) ?_
        rintro _ _ ⟨rfl, ⟨g1, rfl⟩ | ⟨g1, rfl⟩⟩
        · obtain ⟨n, hn, rfl⟩ := nd_of (by omega) g1
          have sn := (rN_sz (hT n (Nat.zero_le _) hn)).2
          have hkl := klA_len (by omega) hT 40 n (Nat.zero_le _) hn sn.1
          iterate 1 (refine zv_step (bX7_keep 42) rfl rfl trivial ?_)
          refine zv_iff (by decide) ?_
          iterate 4 (refine zv_step (bX7_keep 42) rfl rfl trivial ?_)
          refine zv_S1 (bX7_keep 42) rfl rfl rfl rfl ⟨rfl, rfl, rfl⟩ ⟨by decide, by decide⟩ ⟨Nat.zero_le _, Nat.zero_le _⟩ (hX7_isShelf _ _) ?_
          rintro _ _ ⟨rfl, ⟨g2, rfl⟩ | ⟨g2, rfl⟩⟩
          · obtain ⟨s, hs, rfl⟩ := in_nat (b := 7) (by decide) g2
            iterate 1 (refine zv_step (bX7_keep 42) rfl rfl trivial ?_)
            refine zv_iff (by decide) ?_
            iterate 2 (refine zv_step (bX7_keep 42) rfl rfl trivial ?_)
            refine zv_ift (by decide) ?_
            iterate 4 (refine zv_step (bX7_keep 42) rfl rfl trivial ?_)
            refine zv_step (bX7_keep 42) rfl rfl (show vp_in (nI s) 8 from vp_in_nI (by omega) (by decide)) ?_
            iterate 3 (refine zv_step (bX7_keep 42) rfl rfl trivial ?_)
            refine zv_iff (fun h => h (h11)) ?_
            iterate 6 (refine zv_step (bX7_keep 42) rfl rfl trivial ?_)
            refine zv_iale (bX7_keep 42) rfl rfl (vp_in_nI (by omega) (by decide)) (show A 0 (nI n).toNatClampNeg = A 0 n by rw [nI_clamp (by omega)]) ?_
            refine zv_step (bX7_keep 42) rfl rfl (show vp_in (nI s) 8 from vp_in_nI (by omega) (by decide)) ?_
            iterate 6 (refine zv_step (bX7_keep 42) rfl rfl trivial ?_)
            refine zv_iale (bX7_keep 42) rfl rfl (vp_in_nI (by omega) (by decide)) (show A 1 (nI n).toNatClampNeg = A 1 n by rw [nI_clamp (by omega)]) ?_
            refine zv_step (bX7_keep 42) rfl rfl (show vp_in (nI s) 8 from vp_in_nI (by omega) (by decide)) ?_
            iterate 6 (refine zv_step (bX7_keep 42) rfl rfl trivial ?_)
            refine zv_iale (bX7_keep 42) rfl rfl (vp_in_nI (by omega) (by decide)) (show A 4 (nI n).toNatClampNeg = nI (szN A n) by rw [nI_clamp (by omega)]; exact sn.2) ?_
            refine zv_step (bX7_keep 42) rfl rfl (show vp_in (nI s) 8 from vp_in_nI (by omega) (by decide)) ?_
            iterate 2 (refine zv_step (bX7_keep 42) rfl rfl trivial ?_)
            exact zv_iret (bX7_keep 42) rfl (Or.inl rfl) (Nat.zero_le _) (Nat.zero_le _) ⟨o, (updA (updA (updA (updA A 9 (upd (A 9) (nI s).toNatClampNeg y)) 10 (upd (A 10) (nI s).toNatClampNeg (A 0 n))) 11 (upd (A 11) (nI s).toNatClampNeg (A 1 n))) 12 (upd (A 12) (nI s).toNatClampNeg (nI (szN A n)))), _, rfl, rfl, ⟨fun _ _ => rfl, fun r a b => by rw [updA_ne _ _ (by omega), updA_ne _ _ (by omega), updA_ne _ _ (by omega), updA_ne _ _ (by omega)], up12 hS ⟨_, by omega, rfl⟩⟩, Or.inr ⟨s, by omega, rfl, rfl, shF_of (by omega) (a9 := y) (a10 := A 0 n) (a11 := A 1 n) (a12 := nI (szN A n)) true true true (fun _ _ => rfl) rfl rfl rfl rfl rfl, upd_at (by omega), Or.inr (Or.inl ⟨n, hn, rfl, h11, upd_at (by omega), upd_at (by omega), upd_at (by omega)⟩)⟩⟩
          · skip
            iterate 1 (refine zv_step (bX7_keep 42) rfl rfl trivial ?_)
            refine zv_ift (by decide) ?_
            iterate 1 (refine zv_step (bX7_keep 42) rfl rfl trivial ?_)
            exact zv_iret (bX7_keep 42) rfl (Or.inl rfl) (Nat.zero_le _) (Nat.zero_le _) ⟨o, A, _, rfl, rfl, shM_refl hS, Or.inl ⟨rfl, fun q => g2 q.1, rfl, rfl⟩⟩
        · skip
          iterate 1 (refine zv_step (bX7_keep 42) rfl rfl trivial ?_)
          refine zv_ift (by decide) ?_
          iterate 3 (refine zv_step (bX7_keep 42) rfl rfl trivial ?_)
          refine zv_S1 (bX7_keep 42) rfl rfl rfl rfl ⟨rfl, rfl, rfl⟩ ⟨by decide, by decide⟩ ⟨Nat.zero_le _, Nat.zero_le _⟩ (hX7_isShelf _ _) ?_
          rintro _ _ ⟨rfl, ⟨g2, rfl⟩ | ⟨g2, rfl⟩⟩
          · obtain ⟨s, hs, rfl⟩ := in_nat (b := 7) (by decide) g2
            iterate 1 (refine zv_step (bX7_keep 42) rfl rfl trivial ?_)
            refine zv_iff (by decide) ?_
            iterate 2 (refine zv_step (bX7_keep 42) rfl rfl trivial ?_)
            refine zv_iff (by decide) ?_
            iterate 1 (refine zv_step (bX7_keep 42) rfl rfl trivial ?_)
            exact zv_iret (bX7_keep 42) rfl (Or.inl rfl) (Nat.zero_le _) (Nat.zero_le _) ⟨o, A, _, rfl, rfl, shM_refl hS, Or.inl ⟨rfl, fun q => (by rcases q.2 with e | e | ⟨e | e, w⟩ <;> first | exact h1 e | exact h6 e | exact g1 (by have := w.1; have := w.2; omega)), rfl, rfl⟩⟩
          · skip
            iterate 1 (refine zv_step (bX7_keep 42) rfl rfl trivial ?_)
            refine zv_ift (by decide) ?_
            iterate 1 (refine zv_step (bX7_keep 42) rfl rfl trivial ?_)
            exact zv_iret (bX7_keep 42) rfl (Or.inl rfl) (Nat.zero_le _) (Nat.zero_le _) ⟨o, A, _, rfl, rfl, shM_refl hS, Or.inl ⟨rfl, fun q => g2 q.1, rfl, rfl⟩⟩
      · iterate 3 (refine zv_step (bX7_keep 42) rfl rfl trivial ?_)
        refine zv_ifb (fun h16 => ?_) (fun h16 => ?_)
        · iterate 3 (refine zv_step (bX7_keep 42) rfl rfl trivial ?_)
          refine zv_S1 (bX7_keep 42) rfl rfl rfl rfl ⟨rfl, rfl, rfl⟩ ⟨by decide, by decide⟩ ⟨Nat.zero_le _, Nat.zero_le _⟩ (hX7_isShelf _ _) ?_
          rintro _ _ ⟨rfl, ⟨g2, rfl⟩ | ⟨g2, rfl⟩⟩
          · obtain ⟨s, hs, rfl⟩ := in_nat (b := 7) (by decide) g2
            iterate 1 (refine zv_step (bX7_keep 42) rfl rfl trivial ?_)
            refine zv_iff (by decide) ?_
            iterate 2 (refine zv_step (bX7_keep 42) rfl rfl trivial ?_)
            refine zv_iff (by decide) ?_
            iterate 1 (refine zv_step (bX7_keep 42) rfl rfl trivial ?_)
            exact zv_iret (bX7_keep 42) rfl (Or.inl rfl) (Nat.zero_le _) (Nat.zero_le _) ⟨o, A, _, rfl, rfl, shM_refl hS, Or.inl ⟨rfl, fun q => (by rcases q.2 with e | e | ⟨e | e, w⟩ <;> first | exact h1 e | exact h6 e | exact h11 e | exact h16 e), rfl, rfl⟩⟩
          · skip
            iterate 1 (refine zv_step (bX7_keep 42) rfl rfl trivial ?_)
            refine zv_ift (by decide) ?_
            iterate 1 (refine zv_step (bX7_keep 42) rfl rfl trivial ?_)
            exact zv_iret (bX7_keep 42) rfl (Or.inl rfl) (Nat.zero_le _) (Nat.zero_le _) ⟨o, A, _, rfl, rfl, shM_refl hS, Or.inl ⟨rfl, fun q => g2 q.1, rfl, rfl⟩⟩
        · iterate 2 (refine zv_step (bX7_keep 42) rfl rfl trivial ?_)
          refine zv_V1 (bX7_keep 42) rfl rfl rfl rfl rfl rfl rfl ⟨rfl, rfl, rfl⟩ ⟨by decide, by decide⟩ ⟨Nat.zero_le _, Nat.zero_le _⟩ (mIsNode f o A J hu ho _) ?_
          rintro _ _ ⟨rfl, ⟨g1, rfl⟩ | ⟨g1, rfl⟩⟩
          · obtain ⟨n, hn, rfl⟩ := nd_of (by omega) g1
            have sn := (rN_sz (hT n (Nat.zero_le _) hn)).2
            have hkl := klA_len (by omega) hT 40 n (Nat.zero_le _) hn sn.1
            iterate 1 (refine zv_step (bX7_keep 42) rfl rfl trivial ?_)
            refine zv_iff (by decide) ?_
            iterate 4 (refine zv_step (bX7_keep 42) rfl rfl trivial ?_)
            refine zv_S1 (bX7_keep 42) rfl rfl rfl rfl ⟨rfl, rfl, rfl⟩ ⟨by decide, by decide⟩ ⟨Nat.zero_le _, Nat.zero_le _⟩ (hX7_isShelf _ _) ?_
            rintro _ _ ⟨rfl, ⟨g2, rfl⟩ | ⟨g2, rfl⟩⟩
            · obtain ⟨s, hs, rfl⟩ := in_nat (b := 7) (by decide) g2
              iterate 1 (refine zv_step (bX7_keep 42) rfl rfl trivial ?_)
              refine zv_iff (by decide) ?_
              iterate 2 (refine zv_step (bX7_keep 42) rfl rfl trivial ?_)
              refine zv_ift (by decide) ?_
              iterate 4 (refine zv_step (bX7_keep 42) rfl rfl trivial ?_)
              refine zv_step (bX7_keep 42) rfl rfl (show vp_in (nI s) 8 from vp_in_nI (by omega) (by decide)) ?_
              iterate 3 (refine zv_step (bX7_keep 42) rfl rfl trivial ?_)
              refine zv_ift (fun h => absurd ((Decidable.not_not.mp h16).symm.trans h) (by decide)) ?_
              iterate 3 (refine zv_step (bX7_keep 42) rfl rfl trivial ?_)
              refine zv_ift (fun h => absurd ((Decidable.not_not.mp h16).symm.trans h) (by decide)) ?_
              iterate 3 (refine zv_step (bX7_keep 42) rfl rfl trivial ?_)
              refine zv_iff (fun h => h (Decidable.not_not.mp h16)) ?_
              iterate 3 (refine zv_step (bX7_keep 42) rfl rfl trivial ?_)
              refine zv_world (show _ = wR f (upd o 34 (nI 0)) (updA (updA A 9 (upd (A 9) (nI s).toNatClampNeg y)) 13 (A 13)) J from rfl) ?_
              have ek9 : klA (updA A 9 (upd (A 9) (nI s).toNatClampNeg y)) 40 (nI n) = klA A 40 (nI n) := klA_fr (A := A) (A' := (updA A 9 (upd (A 9) (nI s).toNatClampNeg y))) rfl rfl rfl 40 (nI n)
              iterate 3 (refine zv_step (bX7_keep 42) rfl rfl trivial ?_)
              refine zv_V2 (bX7_keep 42) rfl rfl rfl rfl rfl rfl rfl ⟨rfl, rfl, rfl⟩ ⟨by decide, by decide⟩ ⟨Nat.zero_le _, Nat.zero_le _⟩ (mKindsX f o (updA A 9 (upd (A 9) (nI s).toNatClampNeg y)) J (by omega) (tbI_u hT (by decide) _) (by omega) 40 n (Nat.zero_le _) hn (show szN A n ≤ 40 from sn.1) 0 _ (show 0 + szN A n ≤ 60 by omega)) ?_
              rintro _ _ ⟨rfl, rfl⟩
              rw [ek9]
              iterate 5 (refine zv_step (bX7_keep 42) rfl rfl trivial ?_)
              refine zv_step (bX7_keep 42) rfl rfl (show vp_in (nI s) 8 from vp_in_nI (by omega) (by decide)) ?_
              iterate 1 (refine zv_step (bX7_keep 42) rfl rfl trivial ?_)
              exact zv_iret (bX7_keep 42) rfl (Or.inl rfl) (Nat.zero_le _) (Nat.zero_le _) ⟨upd o 34 (nI (0 + szN A n)), (updA (updA (updA A 9 (upd (A 9) (nI s).toNatClampNeg y)) 13 (appA (A 13) (60 * s + 0) (klA A 40 (nI n)))) 12 (upd (A 12) (nI s).toNatClampNeg (nI (0 + szN A n)))), _, rfl, rfl, ⟨fun j a => upd_ne _ _ a, fun r a b => by rw [updA_ne _ _ (by omega), updA_ne _ _ (by omega), updA_ne _ _ (by omega)], up12 hS ⟨_, by omega, rfl⟩⟩, Or.inr ⟨s, by omega, rfl, rfl, shF_of (by omega) (a9 := y) (a10 := 0) (a11 := 0) (a12 := nI (0 + szN A n)) false false true (appA_fr (klA A 40 (nI n)) (A 13) (by rw [hkl]; omega) rfl) rfl rfl rfl rfl rfl, upd_at (by omega), Or.inr (Or.inr (Or.inr ⟨n, hn, rfl, Decidable.not_not.mp h16, (upd_at (s := s) (v := nI (0 + szN A n)) (by omega)).trans (by rw [Nat.zero_add]), fun i v e => appA_at (klA A 40 (nI n)) (A 13) (60 * s + 0) i e⟩))⟩⟩
            · skip
              iterate 1 (refine zv_step (bX7_keep 42) rfl rfl trivial ?_)
              refine zv_ift (by decide) ?_
              iterate 1 (refine zv_step (bX7_keep 42) rfl rfl trivial ?_)
              exact zv_iret (bX7_keep 42) rfl (Or.inl rfl) (Nat.zero_le _) (Nat.zero_le _) ⟨o, A, _, rfl, rfl, shM_refl hS, Or.inl ⟨rfl, fun q => g2 q.1, rfl, rfl⟩⟩
          · skip
            iterate 1 (refine zv_step (bX7_keep 42) rfl rfl trivial ?_)
            refine zv_ift (by decide) ?_
            iterate 3 (refine zv_step (bX7_keep 42) rfl rfl trivial ?_)
            refine zv_S1 (bX7_keep 42) rfl rfl rfl rfl ⟨rfl, rfl, rfl⟩ ⟨by decide, by decide⟩ ⟨Nat.zero_le _, Nat.zero_le _⟩ (hX7_isShelf _ _) ?_
            rintro _ _ ⟨rfl, ⟨g2, rfl⟩ | ⟨g2, rfl⟩⟩
            · obtain ⟨s, hs, rfl⟩ := in_nat (b := 7) (by decide) g2
              iterate 1 (refine zv_step (bX7_keep 42) rfl rfl trivial ?_)
              refine zv_iff (by decide) ?_
              iterate 2 (refine zv_step (bX7_keep 42) rfl rfl trivial ?_)
              refine zv_iff (by decide) ?_
              iterate 1 (refine zv_step (bX7_keep 42) rfl rfl trivial ?_)
              exact zv_iret (bX7_keep 42) rfl (Or.inl rfl) (Nat.zero_le _) (Nat.zero_le _) ⟨o, A, _, rfl, rfl, shM_refl hS, Or.inl ⟨rfl, fun q => (by rcases q.2 with e | e | ⟨e | e, w⟩ <;> first | exact h1 e | exact h6 e | exact g1 (by have := w.1; have := w.2; omega)), rfl, rfl⟩⟩
            · skip
              iterate 1 (refine zv_step (bX7_keep 42) rfl rfl trivial ?_)
              refine zv_ift (by decide) ?_
              iterate 1 (refine zv_step (bX7_keep 42) rfl rfl trivial ?_)
              exact zv_iret (bX7_keep 42) rfl (Or.inl rfl) (Nat.zero_le _) (Nat.zero_le _) ⟨o, A, _, rfl, rfl, shM_refl hS, Or.inl ⟨rfl, fun q => g2 q.1, rfl, rfl⟩⟩
end
section
/-- where a step leads, or none -/
noncomputable def goW (u : Int32) (Xs Ys : Nat → Int32) (c : Nat) (s : Nat × (Nat → Int32) × (Nat → Int32)) : Option (Nat × (Nat → Int32) × (Nat → Int32)) :=
  if c < 2 then (if ptW u Xs Ys (s.2.1 s.1) (nI (c + 1)) = Int32.ofInt (-1) ∨ 40 ≤ s.1 + 1 then none else some (sdW u Xs Ys (nI (c + 1)) s))
  else if s.1 = 0 then none else if c = 2 then some (s.1 - 1, s.2.1, s.2.2) else (if ptW u Xs Ys (s.2.1 (s.1 - 1)) (Int32.ofInt 3 - s.2.2 s.1) = Int32.ofInt (-1) then none else some (s.1, upd s.2.1 s.1 (ptW u Xs Ys (s.2.1 (s.1 - 1)) (Int32.ofInt 3 - s.2.2 s.1)), upd s.2.2 s.1 (Int32.ofInt 3 - s.2.2 s.1)))
/-- what go answers, by where each step leads -/
def goR (b : Prop) (G : Nat → Nat × (Nat → Int32) × (Nat → Int32) → Option (Nat × (Nat → Int32) × (Nat → Int32))) (s : Nat × (Nat → Int32) × (Nat → Int32)) (x : Int32) (s' : Nat × (Nat → Int32) × (Nat → Int32)) (R : Int32) : Prop :=
  (R = Int32.ofInt (-1) ∧ ¬ (0 ≤ x.toInt ∧ x.toInt ≤ 3) ∧ s' = s) ∨ ((0 ≤ x.toInt ∧ x.toInt ≤ 3) ∧ ¬ b ∧ R = c8 (-2) ∧ s' = s) ∨ (b ∧ ∃ c, c < 4 ∧ x = nI c ∧ ((G c s = none ∧ R = c8 (-3) ∧ s' = s) ∨ (G c s = some s' ∧ R = s'.2.1 s'.1)))
set_option maxHeartbeats 1000000 in
set_option maxRecDepth 20000 in
theorem cGoX (O : Nat → Int32) (P : Nat → Nat → Int32) (Y : Nat → Nat → Int64) (g : Nat → zC) (hu : (O 1).toInt ≤ 120) {dd : Nat} (hd : dd < 40) (N D : Nat → Int32) (hb : O 13 = 0 ∨ O 13 = 1) (x : Int32) : zK 3 zX6_go [.ref 0, .int x] (wX (upd O 14 (nI dd)) (updA (updA P 56 N) 57 D) Y g) (fun r w' => ∃ (s' : Nat × (Nat → Int32) × (Nat → Int32)) (R : Int32), r = some (.int R) ∧ w' = (wX (upd O 14 (nI s'.1)) (updA (updA P 56 s'.2.1) 57 s'.2.2) Y g) ∧ goR (O 13 = 1) (goW (O 1) (P 4) (P 5)) (dd, N, D) x s' R) := by
  refine zK_of qX6_go (by decide +kernel) rfl ?_
  iterate 2 (refine zv_step (bX6_go 3) rfl rfl trivial ?_)
  refine zv_ifb (fun h1 => ?_) (fun h1 => ?_)
  · iterate 1 (refine zv_step (bX6_go 3) rfl rfl trivial ?_)
    exact zv_iret (bX6_go 3) rfl (Or.inl rfl) (Nat.zero_le _) (Nat.zero_le _) ⟨(dd, N, D), _, rfl, rfl, Or.inl ⟨rfl, fun q => by have h9 := er_0.mp h1; omega, rfl⟩⟩
  · have h1a : ¬ x < 0 := h1
    iterate 3 (refine zv_step (bX6_go 3) rfl rfl trivial ?_)
    refine zv_ifb (fun h6 => ?_) (fun h6 => ?_)
    · have hx3 : 0 ≤ x.toInt ∧ x.toInt ≤ 3 := ⟨by have h9 : ¬ x.toInt < 0 := fun q => h1a (er_0.mpr q); omega, by have h9 : x ≤ Int32.ofInt 3 := h6; rwa [Int32.le_iff_toInt_le, show (Int32.ofInt 3).toInt = 3 from rfl] at h9⟩
      iterate 2 (refine zv_step (bX6_go 3) rfl rfl trivial ?_)
      refine zv_V0 (bX6_go 3) rfl rfl rfl rfl rfl rfl rfl ⟨rfl, rfl, rfl⟩ ⟨by decide, by decide⟩ ⟨Nat.zero_le _, Nat.zero_le _⟩ (wBegun (upd O 14 (nI dd)) _ Y g hb) ?_
      rintro _ _ ⟨rfl, rfl⟩
      iterate 1 (refine zv_step (bX6_go 3) rfl rfl trivial ?_)
      refine zv_ifb (fun h18 => ?_) (fun h18 => ?_)
      · have hb1 : O 13 = 1 := hb.resolve_left h18
        obtain ⟨k, hk, rfl⟩ := in_nat (x := x) (b := 3) (by decide) hx3
        rcases (show k = 0 ∨ k = 1 ∨ k = 2 ∨ k = 3 by omega) with rfl | rfl | rfl | rfl
        · skip
          iterate 1 (refine zv_step (bX6_go 3) rfl rfl trivial ?_)
          refine zv_step (bX6_go 3) rfl rfl (by decide) ?_
          iterate 7 (refine zv_step (bX6_go 3) rfl rfl trivial ?_)
          refine zv_V2 (bX6_go 3) rfl rfl rfl rfl rfl rfl rfl ⟨rfl, rfl, rfl⟩ ⟨by decide, by decide⟩ ⟨Nat.zero_le _, Nat.zero_le _⟩ (wDown O P Y g hu hd N D _) ?_
          rintro _ _ ⟨rfl, ⟨hz, rfl⟩ | ⟨hz, rfl⟩⟩
          · skip
            iterate 3 (refine zv_step (bX6_go 3) rfl rfl trivial ?_)
            refine zv_ift (rfl) ?_
            iterate 1 (refine zv_step (bX6_go 3) rfl rfl trivial ?_)
            exact zv_iret (bX6_go 3) rfl (Or.inl rfl) (Nat.zero_le _) (Nat.zero_le _) ⟨(sdW (O 1) (P 4) (P 5) (nI 0 + Int32.ofInt 1) (dd, N, D)), _, rfl, rfl, Or.inr (Or.inr ⟨hb1, 0, by decide, rfl, Or.inl ⟨if_pos hz, rfl, if_pos hz⟩⟩)⟩
          · skip
            iterate 3 (refine zv_step (bX6_go 3) rfl rfl trivial ?_)
            refine zv_iff (by decide) ?_
            iterate 2 (refine zv_step (bX6_go 3) rfl rfl trivial ?_)
            refine zv_V0 (bX6_go 3) rfl rfl rfl rfl rfl rfl rfl ⟨rfl, rfl, rfl⟩ ⟨by decide, by decide⟩ ⟨Nat.zero_le _, Nat.zero_le _⟩ (wHere O P Y g (dd := (sdW (O 1) (P 4) (P 5) (nI 0 + Int32.ofInt 1) (dd, N, D)).1) (sdW_le hd) (sdW (O 1) (P 4) (P 5) (nI 0 + Int32.ofInt 1) (dd, N, D)).2.1 (sdW (O 1) (P 4) (P 5) (nI 0 + Int32.ofInt 1) (dd, N, D)).2.2) ?_
            rintro _ _ ⟨rfl, rfl⟩
            iterate 1 (refine zv_step (bX6_go 3) rfl rfl trivial ?_)
            exact zv_iret (bX6_go 3) rfl (Or.inl rfl) (Nat.zero_le _) (Nat.zero_le _) ⟨(sdW (O 1) (P 4) (P 5) (nI 0 + Int32.ofInt 1) (dd, N, D)), _, rfl, rfl, Or.inr (Or.inr ⟨hb1, 0, by decide, rfl, Or.inr ⟨if_neg hz, rfl⟩⟩)⟩
        · skip
          iterate 1 (refine zv_step (bX6_go 3) rfl rfl trivial ?_)
          refine zv_step (bX6_go 3) rfl rfl (by decide) ?_
          iterate 7 (refine zv_step (bX6_go 3) rfl rfl trivial ?_)
          refine zv_V2 (bX6_go 3) rfl rfl rfl rfl rfl rfl rfl ⟨rfl, rfl, rfl⟩ ⟨by decide, by decide⟩ ⟨Nat.zero_le _, Nat.zero_le _⟩ (wDown O P Y g hu hd N D _) ?_
          rintro _ _ ⟨rfl, ⟨hz, rfl⟩ | ⟨hz, rfl⟩⟩
          · skip
            iterate 3 (refine zv_step (bX6_go 3) rfl rfl trivial ?_)
            refine zv_ift (rfl) ?_
            iterate 1 (refine zv_step (bX6_go 3) rfl rfl trivial ?_)
            exact zv_iret (bX6_go 3) rfl (Or.inl rfl) (Nat.zero_le _) (Nat.zero_le _) ⟨(sdW (O 1) (P 4) (P 5) (nI 1 + Int32.ofInt 1) (dd, N, D)), _, rfl, rfl, Or.inr (Or.inr ⟨hb1, 1, by decide, rfl, Or.inl ⟨if_pos hz, rfl, if_pos hz⟩⟩)⟩
          · skip
            iterate 3 (refine zv_step (bX6_go 3) rfl rfl trivial ?_)
            refine zv_iff (by decide) ?_
            iterate 2 (refine zv_step (bX6_go 3) rfl rfl trivial ?_)
            refine zv_V0 (bX6_go 3) rfl rfl rfl rfl rfl rfl rfl ⟨rfl, rfl, rfl⟩ ⟨by decide, by decide⟩ ⟨Nat.zero_le _, Nat.zero_le _⟩ (wHere O P Y g (dd := (sdW (O 1) (P 4) (P 5) (nI 1 + Int32.ofInt 1) (dd, N, D)).1) (sdW_le hd) (sdW (O 1) (P 4) (P 5) (nI 1 + Int32.ofInt 1) (dd, N, D)).2.1 (sdW (O 1) (P 4) (P 5) (nI 1 + Int32.ofInt 1) (dd, N, D)).2.2) ?_
            rintro _ _ ⟨rfl, rfl⟩
            iterate 1 (refine zv_step (bX6_go 3) rfl rfl trivial ?_)
            exact zv_iret (bX6_go 3) rfl (Or.inl rfl) (Nat.zero_le _) (Nat.zero_le _) ⟨(sdW (O 1) (P 4) (P 5) (nI 1 + Int32.ofInt 1) (dd, N, D)), _, rfl, rfl, Or.inr (Or.inr ⟨hb1, 1, by decide, rfl, Or.inr ⟨if_neg hz, rfl⟩⟩)⟩
        · skip
          iterate 1 (refine zv_step (bX6_go 3) rfl rfl trivial ?_)
          refine zv_step (bX6_go 3) rfl rfl (by decide) ?_
          iterate 2 (refine zv_step (bX6_go 3) rfl rfl trivial ?_)
          refine zv_V0 (bX6_go 3) rfl rfl rfl rfl rfl rfl rfl ⟨rfl, rfl, rfl⟩ ⟨by decide, by decide⟩ ⟨Nat.zero_le _, Nat.zero_le _⟩ (wUp O P Y g hd N D) ?_
          rintro _ _ ⟨rfl, ⟨hz, rfl⟩ | ⟨hz, rfl⟩⟩
          · skip
            iterate 4 (refine zv_step (bX6_go 3) rfl rfl trivial ?_)
            refine zv_ift (rfl) ?_
            iterate 1 (refine zv_step (bX6_go 3) rfl rfl trivial ?_)
            exact zv_iret (bX6_go 3) rfl (Or.inl rfl) (Nat.zero_le _) (Nat.zero_le _) ⟨(dd - 1, N, D), _, rfl, rfl, Or.inr (Or.inr ⟨hb1, 2, by decide, rfl, Or.inl ⟨if_pos hz, rfl, by rw [hz]⟩⟩)⟩
          · skip
            iterate 4 (refine zv_step (bX6_go 3) rfl rfl trivial ?_)
            refine zv_iff (by decide) ?_
            iterate 2 (refine zv_step (bX6_go 3) rfl rfl trivial ?_)
            refine zv_V0 (bX6_go 3) rfl rfl rfl rfl rfl rfl rfl ⟨rfl, rfl, rfl⟩ ⟨by decide, by decide⟩ ⟨Nat.zero_le _, Nat.zero_le _⟩ (wHere O P Y g (dd := dd - 1) (by omega) N D) ?_
            rintro _ _ ⟨rfl, rfl⟩
            iterate 1 (refine zv_step (bX6_go 3) rfl rfl trivial ?_)
            exact zv_iret (bX6_go 3) rfl (Or.inl rfl) (Nat.zero_le _) (Nat.zero_le _) ⟨(dd - 1, N, D), _, rfl, rfl, Or.inr (Or.inr ⟨hb1, 2, by decide, rfl, Or.inr ⟨if_neg hz, rfl⟩⟩)⟩
        · skip
          iterate 1 (refine zv_step (bX6_go 3) rfl rfl trivial ?_)
          refine zv_step (bX6_go 3) rfl rfl (by decide) ?_
          rcases (show dd = 0 ∨ ∃ m, dd = m + 1 by cases dd with | zero => exact Or.inl rfl | succ m => exact Or.inr ⟨m, rfl⟩) with rfl | ⟨m, rfl⟩
          · skip
            iterate 4 (refine zv_step (bX6_go 3) rfl rfl trivial ?_)
            refine zv_V1 (bX6_go 3) rfl rfl rfl rfl rfl rfl rfl ⟨rfl, rfl, rfl⟩ ⟨by decide, by decide⟩ ⟨Nat.zero_le _, Nat.zero_le _⟩ (wBeside0 O P Y g N D) ?_
            rintro _ _ ⟨rfl, rfl⟩
            iterate 4 (refine zv_step (bX6_go 3) rfl rfl trivial ?_)
            refine zv_ift (rfl) ?_
            iterate 1 (refine zv_step (bX6_go 3) rfl rfl trivial ?_)
            exact zv_iret (bX6_go 3) rfl (Or.inl rfl) (Nat.zero_le _) (Nat.zero_le _) ⟨(0, N, D), _, rfl, rfl, Or.inr (Or.inr ⟨hb1, 3, by decide, rfl, Or.inl ⟨rfl, rfl, rfl⟩⟩)⟩
          · skip
            iterate 4 (refine zv_step (bX6_go 3) rfl rfl trivial ?_)
            refine zv_V1 (bX6_go 3) rfl rfl rfl rfl rfl rfl rfl ⟨rfl, rfl, rfl⟩ ⟨by decide, by decide⟩ ⟨Nat.zero_le _, Nat.zero_le _⟩ (wBeside1 O P Y g hu hd N D) ?_
            rintro _ _ (⟨hz, rfl, rfl⟩ | ⟨hz, rfl, rfl⟩)
            · skip
              iterate 4 (refine zv_step (bX6_go 3) rfl rfl trivial ?_)
              refine zv_ift (rfl) ?_
              iterate 1 (refine zv_step (bX6_go 3) rfl rfl trivial ?_)
              exact zv_iret (bX6_go 3) rfl (Or.inl rfl) (Nat.zero_le _) (Nat.zero_le _) ⟨(m + 1, N, D), _, rfl, rfl, Or.inr (Or.inr ⟨hb1, 3, by decide, rfl, Or.inl ⟨if_pos hz, rfl, rfl⟩⟩)⟩
            · skip
              iterate 4 (refine zv_step (bX6_go 3) rfl rfl trivial ?_)
              refine zv_iff (by decide) ?_
              iterate 2 (refine zv_step (bX6_go 3) rfl rfl trivial ?_)
              refine zv_V0 (bX6_go 3) rfl rfl rfl rfl rfl rfl rfl ⟨rfl, rfl, rfl⟩ ⟨by decide, by decide⟩ ⟨Nat.zero_le _, Nat.zero_le _⟩ (wHere O P Y g (dd := m + 1) hd (upd N (m + 1) (ptW (O 1) (P 4) (P 5) (N m) (Int32.ofInt 3 - D (m + 1)))) (upd D (m + 1) (Int32.ofInt 3 - D (m + 1)))) ?_
              rintro _ _ ⟨rfl, rfl⟩
              iterate 1 (refine zv_step (bX6_go 3) rfl rfl trivial ?_)
              exact zv_iret (bX6_go 3) rfl (Or.inl rfl) (Nat.zero_le _) (Nat.zero_le _) ⟨(m + 1, upd N (m + 1) (ptW (O 1) (P 4) (P 5) (N m) (Int32.ofInt 3 - D (m + 1))), upd D (m + 1) (Int32.ofInt 3 - D (m + 1))), _, rfl, rfl, Or.inr (Or.inr ⟨hb1, 3, by decide, rfl, Or.inr ⟨if_neg hz, rfl⟩⟩)⟩
      · iterate 1 (refine zv_step (bX6_go 3) rfl rfl trivial ?_)
        exact zv_iret (bX6_go 3) rfl (Or.inl rfl) (Nat.zero_le _) (Nat.zero_le _) ⟨(dd, N, D), _, rfl, rfl, Or.inr (Or.inl ⟨hx3, fun q => h18 (fun w => absurd (q.symm.trans w) (by decide)), rfl, rfl⟩)⟩
    · iterate 1 (refine zv_step (bX6_go 3) rfl rfl trivial ?_)
      exact zv_iret (bX6_go 3) rfl (Or.inl rfl) (Nat.zero_le _) (Nat.zero_le _) ⟨(dd, N, D), _, rfl, rfl, Or.inl ⟨rfl, fun q => h6 (show x ≤ Int32.ofInt 3 by rw [Int32.le_iff_toInt_le, show (Int32.ofInt 3).toInt = 3 from rfl]; exact q.2), rfl⟩⟩
def ldR (b : Prop) (L : Prop) (F s : Nat × (Nat → Int32) × (Nat → Int32)) (s' : Nat × (Nat → Int32) × (Nat → Int32)) (R : Int32) : Prop := (¬ b ∧ R = c8 (-2) ∧ s' = s) ∨ (b ∧ ((¬ L ∧ R = Int32.ofInt (-1) ∧ s' = s) ∨ (L ∧ R = F.2.1 F.1 ∧ s' = F)))
set_option maxHeartbeats 1000000 in
set_option maxRecDepth 20000 in
theorem cLeadX (O : Nat → Int32) (P : Nat → Nat → Int32) (Y : Nat → Nat → Int64) (g : Nat → zC) (hu : (O 1).toInt ≤ 120) {dd : Nat} (h14 : O 14 = nI dd) (hb : O 13 = 0 ∨ O 13 = 1) (x : Int32) : zK 4 zX6_lead [.ref 0, .int x] (wX O P Y g) (fun r w' => ∃ (s' : Nat × (Nat → Int32) × (Nat → Int32)) (R : Int32), r = some (.int R) ∧ w' = (wX (upd O 14 (nI s'.1)) (updA (updA P 56 s'.2.1) 57 s'.2.2) Y g) ∧ ldR (O 13 = 1) (0 ≤ x.toInt ∧ ¬ lsW (O 1) (P 4) (P 5) 20 (P 56 0) x = Int32.ofInt (-1)) (foW (O 1) (P 4) (P 5) 20 x (0, P 56, P 57)) (dd, P 56, P 57) s' R) := by
  refine zK_of qX6_lead (by decide +kernel) rfl ?_
  iterate 2 (refine zv_step (bX6_lead 4) rfl rfl trivial ?_)
  refine zv_V0 (bX6_lead 4) rfl rfl rfl rfl rfl rfl rfl ⟨rfl, rfl, rfl⟩ ⟨by decide, by decide⟩ ⟨Nat.zero_le _, Nat.zero_le _⟩ (wBegun O P Y g hb) ?_
  rintro _ _ ⟨rfl, rfl⟩
  iterate 1 (refine zv_step (bX6_lead 4) rfl rfl trivial ?_)
  refine zv_ifb (fun h7 => ?_) (fun h7 => ?_)
  · have hb1 : O 13 = 1 := hb.resolve_left h7
    iterate 5 (refine zv_step (bX6_lead 4) rfl rfl trivial ?_)
    refine zv_V2 (bX6_lead 4) rfl rfl rfl rfl rfl rfl rfl ⟨rfl, rfl, rfl⟩ ⟨by decide, by decide⟩ ⟨Nat.zero_le _, Nat.zero_le _⟩ (wFollow O P Y g hu _) ?_
    rintro _ _ (⟨hf, rfl, rfl⟩ | ⟨hf, rfl, rfl⟩)
    · skip
      iterate 1 (refine zv_step (bX6_lead 4) rfl rfl trivial ?_)
      refine zv_iff (by decide) ?_
      iterate 2 (refine zv_step (bX6_lead 4) rfl rfl trivial ?_)
      refine zv_V0 (bX6_lead 4) rfl rfl rfl rfl rfl rfl rfl ⟨rfl, rfl, rfl⟩ ⟨by decide, by decide⟩ ⟨Nat.zero_le _, Nat.zero_le _⟩ (wHere O P Y g (dd := (foW (O 1) (P 4) (P 5) 20 x (0, P 56, P 57)).1) (foW_le 20 x (0, P 56, P 57) (show 0 < 40 by decide)) (foW (O 1) (P 4) (P 5) 20 x (0, P 56, P 57)).2.1 (foW (O 1) (P 4) (P 5) 20 x (0, P 56, P 57)).2.2) ?_
      rintro _ _ ⟨rfl, rfl⟩
      iterate 1 (refine zv_step (bX6_lead 4) rfl rfl trivial ?_)
      exact zv_iret (bX6_lead 4) rfl (Or.inl rfl) (Nat.zero_le _) (Nat.zero_le _) ⟨(foW (O 1) (P 4) (P 5) 20 x (0, P 56, P 57)), _, rfl, rfl, Or.inr ⟨hb1, Or.inr ⟨hf, rfl, rfl⟩⟩⟩
    · skip
      iterate 1 (refine zv_step (bX6_lead 4) rfl rfl trivial ?_)
      refine zv_ift (rfl) ?_
      iterate 1 (refine zv_step (bX6_lead 4) rfl rfl trivial ?_)
      exact zv_iret (bX6_lead 4) rfl (Or.inl rfl) (Nat.zero_le _) (Nat.zero_le _) ⟨(dd, P 56, P 57), _, rfl, wX_rt P Y g h14, Or.inr ⟨hb1, Or.inl ⟨hf, rfl, rfl⟩⟩⟩
  · iterate 1 (refine zv_step (bX6_lead 4) rfl rfl trivial ?_)
    exact zv_iret (bX6_lead 4) rfl (Or.inl rfl) (Nat.zero_le _) (Nat.zero_le _) ⟨(dd, P 56, P 57), _, rfl, wX_rt P Y g h14, Or.inl ⟨fun q => h7 (fun w => absurd (q.symm.trans w) (by decide)), rfl, rfl⟩⟩
end
section
/-- a PART by its way (0 x, others y), a step down -/
noncomputable def wyA (A : Nat → Nat → Int32) (x w : Int32) : Int32 := if w = 0 then A 2 (nC x) else A 3 (nC x)
noncomputable def sdA (A : Nat → Nat → Int32) (w : Int32) (s : Nat × (Nat → Int32) × (Nat → Int32)) : Nat × (Nat → Int32) × (Nat → Int32) := if wyA A (s.2.1 s.1) w < 0 then s else (s.1 + 1, upd s.2.1 (s.1 + 1) (wyA A (s.2.1 s.1) w), upd s.2.2 (s.1 + 1) w)
theorem wyA_or {u : Nat} {A : Nat → Nat → Int32} (hT : tbI 0 u A) (hu : u ≤ 120) {n : Nat} (hn : n < u) (w : Int32) : wyA A (nI n) w = m2 ∨ ∃ a, wyA A (nI n) w = nI a ∧ a < n ∧ szN A a + 1 ≤ szN A n := by
  obtain ⟨h2, h3⟩ := rN_dn (hT n (Nat.zero_le _) hn)
  unfold wyA
  rw [show nC (nI n) = n from nI_clamp (by omega)]
  split
  · exact h2
  · exact h3
theorem rt_sdA {u : Nat} (hu : u ≤ 120) {A : Nat → Nat → Int32} (hT : tbI 0 u A) {t : Nat} (ht : t < u) (w : Int32) {s : Nat × (Nat → Int32) × (Nat → Int32)} (h : rtM A t s.1 s.2.1) : rtM A t (sdA A w s).1 (sdA A w s).2.1 := by
  obtain ⟨j, hj, ej, hz⟩ := h.2 s.1 (Nat.le_refl _)
  unfold sdA
  rw [ej]
  rcases wyA_or hT hu (show j < u by omega) w with e | ⟨a, e, ha, hs⟩
  · rw [e, if_pos (by decide)]
    exact h
  · rw [e, if_neg (nI_pos (by omega))]
    exact rtM_set h (by omega) (by omega)
set_option maxHeartbeats 1000000 in
set_option maxRecDepth 20000 in
theorem mDownX (f : Nat → zC) (o : Nat → Int32) (A : Nat → Nat → Int32) (J : Nat → Nat → Int64) {u : Nat} (hu : u ≤ 120) (hT : tbI 0 u A) {t d : Nat} (ht : t < u) {N : Nat → Int32} (D : Nat → Int32) (hr : rtM A t d N) (x : Int32) : zK 1 zX7_down [.ref 76, .int x] (wR f (upd o 33 (nI d)) (updA (updA A 20 N) 21 D) J) (fun r w' => w' = (wR f (upd o 33 (nI (sdA A x (d, N, D)).1)) (updA (updA A 20 (sdA A x (d, N, D)).2.1) 21 (sdA A x (d, N, D)).2.2) J) ∧ (((∃ a : Nat, a < u ∧ wyA A (N d) x = nI a) ∧ r = some (.int 1)) ∨ (wyA A (N d) x = m2 ∧ r = some (.int 0)))) := by
  have hd9 := rtM_d hT ht hr
  have e8 : nI d + Int32.ofInt 1 = nI (d + 1) := nI_1 d
  have e7 : (nI d + Int32.ofInt 1).toNatClampNeg = d + 1 := by rw [e8, nI_clamp (by omega)]
  obtain ⟨j, hj, ej, hz⟩ := hr.2 d (Nat.le_refl _)
  obtain ⟨hd2, hd3⟩ := rN_dn (hT j (Nat.zero_le _) (by omega))
  refine zK_of qX7_down (by decide +kernel) rfl ?_
  iterate 2 (refine zv_step (bX7_down 1) rfl rfl trivial ?_)
  refine zv_ifb (fun h1 => ?_) (fun h1 => ?_)
  · have h1n : ¬ x = 0 := h1
    rcases hd3 with e2 | ⟨a, e2, ha, hza⟩
    · have ew : wyA A (N d) x = m2 := by rw [ej]; exact ((show wyA A (nI j) x = A 3 j by unfold wyA; rw [if_neg h1n, show nC (nI j) = j from nI_clamp (by omega)])).trans e2
      iterate 6 (refine zv_step (bX7_down 1) rfl rfl trivial ?_)
      refine zv_iale (bX7_down 1) rfl rfl (vp_in_nI (by omega) (by decide)) (show N (nI d).toNatClampNeg = nI j by rw [nI_clamp (by omega)]; exact ej) ?_
      refine zv_iale (bX7_down 1) rfl rfl (vp_in_nI (by omega) (by decide)) (show A 3 (nI j).toNatClampNeg = m2 by rw [nI_clamp (by omega)]; exact e2) ?_
      iterate 3 (refine zv_step (bX7_down 1) rfl rfl trivial ?_)
      refine zv_ift (by decide) ?_
      iterate 2 (refine zv_step (bX7_down 1) rfl rfl trivial ?_)
      refine zv_ift (by decide) ?_
      iterate 1 (refine zv_step (bX7_down 1) rfl rfl trivial ?_)
      exact zv_iret (bX7_down 1) rfl (Or.inr ⟨rfl, Or.inl rfl⟩) (Nat.zero_le _) (Nat.zero_le _) ⟨by
        rw [show sdA A x (d, N, D) = (d, N, D) from by unfold sdA; rw [ew, if_pos (by decide)]], Or.inr ⟨ew, rfl⟩⟩
    · have ew : wyA A (N d) x = nI a := by rw [ej]; exact ((show wyA A (nI j) x = A 3 j by unfold wyA; rw [if_neg h1n, show nC (nI j) = j from nI_clamp (by omega)])).trans e2
      iterate 6 (refine zv_step (bX7_down 1) rfl rfl trivial ?_)
      refine zv_iale (bX7_down 1) rfl rfl (vp_in_nI (by omega) (by decide)) (show N (nI d).toNatClampNeg = nI j by rw [nI_clamp (by omega)]; exact ej) ?_
      refine zv_iale (bX7_down 1) rfl rfl (vp_in_nI (by omega) (by decide)) (show A 3 (nI j).toNatClampNeg = nI a by rw [nI_clamp (by omega)]; exact e2) ?_
      iterate 3 (refine zv_step (bX7_down 1) rfl rfl trivial ?_)
      refine zv_iff (nI_pos (by omega)) ?_
      iterate 7 (refine zv_step (bX7_down 1) rfl rfl trivial ?_)
      refine zv_step (bX7_down 1) rfl rfl (show vp_in (nI d + Int32.ofInt 1) 41 by rw [show nI d + Int32.ofInt 1 = nI (d + 1) from nI_1 d]; exact vp_in_nI (by omega) (by decide)) ?_
      iterate 7 (refine zv_step (bX7_down 1) rfl rfl trivial ?_)
      refine zv_step (bX7_down 1) rfl rfl (show vp_in (nI d + Int32.ofInt 1) 41 by rw [show nI d + Int32.ofInt 1 = nI (d + 1) from nI_1 d]; exact vp_in_nI (by omega) (by decide)) ?_
      iterate 8 (refine zv_step (bX7_down 1) rfl rfl trivial ?_)
      refine zv_iff (nI_pos (by omega)) ?_
      iterate 2 (refine zv_step (bX7_down 1) rfl rfl trivial ?_)
      exact zv_iret (bX7_down 1) rfl (Or.inr ⟨rfl, Or.inr rfl⟩) (Nat.zero_le _) (Nat.zero_le _) ⟨by
        rw [show sdA A x (d, N, D) = (d + 1, upd N (d + 1) (nI a), upd D (d + 1) x) from by unfold sdA; rw [ew, if_neg (nI_pos (by omega))]]
        show wR f (upd o 33 (nI d + Int32.ofInt 1)) (updA (updA A 20 (upd N (nI d + Int32.ofInt 1).toNatClampNeg (nI a))) 21 (upd D (nI d + Int32.ofInt 1).toNatClampNeg x)) J = _
        rw [e7, e8], Or.inl ⟨⟨a, by omega, ew⟩, rfl⟩⟩
  · have h1y : x = 0 := Decidable.not_not.mp h1
    rcases hd2 with e2 | ⟨a, e2, ha, hza⟩
    · have ew : wyA A (N d) x = m2 := by rw [ej]; exact ((show wyA A (nI j) x = A 2 j by unfold wyA; rw [if_pos h1y, show nC (nI j) = j from nI_clamp (by omega)])).trans e2
      iterate 6 (refine zv_step (bX7_down 1) rfl rfl trivial ?_)
      refine zv_iale (bX7_down 1) rfl rfl (vp_in_nI (by omega) (by decide)) (show N (nI d).toNatClampNeg = nI j by rw [nI_clamp (by omega)]; exact ej) ?_
      refine zv_iale (bX7_down 1) rfl rfl (vp_in_nI (by omega) (by decide)) (show A 2 (nI j).toNatClampNeg = m2 by rw [nI_clamp (by omega)]; exact e2) ?_
      iterate 4 (refine zv_step (bX7_down 1) rfl rfl trivial ?_)
      refine zv_ift (by decide) ?_
      iterate 2 (refine zv_step (bX7_down 1) rfl rfl trivial ?_)
      refine zv_ift (by decide) ?_
      iterate 1 (refine zv_step (bX7_down 1) rfl rfl trivial ?_)
      exact zv_iret (bX7_down 1) rfl (Or.inr ⟨rfl, Or.inl rfl⟩) (Nat.zero_le _) (Nat.zero_le _) ⟨by
        rw [show sdA A x (d, N, D) = (d, N, D) from by unfold sdA; rw [ew, if_pos (by decide)]], Or.inr ⟨ew, rfl⟩⟩
    · have ew : wyA A (N d) x = nI a := by rw [ej]; exact ((show wyA A (nI j) x = A 2 j by unfold wyA; rw [if_pos h1y, show nC (nI j) = j from nI_clamp (by omega)])).trans e2
      iterate 6 (refine zv_step (bX7_down 1) rfl rfl trivial ?_)
      refine zv_iale (bX7_down 1) rfl rfl (vp_in_nI (by omega) (by decide)) (show N (nI d).toNatClampNeg = nI j by rw [nI_clamp (by omega)]; exact ej) ?_
      refine zv_iale (bX7_down 1) rfl rfl (vp_in_nI (by omega) (by decide)) (show A 2 (nI j).toNatClampNeg = nI a by rw [nI_clamp (by omega)]; exact e2) ?_
      iterate 4 (refine zv_step (bX7_down 1) rfl rfl trivial ?_)
      refine zv_iff (nI_pos (by omega)) ?_
      iterate 7 (refine zv_step (bX7_down 1) rfl rfl trivial ?_)
      refine zv_step (bX7_down 1) rfl rfl (show vp_in (nI d + Int32.ofInt 1) 41 by rw [show nI d + Int32.ofInt 1 = nI (d + 1) from nI_1 d]; exact vp_in_nI (by omega) (by decide)) ?_
      iterate 7 (refine zv_step (bX7_down 1) rfl rfl trivial ?_)
      refine zv_step (bX7_down 1) rfl rfl (show vp_in (nI d + Int32.ofInt 1) 41 by rw [show nI d + Int32.ofInt 1 = nI (d + 1) from nI_1 d]; exact vp_in_nI (by omega) (by decide)) ?_
      iterate 8 (refine zv_step (bX7_down 1) rfl rfl trivial ?_)
      refine zv_iff (nI_pos (by omega)) ?_
      iterate 2 (refine zv_step (bX7_down 1) rfl rfl trivial ?_)
      exact zv_iret (bX7_down 1) rfl (Or.inr ⟨rfl, Or.inr rfl⟩) (Nat.zero_le _) (Nat.zero_le _) ⟨by
        rw [show sdA A x (d, N, D) = (d + 1, upd N (d + 1) (nI a), upd D (d + 1) x) from by unfold sdA; rw [ew, if_neg (nI_pos (by omega))]]
        show wR f (upd o 33 (nI d + Int32.ofInt 1)) (updA (updA A 20 (upd N (nI d + Int32.ofInt 1).toNatClampNeg (nI a))) 21 (upd D (nI d + Int32.ofInt 1).toNatClampNeg x)) J = _
        rw [e7, e8], Or.inl ⟨⟨a, by omega, ew⟩, rfl⟩⟩
noncomputable def goA (A : Nat → Nat → Int32) (c : Nat) (s : Nat × (Nat → Int32) × (Nat → Int32)) : Option (Nat × (Nat → Int32) × (Nat → Int32)) :=
  if c < 2 then (if wyA A (s.2.1 s.1) (nI c) < 0 then none else some (sdA A (nI c) s))
  else if s.1 = 0 then none else if c = 2 then some (s.1 - 1, s.2.1, s.2.2) else (if A 3 (nC (s.2.1 (s.1 - 1))) < 0 then none else some (sdA A (Int32.ofInt 1 - s.2.2 s.1) (s.1 - 1, s.2.1, s.2.2)))
theorem sdA_m2 {A : Nat → Nat → Int32} {w : Int32} {d : Nat} {N D : Nat → Int32} (e : wyA A (N d) w = m2) : sdA A w (d, N, D) = (d, N, D) := by
  unfold sdA
  rw [e, if_pos (by decide)]
set_option maxHeartbeats 1000000 in
set_option maxRecDepth 20000 in
theorem mGoX (f : Nat → zC) (o : Nat → Int32) (A : Nat → Nat → Int32) (J : Nat → Nat → Int64) {u : Nat} (hu : u ≤ 120) (hT : tbI 0 u A) {d : Nat} (hd : d ≤ 39) {N : Nat → Int32} (D : Nat → Int32) (hb : o 30 = 0 ∨ o 30 = 1) (hr : o 30 = 1 → ∃ t, t < u ∧ rtM A t d N) (x : Int32) : zK 2 zX7_go [.ref 76, .int x] (wR f (upd o 33 (nI d)) (updA (updA A 20 N) 21 D) J) (fun r w' => ∃ (s' : Nat × (Nat → Int32) × (Nat → Int32)) (R : Int32), r = some (.int R) ∧ w' = (wR f (upd o 33 (nI s'.1)) (updA (updA A 20 s'.2.1) 21 s'.2.2) J) ∧ (o 30 = 1 → ∃ t, (t < u ∧ N 0 = nI t) ∧ rtM A t s'.1 s'.2.1) ∧ s'.1 ≤ 39 ∧ goR (o 30 = 1) (goA A) (d, N, D) x s' R) := by
  refine zK_of qX7_go (by decide +kernel) rfl ?_
  iterate 4 (refine zv_step (bX7_go 2) rfl rfl trivial ?_)
  refine zv_S3 (bX7_go 2) rfl rfl rfl rfl ⟨rfl, rfl, rfl⟩ ⟨by decide, by decide⟩ ⟨Nat.zero_le _, Nat.zero_le _⟩ (mIn _ _ _ _ (a := 0) (b := 3) (by decide) (by decide)) ?_
  rintro _ _ ⟨rfl, ⟨g1, rfl⟩ | ⟨g1, rfl⟩⟩
  · try rw [Int32.toInt_toInt64] at g1
    obtain ⟨c, hc, rfl⟩ := in_nat (x := x) (b := 3) (by decide) g1
    iterate 1 (refine zv_step (bX7_go 2) rfl rfl trivial ?_)
    refine zv_ift (by decide) ?_
    iterate 3 (refine zv_step (bX7_go 2) rfl rfl trivial ?_)
    refine zv_ifb (fun h18 => ?_) (fun h18 => ?_)
    · have hb1 : o 30 = 1 := hb.resolve_left h18
      obtain ⟨t, ht, hr0⟩ := hr hb1
      rcases (show c = 0 ∨ c = 1 ∨ c = 2 ∨ c = 3 by omega) with rfl | rfl | rfl | rfl
      · skip
        iterate 3 (refine zv_step (bX7_go 2) rfl rfl trivial ?_)
        refine zv_iff (by decide) ?_
        iterate 2 (refine zv_step (bX7_go 2) rfl rfl trivial ?_)
        refine zv_V1 (bX7_go 2) rfl rfl rfl rfl rfl rfl rfl ⟨rfl, rfl, rfl⟩ ⟨by decide, by decide⟩ ⟨Nat.zero_le _, Nat.zero_le _⟩ (mDownX f o A J hu hT ht D hr0 _) ?_
        rintro _ _ ⟨rfl, ⟨⟨a, ha9, ew⟩, rfl⟩ | ⟨ew, rfl⟩⟩
        · have hr1 := rt_sdA hu hT ht (nI 0) (s := (d, N, D)) hr0
          have hd1 := rtM_d hT ht hr1
          iterate 1 (refine zv_step (bX7_go 2) rfl rfl trivial ?_)
          refine zv_iff (by decide) ?_
          iterate 4 (refine zv_step (bX7_go 2) rfl rfl trivial ?_)
          refine zv_iale (bX7_go 2) rfl rfl (show vp_in (nI (sdA A (nI 0) (d, N, D)).1) 41 from vp_in_nI (by omega) (by decide)) (show (sdA A (nI 0) (d, N, D)).2.1 (nI (sdA A (nI 0) (d, N, D)).1).toNatClampNeg = (sdA A (nI 0) (d, N, D)).2.1 (sdA A (nI 0) (d, N, D)).1 by rw [nI_clamp (by omega)]) ?_
          iterate 1 (refine zv_step (bX7_go 2) rfl rfl trivial ?_)
          exact zv_iret (bX7_go 2) rfl (Or.inl rfl) (Nat.zero_le _) (Nat.zero_le _) ⟨(sdA A (nI 0) (d, N, D)), _, rfl, rfl, fun _ => ⟨t, ⟨ht, hr0.1⟩, hr1⟩, hd1, Or.inr (Or.inr ⟨hb1, 0, by decide, rfl, Or.inr ⟨show goA A 0 (d, N, D) = _ from by unfold goA; rw [if_pos (by decide), if_neg (show ¬ wyA A (N d) (nI 0) < 0 by rw [ew]; exact nI_pos (by omega))], rfl⟩⟩)⟩
        · skip
          iterate 1 (refine zv_step (bX7_go 2) rfl rfl trivial ?_)
          refine zv_ift (by decide) ?_
          iterate 1 (refine zv_step (bX7_go 2) rfl rfl trivial ?_)
          exact zv_iret (bX7_go 2) rfl (Or.inl rfl) (Nat.zero_le _) (Nat.zero_le _) ⟨(d, N, D), _, rfl, by rw [sdA_m2 ew], fun h => by obtain ⟨t, ht, k⟩ := hr h; exact ⟨t, ⟨ht, k.1⟩, k⟩, hd, Or.inr (Or.inr ⟨hb1, 0, by decide, rfl, Or.inl ⟨show goA A 0 (d, N, D) = none from by unfold goA; rw [if_pos (by decide), if_pos (show wyA A (N d) (nI 0) < 0 by rw [ew]; decide)], rfl, rfl⟩⟩)⟩
      · skip
        iterate 3 (refine zv_step (bX7_go 2) rfl rfl trivial ?_)
        refine zv_iff (by decide) ?_
        iterate 2 (refine zv_step (bX7_go 2) rfl rfl trivial ?_)
        refine zv_V1 (bX7_go 2) rfl rfl rfl rfl rfl rfl rfl ⟨rfl, rfl, rfl⟩ ⟨by decide, by decide⟩ ⟨Nat.zero_le _, Nat.zero_le _⟩ (mDownX f o A J hu hT ht D hr0 _) ?_
        rintro _ _ ⟨rfl, ⟨⟨a, ha9, ew⟩, rfl⟩ | ⟨ew, rfl⟩⟩
        · have hr1 := rt_sdA hu hT ht (nI 1) (s := (d, N, D)) hr0
          have hd1 := rtM_d hT ht hr1
          iterate 1 (refine zv_step (bX7_go 2) rfl rfl trivial ?_)
          refine zv_iff (by decide) ?_
          iterate 4 (refine zv_step (bX7_go 2) rfl rfl trivial ?_)
          refine zv_iale (bX7_go 2) rfl rfl (show vp_in (nI (sdA A (nI 1) (d, N, D)).1) 41 from vp_in_nI (by omega) (by decide)) (show (sdA A (nI 1) (d, N, D)).2.1 (nI (sdA A (nI 1) (d, N, D)).1).toNatClampNeg = (sdA A (nI 1) (d, N, D)).2.1 (sdA A (nI 1) (d, N, D)).1 by rw [nI_clamp (by omega)]) ?_
          iterate 1 (refine zv_step (bX7_go 2) rfl rfl trivial ?_)
          exact zv_iret (bX7_go 2) rfl (Or.inl rfl) (Nat.zero_le _) (Nat.zero_le _) ⟨(sdA A (nI 1) (d, N, D)), _, rfl, rfl, fun _ => ⟨t, ⟨ht, hr0.1⟩, hr1⟩, hd1, Or.inr (Or.inr ⟨hb1, 1, by decide, rfl, Or.inr ⟨show goA A 1 (d, N, D) = _ from by unfold goA; rw [if_pos (by decide), if_neg (show ¬ wyA A (N d) (nI 1) < 0 by rw [ew]; exact nI_pos (by omega))], rfl⟩⟩)⟩
        · skip
          iterate 1 (refine zv_step (bX7_go 2) rfl rfl trivial ?_)
          refine zv_ift (by decide) ?_
          iterate 1 (refine zv_step (bX7_go 2) rfl rfl trivial ?_)
          exact zv_iret (bX7_go 2) rfl (Or.inl rfl) (Nat.zero_le _) (Nat.zero_le _) ⟨(d, N, D), _, rfl, by rw [sdA_m2 ew], fun h => by obtain ⟨t, ht, k⟩ := hr h; exact ⟨t, ⟨ht, k.1⟩, k⟩, hd, Or.inr (Or.inr ⟨hb1, 1, by decide, rfl, Or.inl ⟨show goA A 1 (d, N, D) = none from by unfold goA; rw [if_pos (by decide), if_pos (show wyA A (N d) (nI 1) < 0 by rw [ew]; decide)], rfl, rfl⟩⟩)⟩
      · skip
        iterate 3 (refine zv_step (bX7_go 2) rfl rfl trivial ?_)
        refine zv_ift (by decide) ?_
        iterate 3 (refine zv_step (bX7_go 2) rfl rfl trivial ?_)
        refine zv_ifb (fun h56 => ?_) (fun h56 => ?_)
        · have d0 : d = 0 := (nI_eq (by omega) (by decide)).mp h56
          iterate 1 (refine zv_step (bX7_go 2) rfl rfl trivial ?_)
          exact zv_iret (bX7_go 2) rfl (Or.inl rfl) (Nat.zero_le _) (Nat.zero_le _) ⟨(d, N, D), _, rfl, rfl, fun h => by obtain ⟨t, ht, k⟩ := hr h; exact ⟨t, ⟨ht, k.1⟩, k⟩, hd, Or.inr (Or.inr ⟨hb1, 2, by decide, rfl, Or.inl ⟨show goA A 2 (d, N, D) = none from by unfold goA; rw [if_neg (by decide), if_pos d0], rfl, rfl⟩⟩)⟩
        · have d0 : d ≠ 0 := fun e => h56 (by rw [e]; rfl)
          obtain ⟨j, hj, ej, hz⟩ := hr0.2 (d - 1) (by omega)
          have em : nI d - Int32.ofInt 1 = nI (d - 1) := sub_1 (by omega)
          iterate 3 (refine zv_step (bX7_go 2) rfl rfl trivial ?_)
          refine zv_ift (by decide) ?_
          iterate 6 (refine zv_step (bX7_go 2) rfl rfl trivial ?_)
          refine zv_world (show _ = (wR f (upd o 33 (nI (d - 1))) (updA (updA A 20 N) 21 D) J) from by rw [← em]; rfl) ?_
          iterate 3 (refine zv_step (bX7_go 2) rfl rfl trivial ?_)
          refine zv_ift (by decide) ?_
          iterate 4 (refine zv_step (bX7_go 2) rfl rfl trivial ?_)
          refine zv_iale (bX7_go 2) rfl rfl (show vp_in (nI (d - 1)) 41 from vp_in_nI (by omega) (by decide)) (show N (nI (d - 1)).toNatClampNeg = N (d - 1) by rw [nI_clamp (by omega)]) ?_
          exact zv_iret (bX7_go 2) rfl (Or.inl rfl) (Nat.zero_le _) (Nat.zero_le _) ⟨(d - 1, N, D), _, rfl, rfl, fun _ => ⟨t, ⟨ht, hr0.1⟩, rtM_up hr0 (show d - 1 ≤ d by omega)⟩, show d - 1 ≤ 39 by omega, Or.inr (Or.inr ⟨hb1, 2, by decide, rfl, Or.inr ⟨show goA A 2 (d, N, D) = _ from by unfold goA; rw [if_neg (by decide), if_neg d0, if_pos rfl], rfl⟩⟩)⟩
      · skip
        iterate 3 (refine zv_step (bX7_go 2) rfl rfl trivial ?_)
        refine zv_ift (by decide) ?_
        iterate 3 (refine zv_step (bX7_go 2) rfl rfl trivial ?_)
        refine zv_ifb (fun h56 => ?_) (fun h56 => ?_)
        · have d0 : d = 0 := (nI_eq (by omega) (by decide)).mp h56
          iterate 1 (refine zv_step (bX7_go 2) rfl rfl trivial ?_)
          exact zv_iret (bX7_go 2) rfl (Or.inl rfl) (Nat.zero_le _) (Nat.zero_le _) ⟨(d, N, D), _, rfl, rfl, fun h => by obtain ⟨t, ht, k⟩ := hr h; exact ⟨t, ⟨ht, k.1⟩, k⟩, hd, Or.inr (Or.inr ⟨hb1, 3, by decide, rfl, Or.inl ⟨show goA A 3 (d, N, D) = none from by unfold goA; rw [if_neg (by decide), if_pos d0], rfl, rfl⟩⟩)⟩
        · have d0 : d ≠ 0 := fun e => h56 (by rw [e]; rfl)
          obtain ⟨j, hj, ej, hz⟩ := hr0.2 (d - 1) (by omega)
          have em : nI d - Int32.ofInt 1 = nI (d - 1) := sub_1 (by omega)
          iterate 3 (refine zv_step (bX7_go 2) rfl rfl trivial ?_)
          refine zv_iff (by decide) ?_
          iterate 8 (refine zv_step (bX7_go 2) rfl rfl trivial ?_)
          refine zv_iale (bX7_go 2) rfl rfl (show vp_in (nI d - Int32.ofInt 1) 41 by rw [em]; exact vp_in_nI (by omega) (by decide)) (show N (nI d - Int32.ofInt 1).toNatClampNeg = nI j by rw [em, nI_clamp (by omega)]; exact ej) ?_
          refine zv_iale (bX7_go 2) rfl rfl (vp_in_nI (by omega) (by decide)) (show A 3 (nI j).toNatClampNeg = A 3 (nC (N (d - 1))) by rw [ej]; rfl) ?_
          iterate 1 (refine zv_step (bX7_go 2) rfl rfl trivial ?_)
          refine zv_ifb (fun h80 => ?_) (fun h80 => ?_)
          · have q80 : ¬ A 3 (nC (N (d - 1))) < 0 := Int32.not_lt.mpr h80
            iterate 6 (refine zv_step (bX7_go 2) rfl rfl trivial ?_)
            refine zv_world (show _ = (wR f (upd o 33 (nI (d - 1))) (updA (updA A 20 N) 21 D) J) from by rw [← em]; rfl) ?_
            iterate 3 (refine zv_step (bX7_go 2) rfl rfl trivial ?_)
            refine zv_iff (by decide) ?_
            iterate 8 (refine zv_step (bX7_go 2) rfl rfl trivial ?_)
            refine zv_iale (bX7_go 2) rfl rfl (show vp_in (nI (d - 1) + Int32.ofInt 1) 41 by rw [show nI (d - 1) + Int32.ofInt 1 = nI (d - 1 + 1) from nI_1 _]; exact vp_in_nI (by omega) (by decide)) (show D (nI (d - 1) + Int32.ofInt 1).toNatClampNeg = D d by rw [show nI (d - 1) + Int32.ofInt 1 = nI (d - 1 + 1) from nI_1 _, nI_clamp (by omega), show d - 1 + 1 = d by omega]) ?_
            iterate 1 (refine zv_step (bX7_go 2) rfl rfl trivial ?_)
            refine zv_V1 (bX7_go 2) rfl rfl rfl rfl rfl rfl rfl ⟨rfl, rfl, rfl⟩ ⟨by decide, by decide⟩ ⟨Nat.zero_le _, Nat.zero_le _⟩ (mDownX f o A J hu hT ht D (rtM_up hr0 (show d - 1 ≤ d by omega)) _) ?_
            rintro _ _ ⟨rfl, ⟨⟨a, ha9, ew⟩, rfl⟩ | ⟨ew, rfl⟩⟩
            · have hr1 := rt_sdA hu hT ht (Int32.ofInt 1 - D d) (s := (d - 1, N, D)) (rtM_up hr0 (show d - 1 ≤ d by omega))
              have hd1 := rtM_d hT ht hr1
              iterate 5 (refine zv_step (bX7_go 2) rfl rfl trivial ?_)
              refine zv_iale (bX7_go 2) rfl rfl (show vp_in (nI (sdA A (Int32.ofInt 1 - D d) (d - 1, N, D)).1) 41 from vp_in_nI (by omega) (by decide)) (show (sdA A (Int32.ofInt 1 - D d) (d - 1, N, D)).2.1 (nI (sdA A (Int32.ofInt 1 - D d) (d - 1, N, D)).1).toNatClampNeg = (sdA A (Int32.ofInt 1 - D d) (d - 1, N, D)).2.1 (sdA A (Int32.ofInt 1 - D d) (d - 1, N, D)).1 by rw [nI_clamp (by omega)]) ?_
              exact zv_iret (bX7_go 2) rfl (Or.inl rfl) (Nat.zero_le _) (Nat.zero_le _) ⟨(sdA A (Int32.ofInt 1 - D d) (d - 1, N, D)), _, rfl, rfl, fun _ => ⟨t, ⟨ht, hr0.1⟩, hr1⟩, hd1, Or.inr (Or.inr ⟨hb1, 3, by decide, rfl, Or.inr ⟨show goA A 3 (d, N, D) = some (sdA A (Int32.ofInt 1 - D d) (d - 1, N, D)) from by unfold goA; rw [if_neg (by decide), if_neg d0, if_neg (by decide), if_neg q80], rfl⟩⟩)⟩
            · have hr1 := rt_sdA hu hT ht (Int32.ofInt 1 - D d) (s := (d - 1, N, D)) (rtM_up hr0 (show d - 1 ≤ d by omega))
              have hd1 := rtM_d hT ht hr1
              iterate 5 (refine zv_step (bX7_go 2) rfl rfl trivial ?_)
              refine zv_iale (bX7_go 2) rfl rfl (show vp_in (nI (sdA A (Int32.ofInt 1 - D d) (d - 1, N, D)).1) 41 from vp_in_nI (by omega) (by decide)) (show (sdA A (Int32.ofInt 1 - D d) (d - 1, N, D)).2.1 (nI (sdA A (Int32.ofInt 1 - D d) (d - 1, N, D)).1).toNatClampNeg = (sdA A (Int32.ofInt 1 - D d) (d - 1, N, D)).2.1 (sdA A (Int32.ofInt 1 - D d) (d - 1, N, D)).1 by rw [nI_clamp (by omega)]) ?_
              exact zv_iret (bX7_go 2) rfl (Or.inl rfl) (Nat.zero_le _) (Nat.zero_le _) ⟨(sdA A (Int32.ofInt 1 - D d) (d - 1, N, D)), _, rfl, rfl, fun _ => ⟨t, ⟨ht, hr0.1⟩, hr1⟩, hd1, Or.inr (Or.inr ⟨hb1, 3, by decide, rfl, Or.inr ⟨show goA A 3 (d, N, D) = some (sdA A (Int32.ofInt 1 - D d) (d - 1, N, D)) from by unfold goA; rw [if_neg (by decide), if_neg d0, if_neg (by decide), if_neg q80], rfl⟩⟩)⟩
          · have q80 : A 3 (nC (N (d - 1))) < 0 := Int32.not_le.mp h80
            iterate 1 (refine zv_step (bX7_go 2) rfl rfl trivial ?_)
            exact zv_iret (bX7_go 2) rfl (Or.inl rfl) (Nat.zero_le _) (Nat.zero_le _) ⟨(d, N, D), _, rfl, rfl, fun h => by obtain ⟨t, ht, k⟩ := hr h; exact ⟨t, ⟨ht, k.1⟩, k⟩, hd, Or.inr (Or.inr ⟨hb1, 3, by decide, rfl, Or.inl ⟨show goA A 3 (d, N, D) = none from by unfold goA; rw [if_neg (by decide), if_neg d0, if_neg (by decide), if_pos q80], rfl, rfl⟩⟩)⟩
    · iterate 1 (refine zv_step (bX7_go 2) rfl rfl trivial ?_)
      exact zv_iret (bX7_go 2) rfl (Or.inl rfl) (Nat.zero_le _) (Nat.zero_le _) ⟨(d, N, D), _, rfl, rfl, fun h => by obtain ⟨t, ht, k⟩ := hr h; exact ⟨t, ⟨ht, k.1⟩, k⟩, hd, Or.inr (Or.inl ⟨g1, fun q => h18 (fun w => absurd (q.symm.trans w) (by decide)), rfl, rfl⟩)⟩
  · try rw [Int32.toInt_toInt64] at g1
    iterate 1 (refine zv_step (bX7_go 2) rfl rfl trivial ?_)
    refine zv_iff (by decide) ?_
    iterate 1 (refine zv_step (bX7_go 2) rfl rfl trivial ?_)
    exact zv_iret (bX7_go 2) rfl (Or.inl rfl) (Nat.zero_le _) (Nat.zero_le _) ⟨(d, N, D), _, rfl, rfl, fun h => by obtain ⟨t, ht, k⟩ := hr h; exact ⟨t, ⟨ht, k.1⟩, k⟩, hd, Or.inl ⟨rfl, g1, rfl⟩⟩
end
section
def rm3 (r : Int32) : Int32 := r - r / Int32.ofInt 3 * Int32.ofInt 3
noncomputable def foA (A : Nat → Nat → Int32) : Nat → Int32 → Nat × (Nat → Int32) × (Nat → Int32) → Nat × (Nat → Int32) × (Nat → Int32)
  | 0, _, s => s
  | c + 1, r, s => if r ≤ 0 then s else foA A c (r / Int32.ofInt 3) (sdA A (rm3 r - Int32.ofInt 1) s)
noncomputable def ptA (A : Nat → Nat → Int32) (x w : Int32) : Int32 := if x < 0 then m2 else if w = Int32.ofInt 1 then A 2 (nC x) else if w = Int32.ofInt 2 then A 3 (nC x) else m2
noncomputable def lsA (A : Nat → Nat → Int32) : Nat → Int32 → Int32 → Int32
  | 0, n, _ => n
  | c + 1, n, r => if r ≤ 0 then n else lsA A c (ptA A n (rm3 r)) (r / Int32.ofInt 3)
theorem foA_y {A : Nat → Nat → Int32} {c : Nat} {r : Int32} {s : Nat × (Nat → Int32) × (Nat → Int32)} (h : r ≤ 0) : foA A (c + 1) r s = s := if_pos h
theorem foA_n {A : Nat → Nat → Int32} {c : Nat} {r : Int32} {s : Nat × (Nat → Int32) × (Nat → Int32)} (h : ¬ r ≤ 0) : foA A (c + 1) r s = foA A c (r / Int32.ofInt 3) (sdA A (rm3 r - Int32.ofInt 1) s) := if_neg h
theorem foA_0 {A : Nat → Nat → Int32} {r : Int32} {s : Nat × (Nat → Int32) × (Nat → Int32)} : foA A 0 r s = s := rfl
theorem lsA_y {A : Nat → Nat → Int32} {c : Nat} {n r : Int32} (h : r ≤ 0) : lsA A c n r = n := by
  cases c with
  | zero => rfl
  | succ c => exact if_pos h
theorem lsA_n {A : Nat → Nat → Int32} {c : Nat} {n r : Int32} (h : ¬ r ≤ 0) : lsA A (c + 1) n r = lsA A c (ptA A n (rm3 r)) (r / Int32.ofInt 3) := if_neg h
theorem ptA_m2 (A : Nat → Nat → Int32) (w : Int32) : ptA A m2 w = m2 := if_pos (by decide)
theorem lsA_m2 (A : Nat → Nat → Int32) : ∀ (c : Nat) (r : Int32), lsA A c m2 r = m2
  | 0, _ => rfl
  | c + 1, r => by
    by_cases h : r ≤ 0
    · exact lsA_y h
    · rw [lsA_n h, ptA_m2, lsA_m2 A c]
theorem le0_i {x : Int32} : x ≤ 0 ↔ x.toInt ≤ 0 := by rw [Int32.le_iff_toInt_le, Int32.toInt_zero]
theorem dv3 {k : Int32} {c : Nat} (h0 : ¬ k ≤ 0) (h : k.toInt < ((3 ^ (c + 1) : Nat) : Int)) : (k / Int32.ofInt 3).toInt < ((3 ^ c : Nat) : Int) ∧ 0 ≤ (k / Int32.ofInt 3).toInt := by
  rw [le0_i] at h0
  rw [div3 (by omega)]
  have e : (3 ^ (c + 1) : Nat) = 3 ^ c * 3 := Nat.pow_succ 3 c
  omega
theorem m2_n {n : Nat} (h : n < 2 ^ 31) : ¬ nI n = m2 := fun e => by
  have : (nI n).toInt = m2.toInt := by rw [e]
  rw [nI_toInt h, show m2.toInt = -2 from by decide] at this
  omega
set_option maxHeartbeats 1000000 in
set_option maxRecDepth 20000 in
theorem leadL2X (f : Nat → zC) (o : Nat → Int32) (A : Nat → Nat → Int32) (J : Nat → Nat → Int64) {u : Nat} (hu : u ≤ 120) (hT : tbI 0 u A) {t : Nat} (ht : t < u) {x y z : Int32} {n0 : Nat} : ∀ (c : Nat) (k : Int32), k.toInt < ((3 ^ c : Nat) : Int) → ∀ {d : Nat} {N D : Nat → Int32}, d ≤ 39 → rtM A t d N → zV (zMo 2 zX7_lead) false n0 0 0 87 [(4, .int k), (3, .int z), (2, .int y), (0, .ref 76), (1, .int x)] [] (wR f (upd o 33 (nI d)) (updA (updA A 20 N) 21 D) J) (fun r w' => r = some (.int ((foA A c k (d, N, D)).2.1 (foA A c k (d, N, D)).1)) ∧ w' = (wR f (upd o 33 (nI (foA A c k (d, N, D)).1)) (updA (updA A 20 (foA A c k (d, N, D)).2.1) 21 (foA A c k (d, N, D)).2.2) J)) := by
  intro c
  induction c with
  | zero =>
    intro k hk d N D hd hr
    rw [foA_0]
    iterate 2 (refine zv_step (bX7_lead 2) rfl rfl trivial ?_)
    refine zv_ift (show k ≤ 0 by rw [le0_i]; omega) ?_
    iterate 4 (refine zv_step (bX7_lead 2) rfl rfl trivial ?_)
    refine zv_iale (bX7_lead 2) rfl rfl (show vp_in (nI d) 41 from vp_in_nI (by omega) (by decide)) (show N (nI d).toNatClampNeg = N d by rw [nI_clamp (by omega)]) ?_
    exact zv_iret (bX7_lead 2) rfl (Or.inl rfl) (Nat.zero_le _) (Nat.zero_le _) ⟨rfl, rfl⟩
  | succ c ih =>
    intro k hk d N D hd hr
    iterate 2 (refine zv_step (bX7_lead 2) rfl rfl trivial ?_)
    refine zv_ifb (fun h89 => ?_) (fun h89 => ?_)
    · rw [foA_y h89]
      iterate 4 (refine zv_step (bX7_lead 2) rfl rfl trivial ?_)
      refine zv_iale (bX7_lead 2) rfl rfl (show vp_in (nI d) 41 from vp_in_nI (by omega) (by decide)) (show N (nI d).toNatClampNeg = N d by rw [nI_clamp (by omega)]) ?_
      exact zv_iret (bX7_lead 2) rfl (Or.inl rfl) (Nat.zero_le _) (Nat.zero_le _) ⟨rfl, rfl⟩
    · rw [foA_n h89]
      have k1 := dv3 h89 hk
      have hr1 := rt_sdA hu hT ht (rm3 k - Int32.ofInt 1) (s := (d, N, D)) hr
      have hd1 := rtM_d hT ht hr1
      iterate 3 (refine zv_step (bX7_lead 2) rfl rfl trivial ?_)
      refine zv_step (bX7_lead 2) rfl rfl (show ¬ Int32.ofInt 3 = 0 by decide) ?_
      iterate 2 (refine zv_step (bX7_lead 2) rfl rfl trivial ?_)
      refine zv_V1 (bX7_lead 2) rfl rfl rfl rfl rfl rfl rfl ⟨rfl, rfl, rfl⟩ ⟨by decide, by decide⟩ ⟨Nat.zero_le _, Nat.zero_le _⟩ (mDownX f o A J hu hT ht D hr _) ?_
      rintro _ _ ⟨rfl, ⟨_, rfl⟩ | ⟨_, rfl⟩⟩
      · skip
        iterate 3 (refine zv_step (bX7_lead 2) rfl rfl trivial ?_)
        refine zv_step (bX7_lead 2) rfl rfl (show ¬ Int32.ofInt 3 = 0 by decide) ?_
        iterate 2 (refine zv_step (bX7_lead 2) rfl rfl trivial ?_)
        refine zv_locals (l := [(4, .int (k / Int32.ofInt 3)), (5, .int 1), (3, .int z), (2, .int y), (0, .ref 76), (1, .int x)]) (l' := [(4, .int (k / Int32.ofInt 3)), (3, .int z), (2, .int y), (0, .ref 76), (1, .int x)]) ?_ (ih _ k1.1 (d := (sdA A (rm3 k - Int32.ofInt 1) (d, N, D)).1) (N := (sdA A (rm3 k - Int32.ofInt 1) (d, N, D)).2.1) (D := (sdA A (rm3 k - Int32.ofInt 1) (d, N, D)).2.2) hd1 hr1)
        simp
      · skip
        iterate 3 (refine zv_step (bX7_lead 2) rfl rfl trivial ?_)
        refine zv_step (bX7_lead 2) rfl rfl (show ¬ Int32.ofInt 3 = 0 by decide) ?_
        iterate 2 (refine zv_step (bX7_lead 2) rfl rfl trivial ?_)
        refine zv_locals (l := [(4, .int (k / Int32.ofInt 3)), (5, .int 0), (3, .int z), (2, .int y), (0, .ref 76), (1, .int x)]) (l' := [(4, .int (k / Int32.ofInt 3)), (3, .int z), (2, .int y), (0, .ref 76), (1, .int x)]) ?_ (ih _ k1.1 (d := (sdA A (rm3 k - Int32.ofInt 1) (d, N, D)).1) (N := (sdA A (rm3 k - Int32.ofInt 1) (d, N, D)).2.1) (D := (sdA A (rm3 k - Int32.ofInt 1) (d, N, D)).2.2) hd1 hr1)
        simp
set_option maxHeartbeats 1000000 in
set_option maxRecDepth 20000 in
theorem leadL1X (f : Nat → zC) (o : Nat → Int32) (A : Nat → Nat → Int32) (J : Nat → Nat → Int64) {u : Nat} (hu : u ≤ 120) (hT : tbI 0 u A) {x : Int32} {n0 : Nat} {Q : Option Value → zW → Prop} : ∀ (c : Nat) (k y : Int32), k.toInt < ((3 ^ c : Nat) : Int) → (y = m2 ∨ ∃ n : Nat, y = nI n ∧ n < u) → ((lsA A c y k = m2 ∨ k.toInt < 0) → Q (some (.int (Int32.ofInt (-1)))) (wR f o A J)) → (¬ (lsA A c y k = m2 ∨ k.toInt < 0) → ∀ y' z' : Int32, zV (zMo 2 zX7_lead) false n0 0 0 79 [(3, .int z'), (2, .int y'), (0, .ref 76), (1, .int x)] [] (wR f o A J) Q) → zV (zMo 2 zX7_lead) false n0 0 0 19 [(3, .int k), (2, .int y), (0, .ref 76), (1, .int x)] [] (wR f o A J) Q := by
  intro c
  induction c with
  | zero =>
    intro k y hk hn hF hS
    have hk : k.toInt < 1 := hk
    rcases hn with rfl | ⟨n, rfl, hn⟩
    · iterate 2 (refine zv_step (bX7_lead 2) rfl rfl trivial ?_)
      refine zv_ift (by decide) ?_
      iterate 2 (refine zv_step (bX7_lead 2) rfl rfl trivial ?_)
      refine zv_ift (by decide) ?_
      iterate 1 (refine zv_step (bX7_lead 2) rfl rfl trivial ?_)
      exact zv_iret (bX7_lead 2) rfl (Or.inl rfl) (Nat.zero_le _) (Nat.zero_le _) (hF (Or.inl (lsA_m2 A _ k)))
    · obtain ⟨hq2, hq3⟩ := rN_dn (hT n (Nat.zero_le _) hn)
      iterate 2 (refine zv_step (bX7_lead 2) rfl rfl trivial ?_)
      refine zv_iff (nI_pos (by omega)) ?_
      iterate 2 (refine zv_step (bX7_lead 2) rfl rfl trivial ?_)
      refine zv_ift (show k ≤ 0 by rw [le0_i]; omega) ?_
      iterate 2 (refine zv_step (bX7_lead 2) rfl rfl trivial ?_)
      refine zv_iff (nI_pos (by omega)) ?_
      iterate 2 (refine zv_step (bX7_lead 2) rfl rfl trivial ?_)
      refine zv_ifb (fun h74 => ?_) (fun h74 => ?_)
      · refine hS (fun q => q.elim (fun e => m2_n (show n < 2 ^ 31 by omega) ((lsA_y (le0_i.mpr (by omega))).symm.trans e)) (fun e => by have h9 : 0 ≤ k := h74; rw [Int32.le_iff_toInt_le, Int32.toInt_zero] at h9; omega)) _ _
      · iterate 1 (refine zv_step (bX7_lead 2) rfl rfl trivial ?_)
        exact zv_iret (bX7_lead 2) rfl (Or.inl rfl) (Nat.zero_le _) (Nat.zero_le _) (hF (Or.inr (by have h9 : ¬ 0 ≤ k := h74; rw [Int32.le_iff_toInt_le, Int32.toInt_zero] at h9; omega)))
  | succ c ih =>
    intro k y hk hn hF hS
    rcases hn with rfl | ⟨n, rfl, hn⟩
    · iterate 2 (refine zv_step (bX7_lead 2) rfl rfl trivial ?_)
      refine zv_ift (by decide) ?_
      iterate 2 (refine zv_step (bX7_lead 2) rfl rfl trivial ?_)
      refine zv_ift (by decide) ?_
      iterate 1 (refine zv_step (bX7_lead 2) rfl rfl trivial ?_)
      exact zv_iret (bX7_lead 2) rfl (Or.inl rfl) (Nat.zero_le _) (Nat.zero_le _) (hF (Or.inl (lsA_m2 A _ k)))
    · obtain ⟨hq2, hq3⟩ := rN_dn (hT n (Nat.zero_le _) hn)
      iterate 2 (refine zv_step (bX7_lead 2) rfl rfl trivial ?_)
      refine zv_iff (nI_pos (by omega)) ?_
      iterate 2 (refine zv_step (bX7_lead 2) rfl rfl trivial ?_)
      refine zv_ifb (fun h24 => ?_) (fun h24 => ?_)
      · have k0 : k.toInt ≤ 0 := le0_i.mp h24
        iterate 2 (refine zv_step (bX7_lead 2) rfl rfl trivial ?_)
        refine zv_iff (nI_pos (by omega)) ?_
        iterate 2 (refine zv_step (bX7_lead 2) rfl rfl trivial ?_)
        refine zv_ifb (fun h74 => ?_) (fun h74 => ?_)
        · refine hS (fun q => q.elim (fun e => m2_n (show n < 2 ^ 31 by omega) ((lsA_y (le0_i.mpr (by omega))).symm.trans e)) (fun e => by have h9 : 0 ≤ k := h74; rw [Int32.le_iff_toInt_le, Int32.toInt_zero] at h9; omega)) _ _
        · iterate 1 (refine zv_step (bX7_lead 2) rfl rfl trivial ?_)
          exact zv_iret (bX7_lead 2) rfl (Or.inl rfl) (Nat.zero_le _) (Nat.zero_le _) (hF (Or.inr (by have h9 : ¬ 0 ≤ k := h74; rw [Int32.le_iff_toInt_le, Int32.toInt_zero] at h9; omega)))
      · have k1 := dv3 h24 hk
        have k2 : ¬ k.toInt ≤ 0 := fun q => h24 (le0_i.mpr q)
        iterate 2 (refine zv_step (bX7_lead 2) rfl rfl trivial ?_)
        refine zv_step (bX7_lead 2) rfl rfl (show ¬ Int32.ofInt 3 = 0 by decide) ?_
        iterate 2 (refine zv_step (bX7_lead 2) rfl rfl trivial ?_)
        refine zv_ifb (fun h31 => ?_) (fun h31 => ?_)
        · iterate 2 (refine zv_step (bX7_lead 2) rfl rfl trivial ?_)
          refine zv_step (bX7_lead 2) rfl rfl (show ¬ Int32.ofInt 3 = 0 by decide) ?_
          iterate 2 (refine zv_step (bX7_lead 2) rfl rfl trivial ?_)
          refine zv_ifb (fun h47 => ?_) (fun h47 => ?_)
          · iterate 4 (refine zv_step (bX7_lead 2) rfl rfl trivial ?_)
            refine zv_step (bX7_lead 2) rfl rfl (show ¬ Int32.ofInt 3 = 0 by decide) ?_
            iterate 2 (refine zv_step (bX7_lead 2) rfl rfl trivial ?_)
            have e9 := show ptA A (nI n) (rm3 k) = m2 by unfold ptA; rw [if_neg (nI_pos (by omega)), if_neg (show ¬ rm3 k = Int32.ofInt 1 from h31), if_neg (show ¬ rm3 k = Int32.ofInt 2 from h47)]
            rw [lsA_n h24, e9] at hF hS
            refine zv_locals (l := [(3, .int (k / Int32.ofInt 3)), (2, .int (m2)), (0, .ref 76), (1, .int x)]) (l' := [(3, .int (k / Int32.ofInt 3)), (2, .int (m2)), (0, .ref 76), (1, .int x)]) ?_ (ih _ _ k1.1 (Or.inl rfl) (fun w => hF (w.imp id (fun q => absurd q (by omega)))) (fun w => hS (fun q => w (q.imp id (fun q => absurd q (by omega))))))
            simp
          · iterate 3 (refine zv_step (bX7_lead 2) rfl rfl trivial ?_)
            refine zv_iale (bX7_lead 2) rfl rfl (vp_in_nI (by omega) (by decide)) (show A 3 (nI n).toNatClampNeg = A 3 n by rw [nI_clamp (by omega)]) ?_
            iterate 4 (refine zv_step (bX7_lead 2) rfl rfl trivial ?_)
            refine zv_step (bX7_lead 2) rfl rfl (show ¬ Int32.ofInt 3 = 0 by decide) ?_
            iterate 2 (refine zv_step (bX7_lead 2) rfl rfl trivial ?_)
            have e9 := show ptA A (nI n) (rm3 k) = A 3 n by unfold ptA; rw [if_neg (nI_pos (by omega)), if_neg (show ¬ rm3 k = Int32.ofInt 1 from h31), if_pos (show rm3 k = Int32.ofInt 2 from Decidable.not_not.mp h47), show nC (nI n) = n from nI_clamp (by omega)]
            rw [lsA_n h24, e9] at hF hS
            refine zv_locals (l := [(3, .int (k / Int32.ofInt 3)), (2, .int (A 3 n)), (0, .ref 76), (1, .int x)]) (l' := [(3, .int (k / Int32.ofInt 3)), (2, .int (A 3 n)), (0, .ref 76), (1, .int x)]) ?_ (ih _ _ k1.1 (pq hT hn hq3) (fun w => hF (w.imp id (fun q => absurd q (by omega)))) (fun w => hS (fun q => w (q.imp id (fun q => absurd q (by omega))))))
            simp
        · iterate 3 (refine zv_step (bX7_lead 2) rfl rfl trivial ?_)
          refine zv_iale (bX7_lead 2) rfl rfl (vp_in_nI (by omega) (by decide)) (show A 2 (nI n).toNatClampNeg = A 2 n by rw [nI_clamp (by omega)]) ?_
          iterate 4 (refine zv_step (bX7_lead 2) rfl rfl trivial ?_)
          refine zv_step (bX7_lead 2) rfl rfl (show ¬ Int32.ofInt 3 = 0 by decide) ?_
          iterate 2 (refine zv_step (bX7_lead 2) rfl rfl trivial ?_)
          have e9 := show ptA A (nI n) (rm3 k) = A 2 n by unfold ptA; rw [if_neg (nI_pos (by omega)), if_pos (show rm3 k = Int32.ofInt 1 from Decidable.not_not.mp h31), show nC (nI n) = n from nI_clamp (by omega)]
          rw [lsA_n h24, e9] at hF hS
          refine zv_locals (l := [(3, .int (k / Int32.ofInt 3)), (2, .int (A 2 n)), (0, .ref 76), (1, .int x)]) (l' := [(3, .int (k / Int32.ofInt 3)), (2, .int (A 2 n)), (0, .ref 76), (1, .int x)]) ?_ (ih _ _ k1.1 (pq hT hn hq2) (fun w => hF (w.imp id (fun q => absurd q (by omega)))) (fun w => hS (fun q => w (q.imp id (fun q => absurd q (by omega))))))
          simp
theorem mR_rt (f : Nat → zC) {o : Nat → Int32} (A : Nat → Nat → Int32) (J : Nat → Nat → Int64) {d : Nat} (h : o 33 = nI d) : wR f o A J = (wR f (upd o 33 (nI d)) (updA (updA A 20 (A 20)) 21 (A 21)) J) := by
  rw [upd_same h, updA_same A 20, updA_same A 21]
theorem x320 (x : Int32) : x.toInt < ((3 ^ 20 : Nat) : Int) := by
  have := Int32.toInt_lt x
  omega
set_option maxHeartbeats 1000000 in
set_option maxRecDepth 20000 in
theorem mLeadX (f : Nat → zC) (o : Nat → Int32) (A : Nat → Nat → Int32) (J : Nat → Nat → Int64) {u : Nat} (hu : u ≤ 120) (hT : tbI 0 u A) {d : Nat} (ho33 : o 33 = nI d) (hb : o 30 = 0 ∨ o 30 = 1) (hr : o 30 = 1 → ∃ t, t < u ∧ rtM A t d (A 20)) (x : Int32) : zK 2 zX7_lead [.ref 76, .int x] (wR f o A J) (fun r w' => ∃ (s' : Nat × (Nat → Int32) × (Nat → Int32)) (R : Int32), r = some (.int R) ∧ w' = (wR f (upd o 33 (nI s'.1)) (updA (updA A 20 s'.2.1) 21 s'.2.2) J) ∧ ldR (o 30 = 1) (0 ≤ x.toInt ∧ ¬ lsA A 20 (A 20 0) x = m2) (foA A 20 x (0, A 20, A 21)) (d, A 20, A 21) s' R) := by
  refine zK_of qX7_lead (by decide +kernel) rfl ?_
  iterate 3 (refine zv_step (bX7_lead 2) rfl rfl trivial ?_)
  refine zv_ifb (fun h4 => ?_) (fun h4 => ?_)
  · have hb1 : o 30 = 1 := hb.resolve_left h4
    obtain ⟨t, ht, hr0⟩ := hr hb1
    iterate 3 (refine zv_step (bX7_lead 2) rfl rfl trivial ?_)
    refine zv_iale (bX7_lead 2) rfl rfl (show vp_in (nI 0) 41 from vp_in_nI (by decide) (by decide)) (show A 20 0 = nI t from hr0.1) ?_
    iterate 3 (refine zv_step (bX7_lead 2) rfl rfl trivial ?_)
    refine leadL1X f o A J hu hT 20 x (nI t) (x320 x) (Or.inr ⟨t, rfl, ht⟩) (fun w => ⟨(d, A 20, A 21), _, rfl, mR_rt f A J ho33, Or.inr ⟨hb1, Or.inl ⟨fun q => w.elim (fun e => q.2 (by rw [hr0.1]; exact e)) (fun e => by omega), rfl, rfl⟩⟩⟩) (fun w9 y9 z9 => ?_)
    have hx0 : 0 ≤ x.toInt := by
      have h9 : ¬ x.toInt < 0 := fun q => w9 (Or.inr q)
      omega
    iterate 5 (refine zv_step (bX7_lead 2) rfl rfl trivial ?_)
    refine zv_world (show _ = (wR f (upd o 33 (nI 0)) (updA (updA A 20 (A 20)) 21 (A 21)) J) from by rw [updA_same A 20, updA_same A 21]; rfl) ?_
    refine zv_locals (l := [(4, .int x), (3, .int z9), (2, .int y9), (0, .ref 76), (1, .int x)]) (l' := [(4, .int x), (3, .int z9), (2, .int y9), (0, .ref 76), (1, .int x)]) (fun q h => h) ?_
    refine zv_weak (fun r w q => ?_) (leadL2X f o A J hu hT ht 20 x (x320 x) (by decide) (rtM_up hr0 (Nat.zero_le _)))
    exact ⟨(foA A 20 x (0, A 20, A 21)), _, q.1, q.2, Or.inr ⟨hb1, Or.inr ⟨⟨by omega, fun e => w9 (Or.inl (by rw [← hr0.1]; exact e))⟩, rfl, rfl⟩⟩⟩
  · iterate 1 (refine zv_step (bX7_lead 2) rfl rfl trivial ?_)
    exact zv_iret (bX7_lead 2) rfl (Or.inl rfl) (Nat.zero_le _) (Nat.zero_le _) ⟨(d, A 20, A 21), _, rfl, mR_rt f A J ho33, Or.inl ⟨fun q => h4 (fun w => absurd (q.symm.trans w) (by decide)), rfl, rfl⟩⟩
end
