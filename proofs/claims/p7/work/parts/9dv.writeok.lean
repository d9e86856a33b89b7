/-! write, keeps, means: the same state again -/
theorem ea_of {u h : Nat} {O : Nat → Int32} {P : Nat → Nat → Int32} {o : Nat → Int32} {A : Nat → Nat → Int32} (s : SS u h O P o A) (hw : nnW h (A 8)) : eaR h P (eW A) := fun i hi => by
  rw [s.2.2.2.2.2.1 i hi]
  exact eW_of hw hi
theorem gf_of {O : Nat → Int32} {A : Nat → Nat → Int32} (h : fnR O A) : gfR (O 0) (A 6) := fun v hv => by
  obtain ⟨m, hm, e, hb⟩ := h
  rw [e, hb_bt m hm v hv, hb v hv]
theorem bt_1 (m k : Nat) : decide (bt m k = nI 1) = m.testBit k := by
  unfold bt
  cases m.testBit k <;> decide
theorem bt_0 (m k : Nat) : decide (bt m k = nI 0) = !m.testBit k := by
  unfold bt
  cases m.testBit k <;> decide
theorem sy_of {P A : Nat → Nat → Int32} (h : kpR P A) : ∀ s, s ≤ 8 → syR P s (ltW A s) := fun s hs => by
  unfold syR
  split
  · rename_i e
    intro k _
    rw [ltW_8 e, ltW_8 e]
    exact ⟨rfl, rfl⟩
  · rename_i e
    obtain ⟨m, hm, q, hb⟩ := h s (by omega)
    refine ⟨m, hm, q, fun k hk => ?_⟩
    rw [ltW_n e, ltW_n e, hb k hk]
    exact ⟨bt_1 m k, bt_0 m k⟩
/-- both tables count the same -/
theorem L_same {h : Nat} (hh : h ≤ 20) {A : Nat → Nat → Int32} {s : Nat} {Y Y1 J1 : Nat → Nat → Int64} (z : okZ Y h (eW A) (A 6) (ltW A s) Y1 (h + 1) 0) (j : okJ h A s J1) : ∀ a b, a < b → b ≤ h → lY Y1 a b = lW J1 a b := fun a b h1 h2 => by
  have eJ : ∀ i j, i < j → j ≤ h → lW J1 i j = csW (mG (eW A) (A 6) (ltW A s) (lW J1) i j) 20 := fun i k q1 q2 => (okS_l (j i k q1 q2)).1
  exact L_uq (E := eW A) (G := A 6) (lt := ltW A s) (h := h) (fun i k q1 q2 => (z.1 i k q1 q2 (Or.inl (by omega))).2.1) (fun i k q1 q2 => (L_le hh eJ (k - i) i k q1 q2 (Nat.le_refl _)).2) (b - a) a b h1 h2 (Nat.le_refl _)
theorem ct_same {h : Nat} (hh : h ≤ 20) {A : Nat → Nat → Int32} {s : Nat} {Y Y1 J1 : Nat → Nat → Int64} (z : okZ Y h (eW A) (A 6) (ltW A s) Y1 (h + 1) 0) (j : okJ h A s J1) : ctY h Y1 = ctW h J1 := by
  unfold ctY ctW
  split
  · rfl
  · exact L_same hh z j 0 h (by omega) (Nat.le_refl _)
/-- NODES, where other fields and tables may have changed -/
theorem SS_pg {u u' h : Nat} {O O' : Nat → Int32} {P P' : Nat → Nat → Int32} {o o' : Nat → Int32} {A A' : Nat → Nat → Int32} (s : SS u h O P o A) (n : NR u' P' A') (c1 : O' 1 = nI u') (c2 : O' 9 = O 9) (c3 : O' 13 = O 13) (c4 : P' 32 = P 32) (c5 : P' 56 = P 56) (m1' : o' 0 = nI u') (m2' : o' 10 = o 10) (m3 : o' 30 = o 30) (m : ∀ r, 6 ≤ r → A' r = A r) : SS u' h O' P' o' A' := by
  obtain ⟨s1, s2, s3, s4, s5, s6, s7, s8, s9⟩ := s
  exact ⟨c1, m1', n, c2.trans s4, m2'.trans s5, fun i hi => by rw [c4, m 8 (by decide)]; exact s6 i hi, by rw [c3, m3]; exact s7, fun e => by rw [c5, m 20 (by decide)]; exact s8 (by rw [← c3]; exact e), kp0_r s9 (m 7 (by decide))⟩
/-- write -/
theorem write_ok {u h : Nat} (hu : u ≤ 120) (hh : h ≤ 20) {O O' : Nat → Int32} {P P' : Nat → Nat → Int32} {o o' : Nat → Int32} {A A' : Nat → Nat → Int32} {Y : Nat → Nat → Int64} {x R R' : Int32} {z : Int64} (s : SS u h O P o A) (c : ∀ j, j ≠ 1 → j ≠ 2 → j ≠ 10 → j ≠ 11 → j ≠ 12 → O' j = O j) (m : ndY o u A o' A') (g : wrC O P Y (eW A) (A 6) (ltW A) u h x z O' P' R) (g' : wrM o A u h x z o' A' R') : R = R' ∧ ∃ u', u' ≤ 120 ∧ SS u' h O' P' o' A' := by
  have mk : ∀ u', NR u' P' A' → O' 1 = nI u' → o' 0 = nI u' → P' 32 = P 32 → P' 56 = P 56 → SS u' h O' P' o' A' := fun u' n e1 e0 e32 e56 => SS_pg s n e1 (c 9 (by decide) (by decide) (by decide) (by decide) (by decide)) (c 13 (by decide) (by decide) (by decide) (by decide) (by decide)) e32 e56 e0 (m.2.1 10 (by decide) (by decide) (by decide)) (m.2.1 30 (by decide) (by decide) (by decide)) m.2.2.1
  have same : O' 1 = nI u → o' 0 = nI u → (∀ i, ¬ (14 < i ∧ i ≤ 26) → P' i = P i) → ∃ u', u' ≤ 120 ∧ SS u' h O' P' o' A' := fun e1 e0 e => ⟨u, hu, mk u (NR_fr hu s.2.2.1 (fun i h1 h2 _ j _ => by rw [e i (by omega)]) (fun r _ j hj => m.2.2.2 r j hj)) e1 e0 (e 32 (by omega)) (e 56 (by omega))⟩
  rcases g with ⟨r, q, e1, ep⟩ | ⟨sy, Y1, hs, ex, z0, hZ, g⟩
  · rcases g' with ⟨r', _, e0⟩ | ⟨s', J1, hs', ex', z0', _⟩
    · exact ⟨r.trans r'.symm, same e1 e0 (fun i _ => by rw [ep])⟩
    · exact absurd ⟨⟨by rw [ex', nI_toInt (by omega)]; omega, by rw [ex', nI_toInt (by omega)]; omega⟩, z0'⟩ q
  · rcases g' with ⟨_, q, _⟩ | ⟨s', J1, hs', ex', z0', hJ, g'⟩
    · exact absurd ⟨⟨by rw [ex, nI_toInt (by omega)]; omega, by rw [ex, nI_toInt (by omega)]; omega⟩, z0⟩ q
    · have e1 : sy = s' := (nI_eq (by omega) (by omega)).mp (ex.symm.trans ex')
      subst e1
      have ec := ct_same hh hZ hJ
      have cl := ctW_le hJ
      unfold cap at cl
      rw [ec] at g
      rcases g with ⟨r, q, e1, ep⟩ | ⟨p, T, ez, hp, hT, g⟩
      · rcases g' with ⟨r', _, e0⟩ | ⟨p', T', ez', hp', _⟩
        · exact ⟨r.trans r'.symm, same e1 e0 (fun i _ => by rw [ep])⟩
        · exact absurd (by rw [ez']; exact (lN_ltJ (by omega) (by omega)).mpr hp') q
      · rcases g' with ⟨_, q, _⟩ | ⟨p', T', ez', hp', hT', g'⟩
        · exact absurd (by rw [ez]; exact (lN_ltJ (by omega) (by omega)).mpr hp) q
        · have e2 : p = p' := (lN_eqJ (by omega) (by omega)).mp (ez.symm.trans ez')
          subst e2
          have e3 : T = T' := RT_uq 20 0 h p T T' (RT_cg (L_same hh hZ hJ) 20 0 h p T (Nat.le_refl _) hT) hT'
          subst e3
          rcases g with ⟨r, w, e1, ep⟩ | ⟨r, w, e1, ep, P1, ep1, hl⟩
          · rcases g' with ⟨r', _, e0⟩ | ⟨_, w', _⟩
            · exact ⟨r.trans r'.symm, same e1 e0 ep⟩
            · omega
          · rcases g' with ⟨_, w', _⟩ | ⟨r', _, e0, A1, ea1, eA⟩
            · omega
            · have n1 : NR u P1 A1 := NR_fr hu s.2.2.1 (fun i h1 h2 _ j _ => by rw [ep1 i (by omega)]) (fun r _ j hj => ea1 r j (by omega))
              have n2 := (NR_ly 20 0 h p T hT u P1 A1 [] _ n1 w hl).1
              refine ⟨r.trans r'.symm, _, w, mk _ ?_ e1 e0 (ep 32 (by omega)) (ep 56 (by omega))⟩
              rw [eA]
              exact n2
