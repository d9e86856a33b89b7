/-- the NUMBER that words say -/
def nvN (E : Nat → Nat) : Nat → Nat → Nat → Nat
  | 0, _, t => t
  | c + 1, m, t => nvN E c (m + 1) (10 * t + E m - 10)
/-- a row of KINDS and v's, each PART ahead of what it is a PART of, that reads the words a .. b by a KIND k, PLACE q -/
def RK (E : Nat → Nat) (L : Nat → Nat → Nat) (R : Nat → Nat → Nat → List (Nat × Nat) → Prop) (k a b q : Nat) (T : List (Nat × Nat)) : Prop :=
  (k < 2 ∧ T = [(k, if k = 0 then E a else nvN E (b - a) a 0)]) ∨
  (7 ≤ k ∧ ∃ X, T = X ++ [(k, E a)] ∧ R (pfN k a) (ptN k b) q X) ∨
  (2 ≤ k ∧ k ≤ 6 ∧ ∃ c r X Y, a + 1 + c + 1 < b ∧ E (a + 1 + c) = 18 + k ∧ q = pfS E L k a b c + r ∧ r < tmW (L a (a + 1 + c)) (L (a + 1 + c + 1) b) ∧ T = X ++ Y ++ [(k, 0)] ∧ R a (a + 1 + c) (r / L (a + 1 + c + 1) b) X ∧ R (a + 1 + c + 1) b (r % L (a + 1 + c + 1) b) Y)
/-- such a row is READING p of the words i .. j -/
def RT (E : Nat → Nat) (M : Nat → Nat → Nat → Nat) (L : Nat → Nat → Nat) : Nat → Nat → Nat → Nat → List (Nat × Nat) → Prop
  | 0, _, _, _, _ => False
  | f + 1, i, j, p, T => ∃ c q, c < 20 ∧ p = sW (M i j) c + q ∧ q < M i j c ∧ RK E L (RT E M L f) (c / 2) (i + c % 2) (j - c % 2) q T
theorem sW_mono (g : Nat → Nat) (d : Nat) : ∀ c, sW g d ≤ sW g (d + c)
  | 0 => Nat.le_refl _
  | c + 1 => Nat.le_trans (sW_mono g d c) (Nat.le_add_right _ _)
theorem sW_uq {g : Nat → Nat} {c q c' q' : Nat} (h : sW g c + q = sW g c' + q') (hq : q < g c) (hq' : q' < g c') : c = c' ∧ q = q' := by
  rcases Nat.lt_trichotomy c c' with e | e | e
  · have := sW_mono g (c + 1) (c' - (c + 1))
    rw [show c + 1 + (c' - (c + 1)) = c' by omega] at this
    have h2 : sW g (c + 1) = sW g c + g c := rfl
    omega
  · subst e
    exact ⟨rfl, by omega⟩
  · have := sW_mono g (c' + 1) (c - (c' + 1))
    rw [show c' + 1 + (c - (c' + 1)) = c by omega] at this
    have h2 : sW g (c' + 1) = sW g c' + g c' := rfl
    omega
theorem pfS_at {E : Nat → Nat} {L : Nat → Nat → Nat} {k a b c : Nat} (h : E (a + 1 + c) = 18 + k) : pfS E L k a b (c + 1) = pfS E L k a b c + tmW (L a (a + 1 + c)) (L (a + 1 + c + 1) b) := by
  show pfS E L k a b c + _ = _
  rw [if_pos h]
theorem pfS_uq {E : Nat → Nat} {L : Nat → Nat → Nat} {k a b c r c' r' : Nat} (h : pfS E L k a b c + r = pfS E L k a b c' + r') (he : E (a + 1 + c) = 18 + k) (he' : E (a + 1 + c') = 18 + k) (hr : r < tmW (L a (a + 1 + c)) (L (a + 1 + c + 1) b)) (hr' : r' < tmW (L a (a + 1 + c')) (L (a + 1 + c' + 1) b)) : c = c' ∧ r = r' := by
  rcases Nat.lt_trichotomy c c' with e | e | e
  · have := pfS_mono (E := E) (L := L) (k := k) (a := a) (b := b) (c + 1) (c' - (c + 1))
    rw [show c + 1 + (c' - (c + 1)) = c' by omega, pfS_at he] at this
    omega
  · subst e
    exact ⟨rfl, by omega⟩
  · have := pfS_mono (E := E) (L := L) (k := k) (a := a) (b := b) (c' + 1) (c - (c' + 1))
    rw [show c' + 1 + (c - (c' + 1)) = c by omega, pfS_at he'] at this
    omega
/-- a PLACE has one READING -/
theorem RT_uq {E : Nat → Nat} {M : Nat → Nat → Nat → Nat} {L : Nat → Nat → Nat} : ∀ (f i j p : Nat) (T T' : List (Nat × Nat)), RT E M L f i j p T → RT E M L f i j p T' → T = T'
  | 0, _, _, _, _, _, h, _ => h.elim
  | f + 1, i, j, p, T, T', ⟨c, q, h1, h2, h3, h4⟩, ⟨c', q', g1, g2, g3, g4⟩ => by
    obtain ⟨e1, e2⟩ := sW_uq (h2.symm.trans g2) h3 g3
    subst e1 e2
    rcases h4 with ⟨a1, a2⟩ | ⟨a1, X, a2, a3⟩ | ⟨a1, a2, d, r, X, Y, b1, b2, b3, b4, b5, b6, b7⟩
    · rcases g4 with ⟨k1, k2⟩ | ⟨k1, _⟩ | ⟨k1, _⟩
      · rw [a2, k2]
      · omega
      · omega
    · rcases g4 with ⟨k1, k2⟩ | ⟨k1, X', k2, k3⟩ | ⟨k1, k2, _⟩
      · omega
      · rw [a2, k2, RT_uq f _ _ _ _ _ a3 k3]
      · omega
    · rcases g4 with ⟨k1, k2⟩ | ⟨k1, _⟩ | ⟨k1, k2, d', r', X', Y', c1, c2, c3, c4, c5, c6, c7⟩
      · omega
      · omega
      · obtain ⟨e1, e2⟩ := pfS_uq (b3.symm.trans c3) b2 c2 b4 c4
        subst e1 e2
        rw [b5, c5, RT_uq f _ _ _ _ _ b6 c6, RT_uq f _ _ _ _ _ b7 c7]
theorem sW_find {g : Nat → Nat} {p : Nat} : ∀ n, p < sW g n → ∃ c q, c < n ∧ p = sW g c + q ∧ q < g c
  | 0, h => absurd h (Nat.not_lt_zero _)
  | n + 1, h => by
    rcases Nat.lt_or_ge p (sW g n) with e | e
    · obtain ⟨c, q, h1, h2, h3⟩ := sW_find n e
      exact ⟨c, q, by omega, h2, h3⟩
    · have h2 : sW g (n + 1) = sW g n + g n := rfl
      exact ⟨n, p - sW g n, by omega, by omega, by omega⟩
theorem pfS_find {E : Nat → Nat} {L : Nat → Nat → Nat} {k a b p : Nat} : ∀ n, p < pfS E L k a b n → ∃ c r, c < n ∧ E (a + 1 + c) = 18 + k ∧ p = pfS E L k a b c + r ∧ r < tmW (L a (a + 1 + c)) (L (a + 1 + c + 1) b)
  | 0, h => absurd h (Nat.not_lt_zero _)
  | n + 1, h => by
    rcases Nat.lt_or_ge p (pfS E L k a b n) with e | e
    · obtain ⟨c, q, h1, h2⟩ := pfS_find n e
      exact ⟨c, q, by omega, h2⟩
    · have h2 : pfS E L k a b (n + 1) = pfS E L k a b n + (if E (a + 1 + n) = 18 + k then tmW (L a (a + 1 + n)) (L (a + 1 + n + 1) b) else 0) := rfl
      split at h2
      · rename_i g
        exact ⟨n, p - pfS E L k a b n, by omega, g, by omega, by omega⟩
      · omega
theorem tm_dm {x y r : Nat} (h : r < tmW x y) : 0 < y ∧ r / y < x ∧ r % y < y := by
  have ht := (tmW_le x y).2
  have h0 : 0 < y := by
    rcases Nat.eq_zero_or_pos y with e | e
    · rw [e, Nat.mul_zero] at ht
      rw [e] at h
      omega
    · exact e
  exact ⟨h0, (Nat.div_lt_iff_lt_mul h0).mpr (by omega), Nat.mod_lt _ h0⟩
theorem mG_pos {E : Nat → Nat} {G : Nat → Int32} {lt : Nat → Nat → Bool} {L : Nat → Nat → Nat} {i j c p : Nat} (h : p < mG E G lt L i j c) : p < wi E G L (c / 2) (i + c % 2) (j - c % 2) ∧ lt (c / 2) (c % 2) = true ∧ (c % 2 = 0 ∨ (E i = 29 ∧ E (j - 1) = 30)) := by
  unfold mG at h
  split at h
  · rename_i e
    exact ⟨h, e⟩
  · omega
theorem wi_un {E : Nat → Nat} {G : Nat → Int32} {L : Nat → Nat → Nat} {k a b p : Nat} (k7 : 7 ≤ k) (k9 : k < 10) (h : p < wi E G L k a b) : a < b ∧ p < L (pfN k a) (ptN k b) ∧ a < pfN k a ∧ pfN k a < ptN k b ∧ ptN k b ≤ b ∧ keV E G a b = k := by
  have hab : a < b := by
    rcases Nat.lt_or_ge a b with e | e
    · exact e
    · rw [wi_n e] at h
      omega
  rw [keV_c hab L k (by omega)] at h
  split at h
  · rename_i e
    rw [if_neg (by omega)] at h
    have q : k = 7 ∨ k = 8 ∨ k = 9 := by omega
    have w := keV_in E G a b
    refine ⟨hab, h, ?_⟩
    rcases q with rfl | rfl | rfl
    · exact ⟨by show a < a + 1; omega, by show a + 1 < b; omega, Nat.le_refl _, e⟩
    · exact ⟨by show a < a + 1; omega, by show a + 1 < b - 1; omega, by show b - 1 ≤ b; omega, e⟩
    · exact ⟨by show a < a + 2; omega, by show a + 2 < b; omega, Nat.le_refl _, e⟩
  · omega
/-- each PLACE has a READING -/
theorem RT_ex {E : Nat → Nat} {G : Nat → Int32} {lt : Nat → Nat → Bool} {L : Nat → Nat → Nat} {h : Nat} (hh : h ≤ 20) (hL : ∀ i j, i < j → j ≤ h → L i j = tS E G lt L i j) : ∀ (f i j p : Nat), i < j → j ≤ h → j - i ≤ f → p < L i j → ∃ T, RT E (mG E G lt L) L f i j p T ∧ T.length ≤ j - i
  | 0, i, j, p, h1, h2, h3, h4 => absurd h1 (by omega)
  | f + 1, i, j, p, h1, h2, h3, h4 => by
    rw [hL i j h1 h2, ← sW_tS] at h4
    obtain ⟨c, q, c1, c2, c3⟩ := sW_find 20 h4
    obtain ⟨d1, d2, d3⟩ := mG_pos c3
    have hab : i + c % 2 < j - c % 2 := by
      rcases Nat.lt_or_ge (i + c % 2) (j - c % 2) with e | e
      · exact e
      · rw [wi_n e] at d1
        omega
    have pr : ∀ T, RK E L (RT E (mG E G lt L) L f) (c / 2) (i + c % 2) (j - c % 2) q T → T.length ≤ j - i → ∃ T, RT E (mG E G lt L) L (f + 1) i j p T ∧ T.length ≤ j - i := fun T hT hl => ⟨T, ⟨c, q, c1, c2, c3, hT⟩, hl⟩
    rcases Nat.lt_or_ge (c / 2) 2 with k2 | k2
    · exact pr _ (Or.inl ⟨k2, rfl⟩) (by show 1 ≤ j - i; omega)
    · rcases Nat.lt_or_ge (c / 2) 7 with k7 | k7
      · rw [wi_2 hab k2 (by omega)] at d1
        have hp := wiP_pf (E := E) (L := L) (k := c / 2) (a := i + c % 2) (b := j - c % 2) (j - c % 2 - 1 - (i + c % 2 + 1)) 0 0 (Nat.zero_le _)
        rw [Nat.zero_add] at hp
        obtain ⟨d, r, e1, e2, e3, e4⟩ := pfS_find _ (Nat.lt_of_lt_of_le d1 hp)
        obtain ⟨g0, g1, g2⟩ := tm_dm e4
        obtain ⟨X, x1, x2⟩ := RT_ex hh hL f (i + c % 2) (i + c % 2 + 1 + d) _ (by omega) (by omega) (by omega) g1
        obtain ⟨Y, y1, y2⟩ := RT_ex hh hL f (i + c % 2 + 1 + d + 1) (j - c % 2) _ (by omega) (by omega) (by omega) g2
        refine pr (X ++ Y ++ [(c / 2, 0)]) (Or.inr (Or.inr ⟨k2, by omega, d, r, X, Y, by omega, e2, e3, e4, rfl, x1, y1⟩)) ?_
        rw [List.length_append, List.length_append]
        show X.length + Y.length + 1 ≤ _
        omega
      · obtain ⟨_, w1, w2, w3, w4, _⟩ := wi_un k7 (by omega) d1
        obtain ⟨X, x1, x2⟩ := RT_ex hh hL f (pfN (c / 2) (i + c % 2)) (ptN (c / 2) (j - c % 2)) q w3 (by omega) (by omega) w1
        refine pr (X ++ [(c / 2, E (i + c % 2))]) (Or.inr (Or.inl ⟨k7, X, rfl, x1⟩)) ?_
        rw [List.length_append]
        show X.length + 1 ≤ _
        omega
