/-- what a NODE of KIND k is that says the words a .. b, PLACE q among those of its KIND: its letter or NUMBER too -/
def Gk (E : Nat → Nat) (L : Nat → Nat → Nat) (A : Nat → Nat → Int32) (R : Nat → Nat → Nat → Nat → Prop) (k a b q n : Nat) : Prop :=
  (k = 0 ∧ A 1 n = nI (E a) ∧ A 2 n = m2 ∧ A 3 n = m2) ∨ (k = 1 ∧ A 1 n = nI (nvN E (b - a) a 0) ∧ A 2 n = m2 ∧ A 3 n = m2 ∧ dgN (A 1 n) = b - a) ∨
  (k = 7 ∧ ∃ x, 0 ≤ x ∧ x < n ∧ A 2 n = nI x ∧ A 3 n = m2 ∧ R (a + 1) b q x) ∨
  (k = 8 ∧ ∃ x, 0 ≤ x ∧ x < n ∧ A 2 n = nI x ∧ A 3 n = m2 ∧ R (a + 1) (b - 1) q x) ∨
  (k = 9 ∧ A 1 n = nI (E a) ∧ ∃ x, 0 ≤ x ∧ x < n ∧ A 2 n = nI x ∧ A 3 n = m2 ∧ R (a + 2) b q x) ∨
  (2 ≤ k ∧ k ≤ 6 ∧ ∃ c r x y, a + 1 + c + 1 < b ∧ E (a + 1 + c) = 18 + k ∧ q = pfS E L k a b c + r ∧ r < tmW (L a (a + 1 + c)) (L (a + 1 + c + 1) b) ∧ 0 ≤ x ∧ x < n ∧ 0 ≤ y ∧ y < n ∧ A 2 n = nI x ∧ A 3 n = nI y ∧ R a (a + 1 + c) (r / L (a + 1 + c + 1) b) x ∧ R (a + 1 + c + 1) b (r % L (a + 1 + c + 1) b) y)
/-- NODE n is READING p of the words i .. j -/
def Rg (E : Nat → Nat) (M : Nat → Nat → Nat → Nat) (L : Nat → Nat → Nat) (A : Nat → Nat → Int32) : Nat → Nat → Nat → Nat → Nat → Prop
  | 0, _, _, _, _ => False
  | f + 1, i, j, p, n => ∃ c q, c < 20 ∧ p = sW (M i j) c + q ∧ q < M i j c ∧ A 0 n = nI (c / 2) ∧ Gk E L A (Rg E M L A f) (c / 2) (i + c % 2) (j - c % 2) q n
theorem Gk_7 {E : Nat → Nat} {L : Nat → Nat → Nat} {A : Nat → Nat → Int32} {R : Nat → Nat → Nat → Nat → Prop} {k a b q n : Nat} (h : Gk E L A R k a b q n) (e : k = 7) : ∃ x, 0 ≤ x ∧ x < n ∧ A 2 n = nI x ∧ A 3 n = m2 ∧ R (a + 1) (b) q x := by
  rcases h with ⟨h, _⟩ | ⟨h, _⟩ | ⟨h, r⟩ | ⟨h, r⟩ | ⟨h, r1, r⟩ | ⟨h, h6, _⟩ <;> first | exact r | omega
theorem Gk_8 {E : Nat → Nat} {L : Nat → Nat → Nat} {A : Nat → Nat → Int32} {R : Nat → Nat → Nat → Nat → Prop} {k a b q n : Nat} (h : Gk E L A R k a b q n) (e : k = 8) : ∃ x, 0 ≤ x ∧ x < n ∧ A 2 n = nI x ∧ A 3 n = m2 ∧ R (a + 1) (b - 1) q x := by
  rcases h with ⟨h, _⟩ | ⟨h, _⟩ | ⟨h, r⟩ | ⟨h, r⟩ | ⟨h, r1, r⟩ | ⟨h, h6, _⟩ <;> first | exact r | omega
theorem Gk_9 {E : Nat → Nat} {L : Nat → Nat → Nat} {A : Nat → Nat → Int32} {R : Nat → Nat → Nat → Nat → Prop} {k a b q n : Nat} (h : Gk E L A R k a b q n) (e : k = 9) : ∃ x, 0 ≤ x ∧ x < n ∧ A 2 n = nI x ∧ A 3 n = m2 ∧ R (a + 2) (b) q x := by
  rcases h with ⟨h, _⟩ | ⟨h, _⟩ | ⟨h, r⟩ | ⟨h, r⟩ | ⟨h, r1, r⟩ | ⟨h, h6, _⟩ <;> first | exact r | omega
theorem Gk_9v {E : Nat → Nat} {L : Nat → Nat → Nat} {A : Nat → Nat → Int32} {R : Nat → Nat → Nat → Nat → Prop} {k a b q n : Nat} (h : Gk E L A R k a b q n) (e : k = 9) : A 1 n = nI (E a) := by
  rcases h with ⟨h, _⟩ | ⟨h, _⟩ | ⟨h, r⟩ | ⟨h, r⟩ | ⟨h, r1, r⟩ | ⟨h, h6, _⟩ <;> first | exact r1 | omega
theorem Gk_0v {E : Nat → Nat} {L : Nat → Nat → Nat} {A : Nat → Nat → Int32} {R : Nat → Nat → Nat → Nat → Prop} {k a b q n : Nat} (h : Gk E L A R k a b q n) (e : k = 0) : A 1 n = nI (E a) := by
  rcases h with ⟨h, r1, _⟩ | ⟨h, _⟩ | ⟨h, r⟩ | ⟨h, r⟩ | ⟨h, _, r⟩ | ⟨h, h6, _⟩ <;> first | exact r1 | omega
theorem Gk_1v {E : Nat → Nat} {L : Nat → Nat → Nat} {A : Nat → Nat → Int32} {R : Nat → Nat → Nat → Nat → Prop} {k a b q n : Nat} (h : Gk E L A R k a b q n) (e : k = 1) : A 1 n = nI (nvN E (b - a) a 0) := by
  rcases h with ⟨h, _⟩ | ⟨h, r1, _⟩ | ⟨h, r⟩ | ⟨h, r⟩ | ⟨h, _, r⟩ | ⟨h, h6, _⟩ <;> first | exact r1 | omega
theorem Gk_0 {E : Nat → Nat} {L : Nat → Nat → Nat} {A : Nat → Nat → Int32} {R : Nat → Nat → Nat → Nat → Prop} {k a b q n : Nat} (h : Gk E L A R k a b q n) (e : k < 2) : A 2 n = m2 ∧ A 3 n = m2 ∧ (k = 1 → dgN (A 1 n) = b - a) := by
  rcases h with ⟨h, _, h2, h3⟩ | ⟨h, _, h2, h3, h4⟩ | ⟨h, r⟩ | ⟨h, r⟩ | ⟨h, r⟩ | ⟨h, h6, _⟩
  · exact ⟨h2, h3, fun e => absurd e (by omega)⟩
  · exact ⟨h2, h3, fun _ => h4⟩
  · omega
  · omega
  · omega
  · omega
theorem Gk_P {E : Nat → Nat} {L : Nat → Nat → Nat} {A : Nat → Nat → Int32} {R : Nat → Nat → Nat → Nat → Prop} {k a b q n : Nat} (h : Gk E L A R k a b q n) (k2 : 2 ≤ k) (k6 : k ≤ 6) : ∃ c r x y, a + 1 + c + 1 < b ∧ E (a + 1 + c) = 18 + k ∧ q = pfS E L k a b c + r ∧ r < tmW (L a (a + 1 + c)) (L (a + 1 + c + 1) b) ∧ 0 ≤ x ∧ x < n ∧ 0 ≤ y ∧ y < n ∧ A 2 n = nI x ∧ A 3 n = nI y ∧ R a (a + 1 + c) (r / L (a + 1 + c + 1) b) x ∧ R (a + 1 + c + 1) b (r % L (a + 1 + c + 1) b) y := by
  rcases h with ⟨h, _⟩ | ⟨h, _⟩ | ⟨h, _⟩ | ⟨h, _⟩ | ⟨h, _⟩ | ⟨_, _, r⟩
  · omega
  · omega
  · omega
  · omega
  · omega
  · exact r
theorem Rg_cnt {E : Nat → Nat} {G : Nat → Int32} {lt : Nat → Nat → Bool} {L : Nat → Nat → Nat} {A : Nat → Nat → Int32} : ∀ (f i j p n : Nat), n < 450 → Rg E (mG E G lt L) L A f i j p n → spn (gB E) i j = spn (gC E) i j ∧ spn (gO E) i j = bwW A f (nI n) := by
  intro f
  induction f with
  | zero => exact fun i j p n _ h => h.elim
  | succ f ih =>
    rintro i j p n hn ⟨c, q, hc, hp, hq, h0, hk⟩
    obtain ⟨hw, _, hbr⟩ := mG_pos hq
    generalize ha : i + c % 2 = a at hw hk
    generalize hb : j - c % 2 = b at hw hk
    generalize hk9 : c / 2 = k at hw hk h0
    have hk10 : k < 10 := by omega
    obtain ⟨hab, w0, w1, w7, w8, w9⟩ := wi_pos hw
    have hown := ownW_c k h0
    have core : spn (gB E) a b = spn (gC E) a b ∧ spn (gO E) a b = bwW A (f + 1) (nI n) := by
      rw [bwW_nI hn]
      rcases (show k = 0 ∨ k = 1 ∨ (2 ≤ k ∧ k ≤ 6) ∨ k = 7 ∨ k = 8 ∨ k = 9 by omega) with e | e | ⟨k2, k6⟩ | e | e | e
      · obtain ⟨h2, h3, _⟩ := Gk_0 hk (by omega)
        obtain ⟨d1, d2, _⟩ := w0 e
        obtain ⟨b1, b2, b3⟩ := bal_o (E := E) (i := a) (j := b) (fun x h1 h2 => by rw [show x = a by omega]; omega) (by omega)
        rw [h2, h3, bwW_m2, hown.1 e]
        omega
      · obtain ⟨h2, h3, h4⟩ := Gk_0 hk (by omega)
        have hd := isNumB_at (w1 e).1
        obtain ⟨b1, b2, b3⟩ := bal_o (E := E) (i := a) (j := b) (fun x h1 h2 => by have := hd.2.2 x h1 h2; omega) (by omega)
        rw [h2, h3, bwW_m2, hown.2.1 e, h4 e]
        omega
      · obtain ⟨m, r, x, y, hm, hE, _, _, x1, x2, y1, y2, h2, h3, rx, ry⟩ := Gk_P hk k2 k6
        obtain ⟨i1, i2⟩ := ih _ _ _ x (by omega) rx
        obtain ⟨j1, j2⟩ := ih _ _ _ y (by omega) ry
        obtain ⟨g1, g2, g3⟩ := g_o (E := E) (x := a + 1 + m) (by omega)
        rw [h2, h3, ownW_2 k2 k6 h0, spn_split (gB E) (show a ≤ a + 1 + m by omega) (show a + 1 + m ≤ b by omega), spn_split (gC E) (show a ≤ a + 1 + m by omega) (show a + 1 + m ≤ b by omega), spn_split (gO E) (show a ≤ a + 1 + m by omega) (show a + 1 + m ≤ b by omega), spn_cons (gB E) (show a + 1 + m < b by omega), spn_cons (gC E) (show a + 1 + m < b by omega), spn_cons (gO E) (show a + 1 + m < b by omega)]
        omega
      · obtain ⟨x, x1, x2, h2, h3, rx⟩ := Gk_7 hk e
        obtain ⟨i1, i2⟩ := ih _ _ _ x (by omega) rx
        obtain ⟨g1, g2, g3⟩ := g_o (E := E) (x := a) (by have := (w7 e).1; omega)
        rw [h2, h3, bwW_m2, hown.2.2.1 e, spn_cons (gB E) hab, spn_cons (gC E) hab, spn_cons (gO E) hab]
        omega
      · obtain ⟨x, x1, x2, h2, h3, rx⟩ := Gk_8 hk e
        obtain ⟨i1, i2⟩ := ih _ _ _ x (by omega) rx
        obtain ⟨e1, e2, e3⟩ := w8 e
        obtain ⟨g1, g2, g3⟩ := g_o (E := E) (x := a) (by omega)
        obtain ⟨g4, g5, g6⟩ := g_o (E := E) (x := b - 1) (by omega)
        rw [h2, h3, bwW_m2, hown.2.2.2.1 e, spn_cons (gB E) hab, spn_cons (gC E) hab, spn_cons (gO E) hab, spn_snoc (gB E) (show a + 1 < b by omega), spn_snoc (gC E) (show a + 1 < b by omega), spn_snoc (gO E) (show a + 1 < b by omega)]
        omega
      · obtain ⟨x, x1, x2, h2, h3, rx⟩ := Gk_9 hk e
        obtain ⟨i1, i2⟩ := ih _ _ _ x (by omega) rx
        obtain ⟨e1, e2, e3⟩ := w9 e
        obtain ⟨g1, g2, g3⟩ := g_o (E := E) (x := a) (by omega)
        obtain ⟨g4, g5, g6⟩ := g_o (E := E) (x := a + 1) (by omega)
        rw [h2, h3, bwW_m2, hown.2.2.2.2 e, spn_cons (gB E) hab, spn_cons (gC E) hab, spn_cons (gO E) hab, spn_cons (gB E) (show a + 1 < b by omega), spn_cons (gC E) (show a + 1 < b by omega), spn_cons (gO E) (show a + 1 < b by omega)]
        rw [show a + 1 + 1 = a + 2 by omega]
        omega
    rcases (show c % 2 = 0 ∨ c % 2 = 1 by omega) with e | e
    · rw [e] at ha hb
      obtain rfl : i = a := by omega
      obtain rfl : j = b := by omega
      exact core
    · rw [e] at ha hb
      obtain ⟨e1, e2⟩ := hbr.resolve_left (by omega)
      obtain ⟨g1, g2, g3⟩ := g_b e1
      obtain ⟨g4, g5, g6⟩ := g_c e2
      rw [spn_cons (gB E) (show i < j by omega), spn_cons (gC E) (show i < j by omega), spn_cons (gO E) (show i < j by omega), spn_snoc (gB E) (show i + 1 < j by omega), spn_snoc (gC E) (show i + 1 < j by omega), spn_snoc (gO E) (show i + 1 < j by omega), ha, hb]
      rw [hb] at g4 g5 g6
      omega
theorem Rg_inj {E : Nat → Nat} {G : Nat → Int32} {lt : Nat → Nat → Bool} {L : Nat → Nat → Nat} {A : Nat → Nat → Int32} : ∀ (f i j p p' n n' z : Nat), n < 450 → n' < 450 → Rg E (mG E G lt L) L A f i j p n → Rg E (mG E G lt L) L A f i j p' n' → alk A z (nI n) (nI n') → p = p' := by
  intro f
  induction f with
  | zero => exact fun i j p p' n n' z _ _ h => h.elim
  | succ f ih =>
    rintro i j p p' n n' z hn hn' ⟨c, q, hc, hp, hq, h0, hk⟩ ⟨c', q', hc', hp', hq', h0', hk'⟩ hal
    cases z with
    | zero => exact absurd hal.1.symm (m2_nI hn)
    | succ z =>
      obtain ⟨a0, a1, a4, al2, al3⟩ := (alk_nn hn hn').mp hal
      have ek : c / 2 = c' / 2 := (nI_eq (by omega) (by omega)).mp (h0.symm.trans (a0.trans h0'))
      obtain ⟨hw, _, hbr⟩ := mG_pos hq
      obtain ⟨hw', _, hbr'⟩ := mG_pos hq'
      suffices hs : c % 2 = c' % 2 ∧ q = q' by
        have : c = c' := by omega
        subst this
        omega
      rw [← ek] at hw' hk'
      generalize hk9 : c / 2 = k at hw hk hw' hk'
      have hk10 : k < 10 := by omega
      obtain ⟨hab, w0, w1, w7, w8, w9⟩ := wi_pos hw
      obtain ⟨hab', w0', w1', w7', w8', w9'⟩ := wi_pos hw'
      have par : ¬ (2 ≤ k ∧ k ≤ 6) → c % 2 = c' % 2 := by
        intro hnp
        have e1 : c % 2 = 0 → E i ≠ 29 := fun e => by
          rw [e] at w0 w1 w7 w8 w9
          rcases (show k = 0 ∨ k = 1 ∨ k = 7 ∨ k = 8 ∨ k = 9 by omega) with h | h | h | h | h
          · have := (w0 h).2.1; rw [Nat.add_zero] at this; omega
          · rw [e] at hab
            have := (isNumB_at (w1 h).1).2.2 (i + 0) (Nat.le_refl _) hab; rw [Nat.add_zero] at this; omega
          · have := (w7 h).1; rw [Nat.add_zero] at this; omega
          · have := (w8 h).1; rw [Nat.add_zero] at this; omega
          · have := (w9 h).1; rw [Nat.add_zero] at this; omega
        have e2 : c' % 2 = 0 → E i ≠ 29 := fun e => by
          rw [e] at w0' w1' w7' w8' w9'
          rcases (show k = 0 ∨ k = 1 ∨ k = 7 ∨ k = 8 ∨ k = 9 by omega) with h | h | h | h | h
          · have := (w0' h).2.1; rw [Nat.add_zero] at this; omega
          · rw [e] at hab'
            have := (isNumB_at (w1' h).1).2.2 (i + 0) (Nat.le_refl _) hab'; rw [Nat.add_zero] at this; omega
          · have := (w7' h).1; rw [Nat.add_zero] at this; omega
          · have := (w8' h).1; rw [Nat.add_zero] at this; omega
          · have := (w9' h).1; rw [Nat.add_zero] at this; omega
        rcases (show c % 2 = 0 ∨ c % 2 = 1 by omega) with h | h <;> rcases (show c' % 2 = 0 ∨ c' % 2 = 1 by omega) with h' | h'
        · omega
        · exact absurd (hbr'.resolve_left (by omega)).1 (e1 h)
        · exact absurd (hbr.resolve_left (by omega)).1 (e2 h')
        · omega
      rcases (show k = 0 ∨ k = 1 ∨ (2 ≤ k ∧ k ≤ 6) ∨ k = 7 ∨ k = 8 ∨ k = 9 by omega) with e | e | ⟨k2, k6⟩ | e | e | e
      · exact ⟨par (by omega), by have := (w0 e).2.2; have := (w0' e).2.2; omega⟩
      · exact ⟨par (by omega), by have := (w1 e).2; have := (w1' e).2; omega⟩
      · obtain ⟨m, r, x, y, hm, hE, hqr, hr, x1, x2, y1, y2, h2, h3, rx, ry⟩ := Gk_P hk k2 k6
        obtain ⟨m', r', x', y', hm', hE', hqr', hr', x1', x2', y1', y2', h2', h3', rx', ry'⟩ := Gk_P hk' k2 k6
        rw [h2, h2'] at al2
        rw [h3, h3'] at al3
        obtain ⟨i1, i2⟩ := Rg_cnt f _ _ _ x (by omega) rx
        obtain ⟨i1', i2'⟩ := Rg_cnt f _ _ _ x' (by omega) rx'
        have eb := bwW_alk z f _ _ al2
        have pe : c % 2 = c' % 2 := by
          rcases (show c % 2 = 0 ∨ c % 2 = 1 by omega) with h | h <;> rcases (show c' % 2 = 0 ∨ c' % 2 = 1 by omega) with h' | h'
          · omega
          · exfalso
            rw [h] at i1 i2 hE
            rw [h'] at i1' i2' hE'
            rw [Nat.add_zero] at i1 i2 hE
            obtain ⟨g1, g2, g3⟩ := g_b (hbr'.resolve_left (by omega)).1
            have s1 := spn_cons (gO E) (show i < i + 1 + 1 + m' by omega)
            have s2 := spn_cons (gB E) (show i < i + 1 + 1 + m' by omega)
            have s3 := spn_cons (gC E) (show i < i + 1 + 1 + m' by omega)
            have em := cut_eq (E := E) (i := i) (m := i + 1 + m) (m' := i + 1 + 1 + m') (by omega) (by omega) (by omega) (by omega) (by omega)
            rw [em] at i1
            omega
          · exfalso
            rw [h] at i1 i2 hE
            rw [h'] at i1' i2' hE'
            rw [Nat.add_zero] at i1' i2' hE'
            obtain ⟨g1, g2, g3⟩ := g_b (hbr.resolve_left (by omega)).1
            have s1 := spn_cons (gO E) (show i < i + 1 + 1 + m by omega)
            have s2 := spn_cons (gB E) (show i < i + 1 + 1 + m by omega)
            have s3 := spn_cons (gC E) (show i < i + 1 + 1 + m by omega)
            have em := cut_eq (E := E) (i := i) (m := i + 1 + m') (m' := i + 1 + 1 + m) (by omega) (by omega) (by omega) (by omega) (by omega)
            rw [em] at i1'
            omega
          · omega
        refine ⟨pe, ?_⟩
        rw [← pe] at rx' ry' hE' hm' hqr' hr' i2'
        have em := cut_eq (E := E) (i := i + c % 2) (m := i + c % 2 + 1 + m) (m' := i + c % 2 + 1 + m') (by omega) (by omega) (by omega) (by omega) (by omega)
        obtain rfl : m = m' := by omega
        have f1 := ih _ _ _ _ x x' z (by omega) (by omega) rx rx' al2
        have f2 := ih _ _ _ _ y y' z (by omega) (by omega) ry ry' al3
        have d1 := Nat.div_add_mod r (L (i + c % 2 + 1 + m + 1) (j - c % 2))
        have d2 := Nat.div_add_mod r' (L (i + c % 2 + 1 + m + 1) (j - c % 2))
        rw [f1, f2] at d1
        omega
      · have pe := par (by omega)
        rw [← pe] at hk'
        obtain ⟨x, x1, x2, h2, h3, rx⟩ := Gk_7 hk e
        obtain ⟨x', x1', x2', h2', h3', rx'⟩ := Gk_7 hk' e
        rw [h2, h2'] at al2
        exact ⟨pe, ih _ _ _ _ x x' z (by omega) (by omega) rx rx' al2⟩
      · have pe := par (by omega)
        rw [← pe] at hk'
        obtain ⟨x, x1, x2, h2, h3, rx⟩ := Gk_8 hk e
        obtain ⟨x', x1', x2', h2', h3', rx'⟩ := Gk_8 hk' e
        rw [h2, h2'] at al2
        exact ⟨pe, ih _ _ _ _ x x' z (by omega) (by omega) rx rx' al2⟩
      · have pe := par (by omega)
        rw [← pe] at hk'
        obtain ⟨x, x1, x2, h2, h3, rx⟩ := Gk_9 hk e
        obtain ⟨x', x1', x2', h2', h3', rx'⟩ := Gk_9 hk' e
        rw [h2, h2'] at al2
        exact ⟨pe, ih _ _ _ _ x x' z (by omega) (by omega) rx rx' al2⟩
theorem alk_rf {lo hi : Nat} {A : Nat → Nat → Int32} (hh : hi ≤ 450) (hT : tbI lo hi A) : ∀ (z n : Nat), lo ≤ n → n < hi → szN A n ≤ z → alk A z (nI n) (nI n)
  | 0, n, hlo, hn, hz => by
    have := (rN_sz (hT n hlo hn)).1
    omega
  | z + 1, n, hlo, hn, hz => by
    obtain ⟨k, h0, hk, hs, _⟩ := rN_val (hT n hlo hn)
    rw [alk_nn (by omega) (by omega)]
    refine ⟨rfl, rfl, rfl, ?_⟩
    rcases hs with ⟨k1, h2, h3, es⟩ | ⟨k1, k6, c, d, h2, la, hc, h3, lb, hd, es⟩ | ⟨k1, c, h2, la, hc, h3, es⟩
    · rw [h2, h3]
      exact ⟨alk_mm A z, alk_mm A z⟩
    · rw [h2, h3]
      exact ⟨alk_rf hh hT z c la (by omega) (by omega), alk_rf hh hT z d lb (by omega) (by omega)⟩
    · rw [h2, h3]
      exact ⟨alk_rf hh hT z c la (by omega) (by omega), alk_mm A z⟩
theorem Rg_cg {E : Nat → Nat} {G : Nat → Int32} {lt : Nat → Nat → Bool} {L L' : Nat → Nat → Nat} {A : Nat → Nat → Int32} {h : Nat} (e : ∀ a b, a < b → b ≤ h → L a b = L' a b) : ∀ (f i j p n : Nat), j ≤ h → Rg E (mG E G lt L) L A f i j p n → Rg E (mG E G lt L') L' A f i j p n
  | 0, _, _, _, _, _, h => h
  | f + 1, i, j, p, n, hj, ⟨c, q, h1, h2, h3, h0, h4⟩ => by
    have em : ∀ d, mG E G lt L i j d = mG E G lt L' i j d := fun d => mG_cg (fun a b _ q2 q3 _ => e a b q2 (by omega))
    refine ⟨c, q, h1, ?_, by rw [← em]; exact h3, h0, ?_⟩
    · rw [h2, sW_cg c (fun d _ => em d)]
    · rcases h4 with h4 | h4 | ⟨k7, x, x1, x2, g2, g3, hr⟩ | ⟨k7, x, x1, x2, g2, g3, hr⟩ | ⟨k7, g1, x, x1, x2, g2, g3, hr⟩ | ⟨k1, k6, d, r, x, y, hc, hE, hq, hr, x1, x2, y1, y2, g2, g3, rx, ry⟩
      · exact Or.inl h4
      · exact Or.inr (Or.inl h4)
      · exact Or.inr (Or.inr (Or.inl ⟨k7, x, x1, x2, g2, g3, Rg_cg e f _ _ _ x (by omega) hr⟩))
      · exact Or.inr (Or.inr (Or.inr (Or.inl ⟨k7, x, x1, x2, g2, g3, Rg_cg e f _ _ _ x (by omega) hr⟩)))
      · exact Or.inr (Or.inr (Or.inr (Or.inr (Or.inl ⟨k7, g1, x, x1, x2, g2, g3, Rg_cg e f _ _ _ x (by omega) hr⟩))))
      · have e1 := e (i + c % 2) (i + c % 2 + 1 + d) (by omega) (by omega)
        have e2 := e (i + c % 2 + 1 + d + 1) (j - c % 2) (by omega) (by omega)
        refine Or.inr (Or.inr (Or.inr (Or.inr (Or.inr ⟨k1, k6, d, r, x, y, hc, hE, ?_, by rw [← e1, ← e2]; exact hr, x1, x2, y1, y2, g2, g3, ?_, ?_⟩))))
        · rw [hq, pfS_cg (by omega) e d (by omega)]
        · rw [← e2]
          exact Rg_cg e f _ _ _ x (by omega) rx
        · rw [← e2]
          exact Rg_cg e f _ _ _ y (by omega) ry
/-- a NODE has no more NODES than words -/
theorem Rg_sz {E : Nat → Nat} {G : Nat → Int32} {lt : Nat → Nat → Bool} {L : Nat → Nat → Nat} {lo hi : Nat} {A : Nat → Nat → Int32} (hh : hi ≤ 450) (hT : tbI lo hi A) : ∀ (f i j p n : Nat), lo ≤ n → n < hi → Rg E (mG E G lt L) L A f i j p n → i < j ∧ szN A n ≤ j - i
  | 0, _, _, _, _, _, _, h => h.elim
  | f + 1, i, j, p, n, hlo, hn, ⟨c, q, h1, h2, h3, h0, h4⟩ => by
    obtain ⟨hw, _, _⟩ := mG_pos h3
    obtain ⟨hab, w0, w1, w7, w8, w9⟩ := wi_pos hw
    refine ⟨by omega, ?_⟩
    obtain ⟨k, g0, hk, hs, -, -⟩ := rN_val (hT n hlo hn)
    have ek : k = c / 2 := (nI_eq (by omega) (by omega)).mp (g0.symm.trans h0)
    rw [← ek] at h4 w7 w8 w9
    rcases hs with ⟨k1, e2, e3, es⟩ | ⟨k1, k6, x, y, e2, la, hx, e3, lb, hy, es⟩ | ⟨k1, x, e2, la, hx, e3, es⟩
    · omega
    · obtain ⟨m, r, x', y', hm, _, _, _, _, _, _, _, g2, g3, rx, ry⟩ := Gk_P h4 k1 k6
      have ex : x' = x := (nI_eq (by omega) (by omega)).mp (g2.symm.trans e2)
      have ey : y' = y := (nI_eq (by omega) (by omega)).mp (g3.symm.trans e3)
      subst ex ey
      have a1 := (Rg_sz hh hT f _ _ _ x' la (by omega) rx).2
      have a2 := (Rg_sz hh hT f _ _ _ y' lb (by omega) ry).2
      omega
    · rcases (show k = 7 ∨ k = 8 ∨ k = 9 by omega) with e | e | e
      · obtain ⟨x', _, _, g2, _, rx⟩ := Gk_7 h4 e
        have ex : x' = x := (nI_eq (by omega) (by omega)).mp (g2.symm.trans e2)
        subst ex
        have a1 := (Rg_sz hh hT f _ _ _ x' la (by omega) rx).2
        have := w7 e
        omega
      · obtain ⟨x', _, _, g2, _, rx⟩ := Gk_8 h4 e
        have ex : x' = x := (nI_eq (by omega) (by omega)).mp (g2.symm.trans e2)
        subst ex
        have a1 := (Rg_sz hh hT f _ _ _ x' la (by omega) rx).2
        have := w8 e
        omega
      · obtain ⟨x', _, _, g2, _, rx⟩ := Gk_9 h4 e
        have ex : x' = x := (nI_eq (by omega) (by omega)).mp (g2.symm.trans e2)
        subst ex
        have a1 := (Rg_sz hh hT f _ _ _ x' la (by omega) rx).2
        have := w9 e
        omega
/-- a READING is a RIGHT tree -/
theorem Rg_rt {E : Nat → Nat} {lt : Nat → Nat → Bool} {L : Nat → Nat → Nat} {lo hi : Nat} {A : Nat → Nat → Int32} (hh : hi ≤ 450) (hT : tbI lo hi A) : ∀ (f i j p n : Nat), lo ≤ n → n < hi → Rg E (mG E (A 6) lt L) L A f i j p n → rtW A f (nI n)
  | 0, _, _, _, _, _, _, h => h.elim
  | f + 1, i, j, p, n, hlo, hn, ⟨c, q, h1, h2, h3, h0, h4⟩ => by
    obtain ⟨hw, _, _⟩ := mG_pos h3
    obtain ⟨hab, w0, w1, w7, w8, w9⟩ := wi_pos hw
    obtain ⟨k, g0, hk, hs, -, -⟩ := rN_val (hT n hlo hn)
    have ek : k = c / 2 := (nI_eq (by omega) (by omega)).mp (g0.symm.trans h0)
    rw [← ek] at h4 hw w0 w7 w8 w9
    rw [rtW_i (by omega)]
    have ro : rtO A n := by
      refine ⟨fun e => ?_, fun e => ?_⟩
      · have e0 : k = 0 := (nI_eq (by omega) (by decide)).mp (g0.symm.trans e)
        have ev := Gk_0v h4 e0
        rw [e0, wi_0 hab] at hw
        split at hw
        · rename_i w
          rw [ev, nI_clamp (by omega)]
          exact w.2.2
        · omega
      · have e9 : k = 9 := (nI_eq (by omega) (by decide)).mp (g0.symm.trans e)
        have ev := Gk_9v h4 e9
        rw [e9, wi_9 hab] at hw
        split at hw
        · rename_i w
          rw [ev, nI_clamp (by omega)]
          exact w.2.1
        · omega
    rcases hs with ⟨k1, e2, e3, es⟩ | ⟨k1, k6, x, y, e2, la, hx, e3, lb, hy, es⟩ | ⟨k1, x, e2, la, hx, e3, es⟩
    · rw [e2, e3]
      exact ⟨ro, rtW_m2 A f, rtW_m2 A f⟩
    · obtain ⟨m, r, x', y', hm, _, _, _, _, _, _, _, g2, g3, rx, ry⟩ := Gk_P h4 k1 k6
      have ex : x' = x := (nI_eq (by omega) (by omega)).mp (g2.symm.trans e2)
      have ey : y' = y := (nI_eq (by omega) (by omega)).mp (g3.symm.trans e3)
      subst ex ey
      rw [e2, e3]
      exact ⟨ro, Rg_rt hh hT f _ _ _ x' la (by omega) rx, Rg_rt hh hT f _ _ _ y' lb (by omega) ry⟩
    · rw [e2, e3]
      refine ⟨ro, ?_, rtW_m2 A f⟩
      rcases (show k = 7 ∨ k = 8 ∨ k = 9 by omega) with e | e | e
      · obtain ⟨x', _, _, g2, _, rx⟩ := Gk_7 h4 e
        have ex : x' = x := (nI_eq (by omega) (by omega)).mp (g2.symm.trans e2)
        subst ex
        exact Rg_rt hh hT f _ _ _ x' la (by omega) rx
      · obtain ⟨x', _, _, g2, _, rx⟩ := Gk_8 h4 e
        have ex : x' = x := (nI_eq (by omega) (by omega)).mp (g2.symm.trans e2)
        subst ex
        exact Rg_rt hh hT f _ _ _ x' la (by omega) rx
      · obtain ⟨x', _, _, g2, _, rx⟩ := Gk_9 h4 e
        have ex : x' = x := (nI_eq (by omega) (by omega)).mp (g2.symm.trans e2)
        subst ex
        exact Rg_rt hh hT f _ _ _ x' la (by omega) rx
/-- an answer: a PLACE, or none -/
def ansR (v : Int64) (b : Nat) (R : Nat → Prop) : Prop := (∃ p, p < b ∧ v = lN p ∧ R p) ∨ (v = Int64.ofInt (-1) ∧ ∀ p, p < b → ¬ R p)
theorem ansR_same {v v' : Int64} {b b' : Nat} {R R' : Nat → Prop} (g : ansR v b R) (g' : ansR v' b' R') (eb : b = b') (h : ∀ p, R p → R' p) (h' : ∀ p, R' p → R p) (u : ∀ p q, R p → R q → p = q) : v = v' := by
  subst eb
  rcases g with ⟨p, hp, e, r⟩ | ⟨e, n⟩ <;> rcases g' with ⟨p', hp', e', r'⟩ | ⟨e', n'⟩
  · rw [e, e', u p p' r (h' p' r')]
  · exact absurd (h p r) (n' p hp)
  · exact absurd (h' p' r') (n p' hp')
  · rw [e, e']
theorem nvN_ge {E : Nat → Nat} : ∀ (c m t : Nat), numAll E c m = true → t * 10 ^ c ≤ nvN E c m t
  | 0, m, t, _ => by show t * 1 ≤ t; omega
  | c + 1, m, t, h => by
    have h' : ((decide (10 ≤ E m) && decide (E m ≤ 19)) && numAll E c (m + 1)) = true := h
    simp only [Bool.and_eq_true, decide_eq_true_eq] at h'
    have ih := nvN_ge c (m + 1) (10 * t + E m - 10) h'.2
    show _ ≤ nvN E c (m + 1) (10 * t + E m - 10)
    refine Nat.le_trans ?_ ih
    rw [Nat.pow_succ, Nat.mul_comm (10 ^ c) 10, ← Nat.mul_assoc]
    exact Nat.mul_le_mul_right _ (by omega)
theorem num_dg {E : Nat → Nat} {a b : Nat} (hab : a < b) (h : isNumB E a b = true) : dgN (nI (nvN E (b - a) a 0)) = b - a := by
  have hn := isNumB_at h
  have hall : numAll E (b - a) a = true := by
    unfold isNumB at h
    simp only [Bool.and_eq_true] at h
    exact h.2
  refine dgN_of (by omega) hn.1 (by have := nvN_lt (b - a) a 0 hall; omega) (hn.2.1.symm.imp id (fun h10 => ?_))
  obtain ⟨c, ec⟩ : ∃ c, b - a = c + 1 := ⟨b - a - 1, by omega⟩
  rw [ec] at hall ⊢
  have h' : ((decide (10 ≤ E a) && decide (E a ≤ 19)) && numAll E c (a + 1)) = true := hall
  simp only [Bool.and_eq_true, decide_eq_true_eq] at h'
  have := nvN_ge c (a + 1) (10 * 0 + E a - 10) h'.2
  show 10 ^ (c + 1 - 1) ≤ nvN E c (a + 1) (10 * 0 + E a - 10)
  refine Nat.le_trans ?_ this
  rw [show c + 1 - 1 = c by omega]
  exact Nat.le_mul_of_pos_left _ (by omega)
theorem wi_le1 {E : Nat → Nat} {G : Nat → Int32} {L : Nat → Nat → Nat} {k a b : Nat} (hk : k < 2) (hab : a < b) (h : 0 < wi E G L k a b) : wi E G L k a b = 1 := by
  rw [keV_c hab L k (Or.inl hk)] at h ⊢
  split at h
  · rename_i e
    rw [if_pos e, if_pos (by omega)]
  · omega
theorem wi_unL {E : Nat → Nat} {G : Nat → Int32} {L : Nat → Nat → Nat} {k a b : Nat} (k7 : 7 ≤ k) (k9 : k < 10) (h : 0 < wi E G L k a b) : wi E G L k a b = L (pfN k a) (ptN k b) := by
  have hab := (wi_un k7 k9 h).1
  rw [keV_c hab L k (Or.inr ⟨k7, k9⟩), if_pos (wi_un k7 k9 h).2.2.2.2.2, if_neg (by omega)]
/-- a cut of a pair that reads both PARTS -/
def cutO (E : Nat → Nat) (L : Nat → Nat → Nat) (R : Nat → Nat → Nat → Nat → Prop) (k a b x y c : Nat) : Prop := a + 1 + c + 1 < b ∧ E (a + 1 + c) = 18 + k ∧ ∃ p q, p < L a (a + 1 + c) ∧ q < L (a + 1 + c + 1) b ∧ R a (a + 1 + c) p x ∧ R (a + 1 + c + 1) b q y
theorem G2_of {E : Nat → Nat} {G : Nat → Int32} {L : Nat → Nat → Nat} {A : Nat → Nat → Int32} {R : Nat → Nat → Nat → Nat → Prop} {k a b n x y c p q : Nat} (hB : BD L a b) (hw : b - a ≤ 20) (k2 : 2 ≤ k) (k6 : k ≤ 6) (hc : a + 1 + c + 1 < b) (hE : E (a + 1 + c) = 18 + k) (hp : p < L a (a + 1 + c)) (hq : q < L (a + 1 + c + 1) b) (hx : x < n) (hy : y < n) (h2 : A 2 n = nI x) (h3 : A 3 n = nI y) (rx : R a (a + 1 + c) p x) (ry : R (a + 1 + c + 1) b q y) : pfS E L k a b c + (p * L (a + 1 + c + 1) b + q) < wi E G L k a b ∧ Gk E L A R k a b (pfS E L k a b c + (p * L (a + 1 + c + 1) b + q)) n := by
  have h0 : 0 < L (a + 1 + c + 1) b := by omega
  have t5 := tm_5 hB hc
  have ht : tmW (L a (a + 1 + c)) (L (a + 1 + c + 1) b) = L a (a + 1 + c) * L (a + 1 + c + 1) b := tmW_eq (Nat.le_trans t5 (pow5_cap1 (by omega)))
  have hr : p * L (a + 1 + c + 1) b + q < tmW (L a (a + 1 + c)) (L (a + 1 + c + 1) b) := by
    rw [ht]
    have : (p + 1) * L (a + 1 + c + 1) b ≤ L a (a + 1 + c) * L (a + 1 + c + 1) b := Nat.mul_le_mul_right _ hp
    rw [Nat.add_mul, Nat.one_mul] at this
    omega
  have d1 : (p * L (a + 1 + c + 1) b + q) / L (a + 1 + c + 1) b = p := by
    rw [Nat.mul_comm, Nat.mul_add_div h0, Nat.div_eq_of_lt hq, Nat.add_zero]
  have d2 : (p * L (a + 1 + c + 1) b + q) % L (a + 1 + c + 1) b = q := by
    rw [Nat.mul_comm, Nat.mul_add_mod, Nat.mod_eq_of_lt hq]
  refine ⟨?_, Or.inr (Or.inr (Or.inr (Or.inr (Or.inr ⟨k2, k6, c, _, x, y, hc, hE, rfl, hr, Nat.zero_le _, hx, Nat.zero_le _, hy, h2, h3, by rw [d1]; exact rx, by rw [d2]; exact ry⟩))))⟩
  rw [wi_pf hB (by omega) hw k2 k6]
  have m1 := pfS_mono (E := E) (L := L) (k := k) (a := a) (b := b) (c + 1) (b - 1 - (a + 1) - (c + 1))
  rw [show c + 1 + (b - 1 - (a + 1) - (c + 1)) = b - 1 - (a + 1) by omega, pfS_at hE] at m1
  omega
theorem G2_no {E : Nat → Nat} {L : Nat → Nat → Nat} {A : Nat → Nat → Int32} {R : Nat → Nat → Nat → Nat → Prop} {k a b n x y : Nat} (hn : n < 450) (k2 : 2 ≤ k) (k6 : k ≤ 6) (hx : x < n) (hy : y < n) (h2 : A 2 n = nI x) (h3 : A 3 n = nI y) (h : ∀ c, ¬ cutO E L R k a b x y c) (q : Nat) : ¬ Gk E L A R k a b q n := fun g => by
  obtain ⟨c, r, x', y', hc, hE, _, hr, _, x2, _, y2, g2, g3, rx, ry⟩ := Gk_P g k2 k6
  have ex : x' = x := (nI_eq (by omega) (by omega)).mp (g2.symm.trans h2)
  have ey : y' = y := (nI_eq (by omega) (by omega)).mp (g3.symm.trans h3)
  subst ex ey
  obtain ⟨g0, g1, g4⟩ := tm_dm hr
  exact h c ⟨hc, hE, _, _, g1, g4, rx, ry⟩
