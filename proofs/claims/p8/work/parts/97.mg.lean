section
/-- the sum of g over a span -/
def sm (g : Nat → Nat) : Nat → Nat → Nat
  | 0, _ => 0
  | c + 1, i => g i + sm g c (i + 1)
theorem sm_add (g : Nat → Nat) : ∀ (a b i : Nat), sm g (a + b) i = sm g a i + sm g b (i + a)
  | 0, b, i => by rw [Nat.zero_add, Nat.add_zero]; exact (Nat.zero_add _).symm
  | a + 1, b, i => by
    rw [show a + 1 + b = (a + b) + 1 by omega]
    show g i + sm g (a + b) (i + 1) = g i + sm g a (i + 1) + sm g b (i + (a + 1))
    rw [sm_add g a b (i + 1), show i + 1 + a = i + (a + 1) by omega]
    omega
def spn (g : Nat → Nat) (i j : Nat) : Nat := sm g (j - i) i
theorem spn_split (g : Nat → Nat) {i m j : Nat} (h1 : i ≤ m) (h2 : m ≤ j) : spn g i j = spn g i m + spn g m j := by
  unfold spn
  rw [show j - i = (m - i) + (j - m) by omega, sm_add, show i + (m - i) = m by omega]
theorem spn_one (g : Nat → Nat) (i : Nat) : spn g i (i + 1) = g i := by
  unfold spn
  rw [show i + 1 - i = 1 by omega]
  rfl
theorem spn_cons (g : Nat → Nat) {i j : Nat} (h : i < j) : spn g i j = g i + spn g (i + 1) j := by
  rw [spn_split g (show i ≤ i + 1 by omega) (show i + 1 ≤ j by omega), spn_one]
theorem spn_snoc (g : Nat → Nat) {i j : Nat} (h : i < j) : spn g i j = spn g i (j - 1) + g (j - 1) := by
  rw [spn_split g (show i ≤ j - 1 by omega) (show j - 1 ≤ j by omega)]
  congr 1
  have := spn_one g (j - 1)
  rwa [show j - 1 + 1 = j by omega] at this
theorem sm_c (g : Nat → Nat) {c : Nat} : ∀ (n i : Nat), (∀ x, i ≤ x → x < i + n → g x = c) → sm g n i = c * n
  | 0, _, _ => rfl
  | n + 1, i, h => by
    show g i + sm g n (i + 1) = c * (n + 1)
    rw [h i (Nat.le_refl _) (by omega), sm_c g n (i + 1) (fun x h1 h2 => h x (by omega) (by omega)), Nat.mul_succ]
    omega
theorem spn_c (g : Nat → Nat) {c i j : Nat} (h : ∀ x, i ≤ x → x < j → g x = c) (hij : i ≤ j) : spn g i j = c * (j - i) := sm_c g _ _ (fun x h1 h2 => h x h1 (by omega))
def gB (E : Nat → Nat) (x : Nat) : Nat := if E x = 29 then 1 else 0
def gC (E : Nat → Nat) (x : Nat) : Nat := if E x = 30 then 1 else 0
def gO (E : Nat → Nat) (x : Nat) : Nat := if E x = 29 ∨ E x = 30 then 0 else 1
theorem g_o {E : Nat → Nat} {x : Nat} (h : E x ≤ 28) : gB E x = 0 ∧ gC E x = 0 ∧ gO E x = 1 := ⟨if_neg (by omega), if_neg (by omega), if_neg (by omega)⟩
theorem g_b {E : Nat → Nat} {x : Nat} (h : E x = 29) : gB E x = 1 ∧ gC E x = 0 ∧ gO E x = 0 := ⟨if_pos h, if_neg (by omega), if_pos (Or.inl h)⟩
theorem g_c {E : Nat → Nat} {x : Nat} (h : E x = 30) : gB E x = 0 ∧ gC E x = 1 ∧ gO E x = 0 := ⟨if_neg (by omega), if_pos h, if_pos (Or.inr h)⟩
/-- a tree's words, begin and end left aside -/
noncomputable def bwW (A : Nat → Nat → Int32) : Nat → Int32 → Nat
  | 0, _ => 0
  | z + 1, x => if x < 0 then 0 else ownW A x.toNatClampNeg + bwW A z (A 2 x.toNatClampNeg) + bwW A z (A 3 x.toNatClampNeg)
theorem bwW_m2 (A : Nat → Nat → Int32) (z : Nat) : bwW A z m2 = 0 := by
  cases z with
  | zero => rfl
  | succ z => exact if_pos (by decide)
theorem bwW_nI {A : Nat → Nat → Int32} {z n : Nat} (hn : n < 450) : bwW A (z + 1) (nI n) = ownW A n + bwW A z (A 2 n) + bwW A z (A 3 n) := by
  show (if nI n < 0 then 0 else _) = _
  rw [if_neg (nI_pos (by omega)), nI_clamp (by omega)]
theorem bwW_alk {A : Nat → Nat → Int32} : ∀ (z f : Nat) (a b : Int32), alk A z a b → bwW A f a = bwW A f b := by
  intro z
  induction z with
  | zero =>
    rintro f a b ⟨rfl, rfl⟩
    rfl
  | succ z ih =>
    intro f a b h
    rcases h with ⟨rfl, rfl⟩ | ⟨i, j, hi, hj, rfl, rfl, e0, e1, e4, p2, p3⟩
    · rfl
    · cases f with
      | zero => rfl
      | succ f =>
        rw [bwW_nI hi, bwW_nI hj, ih f _ _ p2, ih f _ _ p3]
        unfold ownW
        rw [e0, e1]
theorem bal_o {E : Nat → Nat} {i j : Nat} (h : ∀ x, i ≤ x → x < j → E x ≤ 28) (hij : i ≤ j) : spn (gB E) i j = 0 ∧ spn (gC E) i j = 0 ∧ spn (gO E) i j = j - i := by
  refine ⟨?_, ?_, ?_⟩
  · rw [spn_c (gB E) (c := 0) (fun x h1 h2 => (g_o (h x h1 h2)).1) hij, Nat.zero_mul]
  · rw [spn_c (gC E) (c := 0) (fun x h1 h2 => (g_o (h x h1 h2)).2.1) hij, Nat.zero_mul]
  · rw [spn_c (gO E) (c := 1) (fun x h1 h2 => (g_o (h x h1 h2)).2.2) hij, Nat.one_mul]
theorem Rk_7 {E : Nat → Nat} {L : Nat → Nat → Nat} {A : Nat → Nat → Int32} {R : Nat → Nat → Nat → Nat → Prop} {k a b q n : Nat} (h : Rk E L A R k a b q n) (e : k = 7) : ∃ x, 400 ≤ x ∧ x < n ∧ A 2 n = nI x ∧ A 3 n = m2 ∧ R (a + 1) b q x := by
  rcases h with ⟨h, _⟩ | ⟨h, _⟩ | ⟨h, r⟩ | ⟨h, r⟩ | ⟨h, r⟩ | ⟨h, h6, _⟩ <;> first | exact r | omega
theorem Rk_8 {E : Nat → Nat} {L : Nat → Nat → Nat} {A : Nat → Nat → Int32} {R : Nat → Nat → Nat → Nat → Prop} {k a b q n : Nat} (h : Rk E L A R k a b q n) (e : k = 8) : ∃ x, 400 ≤ x ∧ x < n ∧ A 2 n = nI x ∧ A 3 n = m2 ∧ R (a + 1) (b - 1) q x := by
  rcases h with ⟨h, _⟩ | ⟨h, _⟩ | ⟨h, r⟩ | ⟨h, r⟩ | ⟨h, r⟩ | ⟨h, h6, _⟩ <;> first | exact r | omega
theorem Rk_9 {E : Nat → Nat} {L : Nat → Nat → Nat} {A : Nat → Nat → Int32} {R : Nat → Nat → Nat → Nat → Prop} {k a b q n : Nat} (h : Rk E L A R k a b q n) (e : k = 9) : ∃ x, 400 ≤ x ∧ x < n ∧ A 2 n = nI x ∧ A 3 n = m2 ∧ R (a + 2) b q x := by
  rcases h with ⟨h, _⟩ | ⟨h, _⟩ | ⟨h, r⟩ | ⟨h, r⟩ | ⟨h, r⟩ | ⟨h, h6, _⟩ <;> first | exact r | omega
theorem Rk_0 {E : Nat → Nat} {L : Nat → Nat → Nat} {A : Nat → Nat → Int32} {R : Nat → Nat → Nat → Nat → Prop} {k a b q n : Nat} (h : Rk E L A R k a b q n) (e : k < 2) : A 2 n = m2 ∧ A 3 n = m2 ∧ (k = 1 → dgN (A 1 n) = b - a) := by
  rcases h with ⟨h, h2, h3⟩ | ⟨h, h2, h3, h4⟩ | ⟨h, r⟩ | ⟨h, r⟩ | ⟨h, r⟩ | ⟨h, h6, _⟩
  · exact ⟨h2, h3, fun e => absurd e (by omega)⟩
  · exact ⟨h2, h3, fun _ => h4⟩
  · omega
  · omega
  · omega
  · omega
theorem Rk_P {E : Nat → Nat} {L : Nat → Nat → Nat} {A : Nat → Nat → Int32} {R : Nat → Nat → Nat → Nat → Prop} {k a b q n : Nat} (h : Rk E L A R k a b q n) (k2 : 2 ≤ k) (k6 : k ≤ 6) : ∃ c r x y, a + 1 + c + 1 < b ∧ E (a + 1 + c) = 18 + k ∧ q = pfS E L k a b c + r ∧ r < tmW (L a (a + 1 + c)) (L (a + 1 + c + 1) b) ∧ 400 ≤ x ∧ x < n ∧ 400 ≤ y ∧ y < n ∧ A 2 n = nI x ∧ A 3 n = nI y ∧ R a (a + 1 + c) (r / L (a + 1 + c + 1) b) x ∧ R (a + 1 + c + 1) b (r % L (a + 1 + c + 1) b) y := by
  rcases h with ⟨h, _⟩ | ⟨h, _⟩ | ⟨h, _⟩ | ⟨h, _⟩ | ⟨h, _⟩ | ⟨_, _, r⟩
  · omega
  · omega
  · omega
  · omega
  · omega
  · exact r
/-- what wi says of its ends -/
theorem wi_pos {E : Nat → Nat} {G : Nat → Int32} {L : Nat → Nat → Nat} {k a b q : Nat} (h : q < wi E G L k a b) : a < b ∧ (k = 0 → b - a = 1 ∧ E a < 10 ∧ q = 0) ∧ (k = 1 → isNumB E a b = true ∧ q = 0) ∧ (k = 7 → E a = 25 ∧ 1 < b - a) ∧ (k = 8 → E a = 26 ∧ E (b - 1) = 27 ∧ 2 < b - a) ∧ (k = 9 → E a < 10 ∧ 2 < b - a ∧ E (a + 1) = 28) := by
  have hab : a < b := by
    rcases Nat.lt_or_ge a b with e | e
    · exact e
    · rw [wi_n e] at h
      omega
  refine ⟨hab, ?_, ?_, ?_, ?_, ?_⟩
  · rintro rfl
    rw [wi_0 hab] at h
    split at h
    · rename_i e; exact ⟨e.1, e.2.1, by omega⟩
    · omega
  · rintro rfl
    rw [wi_1 hab] at h
    split at h
    · rename_i e; exact ⟨e, by omega⟩
    · omega
  · rintro rfl
    rw [wi_7 hab] at h
    split at h
    · assumption
    · omega
  · rintro rfl
    rw [wi_8 hab] at h
    split at h
    · assumption
    · omega
  · rintro rfl
    rw [wi_9 hab] at h
    split at h
    · rename_i e; exact ⟨e.1, e.2.2.1, e.2.2.2⟩
    · omega
/-- begin and end balance in a READING, and its other words are its tree's -/
theorem Rd_cnt {A0 : Nat → Nat → Int32} {s : Nat} {J : Nat → Nat → Int64} {A : Nat → Nat → Int32} : ∀ (f i j p n : Nat), n < 450 → Rd (eW A0) (mW A0 s (lW J)) (lW J) A f i j p n → spn (gB (eW A0)) i j = spn (gC (eW A0)) i j ∧ spn (gO (eW A0)) i j = bwW A f (nI n) := by
  intro f
  induction f with
  | zero => exact fun i j p n _ h => h.elim
  | succ f ih =>
    rintro i j p n hn ⟨c, q, hc, hp, hq, h0, hk⟩
    obtain ⟨hw, hbr⟩ := mW_pos hq
    generalize ha : i + c % 2 = a at hw hk
    generalize hb : j - c % 2 = b at hw hk
    generalize hk9 : c / 2 = k at hw hk h0
    have hk10 : k < 10 := by omega
    obtain ⟨hab, w0, w1, w7, w8, w9⟩ := wi_pos hw
    have hown := ownW_c k h0
    have core : spn (gB (eW A0)) a b = spn (gC (eW A0)) a b ∧ spn (gO (eW A0)) a b = bwW A (f + 1) (nI n) := by
      rw [bwW_nI hn]
      rcases (show k = 0 ∨ k = 1 ∨ (2 ≤ k ∧ k ≤ 6) ∨ k = 7 ∨ k = 8 ∨ k = 9 by omega) with e | e | ⟨k2, k6⟩ | e | e | e
      · obtain ⟨h2, h3, _⟩ := Rk_0 hk (by clear hown w0 w1 w7 w8 w9; omega)
        obtain ⟨d1, d2, _⟩ := w0 e
        replace hown := hown.1 e
        clear w0 w1 w7 w8 w9
        obtain ⟨b1, b2, b3⟩ := bal_o (E := eW A0) (i := a) (j := b) (fun x h1 h2 => by rw [show x = a by omega]; omega) (by omega)
        rw [h2, h3, bwW_m2, hown]
        omega
      · obtain ⟨h2, h3, h4⟩ := Rk_0 hk (by clear hown w0 w1 w7 w8 w9; omega)
        replace h4 := h4 e
        have hd := isNumB_at (w1 e).1
        replace hown := hown.2.1 e
        clear w0 w1 w7 w8 w9
        obtain ⟨b1, b2, b3⟩ := bal_o (E := eW A0) (i := a) (j := b) (fun x h1 h2 => by have := hd.2.2 x h1 h2; omega) (by omega)
        rw [h2, h3, bwW_m2, hown, h4]
        omega
      · obtain ⟨m, r, x, y, hm, hE, _, _, x1, x2, y1, y2, h2, h3, rx, ry⟩ := Rk_P hk k2 k6
        clear hown w0 w1 w7 w8 w9
        obtain ⟨i1, i2⟩ := ih _ _ _ x (by omega) rx
        obtain ⟨j1, j2⟩ := ih _ _ _ y (by omega) ry
        obtain ⟨g1, g2, g3⟩ := g_o (E := eW A0) (x := a + 1 + m) (by omega)
        rw [h2, h3, ownW_2 k2 k6 h0, spn_split (gB (eW A0)) (show a ≤ a + 1 + m by omega) (show a + 1 + m ≤ b by omega), spn_split (gC (eW A0)) (show a ≤ a + 1 + m by omega) (show a + 1 + m ≤ b by omega), spn_split (gO (eW A0)) (show a ≤ a + 1 + m by omega) (show a + 1 + m ≤ b by omega), spn_cons (gB (eW A0)) (show a + 1 + m < b by omega), spn_cons (gC (eW A0)) (show a + 1 + m < b by omega), spn_cons (gO (eW A0)) (show a + 1 + m < b by omega)]
        omega
      · obtain ⟨x, x1, x2, h2, h3, rx⟩ := Rk_7 hk e
        have w79 := (w7 e).1
        replace hown := hown.2.2.1 e
        clear w0 w1 w7 w8 w9
        obtain ⟨i1, i2⟩ := ih _ _ _ x (by omega) rx
        obtain ⟨g1, g2, g3⟩ := g_o (E := eW A0) (x := a) (by omega)
        rw [h2, h3, bwW_m2, hown, spn_cons (gB (eW A0)) hab, spn_cons (gC (eW A0)) hab, spn_cons (gO (eW A0)) hab]
        omega
      · obtain ⟨x, x1, x2, h2, h3, rx⟩ := Rk_8 hk e
        obtain ⟨e1, e2, e3⟩ := w8 e
        replace hown := hown.2.2.2.1 e
        clear w0 w1 w7 w8 w9
        obtain ⟨i1, i2⟩ := ih _ _ _ x (by omega) rx
        obtain ⟨g1, g2, g3⟩ := g_o (E := eW A0) (x := a) (by omega)
        obtain ⟨g4, g5, g6⟩ := g_o (E := eW A0) (x := b - 1) (by omega)
        rw [h2, h3, bwW_m2, hown, spn_cons (gB (eW A0)) hab, spn_cons (gC (eW A0)) hab, spn_cons (gO (eW A0)) hab, spn_snoc (gB (eW A0)) (show a + 1 < b by omega), spn_snoc (gC (eW A0)) (show a + 1 < b by omega), spn_snoc (gO (eW A0)) (show a + 1 < b by omega)]
        omega
      · obtain ⟨x, x1, x2, h2, h3, rx⟩ := Rk_9 hk e
        obtain ⟨e1, e2, e3⟩ := w9 e
        replace hown := hown.2.2.2.2 e
        clear w0 w1 w7 w8 w9
        obtain ⟨i1, i2⟩ := ih _ _ _ x (by omega) rx
        obtain ⟨g1, g2, g3⟩ := g_o (E := eW A0) (x := a) (by omega)
        obtain ⟨g4, g5, g6⟩ := g_o (E := eW A0) (x := a + 1) (by omega)
        rw [h2, h3, bwW_m2, hown, spn_cons (gB (eW A0)) hab, spn_cons (gC (eW A0)) hab, spn_cons (gO (eW A0)) hab, spn_cons (gB (eW A0)) (show a + 1 < b by omega), spn_cons (gC (eW A0)) (show a + 1 < b by omega), spn_cons (gO (eW A0)) (show a + 1 < b by omega)]
        rw [show a + 1 + 1 = a + 2 by omega]
        omega
    clear hown w0 w1 w7 w8 w9
    rcases (show c % 2 = 0 ∨ c % 2 = 1 by omega) with e | e
    · rw [e] at ha hb
      obtain rfl : i = a := by omega
      obtain rfl : j = b := by omega
      exact core
    · rw [e] at ha hb
      obtain ⟨e1, e2⟩ := hbr.resolve_left (by omega)
      obtain ⟨g1, g2, g3⟩ := g_b e1
      obtain ⟨g4, g5, g6⟩ := g_c e2
      rw [spn_cons (gB (eW A0)) (show i < j by omega), spn_cons (gC (eW A0)) (show i < j by omega), spn_cons (gO (eW A0)) (show i < j by omega), spn_snoc (gB (eW A0)) (show i + 1 < j by omega), spn_snoc (gC (eW A0)) (show i + 1 < j by omega), spn_snoc (gO (eW A0)) (show i + 1 < j by omega), ha, hb]
      rw [hb] at g4 g5 g6
      omega
/-- where one of two equal counts ends at a word, so does the other -/
theorem cut_eq {E : Nat → Nat} {i m m' : Nat} (h1 : i ≤ m) (h2 : i ≤ m') (e : spn (gO E) i m = spn (gO E) i m') (g : E m ≤ 28) (g' : E m' ≤ 28) : m = m' := by
  rcases Nat.lt_trichotomy m m' with h | h | h
  · have := spn_split (gO E) h1 (show m ≤ m' by omega)
    have := spn_cons (gO E) h
    have := (g_o g).2.2
    omega
  · exact h
  · have := spn_split (gO E) h2 (show m' ≤ m by omega)
    have := spn_cons (gO E) h
    have := (g_o g').2.2
    omega
/-- alike trees are the same READING -/
theorem Rd_inj {A0 : Nat → Nat → Int32} {s : Nat} {J : Nat → Nat → Int64} {A : Nat → Nat → Int32} : ∀ (f i j p p' n n' z : Nat), n < 450 → n' < 450 → Rd (eW A0) (mW A0 s (lW J)) (lW J) A f i j p n → Rd (eW A0) (mW A0 s (lW J)) (lW J) A f i j p' n' → alk A z (nI n) (nI n') → p = p' := by
  intro f
  induction f with
  | zero => exact fun i j p p' n n' z _ _ h => h.elim
  | succ f ih =>
    rintro i j p p' n n' z hn hn' ⟨c, q, hc, hp, hq, h0, hk⟩ ⟨c', q', hc', hp', hq', h0', hk'⟩ hal
    cases z with
    | zero => exact absurd hal.1.symm (m2_nI hn)
    | succ z =>
      obtain ⟨a0, a1, a4, al2, al3⟩ := (alk_nn hn hn').mp hal
      have ek : c / 2 = c' / 2 := (nI_eq (by omega) (by omega)).mp (h0.symm.trans (a0.trans h0'))
      obtain ⟨hw, hbr⟩ := mW_pos hq
      obtain ⟨hw', hbr'⟩ := mW_pos hq'
      suffices hs : c % 2 = c' % 2 ∧ q = q' by
        have : c = c' := by omega
        subst this
        omega
      rw [← ek] at hw' hk'
      generalize hk9 : c / 2 = k at hw hk hw' hk'
      have hk10 : k < 10 := by omega
      obtain ⟨hab, w0, w1, w7, w8, w9⟩ := wi_pos hw
      obtain ⟨hab', w0', w1', w7', w8', w9'⟩ := wi_pos hw'
      have par : ¬ (2 ≤ k ∧ k ≤ 6) → c % 2 = c' % 2 := by
        intro hnp
        have e1 : c % 2 = 0 → eW A0 i ≠ 29 := fun e => by
          rw [e] at w0 w1 w7 w8 w9
          rcases (show k = 0 ∨ k = 1 ∨ k = 7 ∨ k = 8 ∨ k = 9 by omega) with h | h | h | h | h
          · have := (w0 h).2.1; rw [Nat.add_zero] at this; omega
          · rw [e] at hab
            have := (isNumB_at (w1 h).1).2.2 (i + 0) (Nat.le_refl _) hab; rw [Nat.add_zero] at this; omega
          · have := (w7 h).1; rw [Nat.add_zero] at this; omega
          · have := (w8 h).1; rw [Nat.add_zero] at this; omega
          · have := (w9 h).1; rw [Nat.add_zero] at this; omega
        have e2 : c' % 2 = 0 → eW A0 i ≠ 29 := fun e => by
          rw [e] at w0' w1' w7' w8' w9'
          rcases (show k = 0 ∨ k = 1 ∨ k = 7 ∨ k = 8 ∨ k = 9 by omega) with h | h | h | h | h
          · have := (w0' h).2.1; rw [Nat.add_zero] at this; omega
          · rw [e] at hab'
            have := (isNumB_at (w1' h).1).2.2 (i + 0) (Nat.le_refl _) hab'; rw [Nat.add_zero] at this; omega
          · have := (w7' h).1; rw [Nat.add_zero] at this; omega
          · have := (w8' h).1; rw [Nat.add_zero] at this; omega
          · have := (w9' h).1; rw [Nat.add_zero] at this; omega
        rcases (show c % 2 = 0 ∨ c % 2 = 1 by omega) with h | h <;> rcases (show c' % 2 = 0 ∨ c' % 2 = 1 by omega) with h' | h'
        · omega
        · exact absurd (hbr'.resolve_left (by omega)).1 (e1 h)
        · exact absurd (hbr.resolve_left (by omega)).1 (e2 h')
        · omega
      rcases (show k = 0 ∨ k = 1 ∨ (2 ≤ k ∧ k ≤ 6) ∨ k = 7 ∨ k = 8 ∨ k = 9 by omega) with e | e | ⟨k2, k6⟩ | e | e | e
      · exact ⟨par (by omega), by have := (w0 e).2.2; have := (w0' e).2.2; omega⟩
      · exact ⟨par (by omega), by have := (w1 e).2; have := (w1' e).2; omega⟩
      · obtain ⟨m, r, x, y, hm, hE, hqr, hr, x1, x2, y1, y2, h2, h3, rx, ry⟩ := Rk_P hk k2 k6
        obtain ⟨m', r', x', y', hm', hE', hqr', hr', x1', x2', y1', y2', h2', h3', rx', ry'⟩ := Rk_P hk' k2 k6
        rw [h2, h2'] at al2
        rw [h3, h3'] at al3
        obtain ⟨i1, i2⟩ := Rd_cnt f _ _ _ x (by omega) rx
        obtain ⟨i1', i2'⟩ := Rd_cnt f _ _ _ x' (by omega) rx'
        have eb := bwW_alk z f _ _ al2
        have pe : c % 2 = c' % 2 := by
          rcases (show c % 2 = 0 ∨ c % 2 = 1 by omega) with h | h <;> rcases (show c' % 2 = 0 ∨ c' % 2 = 1 by omega) with h' | h'
          · omega
          · exfalso
            rw [h] at i1 i2 hE
            rw [h'] at i1' i2' hE'
            rw [Nat.add_zero] at i1 i2 hE
            obtain ⟨g1, g2, g3⟩ := g_b (hbr'.resolve_left (by omega)).1
            have s1 := spn_cons (gO (eW A0)) (show i < i + 1 + 1 + m' by omega)
            have s2 := spn_cons (gB (eW A0)) (show i < i + 1 + 1 + m' by omega)
            have s3 := spn_cons (gC (eW A0)) (show i < i + 1 + 1 + m' by omega)
            have em := cut_eq (E := eW A0) (i := i) (m := i + 1 + m) (m' := i + 1 + 1 + m') (by omega) (by omega) (by omega) (by omega) (by omega)
            rw [em] at i1
            omega
          · exfalso
            rw [h] at i1 i2 hE
            rw [h'] at i1' i2' hE'
            rw [Nat.add_zero] at i1' i2' hE'
            obtain ⟨g1, g2, g3⟩ := g_b (hbr.resolve_left (by omega)).1
            have s1 := spn_cons (gO (eW A0)) (show i < i + 1 + 1 + m by omega)
            have s2 := spn_cons (gB (eW A0)) (show i < i + 1 + 1 + m by omega)
            have s3 := spn_cons (gC (eW A0)) (show i < i + 1 + 1 + m by omega)
            have em := cut_eq (E := eW A0) (i := i) (m := i + 1 + m') (m' := i + 1 + 1 + m) (by omega) (by omega) (by omega) (by omega) (by omega)
            rw [em] at i1'
            omega
          · omega
        refine ⟨pe, ?_⟩
        rw [← pe] at rx' ry' hE' hm' hqr' hr' i2'
        have em := cut_eq (E := eW A0) (i := i + c % 2) (m := i + c % 2 + 1 + m) (m' := i + c % 2 + 1 + m') (by omega) (by omega) (by omega) (by omega) (by omega)
        obtain rfl : m = m' := by omega
        have f1 := ih _ _ _ _ x x' z (by omega) (by omega) rx rx' al2
        have f2 := ih _ _ _ _ y y' z (by omega) (by omega) ry ry' al3
        have d1 := Nat.div_add_mod r (lW J (i + c % 2 + 1 + m + 1) (j - c % 2))
        have d2 := Nat.div_add_mod r' (lW J (i + c % 2 + 1 + m + 1) (j - c % 2))
        rw [f1, f2] at d1
        omega
      · have pe := par (by omega)
        rw [← pe] at hk'
        obtain ⟨x, x1, x2, h2, h3, rx⟩ := Rk_7 hk e
        obtain ⟨x', x1', x2', h2', h3', rx'⟩ := Rk_7 hk' e
        rw [h2, h2'] at al2
        exact ⟨pe, ih _ _ _ _ x x' z (by omega) (by omega) rx rx' al2⟩
      · have pe := par (by omega)
        rw [← pe] at hk'
        obtain ⟨x, x1, x2, h2, h3, rx⟩ := Rk_8 hk e
        obtain ⟨x', x1', x2', h2', h3', rx'⟩ := Rk_8 hk' e
        rw [h2, h2'] at al2
        exact ⟨pe, ih _ _ _ _ x x' z (by omega) (by omega) rx rx' al2⟩
      · have pe := par (by omega)
        rw [← pe] at hk'
        obtain ⟨x, x1, x2, h2, h3, rx⟩ := Rk_9 hk e
        obtain ⟨x', x1', x2', h2', h3', rx'⟩ := Rk_9 hk' e
        rw [h2, h2'] at al2
        exact ⟨pe, ih _ _ _ _ x x' z (by omega) (by omega) rx rx' al2⟩
/-- the tables are what they are -/
theorem okJ_u {h : Nat} {A : Nat → Nat → Int32} {s : Nat} {J J' : Nat → Nat → Int64} (hJ : okJ h A s J) (hJ' : okJ h A s J') : ∀ (d i j : Nat), i < j → j ≤ h → j - i ≤ d → lW J i j = lW J' i j := by
  intro d
  induction d with
  | zero => exact fun i j h1 _ h3 => absurd h3 (by omega)
  | succ d ih =>
    intro i j h1 h2 h3
    rw [(okS_l (hJ i j h1 h2)).1, (okS_l (hJ' i j h1 h2)).1]
    exact csW_cg 20 (fun c _ => mW_cg (fun a b a1 a2 a3 a4 => ih a b a2 (by omega) (by omega)))
theorem ctW_u {h : Nat} {A : Nat → Nat → Int32} {s : Nat} {J J' : Nat → Nat → Int64} (hJ : okJ h A s J) (hJ' : okJ h A s J') : ctW h J = ctW h J' := by
  unfold ctW
  split
  · rfl
  · exact okJ_u hJ hJ' h 0 h (by omega) (Nat.le_refl _) (by omega)
end
section
theorem alk_sz {lo hi : Nat} {A : Nat → Nat → Int32} (hh : hi ≤ 450) {z a b : Nat} (ha : a < hi) (hb : b < hi) (h : alk A z (nI a) (nI b)) : szN A a = szN A b := by
  cases z with
  | zero => exact absurd h.1.symm (m2_nI (by omega))
  | succ z =>
    have := ((alk_nn (show a < 450 by omega) (show b < 450 by omega)).mp h).2.2.1
    unfold szN
    rw [this]
/-- two unlike NODES of one KIND and v: the first PARTS are unlike, or the second ones -/
theorem dn_un {lo hi : Nat} {A : Nat → Nat → Int32} (hh : hi ≤ 450) (hT : tbI lo hi A) {z n m : Nat} (hlo : lo ≤ n) (hn : n < hi) (hlo2 : lo ≤ m) (hm : m < hi) (hz : szN A n ≤ z + 1) (hu : ¬ alk A (z + 1) (nI n) (nI m)) (e0 : A 0 n = A 0 m) (e1 : A 1 n = A 1 m) : (¬ alk A z (A 2 n) (A 2 m) → ∃ a b : Nat, A 2 n = nI a ∧ A 2 m = nI b ∧ lo ≤ a ∧ a < hi ∧ lo ≤ b ∧ b < hi ∧ szN A a ≤ z ∧ ¬ alk A z (nI a) (nI b)) ∧ (alk A z (A 2 n) (A 2 m) → ∃ a b : Nat, A 3 n = nI a ∧ A 3 m = nI b ∧ lo ≤ a ∧ a < hi ∧ lo ≤ b ∧ b < hi ∧ szN A a ≤ z ∧ ¬ alk A z (nI a) (nI b)) := by
  obtain ⟨s2, s3⟩ := rN_same (hT n hlo hn) (hT m hlo2 hm) e0
  constructor
  · intro h
    rcases s2 with ⟨p, q⟩ | ⟨a, b, p, q, la, ha, lb, hb, hs⟩
    · rw [p, q] at h
      exact absurd (alk_mm A z) h
    · rw [p, q] at h
      exact ⟨a, b, p, q, la, by omega, lb, by omega, by omega, h⟩
  · intro h
    have h3 : ¬ alk A z (A 3 n) (A 3 m) := by
      intro h3
      refine hu ((alk_nn (by omega) (by omega)).mpr ⟨e0, e1, ?_, h, h3⟩)
      have hs : szN A n = szN A m := by
        have v1 := rN_sum (hT n hlo hn)
        have v2 := rN_sum (hT m hlo2 hm)
        rcases v1 with ⟨a1, a2, a3⟩ | ⟨x, a1, a2, lx, hx, a3⟩ | ⟨x, y, a1, a2, lx, hx, ly, hy, a3⟩ <;> rcases v2 with ⟨b1, b2, b3⟩ | ⟨x', b1, b2, lx', hx', b3⟩ | ⟨x', y', b1, b2, lx', hx', ly', hy', b3⟩
        · omega
        · rw [a1, b1] at h
          exact absurd h (alk_mn A z (by omega))
        · rw [a1, b1] at h
          exact absurd h (alk_mn A z (by omega))
        · rw [a1, b1] at h
          exact absurd h (alk_nm A z (by omega))
        · rw [a1, b1] at h
          have := alk_sz (lo := lo) hh (by omega) (by omega) h
          omega
        · rw [a2, b2] at h3
          exact absurd h3 (alk_mn A z (by omega))
        · rw [a1, b1] at h
          exact absurd h (alk_nm A z (by omega))
        · rw [a2, b2] at h3
          exact absurd h3 (alk_nm A z (by omega))
        · rw [a1, b1] at h
          rw [a2, b2] at h3
          have := alk_sz (lo := lo) hh (by omega) (by omega) h
          have := alk_sz (lo := lo) hh (by omega) (by omega) h3
          omega
      rw [(rN_sz (hT n hlo hn)).2.2, (rN_sz (hT m hlo2 hm)).2.2, hs]
    rcases s3 with ⟨p, q⟩ | ⟨a, b, p, q, la, ha, lb, hb, hs⟩
    · rw [p, q] at h3
      exact absurd (alk_mm A z) h3
    · rw [p, q] at h3
      exact ⟨a, b, p, q, la, by omega, lb, by omega, by omega, h3⟩
set_option maxHeartbeats 1000000 in
set_option maxRecDepth 20000 in
theorem dbtL (f : Nat → zC) (o : Nat → Int32) (A : Nat → Nat → Int32) (J : Nat → Nat → Int64) {lo hi : Nat} (hh : hi ≤ 450) (hT : tbI lo hi A) {x : Int32} {z1 z2 : Int64} {n0 : Nat} {Q : Option Value → zW → Prop} (hQ : ∀ v : Int32, Q (some (.int v)) (wR f o A J)) : ∀ (z n m : Nat), z ≤ 50 → lo ≤ n → n < hi → lo ≤ m → m < hi → szN A n ≤ z → ¬ alk A z (nI n) (nI m) → ∀ {st t : Int32}, zV (zMo 60 zX7_doubt) false n0 0 0 107 [(9, .int st), (8, .int t), (7, .int (nI m)), (6, .int (nI n)), (0, .ref 76), (1, .int x), (2, .long z1), (4, .long z2)] [] (wR f o A J) Q := by
  intro z
  induction z with
  | zero =>
    intro n m _ hlo hn _ _ hz
    have := (rN_sz (hT n hlo hn)).1
    omega
  | succ z ih0 =>
    intro n m hz50 hlo hn hlo2 hm hz hu st t
    have ih := fun n m => ih0 n m (by omega)
    iterate 3 (refine zv_step (bX7_doubt 60) rfl rfl trivial ?_)
    refine zv_iale (bX7_doubt 60) rfl rfl (vp_in_nI (by omega) (by decide)) (show A 0 (nI n).toNatClampNeg = A 0 n by rw [nI_clamp (by omega)]) ?_
    iterate 3 (refine zv_step (bX7_doubt 60) rfl rfl trivial ?_)
    refine zv_iale (bX7_doubt 60) rfl rfl (vp_in_nI (by omega) (by decide)) (show A 0 (nI m).toNatClampNeg = A 0 m by rw [nI_clamp (by omega)]) ?_
    iterate 1 (refine zv_step (bX7_doubt 60) rfl rfl trivial ?_)
    refine zv_ifb (fun h121 => ?_) (fun h121 => ?_)
    · iterate 1 (refine zv_step (bX7_doubt 60) rfl rfl trivial ?_)
      exact zv_iret (bX7_doubt 60) rfl (Or.inl rfl) (Nat.zero_le _) (Nat.zero_le _) (hQ _)
    · iterate 3 (refine zv_step (bX7_doubt 60) rfl rfl trivial ?_)
      refine zv_iale (bX7_doubt 60) rfl rfl (vp_in_nI (by omega) (by decide)) (show A 1 (nI n).toNatClampNeg = A 1 n by rw [nI_clamp (by omega)]) ?_
      iterate 3 (refine zv_step (bX7_doubt 60) rfl rfl trivial ?_)
      refine zv_iale (bX7_doubt 60) rfl rfl (vp_in_nI (by omega) (by decide)) (show A 1 (nI m).toNatClampNeg = A 1 m by rw [nI_clamp (by omega)]) ?_
      iterate 1 (refine zv_step (bX7_doubt 60) rfl rfl trivial ?_)
      refine zv_ifb (fun h138 => ?_) (fun h138 => ?_)
      · iterate 1 (refine zv_step (bX7_doubt 60) rfl rfl trivial ?_)
        exact zv_iret (bX7_doubt 60) rfl (Or.inl rfl) (Nat.zero_le _) (Nat.zero_le _) (hQ _)
      · obtain ⟨d1, d2⟩ := dn_un hh hT hlo hn hlo2 hm hz hu (Decidable.not_not.mp h121) (Decidable.not_not.mp h138)
        obtain ⟨hp2, hp3⟩ := rN_parts hT hlo hn hz
        obtain ⟨hq2, hq3⟩ := rN_parts (z := 40) hT hlo2 hm (by have := (rN_sz (hT m hlo2 hm)).2.1; omega)
        iterate 4 (refine zv_step (bX7_doubt 60) rfl rfl trivial ?_)
        refine zv_iale (bX7_doubt 60) rfl rfl (vp_in_nI (by omega) (by decide)) (show A 2 (nI n).toNatClampNeg = A 2 n by rw [nI_clamp (by omega)]) ?_
        iterate 3 (refine zv_step (bX7_doubt 60) rfl rfl trivial ?_)
        refine zv_iale (bX7_doubt 60) rfl rfl (vp_in_nI (by omega) (by decide)) (show A 2 (nI m).toNatClampNeg = A 2 m by rw [nI_clamp (by omega)]) ?_
        refine zv_V2 (bX7_doubt 60) rfl rfl rfl rfl rfl rfl rfl ⟨rfl, rfl, rfl⟩ ⟨by show z + 1 + 1 ≤ 60; omega, by show 8 + (3 + 11) + 64 * (z + 1) ≤ 64 * (60); omega⟩ ⟨Nat.zero_le _, Nat.zero_le _⟩ (mAlike f o A J hh hT z _ _ hp2 hq2) ?_
        rintro _ _ ⟨rfl, ⟨g1, rfl⟩ | ⟨g1, rfl⟩⟩
        · obtain ⟨a, b, ea, eb, la, ha, lb, hb, hsa, hab⟩ := d2 g1
          iterate 1 (refine zv_step (bX7_doubt 60) rfl rfl trivial ?_)
          refine zv_ift (by decide) ?_
          iterate 5 (refine zv_step (bX7_doubt 60) rfl rfl trivial ?_)
          refine zv_ift (by decide) ?_
          iterate 11 (refine zv_step (bX7_doubt 60) rfl rfl trivial ?_)
          refine zv_ift (by decide) ?_
          iterate 3 (refine zv_step (bX7_doubt 60) rfl rfl trivial ?_)
          refine zv_iale (bX7_doubt 60) rfl rfl (vp_in_nI (by omega) (by decide)) (show A 3 (nI n).toNatClampNeg = nI a by rw [nI_clamp (by omega)]; exact ea) ?_
          iterate 3 (refine zv_step (bX7_doubt 60) rfl rfl trivial ?_)
          refine zv_ift (by decide) ?_
          iterate 3 (refine zv_step (bX7_doubt 60) rfl rfl trivial ?_)
          refine zv_iale (bX7_doubt 60) rfl rfl (vp_in_nI (by omega) (by decide)) (show A 3 (nI m).toNatClampNeg = nI b by rw [nI_clamp (by omega)]; exact eb) ?_
          iterate 2 (refine zv_step (bX7_doubt 60) rfl rfl trivial ?_)
          refine zv_locals (l := [(7, .int (nI b)), (6, .int (nI a)), (9, .int (st * Int32.ofInt 3)), (8, .int (t + Int32.ofInt 2 * st)), (10, .int (Int32.ofInt 0)), (0, .ref 76), (1, .int x), (2, .long z1), (4, .long z2)]) (l' := [(9, .int (st * Int32.ofInt 3)), (8, .int (t + Int32.ofInt 2 * st)), (7, .int (nI b)), (6, .int (nI a)), (0, .ref 76), (1, .int x), (2, .long z1), (4, .long z2)]) ?_ (ih a b la ha lb hb hsa hab)
          simp
        · obtain ⟨a, b, ea, eb, la, ha, lb, hb, hsa, hab⟩ := d1 g1
          iterate 1 (refine zv_step (bX7_doubt 60) rfl rfl trivial ?_)
          refine zv_iff (by decide) ?_
          iterate 6 (refine zv_step (bX7_doubt 60) rfl rfl trivial ?_)
          refine zv_iff (by decide) ?_
          iterate 10 (refine zv_step (bX7_doubt 60) rfl rfl trivial ?_)
          refine zv_iff (by decide) ?_
          iterate 3 (refine zv_step (bX7_doubt 60) rfl rfl trivial ?_)
          refine zv_iale (bX7_doubt 60) rfl rfl (vp_in_nI (by omega) (by decide)) (show A 2 (nI n).toNatClampNeg = nI a by rw [nI_clamp (by omega)]; exact ea) ?_
          iterate 4 (refine zv_step (bX7_doubt 60) rfl rfl trivial ?_)
          refine zv_iff (by decide) ?_
          iterate 3 (refine zv_step (bX7_doubt 60) rfl rfl trivial ?_)
          refine zv_iale (bX7_doubt 60) rfl rfl (vp_in_nI (by omega) (by decide)) (show A 2 (nI m).toNatClampNeg = nI b by rw [nI_clamp (by omega)]; exact eb) ?_
          iterate 3 (refine zv_step (bX7_doubt 60) rfl rfl trivial ?_)
          refine zv_locals (l := [(7, .int (nI b)), (6, .int (nI a)), (9, .int (st * Int32.ofInt 3)), (8, .int (t + st)), (10, .int (Int32.ofInt 1)), (0, .ref 76), (1, .int x), (2, .long z1), (4, .long z2)]) (l' := [(9, .int (st * Int32.ofInt 3)), (8, .int (t + st)), (7, .int (nI b)), (6, .int (nI a)), (0, .ref 76), (1, .int x), (2, .long z1), (4, .long z2)]) ?_ (ih a b la ha lb hb hsa hab)
          simp
end
section
/-- fewest under way: the ear and what is said may have changed; the ear of before lies in row 15 -/
def fS (o0 : Nat → Int32) (A0 : Nat → Nat → Int32) (bf : Nat) (o : Nat → Int32) (A : Nat → Nat → Int32) : Prop := (∀ j, j ≠ 10 → ¬ (18 ≤ j ∧ j ≤ 21) → j ≠ 28 → o j = o0 j) ∧ (∀ r, r ≠ 8 → r ≠ 14 → r ≠ 15 → A r = A0 r) ∧ nnW bf (A 15) ∧ ∃ h : Nat, h ≤ 20 ∧ o 10 = nI h ∧ nnW h (A 8)
theorem fS_T {o0 o : Nat → Int32} {A0 A : Nat → Nat → Int32} {bf u : Nat} (h : fS o0 A0 bf o A) (hT : tbI 0 u A0) : tbI 0 u A := tbI_fr hT (fun r hr i _ _ => by rw [h.2.1 r (by omega) (by omega) (by omega)])
/-- what fewest changes -/
def fwX (o : Nat → Int32) (A : Nat → Nat → Int32) (o' : Nat → Int32) (A' : Nat → Nat → Int32) : Prop := (∃ h : Nat, h ≤ 20 ∧ o' 10 = nI h ∧ nnW h (A' 8)) ∧ (∀ j, j ≠ 10 → ¬ (18 ≤ j ∧ j ≤ 21) → j ≠ 28 → o' j = o j) ∧ (∀ r, r ≠ 8 → r ≠ 14 → r ≠ 15 → A' r = A r)
theorem fwX_S {o0 o : Nat → Int32} {A0 A : Nat → Nat → Int32} {bf : Nat} (h : fS o0 A0 bf o A) : fwX o0 A0 o A := ⟨h.2.2.2, h.1, h.2.1⟩
end
section
/-! methods that throw, and helpers that catch -/
theorem zTh.warm {A : Nat → Prop} {U V : State} {H : Heap} (hW : U.WarmedH V.vm) (h : zTh A U H) : zTh A V H := by
  obtain ⟨h1, h2, ⟨a1, h3⟩, ⟨a2, h4⟩, ⟨a3, h5⟩, ⟨a4, h6⟩, ⟨a5, h7⟩, h8, h9, h10⟩ := h
  exact ⟨vx_Zq.moved hW.alike h1, vx_Zq.moved hW.alike h2, ⟨a1, vk_R.warm hW h3⟩, ⟨a2, vk_R.warm hW h4⟩, ⟨a3, vk_R.warm hW h5⟩, ⟨a4, vk_R.warm hW h6⟩, ⟨a5, vk_R.warm hW h7⟩, va_Nw.warmC hW h8, va_Nw.warmC hW h9, va_Nc.moved hW.alike h10⟩
theorem zTh.kept {A : Nat → Prop} {U : State} {H H1 : Heap} (h : zTh A U H) (hq : ∀ a : Nat, a < H.size → ¬ A a → H1[a]? = H[a]?) : zTh A U H1 := ⟨h.1.kept hq, h.2.1.kept hq, h.2.2⟩
theorem zTh.narrow {A B : Nat → Prop} {U : State} {H : Heap} (h : zTh A U H) (hAB : ∀ q, B q → A q) : zTh B U H := ⟨h.1.narrow hAB, h.2.1.narrow hAB, h.2.2⟩
/-- that the constructors of the exceptions' upper classes are declared there -/
def zds : List Cond := [.declares (Bundle.initS "java/lang/RuntimeException"), .declares (Bundle.initS "java/lang/Exception"), .declares (Bundle.initS "java/lang/Throwable")]
theorem zdecl {args : Array Value} {s : State} {x : MethodName} {bytes : ByteArray} {n : Nat} {ret : Option FieldType} (h1 : (Cond.instanceMethod x).before args s = true) (h2 : (Cond.code x bytes n ret).before args s = true) : (Cond.declares x).before args s = true := by
  obtain ⟨m, meth, hn, hm, hst, -⟩ := Cond.instanceMethod_spec h1
  obtain ⟨meth', c, k1, -, -, -, -, -, -, hsig⟩ := Cond.code_spec hn h2
  cases Option.some.inj (k1.symm.trans hm)
  show (Cond.declares x).holds args s none s [] = true
  simp only [Cond.holds, Cond.value, hn, Option.bind_some, hm, Option.map_some, hst, hsig]
  decide
set_option maxRecDepth 100000 in
theorem zds_ok {args : Array Value} {s : State} (hts : ∀ w ∈ zG, w.before args s = true) : ∀ x ∈ zds, x.before args s = true := by
  intro x hx
  unfold zds at hx
  simp only [List.mem_cons, List.not_mem_nil, or_false] at hx
  rcases hx with rfl | rfl | rfl
  · exact zdecl (hts _ (zmemT 731 rfl rfl)) (hts _ (zmemT 732 (x := .code (Bundle.initS "java/lang/RuntimeException") prog_15_method_2_code 2 none) rfl rfl))
  · exact zdecl (hts _ (zmemT 734 rfl rfl)) (hts _ (zmemT 735 (x := .code (Bundle.initS "java/lang/Exception") prog_10_method_2_code 2 none) rfl rfl))
  · exact zdecl (hts _ (zmemT 737 rfl rfl)) (hts _ (zmemT 738 (x := .code (Bundle.initS "java/lang/Throwable") prog_18_method_2_code 2 none) rfl rfl))
def zrx (d : Nat) : Room := { frames := d, cells := 1, slots := 6, locals := 64 * d }
def zXC (dC : Nat → ClassId) (dI : Nat → Nat → Nat) (dA : Nat → ClassId) (ad : Nat → Nat) (A : Nat → Prop) (X : String → zW → Prop) : String → State → State → Prop := fun E st t =>
  (∃ w' : zW, X E w' ∧ va_P (dC, dI) vwCl (zw dA ad w') t.heap ∧ zKx dC dI dA t ∧ va_D A (zw dA ad w')) ∧ va_F A st t
def zAx (X : String → zW → Prop) (Q : Option Value → zW → Prop) (n1 : Nat) (_ : Program) (_ : Launch) (_ : Env) (s : State) (_ : MethodId) (args : Array Value) (below : List Frame) (meth : Method) (c : Code) (dC : Nat → ClassId) (dI : Nat → Nat → Nat) (dA : Nat → ClassId) (ad0 : Nat → Nat) (A : Nat → Prop) (Z : State → Prop) : Prop :=
  Z = vx_MQ below (zQc dC dI dA ad0 A n1 false Q) (zXC dC dI dA ad0 A X) args s 1 6 A ∧ zTh A s s.heap ∧ meth.locks = false ∧ ∀ x ∈ c.exceptionTable.toList, False
abbrev zMx (d : Nat) (z : zMt) (X : String → zW → Prop) (Q : Option Value → zW → Prop) (n1 : Nat) : zM := (z.1.cls, z.2.1, z.2.2.1, false, zrx d, z.2.2.2.1, zAx X Q n1)
def zPt (dC : Nat → ClassId) (dI : Nat → Nat → Nat) (dA : Nat → ClassId) (ad : Nat → Nat) (as : List Value) (w : zW) (sz : Nat) : Array Value → State → Prop := va_Pc (as.map (zv ad)) (fun U => U.heap.size = sz ∧ va_P (dC, dI) vwCl (zw dA ad w) U.heap ∧ zKx dC dI dA U ∧ va_D (fun _ => True) (zw dA ad w) ∧ zTh (va_A (zw dA ad w) sz) U U.heap)
theorem zblindT (dC : Nat → ClassId) (dI : Nat → Nat → Nat) (dA : Nat → ClassId) (ad : Nat → Nat) (as : List Value) (w : zW) (sz : Nat) : FrameBlind (zPt dC dI dA ad as w sz) := fun a U g mk q => by
  obtain ⟨q0, q1, qP, qK, qD, qT⟩ := q
  exact ⟨q0, q1, qP, zKx.moved (u := U) (U := U.calling g mk a) (Vm.Alike.refl U.vm) qK, qD, zTh.warm (U := U) (V := U.calling g mk a) (State.WarmedH.refl U) qT⟩
/-- a contract of a method that returns (Q) or throws (X) -/
def zKt (d : Nat) (z : zMt) (as : List Value) (w : zW) (Q : Option Value → zW → Prop) (X : String → zW → Prop) : Prop :=
  ∀ (l0 : Launch), l0.stackTraces = false → ∀ (dC : Nat → ClassId) (dI : Nat → Nat → Nat) (dA : Nat → ClassId) (ad : Nat → Nat) (sz : Nat), vx_Met l0 z.1 (zws z) (zrx d) (zPt dC dI dA ad as w sz) (zQc dC dI dA ad (va_A (zw dA ad w) sz) w.length false Q) (zXC dC dI dA ad (va_A (zw dA ad w) sz) X) 1 6 (va_A (zw dA ad w) sz)
set_option maxHeartbeats 1000000 in
theorem zKt_of {d : Nat} {z : zMt} {as : List Value} {w : zW} {Q : Option Value → zW → Prop} {X : String → zW → Prop} (hy : plainName z.1.cls = true) (hn : Nat.ble (lg_sl as).length z.2.2.1 = true) (h : zV (zMx d z X Q w.length) false w.length 0 0 0 (lv_args 0 as) [] w Q) : zKt d z as w Q X := by
  intro l0 h9t dC dI dA ad sz
  refine vx_ofW (cc := z.2.1) (maxL := z.2.2.1) (ret := z.2.2.2.1) hy rfl ?_
  intro p e s m args below meth c s₁ B hml htab hv
  obtain ⟨rfl, hsz, hP, hK, hD0, hTh⟩ := hv
  have hts := atoms_spec (ws := zws z) B.pre
  have hown : s.vm.findClass z.1.cls = some m.cls := findClass_of_methodNamed B.named
  subst hsz
  have hD := hD0.self (sz := s.heap.size)
  have hA : ∀ q : Nat, s.heap.size ≤ q → va_A (zw dA ad w) s.heap.size q := fun q h => Or.inr h
  have hl := lv_entry (as.map (zv ad)) (n := z.2.2.1) (by rw [zsl]; exact Nat.le_of_ble_eq_true hn)
  rw [lg_entry_eq]
  generalize (lg_sl (as.map (zv ad)) ++ List.replicate (z.2.2.1 - (lg_sl (as.map (zv ad))).length) Slot.unset).toArray = ls at hl ⊢
  rw [zargs] at hl
  have hlk : meth.locks = false := B.notSynchronized
  have hr := B.returns
  refine h p l0 e s m (as.map (zv ad)).toArray below meth c dC dI dA ad (va_A (zw dA ad w) s.heap.size) (vx_MQ below (zQc dC dI dA ad (va_A (zw dA ad w) s.heap.size) w.length false Q) (zXC dC dI dA ad (va_A (zw dA ad w) s.heap.size) X) (as.map (zv ad)).toArray s 1 6 (va_A (zw dA ad w) s.heap.size)) h9t ⟨B.exec, B.bytes, hml, hown, fun x hx => hts x (List.mem_cons_of_mem _ hx), hK, hA, (fun hi => by cases hi), rfl, hTh, hlk, htab⟩ ?_ ad s.heap [] ls ⟨fun _ => rfl, fun _ _ => rfl, hP, hD, va_S.rf⟩ hl
  intro ad' H locs kc ks pc ls' v w' hrel hqq hkc hks hrt
  refine W.widen (k := 1) (n := 6) hkc hks ?_
  refine vx_ret ?_
  have fin : ∀ t : State, t.heap = H → s.WarmedH t.vm → zQc dC dI dA ad (va_A (zw dA ad w) s.heap.size) w.length false Q (as.map (zv ad)).toArray s (.returned (v.map (zv ad'))) t := fun t ht hW =>
    ⟨⟨v, w', ad', rfl, hqq, hrel.1, hrel.2.1, by rw [ht]; exact hrel.2.2.1, zKx.moved hW.alike hK, hrel.2.2.2.1⟩, hrel.2.2.2.2.F ht⟩
  match v, hrt, fin with
  | none, hrt, fin => exact W.vret B.exec B.bytes (hr.trans hrt.1) fin hrel.2.2.2.2.2.2 hrt.2 hlk
  | some (.int x), hrt, fin =>
    rcases hrt with ⟨h1 | ⟨h1, h2⟩, h3⟩
    · exact W.iret B.exec B.bytes (hr.trans h1) fin hrel.2.2.2.2.2.2 h3 hlk
    · exact W.zret (ty := .boolean) B.exec B.bytes (hr.trans h1) (by rcases h2 with rfl | rfl <;> decide +kernel) fin hrel.2.2.2.2.2.2 h3 hlk
  | some (.long x), hrt, fin => exact W.lret B.exec B.bytes (hr.trans hrt.1) fin hrel.2.2.2.2.2.2 hrt.2 hlk
set_option maxHeartbeats 1000000 in
theorem zv_throwS {d : Nat} {z : zMt} {X : String → zW → Prop} {Q Q0 : Option Value → zW → Prop} {n0 n1 pc : Nat} {l : zL} {w : zW} {E text : String} {names : List String} {ik is ic : Nat} (d0 : decode z.2.1 pc = .ok (.new ik, 3)) (d3 : decode z.2.1 (pc + 3) = .ok (.dup, 1)) (d4 : decode z.2.1 (pc + 4) = .ok (.ldc is, 2)) (d6 : decode z.2.1 (pc + 6) = .ok (.invokespecial ic, 3)) (d9 : decode z.2.1 (pc + 9) = .ok (.athrow, 1))
    (hf : Bundle.fit E = true ∧ ∀ n ∈ names, Bundle.fit n = true) (hk : Cond.classLink z.1.cls ik E ∈ zG ∧ Cond.initialized E ∈ zG) (hat : ∀ x ∈ vx_atS z.1.cls ic E names, x ∈ zG ∨ x = .castable E E ∨ x ∈ zds) (hg : ∀ x ∈ Cond.classLink z.1.cls ik E :: Cond.initialized E :: vx_atS z.1.cls ic E names, vx_ot x = true)
    (hs : ∀ A U H, zTh A U H → (∃ a, vk_R z.1.cls is text a U) ∧ va_Nw (.castable E E) U) (hR : names.length + 3 < d ∧ 0 + (13 * (names.length + 1) + 43) ≤ 64 * d) (hX : X E w) : zV (zMx d z X Q0 n1) false n0 0 0 pc l [] w Q := by
  intro p l0 e s m args below meth c dC dI dA ad0 A Z h9t hctx hfin ad H locs ls hrel hl
  obtain ⟨hx, hb, hml, hown, hts, hKc, hA, hxn, hZ, hTh, hlk, htab⟩ := hctx
  subst hZ
  obtain ⟨e1, e2, hP, hD, hS⟩ := hrel
  have ea := e1 rfl
  subst ea
  obtain ⟨⟨sa, hstr⟩, hca⟩ := hs A s s.heap hTh
  refine vx_throwS (cc := z.2.1) (own := z.1.cls) (cls := E) (text := text) (names := names) (ik := ik) (is := is) (ic := ic) (A := A) (sa := sa) (rest := []) hx hb h9t hown hf.1 hf.2 (hts _ hk.1) (hts _ hk.2) hstr (fun x q => ?_) hg hTh.1 hTh.2.1 hS (hl.1.trans hml.symm) d0 d3 d4 d6 d9 (fun x q => absurd (htab x q) id) hR.1 hR.2 (Nat.le_refl 1) (Nat.le_refl 6) hlk ?_ hS.2.2 (Nat.le_refl 1) (Nat.le_refl 6)
  · rcases hat x q with h | rfl | h
    · exact hts _ h
    · exact va_Nw.use (A := args) rfl hca
    · exact zds_ok hts x h
  · intro t hal hsz hq
    exact ⟨⟨w, hX, va_P.kept hP (fun k q hk => hq q.1 (vx_lt hP hk)), zKx.moved hal hKc, hD⟩, Nat.le_trans hS.1 hsz, fun q h1 h2 => (hq q (Nat.lt_of_lt_of_le h1 hS.1)).trans (hS.2.1 q h1 h2)⟩
set_option maxHeartbeats 1000000 in
theorem zv_throwSW {d : Nat} {z : zMt} {X : String → zW → Prop} {Q Q0 : Option Value → zW → Prop} {n0 n1 pc : Nat} {l : zL} {w : zW} {E text : String} {names : List String} {ik is ic : Nat} (d0 : decode z.2.1 pc = .ok (.new ik, 3)) (d3 : decode z.2.1 (pc + 3) = .ok (.dup, 1)) (d4 : decode z.2.1 (pc + 4) = .ok (.ldc_w is, 3)) (d6 : decode z.2.1 (pc + 7) = .ok (.invokespecial ic, 3)) (d9 : decode z.2.1 (pc + 10) = .ok (.athrow, 1))
    (hf : Bundle.fit E = true ∧ ∀ n ∈ names, Bundle.fit n = true) (hk : Cond.classLink z.1.cls ik E ∈ zG ∧ Cond.initialized E ∈ zG) (hat : ∀ x ∈ vx_atS z.1.cls ic E names, x ∈ zG ∨ x = .castable E E ∨ x ∈ zds) (hg : ∀ x ∈ Cond.classLink z.1.cls ik E :: Cond.initialized E :: vx_atS z.1.cls ic E names, vx_ot x = true)
    (hs : ∀ A U H, zTh A U H → (∃ a, vk_R z.1.cls is text a U) ∧ va_Nw (.castable E E) U) (hR : names.length + 3 < d ∧ 0 + (13 * (names.length + 1) + 43) ≤ 64 * d) (hX : X E w) : zV (zMx d z X Q0 n1) false n0 0 0 pc l [] w Q := by
  intro p l0 e s m args below meth c dC dI dA ad0 A Z h9t hctx hfin ad H locs ls hrel hl
  obtain ⟨hx, hb, hml, hown, hts, hKc, hA, hxn, hZ, hTh, hlk, htab⟩ := hctx
  subst hZ
  obtain ⟨e1, e2, hP, hD, hS⟩ := hrel
  have ea := e1 rfl
  subst ea
  obtain ⟨⟨sa, hstr⟩, hca⟩ := hs A s s.heap hTh
  refine vx_throwSW (cc := z.2.1) (own := z.1.cls) (cls := E) (text := text) (names := names) (ik := ik) (is := is) (ic := ic) (A := A) (sa := sa) (rest := []) hx hb h9t hown hf.1 hf.2 (hts _ hk.1) (hts _ hk.2) hstr (fun x q => ?_) hg hTh.1 hTh.2.1 hS (hl.1.trans hml.symm) d0 d3 d4 d6 d9 (fun x q => absurd (htab x q) id) hR.1 hR.2 (Nat.le_refl 1) (Nat.le_refl 6) hlk ?_ hS.2.2 (Nat.le_refl 1) (Nat.le_refl 6)
  · rcases hat x q with h | rfl | h
    · exact hts _ h
    · exact va_Nw.use (A := args) rfl hca
    · exact zds_ok hts x h
  · intro t hal hsz hq
    exact ⟨⟨w, hX, va_P.kept hP (fun k q hk => hq q.1 (vx_lt hP hk)), zKx.moved hal hKc, hD⟩, Nat.le_trans hS.1 hsz, fun q h1 h2 => (hq q (Nat.lt_of_lt_of_le h1 hS.1)).trans (hS.2.1 q h1 h2)⟩
/-- a helper with handlers -/
abbrev zMh (d : Nat) (z : zMt) (hh : List (Nat × Nat × Nat × Nat)) : zM := (z.1.cls, z.2.1, z.2.2.1, false, zrx d, z.2.2.2.1, fun _ _ _ s _ _ _ _ c _ _ _ _ A _ => zTh A s s.heap ∧ c.exceptionTable.toList = tableOf hh)
def zKh (d : Nat) (z : zMt) (hh : List (Nat × Nat × Nat × Nat)) (as : List Value) (w : zW) (Q : Option Value → zW → Prop) : Prop :=
  ∀ (l0 : Launch), l0.stackTraces = false → ∀ (dC : Nat → ClassId) (dI : Nat → Nat → Nat) (dA : Nat → ClassId) (ad : Nat → Nat) (sz : Nat), vx_Met l0 z.1 (Cond.codeWith z.1 z.2.1 z.2.2.1 z.2.2.2.1 hh :: zG) (zrx d) (zPt dC dI dA ad as w sz) (zQc dC dI dA ad (va_A (zw dA ad w) sz) w.length false Q) (fun _ _ _ => False) 1 6 (va_A (zw dA ad w) sz)
set_option maxHeartbeats 1000000 in
theorem zKh_of {d : Nat} {z : zMt} {hh : List (Nat × Nat × Nat × Nat)} {as : List Value} {w : zW} {Q : Option Value → zW → Prop} (hy : plainName z.1.cls = true) (hn : Nat.ble (lg_sl as).length z.2.2.1 = true) (h : zV (zMh d z hh) false w.length 0 0 0 (lv_args 0 as) [] w Q) : zKh d z hh as w Q := by
  intro l0 h9t dC dI dA ad sz
  refine vx_ofWH (cc := z.2.1) (maxL := z.2.2.1) (ret := z.2.2.2.1) (hh := hh) hy rfl ?_
  intro p e s m args below meth c s₁ B hml hv
  obtain ⟨rfl, hsz, hP, hK, hD0, hTh⟩ := hv
  have hts := atoms_spec (ws := Cond.codeWith z.1 z.2.1 z.2.2.1 z.2.2.2.1 hh :: zG) B.pre
  have htb := vx_table (x := z.1) B (hts _ List.mem_cons_self)
  have hown : s.vm.findClass z.1.cls = some m.cls := findClass_of_methodNamed B.named
  subst hsz
  have hD := hD0.self (sz := s.heap.size)
  have hA : ∀ q : Nat, s.heap.size ≤ q → va_A (zw dA ad w) s.heap.size q := fun q h => Or.inr h
  have hl := lv_entry (as.map (zv ad)) (n := z.2.2.1) (by rw [zsl]; exact Nat.le_of_ble_eq_true hn)
  rw [lg_entry_eq]
  generalize (lg_sl (as.map (zv ad)) ++ List.replicate (z.2.2.1 - (lg_sl (as.map (zv ad))).length) Slot.unset).toArray = ls at hl ⊢
  rw [zargs] at hl
  have hlk : meth.locks = false := B.notSynchronized
  have hr := B.returns
  refine h p l0 e s m (as.map (zv ad)).toArray below meth c dC dI dA ad (va_A (zw dA ad w) s.heap.size) (vx_MQ below (zQc dC dI dA ad (va_A (zw dA ad w) s.heap.size) w.length false Q) (fun _ _ _ => False) (as.map (zv ad)).toArray s 1 6 (va_A (zw dA ad w) s.heap.size)) h9t ⟨B.exec, B.bytes, hml, hown, fun x hx => hts x (List.mem_cons_of_mem _ hx), hK, hA, (fun hi => by cases hi), hTh, htb⟩ ?_ ad s.heap [] ls ⟨fun _ => rfl, fun _ _ => rfl, hP, hD, va_S.rf⟩ hl
  intro ad' H locs kc ks pc ls' v w' hrel hqq hkc hks hrt
  refine W.widen (k := 1) (n := 6) hkc hks ?_
  refine vx_ret ?_
  have fin : ∀ t : State, t.heap = H → s.WarmedH t.vm → zQc dC dI dA ad (va_A (zw dA ad w) s.heap.size) w.length false Q (as.map (zv ad)).toArray s (.returned (v.map (zv ad'))) t := fun t ht hW =>
    ⟨⟨v, w', ad', rfl, hqq, hrel.1, hrel.2.1, by rw [ht]; exact hrel.2.2.1, zKx.moved hW.alike hK, hrel.2.2.2.1⟩, hrel.2.2.2.2.F ht⟩
  match v, hrt, fin with
  | none, hrt, fin => exact W.vret B.exec B.bytes (hr.trans hrt.1) fin hrel.2.2.2.2.2.2 hrt.2 hlk
  | some (.int x), hrt, fin =>
    rcases hrt with ⟨h1 | ⟨h1, h2⟩, h3⟩
    · exact W.iret B.exec B.bytes (hr.trans h1) fin hrel.2.2.2.2.2.2 h3 hlk
    · exact W.zret (ty := .boolean) B.exec B.bytes (hr.trans h1) (by rcases h2 with rfl | rfl <;> decide +kernel) fin hrel.2.2.2.2.2.2 h3 hlk
  | some (.long x), hrt, fin => exact W.lret B.exec B.bytes (hr.trans hrt.1) fin hrel.2.2.2.2.2.2 hrt.2 hlk
/-- what a handler's row owes: it takes an E that is thrown at pc, the rows ahead of it don't; it stores it in local i and goes on at nx -/
def zHd (own : String) (cc : ByteArray) (hh : List (Nat × Nat × Nat × Nat)) (pc : Nat) (E : String) (i nx nL : Nat) : Prop :=
  ∃ (pre : List ExceptionTableEntry) (x : ExceptionTableEntry) (suf : List ExceptionTableEntry) (name : String), tableOf hh = pre ++ x :: suf ∧
    (∀ y ∈ pre, covers y pc = false ∨ (y.catchType ≠ 0 ∧ ∃ nm : String, Cond.classLink own y.catchType nm ∈ zG ∧ ∀ A U H, zTh A U H → va_Nc E nm U)) ∧ covers x pc = true ∧ x.catchType ≠ 0 ∧ Cond.classLink own x.catchType name ∈ zG ∧ (∀ A U H, zTh A U H → va_Nw (.castable E name) U) ∧ i < nL ∧
    ((∃ k : Fin 4, (k : Nat) = i ∧ decode cc x.handlerPc = .ok (.astore_n k, 1) ∧ nx = x.handlerPc + 1) ∨ (decode cc x.handlerPc = .ok (.astore i, 2) ∧ nx = x.handlerPc + 2))
section ZCX
variable {d : Nat} {zh : zMt} {hh : List (Nat × Nat × Nat × Nat)} {n0 pc a b : Nat} {c0 : Int} {l : zL} {st : List Value} {w : zW} {Q : Option Value → zW → Prop} {tb : List zE}
set_option maxHeartbeats 2000000 in
/-- a call of a method that may throw, inside a helper that catches it -/
theorem zv_callX (ok : zTb (zMh d zh hh) tb) {idx : Nat} (hlook : zlook tb pc = some (.invokevirtual idx, pc + 3, a, b, c0)) {z : zMt} (hz : zms[a]? = some z) {As rest : List Value} {o dd : Nat} {Qc : Option Value → zW → Prop} {X : String → zW → Prop}
    (hst : st = As.reverse ++ .ref o :: rest) (hn : As.length = b) (ha : Nat.ble 9000 a = false) {ci : Nat} {fs : List Value} {r0 : vw_C} (ho : w[o]? = some (zO ci fs)) (hci : vwCl[ci]? = some r0) (hcl : r0.1 = z.1.cls) (hcat : (rest.map fun v => v.category).sum ≤ 8)
    (hR : dd + 1 ≤ d ∧ 8 + (z.2.2.1 + 11) + 64 * dd ≤ 64 * d) (hK : zKt dd z (.ref o :: As) w Qc X)
    (kk : ∀ (r : Option Value) (w' : zW), Qc r w' → zV (zMh d zh hh) false n0 1 6 (pc + 3) l (r.toList ++ rest) w' Q)
    (kx : ∀ (E : String) (w' : zW), X E w' → ∃ i nx : Nat, zHd zh.1.cls zh.2.1 hh pc E i nx zh.2.2.1 ∧ zV (zMh d zh hh) false n0 1 6 nx (l.filter (fun q => !(q.1 == i) && !(q.1 + 1 == i && q.2.category == 2))) [] w' Q) : zV (zMh d zh hh) false n0 0 0 pc l st w Q := by
  intro p l0 e s m args below meth c dC dI dA ad0 A Z h9t hctx hfin ad H locs ls hrel hl
  obtain ⟨F, hF, ok⟩ := ok
  have h1 := ok _ (zlook_mem hlook)
  simp only [zgood, Bool.and_eq_true, decide_eq_true_eq, Nat.add_sub_cancel_left] at h1
  obtain ⟨hk0, hkd⟩ : (idx, a) ∈ F.2.1 ∧ (zms[a]?).map (fun z => z.2.2.2.2.2.2.2) = some (0, b) := by
    have h2 := h1.2
    simpa only [zgd, ha, Bool.false_or, Bool.and_eq_true, decide_eq_true_eq] using h2
  obtain ⟨z', hz', k1⟩ := hF.2.1 _ hk0
  rw [show zms[a]? = some z' from hz'] at hz
  cases hz
  rw [show zms[a]? = some z from hz'] at hkd
  have hkd : z.2.2.2.2.2.2.2 = _ := Option.some.inj hkd
  obtain ⟨hc, ⟨k5, k6, k7⟩, k4, m0, m1, m2⟩ := zms_ok z (List.mem_of_getElem? hz')
  have hkk : z.2.2.2.2.2.2.2.1 = 0 := by rw [hkd]
  have hnn : z.2.2.2.2.2.2.2.2 = b := by rw [hkd]
  rw [hnn] at k7
  obtain ⟨k2, k3⟩ := m0 hkk
  obtain ⟨hx, hb, hml, hown, hts, hKc, hA, hin, hTh, htb⟩ := id hctx
  obtain ⟨e1, e2, hP, hD, hS⟩ := id hrel
  have hM := hK l0 h9t dC dI dA ad H.size
  subst hst
  subst hn
  have hF9 : ∀ q, va_A (zw dA ad w) H.size q → A q := fun q h => by
    rcases h with ⟨k, x, h⟩ | h
    · exact hD.2 k _ h
    · exact hA q (Nat.le_trans hS.1 h)
  have hThH : zTh (va_A (zw dA ad w) H.size) s H := (hTh.kept hS.2.1).narrow hF9
  have cw : CallW (zrx d) s args zh.1.cls z.1.cls idx z.1 z.2.1 z.2.2.1 z.2.2.2.1 (zws z) (zrx dd) 1 6 As.length :=
    ⟨callB_of As.length hts (zgoodIn z hc) rfl rfl rfl (hts _ k4) (hts _ k1) ⟨k5, k6, k7⟩ hR, hts _ k2, hts _ k3⟩
  have hp : PreV s H z.1.cls (ad o) (zPt dC dI dA ad (.ref o :: As) w H.size) (As.map (zv ad)) :=
    ⟨zblindT dC dI dA ad _ w H.size, hcl ▸ va_recv hKc.1 hP hci (zw_at ho), fun U hU hW => ⟨rfl, by rw [hU], by rw [hU]; exact hP, zKx.moved hW.alike hKc, hD.weaken (fun _ _ _ _ => trivial), by rw [hU]; exact zTh.warm hW hThH⟩⟩
  have hr := vx_runV (g := F0 m pc ls ((As.reverse ++ .ref o :: rest).map (zv ad))) (As := As.map (zv ad)) (rest := rest.map (zv ad)) (cells := 0) (slots := 0) (locs := locs) (e := e) (below := below) (meth := meth) ⟨hx, hb, hml, hown, hts⟩ hM cw hp rfl (by rw [List.length_map]) hl.1 (by show List.map (zv ad) (As.reverse ++ .ref o :: rest) = _; rw [List.map_append, List.map_reverse]; rfl) (lv_room (by rw [zcats]; exact hcat)) h1.1.1 ⟨by show 0 + 1 ≤ 1; omega, by show 0 + 6 ≤ 6; omega⟩
  intro T hT X9
  rcases hr T hT X9 with ⟨v, st₀, t, T', L, h0, X', hL, f1, f2, ⟨⟨r, w', ad', hv, hq, hal, had, hP1, hK1, hD1⟩, hz1, hk1⟩, sts⟩ | ⟨q9, st₀, t, T', L, E, ce, h0, X', hL, f1, f2, ⟨⟨w', hX, hP1, hK1, hD1⟩, hz1, hk1⟩, hce, hcv, hcls, sts⟩
  · cases hv
    rw [h0] at hz1 hk1
    have ea := hal rfl
    subst ea
    have hS1 : va_S A s.heap T'.heap (locs ++ L) := ⟨Nat.le_trans hS.1 (by rw [f1]; exact hz1), fun q h1 h2 => by rw [f1, hk1 q (Nat.lt_of_lt_of_le h1 hS.1) (fun z => h2 (hF9 q z))]; exact hS.2.1 q h1 h2, fun q hq => by
      rcases List.mem_append.mp hq with h | h
      · exact hS.2.2 q h
      · exact hF9 _ (hL q h)⟩
    have k9 := kk r w' hq p l0 e s m args below meth c dC dI dA ad0 A Z h9t hctx hfin ad' T'.heap (locs ++ L) ls ⟨e1, e2, by rw [f1]; exact hP1, hD1.weaken (fun _ _ _ h => hF9 _ h), hS1⟩ hl
    rw [List.map_append] at k9
    obtain ⟨t2, a1, b1⟩ := k9 T' rfl X'
    refine ⟨t2, sts t2 ?_, b1⟩
    cases r <;> exact a1
  · rw [h0] at hz1 hk1
    obtain ⟨i, nx, ⟨pre, x, suf, name, s1, s2, s3, s4, s5, s6, s7, s8⟩, k9⟩ := kx E w' hX
    have hS1 : va_S A s.heap T'.heap (locs ++ L) := ⟨Nat.le_trans hS.1 (by rw [f1]; exact hz1), fun q h1 h2 => by rw [f1, hk1 q (Nat.lt_of_lt_of_le h1 hS.1) (fun z => h2 (hF9 q z))]; exact hS.2.1 q h1 h2, fun q hq => by
      rcases List.mem_append.mp hq with h | h
      · exact hS.2.2 q h
      · exact hF9 _ (hL q h)⟩
    have k8 := k9 p l0 e s m args below meth c dC dI dA ad0 A Z h9t hctx hfin ad T'.heap (locs ++ L)
    have kst : ∀ ls' : Array Slot, lv_has ls' zh.2.2.1 ((i, .ref q9) :: (zl ad l).filter (fun q => !(q.1 == i) && !(q.1 + 1 == i && q.2.category == 2))) → W p l0 e (zrx d) s m args below meth c T'.heap (locs ++ L) 1 6 Z (F0 m nx ls' []) := fun ls' hl' =>
      k8 ls' ⟨e1, e2, by rw [f1]; exact hP1, hD1.weaken (fun _ _ _ h => hF9 _ h), hS1⟩ ⟨hl'.1, hl'.2.1, fun q hq => hl'.2.2 q (List.mem_cons_of_mem _ (by
        rw [zl_filter ad (fun a b => !(a == i) && !(a + 1 == i && b == 2)) l]
        exact hq))⟩
    have kw : W p l0 e (zrx d) s m args below meth c T'.heap (locs ++ L) 1 6 Z (F0 m x.handlerPc ls [.ref q9]) := by
      rcases s8 with ⟨k, hki, hdec, hnx⟩ | ⟨hdec, hnx⟩
      · subst hnx
        exact lv_astore_n hx hb hdec hki hl s7 rfl kst
      · subst hnx
        exact lv_astore hx hb hdec hl s7 rfl kst
    have kc := vx_catch (p := p) (l := l0) (e := e) (R := zrx d) (s := s) (m := m) (args := args) (below := below) (meth := meth) (c := c) (H := T'.heap) (locs := locs ++ L) (cells := 1) (slots := 6) (Q := Z) (pc := pc) (ls := ls) (rest := rest.map (zv ad)) (own := zh.1.cls) (name := name) (E := E) (ce := ce) (q := q9) hown pre x suf (htb.trans s1)
      (fun y hy => (s2 y hy).imp id (fun ⟨c1, nm, c2, c3⟩ => ⟨c1, nm, hts _ c2, c3 A s s.heap hTh⟩)) s3 s4 (hts _ s5) (va_Nw.use (A := args) rfl (s6 A s s.heap hTh)) (by rw [f1]; exact hce) hcv hcls kw
    obtain ⟨t2, a1, b1⟩ := kc T' rfl X'
    exact ⟨t2, sts.trans a1, b1⟩
end ZCX
section ZHP
variable {bb L : Nat} {xs : Nat → Int32} {al : Bool} {n0 kc ks pc a b : Nat} {c0 : Int} {l : zL} {st : List Value} {w : zW} {Q : Option Value → zW → Prop}
set_option maxHeartbeats 2000000 in
/-- the law calls a helper -/
theorem zv_help {idx : Nat} (hlook : zlook tL_law pc = some (.invokestatic idx, pc + 3, a, b, c0)) {z : zMt} {hh : List (Nat × Nat × Nat × Nat)} (hm : GoodIn zG (va_wsS RL idx z.1 (Cond.codeWith z.1 z.2.1 z.2.2.1 z.2.2.2.1 hh :: zG))) {nP : Nat} (hd : z.1.cls ≠ "java/lang/invoke/MethodHandle" ∧ z.1.cls ≠ "java/lang/invoke/VarHandle" ∧ (parseMethodDescriptor z.1.desc).map (fun d => d.parameters.length) = some nP) {As rest : List Value} {d : Nat} {Qc : Option Value → zW → Prop}
    (hst : st = As.reverse ++ rest) (hn : As.length = nP) (hcat : (rest.map fun v => v.category).sum ≤ 8) (hR : d + 1 ≤ room_1.frames ∧ 8 + (z.2.2.1 + 11) + 64 * d ≤ room_1.locals) (hf : kc + 1 ≤ room_1.cells ∧ ks + 6 ≤ room_1.slots)
    (hK : zKh d z hh As w Qc) (kk : ∀ (r : Option Value) (w' : zW), Qc r w' → zV (zLw bb L xs) al n0 (kc + 1) (ks + 6) (pc + 3) l (r.toList ++ rest) w' Q) : zV (zLw bb L xs) al n0 kc ks pc l st w Q := by
  intro p l0 e s m args below meth c dC dI dA ad0 A Z h9t hctx hfin ad H locs ls hrel hl
  have h1 := oL_law _ (zlook_mem hlook)
  simp only [zgood, Bool.and_eq_true, decide_eq_true_eq, Nat.add_sub_cancel_left] at h1
  obtain ⟨hx, hb, hml, hown, hts, hKc, hA, hin, hE1, hE2, hE3, hE4, hTh⟩ := id hctx
  obtain ⟨e1, e2, hP, hD, hS⟩ := id hrel
  have hM := hK l0 h9t dC dI dA ad H.size
  subst hst
  have hF9 : ∀ q, va_A (zw dA ad w) H.size q → A q := fun q h => by
    rcases h with ⟨k, x, h⟩ | h
    · exact hD.2 k _ h
    · exact hA q (Nat.le_trans hS.1 h)
  have hThH : zTh (va_A (zw dA ad w) H.size) s H := (hTh.kept hS.2.1).narrow hF9
  have cw := vx_cwSW (R := room_1) (s := s) (args := args) (own := RL) (index := idx) (maxL := z.2.2.1) (mc := 1) (ms := 6) (y := z.1) (bytes := z.2.1) (ret := z.2.2.2.1) (hh := hh) (rm := zrx d) nP hts hm rfl rfl rfl hd hR
  have hp : PreS s H (zPt dC dI dA ad As w H.size) (As.map (zv ad)) :=
    ⟨zblindT dC dI dA ad _ w H.size, fun U hU hW => ⟨rfl, by rw [hU], by rw [hU]; exact hP, zKx.moved hW.alike hKc, hD.weaken (fun _ _ _ _ => trivial), by rw [hU]; exact zTh.warm hW hThH⟩⟩
  have hr := vx_runSX (g := F0 m pc ls ((As.reverse ++ rest).map (zv ad))) (As := As.map (zv ad)) (rest := rest.map (zv ad)) (cells := kc) (slots := ks) (locs := locs) (e := e) (below := below) (meth := meth) (p := p) (m := m) (c := c) (s := s) (args := args) (Ts := zG) (own := RL) (cc := cL_law) (nL := 8) ⟨hx, hb, hml, hown, hts⟩ hM cw hp rfl (by rw [List.length_map]; exact hn) hl.1 (by show List.map (zv ad) (As.reverse ++ rest) = _; rw [List.map_append, List.map_reverse]) (lv_room (by rw [zcats]; exact hcat)) h1.1.1 hf
  intro T hT X9
  rcases hr T hT X9 with ⟨v, st₀, t, T', L9, h0, X', hL, f1, f2, ⟨⟨r, w', ad', hv, hq, hal, had, hP1, hK1, hD1⟩, hz1, hk1⟩, sts⟩ | ⟨q9, st₀, t, T', L9, E, ce, h0, X', hL, f1, f2, hX, hce, hcv, hcls, sts⟩
  · cases hv
    rw [h0] at hz1 hk1
    have ea := hal rfl
    subst ea
    have hS1 : va_S A s.heap T'.heap (locs ++ L9) := ⟨Nat.le_trans hS.1 (by rw [f1]; exact hz1), fun q h1 h2 => by rw [f1, hk1 q (Nat.lt_of_lt_of_le h1 hS.1) (fun z => h2 (hF9 q z))]; exact hS.2.1 q h1 h2, fun q hq => by
      rcases List.mem_append.mp hq with h | h
      · exact hS.2.2 q h
      · exact hF9 _ (hL q h)⟩
    have k9 := kk r w' hq p l0 e s m args below meth c dC dI dA ad0 A Z h9t hctx hfin ad' T'.heap (locs ++ L9) ls ⟨e1, e2, by rw [f1]; exact hP1, hD1.weaken (fun _ _ _ h => hF9 _ h), hS1⟩ hl
    rw [List.map_append] at k9
    obtain ⟨t2, a1, b1⟩ := k9 T' rfl X'
    refine ⟨t2, sts t2 ?_, b1⟩
    cases r <;> exact a1
  · exact hX.elim
end ZHP
end
section
def fRLh : zFT := ([], [(7, 91), (15, 98), (21, 106)], [], [], [])
set_option maxRecDepth 100000 in
theorem gRLh : zFTok RL fRLh := ⟨znil, zcons (⟨_, rfl, zmemT 682 rfl rfl⟩) (zcons (⟨_, rfl, zmemT 757 rfl rfl⟩) (zcons (⟨_, rfl, zmemT 787 rfl rfl⟩) (znil))), znil, znil, znil⟩
def tL_readings : List zE := [(0, .aload_n 2, 1, 0, 0, 0), (1, .iconst 0, 2, 0, 0, 0), (2, .aload_n 0, 3, 0, 0, 0), (3, .iload_n 1, 4, 0, 0, 0), (4, .invokevirtual 7, 7, 91, 1, 0), (7, .lastore, 8, 0, 0, 0), (8, .goto 6, 11, 14, 0, 0), (11, .astore_n 3, 12, 0, 0, 0), (12, .iconst 1, 13, 0, 0, 0), (13, .ireturn, 14, 0, 0, 0), (14, .iconst 0, 15, 0, 0, 0), (15, .ireturn, 16, 0, 0, 0)]
theorem oL_readings : ∀ e ∈ tL_readings, zgood fRLh cL_readings 4 false e = true := by decide +kernel
abbrev zL_readings : zMt := (yL_readings, cL_readings, 4, some .int, false, 1, 6, 1, 3)
theorem bL_readings : zTb (zMh 9 zL_readings [(0, 8, 11, 13)]) tL_readings := ⟨fRLh, gRLh, oL_readings⟩
def tL_where : List zE := [(0, .aload_n 2, 1, 0, 0, 0), (1, .iconst 0, 2, 0, 0, 0), (2, .aload_n 0, 3, 0, 0, 0), (3, .iload_n 1, 4, 0, 0, 0), (4, .invokevirtual 15, 7, 98, 1, 0), (7, .i2l, 8, 0, 0, 0), (8, .lastore, 9, 0, 0, 0), (9, .goto 6, 12, 15, 0, 0), (12, .astore_n 3, 13, 0, 0, 0), (13, .iconst 1, 14, 0, 0, 0), (14, .ireturn, 15, 0, 0, 0), (15, .iconst 0, 16, 0, 0, 0), (16, .ireturn, 17, 0, 0, 0)]
theorem oL_where : ∀ e ∈ tL_where, zgood fRLh cL_where 4 false e = true := by decide +kernel
abbrev zL_where : zMt := (yL_where, cL_where, 4, some .int, false, 1, 6, 1, 3)
theorem bL_where : zTb (zMh 9 zL_where [(0, 9, 12, 19)]) tL_where := ⟨fRLh, gRLh, oL_where⟩
def tL_element : List zE := [(0, .aload_n 3, 1, 0, 0, 0), (1, .iconst 0, 2, 0, 0, 0), (2, .aload_n 0, 3, 0, 0, 0), (3, .iload_n 1, 4, 0, 0, 0), (4, .iload_n 2, 5, 0, 0, 0), (5, .invokevirtual 21, 8, 106, 2, 0), (8, .lastore, 9, 0, 0, 0), (9, .goto 11, 12, 20, 0, 0), (12, .astore 4, 14, 0, 0, 0), (14, .iconst 1, 15, 0, 0, 0), (15, .ireturn, 16, 0, 0, 0), (16, .astore 4, 18, 0, 0, 0), (18, .iconst 2, 19, 0, 0, 0), (19, .ireturn, 20, 0, 0, 0), (20, .iconst 0, 21, 0, 0, 0), (21, .ireturn, 22, 0, 0, 0)]
theorem oL_element : ∀ e ∈ tL_element, zgood fRLh cL_element 5 false e = true := by decide +kernel
abbrev zL_element : zMt := (yL_element, cL_element, 5, some .int, false, 1, 6, 1, 4)
theorem bL_element : zTb (zMh 9 zL_element [(0, 9, 12, 13), (0, 9, 16, 19)]) tL_element := ⟨fRLh, gRLh, oL_element⟩
set_option maxRecDepth 100000 in
theorem wL_readings : Cond.methodLink RL 98 yL_readings ∈ zG ∧ Cond.static yL_readings ∈ zG ∧ Cond.initialized RL ∈ zG ∧ Cond.codeWith yL_readings cL_readings 4 (some .int) [(0, 8, 11, 13)] ∈ zG := ⟨zmemT 678 rfl rfl, zmemT 679 rfl rfl, zmemT 0 rfl rfl, zmemT 680 rfl rfl⟩
theorem vL_readings : GoodIn zG (va_wsS RL 98 yL_readings (Cond.codeWith yL_readings cL_readings 4 (some .int) [(0, 8, 11, 13)] :: zG)) := fun x hx => by
  have key : x ∈ zG := by
    unfold va_wsS at hx
    simp only [List.mem_append, List.mem_cons, List.not_mem_nil, or_false] at hx
    rcases hx with hx | hx | hx
    · rcases hx with rfl | rfl | rfl <;> first | exact wL_readings.1 | exact wL_readings.2.1 | exact wL_readings.2.2.1
    · rw [hx]; exact wL_readings.2.2.2
    · exact hx
  exact ⟨key, good_of_word (zG_good key)⟩
set_option maxRecDepth 100000 in
theorem wL_where : Cond.methodLink RL 132 yL_where ∈ zG ∧ Cond.static yL_where ∈ zG ∧ Cond.initialized RL ∈ zG ∧ Cond.codeWith yL_where cL_where 4 (some .int) [(0, 9, 12, 19)] ∈ zG := ⟨zmemT 753 rfl rfl, zmemT 754 rfl rfl, zmemT 0 rfl rfl, zmemT 755 rfl rfl⟩
theorem vL_where : GoodIn zG (va_wsS RL 132 yL_where (Cond.codeWith yL_where cL_where 4 (some .int) [(0, 9, 12, 19)] :: zG)) := fun x hx => by
  have key : x ∈ zG := by
    unfold va_wsS at hx
    simp only [List.mem_append, List.mem_cons, List.not_mem_nil, or_false] at hx
    rcases hx with hx | hx | hx
    · rcases hx with rfl | rfl | rfl <;> first | exact wL_where.1 | exact wL_where.2.1 | exact wL_where.2.2.1
    · rw [hx]; exact wL_where.2.2.2
    · exact hx
  exact ⟨key, good_of_word (zG_good key)⟩
set_option maxRecDepth 100000 in
theorem wL_element : Cond.methodLink RL 163 yL_element ∈ zG ∧ Cond.static yL_element ∈ zG ∧ Cond.initialized RL ∈ zG ∧ Cond.codeWith yL_element cL_element 5 (some .int) [(0, 9, 12, 13), (0, 9, 16, 19)] ∈ zG := ⟨zmemT 784 rfl rfl, zmemT 785 rfl rfl, zmemT 0 rfl rfl, zmemT 786 rfl rfl⟩
theorem vL_element : GoodIn zG (va_wsS RL 163 yL_element (Cond.codeWith yL_element cL_element 5 (some .int) [(0, 9, 12, 13), (0, 9, 16, 19)] :: zG)) := fun x hx => by
  have key : x ∈ zG := by
    unfold va_wsS at hx
    simp only [List.mem_append, List.mem_cons, List.not_mem_nil, or_false] at hx
    rcases hx with hx | hx | hx
    · rcases hx with rfl | rfl | rfl <;> first | exact wL_element.1 | exact wL_element.2.1 | exact wL_element.2.2.1
    · rw [hx]; exact wL_element.2.2.2
    · exact hx
  exact ⟨key, good_of_word (zG_good key)⟩
set_option maxRecDepth 100000 in
theorem cl13 : Cond.classLink RL 13 "java/lang/IllegalArgumentException" ∈ zG := zmemT 681 rfl rfl
set_option maxRecDepth 100000 in
theorem cl19 : Cond.classLink RL 19 "java/lang/IllegalStateException" ∈ zG := zmemT 756 rfl rfl
set_option maxRecDepth 100000 in
theorem kIAE : Cond.classLink RX6 169 "java/lang/IllegalArgumentException" ∈ zG ∧ Cond.initialized "java/lang/IllegalArgumentException" ∈ zG := ⟨zmemT 686 rfl rfl, zmemT 13 rfl rfl⟩
set_option maxRecDepth 100000 in
theorem kISE : Cond.classLink RX6 222 "java/lang/IllegalStateException" ∈ zG ∧ Cond.initialized "java/lang/IllegalStateException" ∈ zG := ⟨zmemT 761 rfl rfl, zmemT 14 rfl rfl⟩
def zSl : List Cond := (tables_1.take 60 ++ (tables_1.drop 671).take 160).filter goodWord
theorem zSl_G {x : Cond} (h : x ∈ zSl) : x ∈ zG := by
  obtain ⟨h1, hg⟩ := List.mem_filter.mp h
  refine List.mem_filter.mpr ⟨List.mem_append_right _ ?_, hg⟩
  rcases List.mem_append.mp h1 with q | q
  · exact List.mem_of_mem_take q
  · exact List.mem_of_mem_drop (List.mem_of_mem_take q)
set_option maxRecDepth 100000 in
theorem aIAE0 : ∀ x ∈ vx_atS RX6 173 "java/lang/IllegalArgumentException" ["java/lang/RuntimeException", "java/lang/Exception"], x ∈ zSl ∨ x = .castable "java/lang/IllegalArgumentException" "java/lang/IllegalArgumentException" ∨ x ∈ zds := by decide +kernel
theorem aIAE : ∀ x ∈ vx_atS RX6 173 "java/lang/IllegalArgumentException" ["java/lang/RuntimeException", "java/lang/Exception"], x ∈ zG ∨ x = .castable "java/lang/IllegalArgumentException" "java/lang/IllegalArgumentException" ∨ x ∈ zds := fun x hx => (aIAE0 x hx).imp_left zSl_G
set_option maxRecDepth 100000 in
theorem gIAE : ∀ x ∈ Cond.classLink RX6 169 "java/lang/IllegalArgumentException" :: Cond.initialized "java/lang/IllegalArgumentException" :: vx_atS RX6 173 "java/lang/IllegalArgumentException" ["java/lang/RuntimeException", "java/lang/Exception"], vx_ot x = true := by decide +kernel
theorem fIAE : Bundle.fit "java/lang/IllegalArgumentException" = true ∧ ∀ n ∈ (["java/lang/RuntimeException", "java/lang/Exception"] : List String), Bundle.fit n = true := by decide +kernel
set_option maxRecDepth 100000 in
theorem aISE0 : ∀ x ∈ vx_atS RX6 226 "java/lang/IllegalStateException" ["java/lang/RuntimeException", "java/lang/Exception"], x ∈ zSl ∨ x = .castable "java/lang/IllegalStateException" "java/lang/IllegalStateException" ∨ x ∈ zds := by decide +kernel
theorem aISE : ∀ x ∈ vx_atS RX6 226 "java/lang/IllegalStateException" ["java/lang/RuntimeException", "java/lang/Exception"], x ∈ zG ∨ x = .castable "java/lang/IllegalStateException" "java/lang/IllegalStateException" ∨ x ∈ zds := fun x hx => (aISE0 x hx).imp_left zSl_G
set_option maxRecDepth 100000 in
theorem gISE : ∀ x ∈ Cond.classLink RX6 222 "java/lang/IllegalStateException" :: Cond.initialized "java/lang/IllegalStateException" :: vx_atS RX6 226 "java/lang/IllegalStateException" ["java/lang/RuntimeException", "java/lang/Exception"], vx_ot x = true := by decide +kernel
theorem fISE : Bundle.fit "java/lang/IllegalStateException" = true ∧ ∀ n ∈ (["java/lang/RuntimeException", "java/lang/Exception"] : List String), Bundle.fit n = true := by decide +kernel
end
section
/-- what holds of the class between calls -/
def cI (u l d : Nat) (O : Nat → Int32) (P : Nat → Nat → Int32) (Y : Nat → Nat → Int64) : Prop := u ≤ 120 ∧ O 1 = nI u ∧ pgB 1 u P ∧ l ≤ 20 ∧ O 9 = nI l ∧ wyI Y ∧ d < 40 ∧ O 14 = nI d ∧ (O 13 = 0 ∨ O 13 = 1) ∧ (O 13 = 1 → ∃ t, t < u ∧ rtN t d (P 56)) ∧ (∀ s, s < 8 → ∃ m : Nat, m ≤ 60 ∧ O (24 + 10 * s) = nI m)
def cInv (O : Nat → Int32) (P : Nat → Nat → Int32) (Y : Nat → Nat → Int64) : Prop := ∃ u l d, cI u l d O P Y
/-- styles and meanings are as they were -/
def cSt (O : Nat → Int32) (P : Nat → Nat → Int32) (O' : Nat → Int32) (P' : Nat → Nat → Int32) : Prop := O' 0 = O 0 ∧ P' 75 = P 75
theorem cI_mk {O O' : Nat → Int32} {P P' : Nat → Nat → Int32} {Y Y' : Nat → Nat → Int64} {u l d : Nat} (h : cI u l d O P Y) {u' l' : Nat} (hu : u ≤ u') (hu2 : u' ≤ 120) (h1 : O' 1 = nI u') (hp : pgB 1 u' P') (hl : l' ≤ 20) (h9 : O' 9 = nI l') (hY : wyI Y') (h13 : O' 13 = O 13) (h14 : O' 14 = O 14) (h56 : P' 56 = P 56) (hs : ∀ s, s < 8 → ∃ m : Nat, m ≤ 60 ∧ O' (24 + 10 * s) = nI m) : cI u' l' d O' P' Y' := by
  obtain ⟨a1, a2, a3, a4, a5, a6, a7, a8, a9, a10, a11⟩ := h
  refine ⟨hu2, h1, hp, hl, h9, hY, a7, h14.trans a8, by rw [h13]; exact a9, fun e => ?_, hs⟩
  rw [h13] at e
  obtain ⟨t, ht, hr⟩ := a10 e
  exact ⟨t, by omega, by rw [h56]; exact hr⟩
theorem pgB_row {u : Nat} {P P' : Nat → Nat → Int32} (h : pgB 1 u P) (e : ∀ i, i ≤ 12 → P' i = P i) : pgB 1 u P' := by
  unfold pgB at h ⊢
  rw [e (1 + 1) (by decide), e (1 + 3) (by decide), e (1 + 4) (by decide), e (1 + 5) (by decide)]
  exact h
theorem cI_sp {O O' : Nat → Int32} {P P' : Nat → Nat → Int32} {Y : Nat → Nat → Int64} {u l d : Nat} (h : cI u l d O P Y) (q : spW O P O' P') : cInv O' P' Y ∧ cSt O P O' P' := by
  obtain ⟨⟨l', hl, h9⟩, hO, hP⟩ := q
  have f := fun (j : Nat) (e : j < 3 ∨ 9 < j) => hO j e
  refine ⟨⟨u, l', d, cI_mk h (Nat.le_refl _) h.1 ((f 1 (by decide)).trans h.2.1) (pgB_row h.2.2.1 (fun i hi => hP i (by omega) (by omega) (by omega))) hl h9 h.2.2.2.2.2.1 (f 13 (by decide)) (f 14 (by decide)) (hP 56 (by decide) (by decide) (by decide)) (fun s hs => ?_)⟩, f 0 (by decide), hP 75 (by decide) (by decide) (by decide)⟩
  rw [f (24 + 10 * s) (by omega)]
  exact h.2.2.2.2.2.2.2.2.2.2 s hs
theorem cI_gr {O O' : Nat → Int32} {P P' : Nat → Nat → Int32} {Y Y' : Nat → Nat → Int64} {u l d : Nat} (h : cI u l d O P Y) (q : grW O P u O' P' Y') : cInv O' P' Y' ∧ cSt O P O' P' := by
  obtain ⟨hY, ⟨u', h1, hu, hu2, hp⟩, hO, hP⟩ := q
  refine ⟨⟨u', l, d, cI_mk h hu hu2 h1 hp h.2.2.2.1 ((hO 9 (by decide) (by decide) (by decide) (by decide) (by decide)).trans h.2.2.2.2.1) hY (hO 13 (by decide) (by decide) (by decide) (by decide) (by decide)) (hO 14 (by decide) (by decide) (by decide) (by decide) (by decide)) (hP 56 (by decide)) (fun s hs => ?_)⟩, hO 0 (by decide) (by decide) (by decide) (by decide) (by decide), hP 75 (by decide)⟩
  rw [hO (24 + 10 * s) (by omega) (by omega) (by omega) (by omega) (by omega)]
  exact h.2.2.2.2.2.2.2.2.2.2 s hs
theorem cI_sh {O O' : Nat → Int32} {P P' : Nat → Nat → Int32} {Y : Nat → Nat → Int64} {u l d : Nat} (h : cI u l d O P Y) {s : Nat} (hs : s < 8) (q : shW O P s O' P') : cInv O' P' Y ∧ cSt O P O' P' := by
  obtain ⟨hO, hP, hL⟩ := q
  refine ⟨⟨u, l, d, cI_mk h (Nat.le_refl _) h.1 ((hO 1 (by omega)).trans h.2.1) (pgB_row h.2.2.1 (fun i hi => hP i (by omega))) h.2.2.2.1 ((hO 9 (by omega)).trans h.2.2.2.2.1) h.2.2.2.2.2.1 (hO 13 (by omega)) (hO 14 (by omega)) (hP 56 (by omega)) (fun s2 hs2 => ?_)⟩, hO 0 (by omega), hP 75 (by omega)⟩
  by_cases e : s2 = s
  · subst e
    rcases hL with e | e
    · rw [e]
      exact h.2.2.2.2.2.2.2.2.2.2 s2 hs2
    · exact e
  · rw [hO (24 + 10 * s2) (by omega)]
    exact h.2.2.2.2.2.2.2.2.2.2 s2 hs2
theorem cI_13 {O : Nat → Int32} {P : Nat → Nat → Int32} {Y : Nat → Nat → Int64} {u l d : Nat} (h : cI u l d O P Y) (R : Nat → Int32) : cInv O (updA P 13 R) Y ∧ cSt O P O (updA P 13 R) :=
  ⟨⟨u, l, d, cI_mk h (Nat.le_refl _) h.1 h.2.1 (pgB_row h.2.2.1 (fun i hi => updA_ne _ _ (by omega))) h.2.2.2.1 h.2.2.2.2.1 h.2.2.2.2.2.1 rfl rfl (updA_ne _ _ (by decide)) h.2.2.2.2.2.2.2.2.2.2⟩, rfl, updA_ne _ _ (by decide)⟩
theorem cI_un {O : Nat → Int32} {P : Nat → Nat → Int32} {Y : Nat → Nat → Int64} {u l d : Nat} (h : cI u l d O P Y) (h0 : 0 < u) (ht : O 13 = 1 → ¬ P 56 0 = nI (u - 1)) : cInv (upd O 1 (nI (u - 1))) P Y ∧ cSt O P (upd O 1 (nI (u - 1))) P := by
  obtain ⟨a1, a2, a3, a4, a5, a6, a7, a8, a9, a10, a11⟩ := h
  refine ⟨⟨u - 1, l, d, by omega, upd_self _ _ _, fun n hn => a3 n (by omega), a4, (upd_ne _ _ (by decide)).trans a5, a6, a7, (upd_ne _ _ (by decide)).trans a8, by rw [upd_ne _ _ (by decide)]; exact a9, fun e => ?_, fun s hs => ?_⟩, upd_ne _ _ (by decide), rfl⟩
  · rw [upd_ne _ _ (by decide)] at e
    obtain ⟨t, ht2, hr⟩ := a10 e
    refine ⟨t, ?_, hr⟩
    rcases Nat.lt_or_ge t (u - 1) with g | g
    · exact g
    · exact absurd (by rw [show u - 1 = t by omega]; exact hr.1) (ht e)
  · rw [upd_ne _ _ (by omega)]
    exact a11 s hs
theorem cI_wk {O : Nat → Int32} {P : Nat → Nat → Int32} {Y : Nat → Nat → Int64} {u l d : Nat} (h : cI u l d O P Y) {n : Nat} (hn : n < u) : cInv (upd (upd O 13 (Int32.ofInt 1)) 14 (Int32.ofInt 0)) (updA P 56 (upd (P 56) 0 (nI n))) Y ∧ cSt O P (upd (upd O 13 (Int32.ofInt 1)) 14 (Int32.ofInt 0)) (updA P 56 (upd (P 56) 0 (nI n))) := by
  obtain ⟨a1, a2, a3, a4, a5, a6, a7, a8, a9, a10, a11⟩ := h
  refine ⟨⟨u, l, 0, a1, a2, pgB_row a3 (fun i hi => updA_ne _ _ (by omega)), a4, a5, a6, by decide, rfl, Or.inr rfl, fun _ => ⟨n, hn, ?_⟩, fun s hs => ?_⟩, rfl, updA_ne _ _ (by decide)⟩
  · rw [updA_self]
    exact ⟨upd_self _ _ _, fun i hi => ⟨n, Nat.le_refl _, by rw [show i = 0 by omega]; exact upd_self _ _ _⟩⟩
  · rw [upd_ne _ _ (by omega), upd_ne _ _ (by omega)]
    exact a11 s hs
theorem cI_go {O : Nat → Int32} {P : Nat → Nat → Int32} {Y : Nat → Nat → Int64} {u l d : Nat} (h : cI u l d O P Y) {d' : Nat} {N D : Nat → Int32} (hd : d' < 40) (hr : O 13 = 1 → ∃ t, t < u ∧ rtN t d' N) : cInv (upd O 14 (nI d')) (updA (updA P 56 N) 57 D) Y ∧ cSt O P (upd O 14 (nI d')) (updA (updA P 56 N) 57 D) := by
  obtain ⟨a1, a2, a3, a4, a5, a6, a7, a8, a9, a10, a11⟩ := h
  refine ⟨⟨u, l, d', a1, a2, pgB_row a3 (fun i hi => by rw [updA_ne _ _ (by omega), updA_ne _ _ (by omega)]), a4, a5, a6, hd, upd_self _ _ _, a9, hr, fun s hs => ?_⟩, rfl, by rw [updA_ne _ _ (by decide), updA_ne _ _ (by decide)]⟩
  rw [upd_ne _ _ (by omega)]
  exact a11 s hs
theorem cI_hr {O : Nat → Int32} {P P' : Nat → Nat → Int32} {Y : Nat → Nat → Int64} {u l d : Nat} (h : cI u l d O P Y) {l' : Nat} (hl : l' ≤ 20) (hP : ∀ i, i ≠ 32 → P' i = P i) : cInv (upd O 9 (nI l')) P' Y ∧ cSt O P (upd O 9 (nI l')) P' := by
  refine ⟨⟨u, l', d, cI_mk h (Nat.le_refl _) h.1 ((upd_ne _ _ (by decide)).trans h.2.1) (pgB_row h.2.2.1 (fun i hi => hP i (by omega))) hl (upd_self _ _ _) h.2.2.2.2.2.1 (upd_ne _ _ (by decide)) (upd_ne _ _ (by decide)) (hP 56 (by decide)) (fun s hs => ?_)⟩, upd_ne _ _ (by decide), hP 75 (by decide)⟩
  rw [upd_ne _ _ (by omega)]
  exact h.2.2.2.2.2.2.2.2.2.2 s hs
theorem cI_ty {O O' : Nat → Int32} {P : Nat → Nat → Int32} {Y Y' : Nat → Nat → Int64} {u l d : Nat} (h : cI u l d O P Y) (hY : wyI Y → wyI Y') (hO : ∀ j, j ≠ 10 → j ≠ 11 → j ≠ 12 → O' j = O j) : cInv O' P Y' ∧ cSt O P O' P := by
  refine ⟨⟨u, l, d, cI_mk h (Nat.le_refl _) h.1 ((hO 1 (by decide) (by decide) (by decide)).trans h.2.1) h.2.2.1 h.2.2.2.1 ((hO 9 (by decide) (by decide) (by decide)).trans h.2.2.2.2.1) (hY h.2.2.2.2.2.1) (hO 13 (by decide) (by decide) (by decide)) (hO 14 (by decide) (by decide) (by decide)) rfl (fun s hs => ?_)⟩, hO 0 (by decide) (by decide) (by decide), rfl⟩
  rw [hO (24 + 10 * s) (by omega) (by omega) (by omega)]
  exact h.2.2.2.2.2.2.2.2.2.2 s hs
theorem cI_mn {O : Nat → Int32} {P : Nat → Nat → Int32} {Y : Nat → Nat → Int64} {u l d : Nat} (h : cI u l d O P Y) (x : Int32) : cInv (upd O 0 x) P Y := by
  refine ⟨u, l, d, cI_mk h (Nat.le_refl _) h.1 ((upd_ne _ _ (by decide)).trans h.2.1) h.2.2.1 h.2.2.2.1 ((upd_ne _ _ (by decide)).trans h.2.2.2.2.1) h.2.2.2.2.2.1 (upd_ne _ _ (by decide)) (upd_ne _ _ (by decide)) rfl (fun s hs => ?_)⟩
  rw [upd_ne _ _ (by omega)]
  exact h.2.2.2.2.2.2.2.2.2.2 s hs
theorem cI_ks {O : Nat → Int32} {P : Nat → Nat → Int32} {Y : Nat → Nat → Int64} {u l d : Nat} (h : cI u l d O P Y) (R : Nat → Int32) : cInv O (updA P 75 R) Y :=
  ⟨u, l, d, cI_mk h (Nat.le_refl _) h.1 h.2.1 (pgB_row h.2.2.1 (fun i hi => updA_ne _ _ (by omega))) h.2.2.2.1 h.2.2.2.2.1 h.2.2.2.2.2.1 rfl rfl (updA_ne _ _ (by decide)) h.2.2.2.2.2.2.2.2.2.2⟩
theorem cSt_refl (O : Nat → Int32) (P : Nat → Nat → Int32) : cSt O P O P := ⟨rfl, rfl⟩
/-- what holds of the reference between calls -/
def mI (u h d : Nat) (o : Nat → Int32) (A : Nat → Nat → Int32) : Prop := u ≤ 120 ∧ o 0 = nI u ∧ tbI 0 u A ∧ blI A ∧ h ≤ 20 ∧ o 10 = nI h ∧ nnW h (A 8) ∧ d ≤ 39 ∧ o 33 = nI d ∧ (o 30 = 0 ∨ o 30 = 1) ∧ (o 30 = 1 → ∃ t, t < u ∧ rtM A t d (A 20)) ∧ szS A
def mInv (o : Nat → Int32) (A : Nat → Nat → Int32) : Prop := ∃ u h d, mI u h d o A
def mSt (A A' : Nat → Nat → Int32) : Prop := A' 6 = A 6 ∧ A' 7 = A 7
theorem rtM_fr {A A' : Nat → Nat → Int32} {u t d : Nat} {N : Nat → Int32} (ht : t < u) (e : ∀ i, i < u → A' 4 i = A 4 i) (h : rtM A t d N) : rtM A' t d N := ⟨h.1, fun i hi => by
  obtain ⟨j, hj, e2, hz⟩ := h.2 i hi
  refine ⟨j, hj, e2, ?_⟩
  unfold szN at hz ⊢
  rw [e j (by omega)]
  exact hz⟩
theorem blI_r {A A' : Nat → Nat → Int32} (h : blI A) (e : mSt A A') : blI A' := ⟨fun i => by rw [e.1]; exact h.1 i, fun i => by rw [e.2]; exact h.2 i⟩
theorem szS_r {A A' : Nat → Nat → Int32} (h : szS A) (e : A' 12 = A 12) : szS A' := fun d hd => by rw [e]; exact h d hd
theorem mI_mk {o o' : Nat → Int32} {A A' : Nat → Nat → Int32} {u h d : Nat} (H : mI u h d o A) {u' h' : Nat} (hu : u ≤ u') (hu2 : u' ≤ 120) (h0 : o' 0 = nI u') (hT : tbI 0 u' A') (e : mSt A A') (hh : h' ≤ 20) (h10 : o' 10 = nI h') (hw : nnW h' (A' 8)) (h33 : o' 33 = o 33) (h30 : o' 30 = o 30) (e20 : A' 20 = A 20) (e4 : ∀ i, i < u → A' 4 i = A 4 i) (hS : szS A') : mInv o' A' := by
  obtain ⟨a1, a2, a3, a4, a5, a6, a7, a8, a9, a10, a11, a12⟩ := H
  refine ⟨u', h', d, hu2, h0, hT, blI_r a4 e, hh, h10, hw, a8, h33.trans a9, by rw [h30]; exact a10, fun q => ?_, hS⟩
  rw [h30] at q
  obtain ⟨t, ht, hr⟩ := a11 q
  exact ⟨t, by omega, by rw [e20]; exact rtM_fr ht e4 hr⟩
theorem mI_nd {o : Nat → Int32} {A A' : Nat → Nat → Int32} {u h d : Nat} (H : mI u h d o A) {u' : Nat} (q : ndX u A u' A') : mInv (upd o 0 (nI u')) A' ∧ mSt A A' := by
  obtain ⟨hu, hu2, hT, hr, hf⟩ := q
  exact ⟨mI_mk H hu hu2 (upd_self _ _ _) hT ⟨hr 6 (by decide), hr 7 (by decide)⟩ H.2.2.2.2.1 ((upd_ne _ _ (by decide)).trans H.2.2.2.2.2.1) (by rw [hr 8 (by decide)]; exact H.2.2.2.2.2.2.1) (upd_ne _ _ (by decide)) (upd_ne _ _ (by decide)) (hr 20 (by decide)) (fun i hi => hf 4 i hi) (szS_r H.2.2.2.2.2.2.2.2.2.2.2 (hr 12 (by decide))), hr 6 (by decide), hr 7 (by decide)⟩
theorem mI_y {o o' : Nat → Int32} {A A' : Nat → Nat → Int32} {u h d : Nat} (H : mI u h d o A) (q : ndY o u A o' A') : mInv o' A' ∧ mSt A A' := by
  obtain ⟨⟨u', hu, hu2, h0, hT⟩, ho, hr, hf⟩ := q
  exact ⟨mI_mk H hu hu2 h0 hT ⟨hr 6 (by decide), hr 7 (by decide)⟩ H.2.2.2.2.1 ((ho 10 (by decide) (by decide) (by decide)).trans H.2.2.2.2.2.1) (by rw [hr 8 (by decide)]; exact H.2.2.2.2.2.2.1) (ho 33 (by decide) (by decide) (by decide)) (ho 30 (by decide) (by decide) (by decide)) (hr 20 (by decide)) (fun i hi => hf 4 i hi) (szS_r H.2.2.2.2.2.2.2.2.2.2.2 (hr 12 (by decide))), hr 6 (by decide), hr 7 (by decide)⟩
theorem mI_q {o o' : Nat → Int32} {A A' : Nat → Nat → Int32} {u h d : Nat} (H : mI u h d o A) (q : qX o A o' A') : mInv o' A' ∧ mSt A A' := by
  have hr := fun (r : Nat) (a : r ≠ 14) (b : r ≠ 15) => q.2 r a b
  exact ⟨mI_mk H (Nat.le_refl _) H.1 ((q.1 0 (by decide)).trans H.2.1) (tbI_q H.2.2.1 q) ⟨hr 6 (by decide) (by decide), hr 7 (by decide) (by decide)⟩ H.2.2.2.2.1 ((q.1 10 (by decide)).trans H.2.2.2.2.2.1) (by rw [hr 8 (by decide) (by decide)]; exact H.2.2.2.2.2.2.1) (q.1 33 (by decide)) (q.1 30 (by decide)) (hr 20 (by decide) (by decide)) (fun i _ => by rw [hr 4 (by decide) (by decide)]) (szS_r H.2.2.2.2.2.2.2.2.2.2.2 (hr 12 (by decide) (by decide))), hr 6 (by decide) (by decide), hr 7 (by decide) (by decide)⟩
theorem mI_e {o o' : Nat → Int32} {A A' : Nat → Nat → Int32} {u h d : Nat} (H : mI u h d o A) (q : eX o A o' A') : mInv o' A' ∧ mSt A A' := by
  obtain ⟨⟨h', hh, h10, hw⟩, ho, hr⟩ := q
  exact ⟨mI_mk H (Nat.le_refl _) H.1 ((ho 0 (by decide) (by decide)).trans H.2.1) (tbI_fr H.2.2.1 (fun r hr0 i _ _ => by rw [hr r (by omega) (by omega) (by omega)])) ⟨hr 6 (by decide) (by decide) (by decide), hr 7 (by decide) (by decide) (by decide)⟩ hh h10 hw (ho 33 (by decide) (by decide)) (ho 30 (by decide) (by decide)) (hr 20 (by decide) (by decide) (by decide)) (fun i _ => by rw [hr 4 (by decide) (by decide) (by decide)]) (szS_r H.2.2.2.2.2.2.2.2.2.2.2 (hr 12 (by decide) (by decide) (by decide))), hr 6 (by decide) (by decide) (by decide), hr 7 (by decide) (by decide) (by decide)⟩
theorem mI_f {o o' : Nat → Int32} {A A' : Nat → Nat → Int32} {u h d : Nat} (H : mI u h d o A) (q : fwX o A o' A') : mInv o' A' ∧ mSt A A' := by
  obtain ⟨⟨h', hh, h10, hw⟩, ho, hr⟩ := q
  exact ⟨mI_mk H (Nat.le_refl _) H.1 ((ho 0 (by decide) (by decide) (by decide)).trans H.2.1) (tbI_fr H.2.2.1 (fun r hr0 i _ _ => by rw [hr r (by omega) (by omega) (by omega)])) ⟨hr 6 (by decide) (by decide) (by decide), hr 7 (by decide) (by decide) (by decide)⟩ hh h10 hw (ho 33 (by decide) (by decide) (by decide)) (ho 30 (by decide) (by decide) (by decide)) (hr 20 (by decide) (by decide) (by decide)) (fun i _ => by rw [hr 4 (by decide) (by decide) (by decide)]) (szS_r H.2.2.2.2.2.2.2.2.2.2.2 (hr 12 (by decide) (by decide) (by decide))), hr 6 (by decide) (by decide) (by decide), hr 7 (by decide) (by decide) (by decide)⟩
theorem mI_cl {o o' : Nat → Int32} {A A' : Nat → Nat → Int32} {u h d : Nat} (H : mI u h d o A) (q : clX o A o' A') : mInv o' A' ∧ mSt A A' := by
  obtain ⟨ho, hf, hr⟩ := q
  have hu := H.1
  exact ⟨mI_mk H (Nat.le_refl _) H.1 ((ho 0 (by decide)).trans H.2.1) (tbI_fr H.2.2.1 (fun r hr0 i _ hi => hf r i (by omega) (by omega))) ⟨hr 6 (by decide) (by decide), hr 7 (by decide) (by decide)⟩ H.2.2.2.2.1 ((ho 10 (by decide)).trans H.2.2.2.2.2.1) (by rw [hr 8 (by decide) (by decide)]; exact H.2.2.2.2.2.2.1) (ho 33 (by decide)) (ho 30 (by decide)) (hr 20 (by decide) (by decide)) (fun i hi => hf 4 i (by omega) (by decide)) (szS_r H.2.2.2.2.2.2.2.2.2.2.2 (hr 12 (by decide) (by decide))), hr 6 (by decide) (by decide), hr 7 (by decide) (by decide)⟩
theorem mI_sh {o o' : Nat → Int32} {A A' : Nat → Nat → Int32} {u h d : Nat} (H : mI u h d o A) (q : shM o A o' A') : mInv o' A' ∧ mSt A A' := by
  obtain ⟨ho, hr, hS⟩ := q
  exact ⟨mI_mk H (Nat.le_refl _) H.1 ((ho 0 (by decide)).trans H.2.1) (tbI_fr H.2.2.1 (fun r hr0 i _ _ => by rw [hr r (by omega) (by omega)])) ⟨hr 6 (by decide) (by decide), hr 7 (by decide) (by decide)⟩ H.2.2.2.2.1 ((ho 10 (by decide)).trans H.2.2.2.2.2.1) (by rw [hr 8 (by decide) (by decide)]; exact H.2.2.2.2.2.2.1) (ho 33 (by decide)) (ho 30 (by decide)) (hr 20 (by decide) (by decide)) (fun i _ => by rw [hr 4 (by decide) (by decide)]) hS, hr 6 (by decide) (by decide), hr 7 (by decide) (by decide)⟩
theorem mI_o {o o' : Nat → Int32} {A : Nat → Nat → Int32} {u h d : Nat} (H : mI u h d o A) (ho : ∀ j, j ≠ 16 → j ≠ 28 → o' j = o j) : mInv o' A ∧ mSt A A :=
  ⟨mI_mk H (Nat.le_refl _) H.1 ((ho 0 (by decide) (by decide)).trans H.2.1) H.2.2.1 ⟨rfl, rfl⟩ H.2.2.2.2.1 ((ho 10 (by decide) (by decide)).trans H.2.2.2.2.2.1) H.2.2.2.2.2.2.1 (ho 33 (by decide) (by decide)) (ho 30 (by decide) (by decide)) rfl (fun i _ => rfl) H.2.2.2.2.2.2.2.2.2.2.2, rfl, rfl⟩
theorem mI_hr {o : Nat → Int32} {A : Nat → Nat → Int32} {u h d : Nat} (H : mI u h d o A) {h' : Nat} {g : Nat → Int32} (hh : h' ≤ 20) (hw : nnW h' g) : mInv (upd o 10 (nI h')) (updA A 8 g) ∧ mSt A (updA A 8 g) :=
  ⟨mI_mk H (Nat.le_refl _) H.1 ((upd_ne _ _ (by decide)).trans H.2.1) (tbI_u H.2.2.1 (by decide) _) ⟨updA_ne _ _ (by decide), updA_ne _ _ (by decide)⟩ hh (upd_self _ _ _) (by rw [updA_self]; exact hw) (upd_ne _ _ (by decide)) (upd_ne _ _ (by decide)) (updA_ne _ _ (by decide)) (fun i _ => by rw [updA_ne _ _ (by decide)]) (szS_r H.2.2.2.2.2.2.2.2.2.2.2 (updA_ne _ _ (by decide))), updA_ne _ _ (by decide), updA_ne _ _ (by decide)⟩
theorem mI_hu {o : Nat → Int32} {A : Nat → Nat → Int32} {u h d : Nat} (H : mI u h d o A) : mInv (upd o 10 (Int32.ofInt 0)) A ∧ mSt A A :=
  ⟨mI_mk H (Nat.le_refl _) H.1 ((upd_ne _ _ (by decide)).trans H.2.1) H.2.2.1 ⟨rfl, rfl⟩ (Nat.zero_le 20) (upd_self _ _ _) (fun i hi => absurd hi (by omega)) (upd_ne _ _ (by decide)) (upd_ne _ _ (by decide)) rfl (fun i _ => rfl) H.2.2.2.2.2.2.2.2.2.2.2, rfl, rfl⟩
theorem mI_un {o : Nat → Int32} {A : Nat → Nat → Int32} {u h d : Nat} (H : mI u h d o A) (h0 : 0 < u) (ht : o 30 = 1 → ¬ A 20 0 = nI (u - 1)) : mInv (upd o 0 (nI (u - 1))) A ∧ mSt A A := by
  obtain ⟨a1, a2, a3, a4, a5, a6, a7, a8, a9, a10, a11, a12⟩ := H
  refine ⟨⟨u - 1, h, d, by omega, upd_self _ _ _, tbI_le a3 (by omega), a4, a5, (upd_ne _ _ (by decide)).trans a6, a7, a8, (upd_ne _ _ (by decide)).trans a9, by rw [upd_ne _ _ (by decide)]; exact a10, fun e => ?_, a12⟩, rfl, rfl⟩
  rw [upd_ne _ _ (by decide)] at e
  obtain ⟨t, ht2, hr⟩ := a11 e
  refine ⟨t, ?_, hr⟩
  rcases Nat.lt_or_ge t (u - 1) with g | g
  · exact g
  · exact absurd (by rw [show u - 1 = t by omega]; exact hr.1) (ht e)
theorem mI_wk {o : Nat → Int32} {A : Nat → Nat → Int32} {u h d : Nat} (H : mI u h d o A) {n : Nat} (hn : n < u) : mInv (upd (upd o 30 (Int32.ofInt 1)) 33 (Int32.ofInt 0)) (updA A 20 (upd (A 20) 0 (nI n))) ∧ mSt A (updA A 20 (upd (A 20) 0 (nI n))) := by
  obtain ⟨a1, a2, a3, a4, a5, a6, a7, a8, a9, a10, a11, a12⟩ := H
  refine ⟨⟨u, h, 0, a1, a2, tbI_u a3 (by decide) _, blI_r a4 ⟨updA_ne _ _ (by decide), updA_ne _ _ (by decide)⟩, a5, a6, by rw [updA_ne _ _ (by decide)]; exact a7, by decide, rfl, Or.inr rfl, fun _ => ⟨n, hn, ?_⟩, szS_r a12 (updA_ne _ _ (by decide))⟩, updA_ne _ _ (by decide), updA_ne _ _ (by decide)⟩
  rw [updA_self]
  refine ⟨upd_self _ _ _, fun i hi => ⟨n, Nat.le_refl _, by rw [show i = 0 by omega]; exact upd_self _ _ _, ?_⟩⟩
  have := (rN_sz (a3 n (Nat.zero_le _) hn)).2.1
  show szN A n + i ≤ 40
  omega
theorem mI_go {o : Nat → Int32} {A : Nat → Nat → Int32} {u h d : Nat} (H : mI u h d o A) {d' : Nat} {N D : Nat → Int32} (hd : d' ≤ 39) (hr : o 30 = 1 → ∃ t, t < u ∧ rtM A t d' N) : mInv (upd o 33 (nI d')) (updA (updA A 20 N) 21 D) ∧ mSt A (updA (updA A 20 N) 21 D) := by
  obtain ⟨a1, a2, a3, a4, a5, a6, a7, a8, a9, a10, a11, a12⟩ := H
  have e : ∀ r, r ≠ 20 → r ≠ 21 → updA (updA A 20 N) 21 D r = A r := fun r a b => by rw [updA_ne _ _ b, updA_ne _ _ a]
  refine ⟨⟨u, h, d', a1, a2, tbI_u (tbI_u a3 (by decide) _) (by decide) _, blI_r a4 ⟨e 6 (by decide) (by decide), e 7 (by decide) (by decide)⟩, a5, a6, by rw [e 8 (by decide) (by decide)]; exact a7, hd, upd_self _ _ _, a10, fun q => ?_, szS_r a12 (e 12 (by decide) (by decide))⟩, e 6 (by decide) (by decide), e 7 (by decide) (by decide)⟩
  obtain ⟨t, ht, k⟩ := hr q
  exact ⟨t, ht, rtM_fr ht (fun i _ => by rw [e 4 (by decide) (by decide)]) k⟩
theorem mI_b {o : Nat → Int32} {A : Nat → Nat → Int32} {u h d : Nat} (H : mI u h d o A) {r : Nat} (hr : r = 6 ∨ r = 7) {i : Nat} {v : Int32} (hv : v = 0 ∨ v = 1) : mInv o (updA A r (upd (A r) i v)) := by
  obtain ⟨a1, a2, a3, a4, a5, a6, a7, a8, a9, a10, a11, a12⟩ := H
  have e : ∀ q, q ≠ r → updA A r (upd (A r) i v) q = A q := fun q a => updA_ne _ _ a
  have ub : ∀ (g : Nat → Int32) (j : Nat), (g j = 0 ∨ g j = 1) → (upd g i v j = 0 ∨ upd g i v j = 1) := fun g j hg => by
    by_cases q : j = i
    · subst q
      rw [upd_self]
      exact hv
    · rw [upd_ne _ _ q]
      exact hg
  refine ⟨u, h, d, a1, a2, tbI_u a3 (by omega) _, ⟨fun j => ?_, fun j => ?_⟩, a5, a6, by rw [e 8 (by omega)]; exact a7, a8, a9, a10, fun q => ?_, szS_r a12 (e 12 (by omega))⟩
  · by_cases q : 6 = r
    · subst q
      rw [updA_self]
      exact ub _ _ (a4.1 j)
    · rw [e 6 q]
      exact a4.1 j
  · by_cases q : 7 = r
    · subst q
      rw [updA_self]
      exact ub _ _ (a4.2 j)
    · rw [e 7 q]
      exact a4.2 j
  · obtain ⟨t, ht, k⟩ := a11 q
    exact ⟨t, ht, by rw [e 20 (by omega)]; exact rtM_fr ht (fun i _ => by rw [e 4 (by omega)]) k⟩
/-! bits -/
def bt (m k : Nat) : Int32 := if m.testBit k then 1 else 0
set_option maxRecDepth 100000 in
theorem hb_bt : ∀ m, m < 1024 → ∀ k, k < 10 → hbW (nI m) (nI k) = bt m k := by decide +kernel
theorem nI_or2 (a b : Nat) : nI a ||| nI b = nI (a ||| b) := by
  apply Int32.toBitVec_inj.mp
  rw [Int32.toBitVec_or]
  show BitVec.ofNat 32 a ||| BitVec.ofNat 32 b = BitVec.ofNat 32 (a ||| b)
  apply BitVec.eq_of_getLsbD_eq
  intro i hi
  rw [BitVec.getLsbD_or, BitVec.getLsbD_ofNat, BitVec.getLsbD_ofNat, BitVec.getLsbD_ofNat, Nat.testBit_or]
  cases decide (i < 32) <;> rfl
theorem nI_an2 (a b : Nat) : nI a &&& nI b = nI (a &&& b) := by
  apply Int32.toBitVec_inj.mp
  rw [Int32.toBitVec_and]
  show BitVec.ofNat 32 a &&& BitVec.ofNat 32 b = BitVec.ofNat 32 (a &&& b)
  apply BitVec.eq_of_getLsbD_eq
  intro i hi
  rw [BitVec.getLsbD_and, BitVec.getLsbD_ofNat, BitVec.getLsbD_ofNat, BitVec.getLsbD_ofNat, Nat.testBit_and]
  cases decide (i < 32) <;> rfl
theorem and_1023 : ∀ m, m < 1024 → m &&& 1023 = m := by decide +kernel
theorem nI_1023 {m : Nat} (h : m < 1024) : nI m &&& nI 1023 = nI m := by rw [nI_an2, and_1023 m h]
theorem shl_kk : ∀ k, k < 10 → Int32.ofInt 1 <<< (nI k &&& 31) = nI (2 ^ k) := by decide +kernel
theorem not_kk : ∀ k, k < 10 → nI 1023 &&& ((Int32.ofInt 1 <<< (nI k &&& 31)) ^^^ Int32.ofInt (-1)) = nI (1023 ^^^ 2 ^ k) := by decide +kernel
theorem wb_1 : ∀ m, m < 1024 → ∀ k, k < 10 → wbW (nI m) (nI k) 1 = nI (m ||| 2 ^ k) := fun m _ k hk => by
  unfold wbW
  rw [if_neg (by decide), shl_kk k hk, nI_or2]
theorem wb_0 : ∀ m, m < 1024 → ∀ k, k < 10 → wbW (nI m) (nI k) 0 = nI (m &&& (1023 ^^^ 2 ^ k)) := fun m hm k hk => by
  unfold wbW
  rw [if_pos rfl, ← nI_1023 hm, Int32.and_assoc, not_kk k hk, nI_an2]
theorem t1023 : ∀ j, j < 10 → Nat.testBit 1023 j = true := by decide
def wbN (m k : Nat) (on : Int32) : Nat := if on = 1 then m ||| 2 ^ k else m &&& (1023 ^^^ 2 ^ k)
theorem wb_N {m k : Nat} (hm : m < 1024) (hk : k < 10) {on : Int32} (hon : on = 0 ∨ on = 1) : wbW (nI m) (nI k) on = nI (wbN m k on) := by
  rcases hon with rfl | rfl
  · exact wb_0 m hm k hk
  · exact wb_1 m hm k hk
theorem wbN_lt {m k : Nat} (hm : m < 1024) (hk : k < 10) (on : Int32) : wbN m k on < 1024 := by
  unfold wbN
  split
  · exact Nat.or_lt_two_pow (n := 10) hm (Nat.pow_lt_pow_right (by decide) hk)
  · exact Nat.lt_of_le_of_lt Nat.and_le_left hm
theorem wbN_t {m k j : Nat} (hj : j < 10) {on : Int32} (hon : on = 0 ∨ on = 1) : bt (wbN m k on) j = if j = k then on else bt m j := by
  unfold bt wbN
  rcases hon with rfl | rfl
  · rw [if_neg (show ¬ (0 : Int32) = 1 by decide), Nat.testBit_and, Nat.testBit_xor, t1023 j hj, Nat.testBit_two_pow]
    by_cases e : j = k
    · subst e
      simp
    · rw [if_neg e]
      have : decide (k = j) = false := decide_eq_false (fun h => e h.symm)
      rw [this]
      simp
  · rw [if_pos rfl, Nat.testBit_or, Nat.testBit_two_pow]
    by_cases e : j = k
    · subst e
      simp
    · rw [if_neg e]
      have : decide (k = j) = false := decide_eq_false (fun h => e h.symm)
      rw [this]
      simp
theorem bt_inj {m n : Nat} (hm : m < 1024) (hn : n < 1024) (h : ∀ j, j < 10 → bt m j = bt n j) : m = n := by
  apply Nat.eq_of_testBit_eq
  intro j
  by_cases hj : j < 10
  · have := h j hj
    unfold bt at this
    by_cases a : m.testBit j = true <;> by_cases b : n.testBit j = true
    · rw [a, b]
    · rw [if_pos a, if_neg b] at this
      exact absurd this (by decide)
    · rw [if_neg a, if_pos b] at this
      exact absurd this (by decide)
    · rw [Bool.not_eq_true] at a b
      rw [a, b]
  · rw [Nat.testBit_lt_two_pow (Nat.lt_of_lt_of_le hm (Nat.pow_le_pow_right (n := 2) (i := 10) (by decide) (by omega))), Nat.testBit_lt_two_pow (Nat.lt_of_lt_of_le hn (Nat.pow_le_pow_right (n := 2) (i := 10) (by decide) (by omega)))]
theorem wbN_eq {m k : Nat} (hm : m < 1024) (hk : k < 10) {on : Int32} (hon : on = 0 ∨ on = 1) : wbN m k on = m ↔ bt m k = on := by
  constructor
  · intro h
    have := wbN_t (m := m) (k := k) hk hon
    rw [h, if_pos rfl] at this
    exact this
  · intro h
    refine bt_inj (wbN_lt hm hk on) hm (fun j hj => ?_)
    rw [wbN_t hj hon]
    split
    · rename_i e
      rw [e, h]
    · rfl
/-- styles and meanings, here and there -/
def kpR (P : Nat → Nat → Int32) (A : Nat → Nat → Int32) : Prop := ∀ s, s < 8 → ∃ m, m < 1024 ∧ P 75 s = nI m ∧ ∀ k, k < 10 → A 7 (10 * s + k) = bt m k
def fnR (O : Nat → Int32) (A : Nat → Nat → Int32) : Prop := ∃ m, m < 1024 ∧ O 0 = nI m ∧ ∀ v, v < 10 → A 6 v = bt m v
def LI (O : Nat → Int32) (P : Nat → Nat → Int32) (Y : Nat → Nat → Int64) (o : Nat → Int32) (A : Nat → Nat → Int32) : Prop := cInv O P Y ∧ mInv o A ∧ kpR P A ∧ fnR O A
theorem LI_mk {O O' : Nat → Int32} {P P' : Nat → Nat → Int32} {Y Y' : Nat → Nat → Int64} {o o' : Nat → Int32} {A A' : Nat → Nat → Int32} (h : LI O P Y o A) (c : cInv O' P' Y' ∧ cSt O P O' P') (m : mInv o' A' ∧ mSt A A') : LI O' P' Y' o' A' := by
  refine ⟨c.1, m.1, fun s hs => ?_, ?_⟩
  · obtain ⟨x, hx, e, hk⟩ := h.2.2.1 s hs
    exact ⟨x, hx, by rw [c.2.2]; exact e, fun k hk0 => by rw [m.2.2]; exact hk k hk0⟩
  · obtain ⟨x, hx, e, hk⟩ := h.2.2.2
    exact ⟨x, hx, by rw [c.2.1]; exact e, fun k hk0 => by rw [m.2.1]; exact hk k hk0⟩
theorem e764 : ∀ k, k < 10 → (hbW (Int16.ofInt 764).toInt32 (nI k) = Int32.ofInt 1 ↔ (2 ≤ k ∧ k ≠ 8)) := by decide +kernel
theorem k_of {k : Int32} (h1 : ¬ k < 0) (h2 : ¬ c8 9 < k) : ∃ n : Nat, n < 10 ∧ k = nI n := by
  rw [Int32.lt_iff_toInt_lt, Int32.toInt_zero] at h1
  rw [Int32.lt_iff_toInt_lt, show (c8 9).toInt = 9 from rfl] at h2
  refine ⟨k.toInt.toNat, by omega, ?_⟩
  rw [← Int32.toInt_inj, nI_toInt (by omega)]
  omega
/-- keeps answers alike and keeps the relation -/
theorem keeps_ok {P : Nat → Nat → Int32} {A : Nat → Nat → Int32} {s k : Nat} {on : Int32} (h : kpR P A) (hs : s < 8) (hk : k < 10) (hon : on = 0 ∨ on = 1) : kpR (updA P 75 (upd (P 75) s (wbW (P 75 s) (nI k) on))) (updA A 7 (upd (A 7) (10 * s + k) on)) ∧ (wbW (P 75 s) (nI k) on = P 75 s ↔ A 7 (10 * s + k) = on) := by
  obtain ⟨m, hm, e, hb⟩ := h s hs
  have hw := wb_N hm hk hon
  constructor
  · intro s2 hs2
    by_cases q : s2 = s
    · subst q
      refine ⟨wbN m k on, wbN_lt hm hk on, ?_, fun j hj => ?_⟩
      · rw [updA_self, upd_self, e, hw]
      · rw [updA_self, wbN_t hj hon]
        by_cases w : j = k
        · subst w
          rw [upd_self, if_pos rfl]
        · rw [upd_ne _ _ (by omega), if_neg w]
          exact hb j hj
    · obtain ⟨m2, hm2, e2, hb2⟩ := h s2 hs2
      refine ⟨m2, hm2, ?_, fun j hj => ?_⟩
      · rw [updA_self, upd_ne _ _ q]
        exact e2
      · rw [updA_self, upd_ne _ _ (by omega)]
        exact hb2 j hj
  · rw [e, hw, hb k hk, nI_eq (by have := wbN_lt hm hk on; omega) (by omega)]
    exact wbN_eq hm hk hon
theorem means_ok {O : Nat → Int32} {A : Nat → Nat → Int32} {v : Nat} {on : Int32} (h : fnR O A) (hk : v < 10) (hon : on = 0 ∨ on = 1) : fnR (upd O 0 (wbW (O 0) (nI v) on)) (updA A 6 (upd (A 6) v on)) ∧ (wbW (O 0) (nI v) on = O 0 ↔ A 6 v = on) := by
  obtain ⟨m, hm, e, hb⟩ := h
  have hw := wb_N hm hk hon
  constructor
  · refine ⟨wbN m v on, wbN_lt hm hk on, ?_, fun j hj => ?_⟩
    · rw [upd_self, e, hw]
    · rw [updA_self, wbN_t hj hon]
      by_cases w : j = v
      · subst w
        rw [upd_self, if_pos rfl]
      · rw [upd_ne _ _ w, if_neg w]
        exact hb j hj
  · rw [e, hw, hb v hk, nI_eq (by have := wbN_lt hm hk on; omega) (by omega)]
    exact wbN_eq hm hk hon
/-- at the beginning -/
theorem A00_6 (i : Nat) : A00 6 i = 0 := rfl
theorem ub_1 {g : Nat → Int32} (h : ∀ j, g j = 0 ∨ g j = 1) (i : Nat) {v : Int32} (hv : v = 0 ∨ v = 1) : ∀ j, upd g i v j = 0 ∨ upd g i v j = 1 := fun j => by
  by_cases q : j = i
  · subst q
    rw [upd_self]
    exact hv
  · rw [upd_ne _ _ q]
    exact h j
theorem A00_7 : ∀ i, A00 7 i = 0 ∨ A00 7 i = 1 := ub_1 (ub_1 (ub_1 (ub_1 (ub_1 (ub_1 (ub_1 (ub_1 (fun _ => Or.inl rfl) 2 (Or.inr rfl)) 3 (Or.inr rfl)) 4 (Or.inr rfl)) 5 (Or.inr rfl)) 6 (Or.inr rfl)) 7 (Or.inr rfl)) 8 (Or.inl rfl)) 9 (Or.inr rfl)
theorem LI_0 : LI O00 P00 (fun _ _ => 0) o00 A00 := by
  refine ⟨⟨0, 0, 0, by decide, rfl, fun n hn => absurd hn (by omega), by decide, rfl, fun i j _ _ => ⟨show (0 : Int) ≤ (0 : Int64).toInt by decide, by
    show (0 : Int64).toInt ≤ _
    exact Int.natCast_nonneg _⟩, by decide, rfl, Or.inl rfl, fun e => absurd e (by decide), fun s hs => ⟨0, by decide, ?_⟩⟩, ⟨0, 0, 0, by decide, rfl, fun n _ hn => absurd hn (by omega), ⟨fun i => Or.inl (A00_6 i), A00_7⟩, by decide, rfl, fun i hi => absurd hi (by omega), by decide, rfl, Or.inl rfl, fun e => absurd e (by decide), fun d hd => ⟨0, by decide, rfl⟩⟩, ?_, ⟨0, by decide, rfl, fun v _ => ?_⟩⟩
  · show O00 (24 + 10 * s) = _
    unfold O00
    rw [if_neg (by omega)]
    rfl
  · intro s hs
    match s, hs with
    | 0, _ => exact ⟨764, by decide, rfl, by decide +kernel⟩
    | 1, _ => exact ⟨0, by decide, rfl, by decide +kernel⟩
    | 2, _ => exact ⟨0, by decide, rfl, by decide +kernel⟩
    | 3, _ => exact ⟨0, by decide, rfl, by decide +kernel⟩
    | 4, _ => exact ⟨0, by decide, rfl, by decide +kernel⟩
    | 5, _ => exact ⟨0, by decide, rfl, by decide +kernel⟩
    | 6, _ => exact ⟨0, by decide, rfl, by decide +kernel⟩
    | 7, _ => exact ⟨0, by decide, rfl, by decide +kernel⟩
    | s + 8, h => exact absurd h (by omega)
  · unfold bt
    rw [Nat.zero_testBit]
    rfl
end
section
/-- the words of a number's last k digits -/
def dgL (x : Int32) : Nat → List Int32
  | 0 => []
  | k + 1 => (c8 10 + (x / nI (10 ^ k) - x / nI (10 ^ k) / c8 10 * c8 10)) :: dgL x k
theorem dgL_len (x : Int32) : ∀ k, (dgL x k).length = k
  | 0 => rfl
  | k + 1 => by
    show (dgL x k).length + 1 = k + 1
    rw [dgL_len x k]
/-- a NODE's words without begin and end of its own, out of those of its PARTS -/
noncomputable def coL (A : Nat → Nat → Int32) (R : Int32 → List Int32) (n : Nat) : List Int32 :=
  if A 0 n = nI 0 then [A 1 n] else if A 0 n = nI 1 then dgL (A 1 n) (dgN (A 1 n)) else if A 0 n = nI 7 then c8 25 :: R (A 2 n) else if A 0 n = nI 8 then c8 26 :: (R (A 2 n) ++ [c8 27]) else if A 0 n = nI 9 then A 1 n :: c8 28 :: R (A 2 n) else R (A 2 n) ++ ((c8 18 + A 0 n) :: R (A 3 n))
def brL (c : Int32) (L : List Int32) : List Int32 := if c = 0 then L else c8 29 :: (L ++ [c8 30])
noncomputable def wdW (A : Nat → Nat → Int32) (s : Nat) : Nat → Int32 → List Int32
  | 0, _ => []
  | z + 1, x => if x < 0 then [] else brL (A 7 (10 * s + (A 0 x.toNatClampNeg).toNatClampNeg)) (coL A (wdW A s z) x.toNatClampNeg)
theorem wdW_m2 (A : Nat → Nat → Int32) (s z : Nat) : wdW A s z m2 = [] := by
  cases z with
  | zero => rfl
  | succ z => exact if_pos (by decide)
theorem wdW_nI {A : Nat → Nat → Int32} {s z n k : Nat} (hn : n < 450) (hk : k < 10) (h0 : A 0 n = nI k) : wdW A s (z + 1) (nI n) = brL (A 7 (10 * s + k)) (coL A (wdW A s z) n) := by
  show (if nI n < 0 then [] else _) = _
  rw [if_neg (nI_pos (by omega)), nI_clamp (by omega), h0, nI_clamp (by omega)]
theorem nIne {a b : Nat} (ha : a < 10) (hb : b < 10) (h : a ≠ b) : ¬ nI a = nI b := fun e => h ((nI_eq (by omega) (by omega)).mp e)
theorem coL_0 {A : Nat → Nat → Int32} {R : Int32 → List Int32} {n : Nat} (h0 : A 0 n = nI 0) : coL A R n = [A 1 n] := if_pos h0
theorem coL_1 {A : Nat → Nat → Int32} {R : Int32 → List Int32} {n : Nat} (h0 : A 0 n = nI 1) : coL A R n = dgL (A 1 n) (dgN (A 1 n)) := by
  unfold coL
  rw [h0, if_neg (nIne (by decide) (by decide) (by decide)), if_pos rfl]
theorem coL_7 {A : Nat → Nat → Int32} {R : Int32 → List Int32} {n : Nat} (h0 : A 0 n = nI 7) : coL A R n = c8 25 :: R (A 2 n) := by
  unfold coL
  rw [h0, if_neg (nIne (by decide) (by decide) (by decide)), if_neg (nIne (by decide) (by decide) (by decide)), if_pos rfl]
theorem coL_8 {A : Nat → Nat → Int32} {R : Int32 → List Int32} {n : Nat} (h0 : A 0 n = nI 8) : coL A R n = c8 26 :: (R (A 2 n) ++ [c8 27]) := by
  unfold coL
  rw [h0, if_neg (nIne (by decide) (by decide) (by decide)), if_neg (nIne (by decide) (by decide) (by decide)), if_neg (nIne (by decide) (by decide) (by decide)), if_pos rfl]
theorem coL_9 {A : Nat → Nat → Int32} {R : Int32 → List Int32} {n : Nat} (h0 : A 0 n = nI 9) : coL A R n = A 1 n :: c8 28 :: R (A 2 n) := by
  unfold coL
  rw [h0, if_neg (nIne (by decide) (by decide) (by decide)), if_neg (nIne (by decide) (by decide) (by decide)), if_neg (nIne (by decide) (by decide) (by decide)), if_neg (nIne (by decide) (by decide) (by decide)), if_pos rfl]
theorem coL_2 {A : Nat → Nat → Int32} {R : Int32 → List Int32} {n k : Nat} (h1 : 2 ≤ k) (h2 : k ≤ 6) (h0 : A 0 n = nI k) : coL A R n = R (A 2 n) ++ ((c8 18 + nI k) :: R (A 3 n)) := by
  unfold coL
  rw [h0, if_neg (nIne (by omega) (by decide) (by omega)), if_neg (nIne (by omega) (by decide) (by omega)), if_neg (nIne (by omega) (by decide) (by omega)), if_neg (nIne (by omega) (by decide) (by omega)), if_neg (nIne (by omega) (by decide) (by omega))]
theorem brL_len (c : Int32) (L : List Int32) : (brL c L).length = L.length + (if c = 0 then 0 else 2) := by
  unfold brL
  split
  · rfl
  · rw [List.length_cons, List.length_append]
    rfl
/-- as many as length says -/
theorem wdW_len {lo hi : Nat} {A : Nat → Nat → Int32} (hh : hi ≤ 450) (hT : tbI lo hi A) (s : Nat) : ∀ (z : Nat) (x : Int32), pt lo hi A z x → (wdW A s z x).length = lnW A s z x := by
  intro z
  induction z with
  | zero => exact fun x _ => rfl
  | succ z ih =>
    intro x hx
    rcases hx with rfl | ⟨n, rfl, hlo, hn, hz⟩
    · rw [wdW_m2, lnW_m2]
      rfl
    · obtain ⟨hp2, hp3⟩ := rN_parts hT hlo hn hz
      have i2 := ih _ hp2
      have i3 := ih _ hp3
      obtain ⟨k, y, h0, hk, h4, hy, hs, _⟩ := hT n hlo hn
      rw [wdW_nI (by omega) hk h0, lnW_nI (by omega) hk h0, brL_len]
      have hown := ownW_c k h0
      rcases hs with ⟨k1, h2, h3, e⟩ | ⟨k1, k6, a, b, h2, la, ha, h3, lb, hb, e⟩ | ⟨k1, a, h2, la, ha, h3, e⟩
      · rcases (show k = 0 ∨ k = 1 by omega) with rfl | rfl
        · rw [coL_0 h0, hown.1 rfl, h2, h3, lnW_m2]
          show 1 + _ = _
          omega
        · rw [coL_1 h0, hown.2.1 rfl, h2, h3, lnW_m2, dgL_len]
          omega
      · rw [coL_2 k1 k6 h0, ownW_2 k1 k6 h0, List.length_append, List.length_cons, i2, i3]
        omega
      · rcases (show k = 7 ∨ k = 8 ∨ k = 9 by omega) with rfl | rfl | rfl
        · rw [coL_7 h0, hown.2.2.1 rfl, List.length_cons, i2, h3, lnW_m2]
          omega
        · rw [coL_8 h0, hown.2.2.2.1 rfl, List.length_cons, List.length_append, i2, h3, lnW_m2]
          show _ + 1 + 1 + _ = _
          omega
        · rw [coL_9 h0, hown.2.2.2.2 rfl, List.length_cons, List.length_cons, i2, h3, lnW_m2]
          omega
set_option maxHeartbeats 1000000 in
set_option maxRecDepth 20000 in
theorem sayXN2 (f : Nat → zC) (o : Nat → Int32) (A : Nat → Nat → Int32) (J : Nat → Nat → Int64) {s n z : Nat} (hn : n < 450) {c m : Int32} {n0 : Nat} {Q : Option Value → zW → Prop} : ∀ (k q : Nat) (g : Nat → Int32), k ≤ 4 → q + k ≤ 256 → ∀ {x5 x4 : Int32}, x5 = nI k → (1 ≤ k → x4 = nI (10 ^ (k - 1))) → zV (zMo (z + 1 + 2) zX7_say) false n0 0 0 270 [(3, .int c), (0, .ref 76), (1, .int (nI s)), (2, .int (nI n))] [] (wZ f o A J (q + k) m (appA g q (dgL (A 1 n) k))) Q → zV (zMo (z + 1 + 2) zX7_say) false n0 0 0 121 [(5, .int x5), (4, .int x4), (3, .int c), (0, .ref 76), (1, .int (nI s)), (2, .int (nI n))] [] (wZ f o A J q m g) Q := by
  have e1 : (nI n).toNatClampNeg = n := nI_clamp (by omega)
  have hv : vp_in (nI n) 450 := vp_in_nI (by omega) (by decide)
  intro k
  induction k with
  | zero =>
    intro q g hk hq x5 x4 e5 e4 kk
    subst e5
    iterate 2 (refine zv_step (bX7_say (z + 1 + 2)) rfl rfl trivial ?_)
    refine zv_ift (show nI 0 ≤ 0 by decide) ?_
    iterate 1 (refine zv_step (bX7_say (z + 1 + 2)) rfl rfl trivial ?_)
    refine zv_locals (l := [(5, .int (nI 0)), (4, .int x4), (3, .int c), (0, .ref 76), (1, .int (nI s)), (2, .int (nI n))]) (l' := [(3, .int c), (0, .ref 76), (1, .int (nI s)), (2, .int (nI n))]) ?_ kk
    simp
  | succ k ih =>
    intro q g hk hq x5 x4 e5 e4 kk
    subst e5
    iterate 2 (refine zv_step (bX7_say (z + 1 + 2)) rfl rfl trivial ?_)
    refine zv_iff (nI_nle (by omega) (by omega)) ?_
    iterate 5 (refine zv_step (bX7_say (z + 1 + 2)) rfl rfl trivial ?_)
    refine zv_iale (bX7_say (z + 1 + 2)) rfl rfl hv (show A 1 (nI n).toNatClampNeg = A 1 n by rw [e1]) ?_
    iterate 1 (refine zv_step (bX7_say (z + 1 + 2)) rfl rfl trivial ?_)
    refine zv_step (bX7_say (z + 1 + 2)) rfl rfl (by rw [e4 (by omega)]; exact nI_ne0 (Nat.pow_pos (by decide)) (by have := pw k hk; omega)) ?_
    iterate 1 (refine zv_step (bX7_say (z + 1 + 2)) rfl rfl trivial ?_)
    refine zv_step (bX7_say (z + 1 + 2)) rfl rfl (show ¬ c8 10 = 0 by decide) ?_
    iterate 1 (refine zv_step (bX7_say (z + 1 + 2)) rfl rfl trivial ?_)
    refine zv_V1 (bX7_say (z + 1 + 2)) rfl rfl rfl rfl rfl rfl rfl ⟨rfl, rfl, rfl⟩ ⟨by show 0 + 1 ≤ z + 1 + 2; omega, by show 8 + (2 + 11) + 64 * (0) ≤ 64 * (z + 1 + 2); omega⟩ ⟨Nat.zero_le _, Nat.zero_le _⟩ (mSays f (upd o 20 _) A J _ _ (by omega) _) ?_
    rintro _ _ ⟨rfl, rfl⟩
    iterate 2 (refine zv_step (bX7_say (z + 1 + 2)) rfl rfl trivial ?_)
    refine zv_step (bX7_say (z + 1 + 2)) rfl rfl (show ¬ c8 10 = 0 by decide) ?_
    iterate 3 (refine zv_step (bX7_say (z + 1 + 2)) rfl rfl trivial ?_)
    refine ih (q + 1) _ (by omega) (by omega) (nI_dec k) (fun h => by rw [e4 (by omega)]; exact pwd k h hk) ?_
    rw [show q + 1 + k = q + (k + 1) by omega, e4 (by omega)]
    exact kk
set_option maxHeartbeats 1000000 in
set_option maxRecDepth 20000 in
theorem sayXN1 (f : Nat → zC) (o : Nat → Int32) (A : Nat → Nat → Int32) (J : Nat → Nat → Int64) {s n z : Nat} (hn : n < 450) {c m : Int32} {d : Nat} (hd : dgN (A 1 n) = d) (hd4 : d ≤ 4) {q : Nat} {g : Nat → Int32} (hq : q + d ≤ 256) {n0 : Nat} {Q : Option Value → zW → Prop} (kk : zV (zMo (z + 1 + 2) zX7_say) false n0 0 0 270 [(3, .int c), (0, .ref 76), (1, .int (nI s)), (2, .int (nI n))] [] (wZ f o A J (q + d) m (appA g q (dgL (A 1 n) d))) Q) : ∀ (j k : Nat), k + j = d → 1 ≤ k → ∀ {x5 x4 : Int32}, x5 = nI k → x4 = nI (10 ^ (k - 1)) → zV (zMo (z + 1 + 2) zX7_say) false n0 0 0 83 [(5, .int x5), (4, .int x4), (3, .int c), (0, .ref 76), (1, .int (nI s)), (2, .int (nI n))] [] (wZ f o A J q m g) Q := by
  have e1 : (nI n).toNatClampNeg = n := nI_clamp (by omega)
  have hv : vp_in (nI n) 450 := vp_in_nI (by omega) (by decide)
  intro j
  induction j with
  | zero =>
    intro k hj h1 x5 x4 e5 e4
    subst e5
    iterate 4 (refine zv_step (bX7_say (z + 1 + 2)) rfl rfl trivial ?_)
    refine zv_iale (bX7_say (z + 1 + 2)) rfl rfl hv (show A 1 (nI n).toNatClampNeg = A 1 n by rw [e1]) ?_
    refine zv_S1 (bX7_say (z + 1 + 2)) rfl rfl rfl rfl ⟨rfl, rfl, rfl⟩ ⟨by show 0 + 1 ≤ z + 1 + 2; omega, by show 8 + (1 + 11) + 64 * (0) ≤ 64 * (z + 1 + 2); omega⟩ ⟨Nat.zero_le _, Nat.zero_le _⟩ (mDigitsE _ hd) ?_
    rintro _ _ ⟨rfl, rfl⟩
    iterate 1 (refine zv_step (bX7_say (z + 1 + 2)) rfl rfl trivial ?_)
    refine zv_ift (nI_le (by omega) (by omega)) ?_
    iterate 3 (refine zv_step (bX7_say (z + 1 + 2)) rfl rfl trivial ?_)
    refine zv_iale (bX7_say (z + 1 + 2)) rfl rfl hv (show A 1 (nI n).toNatClampNeg = A 1 n by rw [e1]) ?_
    refine zv_S1 (bX7_say (z + 1 + 2)) rfl rfl rfl rfl ⟨rfl, rfl, rfl⟩ ⟨by show 0 + 1 ≤ z + 1 + 2; omega, by show 8 + (1 + 11) + 64 * (0) ≤ 64 * (z + 1 + 2); omega⟩ ⟨Nat.zero_le _, Nat.zero_le _⟩ (mDigitsE _ hd) ?_
    rintro _ _ ⟨rfl, rfl⟩
    iterate 1 (refine zv_step (bX7_say (z + 1 + 2)) rfl rfl trivial ?_)
    refine zv_locals (l := [(5, .int (nI d)), (4, .int x4), (3, .int c), (0, .ref 76), (1, .int (nI s)), (2, .int (nI n))]) (l' := [(5, .int (nI d)), (4, .int x4), (3, .int c), (0, .ref 76), (1, .int (nI s)), (2, .int (nI n))]) ?_ (sayXN2 f o A J hn d q g hd4 hq rfl (fun _ => by rw [e4, show k = d by omega]) kk)
    simp
  | succ j ih =>
    intro k hj h1 x5 x4 e5 e4
    subst e5
    iterate 4 (refine zv_step (bX7_say (z + 1 + 2)) rfl rfl trivial ?_)
    refine zv_iale (bX7_say (z + 1 + 2)) rfl rfl hv (show A 1 (nI n).toNatClampNeg = A 1 n by rw [e1]) ?_
    refine zv_S1 (bX7_say (z + 1 + 2)) rfl rfl rfl rfl ⟨rfl, rfl, rfl⟩ ⟨by show 0 + 1 ≤ z + 1 + 2; omega, by show 8 + (1 + 11) + 64 * (0) ≤ 64 * (z + 1 + 2); omega⟩ ⟨Nat.zero_le _, Nat.zero_le _⟩ (mDigitsE _ hd) ?_
    rintro _ _ ⟨rfl, rfl⟩
    iterate 1 (refine zv_step (bX7_say (z + 1 + 2)) rfl rfl trivial ?_)
    refine zv_iff (fun h => absurd ((nI_leI (by omega) (by omega)).mp h) (by omega)) ?_
    iterate 6 (refine zv_step (bX7_say (z + 1 + 2)) rfl rfl trivial ?_)
    refine zv_locals (l := [(5, .int (nI k + Int32.ofInt 1)), (4, .int (x4 * c8 10)), (3, .int c), (0, .ref 76), (1, .int (nI s)), (2, .int (nI n))]) (l' := [(5, .int (nI k + Int32.ofInt 1)), (4, .int (x4 * c8 10)), (3, .int c), (0, .ref 76), (1, .int (nI s)), (2, .int (nI n))]) ?_ (ih (k + 1) (by omega) (by omega) (nI_1 k) (by rw [e4]; exact pwm k h1 (by omega)))
    simp
set_option maxHeartbeats 1000000 in
set_option maxRecDepth 20000 in
theorem sayX2 (f : Nat → zC) (o : Nat → Int32) (A : Nat → Nat → Int32) (J : Nat → Nat → Int64) {lo hi : Nat} (hh : hi ≤ 450) {s n z : Nat} (hn : n < 450) {c : Int32} (ih : ∀ (x : Nat), lo ≤ x → x < hi → szN A x ≤ z → ∀ (q : Nat) (m : Int32) (g : Nat → Int32), q + (wdW A s z (nI x)).length ≤ 256 → zK (z + 2) zX7_say [.ref 76, .int (nI s), .int (nI x)] (wZ f o A J q m g) (fun r w' => r = none ∧ ∃ m' : Int32, w' = wZ f o A J (q + (wdW A s z (nI x)).length) m' (appA g q (wdW A s z (nI x))))) {n0 : Nat} {Q : Option Value → zW → Prop} {q : Nat} {m : Int32} {g : Nat → Int32} (hq : q + (coL A (wdW A s z) n).length ≤ 256) (kk : ∀ m' : Int32, zV (zMo (z + 1 + 2) zX7_say) false n0 0 0 270 [(3, .int c), (0, .ref 76), (1, .int (nI s)), (2, .int (nI n))] [] (wZ f o A J (q + (coL A (wdW A s z) n).length) m' (appA g q (coL A (wdW A s z) n))) Q) {k a b : Nat} (hk1 : 2 ≤ k) (hk2 : k ≤ 6) (h0 : A 0 n = nI k) (h2 : A 2 n = nI a) (la : lo ≤ a) (ha : a < n) (h3 : A 3 n = nI b) (lb : lo ≤ b) (hb : b < n) (hnh : n < hi) (hsz : szN A n ≤ z + 1) (es : szN A n = 1 + szN A a + szN A b) : zV (zMo (z + 1 + 2) zX7_say) false n0 0 0 17 [(3, .int c), (0, .ref 76), (1, .int (nI s)), (2, .int (nI n))] [] (wZ f o A J q m g) Q := by
  have e1 : (nI n).toNatClampNeg = n := nI_clamp (by omega)
  have hv : vp_in (nI n) 450 := vp_in_nI (by omega) (by decide)
  rw [coL_2 hk1 hk2 h0, h2, h3] at kk hq
  simp only [List.length_append, List.length_cons, List.length_nil] at hq
  iterate 3 (refine zv_step (bX7_say (z + 1 + 2)) rfl rfl trivial ?_)
  refine zv_iale (bX7_say (z + 1 + 2)) rfl rfl hv (show A 0 (nI n).toNatClampNeg = nI k by rw [e1]; exact h0) ?_
  refine zv_S1 (bX7_say (z + 1 + 2)) rfl rfl rfl rfl ⟨rfl, rfl, rfl⟩ ⟨by show 0 + 1 ≤ z + 1 + 2; omega, by show 8 + (1 + 11) + 64 * (0) ≤ 64 * (z + 1 + 2); omega⟩ ⟨Nat.zero_le _, Nat.zero_le _⟩ (hX7_isTwo _ _) ?_
  rintro _ _ ⟨rfl, ⟨g1, rfl⟩ | ⟨g1, rfl⟩⟩
  · skip
    iterate 1 (refine zv_step (bX7_say (z + 1 + 2)) rfl rfl trivial ?_)
    refine zv_iff (by decide) ?_
    iterate 5 (refine zv_step (bX7_say (z + 1 + 2)) rfl rfl trivial ?_)
    refine zv_iale (bX7_say (z + 1 + 2)) rfl rfl hv (show A 2 (nI n).toNatClampNeg = nI a by rw [e1]; exact h2) ?_
    refine zv_V2 (bX7_say (z + 1 + 2)) rfl rfl rfl rfl rfl rfl rfl ⟨rfl, rfl, rfl⟩ ⟨by show z + 2 + 1 ≤ z + 1 + 2; omega, by show 8 + (6 + 11) + 64 * (z + 2) ≤ 64 * (z + 1 + 2); omega⟩ ⟨Nat.zero_le _, Nat.zero_le _⟩ (ih a (by omega) (by omega) (by omega) _ _ _ (by omega)) ?_
    rintro _ _ ⟨rfl, m1, rfl⟩
    iterate 5 (refine zv_step (bX7_say (z + 1 + 2)) rfl rfl trivial ?_)
    refine zv_iale (bX7_say (z + 1 + 2)) rfl rfl hv (show A 0 (nI n).toNatClampNeg = nI k by rw [e1]; exact h0) ?_
    iterate 1 (refine zv_step (bX7_say (z + 1 + 2)) rfl rfl trivial ?_)
    refine zv_V1 (bX7_say (z + 1 + 2)) rfl rfl rfl rfl rfl rfl rfl ⟨rfl, rfl, rfl⟩ ⟨by show 0 + 1 ≤ z + 1 + 2; omega, by show 8 + (2 + 11) + 64 * (0) ≤ 64 * (z + 1 + 2); omega⟩ ⟨Nat.zero_le _, Nat.zero_le _⟩ (mSays f (upd o 20 _) A J _ _ (by omega) _) ?_
    rintro _ _ ⟨rfl, rfl⟩
    iterate 5 (refine zv_step (bX7_say (z + 1 + 2)) rfl rfl trivial ?_)
    refine zv_iale (bX7_say (z + 1 + 2)) rfl rfl hv (show A 3 (nI n).toNatClampNeg = nI b by rw [e1]; exact h3) ?_
    refine zv_V2 (bX7_say (z + 1 + 2)) rfl rfl rfl rfl rfl rfl rfl ⟨rfl, rfl, rfl⟩ ⟨by show z + 2 + 1 ≤ z + 1 + 2; omega, by show 8 + (6 + 11) + 64 * (z + 2) ≤ 64 * (z + 1 + 2); omega⟩ ⟨Nat.zero_le _, Nat.zero_le _⟩ (ih b (by omega) (by omega) (by omega) _ _ _ (by omega)) ?_
    rintro _ _ ⟨rfl, m2, rfl⟩
    iterate 1 (refine zv_step (bX7_say (z + 1 + 2)) rfl rfl trivial ?_)
    have kk := kk m2
    rw [appA_app] at kk
    simp only [List.length_append, List.length_cons] at kk
    rw [show q + ((wdW A s z (nI a)).length + ((wdW A s z (nI b)).length + 1)) = q + (wdW A s z (nI a)).length + 1 + (wdW A s z (nI b)).length by omega] at kk
    exact kk
  · skip
    iterate 1 (refine zv_step (bX7_say (z + 1 + 2)) rfl rfl trivial ?_)
    refine zv_ift (by decide) ?_
    exact absurd ⟨by rw [nI_toInt (by omega)]; omega, by rw [nI_toInt (by omega)]; omega⟩ g1
set_option maxHeartbeats 1000000 in
set_option maxRecDepth 20000 in
theorem sayX0 (f : Nat → zC) (o : Nat → Int32) (A : Nat → Nat → Int32) (J : Nat → Nat → Int64) {lo hi : Nat} (hh : hi ≤ 450) {s n z : Nat} (hn : n < 450) {c : Int32} (ih : ∀ (x : Nat), lo ≤ x → x < hi → szN A x ≤ z → ∀ (q : Nat) (m : Int32) (g : Nat → Int32), q + (wdW A s z (nI x)).length ≤ 256 → zK (z + 2) zX7_say [.ref 76, .int (nI s), .int (nI x)] (wZ f o A J q m g) (fun r w' => r = none ∧ ∃ m' : Int32, w' = wZ f o A J (q + (wdW A s z (nI x)).length) m' (appA g q (wdW A s z (nI x))))) {n0 : Nat} {Q : Option Value → zW → Prop} {q : Nat} {m : Int32} {g : Nat → Int32} (hq : q + (coL A (wdW A s z) n).length ≤ 256) (kk : ∀ m' : Int32, zV (zMo (z + 1 + 2) zX7_say) false n0 0 0 270 [(3, .int c), (0, .ref 76), (1, .int (nI s)), (2, .int (nI n))] [] (wZ f o A J (q + (coL A (wdW A s z) n).length) m' (appA g q (coL A (wdW A s z) n))) Q) (h0 : A 0 n = nI 0) : zV (zMo (z + 1 + 2) zX7_say) false n0 0 0 17 [(3, .int c), (0, .ref 76), (1, .int (nI s)), (2, .int (nI n))] [] (wZ f o A J q m g) Q := by
  have e1 : (nI n).toNatClampNeg = n := nI_clamp (by omega)
  have hv : vp_in (nI n) 450 := vp_in_nI (by omega) (by decide)
  rw [coL_0 h0] at kk hq
  simp only [List.length_append, List.length_cons, List.length_nil] at hq
  iterate 3 (refine zv_step (bX7_say (z + 1 + 2)) rfl rfl trivial ?_)
  refine zv_iale (bX7_say (z + 1 + 2)) rfl rfl hv (show A 0 (nI n).toNatClampNeg = nI 0 by rw [e1]; exact h0) ?_
  refine zv_S1 (bX7_say (z + 1 + 2)) rfl rfl rfl rfl ⟨rfl, rfl, rfl⟩ ⟨by show 0 + 1 ≤ z + 1 + 2; omega, by show 8 + (1 + 11) + 64 * (0) ≤ 64 * (z + 1 + 2); omega⟩ ⟨Nat.zero_le _, Nat.zero_le _⟩ (hX7_isTwo _ _) ?_
  rintro _ _ ⟨rfl, ⟨g1, rfl⟩ | ⟨g1, rfl⟩⟩
  · skip
    iterate 1 (refine zv_step (bX7_say (z + 1 + 2)) rfl rfl trivial ?_)
    refine zv_iff (by decide) ?_
    exact absurd g1 (by decide)
  · skip
    iterate 1 (refine zv_step (bX7_say (z + 1 + 2)) rfl rfl trivial ?_)
    refine zv_ift (by decide) ?_
    iterate 3 (refine zv_step (bX7_say (z + 1 + 2)) rfl rfl trivial ?_)
    refine zv_iale (bX7_say (z + 1 + 2)) rfl rfl hv (show A 0 (nI n).toNatClampNeg = nI 0 by rw [e1]; exact h0) ?_
    iterate 2 (refine zv_step (bX7_say (z + 1 + 2)) rfl rfl trivial ?_)
    refine zv_ift (by decide) ?_
    iterate 3 (refine zv_step (bX7_say (z + 1 + 2)) rfl rfl trivial ?_)
    refine zv_iale (bX7_say (z + 1 + 2)) rfl rfl hv (show A 0 (nI n).toNatClampNeg = nI 0 by rw [e1]; exact h0) ?_
    iterate 1 (refine zv_step (bX7_say (z + 1 + 2)) rfl rfl trivial ?_)
    refine zv_iff (by decide) ?_
    iterate 4 (refine zv_step (bX7_say (z + 1 + 2)) rfl rfl trivial ?_)
    refine zv_iale (bX7_say (z + 1 + 2)) rfl rfl hv (show A 1 (nI n).toNatClampNeg = A 1 n by rw [e1]) ?_
    refine zv_V1 (bX7_say (z + 1 + 2)) rfl rfl rfl rfl rfl rfl rfl ⟨rfl, rfl, rfl⟩ ⟨by show 0 + 1 ≤ z + 1 + 2; omega, by show 8 + (2 + 11) + 64 * (0) ≤ 64 * (z + 1 + 2); omega⟩ ⟨Nat.zero_le _, Nat.zero_le _⟩ (mSays f (upd o 20 _) A J _ _ (by omega) _) ?_
    rintro _ _ ⟨rfl, rfl⟩
    iterate 1 (refine zv_step (bX7_say (z + 1 + 2)) rfl rfl trivial ?_)
    exact kk _
set_option maxHeartbeats 1000000 in
set_option maxRecDepth 20000 in
theorem sayX1 (f : Nat → zC) (o : Nat → Int32) (A : Nat → Nat → Int32) (J : Nat → Nat → Int64) {lo hi : Nat} (hh : hi ≤ 450) {s n z : Nat} (hn : n < 450) {c : Int32} (ih : ∀ (x : Nat), lo ≤ x → x < hi → szN A x ≤ z → ∀ (q : Nat) (m : Int32) (g : Nat → Int32), q + (wdW A s z (nI x)).length ≤ 256 → zK (z + 2) zX7_say [.ref 76, .int (nI s), .int (nI x)] (wZ f o A J q m g) (fun r w' => r = none ∧ ∃ m' : Int32, w' = wZ f o A J (q + (wdW A s z (nI x)).length) m' (appA g q (wdW A s z (nI x))))) {n0 : Nat} {Q : Option Value → zW → Prop} {q : Nat} {m : Int32} {g : Nat → Int32} (hq : q + (coL A (wdW A s z) n).length ≤ 256) (kk : ∀ m' : Int32, zV (zMo (z + 1 + 2) zX7_say) false n0 0 0 270 [(3, .int c), (0, .ref 76), (1, .int (nI s)), (2, .int (nI n))] [] (wZ f o A J (q + (coL A (wdW A s z) n).length) m' (appA g q (coL A (wdW A s z) n))) Q) (h0 : A 0 n = nI 1) : zV (zMo (z + 1 + 2) zX7_say) false n0 0 0 17 [(3, .int c), (0, .ref 76), (1, .int (nI s)), (2, .int (nI n))] [] (wZ f o A J q m g) Q := by
  have e1 : (nI n).toNatClampNeg = n := nI_clamp (by omega)
  have hv : vp_in (nI n) 450 := vp_in_nI (by omega) (by decide)
  rw [coL_1 h0] at kk hq
  rw [dgL_len] at kk hq
  iterate 3 (refine zv_step (bX7_say (z + 1 + 2)) rfl rfl trivial ?_)
  refine zv_iale (bX7_say (z + 1 + 2)) rfl rfl hv (show A 0 (nI n).toNatClampNeg = nI 1 by rw [e1]; exact h0) ?_
  refine zv_S1 (bX7_say (z + 1 + 2)) rfl rfl rfl rfl ⟨rfl, rfl, rfl⟩ ⟨by show 0 + 1 ≤ z + 1 + 2; omega, by show 8 + (1 + 11) + 64 * (0) ≤ 64 * (z + 1 + 2); omega⟩ ⟨Nat.zero_le _, Nat.zero_le _⟩ (hX7_isTwo _ _) ?_
  rintro _ _ ⟨rfl, ⟨g1, rfl⟩ | ⟨g1, rfl⟩⟩
  · skip
    iterate 1 (refine zv_step (bX7_say (z + 1 + 2)) rfl rfl trivial ?_)
    refine zv_iff (by decide) ?_
    exact absurd g1 (by decide)
  · skip
    iterate 1 (refine zv_step (bX7_say (z + 1 + 2)) rfl rfl trivial ?_)
    refine zv_ift (by decide) ?_
    iterate 3 (refine zv_step (bX7_say (z + 1 + 2)) rfl rfl trivial ?_)
    refine zv_iale (bX7_say (z + 1 + 2)) rfl rfl hv (show A 0 (nI n).toNatClampNeg = nI 1 by rw [e1]; exact h0) ?_
    iterate 2 (refine zv_step (bX7_say (z + 1 + 2)) rfl rfl trivial ?_)
    refine zv_iff (by decide) ?_
    iterate 4 (refine zv_step (bX7_say (z + 1 + 2)) rfl rfl trivial ?_)
    refine zv_locals (l := [(5, .int (Int32.ofInt 1)), (4, .int (Int32.ofInt 1)), (3, .int c), (0, .ref 76), (1, .int (nI s)), (2, .int (nI n))]) (l' := [(5, .int (Int32.ofInt 1)), (4, .int (Int32.ofInt 1)), (3, .int c), (0, .ref 76), (1, .int (nI s)), (2, .int (nI n))]) ?_ (sayXN1 f o A J hn rfl (dgN_le _).2 hq (kk _) (dgN (A 1 n) - 1) 1 (by have := (dgN_le (A 1 n)).1; omega) (Nat.le_refl _) rfl rfl)
    simp
set_option maxHeartbeats 1000000 in
set_option maxRecDepth 20000 in
theorem sayX7 (f : Nat → zC) (o : Nat → Int32) (A : Nat → Nat → Int32) (J : Nat → Nat → Int64) {lo hi : Nat} (hh : hi ≤ 450) {s n z : Nat} (hn : n < 450) {c : Int32} (ih : ∀ (x : Nat), lo ≤ x → x < hi → szN A x ≤ z → ∀ (q : Nat) (m : Int32) (g : Nat → Int32), q + (wdW A s z (nI x)).length ≤ 256 → zK (z + 2) zX7_say [.ref 76, .int (nI s), .int (nI x)] (wZ f o A J q m g) (fun r w' => r = none ∧ ∃ m' : Int32, w' = wZ f o A J (q + (wdW A s z (nI x)).length) m' (appA g q (wdW A s z (nI x))))) {n0 : Nat} {Q : Option Value → zW → Prop} {q : Nat} {m : Int32} {g : Nat → Int32} (hq : q + (coL A (wdW A s z) n).length ≤ 256) (kk : ∀ m' : Int32, zV (zMo (z + 1 + 2) zX7_say) false n0 0 0 270 [(3, .int c), (0, .ref 76), (1, .int (nI s)), (2, .int (nI n))] [] (wZ f o A J (q + (coL A (wdW A s z) n).length) m' (appA g q (coL A (wdW A s z) n))) Q) {a : Nat} (h0 : A 0 n = nI 7) (h2 : A 2 n = nI a) (la : lo ≤ a) (ha : a < n) (hnh : n < hi) (hsz : szN A n ≤ z + 1) (es : szN A n = 1 + szN A a) : zV (zMo (z + 1 + 2) zX7_say) false n0 0 0 17 [(3, .int c), (0, .ref 76), (1, .int (nI s)), (2, .int (nI n))] [] (wZ f o A J q m g) Q := by
  have e1 : (nI n).toNatClampNeg = n := nI_clamp (by omega)
  have hv : vp_in (nI n) 450 := vp_in_nI (by omega) (by decide)
  rw [coL_7 h0, h2] at kk hq
  simp only [List.length_append, List.length_cons, List.length_nil] at hq
  iterate 3 (refine zv_step (bX7_say (z + 1 + 2)) rfl rfl trivial ?_)
  refine zv_iale (bX7_say (z + 1 + 2)) rfl rfl hv (show A 0 (nI n).toNatClampNeg = nI 7 by rw [e1]; exact h0) ?_
  refine zv_S1 (bX7_say (z + 1 + 2)) rfl rfl rfl rfl ⟨rfl, rfl, rfl⟩ ⟨by show 0 + 1 ≤ z + 1 + 2; omega, by show 8 + (1 + 11) + 64 * (0) ≤ 64 * (z + 1 + 2); omega⟩ ⟨Nat.zero_le _, Nat.zero_le _⟩ (hX7_isTwo _ _) ?_
  rintro _ _ ⟨rfl, ⟨g1, rfl⟩ | ⟨g1, rfl⟩⟩
  · skip
    iterate 1 (refine zv_step (bX7_say (z + 1 + 2)) rfl rfl trivial ?_)
    refine zv_iff (by decide) ?_
    exact absurd g1 (by decide)
  · skip
    iterate 1 (refine zv_step (bX7_say (z + 1 + 2)) rfl rfl trivial ?_)
    refine zv_ift (by decide) ?_
    iterate 3 (refine zv_step (bX7_say (z + 1 + 2)) rfl rfl trivial ?_)
    refine zv_iale (bX7_say (z + 1 + 2)) rfl rfl hv (show A 0 (nI n).toNatClampNeg = nI 7 by rw [e1]; exact h0) ?_
    iterate 2 (refine zv_step (bX7_say (z + 1 + 2)) rfl rfl trivial ?_)
    refine zv_ift (by decide) ?_
    iterate 3 (refine zv_step (bX7_say (z + 1 + 2)) rfl rfl trivial ?_)
    refine zv_iale (bX7_say (z + 1 + 2)) rfl rfl hv (show A 0 (nI n).toNatClampNeg = nI 7 by rw [e1]; exact h0) ?_
    iterate 1 (refine zv_step (bX7_say (z + 1 + 2)) rfl rfl trivial ?_)
    refine zv_ift (by decide) ?_
    iterate 4 (refine zv_step (bX7_say (z + 1 + 2)) rfl rfl trivial ?_)
    refine zv_iale (bX7_say (z + 1 + 2)) rfl rfl hv (show A 0 (nI n).toNatClampNeg = nI 7 by rw [e1]; exact h0) ?_
    iterate 2 (refine zv_step (bX7_say (z + 1 + 2)) rfl rfl trivial ?_)
    refine zv_iff (by decide) ?_
    iterate 2 (refine zv_step (bX7_say (z + 1 + 2)) rfl rfl trivial ?_)
    refine zv_V1 (bX7_say (z + 1 + 2)) rfl rfl rfl rfl rfl rfl rfl ⟨rfl, rfl, rfl⟩ ⟨by show 0 + 1 ≤ z + 1 + 2; omega, by show 8 + (2 + 11) + 64 * (0) ≤ 64 * (z + 1 + 2); omega⟩ ⟨Nat.zero_le _, Nat.zero_le _⟩ (mSays f (upd o 20 _) A J _ _ (by omega) _) ?_
    rintro _ _ ⟨rfl, rfl⟩
    iterate 3 (refine zv_step (bX7_say (z + 1 + 2)) rfl rfl trivial ?_)
    refine zv_iale (bX7_say (z + 1 + 2)) rfl rfl hv (show A 0 (nI n).toNatClampNeg = nI 7 by rw [e1]; exact h0) ?_
    iterate 2 (refine zv_step (bX7_say (z + 1 + 2)) rfl rfl trivial ?_)
    refine zv_ift (by decide) ?_
    iterate 5 (refine zv_step (bX7_say (z + 1 + 2)) rfl rfl trivial ?_)
    refine zv_iale (bX7_say (z + 1 + 2)) rfl rfl hv (show A 2 (nI n).toNatClampNeg = nI a by rw [e1]; exact h2) ?_
    refine zv_V2 (bX7_say (z + 1 + 2)) rfl rfl rfl rfl rfl rfl rfl ⟨rfl, rfl, rfl⟩ ⟨by show z + 2 + 1 ≤ z + 1 + 2; omega, by show 8 + (6 + 11) + 64 * (z + 2) ≤ 64 * (z + 1 + 2); omega⟩ ⟨Nat.zero_le _, Nat.zero_le _⟩ (ih a (by omega) (by omega) (by omega) _ _ _ (by omega)) ?_
    rintro _ _ ⟨rfl, m1, rfl⟩
    iterate 3 (refine zv_step (bX7_say (z + 1 + 2)) rfl rfl trivial ?_)
    refine zv_iale (bX7_say (z + 1 + 2)) rfl rfl hv (show A 0 (nI n).toNatClampNeg = nI 7 by rw [e1]; exact h0) ?_
    iterate 2 (refine zv_step (bX7_say (z + 1 + 2)) rfl rfl trivial ?_)
    refine zv_ift (by decide) ?_
    have kk := kk m1
    simp only [List.length_cons] at kk
    rw [show q + ((wdW A s z (nI a)).length + 1) = q + 1 + (wdW A s z (nI a)).length by omega] at kk
    exact kk
set_option maxHeartbeats 1000000 in
set_option maxRecDepth 20000 in
theorem sayX8 (f : Nat → zC) (o : Nat → Int32) (A : Nat → Nat → Int32) (J : Nat → Nat → Int64) {lo hi : Nat} (hh : hi ≤ 450) {s n z : Nat} (hn : n < 450) {c : Int32} (ih : ∀ (x : Nat), lo ≤ x → x < hi → szN A x ≤ z → ∀ (q : Nat) (m : Int32) (g : Nat → Int32), q + (wdW A s z (nI x)).length ≤ 256 → zK (z + 2) zX7_say [.ref 76, .int (nI s), .int (nI x)] (wZ f o A J q m g) (fun r w' => r = none ∧ ∃ m' : Int32, w' = wZ f o A J (q + (wdW A s z (nI x)).length) m' (appA g q (wdW A s z (nI x))))) {n0 : Nat} {Q : Option Value → zW → Prop} {q : Nat} {m : Int32} {g : Nat → Int32} (hq : q + (coL A (wdW A s z) n).length ≤ 256) (kk : ∀ m' : Int32, zV (zMo (z + 1 + 2) zX7_say) false n0 0 0 270 [(3, .int c), (0, .ref 76), (1, .int (nI s)), (2, .int (nI n))] [] (wZ f o A J (q + (coL A (wdW A s z) n).length) m' (appA g q (coL A (wdW A s z) n))) Q) {a : Nat} (h0 : A 0 n = nI 8) (h2 : A 2 n = nI a) (la : lo ≤ a) (ha : a < n) (hnh : n < hi) (hsz : szN A n ≤ z + 1) (es : szN A n = 1 + szN A a) : zV (zMo (z + 1 + 2) zX7_say) false n0 0 0 17 [(3, .int c), (0, .ref 76), (1, .int (nI s)), (2, .int (nI n))] [] (wZ f o A J q m g) Q := by
  have e1 : (nI n).toNatClampNeg = n := nI_clamp (by omega)
  have hv : vp_in (nI n) 450 := vp_in_nI (by omega) (by decide)
  rw [coL_8 h0, h2] at kk hq
  simp only [List.length_append, List.length_cons, List.length_nil] at hq
  iterate 3 (refine zv_step (bX7_say (z + 1 + 2)) rfl rfl trivial ?_)
  refine zv_iale (bX7_say (z + 1 + 2)) rfl rfl hv (show A 0 (nI n).toNatClampNeg = nI 8 by rw [e1]; exact h0) ?_
  refine zv_S1 (bX7_say (z + 1 + 2)) rfl rfl rfl rfl ⟨rfl, rfl, rfl⟩ ⟨by show 0 + 1 ≤ z + 1 + 2; omega, by show 8 + (1 + 11) + 64 * (0) ≤ 64 * (z + 1 + 2); omega⟩ ⟨Nat.zero_le _, Nat.zero_le _⟩ (hX7_isTwo _ _) ?_
  rintro _ _ ⟨rfl, ⟨g1, rfl⟩ | ⟨g1, rfl⟩⟩
  · skip
    iterate 1 (refine zv_step (bX7_say (z + 1 + 2)) rfl rfl trivial ?_)
    refine zv_iff (by decide) ?_
    exact absurd g1 (by decide)
  · skip
    iterate 1 (refine zv_step (bX7_say (z + 1 + 2)) rfl rfl trivial ?_)
    refine zv_ift (by decide) ?_
    iterate 3 (refine zv_step (bX7_say (z + 1 + 2)) rfl rfl trivial ?_)
    refine zv_iale (bX7_say (z + 1 + 2)) rfl rfl hv (show A 0 (nI n).toNatClampNeg = nI 8 by rw [e1]; exact h0) ?_
    iterate 2 (refine zv_step (bX7_say (z + 1 + 2)) rfl rfl trivial ?_)
    refine zv_ift (by decide) ?_
    iterate 3 (refine zv_step (bX7_say (z + 1 + 2)) rfl rfl trivial ?_)
    refine zv_iale (bX7_say (z + 1 + 2)) rfl rfl hv (show A 0 (nI n).toNatClampNeg = nI 8 by rw [e1]; exact h0) ?_
    iterate 1 (refine zv_step (bX7_say (z + 1 + 2)) rfl rfl trivial ?_)
    refine zv_ift (by decide) ?_
    iterate 4 (refine zv_step (bX7_say (z + 1 + 2)) rfl rfl trivial ?_)
    refine zv_iale (bX7_say (z + 1 + 2)) rfl rfl hv (show A 0 (nI n).toNatClampNeg = nI 8 by rw [e1]; exact h0) ?_
    iterate 2 (refine zv_step (bX7_say (z + 1 + 2)) rfl rfl trivial ?_)
    refine zv_ift (by decide) ?_
    iterate 3 (refine zv_step (bX7_say (z + 1 + 2)) rfl rfl trivial ?_)
    refine zv_iale (bX7_say (z + 1 + 2)) rfl rfl hv (show A 0 (nI n).toNatClampNeg = nI 8 by rw [e1]; exact h0) ?_
    iterate 2 (refine zv_step (bX7_say (z + 1 + 2)) rfl rfl trivial ?_)
    refine zv_iff (by decide) ?_
    iterate 2 (refine zv_step (bX7_say (z + 1 + 2)) rfl rfl trivial ?_)
    refine zv_V1 (bX7_say (z + 1 + 2)) rfl rfl rfl rfl rfl rfl rfl ⟨rfl, rfl, rfl⟩ ⟨by show 0 + 1 ≤ z + 1 + 2; omega, by show 8 + (2 + 11) + 64 * (0) ≤ 64 * (z + 1 + 2); omega⟩ ⟨Nat.zero_le _, Nat.zero_le _⟩ (mSays f (upd o 20 _) A J _ _ (by omega) _) ?_
    rintro _ _ ⟨rfl, rfl⟩
    iterate 3 (refine zv_step (bX7_say (z + 1 + 2)) rfl rfl trivial ?_)
    refine zv_iale (bX7_say (z + 1 + 2)) rfl rfl hv (show A 0 (nI n).toNatClampNeg = nI 8 by rw [e1]; exact h0) ?_
    iterate 2 (refine zv_step (bX7_say (z + 1 + 2)) rfl rfl trivial ?_)
    refine zv_ift (by decide) ?_
    iterate 5 (refine zv_step (bX7_say (z + 1 + 2)) rfl rfl trivial ?_)
    refine zv_iale (bX7_say (z + 1 + 2)) rfl rfl hv (show A 2 (nI n).toNatClampNeg = nI a by rw [e1]; exact h2) ?_
    refine zv_V2 (bX7_say (z + 1 + 2)) rfl rfl rfl rfl rfl rfl rfl ⟨rfl, rfl, rfl⟩ ⟨by show z + 2 + 1 ≤ z + 1 + 2; omega, by show 8 + (6 + 11) + 64 * (z + 2) ≤ 64 * (z + 1 + 2); omega⟩ ⟨Nat.zero_le _, Nat.zero_le _⟩ (ih a (by omega) (by omega) (by omega) _ _ _ (by omega)) ?_
    rintro _ _ ⟨rfl, m1, rfl⟩
    iterate 3 (refine zv_step (bX7_say (z + 1 + 2)) rfl rfl trivial ?_)
    refine zv_iale (bX7_say (z + 1 + 2)) rfl rfl hv (show A 0 (nI n).toNatClampNeg = nI 8 by rw [e1]; exact h0) ?_
    iterate 2 (refine zv_step (bX7_say (z + 1 + 2)) rfl rfl trivial ?_)
    refine zv_iff (by decide) ?_
    iterate 2 (refine zv_step (bX7_say (z + 1 + 2)) rfl rfl trivial ?_)
    refine zv_V1 (bX7_say (z + 1 + 2)) rfl rfl rfl rfl rfl rfl rfl ⟨rfl, rfl, rfl⟩ ⟨by show 0 + 1 ≤ z + 1 + 2; omega, by show 8 + (2 + 11) + 64 * (0) ≤ 64 * (z + 1 + 2); omega⟩ ⟨Nat.zero_le _, Nat.zero_le _⟩ (mSays f (upd o 20 _) A J _ _ (by omega) _) ?_
    rintro _ _ ⟨rfl, rfl⟩
    have kk := kk m1
    rw [show c8 26 :: (wdW A s z (nI a) ++ [c8 27]) = (c8 26 :: wdW A s z (nI a)) ++ [c8 27] from rfl, appA_app] at kk
    simp only [List.length_cons, List.length_append, List.length_nil] at kk
    rw [show q + ((wdW A s z (nI a)).length + 1 + (0 + 1)) = q + 1 + (wdW A s z (nI a)).length + 1 by omega, show q + ((wdW A s z (nI a)).length + 1) = q + 1 + (wdW A s z (nI a)).length by omega] at kk
    exact kk
set_option maxHeartbeats 1000000 in
set_option maxRecDepth 20000 in
theorem sayX9 (f : Nat → zC) (o : Nat → Int32) (A : Nat → Nat → Int32) (J : Nat → Nat → Int64) {lo hi : Nat} (hh : hi ≤ 450) {s n z : Nat} (hn : n < 450) {c : Int32} (ih : ∀ (x : Nat), lo ≤ x → x < hi → szN A x ≤ z → ∀ (q : Nat) (m : Int32) (g : Nat → Int32), q + (wdW A s z (nI x)).length ≤ 256 → zK (z + 2) zX7_say [.ref 76, .int (nI s), .int (nI x)] (wZ f o A J q m g) (fun r w' => r = none ∧ ∃ m' : Int32, w' = wZ f o A J (q + (wdW A s z (nI x)).length) m' (appA g q (wdW A s z (nI x))))) {n0 : Nat} {Q : Option Value → zW → Prop} {q : Nat} {m : Int32} {g : Nat → Int32} (hq : q + (coL A (wdW A s z) n).length ≤ 256) (kk : ∀ m' : Int32, zV (zMo (z + 1 + 2) zX7_say) false n0 0 0 270 [(3, .int c), (0, .ref 76), (1, .int (nI s)), (2, .int (nI n))] [] (wZ f o A J (q + (coL A (wdW A s z) n).length) m' (appA g q (coL A (wdW A s z) n))) Q) {a : Nat} (h0 : A 0 n = nI 9) (h2 : A 2 n = nI a) (la : lo ≤ a) (ha : a < n) (hnh : n < hi) (hsz : szN A n ≤ z + 1) (es : szN A n = 1 + szN A a) : zV (zMo (z + 1 + 2) zX7_say) false n0 0 0 17 [(3, .int c), (0, .ref 76), (1, .int (nI s)), (2, .int (nI n))] [] (wZ f o A J q m g) Q := by
  have e1 : (nI n).toNatClampNeg = n := nI_clamp (by omega)
  have hv : vp_in (nI n) 450 := vp_in_nI (by omega) (by decide)
  rw [coL_9 h0, h2] at kk hq
  simp only [List.length_append, List.length_cons, List.length_nil] at hq
  iterate 3 (refine zv_step (bX7_say (z + 1 + 2)) rfl rfl trivial ?_)
  refine zv_iale (bX7_say (z + 1 + 2)) rfl rfl hv (show A 0 (nI n).toNatClampNeg = nI 9 by rw [e1]; exact h0) ?_
  refine zv_S1 (bX7_say (z + 1 + 2)) rfl rfl rfl rfl ⟨rfl, rfl, rfl⟩ ⟨by show 0 + 1 ≤ z + 1 + 2; omega, by show 8 + (1 + 11) + 64 * (0) ≤ 64 * (z + 1 + 2); omega⟩ ⟨Nat.zero_le _, Nat.zero_le _⟩ (hX7_isTwo _ _) ?_
  rintro _ _ ⟨rfl, ⟨g1, rfl⟩ | ⟨g1, rfl⟩⟩
  · skip
    iterate 1 (refine zv_step (bX7_say (z + 1 + 2)) rfl rfl trivial ?_)
    refine zv_iff (by decide) ?_
    exact absurd g1 (by decide)
  · skip
    iterate 1 (refine zv_step (bX7_say (z + 1 + 2)) rfl rfl trivial ?_)
    refine zv_ift (by decide) ?_
    iterate 3 (refine zv_step (bX7_say (z + 1 + 2)) rfl rfl trivial ?_)
    refine zv_iale (bX7_say (z + 1 + 2)) rfl rfl hv (show A 0 (nI n).toNatClampNeg = nI 9 by rw [e1]; exact h0) ?_
    iterate 2 (refine zv_step (bX7_say (z + 1 + 2)) rfl rfl trivial ?_)
    refine zv_ift (by decide) ?_
    iterate 3 (refine zv_step (bX7_say (z + 1 + 2)) rfl rfl trivial ?_)
    refine zv_iale (bX7_say (z + 1 + 2)) rfl rfl hv (show A 0 (nI n).toNatClampNeg = nI 9 by rw [e1]; exact h0) ?_
    iterate 1 (refine zv_step (bX7_say (z + 1 + 2)) rfl rfl trivial ?_)
    refine zv_ift (by decide) ?_
    iterate 4 (refine zv_step (bX7_say (z + 1 + 2)) rfl rfl trivial ?_)
    refine zv_iale (bX7_say (z + 1 + 2)) rfl rfl hv (show A 0 (nI n).toNatClampNeg = nI 9 by rw [e1]; exact h0) ?_
    iterate 2 (refine zv_step (bX7_say (z + 1 + 2)) rfl rfl trivial ?_)
    refine zv_ift (by decide) ?_
    iterate 3 (refine zv_step (bX7_say (z + 1 + 2)) rfl rfl trivial ?_)
    refine zv_iale (bX7_say (z + 1 + 2)) rfl rfl hv (show A 0 (nI n).toNatClampNeg = nI 9 by rw [e1]; exact h0) ?_
    iterate 2 (refine zv_step (bX7_say (z + 1 + 2)) rfl rfl trivial ?_)
    refine zv_ift (by decide) ?_
    iterate 3 (refine zv_step (bX7_say (z + 1 + 2)) rfl rfl trivial ?_)
    refine zv_iale (bX7_say (z + 1 + 2)) rfl rfl hv (show A 1 (nI n).toNatClampNeg = A 1 n by rw [e1]) ?_
    refine zv_V1 (bX7_say (z + 1 + 2)) rfl rfl rfl rfl rfl rfl rfl ⟨rfl, rfl, rfl⟩ ⟨by show 0 + 1 ≤ z + 1 + 2; omega, by show 8 + (2 + 11) + 64 * (0) ≤ 64 * (z + 1 + 2); omega⟩ ⟨Nat.zero_le _, Nat.zero_le _⟩ (mSays f (upd o 20 _) A J _ _ (by omega) _) ?_
    rintro _ _ ⟨rfl, rfl⟩
    iterate 3 (refine zv_step (bX7_say (z + 1 + 2)) rfl rfl trivial ?_)
    refine zv_iale (bX7_say (z + 1 + 2)) rfl rfl hv (show A 0 (nI n).toNatClampNeg = nI 9 by rw [e1]; exact h0) ?_
    iterate 2 (refine zv_step (bX7_say (z + 1 + 2)) rfl rfl trivial ?_)
    refine zv_iff (by decide) ?_
    iterate 2 (refine zv_step (bX7_say (z + 1 + 2)) rfl rfl trivial ?_)
    refine zv_V1 (bX7_say (z + 1 + 2)) rfl rfl rfl rfl rfl rfl rfl ⟨rfl, rfl, rfl⟩ ⟨by show 0 + 1 ≤ z + 1 + 2; omega, by show 8 + (2 + 11) + 64 * (0) ≤ 64 * (z + 1 + 2); omega⟩ ⟨Nat.zero_le _, Nat.zero_le _⟩ (mSays f (upd o 20 _) A J _ _ (by omega) _) ?_
    rintro _ _ ⟨rfl, rfl⟩
    iterate 5 (refine zv_step (bX7_say (z + 1 + 2)) rfl rfl trivial ?_)
    refine zv_iale (bX7_say (z + 1 + 2)) rfl rfl hv (show A 2 (nI n).toNatClampNeg = nI a by rw [e1]; exact h2) ?_
    refine zv_V2 (bX7_say (z + 1 + 2)) rfl rfl rfl rfl rfl rfl rfl ⟨rfl, rfl, rfl⟩ ⟨by show z + 2 + 1 ≤ z + 1 + 2; omega, by show 8 + (6 + 11) + 64 * (z + 2) ≤ 64 * (z + 1 + 2); omega⟩ ⟨Nat.zero_le _, Nat.zero_le _⟩ (ih a (by omega) (by omega) (by omega) _ _ _ (by omega)) ?_
    rintro _ _ ⟨rfl, m1, rfl⟩
    iterate 3 (refine zv_step (bX7_say (z + 1 + 2)) rfl rfl trivial ?_)
    refine zv_iale (bX7_say (z + 1 + 2)) rfl rfl hv (show A 0 (nI n).toNatClampNeg = nI 9 by rw [e1]; exact h0) ?_
    iterate 2 (refine zv_step (bX7_say (z + 1 + 2)) rfl rfl trivial ?_)
    refine zv_ift (by decide) ?_
    have kk := kk m1
    simp only [List.length_cons] at kk
    rw [show q + ((wdW A s z (nI a)).length + 1 + 1) = q + 1 + 1 + (wdW A s z (nI a)).length by omega] at kk
    exact kk
set_option maxHeartbeats 1000000 in
set_option maxRecDepth 20000 in
theorem mSayX (f : Nat → zC) (o : Nat → Int32) (A : Nat → Nat → Int32) (J : Nat → Nat → Int64) {lo hi : Nat} (hh : hi ≤ 450) (hT : tbI lo hi A) (hB : blI A) (hm : o 19 < 0) {s : Nat} (hs : s < 8) : ∀ (z n : Nat), lo ≤ n → n < hi → szN A n ≤ z → ∀ (q : Nat) (m : Int32) (g : Nat → Int32), q + (wdW A s z (nI n)).length ≤ 256 → zK (z + 2) zX7_say [.ref 76, .int (nI s), .int (nI n)] (wZ f o A J q m g) (fun r w' => r = none ∧ ∃ m' : Int32, w' = wZ f o A J (q + (wdW A s z (nI n)).length) m' (appA g q (wdW A s z (nI n)))) := by
  intro z
  induction z with
  | zero =>
    intro n hlo hn hz
    have := (rN_sz (hT n hlo hn)).1
    omega
  | succ z ih =>
    intro n hlo hn hz q m g hq
    obtain ⟨kd, hkd, h0⟩ := rN_kd (hT n hlo hn)
    refine zK_of qX7_say (by decide +kernel) rfl ?_
    iterate 3 (refine zv_step (bX7_say (z + 1 + 2)) rfl rfl trivial ?_)
    refine zv_V2 (bX7_say (z + 1 + 2)) rfl rfl rfl rfl rfl rfl rfl ⟨rfl, rfl, rfl⟩ ⟨by show 1 + 1 ≤ z + 1 + 2; omega, by show 8 + (3 + 11) + 64 * (1) ≤ 64 * (z + 1 + 2); omega⟩ ⟨Nat.zero_le _, Nat.zero_le _⟩ (mKeepsIt f o A J hB hs (by omega) hkd h0 q m g) ?_
    rintro _ _ ⟨m1, c, rfl, rfl, rfl | rfl, hc⟩
    · skip
      iterate 3 (refine zv_step (bX7_say (z + 1 + 2)) rfl rfl trivial ?_)
      refine zv_ift (rfl) ?_
      have eW9 : wdW A s (z + 1) (nI n) = (coL A (wdW A s z) n) := by
        rw [wdW_nI (by omega) hkd h0, ← hc hm]
        exact if_pos rfl
      rw [eW9] at hq
      have K : ∀ (n1 : Nat) (m' : Int32), zV (zMo (z + 1 + 2) zX7_say) false n1 0 0 270 [(3, .int 0), (0, .ref 76), (1, .int (nI s)), (2, .int (nI n))] [] (wZ f o A J (q + (coL A (wdW A s z) n).length) m' (appA g q (coL A (wdW A s z) n))) (fun r w' => r = none ∧ ∃ m' : Int32, w' = wZ f o A J (q + (wdW A s (z + 1) (nI n)).length) m' (appA g q (wdW A s (z + 1) (nI n)))) := by
        intro n1 m'
        iterate 2 (refine zv_step (bX7_say (z + 1 + 2)) rfl rfl trivial ?_)
        refine zv_ift (rfl) ?_
        exact zv_ret (bX7_say (z + 1 + 2)) rfl rfl (Nat.zero_le _) (Nat.zero_le _) ⟨rfl, m', by rw [eW9]⟩
      obtain ⟨k9, y9, h0', hk9, h4, hy, hs9, _⟩ := hT n hlo hn
      have es := szN_of h4 hy
      have kd9 : k9 = kd := (nI_eq (by omega) (by omega)).mp (h0'.symm.trans h0)
      subst kd9
      rcases hs9 with ⟨k1, h2, h3, e⟩ | ⟨k1, k2, a, b, h2, la, ha, h3, lb, hb, e⟩ | ⟨k1, a, h2, la, ha, h3, e⟩
      · rcases (show k9 = 0 ∨ k9 = 1 by omega) with rfl | rfl
        · exact sayX0 f o A J hh (by omega) ih (by omega) (K _) h0
        · exact sayX1 f o A J hh (by omega) ih (by omega) (K _) h0
      · exact sayX2 f o A J hh (by omega) ih (by omega) (K _) k1 k2 h0 h2 la ha h3 lb hb hn hz (by omega)
      · rcases (show k9 = 7 ∨ k9 = 8 ∨ k9 = 9 by omega) with rfl | rfl | rfl
        · exact sayX7 f o A J hh (by omega) ih (by omega) (K _) h0 h2 la ha hn hz (by omega)
        · exact sayX8 f o A J hh (by omega) ih (by omega) (K _) h0 h2 la ha hn hz (by omega)
        · exact sayX9 f o A J hh (by omega) ih (by omega) (K _) h0 h2 la ha hn hz (by omega)
    · skip
      iterate 3 (refine zv_step (bX7_say (z + 1 + 2)) rfl rfl trivial ?_)
      refine zv_iff (by decide) ?_
      iterate 2 (refine zv_step (bX7_say (z + 1 + 2)) rfl rfl trivial ?_)
      refine zv_V1 (bX7_say (z + 1 + 2)) rfl rfl rfl rfl rfl rfl rfl ⟨rfl, rfl, rfl⟩ ⟨by show 0 + 1 ≤ z + 1 + 2; omega, by show 8 + (2 + 11) + 64 * (0) ≤ 64 * (z + 1 + 2); omega⟩ ⟨Nat.zero_le _, Nat.zero_le _⟩ (mSays f (upd o 20 _) A J _ _ (by have := hq; rw [wdW_nI (by omega) hkd h0, ← hc hm] at this; unfold brL at this; rw [if_neg (by decide)] at this; simp only [List.length_append, List.length_cons, List.length_nil] at this; omega) _) ?_
      rintro _ _ ⟨rfl, rfl⟩
      have eW9 : wdW A s (z + 1) (nI n) = c8 29 :: ((coL A (wdW A s z) n) ++ [c8 30]) := by
        rw [wdW_nI (by omega) hkd h0, ← hc hm]
        exact if_neg (by decide)
      rw [eW9] at hq
      simp only [List.length_append, List.length_cons, List.length_nil] at hq
      have K : ∀ (n1 : Nat) (m' : Int32), zV (zMo (z + 1 + 2) zX7_say) false n1 0 0 270 [(3, .int 1), (0, .ref 76), (1, .int (nI s)), (2, .int (nI n))] [] (wZ f o A J ((q + 1) + (coL A (wdW A s z) n).length) m' (appA (upd g q (c8 29)) (q + 1) (coL A (wdW A s z) n))) (fun r w' => r = none ∧ ∃ m' : Int32, w' = wZ f o A J (q + (wdW A s (z + 1) (nI n)).length) m' (appA g q (wdW A s (z + 1) (nI n)))) := by
        intro n1 m'
        iterate 2 (refine zv_step (bX7_say (z + 1 + 2)) rfl rfl trivial ?_)
        refine zv_iff (by decide) ?_
        iterate 2 (refine zv_step (bX7_say (z + 1 + 2)) rfl rfl trivial ?_)
        refine zv_V1 (bX7_say (z + 1 + 2)) rfl rfl rfl rfl rfl rfl rfl ⟨rfl, rfl, rfl⟩ ⟨by show 0 + 1 ≤ z + 1 + 2; omega, by show 8 + (2 + 11) + 64 * (0) ≤ 64 * (z + 1 + 2); omega⟩ ⟨Nat.zero_le _, Nat.zero_le _⟩ (mSays f (upd o 20 _) A J _ _ (by omega) _) ?_
        rintro _ _ ⟨rfl, rfl⟩
        exact zv_ret (bX7_say (z + 1 + 2)) rfl rfl (Nat.zero_le _) (Nat.zero_le _) ⟨rfl, m', by rw [eW9, show c8 29 :: ((coL A (wdW A s z) n) ++ [c8 30]) = (c8 29 :: (coL A (wdW A s z) n)) ++ [c8 30] from rfl, appA_app]; simp only [List.length_cons, List.length_append, List.length_nil]; rw [show q + ((coL A (wdW A s z) n).length + 1 + (0 + 1)) = q + 1 + (coL A (wdW A s z) n).length + 1 by omega, show q + ((coL A (wdW A s z) n).length + 1) = q + 1 + (coL A (wdW A s z) n).length by omega]; rfl⟩
      obtain ⟨k9, y9, h0', hk9, h4, hy, hs9, _⟩ := hT n hlo hn
      have es := szN_of h4 hy
      have kd9 : k9 = kd := (nI_eq (by omega) (by omega)).mp (h0'.symm.trans h0)
      subst kd9
      rcases hs9 with ⟨k1, h2, h3, e⟩ | ⟨k1, k2, a, b, h2, la, ha, h3, lb, hb, e⟩ | ⟨k1, a, h2, la, ha, h3, e⟩
      · rcases (show k9 = 0 ∨ k9 = 1 by omega) with rfl | rfl
        · exact sayX0 f o A J hh (by omega) ih (by omega) (K _) h0
        · exact sayX1 f o A J hh (by omega) ih (by omega) (K _) h0
      · exact sayX2 f o A J hh (by omega) ih (by omega) (K _) k1 k2 h0 h2 la ha h3 lb hb hn hz (by omega)
      · rcases (show k9 = 7 ∨ k9 = 8 ∨ k9 = 9 by omega) with rfl | rfl | rfl
        · exact sayX7 f o A J hh (by omega) ih (by omega) (K _) h0 h2 la ha hn hz (by omega)
        · exact sayX8 f o A J hh (by omega) ih (by omega) (K _) h0 h2 la ha hn hz (by omega)
        · exact sayX9 f o A J hh (by omega) ih (by omega) (K _) h0 h2 la ha hn hz (by omega)
set_option maxHeartbeats 1000000 in
set_option maxRecDepth 20000 in
theorem mSayAllX (f : Nat → zC) (o : Nat → Int32) (A : Nat → Nat → Int32) (J : Nat → Nat → Int64) {lo hi : Nat} (hh : hi ≤ 450) (hT : tbI lo hi A) (hB : blI A) {s n : Nat} (hs : s < 8) (hlo : lo ≤ n) (hn : n < hi) : zK 43 zX7_sayAll [.ref 76, .int (nI s), .int (nI n)] (wR f o A J) (fun r w' => r = none ∧ ∃ m' : Int32, w' = wZ f (upd o 19 (Int32.ofInt (-1))) A J (wdW A s 40 (nI n)).length m' (appA (A 14) 0 (wdW A s 40 (nI n)))) := by
  refine zK_of qX7_sayAll (by decide +kernel) rfl ?_
  iterate 6 (refine zv_step (bX7_sayAll 43) rfl rfl trivial ?_)
  have hlen : 0 + (wdW A s 40 (nI n)).length ≤ 256 := by
    rw [wdW_len hh hT s 40 (nI n) (pt_of hT hlo hn)]
    have hl := lnW_le hh hT s 40 (nI n) (pt_of hT hlo hn)
    have hz := (rN_sz (hT n hlo hn)).2.1
    rw [if_neg (nI_pos (by omega)), nI_clamp (by omega)] at hl
    omega
  refine zv_world (show _ = wZ f (upd o 19 (Int32.ofInt (-1))) A J 0 (o 20) (A 14) from rfl) ?_
  iterate 3 (refine zv_step (bX7_sayAll 43) rfl rfl trivial ?_)
  refine zv_V2 (bX7_sayAll 43) rfl rfl rfl rfl rfl rfl rfl ⟨rfl, rfl, rfl⟩ ⟨by decide, by decide⟩ ⟨Nat.zero_le _, Nat.zero_le _⟩ (mSayX f (upd o 19 (Int32.ofInt (-1))) A J hh hT hB (show upd o 19 (Int32.ofInt (-1)) 19 < 0 by rw [upd_self]; decide) hs 40 n hlo hn (rN_sz (hT n hlo hn)).2.1 0 _ _ hlen) ?_
  rintro _ _ ⟨rfl, m1, rfl⟩
  rw [Nat.zero_add]
  exact zv_ret (bX7_sayAll 43) rfl rfl (Nat.zero_le _) (Nat.zero_le _) ⟨rfl, m1, rfl⟩
end
