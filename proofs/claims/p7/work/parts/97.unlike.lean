/-- the sum of g over a span -/
def sm (g : Nat → Nat) : Nat → Nat → Nat
  | 0, _ => 0
  | c + 1, i => g i + sm g c (i + 1)
theorem sm_add (g : Nat → Nat) : ∀ (a b i : Nat), sm g (a + b) i = sm g a i + sm g b (i + a)
  | 0, b, i => by rw [Nat.zero_add, Nat.add_zero]; exact (Nat.zero_add _).symm
  | a + 1, b, i => by
    rw [show a + 1 + b = (a + b) + 1 by omega]
    show g i + sm g (a + b) (i + 1) = g i + sm g a (i + 1) + sm g b (i + (a + 1))
    rw [sm_add g a b (i + 1), show i + 1 + a = i + (a + 1) by omega]
    omega
def spn (g : Nat → Nat) (i j : Nat) : Nat := sm g (j - i) i
theorem spn_split (g : Nat → Nat) {i m j : Nat} (h1 : i ≤ m) (h2 : m ≤ j) : spn g i j = spn g i m + spn g m j := by
  unfold spn
  rw [show j - i = (m - i) + (j - m) by omega, sm_add, show i + (m - i) = m by omega]
theorem spn_one (g : Nat → Nat) (i : Nat) : spn g i (i + 1) = g i := by
  unfold spn
  rw [show i + 1 - i = 1 by omega]
  rfl
theorem spn_cons (g : Nat → Nat) {i j : Nat} (h : i < j) : spn g i j = g i + spn g (i + 1) j := by
  rw [spn_split g (show i ≤ i + 1 by omega) (show i + 1 ≤ j by omega), spn_one]
theorem spn_snoc (g : Nat → Nat) {i j : Nat} (h : i < j) : spn g i j = spn g i (j - 1) + g (j - 1) := by
  rw [spn_split g (show i ≤ j - 1 by omega) (show j - 1 ≤ j by omega)]
  congr 1
  have := spn_one g (j - 1)
  rwa [show j - 1 + 1 = j by omega] at this
theorem sm_c (g : Nat → Nat) {c : Nat} : ∀ (n i : Nat), (∀ x, i ≤ x → x < i + n → g x = c) → sm g n i = c * n
  | 0, _, _ => rfl
  | n + 1, i, h => by
    show g i + sm g n (i + 1) = c * (n + 1)
    rw [h i (Nat.le_refl _) (by omega), sm_c g n (i + 1) (fun x h1 h2 => h x (by omega) (by omega)), Nat.mul_succ]
    omega
theorem spn_c (g : Nat → Nat) {c i j : Nat} (h : ∀ x, i ≤ x → x < j → g x = c) (hij : i ≤ j) : spn g i j = c * (j - i) := sm_c g _ _ (fun x h1 h2 => h x h1 (by omega))
def gB (E : Nat → Nat) (x : Nat) : Nat := if E x = 29 then 1 else 0
def gC (E : Nat → Nat) (x : Nat) : Nat := if E x = 30 then 1 else 0
def gO (E : Nat → Nat) (x : Nat) : Nat := if E x = 29 ∨ E x = 30 then 0 else 1
theorem g_o {E : Nat → Nat} {x : Nat} (h : E x ≤ 28) : gB E x = 0 ∧ gC E x = 0 ∧ gO E x = 1 := ⟨if_neg (by omega), if_neg (by omega), if_neg (by omega)⟩
theorem g_b {E : Nat → Nat} {x : Nat} (h : E x = 29) : gB E x = 1 ∧ gC E x = 0 ∧ gO E x = 0 := ⟨if_pos h, if_neg (by omega), if_pos (Or.inl h)⟩
theorem g_c {E : Nat → Nat} {x : Nat} (h : E x = 30) : gB E x = 0 ∧ gC E x = 1 ∧ gO E x = 0 := ⟨if_neg (by omega), if_pos h, if_pos (Or.inr h)⟩
/-- a tree's words, begin and end left aside -/
noncomputable def bwW (A : Nat → Nat → Int32) : Nat → Int32 → Nat
  | 0, _ => 0
  | z + 1, x => if x < 0 then 0 else ownW A x.toNatClampNeg + bwW A z (A 2 x.toNatClampNeg) + bwW A z (A 3 x.toNatClampNeg)
theorem bwW_m2 (A : Nat → Nat → Int32) (z : Nat) : bwW A z m2 = 0 := by
  cases z with
  | zero => rfl
  | succ z => exact if_pos (by decide)
theorem bwW_nI {A : Nat → Nat → Int32} {z n : Nat} (hn : n < 450) : bwW A (z + 1) (nI n) = ownW A n + bwW A z (A 2 n) + bwW A z (A 3 n) := by
  show (if nI n < 0 then 0 else _) = _
  rw [if_neg (nI_pos (by omega)), nI_clamp (by omega)]
theorem bwW_alk {A : Nat → Nat → Int32} : ∀ (z f : Nat) (a b : Int32), alk A z a b → bwW A f a = bwW A f b := by
  intro z
  induction z with
  | zero =>
    rintro f a b ⟨rfl, rfl⟩
    rfl
  | succ z ih =>
    intro f a b h
    rcases h with ⟨rfl, rfl⟩ | ⟨i, j, hi, hj, rfl, rfl, e0, e1, e4, p2, p3⟩
    · rfl
    · cases f with
      | zero => rfl
      | succ f =>
        rw [bwW_nI hi, bwW_nI hj, ih f _ _ p2, ih f _ _ p3]
        unfold ownW
        rw [e0, e1]
theorem bal_o {E : Nat → Nat} {i j : Nat} (h : ∀ x, i ≤ x → x < j → E x ≤ 28) (hij : i ≤ j) : spn (gB E) i j = 0 ∧ spn (gC E) i j = 0 ∧ spn (gO E) i j = j - i := by
  refine ⟨?_, ?_, ?_⟩
  · rw [spn_c (gB E) (c := 0) (fun x h1 h2 => (g_o (h x h1 h2)).1) hij, Nat.zero_mul]
  · rw [spn_c (gC E) (c := 0) (fun x h1 h2 => (g_o (h x h1 h2)).2.1) hij, Nat.zero_mul]
  · rw [spn_c (gO E) (c := 1) (fun x h1 h2 => (g_o (h x h1 h2)).2.2) hij, Nat.one_mul]
theorem Rk_7 {E : Nat → Nat} {L : Nat → Nat → Nat} {A : Nat → Nat → Int32} {R : Nat → Nat → Nat → Nat → Prop} {k a b q n : Nat} (h : Rk E L A R k a b q n) (e : k = 7) : ∃ x, 400 ≤ x ∧ x < n ∧ A 2 n = nI x ∧ A 3 n = m2 ∧ R (a + 1) b q x := by
  rcases h with ⟨h, _⟩ | ⟨h, _⟩ | ⟨h, r⟩ | ⟨h, r⟩ | ⟨h, r⟩ | ⟨h, h6, _⟩ <;> first | exact r | omega
theorem Rk_8 {E : Nat → Nat} {L : Nat → Nat → Nat} {A : Nat → Nat → Int32} {R : Nat → Nat → Nat → Nat → Prop} {k a b q n : Nat} (h : Rk E L A R k a b q n) (e : k = 8) : ∃ x, 400 ≤ x ∧ x < n ∧ A 2 n = nI x ∧ A 3 n = m2 ∧ R (a + 1) (b - 1) q x := by
  rcases h with ⟨h, _⟩ | ⟨h, _⟩ | ⟨h, r⟩ | ⟨h, r⟩ | ⟨h, r⟩ | ⟨h, h6, _⟩ <;> first | exact r | omega
theorem Rk_9 {E : Nat → Nat} {L : Nat → Nat → Nat} {A : Nat → Nat → Int32} {R : Nat → Nat → Nat → Nat → Prop} {k a b q n : Nat} (h : Rk E L A R k a b q n) (e : k = 9) : ∃ x, 400 ≤ x ∧ x < n ∧ A 2 n = nI x ∧ A 3 n = m2 ∧ R (a + 2) b q x := by
  rcases h with ⟨h, _⟩ | ⟨h, _⟩ | ⟨h, r⟩ | ⟨h, r⟩ | ⟨h, r⟩ | ⟨h, h6, _⟩ <;> first | exact r | omega
theorem Rk_0 {E : Nat → Nat} {L : Nat → Nat → Nat} {A : Nat → Nat → Int32} {R : Nat → Nat → Nat → Nat → Prop} {k a b q n : Nat} (h : Rk E L A R k a b q n) (e : k < 2) : A 2 n = m2 ∧ A 3 n = m2 ∧ (k = 1 → dgN (A 1 n) = b - a) := by
  rcases h with ⟨h, h2, h3⟩ | ⟨h, h2, h3, h4⟩ | ⟨h, r⟩ | ⟨h, r⟩ | ⟨h, r⟩ | ⟨h, h6, _⟩
  · exact ⟨h2, h3, fun e => absurd e (by omega)⟩
  · exact ⟨h2, h3, fun _ => h4⟩
  · omega
  · omega
  · omega
  · omega
theorem Rk_P {E : Nat → Nat} {L : Nat → Nat → Nat} {A : Nat → Nat → Int32} {R : Nat → Nat → Nat → Nat → Prop} {k a b q n : Nat} (h : Rk E L A R k a b q n) (k2 : 2 ≤ k) (k6 : k ≤ 6) : ∃ c r x y, a + 1 + c + 1 < b ∧ E (a + 1 + c) = 18 + k ∧ q = pfS E L k a b c + r ∧ r < tmW (L a (a + 1 + c)) (L (a + 1 + c + 1) b) ∧ 400 ≤ x ∧ x < n ∧ 400 ≤ y ∧ y < n ∧ A 2 n = nI x ∧ A 3 n = nI y ∧ R a (a + 1 + c) (r / L (a + 1 + c + 1) b) x ∧ R (a + 1 + c + 1) b (r % L (a + 1 + c + 1) b) y := by
  rcases h with ⟨h, _⟩ | ⟨h, _⟩ | ⟨h, _⟩ | ⟨h, _⟩ | ⟨h, _⟩ | ⟨_, _, r⟩
  · omega
  · omega
  · omega
  · omega
  · omega
  · exact r
/-- what wi says of its ends -/
theorem wi_pos {E : Nat → Nat} {G : Nat → Int32} {L : Nat → Nat → Nat} {k a b q : Nat} (h : q < wi E G L k a b) : a < b ∧ (k = 0 → b - a = 1 ∧ E a < 10 ∧ q = 0) ∧ (k = 1 → isNumB E a b = true ∧ q = 0) ∧ (k = 7 → E a = 25 ∧ 1 < b - a) ∧ (k = 8 → E a = 26 ∧ E (b - 1) = 27 ∧ 2 < b - a) ∧ (k = 9 → E a < 10 ∧ 2 < b - a ∧ E (a + 1) = 28) := by
  have hab : a < b := by
    rcases Nat.lt_or_ge a b with e | e
    · exact e
    · rw [wi_n e] at h
      omega
  refine ⟨hab, ?_, ?_, ?_, ?_, ?_⟩
  · rintro rfl
    rw [wi_0 hab] at h
    split at h
    · rename_i e; exact ⟨e.1, e.2.1, by omega⟩
    · omega
  · rintro rfl
    rw [wi_1 hab] at h
    split at h
    · rename_i e; exact ⟨e, by omega⟩
    · omega
  · rintro rfl
    rw [wi_7 hab] at h
    split at h
    · assumption
    · omega
  · rintro rfl
    rw [wi_8 hab] at h
    split at h
    · assumption
    · omega
  · rintro rfl
    rw [wi_9 hab] at h
    split at h
    · rename_i e; exact ⟨e.1, e.2.2.1, e.2.2.2⟩
    · omega
/-- begin and end balance in a READING, and its other words are its tree's -/
theorem Rd_cnt {A0 : Nat → Nat → Int32} {s : Nat} {J : Nat → Nat → Int64} {A : Nat → Nat → Int32} : ∀ (f i j p n : Nat), n < 450 → Rd (eW A0) (mW A0 s (lW J)) (lW J) A f i j p n → spn (gB (eW A0)) i j = spn (gC (eW A0)) i j ∧ spn (gO (eW A0)) i j = bwW A f (nI n) := by
  intro f
  induction f with
  | zero => exact fun i j p n _ h => h.elim
  | succ f ih =>
    rintro i j p n hn ⟨c, q, hc, hp, hq, h0, hk⟩
    obtain ⟨hw, hbr⟩ := mW_pos hq
    generalize ha : i + c % 2 = a at hw hk
    generalize hb : j - c % 2 = b at hw hk
    generalize hk9 : c / 2 = k at hw hk h0
    have hk10 : k < 10 := by omega
    obtain ⟨hab, w0, w1, w7, w8, w9⟩ := wi_pos hw
    have hown := ownW_c k h0
    have core : spn (gB (eW A0)) a b = spn (gC (eW A0)) a b ∧ spn (gO (eW A0)) a b = bwW A (f + 1) (nI n) := by
      rw [bwW_nI hn]
      rcases (show k = 0 ∨ k = 1 ∨ (2 ≤ k ∧ k ≤ 6) ∨ k = 7 ∨ k = 8 ∨ k = 9 by omega) with e | e | ⟨k2, k6⟩ | e | e | e
      · obtain ⟨h2, h3, _⟩ := Rk_0 hk (by omega)
        obtain ⟨d1, d2, _⟩ := w0 e
        obtain ⟨b1, b2, b3⟩ := bal_o (E := eW A0) (i := a) (j := b) (fun x h1 h2 => by rw [show x = a by omega]; omega) (by omega)
        rw [h2, h3, bwW_m2, hown.1 e]
        omega
      · obtain ⟨h2, h3, h4⟩ := Rk_0 hk (by omega)
        have hd := isNumB_at (w1 e).1
        obtain ⟨b1, b2, b3⟩ := bal_o (E := eW A0) (i := a) (j := b) (fun x h1 h2 => by have := hd.2.2 x h1 h2; omega) (by omega)
        rw [h2, h3, bwW_m2, hown.2.1 e, h4 e]
        omega
      · obtain ⟨m, r, x, y, hm, hE, _, _, x1, x2, y1, y2, h2, h3, rx, ry⟩ := Rk_P hk k2 k6
        obtain ⟨i1, i2⟩ := ih _ _ _ x (by omega) rx
        obtain ⟨j1, j2⟩ := ih _ _ _ y (by omega) ry
        obtain ⟨g1, g2, g3⟩ := g_o (E := eW A0) (x := a + 1 + m) (by omega)
        rw [h2, h3, ownW_2 k2 k6 h0, spn_split (gB (eW A0)) (show a ≤ a + 1 + m by omega) (show a + 1 + m ≤ b by omega), spn_split (gC (eW A0)) (show a ≤ a + 1 + m by omega) (show a + 1 + m ≤ b by omega), spn_split (gO (eW A0)) (show a ≤ a + 1 + m by omega) (show a + 1 + m ≤ b by omega), spn_cons (gB (eW A0)) (show a + 1 + m < b by omega), spn_cons (gC (eW A0)) (show a + 1 + m < b by omega), spn_cons (gO (eW A0)) (show a + 1 + m < b by omega)]
        omega
      · obtain ⟨x, x1, x2, h2, h3, rx⟩ := Rk_7 hk e
        obtain ⟨i1, i2⟩ := ih _ _ _ x (by omega) rx
        obtain ⟨g1, g2, g3⟩ := g_o (E := eW A0) (x := a) (by have := (w7 e).1; omega)
        rw [h2, h3, bwW_m2, hown.2.2.1 e, spn_cons (gB (eW A0)) hab, spn_cons (gC (eW A0)) hab, spn_cons (gO (eW A0)) hab]
        omega
      · obtain ⟨x, x1, x2, h2, h3, rx⟩ := Rk_8 hk e
        obtain ⟨i1, i2⟩ := ih _ _ _ x (by omega) rx
        obtain ⟨e1, e2, e3⟩ := w8 e
        obtain ⟨g1, g2, g3⟩ := g_o (E := eW A0) (x := a) (by omega)
        obtain ⟨g4, g5, g6⟩ := g_o (E := eW A0) (x := b - 1) (by omega)
        rw [h2, h3, bwW_m2, hown.2.2.2.1 e, spn_cons (gB (eW A0)) hab, spn_cons (gC (eW A0)) hab, spn_cons (gO (eW A0)) hab, spn_snoc (gB (eW A0)) (show a + 1 < b by omega), spn_snoc (gC (eW A0)) (show a + 1 < b by omega), spn_snoc (gO (eW A0)) (show a + 1 < b by omega)]
        omega
      · obtain ⟨x, x1, x2, h2, h3, rx⟩ := Rk_9 hk e
        obtain ⟨i1, i2⟩ := ih _ _ _ x (by omega) rx
        obtain ⟨e1, e2, e3⟩ := w9 e
        obtain ⟨g1, g2, g3⟩ := g_o (E := eW A0) (x := a) (by omega)
        obtain ⟨g4, g5, g6⟩ := g_o (E := eW A0) (x := a + 1) (by omega)
        rw [h2, h3, bwW_m2, hown.2.2.2.2 e, spn_cons (gB (eW A0)) hab, spn_cons (gC (eW A0)) hab, spn_cons (gO (eW A0)) hab, spn_cons (gB (eW A0)) (show a + 1 < b by omega), spn_cons (gC (eW A0)) (show a + 1 < b by omega), spn_cons (gO (eW A0)) (show a + 1 < b by omega)]
        rw [show a + 1 + 1 = a + 2 by omega]
        omega
    rcases (show c % 2 = 0 ∨ c % 2 = 1 by omega) with e | e
    · rw [e] at ha hb
      obtain rfl : i = a := by omega
      obtain rfl : j = b := by omega
      exact core
    · rw [e] at ha hb
      obtain ⟨e1, e2⟩ := hbr.resolve_left (by omega)
      obtain ⟨g1, g2, g3⟩ := g_b e1
      obtain ⟨g4, g5, g6⟩ := g_c e2
      rw [spn_cons (gB (eW A0)) (show i < j by omega), spn_cons (gC (eW A0)) (show i < j by omega), spn_cons (gO (eW A0)) (show i < j by omega), spn_snoc (gB (eW A0)) (show i + 1 < j by omega), spn_snoc (gC (eW A0)) (show i + 1 < j by omega), spn_snoc (gO (eW A0)) (show i + 1 < j by omega), ha, hb]
      rw [hb] at g4 g5 g6
      omega
/-- where one of two equal counts ends at a word, so does the other -/
theorem cut_eq {E : Nat → Nat} {i m m' : Nat} (h1 : i ≤ m) (h2 : i ≤ m') (e : spn (gO E) i m = spn (gO E) i m') (g : E m ≤ 28) (g' : E m' ≤ 28) : m = m' := by
  rcases Nat.lt_trichotomy m m' with h | h | h
  · have := spn_split (gO E) h1 (show m ≤ m' by omega)
    have := spn_cons (gO E) h
    have := (g_o g).2.2
    omega
  · exact h
  · have := spn_split (gO E) h2 (show m' ≤ m by omega)
    have := spn_cons (gO E) h
    have := (g_o g').2.2
    omega
/-- alike trees are the same READING -/
theorem Rd_inj {A0 : Nat → Nat → Int32} {s : Nat} {J : Nat → Nat → Int64} {A : Nat → Nat → Int32} : ∀ (f i j p p' n n' z : Nat), n < 450 → n' < 450 → Rd (eW A0) (mW A0 s (lW J)) (lW J) A f i j p n → Rd (eW A0) (mW A0 s (lW J)) (lW J) A f i j p' n' → alk A z (nI n) (nI n') → p = p' := by
  intro f
  induction f with
  | zero => exact fun i j p p' n n' z _ _ h => h.elim
  | succ f ih =>
    rintro i j p p' n n' z hn hn' ⟨c, q, hc, hp, hq, h0, hk⟩ ⟨c', q', hc', hp', hq', h0', hk'⟩ hal
    cases z with
    | zero => exact absurd hal.1.symm (m2_nI hn)
    | succ z =>
      obtain ⟨a0, a1, a4, al2, al3⟩ := (alk_nn hn hn').mp hal
      have ek : c / 2 = c' / 2 := (nI_eq (by omega) (by omega)).mp (h0.symm.trans (a0.trans h0'))
      obtain ⟨hw, hbr⟩ := mW_pos hq
      obtain ⟨hw', hbr'⟩ := mW_pos hq'
      suffices hs : c % 2 = c' % 2 ∧ q = q' by
        have : c = c' := by omega
        subst this
        omega
      rw [← ek] at hw' hk'
      generalize hk9 : c / 2 = k at hw hk hw' hk'
      have hk10 : k < 10 := by omega
      obtain ⟨hab, w0, w1, w7, w8, w9⟩ := wi_pos hw
      obtain ⟨hab', w0', w1', w7', w8', w9'⟩ := wi_pos hw'
      have par : ¬ (2 ≤ k ∧ k ≤ 6) → c % 2 = c' % 2 := by
        intro hnp
        have e1 : c % 2 = 0 → eW A0 i ≠ 29 := fun e => by
          rw [e] at w0 w1 w7 w8 w9
          rcases (show k = 0 ∨ k = 1 ∨ k = 7 ∨ k = 8 ∨ k = 9 by omega) with h | h | h | h | h
          · have := (w0 h).2.1; rw [Nat.add_zero] at this; omega
          · rw [e] at hab
            have := (isNumB_at (w1 h).1).2.2 (i + 0) (Nat.le_refl _) hab; rw [Nat.add_zero] at this; omega
          · have := (w7 h).1; rw [Nat.add_zero] at this; omega
          · have := (w8 h).1; rw [Nat.add_zero] at this; omega
          · have := (w9 h).1; rw [Nat.add_zero] at this; omega
        have e2 : c' % 2 = 0 → eW A0 i ≠ 29 := fun e => by
          rw [e] at w0' w1' w7' w8' w9'
          rcases (show k = 0 ∨ k = 1 ∨ k = 7 ∨ k = 8 ∨ k = 9 by omega) with h | h | h | h | h
          · have := (w0' h).2.1; rw [Nat.add_zero] at this; omega
          · rw [e] at hab'
            have := (isNumB_at (w1' h).1).2.2 (i + 0) (Nat.le_refl _) hab'; rw [Nat.add_zero] at this; omega
          · have := (w7' h).1; rw [Nat.add_zero] at this; omega
          · have := (w8' h).1; rw [Nat.add_zero] at this; omega
          · have := (w9' h).1; rw [Nat.add_zero] at this; omega
        rcases (show c % 2 = 0 ∨ c % 2 = 1 by omega) with h | h <;> rcases (show c' % 2 = 0 ∨ c' % 2 = 1 by omega) with h' | h'
        · omega
        · exact absurd (hbr'.resolve_left (by omega)).1 (e1 h)
        · exact absurd (hbr.resolve_left (by omega)).1 (e2 h')
        · omega
      rcases (show k = 0 ∨ k = 1 ∨ (2 ≤ k ∧ k ≤ 6) ∨ k = 7 ∨ k = 8 ∨ k = 9 by omega) with e | e | ⟨k2, k6⟩ | e | e | e
      · exact ⟨par (by omega), by have := (w0 e).2.2; have := (w0' e).2.2; omega⟩
      · exact ⟨par (by omega), by have := (w1 e).2; have := (w1' e).2; omega⟩
      · obtain ⟨m, r, x, y, hm, hE, hqr, hr, x1, x2, y1, y2, h2, h3, rx, ry⟩ := Rk_P hk k2 k6
        obtain ⟨m', r', x', y', hm', hE', hqr', hr', x1', x2', y1', y2', h2', h3', rx', ry'⟩ := Rk_P hk' k2 k6
        rw [h2, h2'] at al2
        rw [h3, h3'] at al3
        obtain ⟨i1, i2⟩ := Rd_cnt f _ _ _ x (by omega) rx
        obtain ⟨i1', i2'⟩ := Rd_cnt f _ _ _ x' (by omega) rx'
        have eb := bwW_alk z f _ _ al2
        have pe : c % 2 = c' % 2 := by
          rcases (show c % 2 = 0 ∨ c % 2 = 1 by omega) with h | h <;> rcases (show c' % 2 = 0 ∨ c' % 2 = 1 by omega) with h' | h'
          · omega
          · exfalso
            rw [h] at i1 i2 hE
            rw [h'] at i1' i2' hE'
            rw [Nat.add_zero] at i1 i2 hE
            obtain ⟨g1, g2, g3⟩ := g_b (hbr'.resolve_left (by omega)).1
            have s1 := spn_cons (gO (eW A0)) (show i < i + 1 + 1 + m' by omega)
            have s2 := spn_cons (gB (eW A0)) (show i < i + 1 + 1 + m' by omega)
            have s3 := spn_cons (gC (eW A0)) (show i < i + 1 + 1 + m' by omega)
            have em := cut_eq (E := eW A0) (i := i) (m := i + 1 + m) (m' := i + 1 + 1 + m') (by omega) (by omega) (by omega) (by omega) (by omega)
            rw [em] at i1
            omega
          · exfalso
            rw [h] at i1 i2 hE
            rw [h'] at i1' i2' hE'
            rw [Nat.add_zero] at i1' i2' hE'
            obtain ⟨g1, g2, g3⟩ := g_b (hbr.resolve_left (by omega)).1
            have s1 := spn_cons (gO (eW A0)) (show i < i + 1 + 1 + m by omega)
            have s2 := spn_cons (gB (eW A0)) (show i < i + 1 + 1 + m by omega)
            have s3 := spn_cons (gC (eW A0)) (show i < i + 1 + 1 + m by omega)
            have em := cut_eq (E := eW A0) (i := i) (m := i + 1 + m') (m' := i + 1 + 1 + m) (by omega) (by omega) (by omega) (by omega) (by omega)
            rw [em] at i1'
            omega
          · omega
        refine ⟨pe, ?_⟩
        rw [← pe] at rx' ry' hE' hm' hqr' hr' i2'
        have em := cut_eq (E := eW A0) (i := i + c % 2) (m := i + c % 2 + 1 + m) (m' := i + c % 2 + 1 + m') (by omega) (by omega) (by omega) (by omega) (by omega)
        obtain rfl : m = m' := by omega
        have f1 := ih _ _ _ _ x x' z (by omega) (by omega) rx rx' al2
        have f2 := ih _ _ _ _ y y' z (by omega) (by omega) ry ry' al3
        have d1 := Nat.div_add_mod r (lW J (i + c % 2 + 1 + m + 1) (j - c % 2))
        have d2 := Nat.div_add_mod r' (lW J (i + c % 2 + 1 + m + 1) (j - c % 2))
        rw [f1, f2] at d1
        omega
      · have pe := par (by omega)
        rw [← pe] at hk'
        obtain ⟨x, x1, x2, h2, h3, rx⟩ := Rk_7 hk e
        obtain ⟨x', x1', x2', h2', h3', rx'⟩ := Rk_7 hk' e
        rw [h2, h2'] at al2
        exact ⟨pe, ih _ _ _ _ x x' z (by omega) (by omega) rx rx' al2⟩
      · have pe := par (by omega)
        rw [← pe] at hk'
        obtain ⟨x, x1, x2, h2, h3, rx⟩ := Rk_8 hk e
        obtain ⟨x', x1', x2', h2', h3', rx'⟩ := Rk_8 hk' e
        rw [h2, h2'] at al2
        exact ⟨pe, ih _ _ _ _ x x' z (by omega) (by omega) rx rx' al2⟩
      · have pe := par (by omega)
        rw [← pe] at hk'
        obtain ⟨x, x1, x2, h2, h3, rx⟩ := Rk_9 hk e
        obtain ⟨x', x1', x2', h2', h3', rx'⟩ := Rk_9 hk' e
        rw [h2, h2'] at al2
        exact ⟨pe, ih _ _ _ _ x x' z (by omega) (by omega) rx rx' al2⟩
/-- the tables are what they are -/
theorem okJ_u {h : Nat} {A : Nat → Nat → Int32} {s : Nat} {J J' : Nat → Nat → Int64} (hJ : okJ h A s J) (hJ' : okJ h A s J') : ∀ (d i j : Nat), i < j → j ≤ h → j - i ≤ d → lW J i j = lW J' i j := by
  intro d
  induction d with
  | zero => exact fun i j h1 _ h3 => absurd h3 (by omega)
  | succ d ih =>
    intro i j h1 h2 h3
    rw [(okS_l (hJ i j h1 h2)).1, (okS_l (hJ' i j h1 h2)).1]
    exact csW_cg 20 (fun c _ => mW_cg (fun a b a1 a2 a3 a4 => ih a b a2 (by omega) (by omega)))
theorem ctW_u {h : Nat} {A : Nat → Nat → Int32} {s : Nat} {J J' : Nat → Nat → Int64} (hJ : okJ h A s J) (hJ' : okJ h A s J') : ctW h J = ctW h J' := by
  unfold ctW
  split
  · rfl
  · exact okJ_u hJ hJ' h 0 h (by omega) (Nat.le_refl _) (by omega)
