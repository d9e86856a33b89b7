/-! begin and end, open and close -/
def gP (E : Nat → Nat) (x : Nat) : Nat := if E x = 26 ∨ E x = 29 then 1 else 0
def gQ (E : Nat → Nat) (x : Nat) : Nat := if E x = 27 ∨ E x = 30 then 1 else 0
def nu (E : Nat → Nat) (x : Nat) : Prop := gP E x = 0 ∧ gQ E x = 0
theorem nu_of {E : Nat → Nat} {x : Nat} (h : E x ≤ 25 ∨ E x = 28) : nu E x := ⟨if_neg (by omega), if_neg (by omega)⟩
theorem op_of {E : Nat → Nat} {x : Nat} (h : E x = 26 ∨ E x = 29) : gP E x = 1 ∧ gQ E x = 0 := ⟨if_pos h, if_neg (by omega)⟩
theorem cl_of {E : Nat → Nat} {x : Nat} (h : E x = 27 ∨ E x = 30) : gP E x = 0 ∧ gQ E x = 1 := ⟨if_neg (by omega), if_pos h⟩
def bal (E : Nat → Nat) (i j : Nat) : Prop := spn (gP E) i j = spn (gQ E) i j ∧ ∀ m, i ≤ m → m ≤ j → spn (gQ E) i m ≤ spn (gP E) i m
theorem spn_0 (g : Nat → Nat) (i : Nat) : spn g i i = 0 := by
  unfold spn
  rw [Nat.sub_self]
  rfl
theorem bal_1 {E : Nat → Nat} {a : Nat} (h : nu E a) : bal E a (a + 1) := by
  refine ⟨by rw [spn_one, spn_one, h.1, h.2], fun m h1 h2 => ?_⟩
  rcases (show m = a ∨ m = a + 1 by omega) with rfl | rfl
  · rw [spn_0, spn_0]
    exact Nat.le_refl _
  · rw [spn_one, spn_one, h.1, h.2]
    exact Nat.le_refl _
theorem bal_app {E : Nat → Nat} {a m b : Nat} (h1 : a ≤ m) (h2 : m ≤ b) (x : bal E a m) (y : bal E m b) : bal E a b := by
  refine ⟨by rw [spn_split _ h1 h2, spn_split (gQ E) h1 h2, x.1, y.1], fun t t1 t2 => ?_⟩
  rcases Nat.lt_or_ge t m with e | e
  · exact x.2 t t1 (by omega)
  · rw [spn_split _ h1 e, spn_split (gP E) h1 e, x.1]
    have := y.2 t e t2
    omega
theorem bal_0 (E : Nat → Nat) (a : Nat) : bal E a a := ⟨by rw [spn_0, spn_0], fun m h1 h2 => by rw [show m = a by omega, spn_0, spn_0]; exact Nat.le_refl _⟩
theorem bal_nu {E : Nat → Nat} : ∀ (c a : Nat), (∀ x, a ≤ x → x < a + c → nu E x) → bal E a (a + c)
  | 0, a, _ => bal_0 E a
  | c + 1, a, h => by
    have := bal_app (by omega) (by omega) (bal_1 (h a (Nat.le_refl _) (by omega))) (bal_nu c (a + 1) (fun x h1 h2 => h x (by omega) (by omega)))
    rwa [show a + 1 + c = a + (c + 1) by omega] at this
theorem bal_cons {E : Nat → Nat} {a b : Nat} (hab : a + 1 ≤ b) (h : nu E a) (y : bal E (a + 1) b) : bal E a b := bal_app (by omega) hab (bal_1 h) y
theorem bal_br {E : Nat → Nat} {a b : Nat} (hab : a + 1 ≤ b - 1) (ho : E a = 26 ∨ E a = 29) (hc : E (b - 1) = 27 ∨ E (b - 1) = 30) (y : bal E (a + 1) (b - 1)) : bal E a b ∧ ∀ m, a < m → m < b → spn (gQ E) a m < spn (gP E) a m := by
  have o := op_of ho
  have c := cl_of hc
  have st : ∀ m, a < m → m < b → spn (gQ E) a m < spn (gP E) a m := fun m h1 h2 => by
    rw [spn_cons _ h1, spn_cons (gP E) h1, o.1, o.2]
    have := y.2 m (by omega) (by omega)
    omega
  refine ⟨⟨?_, fun m h1 h2 => ?_⟩, st⟩
  · rw [spn_cons _ (show a < b by omega), spn_cons (gQ E) (show a < b by omega), spn_snoc _ (show a + 1 < b by omega), spn_snoc (gQ E) (show a + 1 < b by omega), o.1, o.2, c.1, c.2, y.1]
    omega
  · rcases (show m = a ∨ (a < m ∧ m < b) ∨ m = b by omega) with rfl | ⟨q1, q2⟩ | rfl
    · rw [spn_0, spn_0]
      exact Nat.le_refl _
    · exact Nat.le_of_lt (st m q1 q2)
    · rw [spn_cons _ (show a < m by omega), spn_cons (gP E) (show a < m by omega), spn_snoc _ (show a + 1 < m by omega), spn_snoc (gP E) (show a + 1 < m by omega), o.1, o.2, c.1, c.2, y.1]
      omega
/-- what is heard is balanced -/
theorem wi_bal {E : Nat → Nat} {G : Nat → Int32} {L : Nat → Nat → Nat} {k a b : Nat} (hk : k < 10) (ih : ∀ c d, a ≤ c → c < d → d ≤ b → d - c < b - a → 0 < L c d → bal E c d) (h : 0 < wi E G L k a b) : bal E a b := by
  have w := wi_pos h
  have hab := w.1
  rcases (show k = 0 ∨ k = 1 ∨ (2 ≤ k ∧ k ≤ 6) ∨ k = 7 ∨ k = 8 ∨ k = 9 by omega) with e | e | ⟨k2, k6⟩ | e | e | e
  · have := w.2.1 e
    rw [show b = a + 1 by omega]
    exact bal_1 (nu_of (by omega))
  · have hn := (isNumB_at (w.2.2.1 e).1).2.2
    have := bal_nu (E := E) (b - a) a (fun x h1 h2 => nu_of (by have := hn x h1 (by omega); omega))
    rwa [show a + (b - a) = b by omega] at this
  · rw [wi_2 hab k2 k6] at h
    have hp := wiP_pf (E := E) (L := L) (k := k) (a := a) (b := b) (b - 1 - (a + 1)) 0 0 (Nat.zero_le _)
    rw [Nat.zero_add] at hp
    obtain ⟨d, r, e1, e2, e3, e4⟩ := pfS_find _ (Nat.lt_of_lt_of_le h hp)
    obtain ⟨g0, g1, g2⟩ := tm_dm e4
    have x := ih a (a + 1 + d) (Nat.le_refl _) (by omega) (by omega) (by omega) (Nat.lt_of_le_of_lt (Nat.zero_le _) g1)
    have y := ih (a + 1 + d + 1) b (by omega) (by omega) (Nat.le_refl _) (by omega) g0
    exact bal_app (by omega) (by omega) x (bal_cons (by omega) (nu_of (by omega)) y)
  · have q := w.2.2.2.1 e
    subst e
    rw [wi_7 hab, if_pos q] at h
    exact bal_cons (by omega) (nu_of (by omega)) (ih (a + 1) b (by omega) (by omega) (Nat.le_refl _) (by omega) h)
  · have q := w.2.2.2.2.1 e
    subst e
    rw [wi_8 hab, if_pos q] at h
    exact (bal_br (by omega) (Or.inl q.1) (Or.inl q.2.1) (ih (a + 1) (b - 1) (by omega) (by omega) (by omega) (by omega) h)).1
  · have q := w.2.2.2.2.2 e
    have u9 := (wi_un (by omega) hk h)
    rw [e] at u9
    exact bal_cons (by omega) (nu_of (by omega)) (bal_cons (by omega) (nu_of (by omega)) (ih (a + 2) b (by omega) (by omega) (Nat.le_refl _) (by omega) (Nat.lt_of_le_of_lt (Nat.zero_le _) u9.2.1)))
theorem kS_pos {K : Nat → Bool} {w : Nat → Nat} : ∀ c, 0 < kS K w c → ∃ k, k < c ∧ K k = true ∧ 0 < w k
  | 0, h => absurd h (Nat.lt_irrefl _)
  | c + 1, h => by
    have h' : 0 < kS K w c + (if K c = true then w c else 0) := h
    by_cases q : 0 < kS K w c
    · obtain ⟨k, h1, h2⟩ := kS_pos c q
      exact ⟨k, by omega, h2⟩
    · split at h'
      · rename_i e
        exact ⟨c, by omega, e, by omega⟩
      · omega
theorem kS_ge {K : Nat → Bool} {w : Nat → Nat} {k : Nat} (hK : K k = true) : ∀ c, k < c → w k ≤ kS K w c
  | 0, h => absurd h (Nat.not_lt_zero _)
  | c + 1, h => by
    show _ ≤ kS K w c + (if K c = true then w c else 0)
    by_cases e : k = c
    · subst e
      rw [if_pos hK]
      omega
    · exact Nat.le_trans (kS_ge hK c (by omega)) (Nat.le_add_right _ _)
theorem L_bal {E : Nat → Nat} {G : Nat → Int32} {lt : Nat → Nat → Bool} {L : Nat → Nat → Nat} {h : Nat} (hL : ∀ i j, i < j → j ≤ h → L i j = tS E G lt L i j) : ∀ (d i j : Nat), i < j → j ≤ h → j - i ≤ d → 0 < L i j → bal E i j
  | 0, i, j, h1, _, h3, _ => absurd h1 (by omega)
  | d + 1, i, j, h1, h2, h3, h4 => by
    have ih : ∀ c e, i ≤ c → c < e → e ≤ j → e - c < j - i → 0 < L c e → bal E c e := fun c e q1 q2 q3 q4 q5 => L_bal hL d c e q2 (by omega) (by omega) q5
    rw [hL i j h1 h2] at h4
    unfold tS at h4
    by_cases q : 0 < bS E G L (fun k => lt k 0) i j
    · obtain ⟨k, k1, k2, k3⟩ := kS_pos 10 q
      exact wi_bal k1 ih k3
    · split at h4
      · rename_i br
        obtain ⟨k, k1, k2, k3⟩ := kS_pos 10 (show 0 < kS (fun k => lt k 1) (fun k => wi E G L k (i + 1) (j - 1)) 10 by unfold bS at h4 q; omega)
        have hab := (wi_pos k3).1
        exact (bal_br (by omega) (Or.inr br.1) (Or.inr br.2) (wi_bal k1 (fun c e q1 q2 q3 q4 q5 => ih c e (by omega) q2 (by omega) (by omega) q5) k3)).1
      · omega
/-! a NODE said, each of its NODES KEPT or not -/
/-- how many NODES could be KEPT -/
def kbW (A : Nat → Nat → Int32) : Nat → Int32 → Nat
  | 0, _ => 0
  | z + 1, x => if x < 0 then 0 else (if mayN (A 0 x.toNatClampNeg).toNatClampNeg = true then 1 else 0) + kbW A z (A 2 x.toNatClampNeg) + kbW A z (A 3 x.toNatClampNeg)
def SB (A : Nat → Nat → Int32) (E : Nat → Nat) (R : Int32 → Nat → Nat → Nat → Prop) (kb : Int32 → Nat) (k n i a c : Nat) : Prop :=
  (k = 0 ∧ c = a + 1 ∧ A 1 n = nI (E a) ∧ E a < 10) ∨ (k = 1 ∧ a < c ∧ isNumB E a c = true) ∨ (k = 7 ∧ E a = 25 ∧ R (A 2 n) (i + 1) (a + 1) c) ∨ (k = 8 ∧ E a = 26 ∧ E (c - 1) = 27 ∧ R (A 2 n) i (a + 1) (c - 1)) ∨ (k = 9 ∧ A 1 n = nI (E a) ∧ E a < 10 ∧ E (a + 1) = 28 ∧ R (A 2 n) (i + 1) (a + 2) c) ∨
  (2 ≤ k ∧ k ≤ 6 ∧ ∃ m, E m = 18 + k ∧ R (A 2 n) (i + 1) a m ∧ R (A 3 n) (i + 1 + kb (A 2 n)) (m + 1) c)
/-- the words p .. q say it, the bits from i on tell what is KEPT -/
def SD (A : Nat → Nat → Int32) (E : Nat → Nat) (b : Nat → Bool) : Nat → Int32 → Nat → Nat → Nat → Prop
  | 0, _, _, _, _ => False
  | z + 1, x, i, p, q => ∃ n k, x = nI n ∧ n < 450 ∧ k < 10 ∧ A 0 n = nI k ∧ ((¬ (mayN k = true ∧ b i = true) ∧ SB A E (SD A E b z) (kbW A z) k n i p q) ∨ (mayN k = true ∧ b i = true ∧ E p = 29 ∧ E (q - 1) = 30 ∧ SB A E (SD A E b z) (kbW A z) k n i (p + 1) (q - 1)))
theorem SB_lt {A : Nat → Nat → Int32} {E : Nat → Nat} {R : Int32 → Nat → Nat → Nat → Prop} {kb : Int32 → Nat} {k n i a c : Nat} (hR : ∀ x i p q, R x i p q → p < q) (h : SB A E R kb k n i a c) : a < c := by
  rcases h with ⟨_, e, _⟩ | ⟨_, e, _⟩ | ⟨_, _, r⟩ | ⟨_, _, _, r⟩ | ⟨_, _, _, _, r⟩ | ⟨_, _, m, _, r, s⟩
  · omega
  · exact e
  · have := hR _ _ _ _ r; omega
  · have := hR _ _ _ _ r; omega
  · have := hR _ _ _ _ r; omega
  · have := hR _ _ _ _ r; have := hR _ _ _ _ s; omega
theorem SD_lt {A : Nat → Nat → Int32} {E : Nat → Nat} {b : Nat → Bool} : ∀ (z : Nat) (x : Int32) (i p q : Nat), SD A E b z x i p q → p < q
  | 0, _, _, _, _, h => h.elim
  | z + 1, x, i, p, q, ⟨n, k, _, _, _, _, h⟩ => by
    rcases h with ⟨_, h⟩ | ⟨_, _, _, _, h⟩
    · exact SB_lt (SD_lt z) h
    · have := SB_lt (SD_lt z) h
      omega
theorem SB_bal {A : Nat → Nat → Int32} {E : Nat → Nat} {R : Int32 → Nat → Nat → Nat → Prop} {kb : Int32 → Nat} {k n i a c : Nat} (hl : ∀ x i p q, R x i p q → p < q) (hR : ∀ x i p q, R x i p q → bal E p q) (h : SB A E R kb k n i a c) : bal E a c := by
  rcases h with ⟨_, e, _, e9⟩ | ⟨_, e, hn⟩ | ⟨_, e, r⟩ | ⟨_, e, e2, r⟩ | ⟨_, _, e9, e, r⟩ | ⟨k2, k6, m, e, r, s⟩
  · rw [e]
    exact bal_1 (nu_of (by omega))
  · have hn := (isNumB_at hn).2.2
    have := bal_nu (E := E) (c - a) a (fun x h1 h2 => nu_of (by have := hn x h1 (by omega); omega))
    rwa [show a + (c - a) = c by omega] at this
  · have := hl _ _ _ _ r
    exact bal_cons (by omega) (nu_of (by omega)) (hR _ _ _ _ r)
  · have := hl _ _ _ _ r
    exact (bal_br (by omega) (Or.inl e) (Or.inl e2) (hR _ _ _ _ r)).1
  · have := hl _ _ _ _ r
    exact bal_cons (by omega) (nu_of (by omega)) (bal_cons (by omega) (nu_of (by omega)) (hR _ _ _ _ r))
  · have := hl _ _ _ _ r
    have := hl _ _ _ _ s
    exact bal_app (by omega) (by omega) (hR _ _ _ _ r) (bal_cons (by omega) (nu_of (by omega)) (hR _ _ _ _ s))
theorem SD_bal {A : Nat → Nat → Int32} {E : Nat → Nat} {b : Nat → Bool} : ∀ (z : Nat) (x : Int32) (i p q : Nat), SD A E b z x i p q → bal E p q
  | 0, _, _, _, _, h => h.elim
  | z + 1, x, i, p, q, ⟨n, k, _, _, _, _, h⟩ => by
    rcases h with ⟨_, h⟩ | ⟨_, _, e1, e2, h⟩
    · exact SB_bal (SD_lt z) (SD_bal z) h
    · have := SB_lt (SD_lt z) h
      exact (bal_br (by omega) (Or.inr e1) (Or.inr e2) (SB_bal (SD_lt z) (SD_bal z) h)).1
/-- the KIND of a PART (10: none) -/
def kdN (A : Nat → Nat → Int32) (x : Int32) : Nat := if x < 0 then 10 else (A 0 x.toNatClampNeg).toNatClampNeg
def prN (k : Nat) : Prop := 2 ≤ k ∧ k ≤ 6
def pxN (k : Nat) : Prop := k = 7 ∨ k = 9
def dbN (k p : Nat) (first : Prop) : Prop := (prN p ∧ (prN k ∨ pxN k)) ∨ (first ∧ pxN p ∧ prN k)
/-- all PARTS that would leave a doubt are KEPT -/
def DD (A : Nat → Nat → Int32) (b : Nat → Bool) : Nat → Int32 → Nat → Prop
  | 0, _, _ => True
  | z + 1, x, i => ∀ n k, x = nI n → n < 450 → k < 10 → A 0 n = nI k → (dbN k (kdN A (A 2 n)) True → b (i + if mayN k = true then 1 else 0) = true) ∧ (dbN k (kdN A (A 3 n)) False → b ((i + if mayN k = true then 1 else 0) + kbW A z (A 2 n)) = true) ∧ DD A b z (A 2 n) (i + if mayN k = true then 1 else 0) ∧ DD A b z (A 3 n) ((i + if mayN k = true then 1 else 0) + kbW A z (A 2 n))
def rtO (A : Nat → Nat → Int32) (n : Nat) : Prop := (A 0 n = nI 0 → A 6 (A 1 n).toNatClampNeg = 0) ∧ (A 0 n = nI 9 → ¬ A 6 (A 1 n).toNatClampNeg = 0)
def rtW (A : Nat → Nat → Int32) : Nat → Int32 → Prop
  | 0, _ => True
  | z + 1, x => ¬ x < 0 → rtO A x.toNatClampNeg ∧ rtW A z (A 2 x.toNatClampNeg) ∧ rtW A z (A 3 x.toNatClampNeg)
theorem rtW_n {A : Nat → Nat → Int32} {z n : Nat} (hn : n < 450) (h : rtW A (z + 1) (nI n)) : rtO A n ∧ rtW A z (A 2 n) ∧ rtW A z (A 3 n) := by
  have := h (nI_pos (by omega))
  rwa [nI_clamp (by omega)] at this
/-- no pair's word stands outside of all begins and opens -/
def NOp (E : Nat → Nat) (p q : Nat) : Prop := ∀ m, p ≤ m → m < q → 20 ≤ E m → E m ≤ 24 → spn (gQ E) p m < spn (gP E) p m
theorem NOp_cons {E : Nat → Nat} {a q : Nat} (hn : nu E a) (ho : ¬ (20 ≤ E a ∧ E a ≤ 24)) (h : NOp E (a + 1) q) : NOp E a q := fun m h1 h2 h3 h4 => by
  by_cases e : m = a
  · subst e
    exact absurd ⟨h3, h4⟩ ho
  · rw [spn_cons _ (by omega), spn_cons (gP E) (by omega), hn.1, hn.2]
    have := h m (by omega) h2 h3 h4
    omega
theorem NOp_br {E : Nat → Nat} {a b : Nat} (hab : a + 1 ≤ b - 1) (ho : E a = 26 ∨ E a = 29) (hc : E (b - 1) = 27 ∨ E (b - 1) = 30) (y : bal E (a + 1) (b - 1)) : NOp E a b := fun m h1 h2 h3 h4 => by
  by_cases e : m = a
  · subst e
    omega
  · exact (bal_br hab ho hc y).2 m (by omega) h2
theorem may_i {k : Nat} (h : prN k ∨ pxN k) : mayN k = true := by
  unfold prN pxN at h
  have : k = 2 ∨ k = 3 ∨ k = 4 ∨ k = 5 ∨ k = 6 ∨ k = 7 ∨ k = 9 := by omega
  rcases this with rfl | rfl | rfl | rfl | rfl | rfl | rfl <;> rfl
theorem may_8 : ¬ mayN 8 = true := by decide
theorem kdN_n {A : Nat → Nat → Int32} {n k : Nat} (hn : n < 450) (hk : k < 10) (h : A 0 n = nI k) : kdN A (nI n) = k := by
  unfold kdN
  rw [if_neg (nI_pos (by omega)), nI_clamp (by omega), h, nI_clamp (by omega)]
/-- where nothing leaves a doubt, only a pair that isn't KEPT shows its word -/
theorem SD_NOp {A : Nat → Nat → Int32} {E : Nat → Nat} {b : Nat → Bool} : ∀ (z : Nat) (x : Int32) (i p q : Nat), SD A E b z x i p q → DD A b z x i → (prN (kdN A x) → b i = true) → NOp E p q
  | 0, _, _, _, _, h, _, _ => h.elim
  | z + 1, x, i, p, q, ⟨n, k, ex, hn, hk, h0, h⟩, hD, hb => by
    subst ex
    obtain ⟨d1, d2, d3, d4⟩ := hD n k rfl hn hk h0
    rw [kdN_n hn hk h0] at hb
    rcases h with ⟨hnk, h⟩ | ⟨_, _, e1, e2, h⟩
    · rcases h with ⟨_, e, _, e9⟩ | ⟨_, e, hm⟩ | ⟨e7, e, r⟩ | ⟨_, e, e2, r⟩ | ⟨e9k, _, e9, e, r⟩ | ⟨k2, k6, m, e, r, s⟩
      · intro m h1 h2 h3 h4
        rw [show m = p by omega] at h3
        omega
      · intro m h1 h2 h3 h4
        have := (isNumB_at hm).2.2 m h1 h2
        omega
      · subst e7
        have hi : (i + if mayN 7 = true then 1 else 0) = i + 1 := rfl
        rw [hi] at d1 d3
        exact NOp_cons (nu_of (by omega)) (by omega) (SD_NOp z _ _ _ _ r d3 (fun q => d1 (Or.inl ⟨q, Or.inr (Or.inl rfl)⟩)))
      · have := SD_lt z _ _ _ _ r
        exact NOp_br (by omega) (Or.inl e) (Or.inl e2) (SD_bal z _ _ _ _ r)
      · subst e9k
        have hi : (i + if mayN 9 = true then 1 else 0) = i + 1 := rfl
        rw [hi] at d1 d3
        exact NOp_cons (nu_of (by omega)) (by omega) (NOp_cons (nu_of (by omega)) (by omega) (SD_NOp z _ _ _ _ r d3 (fun q => d1 (Or.inl ⟨q, Or.inr (Or.inr rfl)⟩))))
      · exact absurd ⟨may_i (Or.inl ⟨k2, k6⟩), hb ⟨k2, k6⟩⟩ hnk
    · have := SB_lt (SD_lt z) h
      exact NOp_br (by omega) (Or.inr e1) (Or.inr e2) (SB_bal (SD_lt z) (SD_bal z) h)
