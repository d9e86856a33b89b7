section
/-! begin and end, open and close -/
def gP (E : Nat → Nat) (x : Nat) : Nat := if E x = 26 ∨ E x = 29 then 1 else 0
def gQ (E : Nat → Nat) (x : Nat) : Nat := if E x = 27 ∨ E x = 30 then 1 else 0
def nu (E : Nat → Nat) (x : Nat) : Prop := gP E x = 0 ∧ gQ E x = 0
theorem nu_of {E : Nat → Nat} {x : Nat} (h : E x ≤ 25 ∨ E x = 28) : nu E x := ⟨if_neg (by omega), if_neg (by omega)⟩
theorem op_of {E : Nat → Nat} {x : Nat} (h : E x = 26 ∨ E x = 29) : gP E x = 1 ∧ gQ E x = 0 := ⟨if_pos h, if_neg (by omega)⟩
theorem cl_of {E : Nat → Nat} {x : Nat} (h : E x = 27 ∨ E x = 30) : gP E x = 0 ∧ gQ E x = 1 := ⟨if_neg (by omega), if_pos h⟩
def bal (E : Nat → Nat) (i j : Nat) : Prop := spn (gP E) i j = spn (gQ E) i j ∧ ∀ m, i ≤ m → m ≤ j → spn (gQ E) i m ≤ spn (gP E) i m
theorem spn_0 (g : Nat → Nat) (i : Nat) : spn g i i = 0 := by
  unfold spn
  rw [Nat.sub_self]
  rfl
theorem bal_1 {E : Nat → Nat} {a : Nat} (h : nu E a) : bal E a (a + 1) := by
  refine ⟨by rw [spn_one, spn_one, h.1, h.2], fun m h1 h2 => ?_⟩
  rcases (show m = a ∨ m = a + 1 by omega) with rfl | rfl
  · rw [spn_0, spn_0]
    exact Nat.le_refl _
  · rw [spn_one, spn_one, h.1, h.2]
    exact Nat.le_refl _
theorem bal_app {E : Nat → Nat} {a m b : Nat} (h1 : a ≤ m) (h2 : m ≤ b) (x : bal E a m) (y : bal E m b) : bal E a b := by
  refine ⟨by rw [spn_split _ h1 h2, spn_split (gQ E) h1 h2, x.1, y.1], fun t t1 t2 => ?_⟩
  rcases Nat.lt_or_ge t m with e | e
  · exact x.2 t t1 (by omega)
  · rw [spn_split _ h1 e, spn_split (gP E) h1 e, x.1]
    have := y.2 t e t2
    omega
theorem bal_0 (E : Nat → Nat) (a : Nat) : bal E a a := ⟨by rw [spn_0, spn_0], fun m h1 h2 => by rw [show m = a by omega, spn_0, spn_0]; exact Nat.le_refl _⟩
theorem bal_nu {E : Nat → Nat} : ∀ (c a : Nat), (∀ x, a ≤ x → x < a + c → nu E x) → bal E a (a + c)
  | 0, a, _ => bal_0 E a
  | c + 1, a, h => by
    have := bal_app (by omega) (by omega) (bal_1 (h a (Nat.le_refl _) (by omega))) (bal_nu c (a + 1) (fun x h1 h2 => h x (by omega) (by omega)))
    rwa [show a + 1 + c = a + (c + 1) by omega] at this
theorem bal_cons {E : Nat → Nat} {a b : Nat} (hab : a + 1 ≤ b) (h : nu E a) (y : bal E (a + 1) b) : bal E a b := bal_app (by omega) hab (bal_1 h) y
theorem bal_br {E : Nat → Nat} {a b : Nat} (hab : a + 1 ≤ b - 1) (ho : E a = 26 ∨ E a = 29) (hc : E (b - 1) = 27 ∨ E (b - 1) = 30) (y : bal E (a + 1) (b - 1)) : bal E a b ∧ ∀ m, a < m → m < b → spn (gQ E) a m < spn (gP E) a m := by
  have o := op_of ho
  have c := cl_of hc
  have st : ∀ m, a < m → m < b → spn (gQ E) a m < spn (gP E) a m := fun m h1 h2 => by
    rw [spn_cons _ h1, spn_cons (gP E) h1, o.1, o.2]
    have := y.2 m (by omega) (by omega)
    omega
  refine ⟨⟨?_, fun m h1 h2 => ?_⟩, st⟩
  · rw [spn_cons _ (show a < b by omega), spn_cons (gQ E) (show a < b by omega), spn_snoc _ (show a + 1 < b by omega), spn_snoc (gQ E) (show a + 1 < b by omega), o.1, o.2, c.1, c.2, y.1]
    omega
  · rcases (show m = a ∨ (a < m ∧ m < b) ∨ m = b by omega) with rfl | ⟨q1, q2⟩ | rfl
    · rw [spn_0, spn_0]
      exact Nat.le_refl _
    · exact Nat.le_of_lt (st m q1 q2)
    · rw [spn_cons _ (show a < m by omega), spn_cons (gP E) (show a < m by omega), spn_snoc _ (show a + 1 < m by omega), spn_snoc (gP E) (show a + 1 < m by omega), o.1, o.2, c.1, c.2, y.1]
      omega
/-- what is heard is balanced -/
theorem wi_bal {E : Nat → Nat} {G : Nat → Int32} {L : Nat → Nat → Nat} {k a b : Nat} (hk : k < 10) (ih : ∀ c d, a ≤ c → c < d → d ≤ b → d - c < b - a → 0 < L c d → bal E c d) (h : 0 < wi E G L k a b) : bal E a b := by
  have w := wi_pos h
  have hab := w.1
  rcases (show k = 0 ∨ k = 1 ∨ (2 ≤ k ∧ k ≤ 6) ∨ k = 7 ∨ k = 8 ∨ k = 9 by omega) with e | e | ⟨k2, k6⟩ | e | e | e
  · have := w.2.1 e
    rw [show b = a + 1 by omega]
    exact bal_1 (nu_of (by omega))
  · have hn := (isNumB_at (w.2.2.1 e).1).2.2
    have := bal_nu (E := E) (b - a) a (fun x h1 h2 => nu_of (by have := hn x h1 (by omega); omega))
    rwa [show a + (b - a) = b by omega] at this
  · rw [wi_2 hab k2 k6] at h
    have hp := wiP_pf (E := E) (L := L) (k := k) (a := a) (b := b) (b - 1 - (a + 1)) 0 0 (Nat.zero_le _)
    rw [Nat.zero_add] at hp
    obtain ⟨d, r, e1, e2, e3, e4⟩ := pfS_find _ (Nat.lt_of_lt_of_le h hp)
    obtain ⟨g0, g1, g2⟩ := tm_dm e4
    have x := ih a (a + 1 + d) (Nat.le_refl _) (by omega) (by omega) (by omega) (Nat.lt_of_le_of_lt (Nat.zero_le _) g1)
    have y := ih (a + 1 + d + 1) b (by omega) (by omega) (Nat.le_refl _) (by omega) g0
    exact bal_app (by omega) (by omega) x (bal_cons (by omega) (nu_of (by omega)) y)
  · have q := w.2.2.2.1 e
    subst e
    rw [wi_7 hab, if_pos q] at h
    exact bal_cons (by omega) (nu_of (by omega)) (ih (a + 1) b (by omega) (by omega) (Nat.le_refl _) (by omega) h)
  · have q := w.2.2.2.2.1 e
    subst e
    rw [wi_8 hab, if_pos q] at h
    exact (bal_br (by omega) (Or.inl q.1) (Or.inl q.2.1) (ih (a + 1) (b - 1) (by omega) (by omega) (by omega) (by omega) h)).1
  · have q := w.2.2.2.2.2 e
    have u9 := (wi_un (by omega) hk h)
    rw [e] at u9
    exact bal_cons (by omega) (nu_of (by omega)) (bal_cons (by omega) (nu_of (by omega)) (ih (a + 2) b (by omega) (by omega) (Nat.le_refl _) (by omega) (Nat.lt_of_le_of_lt (Nat.zero_le _) u9.2.1)))
theorem kS_pos {K : Nat → Bool} {w : Nat → Nat} : ∀ c, 0 < kS K w c → ∃ k, k < c ∧ K k = true ∧ 0 < w k
  | 0, h => absurd h (Nat.lt_irrefl _)
  | c + 1, h => by
    have h' : 0 < kS K w c + (if K c = true then w c else 0) := h
    by_cases q : 0 < kS K w c
    · obtain ⟨k, h1, h2⟩ := kS_pos c q
      exact ⟨k, by omega, h2⟩
    · split at h'
      · rename_i e
        exact ⟨c, by omega, e, by omega⟩
      · omega
theorem kS_ge {K : Nat → Bool} {w : Nat → Nat} {k : Nat} (hK : K k = true) : ∀ c, k < c → w k ≤ kS K w c
  | 0, h => absurd h (Nat.not_lt_zero _)
  | c + 1, h => by
    show _ ≤ kS K w c + (if K c = true then w c else 0)
    by_cases e : k = c
    · subst e
      rw [if_pos hK]
      omega
    · exact Nat.le_trans (kS_ge hK c (by omega)) (Nat.le_add_right _ _)
theorem L_bal {E : Nat → Nat} {G : Nat → Int32} {lt : Nat → Nat → Bool} {L : Nat → Nat → Nat} {h : Nat} (hL : ∀ i j, i < j → j ≤ h → L i j = tS E G lt L i j) : ∀ (d i j : Nat), i < j → j ≤ h → j - i ≤ d → 0 < L i j → bal E i j
  | 0, i, j, h1, _, h3, _ => absurd h1 (by omega)
  | d + 1, i, j, h1, h2, h3, h4 => by
    have ih : ∀ c e, i ≤ c → c < e → e ≤ j → e - c < j - i → 0 < L c e → bal E c e := fun c e q1 q2 q3 q4 q5 => L_bal hL d c e q2 (by omega) (by omega) q5
    rw [hL i j h1 h2] at h4
    unfold tS at h4
    by_cases q : 0 < bS E G L (fun k => lt k 0) i j
    · obtain ⟨k, k1, k2, k3⟩ := kS_pos 10 q
      exact wi_bal k1 ih k3
    · split at h4
      · rename_i br
        obtain ⟨k, k1, k2, k3⟩ := kS_pos 10 (show 0 < kS (fun k => lt k 1) (fun k => wi E G L k (i + 1) (j - 1)) 10 by unfold bS at h4 q; omega)
        have hab := (wi_pos k3).1
        exact (bal_br (by omega) (Or.inr br.1) (Or.inr br.2) (wi_bal k1 (fun c e q1 q2 q3 q4 q5 => ih c e (by omega) q2 (by omega) (by omega) q5) k3)).1
      · omega
/-! a NODE said, each of its NODES KEPT or not -/
/-- how many NODES could be KEPT -/
def kbW (A : Nat → Nat → Int32) : Nat → Int32 → Nat
  | 0, _ => 0
  | z + 1, x => if x < 0 then 0 else (if mayN (A 0 x.toNatClampNeg).toNatClampNeg = true then 1 else 0) + kbW A z (A 2 x.toNatClampNeg) + kbW A z (A 3 x.toNatClampNeg)
def SB (A : Nat → Nat → Int32) (E : Nat → Nat) (R : Int32 → Nat → Nat → Nat → Prop) (kb : Int32 → Nat) (k n i a c : Nat) : Prop :=
  (k = 0 ∧ c = a + 1 ∧ A 1 n = nI (E a) ∧ E a < 10) ∨ (k = 1 ∧ a < c ∧ isNumB E a c = true) ∨ (k = 7 ∧ E a = 25 ∧ R (A 2 n) (i + 1) (a + 1) c) ∨ (k = 8 ∧ E a = 26 ∧ E (c - 1) = 27 ∧ R (A 2 n) i (a + 1) (c - 1)) ∨ (k = 9 ∧ A 1 n = nI (E a) ∧ E a < 10 ∧ E (a + 1) = 28 ∧ R (A 2 n) (i + 1) (a + 2) c) ∨
  (2 ≤ k ∧ k ≤ 6 ∧ ∃ m, E m = 18 + k ∧ R (A 2 n) (i + 1) a m ∧ R (A 3 n) (i + 1 + kb (A 2 n)) (m + 1) c)
/-- the words p .. q say it, the bits from i on tell what is KEPT -/
def SD (A : Nat → Nat → Int32) (E : Nat → Nat) (b : Nat → Bool) : Nat → Int32 → Nat → Nat → Nat → Prop
  | 0, _, _, _, _ => False
  | z + 1, x, i, p, q => ∃ n k, x = nI n ∧ n < 450 ∧ k < 10 ∧ A 0 n = nI k ∧ ((¬ (mayN k = true ∧ b i = true) ∧ SB A E (SD A E b z) (kbW A z) k n i p q) ∨ (mayN k = true ∧ b i = true ∧ E p = 29 ∧ E (q - 1) = 30 ∧ SB A E (SD A E b z) (kbW A z) k n i (p + 1) (q - 1)))
theorem SB_lt {A : Nat → Nat → Int32} {E : Nat → Nat} {R : Int32 → Nat → Nat → Nat → Prop} {kb : Int32 → Nat} {k n i a c : Nat} (hR : ∀ x i p q, R x i p q → p < q) (h : SB A E R kb k n i a c) : a < c := by
  rcases h with ⟨_, e, _⟩ | ⟨_, e, _⟩ | ⟨_, _, r⟩ | ⟨_, _, _, r⟩ | ⟨_, _, _, _, r⟩ | ⟨_, _, m, _, r, s⟩
  · omega
  · exact e
  · have := hR _ _ _ _ r; omega
  · have := hR _ _ _ _ r; omega
  · have := hR _ _ _ _ r; omega
  · have := hR _ _ _ _ r; have := hR _ _ _ _ s; omega
theorem SD_lt {A : Nat → Nat → Int32} {E : Nat → Nat} {b : Nat → Bool} : ∀ (z : Nat) (x : Int32) (i p q : Nat), SD A E b z x i p q → p < q
  | 0, _, _, _, _, h => h.elim
  | z + 1, x, i, p, q, ⟨n, k, _, _, _, _, h⟩ => by
    rcases h with ⟨_, h⟩ | ⟨_, _, _, _, h⟩
    · exact SB_lt (SD_lt z) h
    · have := SB_lt (SD_lt z) h
      omega
theorem SB_bal {A : Nat → Nat → Int32} {E : Nat → Nat} {R : Int32 → Nat → Nat → Nat → Prop} {kb : Int32 → Nat} {k n i a c : Nat} (hl : ∀ x i p q, R x i p q → p < q) (hR : ∀ x i p q, R x i p q → bal E p q) (h : SB A E R kb k n i a c) : bal E a c := by
  rcases h with ⟨_, e, _, e9⟩ | ⟨_, e, hn⟩ | ⟨_, e, r⟩ | ⟨_, e, e2, r⟩ | ⟨_, _, e9, e, r⟩ | ⟨k2, k6, m, e, r, s⟩
  · rw [e]
    exact bal_1 (nu_of (by omega))
  · have hn := (isNumB_at hn).2.2
    have := bal_nu (E := E) (c - a) a (fun x h1 h2 => nu_of (by have := hn x h1 (by omega); omega))
    rwa [show a + (c - a) = c by omega] at this
  · have := hl _ _ _ _ r
    exact bal_cons (by omega) (nu_of (by omega)) (hR _ _ _ _ r)
  · have := hl _ _ _ _ r
    exact (bal_br (by omega) (Or.inl e) (Or.inl e2) (hR _ _ _ _ r)).1
  · have := hl _ _ _ _ r
    exact bal_cons (by omega) (nu_of (by omega)) (bal_cons (by omega) (nu_of (by omega)) (hR _ _ _ _ r))
  · have := hl _ _ _ _ r
    have := hl _ _ _ _ s
    exact bal_app (by omega) (by omega) (hR _ _ _ _ r) (bal_cons (by omega) (nu_of (by omega)) (hR _ _ _ _ s))
theorem SD_bal {A : Nat → Nat → Int32} {E : Nat → Nat} {b : Nat → Bool} : ∀ (z : Nat) (x : Int32) (i p q : Nat), SD A E b z x i p q → bal E p q
  | 0, _, _, _, _, h => h.elim
  | z + 1, x, i, p, q, ⟨n, k, _, _, _, _, h⟩ => by
    rcases h with ⟨_, h⟩ | ⟨_, _, e1, e2, h⟩
    · exact SB_bal (SD_lt z) (SD_bal z) h
    · have := SB_lt (SD_lt z) h
      exact (bal_br (by omega) (Or.inr e1) (Or.inr e2) (SB_bal (SD_lt z) (SD_bal z) h)).1
/-- the KIND of a PART (10: none) -/
def kdN (A : Nat → Nat → Int32) (x : Int32) : Nat := if x < 0 then 10 else (A 0 x.toNatClampNeg).toNatClampNeg
def prN (k : Nat) : Prop := 2 ≤ k ∧ k ≤ 6
def pxN (k : Nat) : Prop := k = 7 ∨ k = 9
def dbN (k p : Nat) (first : Prop) : Prop := (prN p ∧ (prN k ∨ pxN k)) ∨ (first ∧ pxN p ∧ prN k)
/-- all PARTS that would leave a doubt are KEPT -/
def DD (A : Nat → Nat → Int32) (b : Nat → Bool) : Nat → Int32 → Nat → Prop
  | 0, _, _ => True
  | z + 1, x, i => ∀ n k, x = nI n → n < 450 → k < 10 → A 0 n = nI k → (dbN k (kdN A (A 2 n)) True → b (i + if mayN k = true then 1 else 0) = true) ∧ (dbN k (kdN A (A 3 n)) False → b ((i + if mayN k = true then 1 else 0) + kbW A z (A 2 n)) = true) ∧ DD A b z (A 2 n) (i + if mayN k = true then 1 else 0) ∧ DD A b z (A 3 n) ((i + if mayN k = true then 1 else 0) + kbW A z (A 2 n))
def rtO (A : Nat → Nat → Int32) (n : Nat) : Prop := (A 0 n = nI 0 → A 6 (A 1 n).toNatClampNeg = 0) ∧ (A 0 n = nI 9 → ¬ A 6 (A 1 n).toNatClampNeg = 0)
def rtW (A : Nat → Nat → Int32) : Nat → Int32 → Prop
  | 0, _ => True
  | z + 1, x => ¬ x < 0 → rtO A x.toNatClampNeg ∧ rtW A z (A 2 x.toNatClampNeg) ∧ rtW A z (A 3 x.toNatClampNeg)
theorem rtW_n {A : Nat → Nat → Int32} {z n : Nat} (hn : n < 450) (h : rtW A (z + 1) (nI n)) : rtO A n ∧ rtW A z (A 2 n) ∧ rtW A z (A 3 n) := by
  have := h (nI_pos (by omega))
  rwa [nI_clamp (by omega)] at this
/-- no pair's word stands outside of all begins and opens -/
def NOp (E : Nat → Nat) (p q : Nat) : Prop := ∀ m, p ≤ m → m < q → 20 ≤ E m → E m ≤ 24 → spn (gQ E) p m < spn (gP E) p m
theorem NOp_cons {E : Nat → Nat} {a q : Nat} (hn : nu E a) (ho : ¬ (20 ≤ E a ∧ E a ≤ 24)) (h : NOp E (a + 1) q) : NOp E a q := fun m h1 h2 h3 h4 => by
  by_cases e : m = a
  · subst e
    exact absurd ⟨h3, h4⟩ ho
  · rw [spn_cons _ (by omega), spn_cons (gP E) (by omega), hn.1, hn.2]
    have := h m (by omega) h2 h3 h4
    omega
theorem NOp_br {E : Nat → Nat} {a b : Nat} (hab : a + 1 ≤ b - 1) (ho : E a = 26 ∨ E a = 29) (hc : E (b - 1) = 27 ∨ E (b - 1) = 30) (y : bal E (a + 1) (b - 1)) : NOp E a b := fun m h1 h2 h3 h4 => by
  by_cases e : m = a
  · subst e
    omega
  · exact (bal_br hab ho hc y).2 m (by omega) h2
theorem may_i {k : Nat} (h : prN k ∨ pxN k) : mayN k = true := by
  unfold prN pxN at h
  have : k = 2 ∨ k = 3 ∨ k = 4 ∨ k = 5 ∨ k = 6 ∨ k = 7 ∨ k = 9 := by omega
  rcases this with rfl | rfl | rfl | rfl | rfl | rfl | rfl <;> rfl
theorem kdN_n {A : Nat → Nat → Int32} {n k : Nat} (hn : n < 450) (hk : k < 10) (h : A 0 n = nI k) : kdN A (nI n) = k := by
  unfold kdN
  rw [if_neg (nI_pos (by omega)), nI_clamp (by omega), h, nI_clamp (by omega)]
/-- where nothing leaves a doubt, only a pair that isn't KEPT shows its word -/
theorem SD_NOp {A : Nat → Nat → Int32} {E : Nat → Nat} {b : Nat → Bool} : ∀ (z : Nat) (x : Int32) (i p q : Nat), SD A E b z x i p q → DD A b z x i → (prN (kdN A x) → b i = true) → NOp E p q
  | 0, _, _, _, _, h, _, _ => h.elim
  | z + 1, x, i, p, q, ⟨n, k, ex, hn, hk, h0, h⟩, hD, hb => by
    subst ex
    obtain ⟨d1, d2, d3, d4⟩ := hD n k rfl hn hk h0
    rw [kdN_n hn hk h0] at hb
    rcases h with ⟨hnk, h⟩ | ⟨_, _, e1, e2, h⟩
    · rcases h with ⟨_, e, _, e9⟩ | ⟨_, e, hm⟩ | ⟨e7, e, r⟩ | ⟨_, e, e2, r⟩ | ⟨e9k, _, e9, e, r⟩ | ⟨k2, k6, m, e, r, s⟩
      · intro m h1 h2 h3 h4
        rw [show m = p by omega] at h3
        omega
      · intro m h1 h2 h3 h4
        have := (isNumB_at hm).2.2 m h1 h2
        omega
      · subst e7
        have hi : (i + if mayN 7 = true then 1 else 0) = i + 1 := rfl
        rw [hi] at d1 d3
        exact NOp_cons (nu_of (by omega)) (by omega) (SD_NOp z _ _ _ _ r d3 (fun q => d1 (Or.inl ⟨q, Or.inr (Or.inl rfl)⟩)))
      · have := SD_lt z _ _ _ _ r
        exact NOp_br (by omega) (Or.inl e) (Or.inl e2) (SD_bal z _ _ _ _ r)
      · subst e9k
        have hi : (i + if mayN 9 = true then 1 else 0) = i + 1 := rfl
        rw [hi] at d1 d3
        exact NOp_cons (nu_of (by omega)) (by omega) (NOp_cons (nu_of (by omega)) (by omega) (SD_NOp z _ _ _ _ r d3 (fun q => d1 (Or.inl ⟨q, Or.inr (Or.inr rfl)⟩))))
      · exact absurd ⟨may_i (Or.inl ⟨k2, k6⟩), hb ⟨k2, k6⟩⟩ hnk
    · have := SB_lt (SD_lt z) h
      exact NOp_br (by omega) (Or.inr e1) (Or.inr e2) (SB_bal (SD_lt z) (SD_bal z) h)
end
section
theorem tm_1' {x y : Nat} (hx : 1 ≤ x) (hy : 1 ≤ y) : 1 ≤ tmW x y := by
  have : 1 ≤ x * y := Nat.mul_le_mul hx hy
  unfold tmW
  split
  · exact this
  · decide
theorem tm_2' {x y : Nat} (h : 2 ≤ x * y) : 2 ≤ tmW x y := by
  unfold tmW
  split
  · exact h
  · decide
theorem tm_z {x y : Nat} (h : x = 0) : tmW x y = 0 := by
  unfold tmW
  rw [h, Nat.zero_mul, if_pos (Nat.zero_le _)]
theorem pK_zero {E : Nat → Nat} {L : Nat → Nat → Nat} {K : Nat → Bool} {a b : Nat} : ∀ c, (∀ d, d < c → 20 ≤ E (a + 1 + d) → E (a + 1 + d) ≤ 24 → L a (a + 1 + d) = 0) → pK E L K a b c = 0
  | 0, _ => rfl
  | c + 1, h => by
    show pK E L K a b c + _ = 0
    rw [pK_zero c (fun d hd => h d (by omega))]
    split
    · rename_i q
      rw [tm_z (h c (by omega) q.1 q.2.1)]
    · rfl
theorem pK_one {E : Nat → Nat} {L : Nat → Nat → Nat} {K : Nat → Bool} {a b d0 : Nat} : ∀ c, (∀ d, d < c → d ≠ d0 → 20 ≤ E (a + 1 + d) → E (a + 1 + d) ≤ 24 → L a (a + 1 + d) = 0) → d0 < c → pK E L K a b c = if 20 ≤ E (a + 1 + d0) ∧ E (a + 1 + d0) ≤ 24 ∧ K (E (a + 1 + d0) - 18) = true then tmW (L a (a + 1 + d0)) (L (a + 1 + d0 + 1) b) else 0
  | 0, _, h => absurd h (Nat.not_lt_zero _)
  | c + 1, h, hd => by
    show pK E L K a b c + _ = _
    by_cases e : c = d0
    · subst e
      rw [pK_zero c (fun d hd => h d (by omega) (by omega)), Nat.zero_add]
    · rw [pK_one c (fun d hd => h d (by omega)) (by omega)]
      have : (if 20 ≤ E (a + 1 + c) ∧ E (a + 1 + c) ≤ 24 ∧ K (E (a + 1 + c) - 18) = true then tmW (L a (a + 1 + c)) (L (a + 1 + c + 1) b) else 0) = 0 := by
        split
        · rename_i q
          exact tm_z (h c (by omega) e q.1 q.2.1)
        · rfl
      rw [this, Nat.add_zero]
theorem pK_ge {E : Nat → Nat} {L : Nat → Nat → Nat} {K : Nat → Bool} {a b d : Nat} (h1 : 20 ≤ E (a + 1 + d)) (h2 : E (a + 1 + d) ≤ 24) (h3 : K (E (a + 1 + d) - 18) = true) : ∀ c, d < c → tmW (L a (a + 1 + d)) (L (a + 1 + d + 1) b) ≤ pK E L K a b c
  | 0, h => absurd h (Nat.not_lt_zero _)
  | c + 1, h => by
    show _ ≤ pK E L K a b c + _
    by_cases e : d = c
    · subst e
      rw [if_pos ⟨h1, h2, h3⟩]
      exact Nat.le_add_left _ _
    · exact Nat.le_trans (pK_ge h1 h2 h3 c (by omega)) (Nat.le_add_right _ _)
theorem pK_ge2 {E : Nat → Nat} {L : Nat → Nat → Nat} {K : Nat → Bool} {a b d e : Nat} (hde : d < e) (h1 : 20 ≤ E (a + 1 + d)) (h2 : E (a + 1 + d) ≤ 24) (h3 : K (E (a + 1 + d) - 18) = true) (g1 : 20 ≤ E (a + 1 + e)) (g2 : E (a + 1 + e) ≤ 24) (g3 : K (E (a + 1 + e) - 18) = true) : ∀ c, e < c → tmW (L a (a + 1 + d)) (L (a + 1 + d + 1) b) + tmW (L a (a + 1 + e)) (L (a + 1 + e + 1) b) ≤ pK E L K a b c
  | 0, h => absurd h (Nat.not_lt_zero _)
  | c + 1, h => by
    show _ ≤ pK E L K a b c + _
    by_cases q : e = c
    · subst q
      rw [if_pos ⟨g1, g2, g3⟩]
      exact Nat.add_le_add_right (pK_ge h1 h2 h3 e hde) _
    · exact Nat.le_trans (pK_ge2 hde h1 h2 h3 g1 g2 g3 c (by omega)) (Nat.le_add_right _ _)
theorem neV_k {E : Nat → Nat} {G : Nat → Int32} {L : Nat → Nat → Nat} {K : Nat → Bool} {i j k : Nat} (h : keV E G i j = k) (hk : k < 10) : neV E G L K i j = if K k = true then (if k ≤ 1 then 1 else L (pfN k i) (ptN k j)) else 0 := by
  unfold neV
  rw [h]
  by_cases q : K k = true
  · rw [if_neg (fun w => w.elim (by omega) (fun w => w q)), if_pos q]
  · rw [if_pos (Or.inr q), if_neg q]
theorem neV_10 {E : Nat → Nat} {G : Nat → Int32} {L : Nat → Nat → Nat} {K : Nat → Bool} {i j : Nat} (h : keV E G i j = 10) : neV E G L K i j = 0 := by
  unfold neV
  rw [if_pos (Or.inl h)]
theorem keV_0 {E : Nat → Nat} {G : Nat → Int32} {i j : Nat} (h : E i < 10) (g : G (E i) = 0) : keV E G i j = if j - i = 1 then 0 else 10 := by
  unfold keV
  rw [if_pos h, if_pos g]
theorem keV_9 {E : Nat → Nat} {G : Nat → Int32} {i j : Nat} (h : E i < 10) (g : ¬ G (E i) = 0) (h2 : 2 < j - i) (h3 : E (i + 1) = 28) : keV E G i j = 9 := by
  unfold keV
  rw [if_pos h, if_neg g, if_pos ⟨h2, h3⟩]
theorem keV_7 {E : Nat → Nat} {G : Nat → Int32} {i j : Nat} (h : E i = 25) (h2 : 1 < j - i) : keV E G i j = 7 := by
  unfold keV
  rw [if_neg (show ¬ E i < 10 by omega), if_pos h, if_pos h2]
theorem keV_8 {E : Nat → Nat} {G : Nat → Int32} {i j : Nat} (h : E i = 26) : keV E G i j = if 2 < j - i ∧ E (j - 1) = 27 then 8 else 10 := by
  unfold keV
  rw [if_neg (show ¬ E i < 10 by omega), if_neg (show ¬ E i = 25 by omega), if_pos h]
theorem keV_1 {E : Nat → Nat} {G : Nat → Int32} {i j : Nat} (h1 : 10 ≤ E i) (h2 : ¬ E i = 25) (h3 : ¬ E i = 26) : keV E G i j = if isNumB E i j = true then 1 else 10 := by
  unfold keV
  rw [if_neg (show ¬ E i < 10 by omega), if_neg h2, if_neg h3]
/-- a READING of more than it should be is none -/
theorem nb_pre {E : Nat → Nat} {a b m : Nat} (h1 : a ≤ m) (h2 : m ≤ b) (h : spn (gP E) a m < spn (gQ E) a m) : ¬ bal E a b := fun q => by
  have := q.2 m h1 h2
  omega
theorem nb_tot {E : Nat → Nat} {a b : Nat} (h : spn (gQ E) a b < spn (gP E) a b) : ¬ bal E a b := fun q => by
  have := q.1
  omega
section FEW
variable {A : Nat → Nat → Int32} {E : Nat → Nat} {b : Nat → Bool} {lt : Nat → Nat → Bool} {L : Nat → Nat → Nat} {h : Nat}
theorem L_0 (hL : ∀ i j, i < j → j ≤ h → L i j = tS E (A 6) lt L i j) {i j : Nat} (hij : i < j) (hj : j ≤ h) (hb : ¬ bal E i j) : L i j = 0 := by
  rcases Nat.eq_zero_or_pos (L i j) with e | e
  · exact e
  · exact absurd (L_bal hL (j - i) i j hij hj (Nat.le_refl _) e) hb
theorem bS_0 (hL : ∀ i j, i < j → j ≤ h → L i j = tS E (A 6) lt L i j) {i j : Nat} (hj : j ≤ h) (hb : ¬ bal E i j) (K : Nat → Bool) : bS E (A 6) L K i j = 0 := by
  rcases Nat.eq_zero_or_pos (bS E (A 6) L K i j) with e | e
  · exact e
  · obtain ⟨k, k1, k2, k3⟩ := kS_pos 10 e
    exact absurd (wi_bal k1 (fun c d q1 q2 q3 q4 q5 => L_bal hL (d - c) c d q2 (by omega) (Nat.le_refl _) q5) k3) hb
/-- where nothing leaves a doubt there is one READING -/
theorem SD_A (hh : h ≤ 20) (hL : ∀ i j, i < j → j ≤ h → L i j = tS E (A 6) lt L i j) (hB : ∀ i j, i < j → j ≤ h → L i j ≤ 5 ^ (j - i - 1)) (l0 : ∀ k, lt k 0 = true) (l1 : ∀ k, lt k 1 = mayN k) : ∀ (z : Nat) (x : Int32) (i p q : Nat), SD A E b z x i p q → DD A b z x i → rtW A z x → q ≤ h → L p q = 1
  | 0, _, _, _, _, hs, _, _, _ => hs.elim
  | z + 1, x, i, p, q, ⟨n, k, ex, hn, hk, h0, hs⟩, hD, hr, hq => by
    subst ex
    obtain ⟨d1, d2, d3, d4⟩ := hD n k rfl hn hk h0
    obtain ⟨r1, r2, r3⟩ := rtW_n hn hr
    have lz := fun (x : Int32) (i p q : Nat) (hs : SD A E b z x i p q) => SD_lt z x i p q hs
    have bz := fun (x : Int32) (i p q : Nat) (hs : SD A E b z x i p q) => SD_bal z x i p q hs
    have core : ∀ a c, SB A E (SD A E b z) (kbW A z) k n i a c → c ≤ h → (∀ K, bS E (A 6) L K a c = if K k = true then 1 else 0) ∧ (brE E a c → bS E (A 6) L mayN (a + 1) (c - 1) = 0) := by
      intro a c hSB hc
      have hac := SB_lt (SD_lt z) hSB
      have hBD : BD L a c := fun i' j' _ q2 q3 _ => hB i' j' q2 (by omega)
      have eq := fun K => bS_eq (E := E) (G := A 6) hBD hac (by omega) K
      rcases hSB with ⟨e0, e, e1, e9⟩ | ⟨e0, _, hm⟩ | ⟨e7, e, r⟩ | ⟨e8, e, e2, r⟩ | ⟨e9k, e1, e9, e, r⟩ | ⟨k2, k6, m, e, r, s⟩
      · subst e0
        have hG : A 6 (E a) = 0 := by
          have := r1.1 h0
          rwa [e1, nI_clamp (by omega)] at this
        refine ⟨fun K => ?_, fun w => absurd w.1 (by omega)⟩
        rw [eq K, show c - 1 - (a + 1) = 0 by omega, neV_k (k := 0) (by rw [keV_0 e9 hG, if_pos (by omega)]) (by decide)]
        show 0 + _ = _
        rw [Nat.zero_add]
        rfl
      · subst e0
        have hn := (isNumB_at hm).2.2
        have ha := hn a (Nat.le_refl _) hac
        refine ⟨fun K => ?_, fun w => absurd w.1 (by omega)⟩
        rw [eq K, pK_zero _ (fun d hd h1 h2 => by have := hn (a + 1 + d) (by omega) (by omega); omega), neV_k (k := 1) (by rw [keV_1 (by omega) (by omega) (by omega), if_pos hm]) (by decide), Nat.zero_add]
        rfl
      · subst e7
        rw [show (i + if mayN 7 = true then 1 else 0) = i + 1 from rfl] at d1 d3
        have hlt := lz _ _ _ _ r
        have no := SD_NOp z _ _ _ _ r d3 (fun w => d1 (Or.inl ⟨w, Or.inr (Or.inl rfl)⟩))
        have nu0 := nu_of (E := E) (x := a) (by omega)
        refine ⟨fun K => ?_, fun w => absurd w.1 (by omega)⟩
        rw [eq K, pK_zero _ (fun d hd h1 h2 => L_0 hL (by omega) (by omega) (nb_tot (NOp_cons nu0 (by omega) no (a + 1 + d) (by omega) (by omega) h1 h2))), neV_k (k := 7) (keV_7 e (by omega)) (by decide), Nat.zero_add]
        show (if K 7 = true then L (a + 1) c else 0) = _
        rw [SD_A hh hL hB l0 l1 z _ _ _ _ r d3 r2 hc]
      · subst e8
        rw [show (i + if mayN 8 = true then 1 else 0) = i from rfl] at d3
        have hlt := lz _ _ _ _ r
        have br := bal_br (by omega) (Or.inl e) (Or.inl e2) (bz _ _ _ _ r)
        refine ⟨fun K => ?_, fun w => absurd w.1 (by omega)⟩
        rw [eq K, pK_zero _ (fun d hd h1 h2 => L_0 hL (by omega) (by omega) (nb_tot (br.2 (a + 1 + d) (by omega) (by omega)))), neV_k (k := 8) (by rw [keV_8 e, if_pos ⟨by omega, e2⟩]) (by decide), Nat.zero_add]
        show (if K 8 = true then L (a + 1) (c - 1) else 0) = _
        rw [SD_A hh hL hB l0 l1 z _ _ _ _ r d3 r2 (by omega)]
      · subst e9k
        rw [show (i + if mayN 9 = true then 1 else 0) = i + 1 from rfl] at d1 d3
        have hlt := lz _ _ _ _ r
        have no := SD_NOp z _ _ _ _ r d3 (fun w => d1 (Or.inl ⟨w, Or.inr (Or.inr rfl)⟩))
        have no2 := NOp_cons (nu_of (E := E) (x := a) (by omega)) (by omega) (NOp_cons (nu_of (E := E) (x := a + 1) (by omega)) (by omega) no)
        have hG : ¬ A 6 (E a) = 0 := by
          have := r1.2 h0
          rwa [e1, nI_clamp (by omega)] at this
        refine ⟨fun K => ?_, fun w => absurd w.1 (by omega)⟩
        rw [eq K, pK_zero _ (fun d hd h1 h2 => L_0 hL (by omega) (by omega) (nb_tot (no2 (a + 1 + d) (by omega) (by omega) h1 h2))), neV_k (k := 9) (keV_9 e9 hG (by omega) e) (by decide), Nat.zero_add]
        show (if K 9 = true then L (a + 2) c else 0) = _
        rw [SD_A hh hL hB l0 l1 z _ _ _ _ r d3 r2 hc]
      · have mk : mayN k = true := may_i (Or.inl ⟨k2, k6⟩)
        rw [if_pos mk] at d1 d2 d3 d4
        have hl1 := lz _ _ _ _ r
        have hl2 := lz _ _ _ _ s
        have noX := SD_NOp z _ _ _ _ r d3 (fun w => d1 (Or.inl ⟨w, Or.inl ⟨k2, k6⟩⟩))
        have noY := SD_NOp z _ _ _ _ s d4 (fun w => d2 (Or.inl ⟨w, Or.inl ⟨k2, k6⟩⟩))
        have bX := bz _ _ _ _ r
        have numm := nu_of (E := E) (x := m) (by omega)
        have oth : ∀ d, d < c - 1 - (a + 1) → d ≠ m - (a + 1) → 20 ≤ E (a + 1 + d) → E (a + 1 + d) ≤ 24 → L a (a + 1 + d) = 0 := fun d hd hne h1 h2 => by
          refine L_0 hL (by omega) (by omega) (nb_tot ?_)
          rcases Nat.lt_or_ge (a + 1 + d) m with w | w
          · exact noX (a + 1 + d) (by omega) w h1 h2
          · rw [spn_split _ (show a ≤ m by omega) (show m ≤ a + 1 + d by omega), spn_split (gP E) (show a ≤ m by omega) (show m ≤ a + 1 + d by omega), spn_cons _ (show m < a + 1 + d by omega), spn_cons (gP E) (show m < a + 1 + d by omega), numm.1, numm.2, bX.1]
            have := noY (a + 1 + d) (by omega) (by omega) h1 h2
            omega
        have epK : ∀ K, pK E L K a c (c - 1 - (a + 1)) = if K k = true then 1 else 0 := fun K => by
          rw [pK_one (d0 := m - (a + 1)) _ oth (by omega), show a + 1 + (m - (a + 1)) = m by omega, e, show 18 + k - 18 = k by omega, SD_A hh hL hB l0 l1 z _ _ _ _ r d3 r2 (by omega), SD_A hh hL hB l0 l1 z _ _ _ _ s d4 r3 hc]
          by_cases w : K k = true
          · rw [if_pos ⟨by omega, by omega, w⟩, if_pos w]
            rfl
          · rw [if_neg (fun v => w v.2.2), if_neg w]
        -- how x begins
        have first : neV E (A 6) L (fun _ => true) a c = 0 ∧ (brE E a c → bS E (A 6) L mayN (a + 1) (c - 1) = 0) := by
          obtain ⟨z', hz'⟩ : ∃ z', z = z' + 1 := by
            cases z with
            | zero => exact r.elim
            | succ z' => exact ⟨z', rfl⟩
          subst hz'
          obtain ⟨nx, kx, ex, hnx, hkx, h0x, hx⟩ := r
          have rx := r2
          rw [ex] at rx
          obtain ⟨rx1, _, _⟩ := rtW_n hnx rx
          have ekx : kdN A (A 2 n) = kx := by rw [ex]; exact kdN_n hnx hkx h0x
          rw [ekx] at d1
          rcases hx with ⟨hnk, hx⟩ | ⟨_, _, x1, x2, hx⟩
          · rcases hx with ⟨q0, q1, q2, q3⟩ | ⟨q0, q1, q2⟩ | ⟨q0, _⟩ | ⟨q0, q1, q2, q3⟩ | ⟨q0, _⟩ | ⟨q1, q2, _⟩
            · subst q0
              have hG : A 6 (E a) = 0 := by
                have := rx1.1 h0x
                rwa [q2, nI_clamp (by omega)] at this
              exact ⟨neV_10 (by rw [keV_0 q3 hG, if_neg (by omega)]), fun w => absurd w.1 (by omega)⟩
            · have hnn := (isNumB_at q2).2.2 a (Nat.le_refl _) q1
              exact ⟨neV_10 (by rw [keV_1 (by omega) (by omega) (by omega), if_neg (fun w => by have := (isNumB_at w).2.2 m (by omega) (by omega); omega)]), fun w => absurd w.1 (by omega)⟩
            · exact absurd ⟨may_i (Or.inr (Or.inl q0)), d1 (Or.inr ⟨trivial, Or.inl q0, k2, k6⟩)⟩ hnk
            · have q4 := SD_lt z' _ _ _ _ q3
              refine ⟨?_, fun w => absurd w.1 (by omega)⟩
              by_cases w : 2 < c - a ∧ E (c - 1) = 27
              · rw [neV_k (k := 8) (by rw [keV_8 q1, if_pos w]) (by decide), if_pos rfl]
                show L (a + 1) (c - 1) = 0
                refine L_0 hL (by omega) (by omega) (nb_pre (m := m) (by omega) (by omega) ?_)
                have bb := SD_bal z' _ _ _ _ q3
                have cc := cl_of (E := E) (x := m - 1) (Or.inl q2)
                rw [spn_snoc _ (show a + 1 < m by omega), spn_snoc (gQ E) (show a + 1 < m by omega), cc.1, cc.2, bb.1]
                omega
              · exact neV_10 (by rw [keV_8 q1, if_neg w])
            · exact absurd ⟨may_i (Or.inr (Or.inr q0)), d1 (Or.inr ⟨trivial, Or.inr q0, k2, k6⟩)⟩ hnk
            · exact absurd ⟨may_i (Or.inl ⟨q1, q2⟩), d1 (Or.inl ⟨⟨q1, q2⟩, Or.inl ⟨k2, k6⟩⟩)⟩ hnk
          · refine ⟨neV_10 (by rw [keV_1 (by omega) (by omega) (by omega), if_neg (fun w => by have := (isNumB_at w).2.2 a (Nat.le_refl _) (by omega); omega)]), fun w => ?_⟩
            · have hl := SB_lt (SD_lt z') hx
              refine bS_0 hL (by omega) (nb_pre (m := m) (by omega) (by omega) ?_) _
              have bb := SB_bal (SD_lt z') (SD_bal z') hx
              have cc := cl_of (E := E) (x := m - 1) (Or.inr x2)
              rw [spn_snoc _ (show a + 1 < m by omega), spn_snoc (gQ E) (show a + 1 < m by omega), cc.1, cc.2, bb.1]
              omega
        refine ⟨fun K => ?_, first.2⟩
        have ne0 : neV E (A 6) L K a c = 0 := by
          have f1 := first.1
          unfold neV at f1 ⊢
          split
          · rfl
          · rename_i w
            rw [if_neg (fun v => w (v.imp id (fun v => absurd rfl v)))] at f1
            exact f1
        rw [eq K, epK K, ne0, Nat.add_zero]
    have kl : (fun k => lt k 1) = mayN := funext l1
    have kl0 : (fun k => lt k 0) = (fun _ => true) := funext l0
    have hpq := SD_lt (z + 1) (nI n) i p q ⟨n, k, rfl, hn, hk, h0, hs⟩
    rw [hL p q hpq hq]
    unfold tS
    rw [kl, kl0]
    rcases hs with ⟨_, hs⟩ | ⟨mk, _, e1, e2, hs⟩
    · obtain ⟨c1, c2⟩ := core p q hs hq
      rw [c1, if_pos rfl]
      by_cases w : brE E p q
      · rw [if_pos w, c2 w]
      · rw [if_neg w]
    · have hl := SB_lt (SD_lt z) hs
      obtain ⟨c1, c2⟩ := core (p + 1) (q - 1) hs (by omega)
      rw [if_pos ⟨e1, e2⟩, c1, if_pos mk]
      have hBD : BD L p q := fun i' j' _ q2 q3 _ => hB i' j' q2 (by omega)
      have br := bal_br (by omega) (Or.inr e1) (Or.inr e2) (SB_bal (SD_lt z) (SD_bal z) hs)
      rw [bS_eq (E := E) (G := A 6) hBD (by omega) (by omega), pK_zero _ (fun d hd h1 h2 => L_0 hL (by omega) (by omega) (nb_tot (br.2 (p + 1 + d) (by omega) (by omega)))), neV_10 (by rw [keV_1 (by omega) (by omega) (by omega), if_neg (fun w => by have := (isNumB_at w).2.2 p (Nat.le_refl _) (by omega); omega)])]
/-- joining spans that are heard -/
theorem J_two (hL : ∀ i j, i < j → j ≤ h → L i j = tS E (A 6) lt L i j) (hB : ∀ i j, i < j → j ≤ h → L i j ≤ 5 ^ (j - i - 1)) (hh : h ≤ 20) (l0 : ∀ k, lt k 0 = true) {a m c : Nat} (h1 : a < m) (h2 : m + 1 < c) (hc : c ≤ h) (e1 : 20 ≤ E m) (e2 : E m ≤ 24) (x : 1 ≤ L a m) (y : 1 ≤ L (m + 1) c) : 1 ≤ L a c := by
  have hBD : BD L a c := fun i' j' _ q2 q3 _ => hB i' j' q2 (by omega)
  have kl0 : (fun k => lt k 0) = (fun _ => true) := funext l0
  rw [hL a c (by omega) hc]
  unfold tS
  rw [kl0, bS_eq (E := E) (G := A 6) hBD (by omega) (by omega)]
  have := pK_ge (E := E) (L := L) (K := fun _ => true) (a := a) (b := c) (d := m - (a + 1)) (by rw [show a + 1 + (m - (a + 1)) = m by omega]; exact e1) (by rw [show a + 1 + (m - (a + 1)) = m by omega]; exact e2) rfl (c - 1 - (a + 1)) (by omega)
  rw [show a + 1 + (m - (a + 1)) = m by omega] at this
  have t1 := tm_1' x y
  omega
theorem J_un (hL : ∀ i j, i < j → j ≤ h → L i j = tS E (A 6) lt L i j) (l0 : ∀ k, lt k 0 = true) {a c k : Nat} (k7 : 7 ≤ k) (k9 : k < 10) (hac : a < c) (hc : c ≤ h) (ke : keV E (A 6) a c = k) (x : 1 ≤ L (pfN k a) (ptN k c)) : 1 ≤ L a c := by
  rw [hL a c hac hc]
  unfold tS
  have kl0 : (fun k => lt k 0) = (fun _ => true) := funext l0
  have w := keV_c (E := E) (G := A 6) hac L k (by omega)
  rw [if_pos ke, if_neg (by omega)] at w
  have := kS_ge (K := fun _ => true) (w := fun k => wi E (A 6) L k a c) (k := k) rfl 10 k9
  rw [kl0]
  show 1 ≤ bS E (A 6) L (fun _ => true) a c + _
  unfold bS
  have : 1 ≤ kS (fun _ => true) (fun k => wi E (A 6) L k a c) 10 := by
    have h5 : wi E (A 6) L k a c ≤ kS (fun _ => true) (fun k => wi E (A 6) L k a c) 10 := this
    omega
  omega
/-- what is said is heard; and where a PART that would leave a doubt isn't KEPT, in two ways -/
theorem SD_B {u : Nat} (hu : u ≤ 120) (hT : tbI 0 u A) (hh : h ≤ 20) (hL : ∀ i j, i < j → j ≤ h → L i j = tS E (A 6) lt L i j) (hB : ∀ i j, i < j → j ≤ h → L i j ≤ 5 ^ (j - i - 1)) (l0 : ∀ k, lt k 0 = true) (l1 : ∀ k, lt k 1 = mayN k) : ∀ (z : Nat) (x : Int32) (i p q : Nat), SD A E b z x i p q → pt 0 u A z x → rtW A z x → q ≤ h → 1 ≤ L p q ∧ (¬ DD A b z x i → 2 ≤ L p q) ∧ (prN (kdN A x) → ¬ b i = true → ∃ m, p < m ∧ m + 1 < q ∧ 20 ≤ E m ∧ E m ≤ 24 ∧ 1 ≤ L p m ∧ 1 ≤ L (m + 1) q) ∧ (pxN (kdN A x) → ¬ b i = true → ∃ kx, pxN kx ∧ pfN kx p < q ∧ 1 ≤ L (pfN kx p) q ∧ ∀ c, q < c → c ≤ h → keV E (A 6) p c = kx)
  | 0, _, _, _, _, hs, _, _, _ => hs.elim
  | z + 1, x, i, p, q, ⟨n, k, ex, hn, hk, h0, hs⟩, hx, hr, hq => by
    subst ex
    obtain ⟨r1, r2, r3⟩ := rtW_n hn hr
    have hsu : n < u ∧ szN A n ≤ z + 1 := by
      rcases hx with e | ⟨n', e, _, hn', hz⟩
      · exact absurd e.symm (m2_nI hn)
      · have : n = n' := (nI_eq (by omega) (by omega)).mp e
        subst this
        exact ⟨hn', hz⟩
    obtain ⟨p2, p3⟩ := rN_parts hT (Nat.zero_le _) hsu.1 hsu.2
    have hval : (k < 2 → A 2 n = m2 ∧ A 3 n = m2) ∧ (7 ≤ k → A 3 n = m2) := by
      obtain ⟨k', h0', _, hs', _⟩ := rN_val (hT n (Nat.zero_le _) hsu.1)
      have e2 : k = k' := (nI_eq (by omega) (by omega)).mp (h0.symm.trans h0')
      subst e2
      rcases hs' with ⟨_, a2, a3, _⟩ | ⟨a1, a2, _⟩ | ⟨a1, _, _, _, _, a3, _⟩
      · exact ⟨fun _ => ⟨a2, a3⟩, fun _ => a3⟩
      · exact ⟨fun _ => by omega, fun _ => by omega⟩
      · exact ⟨fun _ => by omega, fun _ => a3⟩
    have ddm : ∀ z' j, DD A b z' m2 j := fun z' j => by
      cases z' with
      | zero => trivial
      | succ z' => exact fun n'' k'' en'' hn'' => absurd en'' (m2_nI hn'')
    have kdm : kdN A m2 = 10 := if_pos (by decide)
    have lz := fun (x : Int32) (i p q : Nat) (hs : SD A E b z x i p q) => SD_lt z x i p q hs
    have ihB := fun (x : Int32) (i p q : Nat) (hs : SD A E b z x i p q) (hx : pt 0 u A z x) (hr : rtW A z x) (hq : q ≤ h) => SD_B hu hT hh hL hB l0 l1 z x i p q hs hx hr hq
    have ndd : ¬ DD A b (z + 1) (nI n) i → ¬ ((dbN k (kdN A (A 2 n)) True → b (i + if mayN k = true then 1 else 0) = true) ∧ (dbN k (kdN A (A 3 n)) False → b ((i + if mayN k = true then 1 else 0) + kbW A z (A 2 n)) = true) ∧ DD A b z (A 2 n) (i + if mayN k = true then 1 else 0) ∧ DD A b z (A 3 n) ((i + if mayN k = true then 1 else 0) + kbW A z (A 2 n))) := fun w v => w (fun n' k' en hn' hk' h0' => by
      have e1 : n = n' := (nI_eq (by omega) (by omega)).mp en
      subst e1
      have e2 : k = k' := (nI_eq (by omega) (by omega)).mp (h0.symm.trans h0')
      subst e2
      exact v)
    have core : ∀ a c, SB A E (SD A E b z) (kbW A z) k n i a c → c ≤ h → ∀ K : Nat → Bool, K k = true → (∀ j, mayN j = true → K j = true) → 1 ≤ bS E (A 6) L K a c ∧ (¬ DD A b (z + 1) (nI n) i → 2 ≤ bS E (A 6) L K a c) := by
      intro a c hSB hc K hKk hKm
      have hac := SB_lt (SD_lt z) hSB
      have hBD : BD L a c := fun i' j' _ q2 q3 _ => hB i' j' q2 (by omega)
      rw [bS_eq (E := E) (G := A 6) hBD hac (by omega) K]
      have lf : A 2 n = m2 → A 3 n = m2 → DD A b (z + 1) (nI n) i := fun e2 e3 n' k' en hn' hk' h0' => by
        have e1 : n = n' := (nI_eq (by omega) (by omega)).mp en
        subst e1
        have d0 : kdN A m2 = 10 := if_pos (by decide)
        rw [e2, e3, d0]
        exact ⟨fun w => by unfold dbN prN pxN at w; omega, fun w => by unfold dbN prN pxN at w; omega, ddm _ _, ddm _ _⟩
      rcases hSB with ⟨e0, e, e1, e9⟩ | ⟨e0, _, hm⟩ | ⟨e7, e, r⟩ | ⟨e8, e, e2, r⟩ | ⟨e9k, e1, e9, e, r⟩ | ⟨k2, k6, m, e, r, s⟩
      · subst e0
        have hG : A 6 (E a) = 0 := by
          have := r1.1 h0
          rwa [e1, nI_clamp (by omega)] at this
        rw [neV_k (k := 0) (by rw [keV_0 e9 hG, if_pos (by omega)]) (by decide), if_pos hKk, if_pos (by decide)]
        refine ⟨by omega, fun w => absurd (lf (hval.1 (by decide)).1 (hval.1 (by decide)).2) w⟩
      · subst e0
        have hn := (isNumB_at hm).2.2
        have ha := hn a (Nat.le_refl _) hac
        rw [neV_k (k := 1) (by rw [keV_1 (by omega) (by omega) (by omega), if_pos hm]) (by decide), if_pos hKk, if_pos (by decide)]
        refine ⟨by omega, fun w => absurd (lf (hval.1 (by decide)).1 (hval.1 (by decide)).2) w⟩
      · subst e7
        have hlt := lz _ _ _ _ r
        obtain ⟨i1, i2, i3, i4⟩ := ihB _ _ _ _ r p2 r2 hc
        have nv : neV E (A 6) L K a c = L (a + 1) c := by
          rw [neV_k (k := 7) (keV_7 e (by omega)) (by decide), if_pos hKk]
          rfl
        rw [nv]
        refine ⟨by omega, fun w => ?_⟩
        have w := ndd w
        rw [show (i + if mayN 7 = true then 1 else 0) = i + 1 from rfl, hval.2 (by decide)] at w
        by_cases g : DD A b z (A 2 n) (i + 1)
        · have dr : prN (kdN A (A 2 n)) ∧ ¬ b (i + 1) = true := by
            rcases Classical.em (prN (kdN A (A 2 n)) ∧ ¬ b (i + 1) = true) with v | v
            · exact v
            · exact absurd ⟨fun d => by
                rcases d with d | d
                · rcases Classical.em (b (i + 1) = true) with u | u
                  · exact u
                  · exact absurd ⟨d.1, u⟩ v
                · exact absurd d.2.2 (by unfold prN; omega), fun d => by rw [kdm] at d; unfold dbN prN pxN at d; omega, g, ddm _ _⟩ w
          obtain ⟨m, w1, w2, w3, w4, w5, w6⟩ := i3 dr.1 dr.2
          have := pK_ge (E := E) (L := L) (K := K) (a := a) (b := c) (d := m - (a + 1)) (by rw [show a + 1 + (m - (a + 1)) = m by omega]; exact w3) (by rw [show a + 1 + (m - (a + 1)) = m by omega]; exact w4) (by rw [show a + 1 + (m - (a + 1)) = m by omega]; exact hKm _ (may_i (Or.inl ⟨by omega, by omega⟩))) (c - 1 - (a + 1)) (by omega)
          rw [show a + 1 + (m - (a + 1)) = m by omega] at this
          have t1 := tm_1' (J_un hL l0 (k := 7) (by decide) (by decide) (by omega) (by omega) (keV_7 e (by omega)) w5) w6
          omega
        · have := i2 g
          omega
      · subst e8
        have hlt := lz _ _ _ _ r
        obtain ⟨i1, i2, i3, i4⟩ := ihB _ _ _ _ r p2 r2 (by omega)
        have nv : neV E (A 6) L K a c = L (a + 1) (c - 1) := by
          rw [neV_k (k := 8) (by rw [keV_8 e, if_pos ⟨by omega, e2⟩]) (by decide), if_pos hKk]
          rfl
        rw [nv]
        refine ⟨by omega, fun w => ?_⟩
        have w := ndd w
        rw [show (i + if mayN 8 = true then 1 else 0) = i from rfl, hval.2 (by decide)] at w
        by_cases g : DD A b z (A 2 n) i
        · exact absurd ⟨fun d => by unfold dbN prN pxN at d; omega, fun d => by rw [kdm] at d; unfold dbN prN pxN at d; omega, g, ddm _ _⟩ w
        · have := i2 g
          omega
      · subst e9k
        have hlt := lz _ _ _ _ r
        have hG : ¬ A 6 (E a) = 0 := by
          have := r1.2 h0
          rwa [e1, nI_clamp (by omega)] at this
        obtain ⟨i1, i2, i3, i4⟩ := ihB _ _ _ _ r p2 r2 hc
        have nv : neV E (A 6) L K a c = L (a + 2) c := by
          rw [neV_k (k := 9) (keV_9 e9 hG (by omega) e) (by decide), if_pos hKk]
          rfl
        rw [nv]
        refine ⟨by omega, fun w => ?_⟩
        have w := ndd w
        rw [show (i + if mayN 9 = true then 1 else 0) = i + 1 from rfl, hval.2 (by decide)] at w
        by_cases g : DD A b z (A 2 n) (i + 1)
        · have dr : prN (kdN A (A 2 n)) ∧ ¬ b (i + 1) = true := by
            rcases Classical.em (prN (kdN A (A 2 n)) ∧ ¬ b (i + 1) = true) with v | v
            · exact v
            · exact absurd ⟨fun d => by
                rcases d with d | d
                · rcases Classical.em (b (i + 1) = true) with u | u
                  · exact u
                  · exact absurd ⟨d.1, u⟩ v
                · exact absurd d.2.2 (by unfold prN; omega), fun d => by rw [kdm] at d; unfold dbN prN pxN at d; omega, g, ddm _ _⟩ w
          obtain ⟨m, w1, w2, w3, w4, w5, w6⟩ := i3 dr.1 dr.2
          have := pK_ge (E := E) (L := L) (K := K) (a := a) (b := c) (d := m - (a + 1)) (by rw [show a + 1 + (m - (a + 1)) = m by omega]; exact w3) (by rw [show a + 1 + (m - (a + 1)) = m by omega]; exact w4) (by rw [show a + 1 + (m - (a + 1)) = m by omega]; exact hKm _ (may_i (Or.inl ⟨by omega, by omega⟩))) (c - 1 - (a + 1)) (by omega)
          rw [show a + 1 + (m - (a + 1)) = m by omega] at this
          have t1 := tm_1' (J_un hL l0 (k := 9) (by decide) (by decide) (by omega) (by omega) (keV_9 e9 hG (by omega) e) w5) w6
          omega
        · have := i2 g
          omega
      · have mk : mayN k = true := may_i (Or.inl ⟨k2, k6⟩)
        have hl1 := lz _ _ _ _ r
        have hl2 := lz _ _ _ _ s
        obtain ⟨i1, i2, i3, i4⟩ := ihB _ _ _ _ r p2 r2 (by omega)
        obtain ⟨j1, j2, j3, j4⟩ := ihB _ _ _ _ s p3 r3 hc
        have em : a + 1 + (m - (a + 1)) = m := by omega
        have K3 : ∀ t, 20 ≤ E t → E t ≤ 24 → K (E t - 18) = true := fun t t1 t2 => hKm _ (may_i (Or.inl ⟨by omega, by omega⟩))
        have ge := pK_ge (E := E) (L := L) (K := K) (a := a) (b := c) (d := m - (a + 1)) (by rw [em]; omega) (by rw [em]; omega) (by rw [em]; exact K3 m (by omega) (by omega)) (c - 1 - (a + 1)) (by omega)
        rw [em] at ge
        refine ⟨by have := tm_1' i1 j1; omega, fun w => ?_⟩
        have w := ndd w
        rw [if_pos mk] at w
        by_cases g : DD A b z (A 2 n) (i + 1)
        · by_cases g2 : DD A b z (A 3 n) (i + 1 + kbW A z (A 2 n))
          · rcases Classical.em (dbN k (kdN A (A 2 n)) True → b (i + 1) = true) with v | v
            · -- y is a pair that isn't KEPT
              have dr : prN (kdN A (A 3 n)) ∧ ¬ b (i + 1 + kbW A z (A 2 n)) = true := by
                rcases Classical.em (prN (kdN A (A 3 n)) ∧ ¬ b (i + 1 + kbW A z (A 2 n)) = true) with v2 | v2
                · exact v2
                · exact absurd ⟨v, fun d => by
                    rcases d with d | d
                    · rcases Classical.em (b (i + 1 + kbW A z (A 2 n)) = true) with u | u
                      · exact u
                      · exact absurd ⟨d.1, u⟩ v2
                    · exact d.1.elim, g, g2⟩ w
              obtain ⟨t, w1, w2, w3, w4, w5, w6⟩ := j3 dr.1 dr.2
              have et : a + 1 + (t - (a + 1)) = t := by omega
              have g2' := pK_ge2 (E := E) (L := L) (K := K) (a := a) (b := c) (d := m - (a + 1)) (e := t - (a + 1)) (by omega) (by rw [em]; omega) (by rw [em]; omega) (by rw [em]; exact K3 m (by omega) (by omega)) (by rw [et]; omega) (by rw [et]; omega) (by rw [et]; exact K3 t (by omega) (by omega)) (c - 1 - (a + 1)) (by omega)
              rw [em, et] at g2'
              have t1 := tm_1' i1 j1
              have t2 := tm_1' (J_two hL hB hh l0 hl1 (by omega) (by omega) (by omega) (by omega) i1 w5) w6
              omega
            · have v1 : dbN k (kdN A (A 2 n)) True ∧ ¬ b (i + 1) = true := by
                rcases Classical.em (dbN k (kdN A (A 2 n)) True) with u | u
                · exact ⟨u, fun e => v (fun _ => e)⟩
                · exact absurd (fun d => absurd d u) v
              rcases Classical.em (prN (kdN A (A 2 n))) with px | px
              · obtain ⟨t, w1, w2, w3, w4, w5, w6⟩ := i3 px v1.2
                have et : a + 1 + (t - (a + 1)) = t := by omega
                have g2' := pK_ge2 (E := E) (L := L) (K := K) (a := a) (b := c) (d := t - (a + 1)) (e := m - (a + 1)) (by omega) (by rw [et]; omega) (by rw [et]; omega) (by rw [et]; exact K3 t (by omega) (by omega)) (by rw [em]; omega) (by rw [em]; omega) (by rw [em]; exact K3 m (by omega) (by omega)) (c - 1 - (a + 1)) (by omega)
                rw [em, et] at g2'
                have t1 := tm_1' i1 j1
                have t2 := tm_1' w5 (J_two hL hB hh l0 (show t + 1 < m by omega) (by omega) hc (by omega) (by omega) w6 j1)
                omega
              · have pp : pxN (kdN A (A 2 n)) := by
                  rcases v1.1 with d | d
                  · exact absurd d.1 px
                  · exact d.2.1
                obtain ⟨kx, w1, w3, w4, w2⟩ := i4 pp v1.2
                have w2 := w2 c (by omega) hc
                have nv : neV E (A 6) L K a c = L (pfN kx a) c := by
                  rw [neV_k (k := kx) w2 (by unfold pxN at w1; omega), if_pos (hKm _ (may_i (Or.inr w1))), if_neg (by unfold pxN at w1; omega)]
                  unfold ptN
                  rw [if_neg (by unfold pxN at w1; omega)]
                rw [nv]
                have t1 := tm_1' i1 j1
                have t2 := J_two hL hB hh l0 w3 (by omega) hc (by omega) (by omega) w4 j1
                omega
          · have t2 := j2 g2
            have t3 : 2 ≤ tmW (L a m) (L (m + 1) c) := tm_2' (Nat.le_trans t2 (Nat.le_mul_of_pos_left _ (by omega)))
            omega
        · have t2 := i2 g
          have t3 : 2 ≤ tmW (L a m) (L (m + 1) c) := tm_2' (Nat.le_trans t2 (Nat.le_mul_of_pos_right _ (by omega)))
          omega
    have kl : (fun k => lt k 1) = mayN := funext l1
    have kl0 : (fun k => lt k 0) = (fun _ => true) := funext l0
    have hpq := SD_lt (z + 1) (nI n) i p q ⟨n, k, rfl, hn, hk, h0, hs⟩
    rw [hL p q hpq hq]
    unfold tS
    rw [kl, kl0]
    rw [kdN_n hn hk h0]
    rcases hs with ⟨_, hs⟩ | ⟨mk, bt9, e1, e2, hs⟩
    · obtain ⟨c1, c2⟩ := core p q hs hq (fun _ => true) rfl (fun _ _ => rfl)
      refine ⟨Nat.le_trans c1 (Nat.le_add_right _ _), fun w => Nat.le_trans (c2 w) (Nat.le_add_right _ _), fun w _ => ?_, fun w _ => ?_⟩
      · unfold prN at w
        rcases hs with ⟨e, _⟩ | ⟨e, _⟩ | ⟨e, _⟩ | ⟨e, _⟩ | ⟨e, _⟩ | ⟨k2, k6, m, e, r, s⟩
        · omega
        · omega
        · omega
        · omega
        · omega
        · have a1 := lz _ _ _ _ r
          have a2 := lz _ _ _ _ s
          exact ⟨m, a1, a2, by omega, by omega, (ihB _ _ _ _ r p2 r2 (by omega)).1, (ihB _ _ _ _ s p3 r3 hq).1⟩
      · unfold pxN at w
        rcases hs with ⟨e, _⟩ | ⟨e, _⟩ | ⟨e7, e, r⟩ | ⟨e, _⟩ | ⟨e9k, e1, e9, e, r⟩ | ⟨k2, k6, _⟩
        · omega
        · omega
        · have a1 := lz _ _ _ _ r
          exact ⟨7, Or.inl rfl, a1, (ihB _ _ _ _ r p2 r2 hq).1, fun c c1 c2 => keV_7 e (by omega)⟩
        · omega
        · subst e9k
          have a1 := lz _ _ _ _ r
          have hG : ¬ A 6 (E p) = 0 := by
            have := r1.2 h0
            rwa [e1, nI_clamp (by omega)] at this
          exact ⟨9, Or.inr rfl, a1, (ihB _ _ _ _ r p2 r2 hq).1, fun c c1 c2 => keV_9 e9 hG (by omega) e⟩
        · omega
    · have hl := SB_lt (SD_lt z) hs
      obtain ⟨c1, c2⟩ := core (p + 1) (q - 1) hs (by omega) mayN mk (fun _ e => e)
      rw [if_pos ⟨e1, e2⟩]
      exact ⟨Nat.le_trans c1 (Nat.le_add_left _ _), fun w => Nat.le_trans (c2 w) (Nat.le_add_left _ _), fun _ w => absurd bt9 w, fun _ w => absurd bt9 w⟩
end FEW
end
section
noncomputable def coF (A : Nat → Nat → Int32) (X Y : List Int32) (n : Nat) : List Int32 :=
  if A 0 n = nI 0 then [A 1 n] else if A 0 n = nI 1 then dgL (A 1 n) (dgN (A 1 n)) else if A 0 n = nI 7 then c8 25 :: X else if A 0 n = nI 8 then c8 26 :: (X ++ [c8 27]) else if A 0 n = nI 9 then A 1 n :: c8 28 :: X else X ++ ((c8 18 + A 0 n) :: Y)
theorem coF_0 {A : Nat → Nat → Int32} {X Y : List Int32} {n : Nat} (h0 : A 0 n = nI 0) : coF A X Y n = [A 1 n] := if_pos h0
theorem coF_1 {A : Nat → Nat → Int32} {X Y : List Int32} {n : Nat} (h0 : A 0 n = nI 1) : coF A X Y n = dgL (A 1 n) (dgN (A 1 n)) := by
  unfold coF
  rw [h0, if_neg (nIne (by decide) (by decide) (by decide)), if_pos rfl]
theorem coF_7 {A : Nat → Nat → Int32} {X Y : List Int32} {n : Nat} (h0 : A 0 n = nI 7) : coF A X Y n = c8 25 :: X := by
  unfold coF
  rw [h0, if_neg (nIne (by decide) (by decide) (by decide)), if_neg (nIne (by decide) (by decide) (by decide)), if_pos rfl]
theorem coF_8 {A : Nat → Nat → Int32} {X Y : List Int32} {n : Nat} (h0 : A 0 n = nI 8) : coF A X Y n = c8 26 :: (X ++ [c8 27]) := by
  unfold coF
  rw [h0, if_neg (nIne (by decide) (by decide) (by decide)), if_neg (nIne (by decide) (by decide) (by decide)), if_neg (nIne (by decide) (by decide) (by decide)), if_pos rfl]
theorem coF_9 {A : Nat → Nat → Int32} {X Y : List Int32} {n : Nat} (h0 : A 0 n = nI 9) : coF A X Y n = A 1 n :: c8 28 :: X := by
  unfold coF
  rw [h0, if_neg (nIne (by decide) (by decide) (by decide)), if_neg (nIne (by decide) (by decide) (by decide)), if_neg (nIne (by decide) (by decide) (by decide)), if_neg (nIne (by decide) (by decide) (by decide)), if_pos rfl]
theorem coF_2 {A : Nat → Nat → Int32} {X Y : List Int32} {n k : Nat} (h1 : 2 ≤ k) (h2 : k ≤ 6) (h0 : A 0 n = nI k) : coF A X Y n = X ++ ((c8 18 + nI k) :: Y) := by
  unfold coF
  rw [h0, if_neg (nIne (by omega) (by decide) (by omega)), if_neg (nIne (by omega) (by decide) (by omega)), if_neg (nIne (by omega) (by decide) (by omega)), if_neg (nIne (by omega) (by decide) (by omega)), if_neg (nIne (by omega) (by decide) (by omega))]
def i1W (k i : Nat) : Nat := i + if mayN k = true then 1 else 0
def kpB (b : Nat → Bool) (k i : Nat) : Int32 := if mayN k = true ∧ b i = true then 1 else 0
/-- the words of a NODE, the bits from i on tell what is KEPT -/
noncomputable def wdF (A : Nat → Nat → Int32) (b : Nat → Bool) : Nat → Int32 → Nat → List Int32
  | 0, _, _ => []
  | z + 1, x, i => if x < 0 then [] else brL (kpB b (A 0 x.toNatClampNeg).toNatClampNeg i) (coF A (wdF A b z (A 2 x.toNatClampNeg) (i1W (A 0 x.toNatClampNeg).toNatClampNeg i)) (wdF A b z (A 3 x.toNatClampNeg) (i1W (A 0 x.toNatClampNeg).toNatClampNeg i + kbW A z (A 2 x.toNatClampNeg))) x.toNatClampNeg)
theorem wdF_m2 (A : Nat → Nat → Int32) (b : Nat → Bool) (z i : Nat) : wdF A b z m2 i = [] := by
  cases z with
  | zero => rfl
  | succ z => exact if_pos (by decide)
theorem wdF_nI {A : Nat → Nat → Int32} {b : Nat → Bool} {z n k i : Nat} (hn : n < 450) (hk : k < 10) (h0 : A 0 n = nI k) : wdF A b (z + 1) (nI n) i = brL (kpB b k i) (coF A (wdF A b z (A 2 n) (i1W k i)) (wdF A b z (A 3 n) (i1W k i + kbW A z (A 2 n))) n) := by
  show (if nI n < 0 then [] else brL (kpB b (A 0 (nI n).toNatClampNeg).toNatClampNeg i) (coF A (wdF A b z (A 2 (nI n).toNatClampNeg) (i1W (A 0 (nI n).toNatClampNeg).toNatClampNeg i)) (wdF A b z (A 3 (nI n).toNatClampNeg) (i1W (A 0 (nI n).toNatClampNeg).toNatClampNeg i + kbW A z (A 2 (nI n).toNatClampNeg))) (nI n).toNatClampNeg)) = _
  rw [if_neg (nI_pos (by omega)), nI_clamp (show n < 2 ^ 31 by omega), h0, nI_clamp (show k < 2 ^ 31 by omega)]
theorem kbW_m2 (A : Nat → Nat → Int32) (z : Nat) : kbW A z m2 = 0 := by
  cases z with
  | zero => rfl
  | succ z => exact if_pos (by decide)
theorem kbW_nI {A : Nat → Nat → Int32} {z n k : Nat} (hn : n < 450) (hk : k < 10) (h0 : A 0 n = nI k) : kbW A (z + 1) (nI n) = (if mayN k = true then 1 else 0) + kbW A z (A 2 n) + kbW A z (A 3 n) := by
  show (if nI n < 0 then 0 else (if mayN (A 0 (nI n).toNatClampNeg).toNatClampNeg = true then 1 else 0) + kbW A z (A 2 (nI n).toNatClampNeg) + kbW A z (A 3 (nI n).toNatClampNeg)) = _
  rw [if_neg (nI_pos (by omega)), nI_clamp (show n < 2 ^ 31 by omega), h0, nI_clamp (show k < 2 ^ 31 by omega)]
set_option maxRecDepth 100000 in
theorem bit_w : ∀ w, w < 256 → ∀ t, t < 8 → ((nI w >>> (nI t &&& 31)) &&& Int32.ofInt 1 = Int32.ofInt 1 ↔ w.testBit t = true) := by decide +kernel
/-- no style keeps LETTERS, NUMBERS, FENCED ones -/
def kp0 (A : Nat → Nat → Int32) : Prop := ∀ s, s < 8 → A 7 (10 * s + 0) = 0 ∧ A 7 (10 * s + 1) = 0 ∧ A 7 (10 * s + 8) = 0
theorem kp0_k {A : Nat → Nat → Int32} (h : kp0 A) {k : Nat} (hk : k < 10) (hm : ¬ mayN k = true) : A 7 (10 * 0 + k) = 0 := by
  obtain ⟨a, b, c⟩ := h 0 (by decide)
  have : k = 0 ∨ k = 1 ∨ k = 8 := by
    rcases (show k = 0 ∨ k = 1 ∨ k = 2 ∨ k = 3 ∨ k = 4 ∨ k = 5 ∨ k = 6 ∨ k = 7 ∨ k = 8 ∨ k = 9 by omega) with rfl | rfl | rfl | rfl | rfl | rfl | rfl | rfl | rfl | rfl
    · exact Or.inl rfl
    · exact Or.inr (Or.inl rfl)
    · exact absurd rfl hm
    · exact absurd rfl hm
    · exact absurd rfl hm
    · exact absurd rfl hm
    · exact absurd rfl hm
    · exact absurd rfl hm
    · exact Or.inr (Or.inr rfl)
    · exact absurd rfl hm
  rcases this with rfl | rfl | rfl
  · exact a
  · exact b
  · exact c
theorem may_iff {k : Nat} : mayN k = true ↔ (2 ≤ k ∧ k ≤ 9 ∧ k ≠ 8) := by
  unfold mayN
  simp only [Bool.and_eq_true, decide_eq_true_eq]
  constructor
  · rintro ⟨⟨h1, h2⟩, h3⟩
    exact ⟨h1, h2, h3⟩
  · rintro ⟨h1, h2, h3⟩
    exact ⟨⟨h1, h2⟩, h3⟩
def btN (w N i : Nat) : Bool := w.testBit (N - (i + 1))
set_option maxHeartbeats 1000000 in
set_option maxRecDepth 20000 in
theorem mKeepsItM (f : Nat → zC) (o : Nat → Int32) (A : Nat → Nat → Int32) (J : Nat → Nat → Int64) {w N : Nat} (hw : w < 256) (hN : N ≤ 8) (hm19 : o 19 = nI w) (hm21 : o 21 = nI N) (hz0 : kp0 A) {n kd i : Nat} (hn : n < 450) (hkd : kd < 10) (h0 : A 0 n = nI kd) (hi : mayN kd = true → i < N) (q : Nat) (g : Nat → Int32) : zK 1 zX7_keepsIt [.ref 76, .int (nI 0), .int (nI n)] (wZ f o A J q (nI i) g) (fun r w' => w' = wZ f o A J q (nI (i1W kd i)) g ∧ r = some (.int (kpB (btN w N) kd i))) := by
  refine zK_of qX7_keepsIt (by decide +kernel) rfl ?_
  iterate 3 (refine zv_step (bX7_keepsIt 1) rfl rfl trivial ?_)
  refine zv_iff (show ¬ o 19 < 0 by rw [hm19]; exact nI_pos (by omega)) ?_
  iterate 3 (refine zv_step (bX7_keepsIt 1) rfl rfl trivial ?_)
  refine zv_iale (bX7_keepsIt 1) rfl rfl (vp_in_nI (by omega) (by decide)) (show A 0 (nI n).toNatClampNeg = nI kd by rw [nI_clamp (by omega)]; exact h0) ?_
  refine zv_S1 (bX7_keepsIt 1) rfl rfl rfl rfl ⟨rfl, rfl, rfl⟩ ⟨by decide, by decide⟩ ⟨Nat.zero_le _, Nat.zero_le _⟩ (hX7_mayKeep _ _) ?_
  rintro _ _ ⟨rfl, ⟨g1, rfl⟩ | ⟨g1, rfl⟩⟩
  · rw [nI_toInt (by omega)] at g1
    have hmk : mayN kd = true := may_iff.mpr ⟨by omega, by omega, by omega⟩
    iterate 1 (refine zv_step (bX7_keepsIt 1) rfl rfl trivial ?_)
    refine zv_ift (by decide) ?_
    iterate 18 (refine zv_step (bX7_keepsIt 1) rfl rfl trivial ?_)
    refine zv_ifb (fun h63 => ?_) (fun h63 => ?_)
    · have q63 : ¬ btN w N i = true := fun q => h63 (by
        show (o 19 >>> ((o 21 - (nI i + Int32.ofInt 1)) &&& 31)) &&& Int32.ofInt 1 = Int32.ofInt 1
        rw [hm19, hm21, show nI i + Int32.ofInt 1 = nI (i + 1) from nI_1 i, nI_sub (by have := hi hmk; omega)]
        exact (bit_w w hw _ (by have := hi hmk; omega)).mpr q)
      iterate 1 (refine zv_step (bX7_keepsIt 1) rfl rfl trivial ?_)
      refine zv_iret (bX7_keepsIt 1) rfl (Or.inr ⟨rfl, Or.inl rfl⟩) (Nat.zero_le _) (Nat.zero_le _) ⟨by unfold i1W; rw [if_pos hmk, ← show nI i + Int32.ofInt 1 = nI (i + 1) from nI_1 i]; rfl, by unfold kpB; rw [if_neg (fun q => q63 q.2)]; rfl⟩
    · have q63 : btN w N i = true := by
        have h9 : (o 19 >>> ((o 21 - (nI i + Int32.ofInt 1)) &&& 31)) &&& Int32.ofInt 1 = Int32.ofInt 1 := Decidable.not_not.mp h63
        rw [hm19, hm21, show nI i + Int32.ofInt 1 = nI (i + 1) from nI_1 i, nI_sub (by have := hi hmk; omega)] at h9
        exact (bit_w w hw _ (by have := hi hmk; omega)).mp h9
      iterate 2 (refine zv_step (bX7_keepsIt 1) rfl rfl trivial ?_)
      refine zv_iret (bX7_keepsIt 1) rfl (Or.inr ⟨rfl, Or.inr rfl⟩) (Nat.zero_le _) (Nat.zero_le _) ⟨by unfold i1W; rw [if_pos hmk, ← show nI i + Int32.ofInt 1 = nI (i + 1) from nI_1 i]; rfl, by unfold kpB; rw [if_pos ⟨hmk, q63⟩]; rfl⟩
  · have hmk : ¬ mayN kd = true := fun q => g1 (by have := may_iff.mp q; rw [nI_toInt (by omega)]; omega)
    iterate 1 (refine zv_step (bX7_keepsIt 1) rfl rfl trivial ?_)
    refine zv_iff (by decide) ?_
    iterate 8 (refine zv_step (bX7_keepsIt 1) rfl rfl trivial ?_)
    refine zv_iale (bX7_keepsIt 1) rfl rfl (vp_in_nI (by omega) (by decide)) (show A 0 (nI n).toNatClampNeg = nI kd by rw [nI_clamp (by omega)]; exact h0) ?_
    iterate 1 (refine zv_step (bX7_keepsIt 1) rfl rfl trivial ?_)
    refine zv_zale (bX7_keepsIt 1) rfl rfl (show vp_in (c8 10 * nI 0 + nI kd) 90 by rw [ix10]; exact vp_in_nI (by omega) (by decide)) (show A 7 (c8 10 * nI 0 + nI kd).toNatClampNeg = 0 by rw [ix10, nI_clamp (by omega)]; exact kp0_k hz0 hkd hmk) ?_
    refine zv_iret (bX7_keepsIt 1) rfl (Or.inr ⟨rfl, Or.inl rfl⟩) (Nat.zero_le _) (Nat.zero_le _) ⟨by unfold i1W; rw [if_neg hmk]; rfl, by unfold kpB; rw [if_neg (fun q => hmk q.1)]⟩
set_option maxHeartbeats 1000000 in
set_option maxRecDepth 20000 in
theorem sayF2 (f : Nat → zC) (o : Nat → Int32) (A : Nat → Nat → Int32) (J : Nat → Nat → Int64) {lo hi : Nat} (hh : hi ≤ 450) {N : Nat} {b : Nat → Bool} {n z : Nat} (hn : n < 450) {c : Int32} (ih : ∀ (x : Nat), lo ≤ x → x < hi → szN A x ≤ z → ∀ (q i : Nat) (g : Nat → Int32), i + kbW A z (nI x) ≤ N → q + (wdF A b z (nI x) i).length ≤ 256 → zK (z + 2) zX7_say [.ref 76, .int (nI 0), .int (nI x)] (wZ f o A J q (nI i) g) (fun r w' => r = none ∧ w' = wZ f o A J (q + (wdF A b z (nI x) i).length) (nI (i + kbW A z (nI x))) (appA g q (wdF A b z (nI x) i)))) {n0 : Nat} {Q : Option Value → zW → Prop} {q i : Nat} {g : Nat → Int32} (hi9 : i + kbW A z (A 2 n) + kbW A z (A 3 n) ≤ N) (hq : q + (coF A (wdF A b z (A 2 n) i) (wdF A b z (A 3 n) (i + kbW A z (A 2 n))) n).length ≤ 256) (kk : zV (zMo (z + 1 + 2) zX7_say) false n0 0 0 270 [(3, .int c), (0, .ref 76), (1, .int (nI 0)), (2, .int (nI n))] [] (wZ f o A J (q + (coF A (wdF A b z (A 2 n) i) (wdF A b z (A 3 n) (i + kbW A z (A 2 n))) n).length) (nI (i + kbW A z (A 2 n) + kbW A z (A 3 n))) (appA g q (coF A (wdF A b z (A 2 n) i) (wdF A b z (A 3 n) (i + kbW A z (A 2 n))) n))) Q) {k a b' : Nat} (hk1 : 2 ≤ k) (hk2 : k ≤ 6) (h0 : A 0 n = nI k) (h2 : A 2 n = nI a) (la : lo ≤ a) (ha : a < n) (h3 : A 3 n = nI b') (lb : lo ≤ b') (hb : b' < n) (hnh : n < hi) (hsz : szN A n ≤ z + 1) (es : szN A n = 1 + szN A a + szN A b') : zV (zMo (z + 1 + 2) zX7_say) false n0 0 0 17 [(3, .int c), (0, .ref 76), (1, .int (nI 0)), (2, .int (nI n))] [] (wZ f o A J q (nI i) g) Q := by
  have e1 : (nI n).toNatClampNeg = n := nI_clamp (by omega)
  have hv : vp_in (nI n) 450 := vp_in_nI (by omega) (by decide)
  rw [coF_2 hk1 hk2 h0, h2, h3] at kk hq
  rw [h2, h3] at hi9
  simp only [List.length_append, List.length_cons, List.length_nil] at hq
  iterate 3 (refine zv_step (bX7_say (z + 1 + 2)) rfl rfl trivial ?_)
  refine zv_iale (bX7_say (z + 1 + 2)) rfl rfl hv (show A 0 (nI n).toNatClampNeg = nI k by rw [e1]; exact h0) ?_
  refine zv_S1 (bX7_say (z + 1 + 2)) rfl rfl rfl rfl ⟨rfl, rfl, rfl⟩ ⟨by show 0 + 1 ≤ z + 1 + 2; omega, by show 8 + (1 + 11) + 64 * (0) ≤ 64 * (z + 1 + 2); omega⟩ ⟨Nat.zero_le _, Nat.zero_le _⟩ (hX7_isTwo _ _) ?_
  rintro _ _ ⟨rfl, ⟨g1, rfl⟩ | ⟨g1, rfl⟩⟩
  · skip
    iterate 1 (refine zv_step (bX7_say (z + 1 + 2)) rfl rfl trivial ?_)
    refine zv_iff (by decide) ?_
    iterate 5 (refine zv_step (bX7_say (z + 1 + 2)) rfl rfl trivial ?_)
    refine zv_iale (bX7_say (z + 1 + 2)) rfl rfl hv (show A 2 (nI n).toNatClampNeg = nI a by rw [e1]; exact h2) ?_
    refine zv_V2 (bX7_say (z + 1 + 2)) rfl rfl rfl rfl rfl rfl rfl ⟨rfl, rfl, rfl⟩ ⟨by show z + 2 + 1 ≤ z + 1 + 2; omega, by show 8 + (6 + 11) + 64 * (z + 2) ≤ 64 * (z + 1 + 2); omega⟩ ⟨Nat.zero_le _, Nat.zero_le _⟩ (ih a (by omega) (by omega) (by omega) _ (i) _ (by omega) (by omega)) ?_
    rintro _ _ ⟨rfl, rfl⟩
    iterate 5 (refine zv_step (bX7_say (z + 1 + 2)) rfl rfl trivial ?_)
    refine zv_iale (bX7_say (z + 1 + 2)) rfl rfl hv (show A 0 (nI n).toNatClampNeg = nI k by rw [e1]; exact h0) ?_
    iterate 1 (refine zv_step (bX7_say (z + 1 + 2)) rfl rfl trivial ?_)
    refine zv_V1 (bX7_say (z + 1 + 2)) rfl rfl rfl rfl rfl rfl rfl ⟨rfl, rfl, rfl⟩ ⟨by show 0 + 1 ≤ z + 1 + 2; omega, by show 8 + (2 + 11) + 64 * (0) ≤ 64 * (z + 1 + 2); omega⟩ ⟨Nat.zero_le _, Nat.zero_le _⟩ (mSays f (upd o 20 _) A J _ _ (by omega) _) ?_
    rintro _ _ ⟨rfl, rfl⟩
    iterate 5 (refine zv_step (bX7_say (z + 1 + 2)) rfl rfl trivial ?_)
    refine zv_iale (bX7_say (z + 1 + 2)) rfl rfl hv (show A 3 (nI n).toNatClampNeg = nI b' by rw [e1]; exact h3) ?_
    refine zv_V2 (bX7_say (z + 1 + 2)) rfl rfl rfl rfl rfl rfl rfl ⟨rfl, rfl, rfl⟩ ⟨by show z + 2 + 1 ≤ z + 1 + 2; omega, by show 8 + (6 + 11) + 64 * (z + 2) ≤ 64 * (z + 1 + 2); omega⟩ ⟨Nat.zero_le _, Nat.zero_le _⟩ (ih b' (by omega) (by omega) (by omega) _ (i + kbW A z (nI a)) _ (by omega) (by omega)) ?_
    rintro _ _ ⟨rfl, rfl⟩
    iterate 1 (refine zv_step (bX7_say (z + 1 + 2)) rfl rfl trivial ?_)
    rw [appA_app] at kk
    simp only [List.length_append, List.length_cons] at kk
    rw [show q + ((wdF A b z (nI a) i).length + ((wdF A b z (nI b') (i + kbW A z (nI a))).length + 1)) = q + (wdF A b z (nI a) i).length + 1 + (wdF A b z (nI b') (i + kbW A z (nI a))).length by omega] at kk
    exact kk
  · skip
    iterate 1 (refine zv_step (bX7_say (z + 1 + 2)) rfl rfl trivial ?_)
    refine zv_ift (by decide) ?_
    exact absurd ⟨by rw [nI_toInt (by omega)]; omega, by rw [nI_toInt (by omega)]; omega⟩ g1
set_option maxHeartbeats 1000000 in
set_option maxRecDepth 20000 in
theorem sayF0 (f : Nat → zC) (o : Nat → Int32) (A : Nat → Nat → Int32) (J : Nat → Nat → Int64) {lo hi : Nat} (hh : hi ≤ 450) {N : Nat} {b : Nat → Bool} {n z : Nat} (hn : n < 450) {c : Int32} (ih : ∀ (x : Nat), lo ≤ x → x < hi → szN A x ≤ z → ∀ (q i : Nat) (g : Nat → Int32), i + kbW A z (nI x) ≤ N → q + (wdF A b z (nI x) i).length ≤ 256 → zK (z + 2) zX7_say [.ref 76, .int (nI 0), .int (nI x)] (wZ f o A J q (nI i) g) (fun r w' => r = none ∧ w' = wZ f o A J (q + (wdF A b z (nI x) i).length) (nI (i + kbW A z (nI x))) (appA g q (wdF A b z (nI x) i)))) {n0 : Nat} {Q : Option Value → zW → Prop} {q i : Nat} {g : Nat → Int32} (hi9 : i + kbW A z (A 2 n) + kbW A z (A 3 n) ≤ N) (hq : q + (coF A (wdF A b z (A 2 n) i) (wdF A b z (A 3 n) (i + kbW A z (A 2 n))) n).length ≤ 256) (kk : zV (zMo (z + 1 + 2) zX7_say) false n0 0 0 270 [(3, .int c), (0, .ref 76), (1, .int (nI 0)), (2, .int (nI n))] [] (wZ f o A J (q + (coF A (wdF A b z (A 2 n) i) (wdF A b z (A 3 n) (i + kbW A z (A 2 n))) n).length) (nI (i + kbW A z (A 2 n) + kbW A z (A 3 n))) (appA g q (coF A (wdF A b z (A 2 n) i) (wdF A b z (A 3 n) (i + kbW A z (A 2 n))) n))) Q) (h0 : A 0 n = nI 0) (h2 : A 2 n = m2) (h3 : A 3 n = m2) : zV (zMo (z + 1 + 2) zX7_say) false n0 0 0 17 [(3, .int c), (0, .ref 76), (1, .int (nI 0)), (2, .int (nI n))] [] (wZ f o A J q (nI i) g) Q := by
  have e1 : (nI n).toNatClampNeg = n := nI_clamp (by omega)
  have hv : vp_in (nI n) 450 := vp_in_nI (by omega) (by decide)
  rw [coF_0 h0] at kk hq
  simp only [List.length_append, List.length_cons, List.length_nil] at hq
  rw [h2, h3, kbW_m2, Nat.add_zero, Nat.add_zero] at kk
  iterate 3 (refine zv_step (bX7_say (z + 1 + 2)) rfl rfl trivial ?_)
  refine zv_iale (bX7_say (z + 1 + 2)) rfl rfl hv (show A 0 (nI n).toNatClampNeg = nI 0 by rw [e1]; exact h0) ?_
  refine zv_S1 (bX7_say (z + 1 + 2)) rfl rfl rfl rfl ⟨rfl, rfl, rfl⟩ ⟨by show 0 + 1 ≤ z + 1 + 2; omega, by show 8 + (1 + 11) + 64 * (0) ≤ 64 * (z + 1 + 2); omega⟩ ⟨Nat.zero_le _, Nat.zero_le _⟩ (hX7_isTwo _ _) ?_
  rintro _ _ ⟨rfl, ⟨g1, rfl⟩ | ⟨g1, rfl⟩⟩
  · skip
    iterate 1 (refine zv_step (bX7_say (z + 1 + 2)) rfl rfl trivial ?_)
    refine zv_iff (by decide) ?_
    exact absurd g1 (by decide)
  · skip
    iterate 1 (refine zv_step (bX7_say (z + 1 + 2)) rfl rfl trivial ?_)
    refine zv_ift (by decide) ?_
    iterate 3 (refine zv_step (bX7_say (z + 1 + 2)) rfl rfl trivial ?_)
    refine zv_iale (bX7_say (z + 1 + 2)) rfl rfl hv (show A 0 (nI n).toNatClampNeg = nI 0 by rw [e1]; exact h0) ?_
    iterate 2 (refine zv_step (bX7_say (z + 1 + 2)) rfl rfl trivial ?_)
    refine zv_ift (by decide) ?_
    iterate 3 (refine zv_step (bX7_say (z + 1 + 2)) rfl rfl trivial ?_)
    refine zv_iale (bX7_say (z + 1 + 2)) rfl rfl hv (show A 0 (nI n).toNatClampNeg = nI 0 by rw [e1]; exact h0) ?_
    iterate 1 (refine zv_step (bX7_say (z + 1 + 2)) rfl rfl trivial ?_)
    refine zv_iff (by decide) ?_
    iterate 4 (refine zv_step (bX7_say (z + 1 + 2)) rfl rfl trivial ?_)
    refine zv_iale (bX7_say (z + 1 + 2)) rfl rfl hv (show A 1 (nI n).toNatClampNeg = A 1 n by rw [e1]) ?_
    refine zv_V1 (bX7_say (z + 1 + 2)) rfl rfl rfl rfl rfl rfl rfl ⟨rfl, rfl, rfl⟩ ⟨by show 0 + 1 ≤ z + 1 + 2; omega, by show 8 + (2 + 11) + 64 * (0) ≤ 64 * (z + 1 + 2); omega⟩ ⟨Nat.zero_le _, Nat.zero_le _⟩ (mSays f (upd o 20 _) A J _ _ (by omega) _) ?_
    rintro _ _ ⟨rfl, rfl⟩
    iterate 1 (refine zv_step (bX7_say (z + 1 + 2)) rfl rfl trivial ?_)
    exact kk
set_option maxHeartbeats 1000000 in
set_option maxRecDepth 20000 in
theorem sayF1 (f : Nat → zC) (o : Nat → Int32) (A : Nat → Nat → Int32) (J : Nat → Nat → Int64) {lo hi : Nat} (hh : hi ≤ 450) {N : Nat} {b : Nat → Bool} {n z : Nat} (hn : n < 450) {c : Int32} (ih : ∀ (x : Nat), lo ≤ x → x < hi → szN A x ≤ z → ∀ (q i : Nat) (g : Nat → Int32), i + kbW A z (nI x) ≤ N → q + (wdF A b z (nI x) i).length ≤ 256 → zK (z + 2) zX7_say [.ref 76, .int (nI 0), .int (nI x)] (wZ f o A J q (nI i) g) (fun r w' => r = none ∧ w' = wZ f o A J (q + (wdF A b z (nI x) i).length) (nI (i + kbW A z (nI x))) (appA g q (wdF A b z (nI x) i)))) {n0 : Nat} {Q : Option Value → zW → Prop} {q i : Nat} {g : Nat → Int32} (hi9 : i + kbW A z (A 2 n) + kbW A z (A 3 n) ≤ N) (hq : q + (coF A (wdF A b z (A 2 n) i) (wdF A b z (A 3 n) (i + kbW A z (A 2 n))) n).length ≤ 256) (kk : zV (zMo (z + 1 + 2) zX7_say) false n0 0 0 270 [(3, .int c), (0, .ref 76), (1, .int (nI 0)), (2, .int (nI n))] [] (wZ f o A J (q + (coF A (wdF A b z (A 2 n) i) (wdF A b z (A 3 n) (i + kbW A z (A 2 n))) n).length) (nI (i + kbW A z (A 2 n) + kbW A z (A 3 n))) (appA g q (coF A (wdF A b z (A 2 n) i) (wdF A b z (A 3 n) (i + kbW A z (A 2 n))) n))) Q) (h0 : A 0 n = nI 1) (h2 : A 2 n = m2) (h3 : A 3 n = m2) : zV (zMo (z + 1 + 2) zX7_say) false n0 0 0 17 [(3, .int c), (0, .ref 76), (1, .int (nI 0)), (2, .int (nI n))] [] (wZ f o A J q (nI i) g) Q := by
  have e1 : (nI n).toNatClampNeg = n := nI_clamp (by omega)
  have hv : vp_in (nI n) 450 := vp_in_nI (by omega) (by decide)
  rw [coF_1 h0] at kk hq
  rw [dgL_len] at kk hq
  rw [h2, h3, kbW_m2, Nat.add_zero, Nat.add_zero] at kk
  iterate 3 (refine zv_step (bX7_say (z + 1 + 2)) rfl rfl trivial ?_)
  refine zv_iale (bX7_say (z + 1 + 2)) rfl rfl hv (show A 0 (nI n).toNatClampNeg = nI 1 by rw [e1]; exact h0) ?_
  refine zv_S1 (bX7_say (z + 1 + 2)) rfl rfl rfl rfl ⟨rfl, rfl, rfl⟩ ⟨by show 0 + 1 ≤ z + 1 + 2; omega, by show 8 + (1 + 11) + 64 * (0) ≤ 64 * (z + 1 + 2); omega⟩ ⟨Nat.zero_le _, Nat.zero_le _⟩ (hX7_isTwo _ _) ?_
  rintro _ _ ⟨rfl, ⟨g1, rfl⟩ | ⟨g1, rfl⟩⟩
  · skip
    iterate 1 (refine zv_step (bX7_say (z + 1 + 2)) rfl rfl trivial ?_)
    refine zv_iff (by decide) ?_
    exact absurd g1 (by decide)
  · skip
    iterate 1 (refine zv_step (bX7_say (z + 1 + 2)) rfl rfl trivial ?_)
    refine zv_ift (by decide) ?_
    iterate 3 (refine zv_step (bX7_say (z + 1 + 2)) rfl rfl trivial ?_)
    refine zv_iale (bX7_say (z + 1 + 2)) rfl rfl hv (show A 0 (nI n).toNatClampNeg = nI 1 by rw [e1]; exact h0) ?_
    iterate 2 (refine zv_step (bX7_say (z + 1 + 2)) rfl rfl trivial ?_)
    refine zv_iff (by decide) ?_
    iterate 4 (refine zv_step (bX7_say (z + 1 + 2)) rfl rfl trivial ?_)
    refine zv_locals (l := [(5, .int (Int32.ofInt 1)), (4, .int (Int32.ofInt 1)), (3, .int c), (0, .ref 76), (1, .int (nI 0)), (2, .int (nI n))]) (l' := [(5, .int (Int32.ofInt 1)), (4, .int (Int32.ofInt 1)), (3, .int c), (0, .ref 76), (1, .int (nI 0)), (2, .int (nI n))]) ?_ (sayXN1 f o A J hn rfl (dgN_le _).2 hq kk (dgN (A 1 n) - 1) 1 (by have := (dgN_le (A 1 n)).1; omega) (Nat.le_refl _) rfl rfl)
    simp
set_option maxHeartbeats 1000000 in
set_option maxRecDepth 20000 in
theorem sayF7 (f : Nat → zC) (o : Nat → Int32) (A : Nat → Nat → Int32) (J : Nat → Nat → Int64) {lo hi : Nat} (hh : hi ≤ 450) {N : Nat} {b : Nat → Bool} {n z : Nat} (hn : n < 450) {c : Int32} (ih : ∀ (x : Nat), lo ≤ x → x < hi → szN A x ≤ z → ∀ (q i : Nat) (g : Nat → Int32), i + kbW A z (nI x) ≤ N → q + (wdF A b z (nI x) i).length ≤ 256 → zK (z + 2) zX7_say [.ref 76, .int (nI 0), .int (nI x)] (wZ f o A J q (nI i) g) (fun r w' => r = none ∧ w' = wZ f o A J (q + (wdF A b z (nI x) i).length) (nI (i + kbW A z (nI x))) (appA g q (wdF A b z (nI x) i)))) {n0 : Nat} {Q : Option Value → zW → Prop} {q i : Nat} {g : Nat → Int32} (hi9 : i + kbW A z (A 2 n) + kbW A z (A 3 n) ≤ N) (hq : q + (coF A (wdF A b z (A 2 n) i) (wdF A b z (A 3 n) (i + kbW A z (A 2 n))) n).length ≤ 256) (kk : zV (zMo (z + 1 + 2) zX7_say) false n0 0 0 270 [(3, .int c), (0, .ref 76), (1, .int (nI 0)), (2, .int (nI n))] [] (wZ f o A J (q + (coF A (wdF A b z (A 2 n) i) (wdF A b z (A 3 n) (i + kbW A z (A 2 n))) n).length) (nI (i + kbW A z (A 2 n) + kbW A z (A 3 n))) (appA g q (coF A (wdF A b z (A 2 n) i) (wdF A b z (A 3 n) (i + kbW A z (A 2 n))) n))) Q) {a : Nat} (h0 : A 0 n = nI 7) (h2 : A 2 n = nI a) (h3 : A 3 n = m2) (la : lo ≤ a) (ha : a < n) (hnh : n < hi) (hsz : szN A n ≤ z + 1) (es : szN A n = 1 + szN A a) : zV (zMo (z + 1 + 2) zX7_say) false n0 0 0 17 [(3, .int c), (0, .ref 76), (1, .int (nI 0)), (2, .int (nI n))] [] (wZ f o A J q (nI i) g) Q := by
  have e1 : (nI n).toNatClampNeg = n := nI_clamp (by omega)
  have hv : vp_in (nI n) 450 := vp_in_nI (by omega) (by decide)
  rw [coF_7 h0, h2, h3, kbW_m2, Nat.add_zero] at kk
  rw [coF_7 h0, h2] at hq
  rw [h2, h3, kbW_m2, Nat.add_zero] at hi9
  simp only [List.length_append, List.length_cons, List.length_nil] at hq
  iterate 3 (refine zv_step (bX7_say (z + 1 + 2)) rfl rfl trivial ?_)
  refine zv_iale (bX7_say (z + 1 + 2)) rfl rfl hv (show A 0 (nI n).toNatClampNeg = nI 7 by rw [e1]; exact h0) ?_
  refine zv_S1 (bX7_say (z + 1 + 2)) rfl rfl rfl rfl ⟨rfl, rfl, rfl⟩ ⟨by show 0 + 1 ≤ z + 1 + 2; omega, by show 8 + (1 + 11) + 64 * (0) ≤ 64 * (z + 1 + 2); omega⟩ ⟨Nat.zero_le _, Nat.zero_le _⟩ (hX7_isTwo _ _) ?_
  rintro _ _ ⟨rfl, ⟨g1, rfl⟩ | ⟨g1, rfl⟩⟩
  · skip
    iterate 1 (refine zv_step (bX7_say (z + 1 + 2)) rfl rfl trivial ?_)
    refine zv_iff (by decide) ?_
    exact absurd g1 (by decide)
  · skip
    iterate 1 (refine zv_step (bX7_say (z + 1 + 2)) rfl rfl trivial ?_)
    refine zv_ift (by decide) ?_
    iterate 3 (refine zv_step (bX7_say (z + 1 + 2)) rfl rfl trivial ?_)
    refine zv_iale (bX7_say (z + 1 + 2)) rfl rfl hv (show A 0 (nI n).toNatClampNeg = nI 7 by rw [e1]; exact h0) ?_
    iterate 2 (refine zv_step (bX7_say (z + 1 + 2)) rfl rfl trivial ?_)
    refine zv_ift (by decide) ?_
    iterate 3 (refine zv_step (bX7_say (z + 1 + 2)) rfl rfl trivial ?_)
    refine zv_iale (bX7_say (z + 1 + 2)) rfl rfl hv (show A 0 (nI n).toNatClampNeg = nI 7 by rw [e1]; exact h0) ?_
    iterate 1 (refine zv_step (bX7_say (z + 1 + 2)) rfl rfl trivial ?_)
    refine zv_ift (by decide) ?_
    iterate 4 (refine zv_step (bX7_say (z + 1 + 2)) rfl rfl trivial ?_)
    refine zv_iale (bX7_say (z + 1 + 2)) rfl rfl hv (show A 0 (nI n).toNatClampNeg = nI 7 by rw [e1]; exact h0) ?_
    iterate 2 (refine zv_step (bX7_say (z + 1 + 2)) rfl rfl trivial ?_)
    refine zv_iff (by decide) ?_
    iterate 2 (refine zv_step (bX7_say (z + 1 + 2)) rfl rfl trivial ?_)
    refine zv_V1 (bX7_say (z + 1 + 2)) rfl rfl rfl rfl rfl rfl rfl ⟨rfl, rfl, rfl⟩ ⟨by show 0 + 1 ≤ z + 1 + 2; omega, by show 8 + (2 + 11) + 64 * (0) ≤ 64 * (z + 1 + 2); omega⟩ ⟨Nat.zero_le _, Nat.zero_le _⟩ (mSays f (upd o 20 _) A J _ _ (by omega) _) ?_
    rintro _ _ ⟨rfl, rfl⟩
    iterate 3 (refine zv_step (bX7_say (z + 1 + 2)) rfl rfl trivial ?_)
    refine zv_iale (bX7_say (z + 1 + 2)) rfl rfl hv (show A 0 (nI n).toNatClampNeg = nI 7 by rw [e1]; exact h0) ?_
    iterate 2 (refine zv_step (bX7_say (z + 1 + 2)) rfl rfl trivial ?_)
    refine zv_ift (by decide) ?_
    iterate 5 (refine zv_step (bX7_say (z + 1 + 2)) rfl rfl trivial ?_)
    refine zv_iale (bX7_say (z + 1 + 2)) rfl rfl hv (show A 2 (nI n).toNatClampNeg = nI a by rw [e1]; exact h2) ?_
    refine zv_V2 (bX7_say (z + 1 + 2)) rfl rfl rfl rfl rfl rfl rfl ⟨rfl, rfl, rfl⟩ ⟨by show z + 2 + 1 ≤ z + 1 + 2; omega, by show 8 + (6 + 11) + 64 * (z + 2) ≤ 64 * (z + 1 + 2); omega⟩ ⟨Nat.zero_le _, Nat.zero_le _⟩ (ih a (by omega) (by omega) (by omega) _ (i) _ (by omega) (by omega)) ?_
    rintro _ _ ⟨rfl, rfl⟩
    iterate 3 (refine zv_step (bX7_say (z + 1 + 2)) rfl rfl trivial ?_)
    refine zv_iale (bX7_say (z + 1 + 2)) rfl rfl hv (show A 0 (nI n).toNatClampNeg = nI 7 by rw [e1]; exact h0) ?_
    iterate 2 (refine zv_step (bX7_say (z + 1 + 2)) rfl rfl trivial ?_)
    refine zv_ift (by decide) ?_
    simp only [List.length_cons] at kk
    rw [show q + ((wdF A b z (nI a) i).length + 1) = q + 1 + (wdF A b z (nI a) i).length by omega] at kk
    exact kk
set_option maxHeartbeats 1000000 in
set_option maxRecDepth 20000 in
theorem sayF8 (f : Nat → zC) (o : Nat → Int32) (A : Nat → Nat → Int32) (J : Nat → Nat → Int64) {lo hi : Nat} (hh : hi ≤ 450) {N : Nat} {b : Nat → Bool} {n z : Nat} (hn : n < 450) {c : Int32} (ih : ∀ (x : Nat), lo ≤ x → x < hi → szN A x ≤ z → ∀ (q i : Nat) (g : Nat → Int32), i + kbW A z (nI x) ≤ N → q + (wdF A b z (nI x) i).length ≤ 256 → zK (z + 2) zX7_say [.ref 76, .int (nI 0), .int (nI x)] (wZ f o A J q (nI i) g) (fun r w' => r = none ∧ w' = wZ f o A J (q + (wdF A b z (nI x) i).length) (nI (i + kbW A z (nI x))) (appA g q (wdF A b z (nI x) i)))) {n0 : Nat} {Q : Option Value → zW → Prop} {q i : Nat} {g : Nat → Int32} (hi9 : i + kbW A z (A 2 n) + kbW A z (A 3 n) ≤ N) (hq : q + (coF A (wdF A b z (A 2 n) i) (wdF A b z (A 3 n) (i + kbW A z (A 2 n))) n).length ≤ 256) (kk : zV (zMo (z + 1 + 2) zX7_say) false n0 0 0 270 [(3, .int c), (0, .ref 76), (1, .int (nI 0)), (2, .int (nI n))] [] (wZ f o A J (q + (coF A (wdF A b z (A 2 n) i) (wdF A b z (A 3 n) (i + kbW A z (A 2 n))) n).length) (nI (i + kbW A z (A 2 n) + kbW A z (A 3 n))) (appA g q (coF A (wdF A b z (A 2 n) i) (wdF A b z (A 3 n) (i + kbW A z (A 2 n))) n))) Q) {a : Nat} (h0 : A 0 n = nI 8) (h2 : A 2 n = nI a) (h3 : A 3 n = m2) (la : lo ≤ a) (ha : a < n) (hnh : n < hi) (hsz : szN A n ≤ z + 1) (es : szN A n = 1 + szN A a) : zV (zMo (z + 1 + 2) zX7_say) false n0 0 0 17 [(3, .int c), (0, .ref 76), (1, .int (nI 0)), (2, .int (nI n))] [] (wZ f o A J q (nI i) g) Q := by
  have e1 : (nI n).toNatClampNeg = n := nI_clamp (by omega)
  have hv : vp_in (nI n) 450 := vp_in_nI (by omega) (by decide)
  rw [coF_8 h0, h2, h3, kbW_m2, Nat.add_zero] at kk
  rw [coF_8 h0, h2] at hq
  rw [h2, h3, kbW_m2, Nat.add_zero] at hi9
  simp only [List.length_append, List.length_cons, List.length_nil] at hq
  iterate 3 (refine zv_step (bX7_say (z + 1 + 2)) rfl rfl trivial ?_)
  refine zv_iale (bX7_say (z + 1 + 2)) rfl rfl hv (show A 0 (nI n).toNatClampNeg = nI 8 by rw [e1]; exact h0) ?_
  refine zv_S1 (bX7_say (z + 1 + 2)) rfl rfl rfl rfl ⟨rfl, rfl, rfl⟩ ⟨by show 0 + 1 ≤ z + 1 + 2; omega, by show 8 + (1 + 11) + 64 * (0) ≤ 64 * (z + 1 + 2); omega⟩ ⟨Nat.zero_le _, Nat.zero_le _⟩ (hX7_isTwo _ _) ?_
  rintro _ _ ⟨rfl, ⟨g1, rfl⟩ | ⟨g1, rfl⟩⟩
  · skip
    iterate 1 (refine zv_step (bX7_say (z + 1 + 2)) rfl rfl trivial ?_)
    refine zv_iff (by decide) ?_
    exact absurd g1 (by decide)
  · skip
    iterate 1 (refine zv_step (bX7_say (z + 1 + 2)) rfl rfl trivial ?_)
    refine zv_ift (by decide) ?_
    iterate 3 (refine zv_step (bX7_say (z + 1 + 2)) rfl rfl trivial ?_)
    refine zv_iale (bX7_say (z + 1 + 2)) rfl rfl hv (show A 0 (nI n).toNatClampNeg = nI 8 by rw [e1]; exact h0) ?_
    iterate 2 (refine zv_step (bX7_say (z + 1 + 2)) rfl rfl trivial ?_)
    refine zv_ift (by decide) ?_
    iterate 3 (refine zv_step (bX7_say (z + 1 + 2)) rfl rfl trivial ?_)
    refine zv_iale (bX7_say (z + 1 + 2)) rfl rfl hv (show A 0 (nI n).toNatClampNeg = nI 8 by rw [e1]; exact h0) ?_
    iterate 1 (refine zv_step (bX7_say (z + 1 + 2)) rfl rfl trivial ?_)
    refine zv_ift (by decide) ?_
    iterate 4 (refine zv_step (bX7_say (z + 1 + 2)) rfl rfl trivial ?_)
    refine zv_iale (bX7_say (z + 1 + 2)) rfl rfl hv (show A 0 (nI n).toNatClampNeg = nI 8 by rw [e1]; exact h0) ?_
    iterate 2 (refine zv_step (bX7_say (z + 1 + 2)) rfl rfl trivial ?_)
    refine zv_ift (by decide) ?_
    iterate 3 (refine zv_step (bX7_say (z + 1 + 2)) rfl rfl trivial ?_)
    refine zv_iale (bX7_say (z + 1 + 2)) rfl rfl hv (show A 0 (nI n).toNatClampNeg = nI 8 by rw [e1]; exact h0) ?_
    iterate 2 (refine zv_step (bX7_say (z + 1 + 2)) rfl rfl trivial ?_)
    refine zv_iff (by decide) ?_
    iterate 2 (refine zv_step (bX7_say (z + 1 + 2)) rfl rfl trivial ?_)
    refine zv_V1 (bX7_say (z + 1 + 2)) rfl rfl rfl rfl rfl rfl rfl ⟨rfl, rfl, rfl⟩ ⟨by show 0 + 1 ≤ z + 1 + 2; omega, by show 8 + (2 + 11) + 64 * (0) ≤ 64 * (z + 1 + 2); omega⟩ ⟨Nat.zero_le _, Nat.zero_le _⟩ (mSays f (upd o 20 _) A J _ _ (by omega) _) ?_
    rintro _ _ ⟨rfl, rfl⟩
    iterate 3 (refine zv_step (bX7_say (z + 1 + 2)) rfl rfl trivial ?_)
    refine zv_iale (bX7_say (z + 1 + 2)) rfl rfl hv (show A 0 (nI n).toNatClampNeg = nI 8 by rw [e1]; exact h0) ?_
    iterate 2 (refine zv_step (bX7_say (z + 1 + 2)) rfl rfl trivial ?_)
    refine zv_ift (by decide) ?_
    iterate 5 (refine zv_step (bX7_say (z + 1 + 2)) rfl rfl trivial ?_)
    refine zv_iale (bX7_say (z + 1 + 2)) rfl rfl hv (show A 2 (nI n).toNatClampNeg = nI a by rw [e1]; exact h2) ?_
    refine zv_V2 (bX7_say (z + 1 + 2)) rfl rfl rfl rfl rfl rfl rfl ⟨rfl, rfl, rfl⟩ ⟨by show z + 2 + 1 ≤ z + 1 + 2; omega, by show 8 + (6 + 11) + 64 * (z + 2) ≤ 64 * (z + 1 + 2); omega⟩ ⟨Nat.zero_le _, Nat.zero_le _⟩ (ih a (by omega) (by omega) (by omega) _ (i) _ (by omega) (by omega)) ?_
    rintro _ _ ⟨rfl, rfl⟩
    iterate 3 (refine zv_step (bX7_say (z + 1 + 2)) rfl rfl trivial ?_)
    refine zv_iale (bX7_say (z + 1 + 2)) rfl rfl hv (show A 0 (nI n).toNatClampNeg = nI 8 by rw [e1]; exact h0) ?_
    iterate 2 (refine zv_step (bX7_say (z + 1 + 2)) rfl rfl trivial ?_)
    refine zv_iff (by decide) ?_
    iterate 2 (refine zv_step (bX7_say (z + 1 + 2)) rfl rfl trivial ?_)
    refine zv_V1 (bX7_say (z + 1 + 2)) rfl rfl rfl rfl rfl rfl rfl ⟨rfl, rfl, rfl⟩ ⟨by show 0 + 1 ≤ z + 1 + 2; omega, by show 8 + (2 + 11) + 64 * (0) ≤ 64 * (z + 1 + 2); omega⟩ ⟨Nat.zero_le _, Nat.zero_le _⟩ (mSays f (upd o 20 _) A J _ _ (by omega) _) ?_
    rintro _ _ ⟨rfl, rfl⟩
    rw [show c8 26 :: (wdF A b z (nI a) i ++ [c8 27]) = (c8 26 :: wdF A b z (nI a) i) ++ [c8 27] from rfl, appA_app] at kk
    simp only [List.length_cons, List.length_append, List.length_nil] at kk
    rw [show q + ((wdF A b z (nI a) i).length + 1 + (0 + 1)) = q + 1 + (wdF A b z (nI a) i).length + 1 by omega, show q + ((wdF A b z (nI a) i).length + 1) = q + 1 + (wdF A b z (nI a) i).length by omega] at kk
    exact kk
set_option maxHeartbeats 1000000 in
set_option maxRecDepth 20000 in
theorem sayF9 (f : Nat → zC) (o : Nat → Int32) (A : Nat → Nat → Int32) (J : Nat → Nat → Int64) {lo hi : Nat} (hh : hi ≤ 450) {N : Nat} {b : Nat → Bool} {n z : Nat} (hn : n < 450) {c : Int32} (ih : ∀ (x : Nat), lo ≤ x → x < hi → szN A x ≤ z → ∀ (q i : Nat) (g : Nat → Int32), i + kbW A z (nI x) ≤ N → q + (wdF A b z (nI x) i).length ≤ 256 → zK (z + 2) zX7_say [.ref 76, .int (nI 0), .int (nI x)] (wZ f o A J q (nI i) g) (fun r w' => r = none ∧ w' = wZ f o A J (q + (wdF A b z (nI x) i).length) (nI (i + kbW A z (nI x))) (appA g q (wdF A b z (nI x) i)))) {n0 : Nat} {Q : Option Value → zW → Prop} {q i : Nat} {g : Nat → Int32} (hi9 : i + kbW A z (A 2 n) + kbW A z (A 3 n) ≤ N) (hq : q + (coF A (wdF A b z (A 2 n) i) (wdF A b z (A 3 n) (i + kbW A z (A 2 n))) n).length ≤ 256) (kk : zV (zMo (z + 1 + 2) zX7_say) false n0 0 0 270 [(3, .int c), (0, .ref 76), (1, .int (nI 0)), (2, .int (nI n))] [] (wZ f o A J (q + (coF A (wdF A b z (A 2 n) i) (wdF A b z (A 3 n) (i + kbW A z (A 2 n))) n).length) (nI (i + kbW A z (A 2 n) + kbW A z (A 3 n))) (appA g q (coF A (wdF A b z (A 2 n) i) (wdF A b z (A 3 n) (i + kbW A z (A 2 n))) n))) Q) {a : Nat} (h0 : A 0 n = nI 9) (h2 : A 2 n = nI a) (h3 : A 3 n = m2) (la : lo ≤ a) (ha : a < n) (hnh : n < hi) (hsz : szN A n ≤ z + 1) (es : szN A n = 1 + szN A a) : zV (zMo (z + 1 + 2) zX7_say) false n0 0 0 17 [(3, .int c), (0, .ref 76), (1, .int (nI 0)), (2, .int (nI n))] [] (wZ f o A J q (nI i) g) Q := by
  have e1 : (nI n).toNatClampNeg = n := nI_clamp (by omega)
  have hv : vp_in (nI n) 450 := vp_in_nI (by omega) (by decide)
  rw [coF_9 h0, h2, h3, kbW_m2, Nat.add_zero] at kk
  rw [coF_9 h0, h2] at hq
  rw [h2, h3, kbW_m2, Nat.add_zero] at hi9
  simp only [List.length_append, List.length_cons, List.length_nil] at hq
  iterate 3 (refine zv_step (bX7_say (z + 1 + 2)) rfl rfl trivial ?_)
  refine zv_iale (bX7_say (z + 1 + 2)) rfl rfl hv (show A 0 (nI n).toNatClampNeg = nI 9 by rw [e1]; exact h0) ?_
  refine zv_S1 (bX7_say (z + 1 + 2)) rfl rfl rfl rfl ⟨rfl, rfl, rfl⟩ ⟨by show 0 + 1 ≤ z + 1 + 2; omega, by show 8 + (1 + 11) + 64 * (0) ≤ 64 * (z + 1 + 2); omega⟩ ⟨Nat.zero_le _, Nat.zero_le _⟩ (hX7_isTwo _ _) ?_
  rintro _ _ ⟨rfl, ⟨g1, rfl⟩ | ⟨g1, rfl⟩⟩
  · skip
    iterate 1 (refine zv_step (bX7_say (z + 1 + 2)) rfl rfl trivial ?_)
    refine zv_iff (by decide) ?_
    exact absurd g1 (by decide)
  · skip
    iterate 1 (refine zv_step (bX7_say (z + 1 + 2)) rfl rfl trivial ?_)
    refine zv_ift (by decide) ?_
    iterate 3 (refine zv_step (bX7_say (z + 1 + 2)) rfl rfl trivial ?_)
    refine zv_iale (bX7_say (z + 1 + 2)) rfl rfl hv (show A 0 (nI n).toNatClampNeg = nI 9 by rw [e1]; exact h0) ?_
    iterate 2 (refine zv_step (bX7_say (z + 1 + 2)) rfl rfl trivial ?_)
    refine zv_ift (by decide) ?_
    iterate 3 (refine zv_step (bX7_say (z + 1 + 2)) rfl rfl trivial ?_)
    refine zv_iale (bX7_say (z + 1 + 2)) rfl rfl hv (show A 0 (nI n).toNatClampNeg = nI 9 by rw [e1]; exact h0) ?_
    iterate 1 (refine zv_step (bX7_say (z + 1 + 2)) rfl rfl trivial ?_)
    refine zv_ift (by decide) ?_
    iterate 4 (refine zv_step (bX7_say (z + 1 + 2)) rfl rfl trivial ?_)
    refine zv_iale (bX7_say (z + 1 + 2)) rfl rfl hv (show A 0 (nI n).toNatClampNeg = nI 9 by rw [e1]; exact h0) ?_
    iterate 2 (refine zv_step (bX7_say (z + 1 + 2)) rfl rfl trivial ?_)
    refine zv_ift (by decide) ?_
    iterate 3 (refine zv_step (bX7_say (z + 1 + 2)) rfl rfl trivial ?_)
    refine zv_iale (bX7_say (z + 1 + 2)) rfl rfl hv (show A 0 (nI n).toNatClampNeg = nI 9 by rw [e1]; exact h0) ?_
    iterate 2 (refine zv_step (bX7_say (z + 1 + 2)) rfl rfl trivial ?_)
    refine zv_ift (by decide) ?_
    iterate 3 (refine zv_step (bX7_say (z + 1 + 2)) rfl rfl trivial ?_)
    refine zv_iale (bX7_say (z + 1 + 2)) rfl rfl hv (show A 1 (nI n).toNatClampNeg = A 1 n by rw [e1]) ?_
    refine zv_V1 (bX7_say (z + 1 + 2)) rfl rfl rfl rfl rfl rfl rfl ⟨rfl, rfl, rfl⟩ ⟨by show 0 + 1 ≤ z + 1 + 2; omega, by show 8 + (2 + 11) + 64 * (0) ≤ 64 * (z + 1 + 2); omega⟩ ⟨Nat.zero_le _, Nat.zero_le _⟩ (mSays f (upd o 20 _) A J _ _ (by omega) _) ?_
    rintro _ _ ⟨rfl, rfl⟩
    iterate 3 (refine zv_step (bX7_say (z + 1 + 2)) rfl rfl trivial ?_)
    refine zv_iale (bX7_say (z + 1 + 2)) rfl rfl hv (show A 0 (nI n).toNatClampNeg = nI 9 by rw [e1]; exact h0) ?_
    iterate 2 (refine zv_step (bX7_say (z + 1 + 2)) rfl rfl trivial ?_)
    refine zv_iff (by decide) ?_
    iterate 2 (refine zv_step (bX7_say (z + 1 + 2)) rfl rfl trivial ?_)
    refine zv_V1 (bX7_say (z + 1 + 2)) rfl rfl rfl rfl rfl rfl rfl ⟨rfl, rfl, rfl⟩ ⟨by show 0 + 1 ≤ z + 1 + 2; omega, by show 8 + (2 + 11) + 64 * (0) ≤ 64 * (z + 1 + 2); omega⟩ ⟨Nat.zero_le _, Nat.zero_le _⟩ (mSays f (upd o 20 _) A J _ _ (by omega) _) ?_
    rintro _ _ ⟨rfl, rfl⟩
    iterate 5 (refine zv_step (bX7_say (z + 1 + 2)) rfl rfl trivial ?_)
    refine zv_iale (bX7_say (z + 1 + 2)) rfl rfl hv (show A 2 (nI n).toNatClampNeg = nI a by rw [e1]; exact h2) ?_
    refine zv_V2 (bX7_say (z + 1 + 2)) rfl rfl rfl rfl rfl rfl rfl ⟨rfl, rfl, rfl⟩ ⟨by show z + 2 + 1 ≤ z + 1 + 2; omega, by show 8 + (6 + 11) + 64 * (z + 2) ≤ 64 * (z + 1 + 2); omega⟩ ⟨Nat.zero_le _, Nat.zero_le _⟩ (ih a (by omega) (by omega) (by omega) _ (i) _ (by omega) (by omega)) ?_
    rintro _ _ ⟨rfl, rfl⟩
    iterate 3 (refine zv_step (bX7_say (z + 1 + 2)) rfl rfl trivial ?_)
    refine zv_iale (bX7_say (z + 1 + 2)) rfl rfl hv (show A 0 (nI n).toNatClampNeg = nI 9 by rw [e1]; exact h0) ?_
    iterate 2 (refine zv_step (bX7_say (z + 1 + 2)) rfl rfl trivial ?_)
    refine zv_ift (by decide) ?_
    simp only [List.length_cons] at kk
    rw [show q + ((wdF A b z (nI a) i).length + 1 + 1) = q + 1 + 1 + (wdF A b z (nI a) i).length by omega] at kk
    exact kk
set_option maxHeartbeats 1000000 in
set_option maxRecDepth 20000 in
theorem mSayF (f : Nat → zC) (o : Nat → Int32) (A : Nat → Nat → Int32) (J : Nat → Nat → Int64) {lo hi : Nat} (hh : hi ≤ 450) (hT : tbI lo hi A) {w N : Nat} (hw : w < 256) (hN : N ≤ 8) (hm19 : o 19 = nI w) (hm21 : o 21 = nI N) (hz0 : kp0 A) : ∀ (z n : Nat), lo ≤ n → n < hi → szN A n ≤ z → ∀ (q i : Nat) (g : Nat → Int32), i + kbW A z (nI n) ≤ N → q + (wdF A (btN w N) z (nI n) i).length ≤ 256 → zK (z + 2) zX7_say [.ref 76, .int (nI 0), .int (nI n)] (wZ f o A J q (nI i) g) (fun r w' => r = none ∧ w' = wZ f o A J (q + (wdF A (btN w N) z (nI n) i).length) (nI (i + kbW A z (nI n))) (appA g q (wdF A (btN w N) z (nI n) i))) := by
  intro z
  induction z with
  | zero =>
    intro n hlo hn hz
    have := (rN_sz (hT n hlo hn)).1
    omega
  | succ z ih =>
    intro n hlo hn hz q i g hi hq
    obtain ⟨kd, hkd, h0⟩ := rN_kd (hT n hlo hn)
    refine zK_of qX7_say (by decide +kernel) rfl ?_
    iterate 3 (refine zv_step (bX7_say (z + 1 + 2)) rfl rfl trivial ?_)
    refine zv_V2 (bX7_say (z + 1 + 2)) rfl rfl rfl rfl rfl rfl rfl ⟨rfl, rfl, rfl⟩ ⟨by show 1 + 1 ≤ z + 1 + 2; omega, by show 8 + (3 + 11) + 64 * (1) ≤ 64 * (z + 1 + 2); omega⟩ ⟨Nat.zero_le _, Nat.zero_le _⟩ (mKeepsItM f o A J hw hN hm19 hm21 hz0 (by omega) hkd h0 (i := i) (fun q => by rw [kbW_nI (by omega) hkd h0, if_pos q] at hi; omega) q g) ?_
    rintro _ _ ⟨rfl, rfl⟩
    rcases (show kpB (btN w N) kd i = 0 ∨ kpB (btN w N) kd i = 1 by unfold kpB; split; exact Or.inr rfl; exact Or.inl rfl) with hc9 | hc9
    · rw [hc9]
      iterate 3 (refine zv_step (bX7_say (z + 1 + 2)) rfl rfl trivial ?_)
      refine zv_ift (rfl) ?_
      have eW9 : wdF A (btN w N) (z + 1) (nI n) i = (coF A (wdF A (btN w N) z (A 2 n) (i1W kd i)) (wdF A (btN w N) z (A 3 n) (i1W kd i + kbW A z (A 2 n))) n) := by
        rw [wdF_nI (by omega) hkd h0, hc9]
        exact if_pos rfl
      have eK9 : i + kbW A (z + 1) (nI n) = i1W kd i + kbW A z (A 2 n) + kbW A z (A 3 n) := by
        rw [kbW_nI (by omega) hkd h0]
        unfold i1W
        omega
      have hi8 : i1W kd i + kbW A z (A 2 n) + kbW A z (A 3 n) ≤ N := by omega
      rw [eW9] at hq
      have K : ∀ (n1 : Nat), zV (zMo (z + 1 + 2) zX7_say) false n1 0 0 270 [(3, .int 0), (0, .ref 76), (1, .int (nI 0)), (2, .int (nI n))] [] (wZ f o A J (q + (coF A (wdF A (btN w N) z (A 2 n) (i1W kd i)) (wdF A (btN w N) z (A 3 n) (i1W kd i + kbW A z (A 2 n))) n).length) (nI (i1W kd i + kbW A z (A 2 n) + kbW A z (A 3 n))) (appA g q (coF A (wdF A (btN w N) z (A 2 n) (i1W kd i)) (wdF A (btN w N) z (A 3 n) (i1W kd i + kbW A z (A 2 n))) n))) (fun r w' => r = none ∧ w' = wZ f o A J (q + (wdF A (btN w N) (z + 1) (nI n) i).length) (nI (i + kbW A (z + 1) (nI n))) (appA g q (wdF A (btN w N) (z + 1) (nI n) i))) := by
        intro n1
        iterate 2 (refine zv_step (bX7_say (z + 1 + 2)) rfl rfl trivial ?_)
        refine zv_ift (rfl) ?_
        exact zv_ret (bX7_say (z + 1 + 2)) rfl rfl (Nat.zero_le _) (Nat.zero_le _) ⟨rfl, by rw [eW9, eK9]⟩
      obtain ⟨k9, y9, h0', hk9, h4, hy, hs9, _⟩ := hT n hlo hn
      have es := szN_of h4 hy
      have kd9 : k9 = kd := (nI_eq (by omega) (by omega)).mp (h0'.symm.trans h0)
      subst kd9
      rcases hs9 with ⟨k1, h2, h3, e⟩ | ⟨k1, k2, a, b', h2, la, ha, h3, lb, hb, e⟩ | ⟨k1, a, h2, la, ha, h3, e⟩
      · rcases (show k9 = 0 ∨ k9 = 1 by omega) with rfl | rfl
        · exact sayF0 f o A J hh (by omega) ih hi8 (by omega) (K _) h0 h2 h3
        · exact sayF1 f o A J hh (by omega) ih hi8 (by omega) (K _) h0 h2 h3
      · exact sayF2 f o A J hh (by omega) ih hi8 (by omega) (K _) k1 k2 h0 h2 la ha h3 lb hb hn hz (by omega)
      · rcases (show k9 = 7 ∨ k9 = 8 ∨ k9 = 9 by omega) with rfl | rfl | rfl
        · exact sayF7 f o A J hh (by omega) ih hi8 (by omega) (K _) h0 h2 h3 la ha hn hz (by omega)
        · exact sayF8 f o A J hh (by omega) ih hi8 (by omega) (K _) h0 h2 h3 la ha hn hz (by omega)
        · exact sayF9 f o A J hh (by omega) ih hi8 (by omega) (K _) h0 h2 h3 la ha hn hz (by omega)
    · rw [hc9]
      iterate 3 (refine zv_step (bX7_say (z + 1 + 2)) rfl rfl trivial ?_)
      refine zv_iff (by decide) ?_
      iterate 2 (refine zv_step (bX7_say (z + 1 + 2)) rfl rfl trivial ?_)
      refine zv_V1 (bX7_say (z + 1 + 2)) rfl rfl rfl rfl rfl rfl rfl ⟨rfl, rfl, rfl⟩ ⟨by show 0 + 1 ≤ z + 1 + 2; omega, by show 8 + (2 + 11) + 64 * (0) ≤ 64 * (z + 1 + 2); omega⟩ ⟨Nat.zero_le _, Nat.zero_le _⟩ (mSays f (upd o 20 _) A J _ _ (by have := hq; rw [wdF_nI (by omega) hkd h0, hc9] at this; unfold brL at this; rw [if_neg (by decide)] at this; simp only [List.length_append, List.length_cons, List.length_nil] at this; omega) _) ?_
      rintro _ _ ⟨rfl, rfl⟩
      have eW9 : wdF A (btN w N) (z + 1) (nI n) i = c8 29 :: ((coF A (wdF A (btN w N) z (A 2 n) (i1W kd i)) (wdF A (btN w N) z (A 3 n) (i1W kd i + kbW A z (A 2 n))) n) ++ [c8 30]) := by
        rw [wdF_nI (by omega) hkd h0, hc9]
        exact if_neg (by decide)
      have eK9 : i + kbW A (z + 1) (nI n) = i1W kd i + kbW A z (A 2 n) + kbW A z (A 3 n) := by
        rw [kbW_nI (by omega) hkd h0]
        unfold i1W
        omega
      have hi8 : i1W kd i + kbW A z (A 2 n) + kbW A z (A 3 n) ≤ N := by omega
      rw [eW9] at hq
      simp only [List.length_append, List.length_cons, List.length_nil] at hq
      have K : ∀ (n1 : Nat), zV (zMo (z + 1 + 2) zX7_say) false n1 0 0 270 [(3, .int 1), (0, .ref 76), (1, .int (nI 0)), (2, .int (nI n))] [] (wZ f o A J ((q + 1) + (coF A (wdF A (btN w N) z (A 2 n) (i1W kd i)) (wdF A (btN w N) z (A 3 n) (i1W kd i + kbW A z (A 2 n))) n).length) (nI (i1W kd i + kbW A z (A 2 n) + kbW A z (A 3 n))) (appA (upd g q (c8 29)) (q + 1) (coF A (wdF A (btN w N) z (A 2 n) (i1W kd i)) (wdF A (btN w N) z (A 3 n) (i1W kd i + kbW A z (A 2 n))) n))) (fun r w' => r = none ∧ w' = wZ f o A J (q + (wdF A (btN w N) (z + 1) (nI n) i).length) (nI (i + kbW A (z + 1) (nI n))) (appA g q (wdF A (btN w N) (z + 1) (nI n) i))) := by
        intro n1
        iterate 2 (refine zv_step (bX7_say (z + 1 + 2)) rfl rfl trivial ?_)
        refine zv_iff (by decide) ?_
        iterate 2 (refine zv_step (bX7_say (z + 1 + 2)) rfl rfl trivial ?_)
        refine zv_V1 (bX7_say (z + 1 + 2)) rfl rfl rfl rfl rfl rfl rfl ⟨rfl, rfl, rfl⟩ ⟨by show 0 + 1 ≤ z + 1 + 2; omega, by show 8 + (2 + 11) + 64 * (0) ≤ 64 * (z + 1 + 2); omega⟩ ⟨Nat.zero_le _, Nat.zero_le _⟩ (mSays f (upd o 20 _) A J _ _ (by omega) _) ?_
        rintro _ _ ⟨rfl, rfl⟩
        exact zv_ret (bX7_say (z + 1 + 2)) rfl rfl (Nat.zero_le _) (Nat.zero_le _) ⟨rfl, by rw [eW9, eK9, show c8 29 :: ((coF A (wdF A (btN w N) z (A 2 n) (i1W kd i)) (wdF A (btN w N) z (A 3 n) (i1W kd i + kbW A z (A 2 n))) n) ++ [c8 30]) = (c8 29 :: (coF A (wdF A (btN w N) z (A 2 n) (i1W kd i)) (wdF A (btN w N) z (A 3 n) (i1W kd i + kbW A z (A 2 n))) n)) ++ [c8 30] from rfl, appA_app]; simp only [List.length_cons, List.length_append, List.length_nil]; rw [show q + ((coF A (wdF A (btN w N) z (A 2 n) (i1W kd i)) (wdF A (btN w N) z (A 3 n) (i1W kd i + kbW A z (A 2 n))) n).length + 1 + (0 + 1)) = q + 1 + (coF A (wdF A (btN w N) z (A 2 n) (i1W kd i)) (wdF A (btN w N) z (A 3 n) (i1W kd i + kbW A z (A 2 n))) n).length + 1 by omega, show q + ((coF A (wdF A (btN w N) z (A 2 n) (i1W kd i)) (wdF A (btN w N) z (A 3 n) (i1W kd i + kbW A z (A 2 n))) n).length + 1) = q + 1 + (coF A (wdF A (btN w N) z (A 2 n) (i1W kd i)) (wdF A (btN w N) z (A 3 n) (i1W kd i + kbW A z (A 2 n))) n).length by omega]; rfl⟩
      obtain ⟨k9, y9, h0', hk9, h4, hy, hs9, _⟩ := hT n hlo hn
      have es := szN_of h4 hy
      have kd9 : k9 = kd := (nI_eq (by omega) (by omega)).mp (h0'.symm.trans h0)
      subst kd9
      rcases hs9 with ⟨k1, h2, h3, e⟩ | ⟨k1, k2, a, b', h2, la, ha, h3, lb, hb, e⟩ | ⟨k1, a, h2, la, ha, h3, e⟩
      · rcases (show k9 = 0 ∨ k9 = 1 by omega) with rfl | rfl
        · exact sayF0 f o A J hh (by omega) ih hi8 (by omega) (K _) h0 h2 h3
        · exact sayF1 f o A J hh (by omega) ih hi8 (by omega) (K _) h0 h2 h3
      · exact sayF2 f o A J hh (by omega) ih hi8 (by omega) (K _) k1 k2 h0 h2 la ha h3 lb hb hn hz (by omega)
      · rcases (show k9 = 7 ∨ k9 = 8 ∨ k9 = 9 by omega) with rfl | rfl | rfl
        · exact sayF7 f o A J hh (by omega) ih hi8 (by omega) (K _) h0 h2 h3 la ha hn hz (by omega)
        · exact sayF8 f o A J hh (by omega) ih hi8 (by omega) (K _) h0 h2 h3 la ha hn hz (by omega)
        · exact sayF9 f o A J hh (by omega) ih hi8 (by omega) (K _) h0 h2 h3 la ha hn hz (by omega)
end
section
theorem rtW_m2 (A : Nat → Nat → Int32) (z : Nat) : rtW A z m2 := by
  cases z with
  | zero => trivial
  | succ z => exact fun h => absurd (show m2 < 0 by decide) h
theorem rtW_i {A : Nat → Nat → Int32} {z n : Nat} (hn : n < 450) : rtW A (z + 1) (nI n) ↔ (rtO A n ∧ rtW A z (A 2 n) ∧ rtW A z (A 3 n)) := ⟨rtW_n hn, fun h _ => by rw [nI_clamp (by omega)]; exact h⟩
set_option maxHeartbeats 1000000 in
set_option maxRecDepth 20000 in
theorem mRightX (f : Nat → zC) (o : Nat → Int32) (A : Nat → Nat → Int32) (J : Nat → Nat → Int64) {lo hi : Nat} (hh : hi ≤ 450) (hT : tbI lo hi A) : ∀ (z : Nat) (x : Int32), pt lo hi A z x → zK (z + 1) zX7_isRight [.ref 76, .int x] (wR f o A J) (fun r w' => w' = (wR f o A J) ∧ ((rtW A z x ∧ r = some (.int 1)) ∨ (¬ rtW A z x ∧ r = some (.int 0)))) := by
  intro z
  induction z with
  | zero =>
    intro x hx
    obtain rfl := pt_zero hT hx
    refine zK_of qX7_isRight (by decide +kernel) rfl ?_
    iterate 2 (refine zv_step (bX7_isRight (0 + 1)) rfl rfl trivial ?_)
    refine zv_iff (by decide) ?_
    iterate 1 (refine zv_step (bX7_isRight (0 + 1)) rfl rfl trivial ?_)
    exact zv_iret (bX7_isRight (0 + 1)) rfl (Or.inr ⟨rfl, Or.inr rfl⟩) (Nat.zero_le _) (Nat.zero_le _) ⟨rfl, Or.inl ⟨rtW_m2 A _, rfl⟩⟩
  | succ z ih =>
    intro x hx
    rcases hx with rfl | ⟨n, rfl, hlo, hn, hz⟩
    · refine zK_of qX7_isRight (by decide +kernel) rfl ?_
      iterate 2 (refine zv_step (bX7_isRight ((z + 1) + 1)) rfl rfl trivial ?_)
      refine zv_iff (by decide) ?_
      iterate 1 (refine zv_step (bX7_isRight ((z + 1) + 1)) rfl rfl trivial ?_)
      exact zv_iret (bX7_isRight ((z + 1) + 1)) rfl (Or.inr ⟨rfl, Or.inr rfl⟩) (Nat.zero_le _) (Nat.zero_le _) ⟨rfl, Or.inl ⟨rtW_m2 A _, rfl⟩⟩
    · have hN := hT n hlo hn
      have e1 : (nI n).toNatClampNeg = n := nI_clamp (by omega)
      have hv : vp_in (nI n) 450 := vp_in_nI (by omega) (by decide)
      obtain ⟨hp2, hp3⟩ := rN_parts hT hlo hn hz
      refine zK_of qX7_isRight (by decide +kernel) rfl ?_
      iterate 2 (refine zv_step (bX7_isRight ((z + 1) + 1)) rfl rfl trivial ?_)
      refine zv_ift (nI_pos' (by omega)) ?_
      iterate 3 (refine zv_step (bX7_isRight ((z + 1) + 1)) rfl rfl trivial ?_)
      refine zv_iale (bX7_isRight ((z + 1) + 1)) rfl rfl hv (show A 0 (nI n).toNatClampNeg = A 0 n by rw [e1]) ?_
      iterate 1 (refine zv_step (bX7_isRight ((z + 1) + 1)) rfl rfl trivial ?_)
      refine zv_ifb (fun h12 => ?_) (fun h12 => ?_)
      · iterate 3 (refine zv_step (bX7_isRight ((z + 1) + 1)) rfl rfl trivial ?_)
        refine zv_iale (bX7_isRight ((z + 1) + 1)) rfl rfl hv (show A 0 (nI n).toNatClampNeg = A 0 n by rw [e1]) ?_
        iterate 2 (refine zv_step (bX7_isRight ((z + 1) + 1)) rfl rfl trivial ?_)
        refine zv_ifb (fun h45 => ?_) (fun h45 => ?_)
        · iterate 5 (refine zv_step (bX7_isRight ((z + 1) + 1)) rfl rfl trivial ?_)
          refine zv_iff (by decide) ?_
          iterate 4 (refine zv_step (bX7_isRight ((z + 1) + 1)) rfl rfl trivial ?_)
          refine zv_iale (bX7_isRight ((z + 1) + 1)) rfl rfl hv (show A 2 (nI n).toNatClampNeg = A 2 n by rw [e1]) ?_
          refine zv_V1 (bX7_isRight ((z + 1) + 1)) rfl rfl rfl rfl rfl rfl rfl ⟨rfl, rfl, rfl⟩ ⟨by show z + 1 + 1 ≤ z + 1 + 1; omega, by show 8 + (3 + 11) + 64 * (z + 1) ≤ 64 * (z + 1 + 1); omega⟩ ⟨Nat.zero_le _, Nat.zero_le _⟩ (ih _ hp2) ?_
          rintro _ _ ⟨rfl, ⟨g2, rfl⟩ | ⟨g2, rfl⟩⟩
          · skip
            iterate 1 (refine zv_step (bX7_isRight ((z + 1) + 1)) rfl rfl trivial ?_)
            refine zv_iff (by decide) ?_
            iterate 4 (refine zv_step (bX7_isRight ((z + 1) + 1)) rfl rfl trivial ?_)
            refine zv_iale (bX7_isRight ((z + 1) + 1)) rfl rfl hv (show A 3 (nI n).toNatClampNeg = A 3 n by rw [e1]) ?_
            refine zv_V1 (bX7_isRight ((z + 1) + 1)) rfl rfl rfl rfl rfl rfl rfl ⟨rfl, rfl, rfl⟩ ⟨by show z + 1 + 1 ≤ z + 1 + 1; omega, by show 8 + (3 + 11) + 64 * (z + 1) ≤ 64 * (z + 1 + 1); omega⟩ ⟨Nat.zero_le _, Nat.zero_le _⟩ (ih _ hp3) ?_
            rintro _ _ ⟨rfl, ⟨g3, rfl⟩ | ⟨g3, rfl⟩⟩
            · skip
              iterate 1 (refine zv_step (bX7_isRight ((z + 1) + 1)) rfl rfl trivial ?_)
              refine zv_iff (by decide) ?_
              iterate 2 (refine zv_step (bX7_isRight ((z + 1) + 1)) rfl rfl trivial ?_)
              have hown : rtO A n := ⟨fun e => absurd e h12, fun e => absurd e h45⟩
              exact zv_iret (bX7_isRight (z + 1 + 1)) rfl (Or.inr ⟨rfl, Or.inr rfl⟩) (Nat.zero_le _) (Nat.zero_le _) ⟨rfl, Or.inl ⟨(rtW_i (by omega)).mpr ⟨hown, g2, g3⟩, rfl⟩⟩
            · skip
              iterate 1 (refine zv_step (bX7_isRight ((z + 1) + 1)) rfl rfl trivial ?_)
              refine zv_ift (by decide) ?_
              iterate 1 (refine zv_step (bX7_isRight ((z + 1) + 1)) rfl rfl trivial ?_)
              exact zv_iret (bX7_isRight (z + 1 + 1)) rfl (Or.inr ⟨rfl, Or.inl rfl⟩) (Nat.zero_le _) (Nat.zero_le _) ⟨rfl, Or.inr ⟨fun w => by
                have q := (rtW_i (by omega)).mp w
                exact g3 q.2.2, rfl⟩⟩
          · skip
            iterate 1 (refine zv_step (bX7_isRight ((z + 1) + 1)) rfl rfl trivial ?_)
            refine zv_ift (by decide) ?_
            iterate 1 (refine zv_step (bX7_isRight ((z + 1) + 1)) rfl rfl trivial ?_)
            exact zv_iret (bX7_isRight (z + 1 + 1)) rfl (Or.inr ⟨rfl, Or.inl rfl⟩) (Nat.zero_le _) (Nat.zero_le _) ⟨rfl, Or.inr ⟨fun w => by
              have q := (rtW_i (by omega)).mp w
              exact g2 q.2.1, rfl⟩⟩
        · iterate 5 (refine zv_step (bX7_isRight ((z + 1) + 1)) rfl rfl trivial ?_)
          refine zv_iale (bX7_isRight ((z + 1) + 1)) rfl rfl hv (show A 1 (nI n).toNatClampNeg = A 1 n by rw [e1]) ?_
          obtain ⟨v, hv9, ev⟩ := rN_let hN (Or.inr (Decidable.not_not.mp h45))
          refine zv_step (bX7_isRight ((z + 1) + 1)) rfl rfl (show vp_in (A 1 n) 10 by rw [ev]; exact vp_in_nI (by omega) (by decide)) ?_
          iterate 1 (refine zv_step (bX7_isRight ((z + 1) + 1)) rfl rfl trivial ?_)
          refine zv_ifb (fun h59 => ?_) (fun h59 => ?_)
          · iterate 4 (refine zv_step (bX7_isRight ((z + 1) + 1)) rfl rfl trivial ?_)
            refine zv_ift (by decide) ?_
            iterate 1 (refine zv_step (bX7_isRight ((z + 1) + 1)) rfl rfl trivial ?_)
            exact zv_iret (bX7_isRight (z + 1 + 1)) rfl (Or.inr ⟨rfl, Or.inl rfl⟩) (Nat.zero_le _) (Nat.zero_le _) ⟨rfl, Or.inr ⟨fun w => by
              have q := (rtW_i (by omega)).mp w
              exact q.1.2 (Decidable.not_not.mp h45) h59, rfl⟩⟩
          · iterate 5 (refine zv_step (bX7_isRight ((z + 1) + 1)) rfl rfl trivial ?_)
            refine zv_iff (by decide) ?_
            iterate 4 (refine zv_step (bX7_isRight ((z + 1) + 1)) rfl rfl trivial ?_)
            refine zv_iale (bX7_isRight ((z + 1) + 1)) rfl rfl hv (show A 2 (nI n).toNatClampNeg = A 2 n by rw [e1]) ?_
            refine zv_V1 (bX7_isRight ((z + 1) + 1)) rfl rfl rfl rfl rfl rfl rfl ⟨rfl, rfl, rfl⟩ ⟨by show z + 1 + 1 ≤ z + 1 + 1; omega, by show 8 + (3 + 11) + 64 * (z + 1) ≤ 64 * (z + 1 + 1); omega⟩ ⟨Nat.zero_le _, Nat.zero_le _⟩ (ih _ hp2) ?_
            rintro _ _ ⟨rfl, ⟨g2, rfl⟩ | ⟨g2, rfl⟩⟩
            · skip
              iterate 1 (refine zv_step (bX7_isRight ((z + 1) + 1)) rfl rfl trivial ?_)
              refine zv_iff (by decide) ?_
              iterate 4 (refine zv_step (bX7_isRight ((z + 1) + 1)) rfl rfl trivial ?_)
              refine zv_iale (bX7_isRight ((z + 1) + 1)) rfl rfl hv (show A 3 (nI n).toNatClampNeg = A 3 n by rw [e1]) ?_
              refine zv_V1 (bX7_isRight ((z + 1) + 1)) rfl rfl rfl rfl rfl rfl rfl ⟨rfl, rfl, rfl⟩ ⟨by show z + 1 + 1 ≤ z + 1 + 1; omega, by show 8 + (3 + 11) + 64 * (z + 1) ≤ 64 * (z + 1 + 1); omega⟩ ⟨Nat.zero_le _, Nat.zero_le _⟩ (ih _ hp3) ?_
              rintro _ _ ⟨rfl, ⟨g3, rfl⟩ | ⟨g3, rfl⟩⟩
              · skip
                iterate 1 (refine zv_step (bX7_isRight ((z + 1) + 1)) rfl rfl trivial ?_)
                refine zv_iff (by decide) ?_
                iterate 2 (refine zv_step (bX7_isRight ((z + 1) + 1)) rfl rfl trivial ?_)
                have hown : rtO A n := ⟨fun e => absurd e h12, fun _ => h59⟩
                exact zv_iret (bX7_isRight (z + 1 + 1)) rfl (Or.inr ⟨rfl, Or.inr rfl⟩) (Nat.zero_le _) (Nat.zero_le _) ⟨rfl, Or.inl ⟨(rtW_i (by omega)).mpr ⟨hown, g2, g3⟩, rfl⟩⟩
              · skip
                iterate 1 (refine zv_step (bX7_isRight ((z + 1) + 1)) rfl rfl trivial ?_)
                refine zv_ift (by decide) ?_
                iterate 1 (refine zv_step (bX7_isRight ((z + 1) + 1)) rfl rfl trivial ?_)
                exact zv_iret (bX7_isRight (z + 1 + 1)) rfl (Or.inr ⟨rfl, Or.inl rfl⟩) (Nat.zero_le _) (Nat.zero_le _) ⟨rfl, Or.inr ⟨fun w => by
                  have q := (rtW_i (by omega)).mp w
                  exact g3 q.2.2, rfl⟩⟩
            · skip
              iterate 1 (refine zv_step (bX7_isRight ((z + 1) + 1)) rfl rfl trivial ?_)
              refine zv_ift (by decide) ?_
              iterate 1 (refine zv_step (bX7_isRight ((z + 1) + 1)) rfl rfl trivial ?_)
              exact zv_iret (bX7_isRight (z + 1 + 1)) rfl (Or.inr ⟨rfl, Or.inl rfl⟩) (Nat.zero_le _) (Nat.zero_le _) ⟨rfl, Or.inr ⟨fun w => by
                have q := (rtW_i (by omega)).mp w
                exact g2 q.2.1, rfl⟩⟩
      · iterate 5 (refine zv_step (bX7_isRight ((z + 1) + 1)) rfl rfl trivial ?_)
        refine zv_iale (bX7_isRight ((z + 1) + 1)) rfl rfl hv (show A 1 (nI n).toNatClampNeg = A 1 n by rw [e1]) ?_
        obtain ⟨v, hv9, ev⟩ := rN_let hN (Or.inl (Decidable.not_not.mp h12))
        refine zv_step (bX7_isRight ((z + 1) + 1)) rfl rfl (show vp_in (A 1 n) 10 by rw [ev]; exact vp_in_nI (by omega) (by decide)) ?_
        iterate 1 (refine zv_step (bX7_isRight ((z + 1) + 1)) rfl rfl trivial ?_)
        refine zv_ifb (fun h26 => ?_) (fun h26 => ?_)
        · iterate 5 (refine zv_step (bX7_isRight ((z + 1) + 1)) rfl rfl trivial ?_)
          refine zv_ift (by decide) ?_
          iterate 1 (refine zv_step (bX7_isRight ((z + 1) + 1)) rfl rfl trivial ?_)
          exact zv_iret (bX7_isRight (z + 1 + 1)) rfl (Or.inr ⟨rfl, Or.inl rfl⟩) (Nat.zero_le _) (Nat.zero_le _) ⟨rfl, Or.inr ⟨fun w => by
            have q := (rtW_i (by omega)).mp w
            exact h26 (q.1.1 (Decidable.not_not.mp h12)), rfl⟩⟩
        · iterate 5 (refine zv_step (bX7_isRight ((z + 1) + 1)) rfl rfl trivial ?_)
          refine zv_iff (by decide) ?_
          iterate 4 (refine zv_step (bX7_isRight ((z + 1) + 1)) rfl rfl trivial ?_)
          refine zv_iale (bX7_isRight ((z + 1) + 1)) rfl rfl hv (show A 2 (nI n).toNatClampNeg = A 2 n by rw [e1]) ?_
          refine zv_V1 (bX7_isRight ((z + 1) + 1)) rfl rfl rfl rfl rfl rfl rfl ⟨rfl, rfl, rfl⟩ ⟨by show z + 1 + 1 ≤ z + 1 + 1; omega, by show 8 + (3 + 11) + 64 * (z + 1) ≤ 64 * (z + 1 + 1); omega⟩ ⟨Nat.zero_le _, Nat.zero_le _⟩ (ih _ hp2) ?_
          rintro _ _ ⟨rfl, ⟨g2, rfl⟩ | ⟨g2, rfl⟩⟩
          · skip
            iterate 1 (refine zv_step (bX7_isRight ((z + 1) + 1)) rfl rfl trivial ?_)
            refine zv_iff (by decide) ?_
            iterate 4 (refine zv_step (bX7_isRight ((z + 1) + 1)) rfl rfl trivial ?_)
            refine zv_iale (bX7_isRight ((z + 1) + 1)) rfl rfl hv (show A 3 (nI n).toNatClampNeg = A 3 n by rw [e1]) ?_
            refine zv_V1 (bX7_isRight ((z + 1) + 1)) rfl rfl rfl rfl rfl rfl rfl ⟨rfl, rfl, rfl⟩ ⟨by show z + 1 + 1 ≤ z + 1 + 1; omega, by show 8 + (3 + 11) + 64 * (z + 1) ≤ 64 * (z + 1 + 1); omega⟩ ⟨Nat.zero_le _, Nat.zero_le _⟩ (ih _ hp3) ?_
            rintro _ _ ⟨rfl, ⟨g3, rfl⟩ | ⟨g3, rfl⟩⟩
            · skip
              iterate 1 (refine zv_step (bX7_isRight ((z + 1) + 1)) rfl rfl trivial ?_)
              refine zv_iff (by decide) ?_
              iterate 2 (refine zv_step (bX7_isRight ((z + 1) + 1)) rfl rfl trivial ?_)
              have hown : rtO A n := ⟨fun _ => Decidable.not_not.mp h26, fun e => absurd ((Decidable.not_not.mp h12).symm.trans e) (by decide)⟩
              exact zv_iret (bX7_isRight (z + 1 + 1)) rfl (Or.inr ⟨rfl, Or.inr rfl⟩) (Nat.zero_le _) (Nat.zero_le _) ⟨rfl, Or.inl ⟨(rtW_i (by omega)).mpr ⟨hown, g2, g3⟩, rfl⟩⟩
            · skip
              iterate 1 (refine zv_step (bX7_isRight ((z + 1) + 1)) rfl rfl trivial ?_)
              refine zv_ift (by decide) ?_
              iterate 1 (refine zv_step (bX7_isRight ((z + 1) + 1)) rfl rfl trivial ?_)
              exact zv_iret (bX7_isRight (z + 1 + 1)) rfl (Or.inr ⟨rfl, Or.inl rfl⟩) (Nat.zero_le _) (Nat.zero_le _) ⟨rfl, Or.inr ⟨fun w => by
                have q := (rtW_i (by omega)).mp w
                exact g3 q.2.2, rfl⟩⟩
          · skip
            iterate 1 (refine zv_step (bX7_isRight ((z + 1) + 1)) rfl rfl trivial ?_)
            refine zv_ift (by decide) ?_
            iterate 1 (refine zv_step (bX7_isRight ((z + 1) + 1)) rfl rfl trivial ?_)
            exact zv_iret (bX7_isRight (z + 1 + 1)) rfl (Or.inr ⟨rfl, Or.inl rfl⟩) (Nat.zero_le _) (Nat.zero_le _) ⟨rfl, Or.inr ⟨fun w => by
              have q := (rtW_i (by omega)).mp w
              exact g2 q.2.1, rfl⟩⟩
set_option maxHeartbeats 1000000 in
set_option maxRecDepth 20000 in
theorem mKeepableX (f : Nat → zC) (o : Nat → Int32) (A : Nat → Nat → Int32) (J : Nat → Nat → Int64) {lo hi : Nat} (hh : hi ≤ 450) (hT : tbI lo hi A) : ∀ (z : Nat) (x : Int32), pt lo hi A z x → zK (z + 1) zX7_keepable [.ref 76, .int x] (wR f o A J) (fun r w' => w' = (wR f o A J) ∧ r = some (.int (nI (kbW A z x)))) := by
  intro z
  induction z with
  | zero =>
    intro x hx
    obtain rfl := pt_zero hT hx
    refine zK_of qX7_keepable (by decide +kernel) rfl ?_
    iterate 2 (refine zv_step (bX7_keepable (0 + 1)) rfl rfl trivial ?_)
    refine zv_iff (by decide) ?_
    iterate 2 (refine zv_step (bX7_keepable (0 + 1)) rfl rfl trivial ?_)
    exact zv_iret (bX7_keepable (0 + 1)) rfl (Or.inl rfl) (Nat.zero_le _) (Nat.zero_le _) ⟨rfl, by rw [kbW_m2]; rfl⟩
  | succ z ih =>
    intro x hx
    rcases hx with rfl | ⟨n, rfl, hlo, hn, hz⟩
    · refine zK_of qX7_keepable (by decide +kernel) rfl ?_
      iterate 2 (refine zv_step (bX7_keepable ((z + 1) + 1)) rfl rfl trivial ?_)
      refine zv_iff (by decide) ?_
      iterate 2 (refine zv_step (bX7_keepable ((z + 1) + 1)) rfl rfl trivial ?_)
      exact zv_iret (bX7_keepable ((z + 1) + 1)) rfl (Or.inl rfl) (Nat.zero_le _) (Nat.zero_le _) ⟨rfl, by rw [kbW_m2]; rfl⟩
    · have hN := hT n hlo hn
      have e1 : (nI n).toNatClampNeg = n := nI_clamp (by omega)
      have hv : vp_in (nI n) 450 := vp_in_nI (by omega) (by decide)
      obtain ⟨hp2, hp3⟩ := rN_parts hT hlo hn hz
      refine zK_of qX7_keepable (by decide +kernel) rfl ?_
      iterate 2 (refine zv_step (bX7_keepable ((z + 1) + 1)) rfl rfl trivial ?_)
      refine zv_ift (nI_pos' (by omega)) ?_
      iterate 3 (refine zv_step (bX7_keepable ((z + 1) + 1)) rfl rfl trivial ?_)
      obtain ⟨kd, hkd, h0⟩ := rN_kd hN
      refine zv_iale (bX7_keepable ((z + 1) + 1)) rfl rfl hv (show A 0 (nI n).toNatClampNeg = nI kd by rw [e1]; exact h0) ?_
      refine zv_S1 (bX7_keepable ((z + 1) + 1)) rfl rfl rfl rfl ⟨rfl, rfl, rfl⟩ ⟨by show 0 + 1 ≤ z + 1 + 1; omega, by show 8 + (1 + 11) + 64 * (0) ≤ 64 * (z + 1 + 1); omega⟩ ⟨Nat.zero_le _, Nat.zero_le _⟩ (hX7_mayKeep _ _) ?_
      rintro _ _ ⟨rfl, ⟨g1, rfl⟩ | ⟨g1, rfl⟩⟩
      · rw [nI_toInt (by omega)] at g1
        have hmk : mayN kd = true := may_iff.mpr ⟨by omega, by omega, by omega⟩
        iterate 1 (refine zv_step (bX7_keepable ((z + 1) + 1)) rfl rfl trivial ?_)
        refine zv_iff (by decide) ?_
        iterate 6 (refine zv_step (bX7_keepable ((z + 1) + 1)) rfl rfl trivial ?_)
        refine zv_iale (bX7_keepable ((z + 1) + 1)) rfl rfl hv (show A 2 (nI n).toNatClampNeg = A 2 n by rw [e1]) ?_
        refine zv_V1 (bX7_keepable ((z + 1) + 1)) rfl rfl rfl rfl rfl rfl rfl ⟨rfl, rfl, rfl⟩ ⟨by show z + 1 + 1 ≤ z + 1 + 1; omega, by show 8 + (2 + 11) + 64 * (z + 1) ≤ 64 * (z + 1 + 1); omega⟩ ⟨Nat.zero_le _, Nat.zero_le _⟩ (ih _ hp2) ?_
        rintro _ _ ⟨rfl, rfl⟩
        iterate 5 (refine zv_step (bX7_keepable ((z + 1) + 1)) rfl rfl trivial ?_)
        refine zv_iale (bX7_keepable ((z + 1) + 1)) rfl rfl hv (show A 3 (nI n).toNatClampNeg = A 3 n by rw [e1]) ?_
        refine zv_V1 (bX7_keepable ((z + 1) + 1)) rfl rfl rfl rfl rfl rfl rfl ⟨rfl, rfl, rfl⟩ ⟨by show z + 1 + 1 ≤ z + 1 + 1; omega, by show 8 + (2 + 11) + 64 * (z + 1) ≤ 64 * (z + 1 + 1); omega⟩ ⟨Nat.zero_le _, Nat.zero_le _⟩ (ih _ hp3) ?_
        rintro _ _ ⟨rfl, rfl⟩
        iterate 1 (refine zv_step (bX7_keepable ((z + 1) + 1)) rfl rfl trivial ?_)
        have ek : kbW A (z + 1) (nI n) = 1 + kbW A z (A 2 n) + kbW A z (A 3 n) := by
          rw [kbW_nI (by omega) hkd h0, if_pos hmk]
        exact zv_iret (bX7_keepable (z + 1 + 1)) rfl (Or.inl rfl) (Nat.zero_le _) (Nat.zero_le _) ⟨rfl, by
          show some (Value.int (nI 1 + nI (kbW A z (A 2 n)) + nI (kbW A z (A 3 n)))) = _
          rw [nI_add, nI_add, ek]⟩
      · have hmk : ¬ mayN kd = true := fun q => g1 (by have := may_iff.mp q; rw [nI_toInt (by omega)]; omega)
        iterate 1 (refine zv_step (bX7_keepable ((z + 1) + 1)) rfl rfl trivial ?_)
        refine zv_ift (by decide) ?_
        iterate 5 (refine zv_step (bX7_keepable ((z + 1) + 1)) rfl rfl trivial ?_)
        refine zv_iale (bX7_keepable ((z + 1) + 1)) rfl rfl hv (show A 2 (nI n).toNatClampNeg = A 2 n by rw [e1]) ?_
        refine zv_V1 (bX7_keepable ((z + 1) + 1)) rfl rfl rfl rfl rfl rfl rfl ⟨rfl, rfl, rfl⟩ ⟨by show z + 1 + 1 ≤ z + 1 + 1; omega, by show 8 + (2 + 11) + 64 * (z + 1) ≤ 64 * (z + 1 + 1); omega⟩ ⟨Nat.zero_le _, Nat.zero_le _⟩ (ih _ hp2) ?_
        rintro _ _ ⟨rfl, rfl⟩
        iterate 5 (refine zv_step (bX7_keepable ((z + 1) + 1)) rfl rfl trivial ?_)
        refine zv_iale (bX7_keepable ((z + 1) + 1)) rfl rfl hv (show A 3 (nI n).toNatClampNeg = A 3 n by rw [e1]) ?_
        refine zv_V1 (bX7_keepable ((z + 1) + 1)) rfl rfl rfl rfl rfl rfl rfl ⟨rfl, rfl, rfl⟩ ⟨by show z + 1 + 1 ≤ z + 1 + 1; omega, by show 8 + (2 + 11) + 64 * (z + 1) ≤ 64 * (z + 1 + 1); omega⟩ ⟨Nat.zero_le _, Nat.zero_le _⟩ (ih _ hp3) ?_
        rintro _ _ ⟨rfl, rfl⟩
        iterate 1 (refine zv_step (bX7_keepable ((z + 1) + 1)) rfl rfl trivial ?_)
        have ek : kbW A (z + 1) (nI n) = 0 + kbW A z (A 2 n) + kbW A z (A 3 n) := by
          rw [kbW_nI (by omega) hkd h0, if_neg hmk]
        exact zv_iret (bX7_keepable (z + 1 + 1)) rfl (Or.inl rfl) (Nat.zero_le _) (Nat.zero_le _) ⟨rfl, by
          show some (Value.int (nI 0 + nI (kbW A z (A 2 n)) + nI (kbW A z (A 3 n)))) = _
          rw [nI_add, nI_add, ek]⟩
/-- a row of words stands in THE EAR from place p on -/
def mat (E : Nat → Nat) (p : Nat) (L : List Int32) : Prop := ∀ t v, L[t]? = some v → v = nI (E (p + t)) ∧ E (p + t) ≤ 31
theorem mat_cons {E : Nat → Nat} {p : Nat} {v : Int32} {L : List Int32} (h : mat E p (v :: L)) : (v = nI (E p) ∧ E p ≤ 31) ∧ mat E (p + 1) L := ⟨h 0 v rfl, fun t w e => by
  have := h (t + 1) w (by simpa using e)
  rwa [show p + (t + 1) = p + 1 + t by omega] at this⟩
theorem mat_app {E : Nat → Nat} : ∀ {X Y : List Int32} {p : Nat}, mat E p (X ++ Y) → mat E p X ∧ mat E (p + X.length) Y
  | [], Y, p, h => ⟨fun t v e => by simp at e, h⟩
  | x :: X, Y, p, h => by
    obtain ⟨h1, h2⟩ := mat_cons (show mat E p (x :: (X ++ Y)) from h)
    obtain ⟨h3, h4⟩ := mat_app h2
    refine ⟨fun t v e => ?_, by rw [List.length_cons, show p + (X.length + 1) = p + 1 + X.length by omega]; exact h4⟩
    cases t with
    | zero =>
      have : x = v := by simpa using e
      rw [← this]
      exact h1
    | succ t =>
      have := h3 t v (by simpa using e)
      rwa [show p + 1 + t = p + (t + 1) by omega] at this
theorem w_e {E : Nat → Nat} {p c : Nat} (h : nI c = nI (E p) ∧ E p ≤ 31) (hc : c ≤ 31) : E p = c := ((nI_eq (by omega) (by omega)).mp h.1).symm
/-- the digits of a NUMBER -/
theorem dgL_mat {E : Nat → Nat} {v : Nat} (hv : v ≤ 9999) : ∀ (d p : Nat), d ≤ 4 → mat E p (dgL (nI v) d) → ∀ t, t < d → E (p + t) = 10 + v / 10 ^ (d - 1 - t) % 10
  | 0, p, _, _, t, ht => absurd ht (Nat.not_lt_zero _)
  | d + 1, p, hd, h, t, ht => by
    obtain ⟨h1, h2⟩ := mat_cons (show mat E p (_ :: dgL (nI v) d) from h)
    have hp : 10 ^ d ≤ 10 ^ 3 := Nat.pow_le_pow_right (by decide) (by omega)
    have e : c8 10 + (nI v / nI (10 ^ d) - nI v / nI (10 ^ d) / c8 10 * c8 10) = nI (10 + v / 10 ^ d % 10) := by
      have h9 : v / 10 ^ d ≤ v := Nat.div_le_self _ _
      rw [nI_div (by omega) (by omega) (Nat.pow_pos (by decide)), nI_rem (by omega), show c8 10 = nI 10 from rfl, nI_add]
    cases t with
    | zero =>
      rw [e] at h1
      have := w_e h1 (by omega)
      rw [Nat.add_zero, this]
      rfl
    | succ t =>
      have := dgL_mat hv d (p + 1) (by omega) h2 t (by omega)
      rw [show p + (t + 1) = p + 1 + t by omega, this, show d + 1 - 1 - (t + 1) = d - 1 - t by omega]
theorem numAll_i {E : Nat → Nat} : ∀ (c k : Nat), (∀ t, t < c → 10 ≤ E (k + t) ∧ E (k + t) ≤ 19) → numAll E c k = true
  | 0, _, _ => rfl
  | c + 1, k, h => by
    show ((decide (10 ≤ E k) && decide (E k ≤ 19)) && numAll E c (k + 1)) = true
    have h0 := h 0 (by omega)
    rw [Nat.add_zero] at h0
    rw [decide_eq_true h0.1, decide_eq_true h0.2, numAll_i c (k + 1) (fun t ht => by have := h (t + 1) (by omega); rwa [show k + (t + 1) = k + 1 + t by omega] at this)]
    rfl
theorem dgN_b {v : Nat} (hv : v ≤ 9999) : 1 ≤ dgN (nI v) ∧ dgN (nI v) ≤ 4 ∧ v < 10 ^ dgN (nI v) ∧ (dgN (nI v) = 1 ∨ 10 ^ (dgN (nI v) - 1) ≤ v) := by
  have c10 : nI v < c8 10 ↔ v < 10 := nI_ltI (b := 10) (by omega) (by decide)
  have c100 : nI v < c8 100 ↔ v < 100 := nI_ltI (b := 100) (by omega) (by decide)
  have c1000 : nI v < (Int16.ofInt 1000).toInt32 ↔ v < 1000 := nI_ltI (b := 1000) (by omega) (by decide)
  unfold dgN
  simp only [c10, c100, c1000]
  by_cases h1 : v < 10
  · rw [if_pos h1]
    exact ⟨by decide, by decide, h1, Or.inl rfl⟩
  · rw [if_neg h1]
    by_cases h2 : v < 100
    · rw [if_pos h2]
      exact ⟨by decide, by decide, h2, Or.inr (by show 10 ≤ v; omega)⟩
    · rw [if_neg h2]
      by_cases h3 : v < 1000
      · rw [if_pos h3]
        exact ⟨by decide, by decide, h3, Or.inr (by show 100 ≤ v; omega)⟩
      · rw [if_neg h3]
        exact ⟨by decide, by decide, by show v < 10000; omega, Or.inr (by show 1000 ≤ v; omega)⟩
theorem num_B {E : Nat → Nat} {v p : Nat} (hv : v ≤ 9999) (h : mat E p (dgL (nI v) (dgN (nI v)))) : isNumB E p (p + dgN (nI v)) = true := by
  obtain ⟨d1, d4, dv, dl⟩ := dgN_b hv
  have hd := dgL_mat hv _ p d4 h
  unfold isNumB
  rw [show p + dgN (nI v) - p = dgN (nI v) by omega, decide_eq_true d4, numAll_i _ p (fun t ht => by rw [hd t ht]; omega)]
  rcases dl with e | e
  · rw [decide_eq_true e, Bool.or_true]
    rfl
  · have h0 := hd 0 (by omega)
    rw [Nat.add_zero, Nat.sub_zero] at h0
    have h5 : v / 10 ^ (dgN (nI v) - 1) < 10 := by
      rw [Nat.div_lt_iff_lt_mul (Nat.pow_pos (by decide)), ← Nat.pow_succ', show (dgN (nI v) - 1).succ = dgN (nI v) by omega]
      exact dv
    have h6 : 1 ≤ v / 10 ^ (dgN (nI v) - 1) := (Nat.one_le_div_iff (Nat.pow_pos (by decide))).mpr e
    rw [decide_eq_true (show E p ≠ 10 by omega)]
    rfl
set_option maxHeartbeats 1000000 in
/-- the words that are said stand as spans -/
theorem wd_SD {u : Nat} (hu : u ≤ 450) {A : Nat → Nat → Int32} (hT : tbI 0 u A) {E : Nat → Nat} {b : Nat → Bool} : ∀ (z n i p : Nat), n < u → szN A n ≤ z → mat E p (wdF A b z (nI n) i) → SD A E b z (nI n) i p (p + (wdF A b z (nI n) i).length)
  | 0, n, i, p, hn, hz, _ => by have := (rN_sz (hT n (Nat.zero_le _) hn)).1; omega
  | z + 1, n, i, p, hn, hz, hm => by
    obtain ⟨k, h0, hk, hs, h40, hv⟩ := rN_val (hT n (Nat.zero_le _) hn)
    have core : ∀ a, mat E a (coF A (wdF A b z (A 2 n) (i1W k i)) (wdF A b z (A 3 n) (i1W k i + kbW A z (A 2 n))) n) → SB A E (SD A E b z) (kbW A z) k n i a (a + (coF A (wdF A b z (A 2 n) (i1W k i)) (wdF A b z (A 3 n) (i1W k i + kbW A z (A 2 n))) n).length) := by
      intro a ha
      rcases hs with ⟨k1, h2, h3, es⟩ | ⟨k1, k6, c, d, h2, la, hc, h3, lb, hd, es⟩ | ⟨k1, c, h2, la, hc, h3, es⟩
      · rcases (show k = 0 ∨ k = 1 by omega) with rfl | rfl
        · rw [coF_0 h0] at ha ⊢
          have q := (mat_cons ha).1
          obtain ⟨v, hv9, e⟩ := hv.1 (Or.inl rfl)
          refine Or.inl ⟨rfl, rfl, q.1, ?_⟩
          have := (nI_eq (by omega) (by omega)).mp (e.symm.trans q.1)
          omega
        · rw [coF_1 h0] at ha ⊢
          obtain ⟨v, hv9, e⟩ := hv.2.1 rfl
          rw [e] at ha ⊢
          have := (dgN_b hv9).1
          rw [dgL_len]
          exact Or.inr (Or.inl ⟨rfl, by omega, num_B hv9 ha⟩)
      · rw [coF_2 k1 k6 h0] at ha ⊢
        obtain ⟨m1', m2'⟩ := mat_app ha
        obtain ⟨m3, m4⟩ := mat_cons m2'
        have ei : i1W k i = i + 1 := by unfold i1W; rw [if_pos (may_i (Or.inl ⟨k1, k6⟩))]
        rw [ei] at m1' m3 m4 ⊢
        rw [h2] at m1' m3 m4
        rw [h3] at m4
        have x := wd_SD hu hT z c (i + 1) a (by omega) (by omega) m1'
        have y := wd_SD hu hT z d (i + 1 + kbW A z (nI c)) _ (by omega) (by omega) m4
        refine Or.inr (Or.inr (Or.inr (Or.inr (Or.inr ⟨k1, k6, a + (wdF A b z (nI c) (i + 1)).length, ?_, by rw [h2]; exact x, ?_⟩))))
        · exact w_e (c := 18 + k) ⟨by rw [← nI_add]; exact m3.1, m3.2⟩ (by omega)
        · rw [h2, h3, List.length_append, List.length_cons, show a + ((wdF A b z (nI c) (i + 1)).length + ((wdF A b z (nI d) (i + 1 + kbW A z (nI c))).length + 1)) = a + (wdF A b z (nI c) (i + 1)).length + 1 + (wdF A b z (nI d) (i + 1 + kbW A z (nI c))).length by omega]
          exact y
      · rcases (show k = 7 ∨ k = 8 ∨ k = 9 by omega) with rfl | rfl | rfl
        · rw [coF_7 h0, h2] at ha ⊢
          obtain ⟨m3, m4⟩ := mat_cons ha
          have x := wd_SD hu hT z c (i + 1) _ (by omega) (by omega) m4
          refine Or.inr (Or.inr (Or.inl ⟨rfl, w_e (c := 25) m3 (by decide), ?_⟩))
          rw [h2, List.length_cons, show a + ((wdF A b z (nI c) (i1W 7 i)).length + 1) = a + 1 + (wdF A b z (nI c) (i1W 7 i)).length by omega]
          exact x
        · rw [coF_8 h0, h2] at ha ⊢
          obtain ⟨m3, m4⟩ := mat_cons ha
          obtain ⟨m5, m6⟩ := mat_app m4
          obtain ⟨m7, _⟩ := mat_cons m6
          have x := wd_SD hu hT z c i _ (by omega) (by omega) m5
          have el : a + (c8 26 :: (wdF A b z (nI c) (i1W 8 i) ++ [c8 27])).length = a + 1 + (wdF A b z (nI c) (i1W 8 i)).length + 1 := by
            rw [List.length_cons, List.length_append]
            show a + ((wdF A b z (nI c) (i1W 8 i)).length + 1 + 1) = _
            omega
          refine Or.inr (Or.inr (Or.inr (Or.inl ⟨rfl, w_e (c := 26) m3 (by decide), ?_, ?_⟩)))
          · rw [el]
            exact w_e (c := 27) m7 (by decide)
          · rw [h2, el]
            exact x
        · rw [coF_9 h0, h2] at ha ⊢
          obtain ⟨m3, m4⟩ := mat_cons ha
          obtain ⟨m5, m6⟩ := mat_cons m4
          have x := wd_SD hu hT z c (i + 1) _ (by omega) (by omega) m6
          obtain ⟨v, hv9, e⟩ := hv.1 (Or.inr rfl)
          have := (nI_eq (by omega) (by omega)).mp (e.symm.trans m3.1)
          refine Or.inr (Or.inr (Or.inr (Or.inr (Or.inl ⟨rfl, m3.1, by omega, w_e (c := 28) m5 (by decide), ?_⟩))))
          rw [h2, List.length_cons, List.length_cons, show a + ((wdF A b z (nI c) (i1W 9 i)).length + 1 + 1) = a + 1 + 1 + (wdF A b z (nI c) (i1W 9 i)).length by omega]
          exact x
    refine ⟨n, k, rfl, by omega, hk, h0, ?_⟩
    rw [wdF_nI (by omega) hk h0] at hm ⊢
    unfold brL kpB at hm ⊢
    by_cases q : mayN k = true ∧ b i = true
    · rw [if_pos q, if_neg (by decide)] at hm ⊢
      obtain ⟨m3, m4⟩ := mat_cons hm
      obtain ⟨m5, m6⟩ := mat_app m4
      obtain ⟨m7, _⟩ := mat_cons m6
      have el : p + (c8 29 :: (coF A (wdF A b z (A 2 n) (i1W k i)) (wdF A b z (A 3 n) (i1W k i + kbW A z (A 2 n))) n ++ [c8 30])).length = p + 1 + (coF A (wdF A b z (A 2 n) (i1W k i)) (wdF A b z (A 3 n) (i1W k i + kbW A z (A 2 n))) n).length + 1 := by
        rw [List.length_cons, List.length_append]
        show p + (_ + 1 + 1) = _
        omega
      refine Or.inr ⟨q.1, q.2, w_e (c := 29) m3 (by decide), ?_, ?_⟩
      · rw [el]
        exact w_e (c := 30) m7 (by decide)
      · rw [el]
        exact core _ m5
    · rw [if_neg q, if_pos rfl] at hm ⊢
      exact Or.inl ⟨q, core _ hm⟩
end
section
/-- bits that are set -/
def pcL (w : Nat) : Nat → Nat
  | 0 => 0
  | k + 1 => pcL w k + (if w.testBit k = true then 1 else 0)
set_option maxRecDepth 100000 in
theorem bit_v : ∀ w, w < 256 → ∀ t, t < 8 → (nI w >>> (nI t &&& 31)) &&& Int32.ofInt 1 = nI (if w.testBit t = true then 1 else 0) := by decide +kernel
theorem kbW_cg {A A' : Nat → Nat → Int32} (e : ∀ r, r < 4 → A' r = A r) : ∀ (z : Nat) (x : Int32), kbW A' z x = kbW A z x
  | 0, _ => rfl
  | z + 1, x => by
    show (if x < 0 then 0 else (if mayN (A' 0 x.toNatClampNeg).toNatClampNeg = true then 1 else 0) + kbW A' z (A' 2 x.toNatClampNeg) + kbW A' z (A' 3 x.toNatClampNeg)) = if x < 0 then 0 else (if mayN (A 0 x.toNatClampNeg).toNatClampNeg = true then 1 else 0) + kbW A z (A 2 x.toNatClampNeg) + kbW A z (A 3 x.toNatClampNeg)
    rw [e 0 (by decide), e 2 (by decide), e 3 (by decide), kbW_cg e z, kbW_cg e z]
theorem coF_cg {A A' : Nat → Nat → Int32} (e : ∀ r, r < 4 → A' r = A r) (X Y : List Int32) (n : Nat) : coF A' X Y n = coF A X Y n := by
  unfold coF
  rw [e 0 (by decide), e 1 (by decide)]
theorem wdF_cg {A A' : Nat → Nat → Int32} {b : Nat → Bool} (e : ∀ r, r < 4 → A' r = A r) : ∀ (z : Nat) (x : Int32) (i : Nat), wdF A' b z x i = wdF A b z x i
  | 0, _, _ => rfl
  | z + 1, x, i => by
    show (if x < 0 then [] else brL (kpB b (A' 0 x.toNatClampNeg).toNatClampNeg i) (coF A' (wdF A' b z (A' 2 x.toNatClampNeg) (i1W (A' 0 x.toNatClampNeg).toNatClampNeg i)) (wdF A' b z (A' 3 x.toNatClampNeg) (i1W (A' 0 x.toNatClampNeg).toNatClampNeg i + kbW A' z (A' 2 x.toNatClampNeg))) x.toNatClampNeg)) = if x < 0 then [] else brL (kpB b (A 0 x.toNatClampNeg).toNatClampNeg i) (coF A (wdF A b z (A 2 x.toNatClampNeg) (i1W (A 0 x.toNatClampNeg).toNatClampNeg i)) (wdF A b z (A 3 x.toNatClampNeg) (i1W (A 0 x.toNatClampNeg).toNatClampNeg i + kbW A z (A 2 x.toNatClampNeg))) x.toNatClampNeg)
    rw [e 0 (by decide), e 2 (by decide), e 3 (by decide), kbW_cg e z, wdF_cg e z, wdF_cg e z, coF_cg e]
theorem kdN_cg {A A' : Nat → Nat → Int32} (e : ∀ r, r < 4 → A' r = A r) (x : Int32) : kdN A' x = kdN A x := by
  unfold kdN
  rw [e 0 (by decide)]
theorem DD_cg {A A' : Nat → Nat → Int32} {b : Nat → Bool} (e : ∀ r, r < 4 → A' r = A r) : ∀ (z : Nat) (x : Int32) (i : Nat), DD A' b z x i → DD A b z x i
  | 0, _, _, _ => trivial
  | z + 1, x, i, h => fun n k ex hn hk h0 => by
    have := h n k ex hn hk (by rw [e 0 (by decide)]; exact h0)
    rw [e 2 (by decide), e 3 (by decide), kdN_cg e, kdN_cg e, kbW_cg e z] at this
    exact ⟨this.1, this.2.1, DD_cg e z _ _ this.2.2.1, DD_cg e z _ _ this.2.2.2⟩
theorem rtW_cg {A A' : Nat → Nat → Int32} (e : ∀ r, r < 4 → A' r = A r) (e6 : A' 6 = A 6) : ∀ (z : Nat) (x : Int32), rtW A z x → rtW A' z x
  | 0, _, _ => trivial
  | z + 1, x, h => fun hx => by
    have := h hx
    unfold rtO at this ⊢
    rw [e 0 (by decide), e 1 (by decide), e 2 (by decide), e 3 (by decide), e6]
    exact ⟨this.1, rtW_cg e e6 z _ this.2.1, rtW_cg e e6 z _ this.2.2⟩
theorem lt8 (A : Nat → Nat → Int32) : (∀ k, ltW A 8 k 0 = true) ∧ (∀ k, ltW A 8 k 1 = mayN k) := ⟨fun k => by rw [ltW_8 rfl]; rfl, fun k => by rw [ltW_8 rfl]; rfl⟩
/-- one READING just where nothing leaves a doubt -/
theorem only_iff {A : Nat → Nat → Int32} {u n h : Nat} {b : Nat → Bool} {J : Nat → Nat → Int64} (hu : u ≤ 120) (hT : tbI 0 u A) (hn : n < u) (hr : rtW A 40 (nI n)) (hh : h ≤ 20) (hJ : okJ h A 8 J) (hl : (wdF A b 40 (nI n) 0).length = h) (hm : mat (eW A) 0 (wdF A b 40 (nI n) 0)) : ctW h J = 1 ↔ DD A b 40 (nI n) 0 := by
  have hL0 : ∀ i j, i < j → j ≤ h → lW J i j = csW (mG (eW A) (A 6) (ltW A 8) (lW J) i j) 20 := fun i j h1 h2 => (okS_l (hJ i j h1 h2)).1
  have hL := fun i j h1 h2 => (L_le hh hL0 (j - i) i j h1 h2 (Nat.le_refl _)).2
  have hB := fun i j h1 h2 => (L_le hh hL0 (j - i) i j h1 h2 (Nat.le_refl _)).1
  have hS := wd_SD (by omega) hT 40 n 0 0 hn (rN_sz (hT n (Nat.zero_le _) hn)).2.1 hm
  rw [Nat.zero_add, hl] at hS
  have h0 := SD_lt _ _ _ _ _ hS
  unfold ctW
  rw [if_neg (by omega)]
  constructor
  · intro h1
    rcases Classical.em (DD A b 40 (nI n) 0) with q | q
    · exact q
    · have := (SD_B hu hT hh hL hB (lt8 A).1 (lt8 A).2 40 _ 0 0 h hS (pt_of hT (Nat.zero_le _) hn) hr (Nat.le_refl _)).2.1 q
      omega
  · intro q
    exact SD_A hh hL hB (lt8 A).1 (lt8 A).2 40 _ 0 0 h hS q hr (Nat.le_refl _)
set_option maxHeartbeats 1000000 in
set_option maxRecDepth 20000 in
theorem bitLX (w : zW) {x : Nat} (hx : x < 256) {n0 : Nat} : ∀ (c k : Nat), k + c = 8 → ∀ {x2 : Int32}, x2 = nI k → zV (zMo 0 zX7_bits) false n0 0 0 4 [(2, .int x2), (1, .int (nI (pcL x k))), (0, .int (nI x))] [] w (fun r w' => w' = w ∧ r = some (.int (nI (pcL x 8)))) := by
  intro c
  induction c with
  | zero =>
    intro k hk x2 e2
    subst e2
    iterate 3 (refine zv_step (bX7_bits 0) rfl rfl trivial ?_)
    refine zv_ift (show nI 8 ≤ nI k from nI_le (by omega) (by omega)) ?_
    iterate 1 (refine zv_step (bX7_bits 0) rfl rfl trivial ?_)
    exact zv_iret (bX7_bits 0) rfl (Or.inl rfl) (Nat.zero_le _) (Nat.zero_le _) ⟨rfl, by rw [show k = 8 by omega]⟩
  | succ c ih =>
    intro k hk x2 e2
    subst e2
    iterate 3 (refine zv_step (bX7_bits 0) rfl rfl trivial ?_)
    refine zv_iff (show ¬ nI 8 ≤ nI k from fun h => absurd ((nI_leI (by omega) (by omega)).mp h) (by omega)) ?_
    iterate 10 (refine zv_step (bX7_bits 0) rfl rfl trivial ?_)
    have e9 : nI (pcL x k) + ((nI x >>> (nI k &&& 31)) &&& Int32.ofInt 1) = nI (pcL x (k + 1)) := by
      rw [bit_v x hx k (by omega), nI_add]
      rfl
    refine zv_locals (l := [(2, .int (nI k + Int32.ofInt 1)), (1, .int (nI (pcL x k) + ((nI x >>> (nI k &&& 31)) &&& Int32.ofInt 1))), (0, .int (nI x))]) (l' := [(2, .int (nI k + Int32.ofInt 1)), (1, .int (nI (pcL x k) + ((nI x >>> (nI k &&& 31)) &&& Int32.ofInt 1))), (0, .int (nI x))]) (fun q h => h) ?_
    rw [e9]
    exact ih (k + 1) (by omega) (nI_1 k)
set_option maxHeartbeats 1000000 in
set_option maxRecDepth 20000 in
theorem mBitsX (w : zW) {x : Nat} (hx : x < 256) {y : Int32} (ey : y = nI x) : zK 0 zX7_bits [.int y] w (fun r w' => w' = w ∧ r = some (.int (nI (pcL x 8)))) := by
  subst ey
  refine zK_of qX7_bits (by decide +kernel) rfl ?_
  iterate 4 (refine zv_step (bX7_bits 0) rfl rfl trivial ?_)
  exact bitLX w hx 8 0 rfl rfl
/-- a way that leaves no doubt and fits -/
def gdW (A : Nat → Nat → Int32) (n N w : Nat) : Prop := DD A (btN w N) 40 (nI n) 0 ∧ (wdF A (btN w N) 40 (nI n) 0).length ≤ 20
/-- what a row of the ear holds -/
def hasW (g : Nat → Int32) (L : List Int32) : Prop := ∀ t v, L[t]? = some v → g t = v
theorem wdF_len {u : Nat} (hu : u ≤ 450) {A : Nat → Nat → Int32} (hT : tbI 0 u A) {b : Nat → Bool} : ∀ (z n i : Nat), n < u → szN A n ≤ z → (wdF A b z (nI n) i).length ≤ 6 * szN A n
  | 0, n, i, hn, hz => by have := (rN_sz (hT n (Nat.zero_le _) hn)).1; omega
  | z + 1, n, i, hn, hz => by
    obtain ⟨k, h0, hk, hs, h40, hv⟩ := rN_val (hT n (Nat.zero_le _) hn)
    have hb : ∀ (c : Int32) (L : List Int32), (brL c L).length ≤ L.length + 2 := fun c L => by
      rw [brL_len]
      split <;> omega
    rw [wdF_nI (by omega) hk h0]
    refine Nat.le_trans (hb _ _) ?_
    rcases hs with ⟨k1, h2, h3, es⟩ | ⟨k1, k6, c, d, h2, la, hc, h3, lb, hd, es⟩ | ⟨k1, c, h2, la, hc, h3, es⟩
    · rcases (show k = 0 ∨ k = 1 by omega) with rfl | rfl
      · rw [coF_0 h0]
        show 1 + 2 ≤ _
        omega
      · rw [coF_1 h0, dgL_len]
        have := (dgN_le (A 1 n)).2
        omega
    · rw [coF_2 k1 k6 h0, h2, h3, List.length_append, List.length_cons]
      have := wdF_len hu hT (b := b) z c (i1W k i) (by omega) (by omega)
      have := wdF_len hu hT (b := b) z d (i1W k i + kbW A z (nI c)) (by omega) (by omega)
      omega
    · have q := wdF_len hu hT (b := b) z c (i1W k i) (by omega) (by omega)
      rcases (show k = 7 ∨ k = 8 ∨ k = 9 by omega) with rfl | rfl | rfl
      · rw [coF_7 h0, h2, List.length_cons]
        omega
      · rw [coF_8 h0, h2, List.length_cons, List.length_append]
        show _ + 1 + 1 + 2 ≤ _
        omega
      · rw [coF_9 h0, h2, List.length_cons, List.length_cons]
        omega
/-- words are small numbers -/
theorem nn_app {g : Nat → Int32} {L : List Int32} (h : ∀ (t : Nat) (v : Int32), L[t]? = some v → ∃ e : Nat, e ≤ 31 ∧ v = nI e) : nnW L.length (appA g 0 L) := fun i hi => by
  have := List.getElem?_eq_getElem hi
  obtain ⟨e, e1, e2⟩ := h i _ this
  refine ⟨e, e1, ?_⟩
  have q := appA_at L g 0 i this
  rw [Nat.zero_add] at q
  rw [q, e2]
def smL (L : List Int32) : Prop := ∀ v, v ∈ L → ∃ e : Nat, e ≤ 31 ∧ v = nI e
theorem smL_app {X Y : List Int32} (hx : smL X) (hy : smL Y) : smL (X ++ Y) := fun v hv => (List.mem_append.mp hv).elim (hx v) (hy v)
theorem smL_cons {x : Int32} {Y : List Int32} (hx : ∃ e : Nat, e ≤ 31 ∧ x = nI e) (hy : smL Y) : smL (x :: Y) := fun v hv => by
  rcases List.mem_cons.mp hv with e | e
  · rw [e]; exact hx
  · exact hy v e
theorem smL_nil : smL [] := fun v hv => absurd hv List.not_mem_nil
theorem smL_dg {v : Nat} (hv : v ≤ 9999) : ∀ d, d ≤ 4 → smL (dgL (nI v) d)
  | 0, _ => smL_nil
  | d + 1, hd => smL_cons (dig_w rfl hv (by omega)) (smL_dg hv d (by omega))
theorem wdF_sm {u : Nat} (hu : u ≤ 450) {A : Nat → Nat → Int32} (hT : tbI 0 u A) {b : Nat → Bool} : ∀ (z n i : Nat), n < u → szN A n ≤ z → smL (wdF A b z (nI n) i)
  | 0, n, i, hn, hz => by have := (rN_sz (hT n (Nat.zero_le _) hn)).1; omega
  | z + 1, n, i, hn, hz => by
    obtain ⟨k, h0, hk, hs, h40, hv⟩ := rN_val (hT n (Nat.zero_le _) hn)
    have c8s : ∀ c : Nat, c ≤ 31 → ∃ e : Nat, e ≤ 31 ∧ nI c = nI e := fun c hc => ⟨c, hc, rfl⟩
    have hb : ∀ (c : Int32) (L : List Int32), smL L → smL (brL c L) := fun c L h => by
      unfold brL
      split
      · exact h
      · exact smL_cons (c8s 29 (by decide)) (smL_app h (smL_cons (c8s 30 (by decide)) smL_nil))
    rw [wdF_nI (by omega) hk h0]
    refine hb _ _ ?_
    rcases hs with ⟨k1, h2, h3, es⟩ | ⟨k1, k6, c, d, h2, la, hc, h3, lb, hd, es⟩ | ⟨k1, c, h2, la, hc, h3, es⟩
    · rcases (show k = 0 ∨ k = 1 by omega) with rfl | rfl
      · rw [coF_0 h0]
        obtain ⟨v, hv9, e⟩ := hv.1 (Or.inl rfl)
        exact smL_cons ⟨v, by omega, e⟩ smL_nil
      · rw [coF_1 h0]
        obtain ⟨v, hv9, e⟩ := hv.2.1 rfl
        rw [e]
        exact smL_dg hv9 _ (dgN_le _).2
    · rw [coF_2 k1 k6 h0, h2, h3]
      exact smL_app (wdF_sm hu hT z c _ (by omega) (by omega)) (smL_cons ⟨18 + k, by omega, by rw [show c8 18 = nI 18 from rfl, nI_add]⟩ (wdF_sm hu hT z d _ (by omega) (by omega)))
    · have q := wdF_sm hu hT (b := b) z c (i1W k i) (by omega) (by omega)
      rcases (show k = 7 ∨ k = 8 ∨ k = 9 by omega) with rfl | rfl | rfl
      · rw [coF_7 h0, h2]
        exact smL_cons (c8s 25 (by decide)) q
      · rw [coF_8 h0, h2]
        exact smL_cons (c8s 26 (by decide)) (smL_app q (smL_cons (c8s 27 (by decide)) smL_nil))
      · rw [coF_9 h0, h2]
        obtain ⟨v, hv9, e⟩ := hv.1 (Or.inr rfl)
        exact smL_cons ⟨v, by omega, e⟩ (smL_cons (c8s 28 (by decide)) q)
theorem fS_e {o0 o : Nat → Int32} {A0 A : Nat → Nat → Int32} {bf : Nat} (h : fS o0 A0 bf o A) : (∀ r, r < 4 → A r = A0 r) ∧ A 6 = A0 6 ∧ A 7 = A0 7 := ⟨fun r hr => h.2.1 r (by omega) (by omega) (by omega), h.2.1 6 (by decide) (by decide) (by decide), h.2.1 7 (by decide) (by decide) (by decide)⟩
theorem kp0_r {A A' : Nat → Nat → Int32} (h : kp0 A) (e : A' 7 = A 7) : kp0 A' := fun s hs => by
  rw [e]
  exact h s hs
set_option maxHeartbeats 1000000 in
set_option maxRecDepth 20000 in
theorem mIsOnlyX (f : Nat → zC) (o : Nat → Int32) (A : Nat → Nat → Int32) (J : Nat → Nat → Int64) {o0 : Nat → Int32} {A0 : Nat → Nat → Int32} {bf u n N w : Nat} (hu : u ≤ 120) (hT0 : tbI 0 u A0) (hz0 : kp0 A0) (hn : n < u) (hr0 : rtW A0 40 (nI n)) (hw : w < 256) (hN : N ≤ 8) (hkb : kbW A0 40 (nI n) = N) (hF : fS o0 A0 bf o A) {y2 y3 : Int32} (e2 : y2 = nI w) (e3 : y3 = nI N) : zK 43 zX7_isOnly [.ref 76, .int (nI n), .int y2, .int y3] (wR f o A J) (fun r w' => ∃ (o' : Nat → Int32) (A' : Nat → Nat → Int32) (J' : Nat → Nat → Int64), w' = wR f o' A' J' ∧ fS o0 A0 bf o' A' ∧ A' 15 = A 15 ∧ ((gdW A0 n N w ∧ r = some (.int 1) ∧ o' 10 = nI (wdF A0 (btN w N) 40 (nI n) 0).length ∧ hasW (A' 8) (wdF A0 (btN w N) 40 (nI n) 0)) ∨ (¬ gdW A0 n N w ∧ r = some (.int 0)))) := by
  subst e2 e3
  have hT := fS_T hF hT0
  have hF2 := hF.2.2.2
  have he := fS_e hF
  have hz := kp0_r hz0 he.2.2
  have hrt : rtW A 40 (nI n) := rtW_cg he.1 he.2.1 40 _ hr0
  have eWS : (wdF A (btN w N) 40 (nI n) 0) = wdF A0 (btN w N) 40 (nI n) 0 := wdF_cg he.1 40 _ _
  have hln := wdF_len (by omega) hT (b := btN w N) 40 n 0 hn (rN_sz (hT n (Nat.zero_le _) hn)).2.1
  have hln2 := (rN_sz (hT n (Nat.zero_le _) hn)).2.1
  have hsm := wdF_sm (by omega) hT (b := btN w N) 40 n 0 hn (rN_sz (hT n (Nat.zero_le _) hn)).2.1
  refine zK_of qX7_isOnly (by decide +kernel) rfl ?_
  iterate 12 (refine zv_step (bX7_isOnly 43) rfl rfl trivial ?_)
  refine zv_world (show _ = wZ f (upd (upd o 19 (nI w)) 21 (nI N)) A J 0 (nI 0) (A 14) from rfl) ?_
  iterate 3 (refine zv_step (bX7_isOnly 43) rfl rfl trivial ?_)
  refine zv_V2 (bX7_isOnly 43) rfl rfl rfl rfl rfl rfl rfl ⟨rfl, rfl, rfl⟩ ⟨by decide, by decide⟩ ⟨Nat.zero_le _, Nat.zero_le _⟩ (mSayF f (upd (upd o 19 (nI w)) 21 (nI N)) A J (by omega) hT hw hN rfl rfl hz 40 n (Nat.zero_le _) hn (rN_sz (hT n (Nat.zero_le _) hn)).2.1 0 0 _ (by rw [kbW_cg he.1]; omega) (by omega)) ?_
  rintro _ _ ⟨rfl, rfl⟩
  iterate 3 (refine zv_step (bX7_isOnly 43) rfl rfl trivial ?_)
  rw [Nat.zero_add (wdF A (btN w N) 40 (nI n) 0).length]
  refine zv_world (show _ = wR f (upd (upd (upd (upd (upd o 19 (nI w)) 21 (nI N)) 20 (nI (0 + kbW A 40 (nI n)))) 18 (nI (wdF A (btN w N) 40 (nI n) 0).length)) 19 (Int32.ofInt (-1))) (updA A 14 (appA (A 14) 0 (wdF A (btN w N) 40 (nI n) 0))) J from rfl) ?_
  iterate 4 (refine zv_step (bX7_isOnly 43) rfl rfl trivial ?_)
  refine zv_ifb (fun h37 => ?_) (fun h37 => ?_)
  · have hq : (wdF A (btN w N) 40 (nI n) 0).length ≤ 20 := by
      have h9 : nI (wdF A (btN w N) 40 (nI n) 0).length ≤ nI 20 := h37
      rwa [nI_leI (by omega) (by decide)] at h9
    iterate 1 (refine zv_step (bX7_isOnly 43) rfl rfl trivial ?_)
    refine zv_V0 (bX7_isOnly 43) rfl rfl rfl rfl rfl rfl rfl ⟨rfl, rfl, rfl⟩ ⟨by decide, by decide⟩ ⟨Nat.zero_le _, Nat.zero_le _⟩ (mHearsX f (upd (upd (upd (upd (upd o 19 (nI w)) 21 (nI N)) 20 (nI (0 + kbW A 40 (nI n)))) 18 (nI (wdF A (btN w N) 40 (nI n) 0).length)) 19 (Int32.ofInt (-1))) (updA A 14 (appA (A 14) 0 (wdF A (btN w N) 40 (nI n) 0))) J (q := (wdF A (btN w N) 40 (nI n) 0).length) hq rfl) ?_
    rintro _ _ ⟨rfl, rfl⟩
    have hrow : ∀ i, i < (wdF A (btN w N) 40 (nI n) 0).length → cpR (updA A 14 (appA (A 14) 0 (wdF A (btN w N) 40 (nI n) 0)) 8) (updA A 14 (appA (A 14) 0 (wdF A (btN w N) 40 (nI n) 0)) 14) (wdF A (btN w N) 40 (nI n) 0).length i = appA (A 14) 0 (wdF A (btN w N) 40 (nI n) 0) i := fun i hi => by
      unfold cpR
      rw [if_pos hi, updA_self]
    have w9 : nnW (wdF A (btN w N) 40 (nI n) 0).length (cpR (updA A 14 (appA (A 14) 0 (wdF A (btN w N) 40 (nI n) 0)) 8) (updA A 14 (appA (A 14) 0 (wdF A (btN w N) 40 (nI n) 0)) 14) (wdF A (btN w N) 40 (nI n) 0).length) := fun i hi => by
      rw [hrow i hi]
      exact nn_app (fun t v e => hsm v (List.mem_of_getElem? e)) i hi
    iterate 2 (refine zv_step (bX7_isOnly 43) rfl rfl trivial ?_)
    refine zv_V1 (bX7_isOnly 43) rfl rfl rfl rfl rfl rfl rfl ⟨rfl, rfl, rfl⟩ ⟨by decide, by decide⟩ ⟨Nat.zero_le _, Nat.zero_le _⟩ (mCounted f (upd (upd (upd (upd (upd (upd o 19 (nI w)) 21 (nI N)) 20 (nI (0 + kbW A 40 (nI n)))) 18 (nI (wdF A (btN w N) 40 (nI n) 0).length)) 19 (Int32.ofInt (-1))) 10 (nI (wdF A (btN w N) 40 (nI n) 0).length)) (updA (updA A 14 (appA (A 14) 0 (wdF A (btN w N) 40 (nI n) 0))) 8 (cpR (updA A 14 (appA (A 14) 0 (wdF A (btN w N) 40 (nI n) 0)) 8) (updA A 14 (appA (A 14) 0 (wdF A (btN w N) 40 (nI n) 0)) 14) (wdF A (btN w N) 40 (nI n) 0).length)) J hq w9 rfl (s := 8) (by decide) rfl) ?_
    rintro _ _ ⟨J1, rfl, rfl, hJ⟩
    have hat : ∀ t v, (wdF A (btN w N) 40 (nI n) 0)[t]? = some v → (updA (updA A 14 (appA (A 14) 0 (wdF A (btN w N) 40 (nI n) 0))) 8 (cpR (updA A 14 (appA (A 14) 0 (wdF A (btN w N) 40 (nI n) 0)) 8) (updA A 14 (appA (A 14) 0 (wdF A (btN w N) 40 (nI n) 0)) 14) (wdF A (btN w N) 40 (nI n) 0).length)) 8 t = v := fun t v e => by
      have ht : t < (wdF A (btN w N) 40 (nI n) 0).length := (List.getElem?_eq_some_iff.mp e).1
      rw [updA_self, hrow t ht]
      have := appA_at (wdF A (btN w N) 40 (nI n) 0) (A 14) 0 t e
      rwa [Nat.zero_add] at this
    have r4 : ∀ r, r < 4 → (updA (updA A 14 (appA (A 14) 0 (wdF A (btN w N) 40 (nI n) 0))) 8 (cpR (updA A 14 (appA (A 14) 0 (wdF A (btN w N) 40 (nI n) 0)) 8) (updA A 14 (appA (A 14) 0 (wdF A (btN w N) 40 (nI n) 0)) 14) (wdF A (btN w N) 40 (nI n) 0).length)) r = A r := fun r hr => by rw [updA_ne _ _ (by omega), updA_ne _ _ (by omega)]
    have hiff : ctW (wdF A (btN w N) 40 (nI n) 0).length J1 = 1 ↔ DD A (btN w N) 40 (nI n) 0 := by
      have q := only_iff (A := (updA (updA A 14 (appA (A 14) 0 (wdF A (btN w N) 40 (nI n) 0))) 8 (cpR (updA A 14 (appA (A 14) 0 (wdF A (btN w N) 40 (nI n) 0)) 8) (updA A 14 (appA (A 14) 0 (wdF A (btN w N) 40 (nI n) 0)) 14) (wdF A (btN w N) 40 (nI n) 0).length))) (b := btN w N) (n := n) hu (tbI_fr hT (fun r hr i _ _ => by rw [updA_ne _ _ (by omega), updA_ne _ _ (by omega)])) hn (rtW_cg r4 (by rw [updA_ne _ _ (by decide), updA_ne _ _ (by decide)]) 40 _ hrt) hq hJ (by rw [wdF_cg r4]) (by
        rw [wdF_cg r4]
        intro t v e
        have ht : t < (wdF A (btN w N) 40 (nI n) 0).length := (List.getElem?_eq_some_iff.mp e).1
        have e8 := eW_of (A := (updA (updA A 14 (appA (A 14) 0 (wdF A (btN w N) 40 (nI n) 0))) 8 (cpR (updA A 14 (appA (A 14) 0 (wdF A (btN w N) 40 (nI n) 0)) 8) (updA A 14 (appA (A 14) 0 (wdF A (btN w N) 40 (nI n) 0)) 14) (wdF A (btN w N) 40 (nI n) 0).length))) (h := (wdF A (btN w N) 40 (nI n) 0).length) (by rw [updA_self]; exact w9) ht
        rw [Nat.zero_add]
        exact ⟨(hat t v e).symm.trans e8.1, e8.2⟩)
      exact q.trans ⟨DD_cg r4 40 _ _, DD_cg (fun r hr => (r4 r hr).symm) 40 _ _⟩
    have hhas : hasW ((updA (updA A 14 (appA (A 14) 0 (wdF A (btN w N) 40 (nI n) 0))) 8 (cpR (updA A 14 (appA (A 14) 0 (wdF A (btN w N) 40 (nI n) 0)) 8) (updA A 14 (appA (A 14) 0 (wdF A (btN w N) 40 (nI n) 0)) 14) (wdF A (btN w N) 40 (nI n) 0).length)) 8) (wdF A0 (btN w N) 40 (nI n) 0) := by
      rw [← eWS]
      exact hat
    iterate 3 (refine zv_step (bX7_isOnly 43) rfl rfl trivial ?_)
    refine zv_ifb (fun h54 => ?_) (fun h54 => ?_)
    · have q54 : ¬ ctW (wdF A (btN w N) 40 (nI n) 0).length J1 = 1 := fun e => h54 ((lg_cmp_eq _ _).mpr (by rw [e]; rfl))
      iterate 1 (refine zv_step (bX7_isOnly 43) rfl rfl trivial ?_)
      exact zv_iret (bX7_isOnly 43) rfl (Or.inr ⟨rfl, Or.inl rfl⟩) (Nat.zero_le _) (Nat.zero_le _) ⟨_, _, J1, rfl, ⟨fun j a b c => by rw [upd_ne _ _ c, upd_ne _ _ a, upd_ne _ _ (by omega), upd_ne _ _ (by omega), upd_ne _ _ (by omega), upd_ne _ _ (by omega), upd_ne _ _ (by omega)]; exact hF.1 j a b c, fun r a b c => (updA_ne _ _ a).trans ((updA_ne _ _ b).trans (hF.2.1 r a b c)), by rw [updA_ne _ _ (by decide), updA_ne _ _ (by decide)]; exact hF.2.2.1, _, hq, rfl, by rw [updA_self]; exact w9⟩, by rw [updA_ne _ _ (by decide), updA_ne _ _ (by decide)], Or.inr ⟨fun q => q54 (hiff.mpr (DD_cg (fun r hr => (he.1 r hr).symm) 40 _ _ q.1)), rfl⟩⟩
    · have q54 : ctW (wdF A (btN w N) 40 (nI n) 0).length J1 = 1 := by
        have h9 : lN (ctW (wdF A (btN w N) 40 (nI n) 0).length J1) = lN 1 := (lg_cmp_eq _ _).mp (Decidable.not_not.mp h54)
        rwa [lN_eqJ (by have := ctW_le hJ; unfold cap at this; omega) (by decide)] at h9
      iterate 2 (refine zv_step (bX7_isOnly 43) rfl rfl trivial ?_)
      exact zv_iret (bX7_isOnly 43) rfl (Or.inr ⟨rfl, Or.inr rfl⟩) (Nat.zero_le _) (Nat.zero_le _) ⟨_, _, J1, rfl, ⟨fun j a b c => by rw [upd_ne _ _ c, upd_ne _ _ a, upd_ne _ _ (by omega), upd_ne _ _ (by omega), upd_ne _ _ (by omega), upd_ne _ _ (by omega), upd_ne _ _ (by omega)]; exact hF.1 j a b c, fun r a b c => (updA_ne _ _ a).trans ((updA_ne _ _ b).trans (hF.2.1 r a b c)), by rw [updA_ne _ _ (by decide), updA_ne _ _ (by decide)]; exact hF.2.2.1, _, hq, rfl, by rw [updA_self]; exact w9⟩, by rw [updA_ne _ _ (by decide), updA_ne _ _ (by decide)], Or.inl ⟨⟨DD_cg he.1 40 _ _ (hiff.mp q54), by rw [← eWS]; exact hq⟩, rfl, by rw [← eWS]; rfl, hhas⟩⟩
  · have hq : ¬ (wdF A (btN w N) 40 (nI n) 0).length ≤ 20 := fun q => h37 (show nI (wdF A (btN w N) 40 (nI n) 0).length ≤ nI 20 by rw [nI_leI (by omega) (by decide)]; exact q)
    iterate 1 (refine zv_step (bX7_isOnly 43) rfl rfl trivial ?_)
    exact zv_iret (bX7_isOnly 43) rfl (Or.inr ⟨rfl, Or.inl rfl⟩) (Nat.zero_le _) (Nat.zero_le _) ⟨_, _, J, rfl, ⟨fun j a b c => by rw [upd_ne _ _ (by omega), upd_ne _ _ (by omega), upd_ne _ _ (by omega), upd_ne _ _ (by omega), upd_ne _ _ (by omega)]; exact hF.1 j a b c, fun r a b c => (updA_ne _ _ b).trans (hF.2.1 r a b c), by rw [updA_ne _ _ (by decide)]; exact hF.2.2.1, hF2⟩, by rw [updA_ne _ _ (by decide)], Or.inr ⟨fun q => hq (by rw [eWS]; exact q.2), rfl⟩⟩
end
