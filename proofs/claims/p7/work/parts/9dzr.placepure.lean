/-! place: what both sides need of READINGS -/
theorem Rg_fu {E : Nat → Nat} {G : Nat → Int32} {lt : Nat → Nat → Bool} {L : Nat → Nat → Nat} {A : Nat → Nat → Int32} : ∀ (f i j p n : Nat), Rg E (mG E G lt L) L A f i j p n → ∀ f', j - i ≤ f' → Rg E (mG E G lt L) L A f' i j p n
  | 0, _, _, _, _, h => h.elim
  | f + 1, i, j, p, n, ⟨c, q, h1, h2, h3, h0, h4⟩ => fun f' hf => by
    obtain ⟨hw, _, _⟩ := mG_pos h3
    obtain ⟨hab, w0, w1, w7, w8, w9⟩ := wi_pos hw
    obtain ⟨g, rfl⟩ : ∃ g, f' = g + 1 := ⟨f' - 1, by omega⟩
    refine ⟨c, q, h1, h2, h3, h0, ?_⟩
    rcases h4 with h4 | h4 | ⟨k7, x, x1, x2, g2, g3, hr⟩ | ⟨k7, x, x1, x2, g2, g3, hr⟩ | ⟨k7, g1, x, x1, x2, g2, g3, hr⟩ | ⟨k1, k6, d, r, x, y, hc, hE, hq, hr, x1, x2, y1, y2, g2, g3, rx, ry⟩
    · exact Or.inl h4
    · exact Or.inr (Or.inl h4)
    · exact Or.inr (Or.inr (Or.inl ⟨k7, x, x1, x2, g2, g3, Rg_fu f _ _ _ x hr g (by omega)⟩))
    · exact Or.inr (Or.inr (Or.inr (Or.inl ⟨k7, x, x1, x2, g2, g3, Rg_fu f _ _ _ x hr g (by omega)⟩)))
    · exact Or.inr (Or.inr (Or.inr (Or.inr (Or.inl ⟨k7, g1, x, x1, x2, g2, g3, Rg_fu f _ _ _ x hr g (by omega)⟩))))
    · exact Or.inr (Or.inr (Or.inr (Or.inr (Or.inr ⟨k1, k6, d, r, x, y, hc, hE, hq, hr, x1, x2, y1, y2, g2, g3, Rg_fu f _ _ _ x rx g (by omega), Rg_fu f _ _ _ y ry g (by omega)⟩))))
/-- a READING begins with no pair's word -/
theorem Rg_first {E : Nat → Nat} {G : Nat → Int32} {lt : Nat → Nat → Bool} {L : Nat → Nat → Nat} {A : Nat → Nat → Int32} : ∀ (f i j p n : Nat), Rg E (mG E G lt L) L A f i j p n → E i < 20 ∨ 25 ≤ E i
  | 0, _, _, _, _, h => h.elim
  | f + 1, i, j, p, n, ⟨c, q, h1, h2, h3, h0, h4⟩ => by
    obtain ⟨hw, _, hb⟩ := mG_pos h3
    obtain ⟨hab, w0, w1, w7, w8, w9⟩ := wi_pos hw
    rcases hb with e | e
    · rw [e, Nat.add_zero] at w0 w1 w7 w8 w9 hab h4
      rcases (show c / 2 = 0 ∨ c / 2 = 1 ∨ (2 ≤ c / 2 ∧ c / 2 ≤ 6) ∨ c / 2 = 7 ∨ c / 2 = 8 ∨ c / 2 = 9 by omega) with k | k | ⟨k2, k6⟩ | k | k | k
      · have := (w0 k).2.1
        omega
      · have := (isNumB_at (w1 k).1).2.2 i (Nat.le_refl _) (by omega)
        omega
      · obtain ⟨d, r, x, y, _, _, _, _, _, _, _, _, _, _, rx, _⟩ := Gk_P h4 k2 k6
        exact Rg_first f _ _ _ x rx
      · have := (w7 k).1
        omega
      · have := (w8 k).1
        omega
      · have := (w9 k).1
        omega
    · omega
theorem ow_N {A : Nat → Nat → Int32} {n k : Nat} {v : Int32} (h0 : A 0 n = nI k) (hk : k < 10) (hv : k = 1 → cvI (A 1 n) = A 1 n) : owW (nI k) (cvI (A 1 n)) = nI (ownW A n) := by
  unfold owW ownW
  rw [h0, show Int32.ofInt 1 = nI 1 from rfl]
  by_cases e : k = 1
  · subst e
    rw [if_pos rfl, if_pos rfl, hv rfl]
    unfold dgN
    repeat' split
    all_goals rfl
  · rw [if_neg (fun q => e ((nI_eq (by omega) (by decide)).mp q)), if_neg (fun q => e ((nI_eq (by omega) (by decide)).mp q))]
    split <;> rfl
/-- the class's row of bare words -/
theorem bw_P8 {u : Nat} (hu : u ≤ 120) {P A : Nat → Nat → Int32} (hT : tbI 0 u A) (hN : NR u P A) : ∀ (z n : Nat), n < u → szN A n ≤ z → P 8 n = nI (bwW A z (nI n)) ∧ bwW A z (nI n) ≤ 4 * szN A n ∧ 1 ≤ bwW A z (nI n)
  | 0, n, hn, hz => by
    have := (rN_sz (hT n (Nat.zero_le _) hn)).1
    omega
  | z + 1, n, hn, hz => by
    obtain ⟨n1, n2, n3, n4, n5, _, _, c8', _⟩ := hN n hn
    obtain ⟨k, h0, hk, hs, h40, hv⟩ := rN_val (hT n (Nat.zero_le _) hn)
    have ho := ownW_le A n
    have e8 : owW (P 2 n) (P 3 n) = nI (ownW A n) := by
      rw [n1, n2, h0]
      refine ow_N (v := 0) h0 hk (fun e => ?_)
      obtain ⟨v, hv9, ev⟩ := hv.2.1 e
      rw [ev, cvI_nI (by omega)]
    rw [bwW_nI (by omega), c8', e8, n3, n4]
    rcases hs with ⟨k1, h2, h3, es⟩ | ⟨k1, k6, c, d, h2, la, hc, h3, lb, hd, es⟩ | ⟨k1, c, h2, la, hc, h3, es⟩
    · rw [h2, h3, cvI_m2, bwW_m2]
      refine ⟨?_, by omega, by omega⟩
      show nI _ + nI 0 + nI 0 = _
      rw [nI_add, nI_add]
    · obtain ⟨p1, p2, _⟩ := bw_P8 hu hT hN z c (by omega) (by omega)
      obtain ⟨q1, q2, _⟩ := bw_P8 hu hT hN z d (by omega) (by omega)
      rw [h2, h3, cvI_nI (by omega), cvI_nI (by omega), pvI_nI _ (by omega), pvI_nI _ (by omega), p1, q1, nI_add, nI_add]
      exact ⟨rfl, by omega, by omega⟩
    · obtain ⟨p1, p2, _⟩ := bw_P8 hu hT hN z c (by omega) (by omega)
      rw [h2, h3, cvI_m2, bwW_m2, cvI_nI (by omega), pvI_nI _ (by omega), p1]
      refine ⟨?_, by omega, by omega⟩
      show nI _ + nI _ + nI 0 = _
      rw [nI_add, nI_add]
theorem btR_lo {x : Int32} {K : Nat → Bool} (h : btR x K) {q : Nat} (hq : q < 10) : btR ((Int32.ofInt 1 <<< (nI q &&& 31) - Int32.ofInt 1) &&& x) (fun k => K k && decide (k < q)) := by
  obtain ⟨m, hm, rfl, hb⟩ := h
  refine ⟨(2 ^ q - 1) &&& m, Nat.lt_of_le_of_lt Nat.and_le_right hm, by rw [shl_k q hq, show Int32.ofInt 1 = nI 1 from rfl, nI_sub (Nat.one_le_two_pow), nI_and], fun k hk => ?_⟩
  rw [Nat.testBit_and, Nat.testBit_two_pow_sub_one, hb k hk, Bool.and_comm]
theorem btR_one {q : Nat} (hq : q < 10) : btR (Int32.ofInt 1 <<< (nI q &&& 31)) (fun k => true && decide (k = q)) := by
  refine ⟨2 ^ q, Nat.lt_of_lt_of_le (Nat.pow_lt_pow_right (by decide) hq) (by decide), shl_k q hq, fun k _ => ?_⟩
  rw [Nat.testBit_two_pow]
  show decide (q = k) = decide (k = q)
  by_cases e : k = q
  · subst e
    rfl
  · rw [decide_eq_false e, decide_eq_false (fun h => e h.symm)]
theorem btR_z {x : Int32} {K : Nat → Bool} (h : btR x K) {q : Nat} (hq : q < 10) : x &&& (Int32.ofInt 1 <<< (nI q &&& 31)) = 0 ↔ K q = false := by
  obtain ⟨m, hm, rfl, hb⟩ := h
  rw [shl_k q hq, nI_and, show (0 : Int32) = nI 0 from rfl, nI_eq (by have := @Nat.and_le_left m (2 ^ q); omega) (by decide), ← hb q hq]
  constructor
  · intro e
    have := congrArg (fun t => Nat.testBit t q) e
    rw [Nat.testBit_and, Nat.testBit_two_pow, decide_eq_true rfl, Bool.and_true] at this
    rw [this]
    exact Nat.zero_testBit q
  · intro e
    refine Nat.eq_of_testBit_eq (fun k => ?_)
    rw [Nat.testBit_and, Nat.testBit_two_pow, Nat.zero_testBit]
    by_cases w : q = k
    · subst w
      rw [e]
      rfl
    · rw [decide_eq_false w, Bool.and_false]
theorem kS_lo {K : Nat → Bool} {w : Nat → Nat} {q : Nat} : ∀ c, kS (fun k => K k && decide (k < q)) w c = kS K w (if c ≤ q then c else q)
  | 0 => by rw [if_pos (Nat.zero_le _)]; rfl
  | c + 1 => by
    show kS (fun k => K k && decide (k < q)) w c + (if (K c && decide (c < q)) = true then w c else 0) = _
    rw [kS_lo c]
    by_cases e : c < q
    · rw [if_pos (show c ≤ q by omega), if_pos (show c + 1 ≤ q by omega), decide_eq_true e, Bool.and_true]
      rfl
    · rw [decide_eq_false e, Bool.and_false, if_neg (show ¬ (false = true) by decide), Nat.add_zero, if_neg (show ¬ c + 1 ≤ q by omega)]
      by_cases e2 : c ≤ q
      · rw [if_pos e2, show c = q by omega]
      · rw [if_neg e2]
/-- what stands ahead of a KIND -/
theorem ah_sW {E : Nat → Nat} {G : Nat → Int32} {lt : Nat → Nat → Bool} {L : Nat → Nat → Nat} {a b k : Nat} (hk : k < 10) : bS E G L (fun j => lt j 0 && decide (j < k)) a b + (if brE E a b then bS E G L (fun j => lt j 1 && decide (j < k)) (a + 1) (b - 1) else 0) = sW (mG E G lt L a b) (2 * k) := by
  rw [sW_mG]
  unfold bS
  rw [kS_lo, kS_lo, if_neg (show ¬ 10 ≤ k by omega)]
theorem spn_s (g : Nat → Nat) {a m : Nat} (h : a ≤ m) : spn g a (m + 1) = spn g a m + g m := by
  rw [spn_split g h (Nat.le_succ m), spn_one]
theorem gO_le (E : Nat → Nat) (m : Nat) : gO E m ≤ 1 := by
  unfold gO
  split <;> omega
theorem spn_le {g : Nat → Nat} (h : ∀ m, g m ≤ 1) {a : Nat} : ∀ c, spn g a (a + c) ≤ c
  | 0 => by rw [Nat.add_zero, spn_0]; exact Nat.le_refl _
  | c + 1 => by
    rw [show a + (c + 1) = a + c + 1 by omega, spn_s g (by omega)]
    have := spn_le h (a := a) c
    have := h (a + c)
    omega
/-- where a pair's cut stands, its first PART's bare words have passed -/
theorem cut_bw {E : Nat → Nat} {G : Nat → Int32} {lt : Nat → Nat → Bool} {L : Nat → Nat → Nat} {A : Nat → Nat → Int32} {f a m p x : Nat} (hx : x < 450) (hm : m - a ≤ 40) (h : Rg E (mG E G lt L) L A f a m p x) : spn (gO E) a m = bwW A 40 (nI x) := (Rg_cnt 40 a m p x hx (Rg_fu f a m p x h 40 hm)).2
