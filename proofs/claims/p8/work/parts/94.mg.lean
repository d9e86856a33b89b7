section
theorem dgN_of {v t : Nat} (h1 : 1 ≤ t) (h4 : t ≤ 4) (hv : v < 10 ^ t) (hl : t = 1 ∨ 10 ^ (t - 1) ≤ v) : dgN (nI v) = t := by
  have h9 : v < 10 ^ 4 := Nat.lt_of_lt_of_le hv (Nat.pow_le_pow_right (n := 10) (i := t) (j := 4) (by decide) h4)
  have c10 : nI v < c8 10 ↔ v < 10 := nI_ltI (b := 10) (by omega) (by decide)
  have c100 : nI v < c8 100 ↔ v < 100 := nI_ltI (b := 100) (by omega) (by decide)
  have c1000 : nI v < (Int16.ofInt 1000).toInt32 ↔ v < 1000 := nI_ltI (b := 1000) (by omega) (by decide)
  unfold dgN
  simp only [c10, c100, c1000]
  match t, h1, h4 with
  | 1, _, _ => rw [if_pos (show v < 10 from hv)]
  | 2, _, _ => rw [if_neg (by have := hl.resolve_left (by decide); omega), if_pos (show v < 100 from hv)]
  | 3, _, _ => rw [if_neg (by have := hl.resolve_left (by decide); omega), if_neg (by have := hl.resolve_left (by decide); omega), if_pos (show v < 1000 from hv)]
  | 4, _, _ => rw [if_neg (by have := hl.resolve_left (by decide); omega), if_neg (by have := hl.resolve_left (by decide); omega), if_neg (by have := hl.resolve_left (by decide); omega)]
  | t + 5, _, h => exact absurd h (by omega)
theorem numAll_at {E : Nat → Nat} : ∀ (c k x : Nat), numAll E c k = true → k ≤ x → x < k + c → 10 ≤ E x ∧ E x ≤ 19
  | 0, k, x, _, h1, h2 => absurd h2 (by omega)
  | c + 1, k, x, h, h1, h2 => by
    have h' : ((decide (10 ≤ E k) && decide (E k ≤ 19)) && numAll E c (k + 1)) = true := h
    simp only [Bool.and_eq_true, decide_eq_true_eq] at h'
    by_cases e : x = k
    · subst e
      exact h'.1
    · exact numAll_at c (k + 1) x h'.2 (by omega) (by omega)
theorem isNumB_at {E : Nat → Nat} {a b : Nat} (h : isNumB E a b = true) : b - a ≤ 4 ∧ (E a ≠ 10 ∨ b - a = 1) ∧ ∀ x, a ≤ x → x < b → 10 ≤ E x ∧ E x ≤ 19 := by
  unfold isNumB at h
  simp only [Bool.and_eq_true, Bool.or_eq_true, decide_eq_true_eq] at h
  exact ⟨h.1.1, h.1.2, fun x h1 h2 => numAll_at (b - a) a x h.2 h1 (by omega)⟩
set_option maxHeartbeats 1000000 in
set_option maxRecDepth 20000 in
theorem takN (f : Nat → zC) (o : Nat → Int32) (A0 : Nat → Nat → Int32) (J : Nat → Nat → Int64) {A : Nat → Nat → Int32} {h : Nat} (hh : h ≤ 20) (hw : nnW h (A0 8)) (eE : A 8 = A0 8) {a b q p fu : Nat} {x7 x1 x2 : Int32} {x3 : Int64} (hb : b ≤ h) (hb4 : b - a ≤ 4) (hab : a < b) (hd : ∀ x, a ≤ x → x < b → 10 ≤ eW A0 x ∧ eW A0 x ≤ 19) {n0 : Nat} {Q : Option Value → zW → Prop} (kk : ∀ v : Nat, v < 10 ^ (b - a) → (eW A0 a ≠ 10 → 10 ^ (b - a - 1) ≤ v) → zV (zMo (2 * (fu + 1) + 3) zX7_takes) false n0 0 0 203 [(10, .int (nI v)), (9, .int (nI b)), (8, .int (nI a)), (7, .int x7), (5, .long (lN p)), (0, .ref 76), (1, .int x1), (2, .int x2), (3, .long x3)] [] (wR f (upd o 29 (nI q)) A J) Q) : ∀ (c t x v : Nat), x + c = b → a + t = x → t ≤ 4 → v < 10 ^ t → (1 ≤ t → eW A0 a ≠ 10 → 10 ^ (t - 1) ≤ v) → ∀ {x11 : Int32}, x11 = nI x → zV (zMo (2 * (fu + 1) + 3) zX7_takes) false n0 0 0 172 [(11, .int x11), (10, .int (nI v)), (9, .int (nI b)), (8, .int (nI a)), (7, .int x7), (5, .long (lN p)), (0, .ref 76), (1, .int x1), (2, .int x2), (3, .long x3)] [] (wR f (upd o 29 (nI q)) A J) Q := by
  intro c
  induction c with
  | zero =>
    intro t x v hc ht ht4 hv hl x11 e11
    subst e11
    iterate 3 (refine zv_step (bX7_takes (2 * (fu + 1) + 3)) rfl rfl trivial ?_)
    refine zv_ift (nI_le (by omega) (by omega)) ?_
    refine zv_locals (l := [(11, .int (nI x)), (10, .int (nI v)), (9, .int (nI b)), (8, .int (nI a)), (7, .int x7), (5, .long (lN p)), (0, .ref 76), (1, .int x1), (2, .int x2), (3, .long x3)]) (l' := [(10, .int (nI v)), (9, .int (nI b)), (8, .int (nI a)), (7, .int x7), (5, .long (lN p)), (0, .ref 76), (1, .int x1), (2, .int x2), (3, .long x3)]) ?_ (kk v (by rw [show b - a = t by omega]; exact hv) (fun h => by rw [show b - a = t by omega]; exact hl (by omega) h))
    simp
  | succ c ih2 =>
    intro t x v hc ht ht4 hv hl x11 e11
    subst e11
    have hp4 : 10 ^ t ≤ 10 ^ 4 := Nat.pow_le_pow_right (by decide) ht4
    iterate 3 (refine zv_step (bX7_takes (2 * (fu + 1) + 3)) rfl rfl trivial ?_)
    refine zv_iff (fun h => absurd ((nI_leI (by omega) (by omega)).mp h) (by omega)) ?_
    iterate 6 (refine zv_step (bX7_takes (2 * (fu + 1) + 3)) rfl rfl trivial ?_)
    refine zv_iale (bX7_takes (2 * (fu + 1) + 3)) rfl rfl (vp_in_nI (by omega) (by decide)) (show A 8 (nI x).toNatClampNeg = nI (eW A0 (x)) by rw [nI_clamp (by omega), eE]; exact (eW_of hw (by omega)).1) ?_
    iterate 6 (refine zv_step (bX7_takes (2 * (fu + 1) + 3)) rfl rfl trivial ?_)
    obtain ⟨d1, d2⟩ := hd x (by omega) (by omega)
    have hp1 : 10 ^ (t + 1) = 10 * 10 ^ t := by rw [Nat.pow_succ, Nat.mul_comm]
    have e9 : c8 10 * nI v + nI (eW A0 x) - c8 10 = nI (10 * v + eW A0 x - 10) := by
      rw [show c8 10 = nI 10 from rfl, nI_mul, nI_add, nI_sub (by omega)]
    refine zv_locals (l := [(11, .int (nI x + Int32.ofInt 1)), (10, .int (c8 10 * nI v + nI (eW A0 x) - c8 10)), (9, .int (nI b)), (8, .int (nI a)), (7, .int x7), (5, .long (lN p)), (0, .ref 76), (1, .int x1), (2, .int x2), (3, .long x3)]) (l' := [(11, .int (nI x + Int32.ofInt 1)), (10, .int (c8 10 * nI v + nI (eW A0 x) - c8 10)), (9, .int (nI b)), (8, .int (nI a)), (7, .int x7), (5, .long (lN p)), (0, .ref 76), (1, .int x1), (2, .int x2), (3, .long x3)]) (fun q h => h) ?_
    rw [e9]
    refine ih2 (t + 1) (x + 1) (10 * v + eW A0 x - 10) (by omega) (by omega) (by omega) (by omega) (fun _ h => ?_) (nI_1 x)
    cases t with
    | zero =>
      have : x = a := by omega
      subst this
      show 1 ≤ _
      omega
    | succ t =>
      have h7 := hl (by omega) h
      show 10 ^ (t + 1) ≤ _
      rw [show t + 1 - 1 = t by omega] at h7
      rw [Nat.pow_succ]
      omega
set_option maxHeartbeats 1000000 in
set_option maxRecDepth 20000 in
theorem tak2L (f : Nat → zC) (o : Nat → Int32) (A0 : Nat → Nat → Int32) (J : Nat → Nat → Int64) {h : Nat} (hh : h ≤ 20) (hw : nnW h (A0 8)) {s : Nat} (hJ : okJ h A0 s J) {fu : Nat} (ih : ∀ (i j p : Nat) (x y : Int32) (z : Int64), x = nI i → y = nI j → z = lN p → i < j → j ≤ h → j - i ≤ fu → p < lW J i j → ∀ (q : Nat) (A : Nat → Nat → Int32), (∀ r, 6 ≤ r → A r = A0 r) → tbI 400 (400 + q) A → q + (j - i) ≤ 44 → zK (2 * fu + 3) zX7_takes [.ref 76, .int x, .int y, .long z] (wR f (upd o 29 (nI q)) A J) (fun r w' => ∃ (q1 : Nat) (A' : Nat → Nat → Int32), r = some (.int (nI (400 + q1))) ∧ w' = (wR f (upd o 29 (nI (q1 + 1))) A' J) ∧ tkF A q A' q1 (j - i) ∧ Rd (eW A0) (mW A0 s (lW J)) (lW J) A' fu i j p (400 + q1))) {k a b p : Nat} (k2 : 2 ≤ k) (k6 : k ≤ 6) (hb : b ≤ h) (hf : b - a ≤ fu + 1) {A : Nat → Nat → Int32} (h6 : ∀ r, 6 ≤ r → A r = A0 r) {q : Nat} (hT : tbI 400 (400 + q) A) (hq : q + (b - a) ≤ 44) (hpp : p < pfS (eW A0) (lW J) k a b (b - 1 - (a + 1))) (hp9 : p ≤ cap) {x4 : Int64} {n0 : Nat} : ∀ (w c l : Nat), a + 1 + c + w = b - 1 → a + 1 + c ≤ 20 → p = pfS (eW A0) (lW J) k a b c + l → ∀ {x8 : Int32} {x6 : Int64}, x8 = nI (a + 1 + c) → x6 = lN l → zV (zMo (2 * fu + 4) zX7_takesTwo) false n0 0 0 9 [(8, .int x8), (6, .long x6), (0, .ref 76), (1, .int (nI k)), (2, .int (nI a)), (3, .int (nI b)), (4, .long x4)] [] (wR f (upd o 29 (nI q)) A J) (fun r w' => ∃ (q1 : Nat) (A' : Nat → Nat → Int32), r = some (.int (nI (400 + q1))) ∧ w' = (wR f (upd o 29 (nI (q1 + 1))) A' J) ∧ tkF A q A' q1 (b - a) ∧ A' 0 (400 + q1) = nI k ∧ Rk (eW A0) (lW J) A' (Rd (eW A0) (mW A0 s (lW J)) (lW J) A' fu) k a b p (400 + q1)) := by
  have eE : A 8 = A0 8 := h6 8 (by decide)
  intro w
  induction w with
  | zero =>
    intro c l hc hc2 hp x8 x6 e8 e6
    rw [show b - 1 - (a + 1) = c by omega] at hpp
    omega
  | succ w ih2 =>
    intro c l hc hc2 hp x8 x6 e8 e6
    subst e8 e6
    iterate 3 (refine zv_step (bX7_takesTwo (2 * fu + 4)) rfl rfl trivial ?_)
    refine zv_iale (bX7_takesTwo (2 * fu + 4)) rfl rfl (vp_in_nI (by omega) (by decide)) (show A 8 (nI (a + 1 + c)).toNatClampNeg = nI (eW A0 (a + 1 + c)) by rw [nI_clamp (by omega), eE]; exact (eW_of hw (by omega)).1) ?_
    iterate 4 (refine zv_step (bX7_takesTwo (2 * fu + 4)) rfl rfl trivial ?_)
    refine zv_ifb (fun h20 => ?_) (fun h20 => ?_)
    · have q20 : ¬ eW A0 (a + 1 + c) = 18 + k := fun e => h20 (by show nI (eW A0 (a + 1 + c)) = nI 18 + nI k; rw [nI_add, e])
      iterate 4 (refine zv_step (bX7_takesTwo (2 * fu + 4)) rfl rfl trivial ?_)
      refine zv_iale (bX7_takesTwo (2 * fu + 4)) rfl rfl (vp_in_nI (by omega) (by decide)) (show A 8 (nI (a + 1 + c)).toNatClampNeg = nI (eW A0 (a + 1 + c)) by rw [nI_clamp (by omega), eE]; exact (eW_of hw (by omega)).1) ?_
      iterate 4 (refine zv_step (bX7_takesTwo (2 * fu + 4)) rfl rfl trivial ?_)
      refine zv_ift (fun e => q20 ((nI_eq (by have := (eW_of hw (show a + 1 + c < h by omega)).2; omega) (by omega)).mp (show nI (eW A0 (a + 1 + c)) = nI (18 + k) by rw [← nI_add]; exact e))) ?_
      iterate 5 (refine zv_step (bX7_takesTwo (2 * fu + 4)) rfl rfl trivial ?_)
      have e9 : pfS (eW A0) (lW J) k a b (c + 1) = pfS (eW A0) (lW J) k a b c + 0 := by
        show _ + _ = _
        rw [if_neg q20]
      refine zv_locals (l := [(8, .int (nI (a + 1 + c) + Int32.ofInt 1)), (6, .long (lN l - lN 0)), (0, .ref 76), (1, .int (nI k)), (2, .int (nI a)), (3, .int (nI b)), (4, .long x4)]) (l' := [(8, .int (nI (a + 1 + c) + Int32.ofInt 1)), (6, .long (lN l - lN 0)), (0, .ref 76), (1, .int (nI k)), (2, .int (nI a)), (3, .int (nI b)), (4, .long x4)]) (fun q h => h) (ih2 (c + 1) (l - 0) (by omega) (by omega) (by rw [e9]; omega) (nI_1 (a + 1 + c)) (lN_sub (by omega)))
    · have q20 : eW A0 (a + 1 + c) = 18 + k := by
        have h9 : nI (eW A0 (a + 1 + c)) = nI 18 + nI k := Decidable.not_not.mp h20
        have := (eW_of hw (show a + 1 + c < h by omega)).2
        rwa [nI_add, nI_eq (by omega) (by omega)] at h9
      iterate 8 (refine zv_step (bX7_takesTwo (2 * fu + 4)) rfl rfl trivial ?_)
      refine zv_lale (bX7_takesTwo (2 * fu + 4)) rfl rfl (show vp_in (c8 21 * nI a + nI (a + 1 + c)) 441 by rw [ix21]; exact vp_in_nI (by omega) (by decide)) (show J 1 (c8 21 * nI a + nI (a + 1 + c)).toNatClampNeg = lN (lW J (a) (a + 1 + c)) by rw [ix21, nI_clamp (by omega)]; exact (okS_l (hJ (a) (a + 1 + c) (by omega) (by omega))).2.2) ?_
      iterate 9 (refine zv_step (bX7_takesTwo (2 * fu + 4)) rfl rfl trivial ?_)
      refine zv_lale (bX7_takesTwo (2 * fu + 4)) rfl rfl (show vp_in (c8 21 * (nI (a + 1 + c) + Int32.ofInt 1) + nI b) 441 by rw [show nI (a + 1 + c) + Int32.ofInt 1 = nI (a + 1 + c + 1) from nI_1 _, ix21]; exact vp_in_nI (by omega) (by decide)) (show J 1 (c8 21 * (nI (a + 1 + c) + Int32.ofInt 1) + nI b).toNatClampNeg = lN (lW J (a + 1 + c + 1) (b)) by rw [show nI (a + 1 + c) + Int32.ofInt 1 = nI (a + 1 + c + 1) from nI_1 _, ix21, nI_clamp (by omega)]; exact (okS_l (hJ (a + 1 + c + 1) (b) (by omega) (by omega))).2.2) ?_
      refine zv_S2 (bX7_takesTwo (2 * fu + 4)) rfl rfl rfl rfl ⟨rfl, rfl, rfl⟩ ⟨by show 0 + 1 ≤ 2 * fu + 4; omega, by show 8 + (4 + 11) + 64 * (0) ≤ 64 * (2 * fu + 4); omega⟩ ⟨Nat.zero_le _, Nat.zero_le _⟩ (mMul _ (okS_l (hJ a (a + 1 + c) (by omega) (by omega))).2.1 (okS_l (hJ (a + 1 + c + 1) b (by omega) (by omega))).2.1) ?_
      rintro _ _ ⟨rfl, rfl⟩
      iterate 2 (refine zv_step (bX7_takesTwo (2 * fu + 4)) rfl rfl trivial ?_)
      refine zv_ifb (fun h55 => ?_) (fun h55 => ?_)
      · have q55 : l < (tmW (lW J a (a + 1 + c)) (lW J (a + 1 + c + 1) b)) := by
          have h9 : lN l < lN (tmW (lW J a (a + 1 + c)) (lW J (a + 1 + c + 1) b)) := (lg_cmp_lt _ _).mp h55
          have := (tmW_le (lW J a (a + 1 + c)) (lW J (a + 1 + c + 1) b)).1
          rwa [lN_ltJ (by unfold cap at *; omega) (by unfold cap at *; omega)] at h9
        obtain ⟨lb0, lb1⟩ : 0 < lW J (a + 1 + c + 1) b ∧ l / lW J (a + 1 + c + 1) b < lW J a (a + 1 + c) := by
          have ht := (tmW_le (lW J a (a + 1 + c)) (lW J (a + 1 + c + 1) b)).2
          have h0 : 0 < lW J (a + 1 + c + 1) b := by
            rcases Nat.eq_zero_or_pos (lW J (a + 1 + c + 1) b) with e | e
            · rw [e, Nat.mul_zero] at ht
              rw [e] at q55
              omega
            · exact e
          exact ⟨h0, (Nat.div_lt_iff_lt_mul h0).mpr (by omega)⟩
        have lb2 : l % lW J (a + 1 + c + 1) b < lW J (a + 1 + c + 1) b := Nat.mod_lt _ lb0
        have capb := (okS_l (hJ (a + 1 + c + 1) b (by omega) (by omega))).2.1
        have hl9 : l < 2 ^ 62 := by have := (tmW_le (lW J a (a + 1 + c)) (lW J (a + 1 + c + 1) b)).1; unfold cap at *; omega
        iterate 9 (refine zv_step (bX7_takesTwo (2 * fu + 4)) rfl rfl trivial ?_)
        refine zv_lale (bX7_takesTwo (2 * fu + 4)) rfl rfl (show vp_in (c8 21 * (nI (a + 1 + c) + Int32.ofInt 1) + nI b) 441 by rw [show nI (a + 1 + c) + Int32.ofInt 1 = nI (a + 1 + c + 1) from nI_1 _, ix21]; exact vp_in_nI (by omega) (by decide)) (show J 1 (c8 21 * (nI (a + 1 + c) + Int32.ofInt 1) + nI b).toNatClampNeg = lN (lW J (a + 1 + c + 1) (b)) by rw [show nI (a + 1 + c) + Int32.ofInt 1 = nI (a + 1 + c + 1) from nI_1 _, ix21, nI_clamp (by omega)]; exact (okS_l (hJ (a + 1 + c + 1) (b) (by omega) (by omega))).2.2) ?_
        iterate 6 (refine zv_step (bX7_takesTwo (2 * fu + 4)) rfl rfl trivial ?_)
        refine zv_step (bX7_takesTwo (2 * fu + 4)) rfl rfl (fun e => absurd ((lN_eqJ (b := 0) (by unfold cap at capb; omega) (by decide)).mp e) (by omega)) ?_
        refine zv_V3 (bX7_takesTwo (2 * fu + 4)) rfl rfl rfl rfl rfl rfl rfl ⟨rfl, rfl, rfl⟩ ⟨by show 2 * fu + 3 + 1 ≤ 2 * fu + 4; omega, by show 8 + (12 + 11) + 64 * (2 * fu + 3) ≤ 64 * (2 * fu + 4); omega⟩ ⟨Nat.zero_le _, Nat.zero_le _⟩ (ih a (a + 1 + c) (l / lW J (a + 1 + c + 1) b) _ _ _ rfl rfl (lN_divJ hl9 (by unfold cap at capb; omega)) (by omega) (by omega) (by omega) lb1 q A h6 hT (by omega)) ?_
        rintro _ _ ⟨q1, A1, rfl, rfl, k1, r1⟩
        iterate 12 (refine zv_step (bX7_takesTwo (2 * fu + 4)) rfl rfl trivial ?_)
        refine zv_step (bX7_takesTwo (2 * fu + 4)) rfl rfl (fun e => absurd ((lN_eqJ (b := 0) (by unfold cap at capb; omega) (by decide)).mp e) (by omega)) ?_
        refine zv_V3 (bX7_takesTwo (2 * fu + 4)) rfl rfl rfl rfl rfl rfl rfl ⟨rfl, rfl, rfl⟩ ⟨by show 2 * fu + 3 + 1 ≤ 2 * fu + 4; omega, by show 8 + (12 + 11) + 64 * (2 * fu + 3) ≤ 64 * (2 * fu + 4); omega⟩ ⟨Nat.zero_le _, Nat.zero_le _⟩ (ih (a + 1 + c + 1) b (l % lW J (a + 1 + c + 1) b) _ _ _ (nI_1 _) rfl (show lN l - lN l / lN (lW J (a + 1 + c + 1) b) * lN (lW J (a + 1 + c + 1) b) = lN (l % lW J (a + 1 + c + 1) b) by rw [lN_divJ hl9 (by unfold cap at capb; omega), lN_mul, lN_sub (Nat.div_mul_le_self _ _)]; congr 1; have := Nat.div_add_mod l (lW J (a + 1 + c + 1) b); rw [Nat.mul_comm] at this; omega) (by omega) (by omega) (by omega) lb2 (q1 + 1) A1 (fun r hr => (k1.1 r hr).trans (h6 r hr)) k1.2.1 (by have := k1.2.2.2.2.1; omega)) ?_
        rintro _ _ ⟨q2, A2, rfl, rfl, k9, r2⟩
        refine zv_V4 (bX7_takesTwo (2 * fu + 4)) rfl rfl rfl rfl rfl rfl rfl ⟨rfl, rfl, rfl⟩ ⟨by show 1 + 1 ≤ 2 * fu + 4; omega, by show 8 + (5 + 11) + 64 * (1) ≤ 64 * (2 * fu + 4); omega⟩ ⟨Nat.zero_le _, Nat.zero_le _⟩ (mMakes f o A2 J (q := q2 + 1) (by have := k1.2.2.2.2.1; have := k9.2.2.2.2.1; have := k9.2.2.2.1; omega) (fun _ => vp_in_nI (by have := k9.2.2.2.2.1; have := k1.2.2.2.2.1; have := k9.2.2.2.1; omega) (by decide)) (fun _ => vp_in_nI (by have := k1.2.2.2.2.1; have := k9.2.2.2.2.1; have := k9.2.2.2.1; omega) (by decide))) ?_
        rintro _ _ ⟨rfl, rfl⟩
        have l1 := k1.2.2.2.2.1
        have l2 := k9.2.2.2.2.1
        have m1 := k1.2.2.2.1
        have m9 := k9.2.2.2.1
        have hK := tkF_bi k1 k9 (len := b - a) (k := k) (by omega) (by omega) (by omega) k2 k6
        refine zv_iret (bX7_takesTwo (2 * fu + 4)) rfl (Or.inl rfl) (Nat.zero_le _) (Nat.zero_le _) ⟨q2 + 1, _, rfl, rfl, hK, upd_self _ _ _, Or.inr (Or.inr (Or.inr (Or.inr (Or.inr ⟨k2, k6, c, l, 400 + q1, 400 + q2, by omega, q20, hp, q55, by omega, by omega, by omega, by omega, upd_self _ _ _, upd_self _ _ _, ?_, ?_⟩))))⟩
        · exact Rd_fr fu _ _ _ _ (by omega) (fun r hr x x1 x2 => (setsA_o (by omega)).trans (k9.2.2.1 r x (by omega))) r1
        · exact Rd_fr fu _ _ _ _ (by omega) (fun r hr x x1 x2 => setsA_o (by omega)) r2
      · have q55 : ¬ l < (tmW (lW J a (a + 1 + c)) (lW J (a + 1 + c + 1) b)) := fun e => h55 ((lg_cmp_lt _ _).mpr (by
          have := (tmW_le (lW J a (a + 1 + c)) (lW J (a + 1 + c + 1) b)).1
          rwa [lN_ltJ (by unfold cap at *; omega) (by unfold cap at *; omega)]))
        iterate 4 (refine zv_step (bX7_takesTwo (2 * fu + 4)) rfl rfl trivial ?_)
        refine zv_iale (bX7_takesTwo (2 * fu + 4)) rfl rfl (vp_in_nI (by omega) (by decide)) (show A 8 (nI (a + 1 + c)).toNatClampNeg = nI (eW A0 (a + 1 + c)) by rw [nI_clamp (by omega), eE]; exact (eW_of hw (by omega)).1) ?_
        iterate 4 (refine zv_step (bX7_takesTwo (2 * fu + 4)) rfl rfl trivial ?_)
        refine zv_iff (fun h => h (show nI (eW A0 (a + 1 + c)) = nI 18 + nI k by rw [nI_add, q20])) ?_
        iterate 7 (refine zv_step (bX7_takesTwo (2 * fu + 4)) rfl rfl trivial ?_)
        refine zv_lale (bX7_takesTwo (2 * fu + 4)) rfl rfl (show vp_in (c8 21 * nI a + nI (a + 1 + c)) 441 by rw [ix21]; exact vp_in_nI (by omega) (by decide)) (show J 1 (c8 21 * nI a + nI (a + 1 + c)).toNatClampNeg = lN (lW J (a) (a + 1 + c)) by rw [ix21, nI_clamp (by omega)]; exact (okS_l (hJ (a) (a + 1 + c) (by omega) (by omega))).2.2) ?_
        iterate 9 (refine zv_step (bX7_takesTwo (2 * fu + 4)) rfl rfl trivial ?_)
        refine zv_lale (bX7_takesTwo (2 * fu + 4)) rfl rfl (show vp_in (c8 21 * (nI (a + 1 + c) + Int32.ofInt 1) + nI b) 441 by rw [show nI (a + 1 + c) + Int32.ofInt 1 = nI (a + 1 + c + 1) from nI_1 _, ix21]; exact vp_in_nI (by omega) (by decide)) (show J 1 (c8 21 * (nI (a + 1 + c) + Int32.ofInt 1) + nI b).toNatClampNeg = lN (lW J (a + 1 + c + 1) (b)) by rw [show nI (a + 1 + c) + Int32.ofInt 1 = nI (a + 1 + c + 1) from nI_1 _, ix21, nI_clamp (by omega)]; exact (okS_l (hJ (a + 1 + c + 1) (b) (by omega) (by omega))).2.2) ?_
        refine zv_S2 (bX7_takesTwo (2 * fu + 4)) rfl rfl rfl rfl ⟨rfl, rfl, rfl⟩ ⟨by show 0 + 1 ≤ 2 * fu + 4; omega, by show 8 + (4 + 11) + 64 * (0) ≤ 64 * (2 * fu + 4); omega⟩ ⟨Nat.zero_le _, Nat.zero_le _⟩ (mMul _ (okS_l (hJ a (a + 1 + c) (by omega) (by omega))).2.1 (okS_l (hJ (a + 1 + c + 1) b (by omega) (by omega))).2.1) ?_
        rintro _ _ ⟨rfl, rfl⟩
        iterate 5 (refine zv_step (bX7_takesTwo (2 * fu + 4)) rfl rfl trivial ?_)
        have e9 : pfS (eW A0) (lW J) k a b (c + 1) = pfS (eW A0) (lW J) k a b c + (tmW (lW J a (a + 1 + c)) (lW J (a + 1 + c + 1) b)) := by
          show _ + _ = _
          rw [if_pos q20]
        refine zv_locals (l := [(8, .int (nI (a + 1 + c) + Int32.ofInt 1)), (6, .long (lN l - lN (tmW (lW J a (a + 1 + c)) (lW J (a + 1 + c + 1) b)))), (0, .ref 76), (1, .int (nI k)), (2, .int (nI a)), (3, .int (nI b)), (4, .long x4)]) (l' := [(8, .int (nI (a + 1 + c) + Int32.ofInt 1)), (6, .long (lN l - lN (tmW (lW J a (a + 1 + c)) (lW J (a + 1 + c + 1) b)))), (0, .ref 76), (1, .int (nI k)), (2, .int (nI a)), (3, .int (nI b)), (4, .long x4)]) (fun q h => h) (ih2 (c + 1) (l - (tmW (lW J a (a + 1 + c)) (lW J (a + 1 + c + 1) b))) (by omega) (by omega) (by rw [e9]; omega) (nI_1 (a + 1 + c)) (lN_sub (by omega)))
set_option maxHeartbeats 1000000 in
set_option maxRecDepth 20000 in
theorem mTakes2 (f : Nat → zC) (o : Nat → Int32) (A0 : Nat → Nat → Int32) (J : Nat → Nat → Int64) {h : Nat} (hh : h ≤ 20) (hw : nnW h (A0 8)) {s : Nat} (hJ : okJ h A0 s J) {fu : Nat} (ih : ∀ (i j p : Nat) (x y : Int32) (z : Int64), x = nI i → y = nI j → z = lN p → i < j → j ≤ h → j - i ≤ fu → p < lW J i j → ∀ (q : Nat) (A : Nat → Nat → Int32), (∀ r, 6 ≤ r → A r = A0 r) → tbI 400 (400 + q) A → q + (j - i) ≤ 44 → zK (2 * fu + 3) zX7_takes [.ref 76, .int x, .int y, .long z] (wR f (upd o 29 (nI q)) A J) (fun r w' => ∃ (q1 : Nat) (A' : Nat → Nat → Int32), r = some (.int (nI (400 + q1))) ∧ w' = (wR f (upd o 29 (nI (q1 + 1))) A' J) ∧ tkF A q A' q1 (j - i) ∧ Rd (eW A0) (mW A0 s (lW J)) (lW J) A' fu i j p (400 + q1))) {k a b p : Nat} (k2 : 2 ≤ k) (k6 : k ≤ 6) (hab : a < b) (hb : b ≤ h) (hf : b - a ≤ fu + 1) {A : Nat → Nat → Int32} (h6 : ∀ r, 6 ≤ r → A r = A0 r) {q : Nat} (hT : tbI 400 (400 + q) A) (hq : q + (b - a) ≤ 44) (hpw : p < wi (eW A0) (A0 6) (lW J) k a b) (hp9 : p ≤ cap) {x1 x2 x3 : Int32} {z : Int64} (e1 : x1 = nI k) (e2 : x2 = nI a) (e3 : x3 = nI b) (ez : z = lN p) : zK (2 * fu + 4) zX7_takesTwo [.ref 76, .int x1, .int x2, .int x3, .long z] (wR f (upd o 29 (nI q)) A J) (fun r w' => ∃ (q1 : Nat) (A' : Nat → Nat → Int32), r = some (.int (nI (400 + q1))) ∧ w' = (wR f (upd o 29 (nI (q1 + 1))) A' J) ∧ tkF A q A' q1 (b - a) ∧ A' 0 (400 + q1) = nI k ∧ Rk (eW A0) (lW J) A' (Rd (eW A0) (mW A0 s (lW J)) (lW J) A' fu) k a b p (400 + q1)) := by
  subst e1 e2 e3 ez
  have hpp : p < pfS (eW A0) (lW J) k a b (b - 1 - (a + 1)) := by
    rw [wi_2 hab k2 k6] at hpw
    have := wiP_pf (E := eW A0) (L := lW J) (k := k) (a := a) (b := b) (b - 1 - (a + 1)) 0 0 (Nat.zero_le _)
    rw [Nat.zero_add] at this
    exact Nat.lt_of_lt_of_le hpw this
  have hab2 : a + 2 < b := by
    rcases Nat.lt_or_ge (a + 2) b with e | e
    · exact e
    · rw [show b - 1 - (a + 1) = 0 by omega] at hpp
      exact absurd hpp (by show ¬ p < 0; omega)
  refine zK_of qX7_takesTwo (by decide +kernel) rfl ?_
  iterate 6 (refine zv_step (bX7_takesTwo (2 * fu + 4)) rfl rfl trivial ?_)
  refine zv_locals (l := [(8, .int (nI a + Int32.ofInt 1)), (6, .long (lN p)), (0, .ref 76), (1, .int (nI k)), (2, .int (nI a)), (3, .int (nI b)), (4, .long (lN p))]) (l' := [(8, .int (nI a + Int32.ofInt 1)), (6, .long (lN p)), (0, .ref 76), (1, .int (nI k)), (2, .int (nI a)), (3, .int (nI b)), (4, .long (lN p))]) (fun q h => h) (tak2L f o A0 J hh hw hJ ih k2 k6 hb hf h6 hT hq hpp hp9 (b - 1 - (a + 1)) 0 p (by omega) (by omega) (by show p = 0 + p; omega) (nI_1 a) rfl)
set_option maxHeartbeats 1000000 in
set_option maxRecDepth 20000 in
theorem takK0 (f : Nat → zC) (o : Nat → Int32) (A0 : Nat → Nat → Int32) (J : Nat → Nat → Int64) {h : Nat} (hh : h ≤ 20) (hw : nnW h (A0 8)) {s : Nat} (hJ : okJ h A0 s J) {fu : Nat} (ih : ∀ (i j p : Nat) (x y : Int32) (z : Int64), x = nI i → y = nI j → z = lN p → i < j → j ≤ h → j - i ≤ fu → p < lW J i j → ∀ (q : Nat) (A : Nat → Nat → Int32), (∀ r, 6 ≤ r → A r = A0 r) → tbI 400 (400 + q) A → q + (j - i) ≤ 44 → zK (2 * fu + 3) zX7_takes [.ref 76, .int x, .int y, .long z] (wR f (upd o 29 (nI q)) A J) (fun r w' => ∃ (q1 : Nat) (A' : Nat → Nat → Int32), r = some (.int (nI (400 + q1))) ∧ w' = (wR f (upd o 29 (nI (q1 + 1))) A' J) ∧ tkF A q A' q1 (j - i) ∧ Rd (eW A0) (mW A0 s (lW J)) (lW J) A' fu i j p (400 + q1))) {a b p : Nat} (hb : b ≤ h) (hf : b - a ≤ fu + 1) {A : Nat → Nat → Int32} (h6 : ∀ r, 6 ≤ r → A r = A0 r) {q : Nat} (hT : tbI 400 (400 + q) A) (hq : q + (b - a) ≤ 44) (hp9 : p ≤ cap) {x7 x1 x2 : Int32} {x3 : Int64} {n0 : Nat} (hp : p < wi (eW A0) (A0 6) (lW J) 0 a b) : zV (zMo (2 * (fu + 1) + 3) zX7_takes) false n0 0 0 148 [(9, .int (nI b)), (8, .int (nI a)), (7, .int x7), (5, .long (lN p)), (0, .ref 76), (1, .int x1), (2, .int x2), (3, .long x3)] [] (wR f (upd o 29 (nI q)) A J) (fun r w' => ∃ (q1 : Nat) (A' : Nat → Nat → Int32), r = some (.int (nI (400 + q1))) ∧ w' = (wR f (upd o 29 (nI (q1 + 1))) A' J) ∧ tkF A q A' q1 (b - a) ∧ A' 0 (400 + q1) = nI 0 ∧ Rk (eW A0) (lW J) A' (Rd (eW A0) (mW A0 s (lW J)) (lW J) A' fu) 0 a b p (400 + q1)) := by
  have eE : A 8 = A0 8 := h6 8 (by decide)
  have hab : a < b := by
    rcases Nat.lt_or_ge a b with e | e
    · exact e
    · rw [wi_n e] at hp
      omega
  rw [wi_0 hab] at hp
  split at hp
  case isFalse => omega
  rename_i hc
  iterate 5 (refine zv_step (bX7_takes (2 * (fu + 1) + 3)) rfl rfl trivial ?_)
  refine zv_iale (bX7_takes (2 * (fu + 1) + 3)) rfl rfl (vp_in_nI (by omega) (by decide)) (show A 8 (nI a).toNatClampNeg = nI (eW A0 (a)) by rw [nI_clamp (by omega), eE]; exact (eW_of hw (by omega)).1) ?_
  iterate 2 (refine zv_step (bX7_takes (2 * (fu + 1) + 3)) rfl rfl trivial ?_)
  refine zv_V4 (bX7_takes (2 * (fu + 1) + 3)) rfl rfl rfl rfl rfl rfl rfl ⟨rfl, rfl, rfl⟩ ⟨by show 1 + 1 ≤ 2 * (fu + 1) + 3; omega, by show 8 + (5 + 11) + 64 * (1) ≤ 64 * (2 * (fu + 1) + 3); omega⟩ ⟨Nat.zero_le _, Nat.zero_le _⟩ (mMakes f o A J (q := q) (by omega) vpm2 vpm2) ?_
  rintro _ _ ⟨rfl, rfl⟩
  refine zv_iret (bX7_takes (2 * (fu + 1) + 3)) rfl (Or.inl rfl) (Nat.zero_le _) (Nat.zero_le _) ⟨q, _, rfl, rfl, tkF_lf hT (by omega) (k := 0) (by decide) ⟨fun _ => ⟨eW A0 a, by omega, rfl⟩, fun h => absurd h (by decide)⟩ (by omega), upd_self _ _ _, Or.inl ⟨rfl, upd_self _ _ _, upd_self _ _ _⟩⟩
set_option maxHeartbeats 1000000 in
set_option maxRecDepth 20000 in
theorem takK1 (f : Nat → zC) (o : Nat → Int32) (A0 : Nat → Nat → Int32) (J : Nat → Nat → Int64) {h : Nat} (hh : h ≤ 20) (hw : nnW h (A0 8)) {s : Nat} (hJ : okJ h A0 s J) {fu : Nat} (ih : ∀ (i j p : Nat) (x y : Int32) (z : Int64), x = nI i → y = nI j → z = lN p → i < j → j ≤ h → j - i ≤ fu → p < lW J i j → ∀ (q : Nat) (A : Nat → Nat → Int32), (∀ r, 6 ≤ r → A r = A0 r) → tbI 400 (400 + q) A → q + (j - i) ≤ 44 → zK (2 * fu + 3) zX7_takes [.ref 76, .int x, .int y, .long z] (wR f (upd o 29 (nI q)) A J) (fun r w' => ∃ (q1 : Nat) (A' : Nat → Nat → Int32), r = some (.int (nI (400 + q1))) ∧ w' = (wR f (upd o 29 (nI (q1 + 1))) A' J) ∧ tkF A q A' q1 (j - i) ∧ Rd (eW A0) (mW A0 s (lW J)) (lW J) A' fu i j p (400 + q1))) {a b p : Nat} (hb : b ≤ h) (hf : b - a ≤ fu + 1) {A : Nat → Nat → Int32} (h6 : ∀ r, 6 ≤ r → A r = A0 r) {q : Nat} (hT : tbI 400 (400 + q) A) (hq : q + (b - a) ≤ 44) (hp9 : p ≤ cap) {x7 x1 x2 : Int32} {x3 : Int64} {n0 : Nat} (hp : p < wi (eW A0) (A0 6) (lW J) 1 a b) : zV (zMo (2 * (fu + 1) + 3) zX7_takes) false n0 0 0 165 [(9, .int (nI b)), (8, .int (nI a)), (7, .int x7), (5, .long (lN p)), (0, .ref 76), (1, .int x1), (2, .int x2), (3, .long x3)] [] (wR f (upd o 29 (nI q)) A J) (fun r w' => ∃ (q1 : Nat) (A' : Nat → Nat → Int32), r = some (.int (nI (400 + q1))) ∧ w' = (wR f (upd o 29 (nI (q1 + 1))) A' J) ∧ tkF A q A' q1 (b - a) ∧ A' 0 (400 + q1) = nI 1 ∧ Rk (eW A0) (lW J) A' (Rd (eW A0) (mW A0 s (lW J)) (lW J) A' fu) 1 a b p (400 + q1)) := by
  have eE : A 8 = A0 8 := h6 8 (by decide)
  have hab : a < b := by
    rcases Nat.lt_or_ge a b with e | e
    · exact e
    · rw [wi_n e] at hp
      omega
  rw [wi_1 hab] at hp
  split at hp
  case isFalse => omega
  rename_i hc
  iterate 4 (refine zv_step (bX7_takes (2 * (fu + 1) + 3)) rfl rfl trivial ?_)
  have hn := isNumB_at hc
  refine zv_locals (l := [(11, .int (nI a)), (10, .int (Int32.ofInt 0)), (9, .int (nI b)), (8, .int (nI a)), (7, .int x7), (5, .long (lN p)), (0, .ref 76), (1, .int x1), (2, .int x2), (3, .long x3)]) (l' := [(11, .int (nI a)), (10, .int (Int32.ofInt 0)), (9, .int (nI b)), (8, .int (nI a)), (7, .int x7), (5, .long (lN p)), (0, .ref 76), (1, .int x1), (2, .int x2), (3, .long x3)]) (fun q h => h) (takN f o A0 J hh hw eE hb hn.1 hab hn.2.2 (fun v hv hl => ?_) (b - a) 0 a 0 (by omega) rfl (by decide) (by decide) (fun h => absurd h (by decide)) rfl)
  iterate 5 (refine zv_step (bX7_takes (2 * (fu + 1) + 3)) rfl rfl trivial ?_)
  refine zv_V4 (bX7_takes (2 * (fu + 1) + 3)) rfl rfl rfl rfl rfl rfl rfl ⟨rfl, rfl, rfl⟩ ⟨by show 1 + 1 ≤ 2 * (fu + 1) + 3; omega, by show 8 + (5 + 11) + 64 * (1) ≤ 64 * (2 * (fu + 1) + 3); omega⟩ ⟨Nat.zero_le _, Nat.zero_le _⟩ (mMakes f o A J (q := q) (by omega) vpm2 vpm2) ?_
  rintro _ _ ⟨rfl, rfl⟩
  refine zv_iret (bX7_takes (2 * (fu + 1) + 3)) rfl (Or.inl rfl) (Nat.zero_le _) (Nat.zero_le _) ⟨q, _, rfl, rfl, tkF_lf hT (by omega) (k := 1) (by decide) ⟨fun h => absurd h (by decide), fun _ => ⟨v, by have : 10 ^ (b - a) ≤ 10 ^ 4 := Nat.pow_le_pow_right (by decide) hn.1; omega, rfl⟩⟩ (by omega), upd_self _ _ _, Or.inr (Or.inl ⟨rfl, upd_self _ _ _, upd_self _ _ _, ?_⟩)⟩
  show dgN (upd (A 1) (400 + q) (nI v) (400 + q)) = b - a
  rw [upd_self]
  exact dgN_of (by omega) hn.1 hv (hn.2.1.symm.imp id hl)
set_option maxHeartbeats 1000000 in
set_option maxRecDepth 20000 in
theorem takK7 (f : Nat → zC) (o : Nat → Int32) (A0 : Nat → Nat → Int32) (J : Nat → Nat → Int64) {h : Nat} (hh : h ≤ 20) (hw : nnW h (A0 8)) {s : Nat} (hJ : okJ h A0 s J) {fu : Nat} (ih : ∀ (i j p : Nat) (x y : Int32) (z : Int64), x = nI i → y = nI j → z = lN p → i < j → j ≤ h → j - i ≤ fu → p < lW J i j → ∀ (q : Nat) (A : Nat → Nat → Int32), (∀ r, 6 ≤ r → A r = A0 r) → tbI 400 (400 + q) A → q + (j - i) ≤ 44 → zK (2 * fu + 3) zX7_takes [.ref 76, .int x, .int y, .long z] (wR f (upd o 29 (nI q)) A J) (fun r w' => ∃ (q1 : Nat) (A' : Nat → Nat → Int32), r = some (.int (nI (400 + q1))) ∧ w' = (wR f (upd o 29 (nI (q1 + 1))) A' J) ∧ tkF A q A' q1 (j - i) ∧ Rd (eW A0) (mW A0 s (lW J)) (lW J) A' fu i j p (400 + q1))) {a b p : Nat} (hb : b ≤ h) (hf : b - a ≤ fu + 1) {A : Nat → Nat → Int32} (h6 : ∀ r, 6 ≤ r → A r = A0 r) {q : Nat} (hT : tbI 400 (400 + q) A) (hq : q + (b - a) ≤ 44) (hp9 : p ≤ cap) {x7 x1 x2 : Int32} {x3 : Int64} {n0 : Nat} (hp : p < wi (eW A0) (A0 6) (lW J) 7 a b) : zV (zMo (2 * (fu + 1) + 3) zX7_takes) false n0 0 0 215 [(9, .int (nI b)), (8, .int (nI a)), (7, .int x7), (5, .long (lN p)), (0, .ref 76), (1, .int x1), (2, .int x2), (3, .long x3)] [] (wR f (upd o 29 (nI q)) A J) (fun r w' => ∃ (q1 : Nat) (A' : Nat → Nat → Int32), r = some (.int (nI (400 + q1))) ∧ w' = (wR f (upd o 29 (nI (q1 + 1))) A' J) ∧ tkF A q A' q1 (b - a) ∧ A' 0 (400 + q1) = nI 7 ∧ Rk (eW A0) (lW J) A' (Rd (eW A0) (mW A0 s (lW J)) (lW J) A' fu) 7 a b p (400 + q1)) := by
  have eE : A 8 = A0 8 := h6 8 (by decide)
  have hab : a < b := by
    rcases Nat.lt_or_ge a b with e | e
    · exact e
    · rw [wi_n e] at hp
      omega
  rw [wi_7 hab] at hp
  split at hp
  case isFalse => omega
  rename_i hc
  iterate 9 (refine zv_step (bX7_takes (2 * (fu + 1) + 3)) rfl rfl trivial ?_)
  refine zv_V3 (bX7_takes (2 * (fu + 1) + 3)) rfl rfl rfl rfl rfl rfl rfl ⟨rfl, rfl, rfl⟩ ⟨by show 2 * fu + 3 + 1 ≤ 2 * (fu + 1) + 3; omega, by show 8 + (12 + 11) + 64 * (2 * fu + 3) ≤ 64 * (2 * (fu + 1) + 3); omega⟩ ⟨Nat.zero_le _, Nat.zero_le _⟩ (ih (a + 1) (b) p _ _ _ (nI_1 a) rfl rfl (by omega) (by omega) (by omega) hp q A h6 hT (by omega)) ?_
  rintro _ _ ⟨q1, A1, rfl, rfl, k1, r1⟩
  have l1 := k1.2.2.2.2.1
  have m1 := k1.2.2.2.1
  iterate 1 (refine zv_step (bX7_takes (2 * (fu + 1) + 3)) rfl rfl trivial ?_)
  refine zv_V4 (bX7_takes (2 * (fu + 1) + 3)) rfl rfl rfl rfl rfl rfl rfl ⟨rfl, rfl, rfl⟩ ⟨by show 1 + 1 ≤ 2 * (fu + 1) + 3; omega, by show 8 + (5 + 11) + 64 * (1) ≤ 64 * (2 * (fu + 1) + 3); omega⟩ ⟨Nat.zero_le _, Nat.zero_le _⟩ (mMakes f o A1 J (q := q1 + 1) (by omega) (fun _ => vp_in_nI (by omega) (by decide)) vpm2) ?_
  rintro _ _ ⟨rfl, rfl⟩
  refine zv_iret (bX7_takes (2 * (fu + 1) + 3)) rfl (Or.inl rfl) (Nat.zero_le _) (Nat.zero_le _) ⟨q1 + 1, _, rfl, rfl, tkF_un k1 (by omega) (by omega) (by omega) (k := 7) (by decide) (by decide) ⟨fun h => absurd h (by decide), fun _ => rfl⟩, upd_self _ _ _, Or.inr (Or.inr (Or.inl ⟨rfl, 400 + q1, by omega, by omega, upd_self _ _ _, upd_self _ _ _, ?_⟩))⟩
  exact Rd_fr fu _ _ _ _ (by omega) (fun r hr x x1 x2 => setsA_o (by omega)) r1
set_option maxHeartbeats 1000000 in
set_option maxRecDepth 20000 in
theorem takK8 (f : Nat → zC) (o : Nat → Int32) (A0 : Nat → Nat → Int32) (J : Nat → Nat → Int64) {h : Nat} (hh : h ≤ 20) (hw : nnW h (A0 8)) {s : Nat} (hJ : okJ h A0 s J) {fu : Nat} (ih : ∀ (i j p : Nat) (x y : Int32) (z : Int64), x = nI i → y = nI j → z = lN p → i < j → j ≤ h → j - i ≤ fu → p < lW J i j → ∀ (q : Nat) (A : Nat → Nat → Int32), (∀ r, 6 ≤ r → A r = A0 r) → tbI 400 (400 + q) A → q + (j - i) ≤ 44 → zK (2 * fu + 3) zX7_takes [.ref 76, .int x, .int y, .long z] (wR f (upd o 29 (nI q)) A J) (fun r w' => ∃ (q1 : Nat) (A' : Nat → Nat → Int32), r = some (.int (nI (400 + q1))) ∧ w' = (wR f (upd o 29 (nI (q1 + 1))) A' J) ∧ tkF A q A' q1 (j - i) ∧ Rd (eW A0) (mW A0 s (lW J)) (lW J) A' fu i j p (400 + q1))) {a b p : Nat} (hb : b ≤ h) (hf : b - a ≤ fu + 1) {A : Nat → Nat → Int32} (h6 : ∀ r, 6 ≤ r → A r = A0 r) {q : Nat} (hT : tbI 400 (400 + q) A) (hq : q + (b - a) ≤ 44) (hp9 : p ≤ cap) {x7 x1 x2 : Int32} {x3 : Int64} {n0 : Nat} (hp : p < wi (eW A0) (A0 6) (lW J) 8 a b) : zV (zMo (2 * (fu + 1) + 3) zX7_takes) false n0 0 0 238 [(9, .int (nI b)), (8, .int (nI a)), (7, .int x7), (5, .long (lN p)), (0, .ref 76), (1, .int x1), (2, .int x2), (3, .long x3)] [] (wR f (upd o 29 (nI q)) A J) (fun r w' => ∃ (q1 : Nat) (A' : Nat → Nat → Int32), r = some (.int (nI (400 + q1))) ∧ w' = (wR f (upd o 29 (nI (q1 + 1))) A' J) ∧ tkF A q A' q1 (b - a) ∧ A' 0 (400 + q1) = nI 8 ∧ Rk (eW A0) (lW J) A' (Rd (eW A0) (mW A0 s (lW J)) (lW J) A' fu) 8 a b p (400 + q1)) := by
  have eE : A 8 = A0 8 := h6 8 (by decide)
  have hab : a < b := by
    rcases Nat.lt_or_ge a b with e | e
    · exact e
    · rw [wi_n e] at hp
      omega
  rw [wi_8 hab] at hp
  split at hp
  case isFalse => omega
  rename_i hc
  iterate 11 (refine zv_step (bX7_takes (2 * (fu + 1) + 3)) rfl rfl trivial ?_)
  refine zv_V3 (bX7_takes (2 * (fu + 1) + 3)) rfl rfl rfl rfl rfl rfl rfl ⟨rfl, rfl, rfl⟩ ⟨by show 2 * fu + 3 + 1 ≤ 2 * (fu + 1) + 3; omega, by show 8 + (12 + 11) + 64 * (2 * fu + 3) ≤ 64 * (2 * (fu + 1) + 3); omega⟩ ⟨Nat.zero_le _, Nat.zero_le _⟩ (ih (a + 1) (b - 1) p _ _ _ (nI_1 a) (sub_1 (by omega)) rfl (by omega) (by omega) (by omega) hp q A h6 hT (by omega)) ?_
  rintro _ _ ⟨q1, A1, rfl, rfl, k1, r1⟩
  have l1 := k1.2.2.2.2.1
  have m1 := k1.2.2.2.1
  iterate 1 (refine zv_step (bX7_takes (2 * (fu + 1) + 3)) rfl rfl trivial ?_)
  refine zv_V4 (bX7_takes (2 * (fu + 1) + 3)) rfl rfl rfl rfl rfl rfl rfl ⟨rfl, rfl, rfl⟩ ⟨by show 1 + 1 ≤ 2 * (fu + 1) + 3; omega, by show 8 + (5 + 11) + 64 * (1) ≤ 64 * (2 * (fu + 1) + 3); omega⟩ ⟨Nat.zero_le _, Nat.zero_le _⟩ (mMakes f o A1 J (q := q1 + 1) (by omega) (fun _ => vp_in_nI (by omega) (by decide)) vpm2) ?_
  rintro _ _ ⟨rfl, rfl⟩
  refine zv_iret (bX7_takes (2 * (fu + 1) + 3)) rfl (Or.inl rfl) (Nat.zero_le _) (Nat.zero_le _) ⟨q1 + 1, _, rfl, rfl, tkF_un k1 (by omega) (by omega) (by omega) (k := 8) (by decide) (by decide) ⟨fun h => absurd h (by decide), fun _ => rfl⟩, upd_self _ _ _, Or.inr (Or.inr (Or.inr (Or.inl ⟨rfl, 400 + q1, by omega, by omega, upd_self _ _ _, upd_self _ _ _, ?_⟩)))⟩
  exact Rd_fr fu _ _ _ _ (by omega) (fun r hr x x1 x2 => setsA_o (by omega)) r1
set_option maxHeartbeats 1000000 in
set_option maxRecDepth 20000 in
theorem takK9 (f : Nat → zC) (o : Nat → Int32) (A0 : Nat → Nat → Int32) (J : Nat → Nat → Int64) {h : Nat} (hh : h ≤ 20) (hw : nnW h (A0 8)) {s : Nat} (hJ : okJ h A0 s J) {fu : Nat} (ih : ∀ (i j p : Nat) (x y : Int32) (z : Int64), x = nI i → y = nI j → z = lN p → i < j → j ≤ h → j - i ≤ fu → p < lW J i j → ∀ (q : Nat) (A : Nat → Nat → Int32), (∀ r, 6 ≤ r → A r = A0 r) → tbI 400 (400 + q) A → q + (j - i) ≤ 44 → zK (2 * fu + 3) zX7_takes [.ref 76, .int x, .int y, .long z] (wR f (upd o 29 (nI q)) A J) (fun r w' => ∃ (q1 : Nat) (A' : Nat → Nat → Int32), r = some (.int (nI (400 + q1))) ∧ w' = (wR f (upd o 29 (nI (q1 + 1))) A' J) ∧ tkF A q A' q1 (j - i) ∧ Rd (eW A0) (mW A0 s (lW J)) (lW J) A' fu i j p (400 + q1))) {a b p : Nat} (hb : b ≤ h) (hf : b - a ≤ fu + 1) {A : Nat → Nat → Int32} (h6 : ∀ r, 6 ≤ r → A r = A0 r) {q : Nat} (hT : tbI 400 (400 + q) A) (hq : q + (b - a) ≤ 44) (hp9 : p ≤ cap) {x7 x1 x2 : Int32} {x3 : Int64} {n0 : Nat} (hp : p < wi (eW A0) (A0 6) (lW J) 9 a b) : zV (zMo (2 * (fu + 1) + 3) zX7_takes) false n0 0 0 263 [(9, .int (nI b)), (8, .int (nI a)), (7, .int x7), (5, .long (lN p)), (0, .ref 76), (1, .int x1), (2, .int x2), (3, .long x3)] [] (wR f (upd o 29 (nI q)) A J) (fun r w' => ∃ (q1 : Nat) (A' : Nat → Nat → Int32), r = some (.int (nI (400 + q1))) ∧ w' = (wR f (upd o 29 (nI (q1 + 1))) A' J) ∧ tkF A q A' q1 (b - a) ∧ A' 0 (400 + q1) = nI 9 ∧ Rk (eW A0) (lW J) A' (Rd (eW A0) (mW A0 s (lW J)) (lW J) A' fu) 9 a b p (400 + q1)) := by
  have eE : A 8 = A0 8 := h6 8 (by decide)
  have hab : a < b := by
    rcases Nat.lt_or_ge a b with e | e
    · exact e
    · rw [wi_n e] at hp
      omega
  rw [wi_9 hab] at hp
  split at hp
  case isFalse => omega
  rename_i hc
  iterate 5 (refine zv_step (bX7_takes (2 * (fu + 1) + 3)) rfl rfl trivial ?_)
  refine zv_iale (bX7_takes (2 * (fu + 1) + 3)) rfl rfl (vp_in_nI (by omega) (by decide)) (show A 8 (nI a).toNatClampNeg = nI (eW A0 (a)) by rw [nI_clamp (by omega), eE]; exact (eW_of hw (by omega)).1) ?_
  iterate 6 (refine zv_step (bX7_takes (2 * (fu + 1) + 3)) rfl rfl trivial ?_)
  refine zv_V3 (bX7_takes (2 * (fu + 1) + 3)) rfl rfl rfl rfl rfl rfl rfl ⟨rfl, rfl, rfl⟩ ⟨by show 2 * fu + 3 + 1 ≤ 2 * (fu + 1) + 3; omega, by show 8 + (12 + 11) + 64 * (2 * fu + 3) ≤ 64 * (2 * (fu + 1) + 3); omega⟩ ⟨Nat.zero_le _, Nat.zero_le _⟩ (ih (a + 2) (b) p _ _ _ (nI_2 a) rfl rfl (by omega) (by omega) (by omega) hp q A h6 hT (by omega)) ?_
  rintro _ _ ⟨q1, A1, rfl, rfl, k1, r1⟩
  have l1 := k1.2.2.2.2.1
  have m1 := k1.2.2.2.1
  iterate 1 (refine zv_step (bX7_takes (2 * (fu + 1) + 3)) rfl rfl trivial ?_)
  refine zv_V4 (bX7_takes (2 * (fu + 1) + 3)) rfl rfl rfl rfl rfl rfl rfl ⟨rfl, rfl, rfl⟩ ⟨by show 1 + 1 ≤ 2 * (fu + 1) + 3; omega, by show 8 + (5 + 11) + 64 * (1) ≤ 64 * (2 * (fu + 1) + 3); omega⟩ ⟨Nat.zero_le _, Nat.zero_le _⟩ (mMakes f o A1 J (q := q1 + 1) (by omega) (fun _ => vp_in_nI (by omega) (by decide)) vpm2) ?_
  rintro _ _ ⟨rfl, rfl⟩
  refine zv_iret (bX7_takes (2 * (fu + 1) + 3)) rfl (Or.inl rfl) (Nat.zero_le _) (Nat.zero_le _) ⟨q1 + 1, _, rfl, rfl, tkF_un k1 (by omega) (by omega) (by omega) (k := 9) (by decide) (by decide) ⟨fun _ => ⟨eW A0 a, by omega, rfl⟩, fun h => absurd h (by decide)⟩, upd_self _ _ _, Or.inr (Or.inr (Or.inr (Or.inr (Or.inl ⟨rfl, 400 + q1, by omega, by omega, upd_self _ _ _, upd_self _ _ _, ?_⟩))))⟩
  exact Rd_fr fu _ _ _ _ (by omega) (fun r hr x x1 x2 => setsA_o (by omega)) r1
set_option maxHeartbeats 1000000 in
set_option maxRecDepth 20000 in
theorem takKP (f : Nat → zC) (o : Nat → Int32) (A0 : Nat → Nat → Int32) (J : Nat → Nat → Int64) {h : Nat} (hh : h ≤ 20) (hw : nnW h (A0 8)) {s : Nat} (hJ : okJ h A0 s J) {fu : Nat} (ih : ∀ (i j p : Nat) (x y : Int32) (z : Int64), x = nI i → y = nI j → z = lN p → i < j → j ≤ h → j - i ≤ fu → p < lW J i j → ∀ (q : Nat) (A : Nat → Nat → Int32), (∀ r, 6 ≤ r → A r = A0 r) → tbI 400 (400 + q) A → q + (j - i) ≤ 44 → zK (2 * fu + 3) zX7_takes [.ref 76, .int x, .int y, .long z] (wR f (upd o 29 (nI q)) A J) (fun r w' => ∃ (q1 : Nat) (A' : Nat → Nat → Int32), r = some (.int (nI (400 + q1))) ∧ w' = (wR f (upd o 29 (nI (q1 + 1))) A' J) ∧ tkF A q A' q1 (j - i) ∧ Rd (eW A0) (mW A0 s (lW J)) (lW J) A' fu i j p (400 + q1))) {a b p : Nat} (hb : b ≤ h) (hf : b - a ≤ fu + 1) {A : Nat → Nat → Int32} (h6 : ∀ r, 6 ≤ r → A r = A0 r) {q : Nat} (hT : tbI 400 (400 + q) A) (hq : q + (b - a) ≤ 44) (hp9 : p ≤ cap) {x7 x1 x2 : Int32} {x3 : Int64} {n0 : Nat} {k cc : Nat} (k2 : 2 ≤ k) (k6 : k ≤ 6) (e7 : x7 = nI cc) (half2 : nI cc / Int32.ofInt 2 = nI k) (hp : p < wi (eW A0) (A0 6) (lW J) k a b) : zV (zMo (2 * (fu + 1) + 3) zX7_takes) false n0 0 0 291 [(9, .int (nI b)), (8, .int (nI a)), (7, .int x7), (5, .long (lN p)), (0, .ref 76), (1, .int x1), (2, .int x2), (3, .long x3)] [] (wR f (upd o 29 (nI q)) A J) (fun r w' => ∃ (q1 : Nat) (A' : Nat → Nat → Int32), r = some (.int (nI (400 + q1))) ∧ w' = (wR f (upd o 29 (nI (q1 + 1))) A' J) ∧ tkF A q A' q1 (b - a) ∧ A' 0 (400 + q1) = nI k ∧ Rk (eW A0) (lW J) A' (Rd (eW A0) (mW A0 s (lW J)) (lW J) A' fu) k a b p (400 + q1)) := by
  have eE : A 8 = A0 8 := h6 8 (by decide)
  have hab : a < b := by
    rcases Nat.lt_or_ge a b with e | e
    · exact e
    · rw [wi_n e] at hp
      omega
  iterate 3 (refine zv_step (bX7_takes (2 * (fu + 1) + 3)) rfl rfl trivial ?_)
  refine zv_step (bX7_takes (2 * (fu + 1) + 3)) rfl rfl (show ¬ Int32.ofInt 2 = 0 by decide) ?_
  iterate 3 (refine zv_step (bX7_takes (2 * (fu + 1) + 3)) rfl rfl trivial ?_)
  refine zv_V4 (bX7_takes (2 * (fu + 1) + 3)) rfl rfl rfl rfl rfl rfl rfl ⟨rfl, rfl, rfl⟩ ⟨by show 2 * fu + 4 + 1 ≤ 2 * (fu + 1) + 3; omega, by show 8 + (12 + 11) + 64 * (2 * fu + 4) ≤ 64 * (2 * (fu + 1) + 3); omega⟩ ⟨Nat.zero_le _, Nat.zero_le _⟩ (mTakes2 f o A0 J hh hw hJ ih k2 k6 hab hb hf h6 hT hq hp hp9 (by rw [e7]; exact half2) rfl rfl rfl) ?_
  rintro _ _ ⟨q1, A1, rfl, rfl, k1, c1, r1⟩
  refine zv_iret (bX7_takes (2 * (fu + 1) + 3)) rfl (Or.inl rfl) (Nat.zero_le _) (Nat.zero_le _) ⟨q1, A1, rfl, rfl, k1, c1, r1⟩
theorem mW_pos {A : Nat → Nat → Int32} {s : Nat} {L : Nat → Nat → Nat} {i j c p : Nat} (h : p < mW A s L i j c) : p < wi (eW A) (A 6) L (c / 2) (i + c % 2) (j - c % 2) ∧ (c % 2 = 0 ∨ (eW A i = 29 ∧ eW A (j - 1) = 30)) := by
  unfold mW at h
  split at h
  · rename_i e
    exact ⟨h, e.2⟩
  · omega
theorem mW_le {h : Nat} {A : Nat → Nat → Int32} {s : Nat} {J : Nat → Nat → Int64} (hJ : okJ h A s J) {i j : Nat} (hj : j ≤ h) (c : Nat) : mW A s (lW J) i j c ≤ cap := by
  unfold mW
  split
  · refine wi_le (J := J) (fun a b h1 h2 h3 h4 => ?_)
    have q := okS_l (hJ a b h2 (by omega))
    exact ⟨q.2.2, q.2.1⟩
  · exact Nat.zero_le _
set_option maxHeartbeats 1000000 in
set_option maxRecDepth 20000 in
theorem takL (f : Nat → zC) (o : Nat → Int32) (A0 : Nat → Nat → Int32) (J : Nat → Nat → Int64) {h : Nat} (hh : h ≤ 20) (hw : nnW h (A0 8)) {s : Nat} (hJ : okJ h A0 s J) {fu : Nat} (ih : ∀ (i j p : Nat) (x y : Int32) (z : Int64), x = nI i → y = nI j → z = lN p → i < j → j ≤ h → j - i ≤ fu → p < lW J i j → ∀ (q : Nat) (A : Nat → Nat → Int32), (∀ r, 6 ≤ r → A r = A0 r) → tbI 400 (400 + q) A → q + (j - i) ≤ 44 → zK (2 * fu + 3) zX7_takes [.ref 76, .int x, .int y, .long z] (wR f (upd o 29 (nI q)) A J) (fun r w' => ∃ (q1 : Nat) (A' : Nat → Nat → Int32), r = some (.int (nI (400 + q1))) ∧ w' = (wR f (upd o 29 (nI (q1 + 1))) A' J) ∧ tkF A q A' q1 (j - i) ∧ Rd (eW A0) (mW A0 s (lW J)) (lW J) A' fu i j p (400 + q1))) {i j p : Nat} (hij : i < j) (hj : j ≤ h) (hf : j - i ≤ fu + 1) (hps : p < sW (mW A0 s (lW J) i j) 20) (hp9 : p ≤ cap) {A : Nat → Nat → Int32} (h6 : ∀ r, 6 ≤ r → A r = A0 r) {q : Nat} (hT : tbI 400 (400 + q) A) (hq : q + (j - i) ≤ 44) {n0 : Nat} : ∀ (w c l : Nat), c + w = 20 → p = sW (mW A0 s (lW J) i j) c + l → l ≤ cap → ∀ {x7 : Int32}, x7 = nI c → zV (zMo (2 * (fu + 1) + 3) zX7_takes) false n0 0 0 6 [(7, .int x7), (5, .long (lN l)), (0, .ref 76), (1, .int (nI i)), (2, .int (nI j)), (3, .long (lN p))] [] (wR f (upd o 29 (nI q)) A J) (fun r w' => ∃ (q1 : Nat) (A' : Nat → Nat → Int32), r = some (.int (nI (400 + q1))) ∧ w' = (wR f (upd o 29 (nI (q1 + 1))) A' J) ∧ tkF A q A' q1 (j - i) ∧ Rd (eW A0) (mW A0 s (lW J)) (lW J) A' (fu + 1) i j p (400 + q1)) := by
  intro w
  induction w with
  | zero =>
    intro c l hc hp hl9 x7 e7
    rw [show c = 20 by omega] at hp
    omega
  | succ w ih2 =>
    intro c l hc hp hl9 x7 e7
    subst e7
    have hcap := mW_le hJ (i := i) (j := j) hj c
    iterate 12 (refine zv_step (bX7_takes (2 * (fu + 1) + 3)) rfl rfl trivial ?_)
    refine zv_lale (bX7_takes (2 * (fu + 1) + 3)) rfl rfl (show vp_in (c8 20 * (c8 21 * nI i + nI j) + nI c) 8820 by rw [show c8 20 * (c8 21 * nI i + nI j) + nI c = nI (20 * (21 * i + j) + c) by rw [ix21, ix20m]]; exact vp_in_nI (by omega) (by decide)) (show J 0 (c8 20 * (c8 21 * nI i + nI j) + nI c).toNatClampNeg = lN (mW A0 s (lW J) i j c) by rw [show c8 20 * (c8 21 * nI i + nI j) + nI c = nI (20 * (21 * i + j) + c) by rw [ix21, ix20m], nI_clamp (by omega)]; exact (hJ i j hij hj).1 c (by omega)) ?_
    iterate 2 (refine zv_step (bX7_takes (2 * (fu + 1) + 3)) rfl rfl trivial ?_)
    refine zv_ifb (fun h26 => ?_) (fun h26 => ?_)
    · have hl : l < mW A0 s (lW J) i j c := by
        have h9 : lN l < lN (mW A0 s (lW J) i j c) := (lg_cmp_lt _ _).mp h26
        rwa [lN_ltJ (by unfold cap at *; omega) (by unfold cap at *; omega)] at h9
      rcases (show c % 2 = 1 ∨ c % 2 = 0 by omega) with hodd | hodd
      · iterate 2 (refine zv_step (bX7_takes (2 * (fu + 1) + 3)) rfl rfl trivial ?_)
        refine zv_step (bX7_takes (2 * (fu + 1) + 3)) rfl rfl (show ¬ Int32.ofInt 2 = 0 by decide) ?_
        iterate 2 (refine zv_step (bX7_takes (2 * (fu + 1) + 3)) rfl rfl trivial ?_)
        refine zv_iff (fun h => h (show nI c - nI c / Int32.ofInt 2 * Int32.ofInt 2 = nI 1 by rw [rem2 (by omega), hodd])) ?_
        iterate 7 (refine zv_step (bX7_takes (2 * (fu + 1) + 3)) rfl rfl trivial ?_)
        refine zv_step (bX7_takes (2 * (fu + 1) + 3)) rfl rfl (show ¬ Int32.ofInt 2 = 0 by decide) ?_
        iterate 2 (refine zv_step (bX7_takes (2 * (fu + 1) + 3)) rfl rfl trivial ?_)
        refine zv_iff (fun h => h (show nI c - nI c / Int32.ofInt 2 * Int32.ofInt 2 = nI 1 by rw [rem2 (by omega), hodd])) ?_
        iterate 7 (refine zv_step (bX7_takes (2 * (fu + 1) + 3)) rfl rfl trivial ?_)
        refine zv_step (bX7_takes (2 * (fu + 1) + 3)) rfl rfl (show ¬ Int32.ofInt 2 = 0 by decide) ?_
        have hw2 := (mW_pos hl).1
        rw [hodd] at hw2
        have hw2 : l < wi (eW A0) (A0 6) (lW J) (c / 2) (i + 1) (j - 1) := hw2
        have ehalf : nI c / Int32.ofInt 2 = nI (c / 2) := half (by omega)
        refine zv_locals (l := [(9, .int (nI j - Int32.ofInt 1)), (8, .int (nI i + Int32.ofInt 1)), (7, .int (nI c)), (5, .long (lN l)), (0, .ref 76), (1, .int (nI i)), (2, .int (nI j)), (3, .long (lN p))]) (l' := [(9, .int (nI j - Int32.ofInt 1)), (8, .int (nI i + Int32.ofInt 1)), (7, .int (nI c)), (5, .long (lN l)), (0, .ref 76), (1, .int (nI i)), (2, .int (nI j)), (3, .long (lN p))]) (fun q h => h) ?_
        rw [show nI i + Int32.ofInt 1 = nI (i + 1) from nI_1 i, show nI j - Int32.ofInt 1 = nI (j - 1) from sub_1 (by omega)]
        show zV (zMo (2 * (fu + 1) + 3) zX7_takes) false _ 0 0 95 _ [.int (nI c / Int32.ofInt 2)] _ _
        rw [ehalf]
        refine zv_weak (Q := (fun r w' => ∃ (q1 : Nat) (A' : Nat → Nat → Int32), r = some (.int (nI (400 + q1))) ∧ w' = (wR f (upd o 29 (nI (q1 + 1))) A' J) ∧ tkF A q A' q1 ((j - 1) - (i + 1)) ∧ A' 0 (400 + q1) = nI (c / 2) ∧ Rk (eW A0) (lW J) A' (Rd (eW A0) (mW A0 s (lW J)) (lW J) A' fu) (c / 2) (i + 1) (j - 1) l (400 + q1))) ?_ ?_
        · rintro r w ⟨q1, A1, e1, e2, t1, z1, r1⟩
          exact ⟨q1, A1, e1, e2, ⟨t1.1, t1.2.1, t1.2.2.1, t1.2.2.2.1, by have := t1.2.2.2.2.1; omega, t1.2.2.2.2.2⟩, c, l, by omega, hp, hl, z1, by rw [hodd]; exact r1⟩
        · generalize hk0 : c / 2 = k0 at *
          have hk9 : k0 < 10 := by omega
          match k0, hk9 with
          | 0, _ =>
            refine zv_step (bX7_takes (2 * (fu + 1) + 3)) rfl rfl (by decide) ?_
            exact takK0 f o A0 J hh hw hJ ih (a := (i + 1)) (b := (j - 1)) (by omega) (by omega) h6 hT (by omega) hl9 hw2
          | 1, _ =>
            refine zv_step (bX7_takes (2 * (fu + 1) + 3)) rfl rfl (by decide) ?_
            exact takK1 f o A0 J hh hw hJ ih (a := (i + 1)) (b := (j - 1)) (by omega) (by omega) h6 hT (by omega) hl9 hw2
          | 2, _ =>
            refine zv_step (bX7_takes (2 * (fu + 1) + 3)) rfl rfl (by decide) ?_
            exact takKP f o A0 J hh hw hJ ih (a := (i + 1)) (b := (j - 1)) (by omega) (by omega) h6 hT (by omega) hl9 (by decide) (by decide) rfl (by rw [ehalf]) hw2
          | 3, _ =>
            refine zv_step (bX7_takes (2 * (fu + 1) + 3)) rfl rfl (by decide) ?_
            exact takKP f o A0 J hh hw hJ ih (a := (i + 1)) (b := (j - 1)) (by omega) (by omega) h6 hT (by omega) hl9 (by decide) (by decide) rfl (by rw [ehalf]) hw2
          | 4, _ =>
            refine zv_step (bX7_takes (2 * (fu + 1) + 3)) rfl rfl (by decide) ?_
            exact takKP f o A0 J hh hw hJ ih (a := (i + 1)) (b := (j - 1)) (by omega) (by omega) h6 hT (by omega) hl9 (by decide) (by decide) rfl (by rw [ehalf]) hw2
          | 5, _ =>
            refine zv_step (bX7_takes (2 * (fu + 1) + 3)) rfl rfl (by decide) ?_
            exact takKP f o A0 J hh hw hJ ih (a := (i + 1)) (b := (j - 1)) (by omega) (by omega) h6 hT (by omega) hl9 (by decide) (by decide) rfl (by rw [ehalf]) hw2
          | 6, _ =>
            refine zv_step (bX7_takes (2 * (fu + 1) + 3)) rfl rfl (by decide) ?_
            exact takKP f o A0 J hh hw hJ ih (a := (i + 1)) (b := (j - 1)) (by omega) (by omega) h6 hT (by omega) hl9 (by decide) (by decide) rfl (by rw [ehalf]) hw2
          | 7, _ =>
            refine zv_step (bX7_takes (2 * (fu + 1) + 3)) rfl rfl (by decide) ?_
            exact takK7 f o A0 J hh hw hJ ih (a := (i + 1)) (b := (j - 1)) (by omega) (by omega) h6 hT (by omega) hl9 hw2
          | 8, _ =>
            refine zv_step (bX7_takes (2 * (fu + 1) + 3)) rfl rfl (by decide) ?_
            exact takK8 f o A0 J hh hw hJ ih (a := (i + 1)) (b := (j - 1)) (by omega) (by omega) h6 hT (by omega) hl9 hw2
          | 9, _ =>
            refine zv_step (bX7_takes (2 * (fu + 1) + 3)) rfl rfl (by decide) ?_
            exact takK9 f o A0 J hh hw hJ ih (a := (i + 1)) (b := (j - 1)) (by omega) (by omega) h6 hT (by omega) hl9 hw2
          | k0 + 10, h => exact absurd h (by omega)
      · iterate 2 (refine zv_step (bX7_takes (2 * (fu + 1) + 3)) rfl rfl trivial ?_)
        refine zv_step (bX7_takes (2 * (fu + 1) + 3)) rfl rfl (show ¬ Int32.ofInt 2 = 0 by decide) ?_
        iterate 2 (refine zv_step (bX7_takes (2 * (fu + 1) + 3)) rfl rfl trivial ?_)
        refine zv_ift (fun h => absurd ((nI_eq (b := 1) (by omega) (by decide)).mp (show nI (c % 2) = nI 1 by rw [← rem2 (show c < 21 by omega)]; exact h)) (by omega)) ?_
        iterate 4 (refine zv_step (bX7_takes (2 * (fu + 1) + 3)) rfl rfl trivial ?_)
        refine zv_step (bX7_takes (2 * (fu + 1) + 3)) rfl rfl (show ¬ Int32.ofInt 2 = 0 by decide) ?_
        iterate 2 (refine zv_step (bX7_takes (2 * (fu + 1) + 3)) rfl rfl trivial ?_)
        refine zv_ift (fun h => absurd ((nI_eq (b := 1) (by omega) (by decide)).mp (show nI (c % 2) = nI 1 by rw [← rem2 (show c < 21 by omega)]; exact h)) (by omega)) ?_
        iterate 4 (refine zv_step (bX7_takes (2 * (fu + 1) + 3)) rfl rfl trivial ?_)
        refine zv_step (bX7_takes (2 * (fu + 1) + 3)) rfl rfl (show ¬ Int32.ofInt 2 = 0 by decide) ?_
        have hw2 := (mW_pos hl).1
        rw [hodd] at hw2
        have hw2 : l < wi (eW A0) (A0 6) (lW J) (c / 2) i j := hw2
        have ehalf : nI c / Int32.ofInt 2 = nI (c / 2) := half (by omega)
        refine zv_locals (l := [(9, .int (nI j)), (8, .int (nI i)), (7, .int (nI c)), (5, .long (lN l)), (0, .ref 76), (1, .int (nI i)), (2, .int (nI j)), (3, .long (lN p))]) (l' := [(9, .int (nI j)), (8, .int (nI i)), (7, .int (nI c)), (5, .long (lN l)), (0, .ref 76), (1, .int (nI i)), (2, .int (nI j)), (3, .long (lN p))]) (fun q h => h) ?_
        show zV (zMo (2 * (fu + 1) + 3) zX7_takes) false _ 0 0 95 _ [.int (nI c / Int32.ofInt 2)] _ _
        rw [ehalf]
        refine zv_weak (Q := (fun r w' => ∃ (q1 : Nat) (A' : Nat → Nat → Int32), r = some (.int (nI (400 + q1))) ∧ w' = (wR f (upd o 29 (nI (q1 + 1))) A' J) ∧ tkF A q A' q1 (j - i) ∧ A' 0 (400 + q1) = nI (c / 2) ∧ Rk (eW A0) (lW J) A' (Rd (eW A0) (mW A0 s (lW J)) (lW J) A' fu) (c / 2) i j l (400 + q1))) ?_ ?_
        · rintro r w ⟨q1, A1, e1, e2, t1, z1, r1⟩
          exact ⟨q1, A1, e1, e2, ⟨t1.1, t1.2.1, t1.2.2.1, t1.2.2.2.1, by have := t1.2.2.2.2.1; omega, t1.2.2.2.2.2⟩, c, l, by omega, hp, hl, z1, by rw [hodd]; exact r1⟩
        · generalize hk0 : c / 2 = k0 at *
          have hk9 : k0 < 10 := by omega
          match k0, hk9 with
          | 0, _ =>
            refine zv_step (bX7_takes (2 * (fu + 1) + 3)) rfl rfl (by decide) ?_
            exact takK0 f o A0 J hh hw hJ ih (a := i) (b := j) (by omega) (by omega) h6 hT (by omega) hl9 hw2
          | 1, _ =>
            refine zv_step (bX7_takes (2 * (fu + 1) + 3)) rfl rfl (by decide) ?_
            exact takK1 f o A0 J hh hw hJ ih (a := i) (b := j) (by omega) (by omega) h6 hT (by omega) hl9 hw2
          | 2, _ =>
            refine zv_step (bX7_takes (2 * (fu + 1) + 3)) rfl rfl (by decide) ?_
            exact takKP f o A0 J hh hw hJ ih (a := i) (b := j) (by omega) (by omega) h6 hT (by omega) hl9 (by decide) (by decide) rfl (by rw [ehalf]) hw2
          | 3, _ =>
            refine zv_step (bX7_takes (2 * (fu + 1) + 3)) rfl rfl (by decide) ?_
            exact takKP f o A0 J hh hw hJ ih (a := i) (b := j) (by omega) (by omega) h6 hT (by omega) hl9 (by decide) (by decide) rfl (by rw [ehalf]) hw2
          | 4, _ =>
            refine zv_step (bX7_takes (2 * (fu + 1) + 3)) rfl rfl (by decide) ?_
            exact takKP f o A0 J hh hw hJ ih (a := i) (b := j) (by omega) (by omega) h6 hT (by omega) hl9 (by decide) (by decide) rfl (by rw [ehalf]) hw2
          | 5, _ =>
            refine zv_step (bX7_takes (2 * (fu + 1) + 3)) rfl rfl (by decide) ?_
            exact takKP f o A0 J hh hw hJ ih (a := i) (b := j) (by omega) (by omega) h6 hT (by omega) hl9 (by decide) (by decide) rfl (by rw [ehalf]) hw2
          | 6, _ =>
            refine zv_step (bX7_takes (2 * (fu + 1) + 3)) rfl rfl (by decide) ?_
            exact takKP f o A0 J hh hw hJ ih (a := i) (b := j) (by omega) (by omega) h6 hT (by omega) hl9 (by decide) (by decide) rfl (by rw [ehalf]) hw2
          | 7, _ =>
            refine zv_step (bX7_takes (2 * (fu + 1) + 3)) rfl rfl (by decide) ?_
            exact takK7 f o A0 J hh hw hJ ih (a := i) (b := j) (by omega) (by omega) h6 hT (by omega) hl9 hw2
          | 8, _ =>
            refine zv_step (bX7_takes (2 * (fu + 1) + 3)) rfl rfl (by decide) ?_
            exact takK8 f o A0 J hh hw hJ ih (a := i) (b := j) (by omega) (by omega) h6 hT (by omega) hl9 hw2
          | 9, _ =>
            refine zv_step (bX7_takes (2 * (fu + 1) + 3)) rfl rfl (by decide) ?_
            exact takK9 f o A0 J hh hw hJ ih (a := i) (b := j) (by omega) (by omega) h6 hT (by omega) hl9 hw2
          | k0 + 10, h => exact absurd h (by omega)
    · have hl : ¬ l < mW A0 s (lW J) i j c := fun e => h26 ((lg_cmp_lt _ _).mpr (by rwa [lN_ltJ (by unfold cap at *; omega) (by unfold cap at *; omega)]))
      iterate 12 (refine zv_step (bX7_takes (2 * (fu + 1) + 3)) rfl rfl trivial ?_)
      refine zv_lale (bX7_takes (2 * (fu + 1) + 3)) rfl rfl (show vp_in (c8 20 * (c8 21 * nI i + nI j) + nI c) 8820 by rw [show c8 20 * (c8 21 * nI i + nI j) + nI c = nI (20 * (21 * i + j) + c) by rw [ix21, ix20m]]; exact vp_in_nI (by omega) (by decide)) (show J 0 (c8 20 * (c8 21 * nI i + nI j) + nI c).toNatClampNeg = lN (mW A0 s (lW J) i j c) by rw [show c8 20 * (c8 21 * nI i + nI j) + nI c = nI (20 * (21 * i + j) + c) by rw [ix21, ix20m], nI_clamp (by omega)]; exact (hJ i j hij hj).1 c (by omega)) ?_
      iterate 4 (refine zv_step (bX7_takes (2 * (fu + 1) + 3)) rfl rfl trivial ?_)
      refine zv_locals (l := [(7, .int (nI c + Int32.ofInt 1)), (5, .long (lN l - lN (mW A0 s (lW J) i j c))), (0, .ref 76), (1, .int (nI i)), (2, .int (nI j)), (3, .long (lN p))]) (l' := [(7, .int (nI c + Int32.ofInt 1)), (5, .long (lN l - lN (mW A0 s (lW J) i j c))), (0, .ref 76), (1, .int (nI i)), (2, .int (nI j)), (3, .long (lN p))]) (fun q h => h) ?_
      rw [lN_sub (by omega)]
      exact ih2 (c + 1) (l - mW A0 s (lW J) i j c) (by omega) (by show p = sW (mW A0 s (lW J) i j) c + mW A0 s (lW J) i j c + _; omega) (by omega) (nI_1 c)
set_option maxHeartbeats 1000000 in
set_option maxRecDepth 20000 in
theorem mTakes (f : Nat → zC) (o : Nat → Int32) (A0 : Nat → Nat → Int32) (J : Nat → Nat → Int64) {h : Nat} (hh : h ≤ 20) (hw : nnW h (A0 8)) {s : Nat} (hJ : okJ h A0 s J) : ∀ (fu i j p : Nat) (x y : Int32) (z : Int64), x = nI i → y = nI j → z = lN p → i < j → j ≤ h → j - i ≤ fu → p < lW J i j → ∀ (q : Nat) (A : Nat → Nat → Int32), (∀ r, 6 ≤ r → A r = A0 r) → tbI 400 (400 + q) A → q + (j - i) ≤ 44 → zK (2 * fu + 3) zX7_takes [.ref 76, .int x, .int y, .long z] (wR f (upd o 29 (nI q)) A J) (fun r w' => ∃ (q1 : Nat) (A' : Nat → Nat → Int32), r = some (.int (nI (400 + q1))) ∧ w' = (wR f (upd o 29 (nI (q1 + 1))) A' J) ∧ tkF A q A' q1 (j - i) ∧ Rd (eW A0) (mW A0 s (lW J)) (lW J) A' fu i j p (400 + q1)) := by
  intro fu
  induction fu with
  | zero =>
    intro i j p x y z _ _ _ hij _ hf
    omega
  | succ fu ih =>
    intro i j p x y z ex ey ez hij hj hf hp q A h6 hT hq
    subst ex ey ez
    obtain ⟨e1, e2, _⟩ := okS_l (hJ i j hij hj)
    have hps : p < sW (mW A0 s (lW J) i j) 20 := by
      have := csW_s (mW A0 s (lW J) i j) 20
      omega
    refine zK_of qX7_takes (by decide +kernel) rfl ?_
    iterate 4 (refine zv_step (bX7_takes (2 * (fu + 1) + 3)) rfl rfl trivial ?_)
    refine zv_locals (l := [(7, .int (Int32.ofInt 0)), (5, .long (lN p)), (0, .ref 76), (1, .int (nI i)), (2, .int (nI j)), (3, .long (lN p))]) (l' := [(7, .int (Int32.ofInt 0)), (5, .long (lN p)), (0, .ref 76), (1, .int (nI i)), (2, .int (nI j)), (3, .long (lN p))]) (fun q h => h) (takL f o A0 J hh hw hJ ih hij hj hf hps (by omega) h6 hT hq 20 0 p (by omega) (by show p = 0 + p; omega) (by omega) rfl)
end
section
/-- z NODES were copied behind u; the last is u1, and has them all -/
def cpF (u : Nat) (A A' : Nat → Nat → Int32) (u1 z : Nat) : Prop := tbI 0 (u1 + 1) A' ∧ (∀ r, 6 ≤ r → A' r = A r) ∧ (∀ r x, (x < u ∨ 120 ≤ x) → A' r x = A r x) ∧ u1 + 1 = u + z ∧ szN A' u1 = z
theorem rN_val {lo n : Nat} {A : Nat → Nat → Int32} (h : rN lo A n) : ∃ k : Nat, A 0 n = nI k ∧ k < 10 ∧ ((k < 2 ∧ A 2 n = m2 ∧ A 3 n = m2 ∧ szN A n = 1) ∨ (2 ≤ k ∧ k ≤ 6 ∧ ∃ a b : Nat, A 2 n = nI a ∧ lo ≤ a ∧ a < n ∧ A 3 n = nI b ∧ lo ≤ b ∧ b < n ∧ szN A n = 1 + szN A a + szN A b) ∨ (7 ≤ k ∧ ∃ a : Nat, A 2 n = nI a ∧ lo ≤ a ∧ a < n ∧ A 3 n = m2 ∧ szN A n = 1 + szN A a)) ∧ szN A n ≤ 40 ∧ ((k = 0 ∨ k = 9 → ∃ v : Nat, v ≤ 9 ∧ A 1 n = nI v) ∧ (k = 1 → ∃ v : Nat, v ≤ 9999 ∧ A 1 n = nI v) ∧ (2 ≤ k → k ≤ 8 → A 1 n = m2)) := by
  obtain ⟨k, z, h0, hk, h4, hz, hs, hv⟩ := h
  rw [szN_of h4 hz]
  exact ⟨k, h0, hk, hs, hz, hv⟩
theorem cpF_lf {u : Nat} {A : Nat → Nat → Int32} (hT : tbI 0 u A) (hu : u < 120) {k : Nat} {v : Int32} (hk : k < 2) (hv : (k = 0 ∨ k = 9 → ∃ w : Nat, w ≤ 9 ∧ v = nI w) ∧ (k = 1 → ∃ w : Nat, w ≤ 9999 ∧ v = nI w) ∧ (2 ≤ k → k ≤ 8 → v = m2)) : cpF u A (setsA A u (nI k) v m2 m2) u 1 :=
  ⟨tbI_sets hT (Nat.zero_le _) (by omega) (by omega) (Or.inl ⟨hk, rfl, rfl⟩) hv, fun r hr => setsA_r hr, fun r x hx => setsA_o (by omega), rfl, szN_new (z := 1) (by rw [rdv_m2]; decide) (by decide)⟩
theorem cpF_un {u u1 z : Nat} {A A1 : Nat → Nat → Int32} (h : cpF u A A1 u1 z) (hu : u1 + 1 < 120) (hz : z + 1 ≤ 40) {k : Nat} {v : Int32} (k7 : 7 ≤ k) (k9 : k < 10) (hv : (k = 0 ∨ k = 9 → ∃ w : Nat, w ≤ 9 ∧ v = nI w) ∧ (k = 1 → ∃ w : Nat, w ≤ 9999 ∧ v = nI w) ∧ (2 ≤ k → k ≤ 8 → v = m2)) : cpF u A (setsA A1 (u1 + 1) (nI k) v (nI u1) m2) (u1 + 1) (1 + z) := by
  obtain ⟨h1, h2, h3, h4, h5⟩ := h
  refine ⟨tbI_sets h1 (Nat.zero_le _) (by omega) k9 (Or.inr (Or.inr ⟨k7, u1, rfl, Nat.zero_le _, by omega, rfl, by omega⟩)) hv, fun r hr => (setsA_r hr).trans (h2 r hr), fun r x hx => (setsA_o (by omega)).trans (h3 r x hx), by omega, ?_⟩
  refine szN_new (z := 1 + z) ?_ (by omega)
  rw [rdv_nI (by omega), rdv_m2, (rN_sz (h1 u1 (Nat.zero_le _) (by omega))).2.2, h5, show Int32.ofInt 1 = nI 1 from rfl, show Int32.ofInt 0 = nI 0 from rfl, nI_add, nI_add]
  rfl
theorem cpF_bi {u u1 u2 z z2 : Nat} {A A1 A2 : Nat → Nat → Int32} (h : cpF u A A1 u1 z) (g : cpF (u1 + 1) A1 A2 u2 z2) (hu : u2 + 1 < 120) (hz : 1 + z + z2 ≤ 40) (hz2 : 1 ≤ z2) {k : Nat} {v : Int32} (k2 : 2 ≤ k) (k6 : k ≤ 6) (hv : (k = 0 ∨ k = 9 → ∃ w : Nat, w ≤ 9 ∧ v = nI w) ∧ (k = 1 → ∃ w : Nat, w ≤ 9999 ∧ v = nI w) ∧ (2 ≤ k → k ≤ 8 → v = m2)) : cpF u A (setsA A2 (u2 + 1) (nI k) v (nI u1) (nI u2)) (u2 + 1) (1 + z + z2) := by
  obtain ⟨h1, h2, h3, h4, h5⟩ := h
  obtain ⟨g1, g2, g3, g4, g5⟩ := g
  have e1 : szN A2 u1 = z := by
    unfold szN at h5 ⊢
    rw [g3 4 u1 (by omega)]
    exact h5
  refine ⟨tbI_sets g1 (Nat.zero_le _) (by omega) (by omega) (Or.inr (Or.inl ⟨k2, k6, u1, u2, rfl, Nat.zero_le _, by omega, rfl, Nat.zero_le _, by omega, by omega⟩)) hv, fun r hr => (setsA_r hr).trans ((g2 r hr).trans (h2 r hr)), fun r x hx => (setsA_o (by omega)).trans ((g3 r x (by omega)).trans (h3 r x hx)), by omega, ?_⟩
  refine szN_new (z := 1 + z + z2) ?_ (by omega)
  rw [rdv_nI (by omega), rdv_nI (by omega), (rN_sz (g1 u1 (Nat.zero_le _) (by omega))).2.2, (rN_sz (g1 u2 (Nat.zero_le _) (by omega))).2.2, e1, g5, show Int32.ofInt 1 = nI 1 from rfl, nI_add, nI_add]
set_option maxHeartbeats 1000000 in
set_option maxRecDepth 20000 in
theorem mCopies (f : Nat → zC) (o : Nat → Int32) (J : Nat → Nat → Int64) {hi : Nat} (hh : hi ≤ 450) : ∀ (z : Nat) (A : Nat → Nat → Int32) (n : Nat), 400 ≤ n → n < hi → szN A n ≤ z → ∀ (u : Nat), tbI 0 u A → tbI 400 hi A → u + szN A n ≤ 120 → zK (z + 1) zX7_copies [.ref 76, .int (nI n)] (wR f (upd o 0 (nI u)) A J) (fun r w' => ∃ (u1 : Nat) (A' : Nat → Nat → Int32), r = some (.int (nI u1)) ∧ w' = (wR f (upd o 0 (nI (u1 + 1))) A' J) ∧ cpF u A A' u1 (szN A n)) := by
  intro z
  induction z with
  | zero =>
    intro A n hlo hn hz u _ hO
    have := (rN_sz (hO n hlo hn)).1
    omega
  | succ z ih1 =>
    intro A n hlo hn hz u hT hO hu
    have ih := fun (n : Nat) (h1 : 400 ≤ n) (h2 : n < hi) (h3 : szN A n ≤ z) (u : Nat) (A' : Nat → Nat → Int32) (g1 : tbI 0 u A) (g2 : tbI 400 hi A) (g3 : u + szN A n ≤ 120) => ih1 A n h1 h2 h3 u g1 g2 g3
    obtain ⟨k, h0, hk, hs, h40, hv⟩ := rN_val (hO n hlo hn)
    refine zK_of qX7_copies (by decide +kernel) rfl ?_
    rcases hs with ⟨k1, h2, h3, es⟩ | ⟨k1, k6, a, b, h2, la, ha, h3, lb, hb, es⟩ | ⟨k1, a, h2, la, ha, h3, es⟩
    · iterate 3 (refine zv_step (bX7_copies (z + 1 + 1)) rfl rfl trivial ?_)
      refine zv_iale (bX7_copies (z + 1 + 1)) rfl rfl (vp_in_nI (by omega) (by decide)) (show A 2 (nI n).toNatClampNeg = m2 by rw [nI_clamp (by omega)]; exact h2) ?_
      iterate 1 (refine zv_step (bX7_copies (z + 1 + 1)) rfl rfl trivial ?_)
      refine zv_iff (by decide) ?_
      iterate 6 (refine zv_step (bX7_copies (z + 1 + 1)) rfl rfl trivial ?_)
      refine zv_iale (bX7_copies (z + 1 + 1)) rfl rfl (vp_in_nI (by omega) (by decide)) (show A 3 (nI n).toNatClampNeg = m2 by rw [nI_clamp (by omega)]; exact h3) ?_
      iterate 1 (refine zv_step (bX7_copies (z + 1 + 1)) rfl rfl trivial ?_)
      refine zv_iff (by decide) ?_
      iterate 9 (refine zv_step (bX7_copies (z + 1 + 1)) rfl rfl trivial ?_)
      refine zv_iale (bX7_copies (z + 1 + 1)) rfl rfl (vp_in_nI (by omega) (by decide)) (show A 0 (nI n).toNatClampNeg = nI k by rw [nI_clamp (by omega)]; exact h0) ?_
      iterate 3 (refine zv_step (bX7_copies (z + 1 + 1)) rfl rfl trivial ?_)
      refine zv_iale (bX7_copies (z + 1 + 1)) rfl rfl (vp_in_nI (by omega) (by decide)) (show A 1 (nI n).toNatClampNeg = A 1 n by rw [nI_clamp (by omega)]) ?_
      iterate 2 (refine zv_step (bX7_copies (z + 1 + 1)) rfl rfl trivial ?_)
      refine zv_V5 (bX7_copies (z + 1 + 1)) rfl rfl rfl rfl rfl rfl rfl ⟨rfl, rfl, rfl⟩ ⟨by show 0 + 1 ≤ z + 1 + 1; omega, by show 8 + (8 + 11) + 64 * (0) ≤ 64 * (z + 1 + 1); omega⟩ ⟨Nat.zero_le _, Nat.zero_le _⟩ (mSetsE f (upd o 0 (nI u)) A J (show upd o 0 (nI u) 0 = nI u from rfl) (by omega) vpm2 vpm2) ?_
      rintro _ _ ⟨rfl, rfl⟩
      iterate 10 (refine zv_step (bX7_copies (z + 1 + 1)) rfl rfl trivial ?_)
      exact zv_iret (bX7_copies (z + 1 + 1)) rfl (Or.inl rfl) (Nat.zero_le _) (Nat.zero_le _) ⟨u, _, by show some (Value.int (nI (u) + Int32.ofInt 1 - Int32.ofInt 1)) = _; rw [show nI (u) + Int32.ofInt 1 = nI (u + 1) from nI_1 _, show nI (u + 1) - Int32.ofInt 1 = nI (u) from nI_m1 _], by rw [show nI (u + 1) = nI (u) + Int32.ofInt 1 from (nI_1 _).symm]; rfl, by rw [es]; exact cpF_lf hT (by omega) k1 hv⟩
    · iterate 3 (refine zv_step (bX7_copies (z + 1 + 1)) rfl rfl trivial ?_)
      refine zv_iale (bX7_copies (z + 1 + 1)) rfl rfl (vp_in_nI (by omega) (by decide)) (show A 2 (nI n).toNatClampNeg = nI a by rw [nI_clamp (by omega)]; exact h2) ?_
      iterate 1 (refine zv_step (bX7_copies (z + 1 + 1)) rfl rfl trivial ?_)
      refine zv_ift (nI_pos' (by omega)) ?_
      iterate 4 (refine zv_step (bX7_copies (z + 1 + 1)) rfl rfl trivial ?_)
      refine zv_iale (bX7_copies (z + 1 + 1)) rfl rfl (vp_in_nI (by omega) (by decide)) (show A 2 (nI n).toNatClampNeg = nI a by rw [nI_clamp (by omega)]; exact h2) ?_
      refine zv_V1 (bX7_copies (z + 1 + 1)) rfl rfl rfl rfl rfl rfl rfl ⟨rfl, rfl, rfl⟩ ⟨by show z + 1 + 1 ≤ z + 1 + 1; omega, by show 8 + (4 + 11) + 64 * (z + 1) ≤ 64 * (z + 1 + 1); omega⟩ ⟨Nat.zero_le _, Nat.zero_le _⟩ (ih a (by omega) (by omega) (by omega) u A hT hO (by omega)) ?_
      rintro _ _ ⟨u1, A1, rfl, rfl, c1⟩
      have n1 := c1.2.2.2.1
      have eb : szN A1 b = szN A b := by
        unfold szN
        rw [c1.2.2.1 4 b (Or.inr (by omega))]
      have ih2 := fun (n : Nat) (h1 : 400 ≤ n) (h2 : n < hi) (h3 : szN A1 n ≤ z) => ih1 A1 n h1 h2 h3
      iterate 4 (refine zv_step (bX7_copies (z + 1 + 1)) rfl rfl trivial ?_)
      refine zv_iale (bX7_copies (z + 1 + 1)) rfl rfl (vp_in_nI (by omega) (by decide)) (show A1 3 (nI n).toNatClampNeg = nI b by rw [nI_clamp (by omega)]; exact (c1.2.2.1 3 n (Or.inr (by omega))).trans h3) ?_
      iterate 1 (refine zv_step (bX7_copies (z + 1 + 1)) rfl rfl trivial ?_)
      refine zv_ift (nI_pos' (by omega)) ?_
      iterate 4 (refine zv_step (bX7_copies (z + 1 + 1)) rfl rfl trivial ?_)
      refine zv_iale (bX7_copies (z + 1 + 1)) rfl rfl (vp_in_nI (by omega) (by decide)) (show A1 3 (nI n).toNatClampNeg = nI b by rw [nI_clamp (by omega)]; exact (c1.2.2.1 3 n (Or.inr (by omega))).trans h3) ?_
      refine zv_V1 (bX7_copies (z + 1 + 1)) rfl rfl rfl rfl rfl rfl rfl ⟨rfl, rfl, rfl⟩ ⟨by show z + 1 + 1 ≤ z + 1 + 1; omega, by show 8 + (4 + 11) + 64 * (z + 1) ≤ 64 * (z + 1 + 1); omega⟩ ⟨Nat.zero_le _, Nat.zero_le _⟩ (ih2 b (by omega) (by omega) (by omega) (u1 + 1) c1.1 (tbI_fr hO (fun r _ i hi _ => c1.2.2.1 r i (Or.inr (by omega)))) (by rw [eb]; omega)) ?_
      rintro _ _ ⟨u2, A2, rfl, rfl, c2⟩
      rw [eb] at c2
      have n2 := c2.2.2.2.1
      iterate 7 (refine zv_step (bX7_copies (z + 1 + 1)) rfl rfl trivial ?_)
      refine zv_iale (bX7_copies (z + 1 + 1)) rfl rfl (vp_in_nI (by omega) (by decide)) (show A2 0 (nI n).toNatClampNeg = nI k by rw [nI_clamp (by omega)]; exact ((c2.2.2.1 0 n (Or.inr (by omega))).trans (c1.2.2.1 0 n (Or.inr (by omega)))).trans h0) ?_
      iterate 3 (refine zv_step (bX7_copies (z + 1 + 1)) rfl rfl trivial ?_)
      refine zv_iale (bX7_copies (z + 1 + 1)) rfl rfl (vp_in_nI (by omega) (by decide)) (show A2 1 (nI n).toNatClampNeg = A 1 n by rw [nI_clamp (by omega)]; exact (c2.2.2.1 1 n (Or.inr (by omega))).trans (c1.2.2.1 1 n (Or.inr (by omega)))) ?_
      iterate 2 (refine zv_step (bX7_copies (z + 1 + 1)) rfl rfl trivial ?_)
      refine zv_V5 (bX7_copies (z + 1 + 1)) rfl rfl rfl rfl rfl rfl rfl ⟨rfl, rfl, rfl⟩ ⟨by show 0 + 1 ≤ z + 1 + 1; omega, by show 8 + (8 + 11) + 64 * (0) ≤ 64 * (z + 1 + 1); omega⟩ ⟨Nat.zero_le _, Nat.zero_le _⟩ (mSetsE f (upd o 0 (nI (u2 + 1))) A2 J (show upd o 0 (nI (u2 + 1)) 0 = nI (u2 + 1) from rfl) (by omega) (fun _ => vp_in_nI (by omega) (by decide)) (fun _ => vp_in_nI (by omega) (by decide))) ?_
      rintro _ _ ⟨rfl, rfl⟩
      iterate 10 (refine zv_step (bX7_copies (z + 1 + 1)) rfl rfl trivial ?_)
      exact zv_iret (bX7_copies (z + 1 + 1)) rfl (Or.inl rfl) (Nat.zero_le _) (Nat.zero_le _) ⟨u2 + 1, _, by show some (Value.int (nI (u2 + 1) + Int32.ofInt 1 - Int32.ofInt 1)) = _; rw [show nI (u2 + 1) + Int32.ofInt 1 = nI (u2 + 1 + 1) from nI_1 _, show nI (u2 + 1 + 1) - Int32.ofInt 1 = nI (u2 + 1) from nI_m1 _], by rw [show nI (u2 + 1 + 1) = nI (u2 + 1) + Int32.ofInt 1 from (nI_1 _).symm]; rfl, by rw [es]; exact cpF_bi c1 c2 (by omega) (by omega) (rN_sz (hO b (by omega) (by omega))).1 k1 k6 hv⟩
    · iterate 3 (refine zv_step (bX7_copies (z + 1 + 1)) rfl rfl trivial ?_)
      refine zv_iale (bX7_copies (z + 1 + 1)) rfl rfl (vp_in_nI (by omega) (by decide)) (show A 2 (nI n).toNatClampNeg = nI a by rw [nI_clamp (by omega)]; exact h2) ?_
      iterate 1 (refine zv_step (bX7_copies (z + 1 + 1)) rfl rfl trivial ?_)
      refine zv_ift (nI_pos' (by omega)) ?_
      iterate 4 (refine zv_step (bX7_copies (z + 1 + 1)) rfl rfl trivial ?_)
      refine zv_iale (bX7_copies (z + 1 + 1)) rfl rfl (vp_in_nI (by omega) (by decide)) (show A 2 (nI n).toNatClampNeg = nI a by rw [nI_clamp (by omega)]; exact h2) ?_
      refine zv_V1 (bX7_copies (z + 1 + 1)) rfl rfl rfl rfl rfl rfl rfl ⟨rfl, rfl, rfl⟩ ⟨by show z + 1 + 1 ≤ z + 1 + 1; omega, by show 8 + (4 + 11) + 64 * (z + 1) ≤ 64 * (z + 1 + 1); omega⟩ ⟨Nat.zero_le _, Nat.zero_le _⟩ (ih a (by omega) (by omega) (by omega) u A hT hO (by omega)) ?_
      rintro _ _ ⟨u1, A1, rfl, rfl, c1⟩
      have n1 := c1.2.2.2.1
      iterate 4 (refine zv_step (bX7_copies (z + 1 + 1)) rfl rfl trivial ?_)
      refine zv_iale (bX7_copies (z + 1 + 1)) rfl rfl (vp_in_nI (by omega) (by decide)) (show A1 3 (nI n).toNatClampNeg = m2 by rw [nI_clamp (by omega)]; exact (c1.2.2.1 3 n (Or.inr (by omega))).trans h3) ?_
      iterate 1 (refine zv_step (bX7_copies (z + 1 + 1)) rfl rfl trivial ?_)
      refine zv_iff (by decide) ?_
      iterate 9 (refine zv_step (bX7_copies (z + 1 + 1)) rfl rfl trivial ?_)
      refine zv_iale (bX7_copies (z + 1 + 1)) rfl rfl (vp_in_nI (by omega) (by decide)) (show A1 0 (nI n).toNatClampNeg = nI k by rw [nI_clamp (by omega)]; exact (c1.2.2.1 0 n (Or.inr (by omega))).trans h0) ?_
      iterate 3 (refine zv_step (bX7_copies (z + 1 + 1)) rfl rfl trivial ?_)
      refine zv_iale (bX7_copies (z + 1 + 1)) rfl rfl (vp_in_nI (by omega) (by decide)) (show A1 1 (nI n).toNatClampNeg = A 1 n by rw [nI_clamp (by omega)]; exact c1.2.2.1 1 n (Or.inr (by omega))) ?_
      iterate 2 (refine zv_step (bX7_copies (z + 1 + 1)) rfl rfl trivial ?_)
      refine zv_V5 (bX7_copies (z + 1 + 1)) rfl rfl rfl rfl rfl rfl rfl ⟨rfl, rfl, rfl⟩ ⟨by show 0 + 1 ≤ z + 1 + 1; omega, by show 8 + (8 + 11) + 64 * (0) ≤ 64 * (z + 1 + 1); omega⟩ ⟨Nat.zero_le _, Nat.zero_le _⟩ (mSetsE f (upd o 0 (nI (u1 + 1))) A1 J (show upd o 0 (nI (u1 + 1)) 0 = nI (u1 + 1) from rfl) (by omega) (fun _ => vp_in_nI (by omega) (by decide)) vpm2) ?_
      rintro _ _ ⟨rfl, rfl⟩
      iterate 10 (refine zv_step (bX7_copies (z + 1 + 1)) rfl rfl trivial ?_)
      exact zv_iret (bX7_copies (z + 1 + 1)) rfl (Or.inl rfl) (Nat.zero_le _) (Nat.zero_le _) ⟨u1 + 1, _, by show some (Value.int (nI (u1 + 1) + Int32.ofInt 1 - Int32.ofInt 1)) = _; rw [show nI (u1 + 1) + Int32.ofInt 1 = nI (u1 + 1 + 1) from nI_1 _, show nI (u1 + 1 + 1) - Int32.ofInt 1 = nI (u1 + 1) from nI_m1 _], by rw [show nI (u1 + 1 + 1) = nI (u1 + 1) + Int32.ofInt 1 from (nI_1 _).symm]; rfl, by rw [es]; exact cpF_un c1 (by omega) (by omega) k1 hk hv⟩
theorem l_nat {z : Int64} (h : 0 ≤ z.toInt) {c : Nat} (hc : c ≤ cap) (hz : z < lN c) : ∃ p : Nat, p < c ∧ z = lN p := by
  rw [Int64.lt_iff_toInt_lt, lN_T (by unfold cap at hc; omega)] at hz
  refine ⟨z.toInt.toNat, by omega, ?_⟩
  rw [← Int64.toInt_inj, lN_T (by unfold cap at hc; omega)]
  omega
theorem ctW_le {h : Nat} {A : Nat → Nat → Int32} {s : Nat} {J : Nat → Nat → Int64} (hJ : okJ h A s J) : ctW h J ≤ cap := by
  unfold ctW
  split
  · exact Nat.zero_le _
  · exact (okS_l (hJ 0 h (by omega) (Nat.le_refl _))).2.1
theorem ctW_lt {h p : Nat} {J : Nat → Nat → Int64} (hp : p < ctW h J) : 0 < h ∧ p < lW J 0 h := by
  unfold ctW at hp
  split at hp
  · omega
  · exact ⟨by omega, hp⟩
/-- NODES may have come, the OWN ones too -/
def ndY (o : Nat → Int32) (u : Nat) (A : Nat → Nat → Int32) (o' : Nat → Int32) (A' : Nat → Nat → Int32) : Prop := (∃ u' : Nat, u ≤ u' ∧ u' ≤ 120 ∧ o' 0 = nI u' ∧ tbI 0 u' A') ∧ (∀ j, j ≠ 0 → j ≠ 28 → j ≠ 29 → o' j = o j) ∧ (∀ r, 6 ≤ r → A' r = A r) ∧ (∀ r i, i < u → A' r i = A r i)
set_option maxHeartbeats 1000000 in
set_option maxRecDepth 20000 in
theorem mWrite (f : Nat → zC) (o : Nat → Int32) (A : Nat → Nat → Int32) (J : Nat → Nat → Int64) {u : Nat} (hu : u ≤ 120) (ho : o 0 = nI u) (hT : tbI 0 u A) {h : Nat} (hh : h ≤ 20) (hw : nnW h (A 8)) (ho10 : o 10 = nI h) (x : Int32) (z : Int64) : zK 50 zX7_write [.ref 76, .int x, .long z] (wR f o A J) (fun r w' => ∃ (o' : Nat → Int32) (A' : Nat → Nat → Int32) (J' : Nat → Nat → Int64) (R : Int32), r = some (.int R) ∧ w' = wR f o' A' J' ∧ ndY o u A o' A') := by
  refine zK_of qX7_write (by decide +kernel) rfl ?_
  iterate 4 (refine zv_step (bX7_write 50) rfl rfl trivial ?_)
  refine zv_S3 (bX7_write 50) rfl rfl rfl rfl ⟨rfl, rfl, rfl⟩ ⟨by decide, by decide⟩ ⟨Nat.zero_le _, Nat.zero_le _⟩ (mIn _ _ _ _ (a := 0) (b := 8) (by decide) (by decide)) ?_
  rintro _ _ ⟨rfl, ⟨g1, rfl⟩ | ⟨g1, rfl⟩⟩
  · obtain ⟨s, hs, rfl⟩ := in_nat (x := x) (b := 8) (by decide) g1
    iterate 1 (refine zv_step (bX7_write 50) rfl rfl trivial ?_)
    refine zv_iff (by decide) ?_
    iterate 4 (refine zv_step (bX7_write 50) rfl rfl trivial ?_)
    refine zv_ifb (fun h15 => ?_) (fun h15 => ?_)
    · have z0 : 0 ≤ z.toInt := by
        rw [lg_cmp_ge, Int64.le_iff_toInt_le] at h15
        exact h15
      iterate 3 (refine zv_step (bX7_write 50) rfl rfl trivial ?_)
      refine zv_V1 (bX7_write 50) rfl rfl rfl rfl rfl rfl rfl ⟨rfl, rfl, rfl⟩ ⟨by decide, by decide⟩ ⟨Nat.zero_le _, Nat.zero_le _⟩ (mCounted f o A J hh hw ho10 hs rfl) ?_
      rintro _ _ ⟨J1, rfl, rfl, hJ⟩
      iterate 2 (refine zv_step (bX7_write 50) rfl rfl trivial ?_)
      refine zv_ifb (fun h27 => ?_) (fun h27 => ?_)
      · obtain ⟨p, hp, rfl⟩ := l_nat z0 (ctW_le hJ) ((lg_cmp_lt _ _).mp h27)
        obtain ⟨h0, hp⟩ := ctW_lt hp
        iterate 3 (refine zv_step (bX7_write 50) rfl rfl trivial ?_)
        refine zv_world (show _ = wR f (upd (upd o 28 (nI s)) 29 (nI 0)) A J1 from rfl) ?_
        iterate 5 (refine zv_step (bX7_write 50) rfl rfl trivial ?_)
        refine zv_V3 (bX7_write 50) rfl rfl rfl rfl rfl rfl rfl ⟨rfl, rfl, rfl⟩ ⟨by show 2 * h + 3 + 1 ≤ 50; omega, by show 8 + (12 + 11) + 64 * (2 * h + 3) ≤ 64 * 50; omega⟩ ⟨Nat.zero_le _, Nat.zero_le _⟩ (mTakes f (upd o 28 (nI s)) A J1 hh hw hJ h 0 h p _ _ _ rfl ho10 rfl h0 (Nat.le_refl _) (by omega) hp 0 A (fun _ _ => rfl) (fun n h1 h2 => absurd h2 (by omega)) (by omega)) ?_
        rintro _ _ ⟨q1, A1, rfl, rfl, k1, r1⟩
        have l1 := k1.2.2.2.2.1
        have es := k1.2.2.2.2.2
        have hT1 : tbI 0 u A1 := tbI_fr hT (fun r _ i _ hi => k1.2.2.1 r i (by omega))
        iterate 8 (refine zv_step (bX7_write 50) rfl rfl trivial ?_)
        refine zv_ifb (fun h61 => ?_) (fun h61 => ?_)
        · have hfit : u + (q1 + 1) ≤ 120 := by
            have h9 : o 0 + nI (q1 + 1) ≤ nI 120 := h61
            rwa [ho, nI_add, nI_leI (by omega) (by decide)] at h9
          refine zv_world (show _ = wR f (upd (upd (upd o 28 (nI s)) 29 (nI (q1 + 1))) 0 (nI u)) A1 J1 from by rw [← ho]; rfl) ?_
          iterate 2 (refine zv_step (bX7_write 50) rfl rfl trivial ?_)
          refine zv_V1 (bX7_write 50) rfl rfl rfl rfl rfl rfl rfl ⟨rfl, rfl, rfl⟩ ⟨by decide, by decide⟩ ⟨Nat.zero_le _, Nat.zero_le _⟩ (mCopies f (upd (upd o 28 (nI s)) 29 (nI (q1 + 1))) J1 (hi := 400 + (q1 + 1)) (by omega) 40 A1 (400 + q1) (by omega) (by omega) (by omega) u hT1 k1.2.1 (by omega)) ?_
          rintro _ _ ⟨u1, A2, rfl, rfl, c1⟩
          exact zv_iret (bX7_write 50) rfl (Or.inl rfl) (Nat.zero_le _) (Nat.zero_le _) ⟨_, A2, J1, _, rfl, rfl, ⟨u1 + 1, by have := c1.2.2.2.1; omega, by have := c1.2.2.2.1; omega, upd_self _ _ _, c1.1⟩, fun j a b c => by rw [upd_ne _ _ a, upd_ne _ _ c, upd_ne _ _ b], fun r hr => (c1.2.1 r hr).trans (k1.1 r hr), fun r i hi => (c1.2.2.1 r i (Or.inl hi)).trans (k1.2.2.1 r i (by omega))⟩
        · iterate 1 (refine zv_step (bX7_write 50) rfl rfl trivial ?_)
          exact zv_iret (bX7_write 50) rfl (Or.inl rfl) (Nat.zero_le _) (Nat.zero_le _) ⟨upd (upd o 28 (nI s)) 29 (nI (q1 + 1)), A1, J1, _, rfl, rfl, ⟨u, Nat.le_refl _, hu, ho, hT1⟩, fun j a b c => by rw [upd_ne _ _ c, upd_ne _ _ b], k1.1, fun r i hi => k1.2.2.1 r i (by omega)⟩
      · iterate 1 (refine zv_step (bX7_write 50) rfl rfl trivial ?_)
        exact zv_iret (bX7_write 50) rfl (Or.inl rfl) (Nat.zero_le _) (Nat.zero_le _) ⟨(upd o 28 (nI s)), A, J1, _, rfl, rfl, ⟨u, Nat.le_refl _, hu, ho, hT⟩, fun j a b c => by rw [upd_ne _ _ b], fun _ _ => rfl, fun _ _ _ => rfl⟩
    · iterate 1 (refine zv_step (bX7_write 50) rfl rfl trivial ?_)
      exact zv_iret (bX7_write 50) rfl (Or.inl rfl) (Nat.zero_le _) (Nat.zero_le _) ⟨o, A, J, _, rfl, rfl, ⟨u, Nat.le_refl _, hu, ho, hT⟩, fun _ _ _ _ => rfl, fun _ _ => rfl, fun _ _ _ => rfl⟩
  · skip
    iterate 1 (refine zv_step (bX7_write 50) rfl rfl trivial ?_)
    refine zv_ift (by decide) ?_
    iterate 1 (refine zv_step (bX7_write 50) rfl rfl trivial ?_)
    exact zv_iret (bX7_write 50) rfl (Or.inl rfl) (Nat.zero_le _) (Nat.zero_le _) ⟨o, A, J, _, rfl, rfl, ⟨u, Nat.le_refl _, hu, ho, hT⟩, fun _ _ _ _ => rfl, fun _ _ => rfl, fun _ _ _ => rfl⟩
end
section
set_option maxHeartbeats 1000000 in
set_option maxRecDepth 20000 in
theorem inn2 (f : Nat → zC) (o : Nat → Int32) (A : Nat → Nat → Int32) (J : Nat → Nat → Int64) {lo hi : Nat} (hh0 : hi ≤ 450) (hT : tbI lo hi A) {h : Nat} (hh : h ≤ 20) (hw : nnW h (A 8)) {s : Nat} (hJ : okJ h A s J) {z : Nat} (ih : ∀ (n i j : Nat) (y z' : Int32), y = nI i → z' = nI j → lo ≤ n → n < hi → szN A n ≤ z → i ≤ 30 → j ≤ h → zK (3 * z + 3) zX7_rank [.ref 76, .int (nI n), .int y, .int z'] (wR f o A J) (fun r w' => w' = (wR f o A J) ∧ ∃ v : Int64, r = some (.long v))) {n a b : Nat} (hlo : lo ≤ n) (hn : n < hi) (hz : szN A n ≤ z + 1) (hab : a < b) (hb : b ≤ h) {x y : Nat} (h2 : A 2 n = nI x) (h3 : A 3 n = nI y) (lx : lo ≤ x) (hx : x < n) (ly : lo ≤ y) (hy : y < n) (hsx : szN A x ≤ z) (hsy : szN A y ≤ z) {n0 : Nat} : ∀ (w m : Nat), b - 1 - m = w → a + 1 ≤ m → m ≤ 21 → ∀ {x6 : Int32} {v4 : Int64}, x6 = nI m → zV (zMo (3 * z + 4) zX7_innerTwo) false n0 0 0 8 [(6, .int x6), (4, .long v4), (0, .ref 76), (1, .int (nI n)), (2, .int (nI a)), (3, .int (nI b))] [] (wR f o A J) (fun r w' => w' = (wR f o A J) ∧ ∃ v : Int64, r = some (.long v)) := by
  intro w
  induction w with
  | zero =>
    intro m hm hm1 hm2 x6 v4 e6
    subst e6
    iterate 5 (refine zv_step (bX7_innerTwo (3 * z + 4)) rfl rfl trivial ?_)
    refine zv_ift (show nI b - Int32.ofInt 1 ≤ nI m by rw [sub_1 (by omega)]; exact nI_le (by omega) (by omega)) ?_
    iterate 1 (refine zv_step (bX7_innerTwo (3 * z + 4)) rfl rfl trivial ?_)
    exact zv_lret (bX7_innerTwo (3 * z + 4)) rfl rfl (Nat.zero_le _) (Nat.zero_le _) ⟨rfl, _, rfl⟩
  | succ w ih2 =>
    intro m hm hm1 hm2 x6 v4 e6
    subst e6
    iterate 5 (refine zv_step (bX7_innerTwo (3 * z + 4)) rfl rfl trivial ?_)
    refine zv_iff (show ¬ nI b - Int32.ofInt 1 ≤ nI m by rw [sub_1 (by omega)]; exact fun h => absurd ((nI_leI (by omega) (by omega)).mp h) (by omega)) ?_
    iterate 3 (refine zv_step (bX7_innerTwo (3 * z + 4)) rfl rfl trivial ?_)
    refine zv_step (bX7_innerTwo (3 * z + 4)) rfl rfl (vp_in_nI (by omega) (by decide)) ?_
    iterate 4 (refine zv_step (bX7_innerTwo (3 * z + 4)) rfl rfl trivial ?_)
    refine zv_step (bX7_innerTwo (3 * z + 4)) rfl rfl (vp_in_nI (by omega) (by decide)) ?_
    iterate 2 (refine zv_step (bX7_innerTwo (3 * z + 4)) rfl rfl trivial ?_)
    refine zv_ifb (fun h32 => ?_) (fun h32 => ?_)
    · iterate 2 (refine zv_step (bX7_innerTwo (3 * z + 4)) rfl rfl trivial ?_)
      refine zv_locals (l := [(6, .int (nI m + Int32.ofInt 1)), (4, .long v4), (0, .ref 76), (1, .int (nI n)), (2, .int (nI a)), (3, .int (nI b))]) (l' := [(6, .int (nI m + Int32.ofInt 1)), (4, .long v4), (0, .ref 76), (1, .int (nI n)), (2, .int (nI a)), (3, .int (nI b))]) (fun q h => h) (ih2 (m + 1) (by omega) (by omega) (by omega) (nI_1 m))
    · iterate 9 (refine zv_step (bX7_innerTwo (3 * z + 4)) rfl rfl trivial ?_)
      refine zv_lale (bX7_innerTwo (3 * z + 4)) rfl rfl (show vp_in (c8 21 * (nI m + Int32.ofInt 1) + nI b) 441 by rw [show nI m + Int32.ofInt 1 = nI (m + 1) from nI_1 m, ix21]; exact vp_in_nI (by omega) (by decide)) (show J 1 (c8 21 * (nI m + Int32.ofInt 1) + nI b).toNatClampNeg = lN (lW J (m + 1) (b)) by rw [show nI m + Int32.ofInt 1 = nI (m + 1) from nI_1 m, ix21, nI_clamp (by omega)]; exact (okS_l (hJ (m + 1) (b) (by omega) (by omega))).2.2) ?_
      iterate 5 (refine zv_step (bX7_innerTwo (3 * z + 4)) rfl rfl trivial ?_)
      refine zv_ifb (fun h55 => ?_) (fun h55 => ?_)
      · iterate 6 (refine zv_step (bX7_innerTwo (3 * z + 4)) rfl rfl trivial ?_)
        refine zv_ifb (fun h100 => ?_) (fun h100 => ?_)
        · iterate 6 (refine zv_step (bX7_innerTwo (3 * z + 4)) rfl rfl trivial ?_)
          refine zv_ifb (fun h130 => ?_) (fun h130 => ?_)
          · iterate 8 (refine zv_step (bX7_innerTwo (3 * z + 4)) rfl rfl trivial ?_)
            refine zv_lale (bX7_innerTwo (3 * z + 4)) rfl rfl (show vp_in (c8 21 * nI a + nI m) 441 by rw [ix21]; exact vp_in_nI (by omega) (by decide)) (show J 1 (c8 21 * nI a + nI m).toNatClampNeg = lN (lW J (a) (m)) by rw [ix21, nI_clamp (by omega)]; exact (okS_l (hJ (a) (m) (by omega) (by omega))).2.2) ?_
            iterate 1 (refine zv_step (bX7_innerTwo (3 * z + 4)) rfl rfl trivial ?_)
            refine zv_S2 (bX7_innerTwo (3 * z + 4)) rfl rfl rfl rfl ⟨rfl, rfl, rfl⟩ ⟨by show 0 + 1 ≤ 3 * z + 4; omega, by show 8 + (4 + 11) + 64 * (0) ≤ 64 * (3 * z + 4); omega⟩ ⟨Nat.zero_le _, Nat.zero_le _⟩ (mMul _ (okS_l (hJ a m (by omega) (by omega))).2.1 (okS_l (hJ (m + 1) b (by omega) (by omega))).2.1) ?_
            rintro _ _ ⟨rfl, rfl⟩
            iterate 4 (refine zv_step (bX7_innerTwo (3 * z + 4)) rfl rfl trivial ?_)
            refine zv_locals (l := [(6, .int (nI m + Int32.ofInt 1)), (4, .long (v4 + lN (tmW (lW J a m) (lW J (m + 1) b)))), (11, .long (Int64.ofInt (-1))), (9, .long (Int64.ofInt (-1))), (7, .long (lN (lW J (m + 1) b))), (0, .ref 76), (1, .int (nI n)), (2, .int (nI a)), (3, .int (nI b))]) (l' := [(6, .int (nI m + Int32.ofInt 1)), (4, .long (v4 + lN (tmW (lW J a m) (lW J (m + 1) b)))), (0, .ref 76), (1, .int (nI n)), (2, .int (nI a)), (3, .int (nI b))]) ?_ (ih2 (m + 1) (by omega) (by omega) (by omega) (nI_1 m))
            simp
          · iterate 7 (refine zv_step (bX7_innerTwo (3 * z + 4)) rfl rfl trivial ?_)
            exact zv_lret (bX7_innerTwo (3 * z + 4)) rfl rfl (Nat.zero_le _) (Nat.zero_le _) ⟨rfl, _, rfl⟩
        · iterate 4 (refine zv_step (bX7_innerTwo (3 * z + 4)) rfl rfl trivial ?_)
          refine zv_iale (bX7_innerTwo (3 * z + 4)) rfl rfl (vp_in_nI (by omega) (by decide)) (show A 3 (nI n).toNatClampNeg = nI y by rw [nI_clamp (by omega)]; exact h3) ?_
          iterate 4 (refine zv_step (bX7_innerTwo (3 * z + 4)) rfl rfl trivial ?_)
          refine zv_V3 (bX7_innerTwo (3 * z + 4)) rfl rfl rfl rfl rfl rfl rfl ⟨rfl, rfl, rfl⟩ ⟨by show 3 * z + 3 + 1 ≤ 3 * z + 4; omega, by show 8 + (8 + 11) + 64 * (3 * z + 3) ≤ 64 * (3 * z + 4); omega⟩ ⟨Nat.zero_le _, Nat.zero_le _⟩ (ih y (m + 1) b _ _ (nI_1 m) rfl ly (by omega) hsy (by omega) (by omega)) ?_
          rintro _ _ ⟨rfl, v115, rfl⟩
          iterate 6 (refine zv_step (bX7_innerTwo (3 * z + 4)) rfl rfl trivial ?_)
          refine zv_ifb (fun h130 => ?_) (fun h130 => ?_)
          · iterate 8 (refine zv_step (bX7_innerTwo (3 * z + 4)) rfl rfl trivial ?_)
            refine zv_lale (bX7_innerTwo (3 * z + 4)) rfl rfl (show vp_in (c8 21 * nI a + nI m) 441 by rw [ix21]; exact vp_in_nI (by omega) (by decide)) (show J 1 (c8 21 * nI a + nI m).toNatClampNeg = lN (lW J (a) (m)) by rw [ix21, nI_clamp (by omega)]; exact (okS_l (hJ (a) (m) (by omega) (by omega))).2.2) ?_
            iterate 1 (refine zv_step (bX7_innerTwo (3 * z + 4)) rfl rfl trivial ?_)
            refine zv_S2 (bX7_innerTwo (3 * z + 4)) rfl rfl rfl rfl ⟨rfl, rfl, rfl⟩ ⟨by show 0 + 1 ≤ 3 * z + 4; omega, by show 8 + (4 + 11) + 64 * (0) ≤ 64 * (3 * z + 4); omega⟩ ⟨Nat.zero_le _, Nat.zero_le _⟩ (mMul _ (okS_l (hJ a m (by omega) (by omega))).2.1 (okS_l (hJ (m + 1) b (by omega) (by omega))).2.1) ?_
            rintro _ _ ⟨rfl, rfl⟩
            iterate 4 (refine zv_step (bX7_innerTwo (3 * z + 4)) rfl rfl trivial ?_)
            refine zv_locals (l := [(6, .int (nI m + Int32.ofInt 1)), (4, .long (v4 + lN (tmW (lW J a m) (lW J (m + 1) b)))), (11, .long (v115)), (9, .long (Int64.ofInt (-1))), (7, .long (lN (lW J (m + 1) b))), (0, .ref 76), (1, .int (nI n)), (2, .int (nI a)), (3, .int (nI b))]) (l' := [(6, .int (nI m + Int32.ofInt 1)), (4, .long (v4 + lN (tmW (lW J a m) (lW J (m + 1) b)))), (0, .ref 76), (1, .int (nI n)), (2, .int (nI a)), (3, .int (nI b))]) ?_ (ih2 (m + 1) (by omega) (by omega) (by omega) (nI_1 m))
            simp
          · iterate 7 (refine zv_step (bX7_innerTwo (3 * z + 4)) rfl rfl trivial ?_)
            exact zv_lret (bX7_innerTwo (3 * z + 4)) rfl rfl (Nat.zero_le _) (Nat.zero_le _) ⟨rfl, _, rfl⟩
      · iterate 7 (refine zv_step (bX7_innerTwo (3 * z + 4)) rfl rfl trivial ?_)
        refine zv_lale (bX7_innerTwo (3 * z + 4)) rfl rfl (show vp_in (c8 21 * nI a + nI m) 441 by rw [ix21]; exact vp_in_nI (by omega) (by decide)) (show J 1 (c8 21 * nI a + nI m).toNatClampNeg = lN (lW J (a) (m)) by rw [ix21, nI_clamp (by omega)]; exact (okS_l (hJ (a) (m) (by omega) (by omega))).2.2) ?_
        iterate 3 (refine zv_step (bX7_innerTwo (3 * z + 4)) rfl rfl trivial ?_)
        refine zv_ifb (fun h72 => ?_) (fun h72 => ?_)
        · iterate 6 (refine zv_step (bX7_innerTwo (3 * z + 4)) rfl rfl trivial ?_)
          refine zv_ifb (fun h100 => ?_) (fun h100 => ?_)
          · iterate 6 (refine zv_step (bX7_innerTwo (3 * z + 4)) rfl rfl trivial ?_)
            refine zv_ifb (fun h130 => ?_) (fun h130 => ?_)
            · iterate 8 (refine zv_step (bX7_innerTwo (3 * z + 4)) rfl rfl trivial ?_)
              refine zv_lale (bX7_innerTwo (3 * z + 4)) rfl rfl (show vp_in (c8 21 * nI a + nI m) 441 by rw [ix21]; exact vp_in_nI (by omega) (by decide)) (show J 1 (c8 21 * nI a + nI m).toNatClampNeg = lN (lW J (a) (m)) by rw [ix21, nI_clamp (by omega)]; exact (okS_l (hJ (a) (m) (by omega) (by omega))).2.2) ?_
              iterate 1 (refine zv_step (bX7_innerTwo (3 * z + 4)) rfl rfl trivial ?_)
              refine zv_S2 (bX7_innerTwo (3 * z + 4)) rfl rfl rfl rfl ⟨rfl, rfl, rfl⟩ ⟨by show 0 + 1 ≤ 3 * z + 4; omega, by show 8 + (4 + 11) + 64 * (0) ≤ 64 * (3 * z + 4); omega⟩ ⟨Nat.zero_le _, Nat.zero_le _⟩ (mMul _ (okS_l (hJ a m (by omega) (by omega))).2.1 (okS_l (hJ (m + 1) b (by omega) (by omega))).2.1) ?_
              rintro _ _ ⟨rfl, rfl⟩
              iterate 4 (refine zv_step (bX7_innerTwo (3 * z + 4)) rfl rfl trivial ?_)
              refine zv_locals (l := [(6, .int (nI m + Int32.ofInt 1)), (4, .long (v4 + lN (tmW (lW J a m) (lW J (m + 1) b)))), (11, .long (Int64.ofInt (-1))), (9, .long (Int64.ofInt (-1))), (7, .long (lN (lW J (m + 1) b))), (0, .ref 76), (1, .int (nI n)), (2, .int (nI a)), (3, .int (nI b))]) (l' := [(6, .int (nI m + Int32.ofInt 1)), (4, .long (v4 + lN (tmW (lW J a m) (lW J (m + 1) b)))), (0, .ref 76), (1, .int (nI n)), (2, .int (nI a)), (3, .int (nI b))]) ?_ (ih2 (m + 1) (by omega) (by omega) (by omega) (nI_1 m))
              simp
            · iterate 7 (refine zv_step (bX7_innerTwo (3 * z + 4)) rfl rfl trivial ?_)
              exact zv_lret (bX7_innerTwo (3 * z + 4)) rfl rfl (Nat.zero_le _) (Nat.zero_le _) ⟨rfl, _, rfl⟩
          · iterate 4 (refine zv_step (bX7_innerTwo (3 * z + 4)) rfl rfl trivial ?_)
            refine zv_iale (bX7_innerTwo (3 * z + 4)) rfl rfl (vp_in_nI (by omega) (by decide)) (show A 3 (nI n).toNatClampNeg = nI y by rw [nI_clamp (by omega)]; exact h3) ?_
            iterate 4 (refine zv_step (bX7_innerTwo (3 * z + 4)) rfl rfl trivial ?_)
            refine zv_V3 (bX7_innerTwo (3 * z + 4)) rfl rfl rfl rfl rfl rfl rfl ⟨rfl, rfl, rfl⟩ ⟨by show 3 * z + 3 + 1 ≤ 3 * z + 4; omega, by show 8 + (8 + 11) + 64 * (3 * z + 3) ≤ 64 * (3 * z + 4); omega⟩ ⟨Nat.zero_le _, Nat.zero_le _⟩ (ih y (m + 1) b _ _ (nI_1 m) rfl ly (by omega) hsy (by omega) (by omega)) ?_
            rintro _ _ ⟨rfl, v115, rfl⟩
            iterate 6 (refine zv_step (bX7_innerTwo (3 * z + 4)) rfl rfl trivial ?_)
            refine zv_ifb (fun h130 => ?_) (fun h130 => ?_)
            · iterate 8 (refine zv_step (bX7_innerTwo (3 * z + 4)) rfl rfl trivial ?_)
              refine zv_lale (bX7_innerTwo (3 * z + 4)) rfl rfl (show vp_in (c8 21 * nI a + nI m) 441 by rw [ix21]; exact vp_in_nI (by omega) (by decide)) (show J 1 (c8 21 * nI a + nI m).toNatClampNeg = lN (lW J (a) (m)) by rw [ix21, nI_clamp (by omega)]; exact (okS_l (hJ (a) (m) (by omega) (by omega))).2.2) ?_
              iterate 1 (refine zv_step (bX7_innerTwo (3 * z + 4)) rfl rfl trivial ?_)
              refine zv_S2 (bX7_innerTwo (3 * z + 4)) rfl rfl rfl rfl ⟨rfl, rfl, rfl⟩ ⟨by show 0 + 1 ≤ 3 * z + 4; omega, by show 8 + (4 + 11) + 64 * (0) ≤ 64 * (3 * z + 4); omega⟩ ⟨Nat.zero_le _, Nat.zero_le _⟩ (mMul _ (okS_l (hJ a m (by omega) (by omega))).2.1 (okS_l (hJ (m + 1) b (by omega) (by omega))).2.1) ?_
              rintro _ _ ⟨rfl, rfl⟩
              iterate 4 (refine zv_step (bX7_innerTwo (3 * z + 4)) rfl rfl trivial ?_)
              refine zv_locals (l := [(6, .int (nI m + Int32.ofInt 1)), (4, .long (v4 + lN (tmW (lW J a m) (lW J (m + 1) b)))), (11, .long (v115)), (9, .long (Int64.ofInt (-1))), (7, .long (lN (lW J (m + 1) b))), (0, .ref 76), (1, .int (nI n)), (2, .int (nI a)), (3, .int (nI b))]) (l' := [(6, .int (nI m + Int32.ofInt 1)), (4, .long (v4 + lN (tmW (lW J a m) (lW J (m + 1) b)))), (0, .ref 76), (1, .int (nI n)), (2, .int (nI a)), (3, .int (nI b))]) ?_ (ih2 (m + 1) (by omega) (by omega) (by omega) (nI_1 m))
              simp
            · iterate 7 (refine zv_step (bX7_innerTwo (3 * z + 4)) rfl rfl trivial ?_)
              exact zv_lret (bX7_innerTwo (3 * z + 4)) rfl rfl (Nat.zero_le _) (Nat.zero_le _) ⟨rfl, _, rfl⟩
        · iterate 4 (refine zv_step (bX7_innerTwo (3 * z + 4)) rfl rfl trivial ?_)
          refine zv_iale (bX7_innerTwo (3 * z + 4)) rfl rfl (vp_in_nI (by omega) (by decide)) (show A 2 (nI n).toNatClampNeg = nI x by rw [nI_clamp (by omega)]; exact h2) ?_
          iterate 2 (refine zv_step (bX7_innerTwo (3 * z + 4)) rfl rfl trivial ?_)
          refine zv_V3 (bX7_innerTwo (3 * z + 4)) rfl rfl rfl rfl rfl rfl rfl ⟨rfl, rfl, rfl⟩ ⟨by show 3 * z + 3 + 1 ≤ 3 * z + 4; omega, by show 8 + (8 + 11) + 64 * (3 * z + 3) ≤ 64 * (3 * z + 4); omega⟩ ⟨Nat.zero_le _, Nat.zero_le _⟩ (ih x a m _ _ rfl rfl lx (by omega) hsx (by omega) (by omega)) ?_
          rintro _ _ ⟨rfl, v85, rfl⟩
          iterate 6 (refine zv_step (bX7_innerTwo (3 * z + 4)) rfl rfl trivial ?_)
          refine zv_ifb (fun h100 => ?_) (fun h100 => ?_)
          · iterate 6 (refine zv_step (bX7_innerTwo (3 * z + 4)) rfl rfl trivial ?_)
            refine zv_ifb (fun h130 => ?_) (fun h130 => ?_)
            · iterate 8 (refine zv_step (bX7_innerTwo (3 * z + 4)) rfl rfl trivial ?_)
              refine zv_lale (bX7_innerTwo (3 * z + 4)) rfl rfl (show vp_in (c8 21 * nI a + nI m) 441 by rw [ix21]; exact vp_in_nI (by omega) (by decide)) (show J 1 (c8 21 * nI a + nI m).toNatClampNeg = lN (lW J (a) (m)) by rw [ix21, nI_clamp (by omega)]; exact (okS_l (hJ (a) (m) (by omega) (by omega))).2.2) ?_
              iterate 1 (refine zv_step (bX7_innerTwo (3 * z + 4)) rfl rfl trivial ?_)
              refine zv_S2 (bX7_innerTwo (3 * z + 4)) rfl rfl rfl rfl ⟨rfl, rfl, rfl⟩ ⟨by show 0 + 1 ≤ 3 * z + 4; omega, by show 8 + (4 + 11) + 64 * (0) ≤ 64 * (3 * z + 4); omega⟩ ⟨Nat.zero_le _, Nat.zero_le _⟩ (mMul _ (okS_l (hJ a m (by omega) (by omega))).2.1 (okS_l (hJ (m + 1) b (by omega) (by omega))).2.1) ?_
              rintro _ _ ⟨rfl, rfl⟩
              iterate 4 (refine zv_step (bX7_innerTwo (3 * z + 4)) rfl rfl trivial ?_)
              refine zv_locals (l := [(6, .int (nI m + Int32.ofInt 1)), (4, .long (v4 + lN (tmW (lW J a m) (lW J (m + 1) b)))), (11, .long (Int64.ofInt (-1))), (9, .long (v85)), (7, .long (lN (lW J (m + 1) b))), (0, .ref 76), (1, .int (nI n)), (2, .int (nI a)), (3, .int (nI b))]) (l' := [(6, .int (nI m + Int32.ofInt 1)), (4, .long (v4 + lN (tmW (lW J a m) (lW J (m + 1) b)))), (0, .ref 76), (1, .int (nI n)), (2, .int (nI a)), (3, .int (nI b))]) ?_ (ih2 (m + 1) (by omega) (by omega) (by omega) (nI_1 m))
              simp
            · iterate 7 (refine zv_step (bX7_innerTwo (3 * z + 4)) rfl rfl trivial ?_)
              exact zv_lret (bX7_innerTwo (3 * z + 4)) rfl rfl (Nat.zero_le _) (Nat.zero_le _) ⟨rfl, _, rfl⟩
          · iterate 4 (refine zv_step (bX7_innerTwo (3 * z + 4)) rfl rfl trivial ?_)
            refine zv_iale (bX7_innerTwo (3 * z + 4)) rfl rfl (vp_in_nI (by omega) (by decide)) (show A 3 (nI n).toNatClampNeg = nI y by rw [nI_clamp (by omega)]; exact h3) ?_
            iterate 4 (refine zv_step (bX7_innerTwo (3 * z + 4)) rfl rfl trivial ?_)
            refine zv_V3 (bX7_innerTwo (3 * z + 4)) rfl rfl rfl rfl rfl rfl rfl ⟨rfl, rfl, rfl⟩ ⟨by show 3 * z + 3 + 1 ≤ 3 * z + 4; omega, by show 8 + (8 + 11) + 64 * (3 * z + 3) ≤ 64 * (3 * z + 4); omega⟩ ⟨Nat.zero_le _, Nat.zero_le _⟩ (ih y (m + 1) b _ _ (nI_1 m) rfl ly (by omega) hsy (by omega) (by omega)) ?_
            rintro _ _ ⟨rfl, v115, rfl⟩
            iterate 6 (refine zv_step (bX7_innerTwo (3 * z + 4)) rfl rfl trivial ?_)
            refine zv_ifb (fun h130 => ?_) (fun h130 => ?_)
            · iterate 8 (refine zv_step (bX7_innerTwo (3 * z + 4)) rfl rfl trivial ?_)
              refine zv_lale (bX7_innerTwo (3 * z + 4)) rfl rfl (show vp_in (c8 21 * nI a + nI m) 441 by rw [ix21]; exact vp_in_nI (by omega) (by decide)) (show J 1 (c8 21 * nI a + nI m).toNatClampNeg = lN (lW J (a) (m)) by rw [ix21, nI_clamp (by omega)]; exact (okS_l (hJ (a) (m) (by omega) (by omega))).2.2) ?_
              iterate 1 (refine zv_step (bX7_innerTwo (3 * z + 4)) rfl rfl trivial ?_)
              refine zv_S2 (bX7_innerTwo (3 * z + 4)) rfl rfl rfl rfl ⟨rfl, rfl, rfl⟩ ⟨by show 0 + 1 ≤ 3 * z + 4; omega, by show 8 + (4 + 11) + 64 * (0) ≤ 64 * (3 * z + 4); omega⟩ ⟨Nat.zero_le _, Nat.zero_le _⟩ (mMul _ (okS_l (hJ a m (by omega) (by omega))).2.1 (okS_l (hJ (m + 1) b (by omega) (by omega))).2.1) ?_
              rintro _ _ ⟨rfl, rfl⟩
              iterate 4 (refine zv_step (bX7_innerTwo (3 * z + 4)) rfl rfl trivial ?_)
              refine zv_locals (l := [(6, .int (nI m + Int32.ofInt 1)), (4, .long (v4 + lN (tmW (lW J a m) (lW J (m + 1) b)))), (11, .long (v115)), (9, .long (v85)), (7, .long (lN (lW J (m + 1) b))), (0, .ref 76), (1, .int (nI n)), (2, .int (nI a)), (3, .int (nI b))]) (l' := [(6, .int (nI m + Int32.ofInt 1)), (4, .long (v4 + lN (tmW (lW J a m) (lW J (m + 1) b)))), (0, .ref 76), (1, .int (nI n)), (2, .int (nI a)), (3, .int (nI b))]) ?_ (ih2 (m + 1) (by omega) (by omega) (by omega) (nI_1 m))
              simp
            · iterate 7 (refine zv_step (bX7_innerTwo (3 * z + 4)) rfl rfl trivial ?_)
              exact zv_lret (bX7_innerTwo (3 * z + 4)) rfl rfl (Nat.zero_le _) (Nat.zero_le _) ⟨rfl, _, rfl⟩
set_option maxHeartbeats 1000000 in
set_option maxRecDepth 20000 in
theorem mInn2 (f : Nat → zC) (o : Nat → Int32) (A : Nat → Nat → Int32) (J : Nat → Nat → Int64) {lo hi : Nat} (hh0 : hi ≤ 450) (hT : tbI lo hi A) {h : Nat} (hh : h ≤ 20) (hw : nnW h (A 8)) {s : Nat} (hJ : okJ h A s J) {z : Nat} (ih : ∀ (n i j : Nat) (y z' : Int32), y = nI i → z' = nI j → lo ≤ n → n < hi → szN A n ≤ z → i ≤ 30 → j ≤ h → zK (3 * z + 3) zX7_rank [.ref 76, .int (nI n), .int y, .int z'] (wR f o A J) (fun r w' => w' = (wR f o A J) ∧ ∃ v : Int64, r = some (.long v))) {n a b : Nat} (hlo : lo ≤ n) (hn : n < hi) (hz : szN A n ≤ z + 1) (hab : a < b) (hb : b ≤ h) {x y : Nat} (h2 : A 2 n = nI x) (h3 : A 3 n = nI y) (lx : lo ≤ x) (hx : x < n) (ly : lo ≤ y) (hy : y < n) (hsx : szN A x ≤ z) (hsy : szN A y ≤ z) : zK (3 * z + 4) zX7_innerTwo [.ref 76, .int (nI n), .int (nI a), .int (nI b)] (wR f o A J) (fun r w' => w' = (wR f o A J) ∧ ∃ v : Int64, r = some (.long v)) := by
  refine zK_of qX7_innerTwo (by decide +kernel) rfl ?_
  iterate 6 (refine zv_step (bX7_innerTwo (3 * z + 4)) rfl rfl trivial ?_)
  refine zv_locals (l := [(6, .int (nI a + Int32.ofInt 1)), (4, .long (lN 0)), (0, .ref 76), (1, .int (nI n)), (2, .int (nI a)), (3, .int (nI b))]) (l' := [(6, .int (nI a + Int32.ofInt 1)), (4, .long (lN 0)), (0, .ref 76), (1, .int (nI n)), (2, .int (nI a)), (3, .int (nI b))]) (fun q h => h) (inn2 f o A J hh0 hT hh hw hJ ih hlo hn hz hab hb h2 h3 lx hx ly hy hsx hsy (b - 1 - (a + 1)) (a + 1) rfl (Nat.le_refl _) (by omega) (nI_1 a))
set_option maxHeartbeats 1000000 in
set_option maxRecDepth 20000 in
theorem innN (f : Nat → zC) (o : Nat → Int32) (A : Nat → Nat → Int32) (J : Nat → Nat → Int64) {n a b h z : Nat} (hn : n < 450) (hh : h ≤ 20) (hb : b ≤ h) {n0 : Nat} : ∀ (w m : Nat), m + w = b → ∀ {x5 v : Int32}, x5 = nI m → zV (zMo (3 * z + 5) zX7_inner) false n0 0 0 36 [(5, .int x5), (4, .int v), (0, .ref 76), (1, .int (nI n)), (2, .int (nI a)), (3, .int (nI b))] [] (wR f o A J) (fun r w' => w' = (wR f o A J) ∧ ∃ v : Int64, r = some (.long v)) := by
  intro w
  induction w with
  | zero =>
    intro m hm x5 v e5
    subst e5
    iterate 3 (refine zv_step (bX7_inner (3 * z + 5)) rfl rfl trivial ?_)
    refine zv_ift (nI_le (by omega) (by omega)) ?_
    iterate 4 (refine zv_step (bX7_inner (3 * z + 5)) rfl rfl trivial ?_)
    refine zv_step (bX7_inner (3 * z + 5)) rfl rfl (vp_in_nI (by omega) (by decide)) ?_
    iterate 1 (refine zv_step (bX7_inner (3 * z + 5)) rfl rfl trivial ?_)
    refine zv_ifb (fun h74 => ?_) (fun h74 => ?_)
    · iterate 1 (refine zv_step (bX7_inner (3 * z + 5)) rfl rfl trivial ?_)
      exact zv_lret (bX7_inner (3 * z + 5)) rfl rfl (Nat.zero_le _) (Nat.zero_le _) ⟨rfl, _, rfl⟩
    · iterate 2 (refine zv_step (bX7_inner (3 * z + 5)) rfl rfl trivial ?_)
      exact zv_lret (bX7_inner (3 * z + 5)) rfl rfl (Nat.zero_le _) (Nat.zero_le _) ⟨rfl, _, rfl⟩
  | succ w ih2 =>
    intro m hm x5 v e5
    subst e5
    iterate 3 (refine zv_step (bX7_inner (3 * z + 5)) rfl rfl trivial ?_)
    refine zv_iff (fun h => absurd ((nI_leI (by omega) (by omega)).mp h) (by omega)) ?_
    iterate 6 (refine zv_step (bX7_inner (3 * z + 5)) rfl rfl trivial ?_)
    refine zv_step (bX7_inner (3 * z + 5)) rfl rfl (vp_in_nI (by omega) (by decide)) ?_
    iterate 6 (refine zv_step (bX7_inner (3 * z + 5)) rfl rfl trivial ?_)
    refine zv_locals (l := [(5, .int (nI m + Int32.ofInt 1)), (4, .int (c8 10 * v + A 8 (nI m).toNatClampNeg - c8 10)), (0, .ref 76), (1, .int (nI n)), (2, .int (nI a)), (3, .int (nI b))]) (l' := [(5, .int (nI m + Int32.ofInt 1)), (4, .int (c8 10 * v + A 8 (nI m).toNatClampNeg - c8 10)), (0, .ref 76), (1, .int (nI n)), (2, .int (nI a)), (3, .int (nI b))]) (fun q h => h) (ih2 (m + 1) (by omega) (nI_1 m))
set_option maxHeartbeats 1000000 in
set_option maxRecDepth 20000 in
theorem mTwoL (w : zW) {k : Nat} (h1 : k < 2) : zK 0 zX7_isTwo [.int (nI k)] w (fun r w' => w' = w ∧ r = some (.int 0)) := by
  refine zK_of qX7_isTwo (by decide +kernel) rfl ?_
  iterate 3 (refine zv_step (bX7_isTwo 0) rfl rfl trivial ?_)
  refine zv_ift (show nI k < nI 2 from nI_lt h1 (by decide)) ?_
  iterate 1 (refine zv_step (bX7_isTwo 0) rfl rfl trivial ?_)
  exact zv_iret (bX7_isTwo 0) rfl (Or.inr ⟨rfl, Or.inl rfl⟩) (Nat.zero_le _) (Nat.zero_le _) ⟨rfl, rfl⟩
set_option maxHeartbeats 1000000 in
set_option maxRecDepth 20000 in
theorem mInner (f : Nat → zC) (o : Nat → Int32) (A : Nat → Nat → Int32) (J : Nat → Nat → Int64) {lo hi : Nat} (hh0 : hi ≤ 450) (hT : tbI lo hi A) {h : Nat} (hh : h ≤ 20) (hw : nnW h (A 8)) {s : Nat} (hJ : okJ h A s J) {z : Nat} (ih : ∀ (n i j : Nat) (y z' : Int32), y = nI i → z' = nI j → lo ≤ n → n < hi → szN A n ≤ z → i ≤ 30 → j ≤ h → zK (3 * z + 3) zX7_rank [.ref 76, .int (nI n), .int y, .int z'] (wR f o A J) (fun r w' => w' = (wR f o A J) ∧ ∃ v : Int64, r = some (.long v))) {n a b : Nat} (hlo : lo ≤ n) (hn : n < hi) (hz : szN A n ≤ z + 1) (hab : a < b) (hb : b ≤ h) {y z' : Int32} (ey : y = nI a) (ez : z' = nI b) : zK (3 * z + 5) zX7_inner [.ref 76, .int (nI n), .int y, .int z'] (wR f o A J) (fun r w' => w' = (wR f o A J) ∧ ∃ v : Int64, r = some (.long v)) := by
  subst ey ez
  obtain ⟨k, h0, hk, hs, h40, hv⟩ := rN_val (hT n hlo hn)
  refine zK_of qX7_inner (by decide +kernel) rfl ?_
  rcases hs with ⟨k1, h2, h3, es⟩ | ⟨k1, k6, x, y2, h2, la, ha, h3, lb, hb2, es⟩ | ⟨k1, x, h2, lx, hx, h3, es⟩
  · rcases (show k = 0 ∨ k = 1 by omega) with rfl | rfl
    · iterate 3 (refine zv_step (bX7_inner (3 * z + 5)) rfl rfl trivial ?_)
      refine zv_iale (bX7_inner (3 * z + 5)) rfl rfl (vp_in_nI (by omega) (by decide)) (show A 0 (nI n).toNatClampNeg = nI 0 by rw [nI_clamp (by omega)]; exact h0) ?_
      refine zv_S1 (bX7_inner (3 * z + 5)) rfl rfl rfl rfl ⟨rfl, rfl, rfl⟩ ⟨by show 0 + 1 ≤ 3 * z + 5; omega, by show 8 + (1 + 11) + 64 * (0) ≤ 64 * (3 * z + 5); omega⟩ ⟨Nat.zero_le _, Nat.zero_le _⟩ (mTwoL _ (k := 0) (by decide)) ?_
      rintro _ _ ⟨rfl, rfl⟩
      iterate 1 (refine zv_step (bX7_inner (3 * z + 5)) rfl rfl trivial ?_)
      refine zv_ift (by decide) ?_
      iterate 3 (refine zv_step (bX7_inner (3 * z + 5)) rfl rfl trivial ?_)
      refine zv_iale (bX7_inner (3 * z + 5)) rfl rfl (vp_in_nI (by omega) (by decide)) (show A 0 (nI n).toNatClampNeg = nI 0 by rw [nI_clamp (by omega)]; exact h0) ?_
      iterate 2 (refine zv_step (bX7_inner (3 * z + 5)) rfl rfl trivial ?_)
      refine zv_ift (by decide) ?_
      iterate 3 (refine zv_step (bX7_inner (3 * z + 5)) rfl rfl trivial ?_)
      refine zv_iale (bX7_inner (3 * z + 5)) rfl rfl (vp_in_nI (by omega) (by decide)) (show A 0 (nI n).toNatClampNeg = nI 0 by rw [nI_clamp (by omega)]; exact h0) ?_
      iterate 1 (refine zv_step (bX7_inner (3 * z + 5)) rfl rfl trivial ?_)
      refine zv_iff (by decide) ?_
      iterate 3 (refine zv_step (bX7_inner (3 * z + 5)) rfl rfl trivial ?_)
      refine zv_step (bX7_inner (3 * z + 5)) rfl rfl (vp_in_nI (by omega) (by decide)) ?_
      iterate 3 (refine zv_step (bX7_inner (3 * z + 5)) rfl rfl trivial ?_)
      refine zv_step (bX7_inner (3 * z + 5)) rfl rfl (vp_in_nI (by omega) (by decide)) ?_
      iterate 1 (refine zv_step (bX7_inner (3 * z + 5)) rfl rfl trivial ?_)
      refine zv_ifb (fun h106 => ?_) (fun h106 => ?_)
      · iterate 1 (refine zv_step (bX7_inner (3 * z + 5)) rfl rfl trivial ?_)
        exact zv_lret (bX7_inner (3 * z + 5)) rfl rfl (Nat.zero_le _) (Nat.zero_le _) ⟨rfl, _, rfl⟩
      · iterate 2 (refine zv_step (bX7_inner (3 * z + 5)) rfl rfl trivial ?_)
        exact zv_lret (bX7_inner (3 * z + 5)) rfl rfl (Nat.zero_le _) (Nat.zero_le _) ⟨rfl, _, rfl⟩
    · iterate 3 (refine zv_step (bX7_inner (3 * z + 5)) rfl rfl trivial ?_)
      refine zv_iale (bX7_inner (3 * z + 5)) rfl rfl (vp_in_nI (by omega) (by decide)) (show A 0 (nI n).toNatClampNeg = nI 1 by rw [nI_clamp (by omega)]; exact h0) ?_
      refine zv_S1 (bX7_inner (3 * z + 5)) rfl rfl rfl rfl ⟨rfl, rfl, rfl⟩ ⟨by show 0 + 1 ≤ 3 * z + 5; omega, by show 8 + (1 + 11) + 64 * (0) ≤ 64 * (3 * z + 5); omega⟩ ⟨Nat.zero_le _, Nat.zero_le _⟩ (mTwoL _ (k := 1) (by decide)) ?_
      rintro _ _ ⟨rfl, rfl⟩
      iterate 1 (refine zv_step (bX7_inner (3 * z + 5)) rfl rfl trivial ?_)
      refine zv_ift (by decide) ?_
      iterate 3 (refine zv_step (bX7_inner (3 * z + 5)) rfl rfl trivial ?_)
      refine zv_iale (bX7_inner (3 * z + 5)) rfl rfl (vp_in_nI (by omega) (by decide)) (show A 0 (nI n).toNatClampNeg = nI 1 by rw [nI_clamp (by omega)]; exact h0) ?_
      iterate 2 (refine zv_step (bX7_inner (3 * z + 5)) rfl rfl trivial ?_)
      refine zv_iff (by decide) ?_
      iterate 4 (refine zv_step (bX7_inner (3 * z + 5)) rfl rfl trivial ?_)
      refine zv_locals (l := [(5, .int (nI a)), (4, .int (Int32.ofInt 0)), (0, .ref 76), (1, .int (nI n)), (2, .int (nI a)), (3, .int (nI b))]) (l' := [(5, .int (nI a)), (4, .int (Int32.ofInt 0)), (0, .ref 76), (1, .int (nI n)), (2, .int (nI a)), (3, .int (nI b))]) (fun q h => h) (innN f o A J (by omega) hh hb (b - a) a (by omega) rfl)
  · have sx := (rN_sz (hT x la (by omega))).1
    have sy := (rN_sz (hT y2 lb (by omega))).1
    iterate 3 (refine zv_step (bX7_inner (3 * z + 5)) rfl rfl trivial ?_)
    refine zv_iale (bX7_inner (3 * z + 5)) rfl rfl (vp_in_nI (by omega) (by decide)) (show A 0 (nI n).toNatClampNeg = nI k by rw [nI_clamp (by omega)]; exact h0) ?_
    refine zv_S1 (bX7_inner (3 * z + 5)) rfl rfl rfl rfl ⟨rfl, rfl, rfl⟩ ⟨by show 0 + 1 ≤ 3 * z + 5; omega, by show 8 + (1 + 11) + 64 * (0) ≤ 64 * (3 * z + 5); omega⟩ ⟨Nat.zero_le _, Nat.zero_le _⟩ (mTwoY _ k1 k6) ?_
    rintro _ _ ⟨rfl, rfl⟩
    iterate 1 (refine zv_step (bX7_inner (3 * z + 5)) rfl rfl trivial ?_)
    refine zv_iff (by decide) ?_
    iterate 4 (refine zv_step (bX7_inner (3 * z + 5)) rfl rfl trivial ?_)
    refine zv_V3 (bX7_inner (3 * z + 5)) rfl rfl rfl rfl rfl rfl rfl ⟨rfl, rfl, rfl⟩ ⟨by show 3 * z + 4 + 1 ≤ 3 * z + 5; omega, by show 8 + (13 + 11) + 64 * (3 * z + 4) ≤ 64 * (3 * z + 5); omega⟩ ⟨Nat.zero_le _, Nat.zero_le _⟩ (mInn2 f o A J hh0 hT hh hw hJ ih hlo hn hz hab hb h2 h3 la ha lb hb2 (by omega) (by omega)) ?_
    rintro _ _ ⟨rfl, v, rfl⟩
    exact zv_lret (bX7_inner (3 * z + 5)) rfl rfl (Nat.zero_le _) (Nat.zero_le _) ⟨rfl, _, rfl⟩
  · rcases (show k = 7 ∨ k = 8 ∨ k = 9 by omega) with rfl | rfl | rfl
    · iterate 3 (refine zv_step (bX7_inner (3 * z + 5)) rfl rfl trivial ?_)
      refine zv_iale (bX7_inner (3 * z + 5)) rfl rfl (vp_in_nI (by omega) (by decide)) (show A 0 (nI n).toNatClampNeg = nI 7 by rw [nI_clamp (by omega)]; exact h0) ?_
      refine zv_S1 (bX7_inner (3 * z + 5)) rfl rfl rfl rfl ⟨rfl, rfl, rfl⟩ ⟨by show 0 + 1 ≤ 3 * z + 5; omega, by show 8 + (1 + 11) + 64 * (0) ≤ 64 * (3 * z + 5); omega⟩ ⟨Nat.zero_le _, Nat.zero_le _⟩ (mTwoN _ (k := 7) (by decide) (by decide)) ?_
      rintro _ _ ⟨rfl, rfl⟩
      iterate 1 (refine zv_step (bX7_inner (3 * z + 5)) rfl rfl trivial ?_)
      refine zv_ift (by decide) ?_
      iterate 3 (refine zv_step (bX7_inner (3 * z + 5)) rfl rfl trivial ?_)
      refine zv_iale (bX7_inner (3 * z + 5)) rfl rfl (vp_in_nI (by omega) (by decide)) (show A 0 (nI n).toNatClampNeg = nI 7 by rw [nI_clamp (by omega)]; exact h0) ?_
      iterate 2 (refine zv_step (bX7_inner (3 * z + 5)) rfl rfl trivial ?_)
      refine zv_ift (by decide) ?_
      iterate 3 (refine zv_step (bX7_inner (3 * z + 5)) rfl rfl trivial ?_)
      refine zv_iale (bX7_inner (3 * z + 5)) rfl rfl (vp_in_nI (by omega) (by decide)) (show A 0 (nI n).toNatClampNeg = nI 7 by rw [nI_clamp (by omega)]; exact h0) ?_
      iterate 1 (refine zv_step (bX7_inner (3 * z + 5)) rfl rfl trivial ?_)
      refine zv_ift (by decide) ?_
      iterate 3 (refine zv_step (bX7_inner (3 * z + 5)) rfl rfl trivial ?_)
      refine zv_iale (bX7_inner (3 * z + 5)) rfl rfl (vp_in_nI (by omega) (by decide)) (show A 0 (nI n).toNatClampNeg = nI 7 by rw [nI_clamp (by omega)]; exact h0) ?_
      iterate 2 (refine zv_step (bX7_inner (3 * z + 5)) rfl rfl trivial ?_)
      refine zv_ift (by decide) ?_
      iterate 4 (refine zv_step (bX7_inner (3 * z + 5)) rfl rfl trivial ?_)
      refine zv_iale (bX7_inner (3 * z + 5)) rfl rfl (vp_in_nI (by omega) (by decide)) (show A 2 (nI n).toNatClampNeg = nI x by rw [nI_clamp (by omega)]; exact h2) ?_
      iterate 6 (refine zv_step (bX7_inner (3 * z + 5)) rfl rfl trivial ?_)
      refine zv_iale (bX7_inner (3 * z + 5)) rfl rfl (vp_in_nI (by omega) (by decide)) (show A 0 (nI n).toNatClampNeg = nI 7 by rw [nI_clamp (by omega)]; exact h0) ?_
      iterate 2 (refine zv_step (bX7_inner (3 * z + 5)) rfl rfl trivial ?_)
      refine zv_ift (by decide) ?_
      iterate 1 (refine zv_step (bX7_inner (3 * z + 5)) rfl rfl trivial ?_)
      refine zv_V3 (bX7_inner (3 * z + 5)) rfl rfl rfl rfl rfl rfl rfl ⟨rfl, rfl, rfl⟩ ⟨by show 3 * z + 3 + 1 ≤ 3 * z + 5; omega, by show 8 + (8 + 11) + 64 * (3 * z + 3) ≤ 64 * (3 * z + 5); omega⟩ ⟨Nat.zero_le _, Nat.zero_le _⟩ (ih x (a + 1) (b) _ _ (nI_1 a) rfl lx (by omega) (by omega) (by omega) (by omega)) ?_
      rintro _ _ ⟨rfl, v, rfl⟩
      exact zv_lret (bX7_inner (3 * z + 5)) rfl rfl (Nat.zero_le _) (Nat.zero_le _) ⟨rfl, _, rfl⟩
    · iterate 3 (refine zv_step (bX7_inner (3 * z + 5)) rfl rfl trivial ?_)
      refine zv_iale (bX7_inner (3 * z + 5)) rfl rfl (vp_in_nI (by omega) (by decide)) (show A 0 (nI n).toNatClampNeg = nI 8 by rw [nI_clamp (by omega)]; exact h0) ?_
      refine zv_S1 (bX7_inner (3 * z + 5)) rfl rfl rfl rfl ⟨rfl, rfl, rfl⟩ ⟨by show 0 + 1 ≤ 3 * z + 5; omega, by show 8 + (1 + 11) + 64 * (0) ≤ 64 * (3 * z + 5); omega⟩ ⟨Nat.zero_le _, Nat.zero_le _⟩ (mTwoN _ (k := 8) (by decide) (by decide)) ?_
      rintro _ _ ⟨rfl, rfl⟩
      iterate 1 (refine zv_step (bX7_inner (3 * z + 5)) rfl rfl trivial ?_)
      refine zv_ift (by decide) ?_
      iterate 3 (refine zv_step (bX7_inner (3 * z + 5)) rfl rfl trivial ?_)
      refine zv_iale (bX7_inner (3 * z + 5)) rfl rfl (vp_in_nI (by omega) (by decide)) (show A 0 (nI n).toNatClampNeg = nI 8 by rw [nI_clamp (by omega)]; exact h0) ?_
      iterate 2 (refine zv_step (bX7_inner (3 * z + 5)) rfl rfl trivial ?_)
      refine zv_ift (by decide) ?_
      iterate 3 (refine zv_step (bX7_inner (3 * z + 5)) rfl rfl trivial ?_)
      refine zv_iale (bX7_inner (3 * z + 5)) rfl rfl (vp_in_nI (by omega) (by decide)) (show A 0 (nI n).toNatClampNeg = nI 8 by rw [nI_clamp (by omega)]; exact h0) ?_
      iterate 1 (refine zv_step (bX7_inner (3 * z + 5)) rfl rfl trivial ?_)
      refine zv_ift (by decide) ?_
      iterate 3 (refine zv_step (bX7_inner (3 * z + 5)) rfl rfl trivial ?_)
      refine zv_iale (bX7_inner (3 * z + 5)) rfl rfl (vp_in_nI (by omega) (by decide)) (show A 0 (nI n).toNatClampNeg = nI 8 by rw [nI_clamp (by omega)]; exact h0) ?_
      iterate 2 (refine zv_step (bX7_inner (3 * z + 5)) rfl rfl trivial ?_)
      refine zv_ift (by decide) ?_
      iterate 4 (refine zv_step (bX7_inner (3 * z + 5)) rfl rfl trivial ?_)
      refine zv_iale (bX7_inner (3 * z + 5)) rfl rfl (vp_in_nI (by omega) (by decide)) (show A 2 (nI n).toNatClampNeg = nI x by rw [nI_clamp (by omega)]; exact h2) ?_
      iterate 6 (refine zv_step (bX7_inner (3 * z + 5)) rfl rfl trivial ?_)
      refine zv_iale (bX7_inner (3 * z + 5)) rfl rfl (vp_in_nI (by omega) (by decide)) (show A 0 (nI n).toNatClampNeg = nI 8 by rw [nI_clamp (by omega)]; exact h0) ?_
      iterate 2 (refine zv_step (bX7_inner (3 * z + 5)) rfl rfl trivial ?_)
      refine zv_iff (by decide) ?_
      iterate 4 (refine zv_step (bX7_inner (3 * z + 5)) rfl rfl trivial ?_)
      refine zv_V3 (bX7_inner (3 * z + 5)) rfl rfl rfl rfl rfl rfl rfl ⟨rfl, rfl, rfl⟩ ⟨by show 3 * z + 3 + 1 ≤ 3 * z + 5; omega, by show 8 + (8 + 11) + 64 * (3 * z + 3) ≤ 64 * (3 * z + 5); omega⟩ ⟨Nat.zero_le _, Nat.zero_le _⟩ (ih x (a + 1) (b - 1) _ _ (nI_1 a) (sub_1 (by omega)) lx (by omega) (by omega) (by omega) (by omega)) ?_
      rintro _ _ ⟨rfl, v, rfl⟩
      exact zv_lret (bX7_inner (3 * z + 5)) rfl rfl (Nat.zero_le _) (Nat.zero_le _) ⟨rfl, _, rfl⟩
    · iterate 3 (refine zv_step (bX7_inner (3 * z + 5)) rfl rfl trivial ?_)
      refine zv_iale (bX7_inner (3 * z + 5)) rfl rfl (vp_in_nI (by omega) (by decide)) (show A 0 (nI n).toNatClampNeg = nI 9 by rw [nI_clamp (by omega)]; exact h0) ?_
      refine zv_S1 (bX7_inner (3 * z + 5)) rfl rfl rfl rfl ⟨rfl, rfl, rfl⟩ ⟨by show 0 + 1 ≤ 3 * z + 5; omega, by show 8 + (1 + 11) + 64 * (0) ≤ 64 * (3 * z + 5); omega⟩ ⟨Nat.zero_le _, Nat.zero_le _⟩ (mTwoN _ (k := 9) (by decide) (by decide)) ?_
      rintro _ _ ⟨rfl, rfl⟩
      iterate 1 (refine zv_step (bX7_inner (3 * z + 5)) rfl rfl trivial ?_)
      refine zv_ift (by decide) ?_
      iterate 3 (refine zv_step (bX7_inner (3 * z + 5)) rfl rfl trivial ?_)
      refine zv_iale (bX7_inner (3 * z + 5)) rfl rfl (vp_in_nI (by omega) (by decide)) (show A 0 (nI n).toNatClampNeg = nI 9 by rw [nI_clamp (by omega)]; exact h0) ?_
      iterate 2 (refine zv_step (bX7_inner (3 * z + 5)) rfl rfl trivial ?_)
      refine zv_ift (by decide) ?_
      iterate 3 (refine zv_step (bX7_inner (3 * z + 5)) rfl rfl trivial ?_)
      refine zv_iale (bX7_inner (3 * z + 5)) rfl rfl (vp_in_nI (by omega) (by decide)) (show A 0 (nI n).toNatClampNeg = nI 9 by rw [nI_clamp (by omega)]; exact h0) ?_
      iterate 1 (refine zv_step (bX7_inner (3 * z + 5)) rfl rfl trivial ?_)
      refine zv_ift (by decide) ?_
      iterate 3 (refine zv_step (bX7_inner (3 * z + 5)) rfl rfl trivial ?_)
      refine zv_iale (bX7_inner (3 * z + 5)) rfl rfl (vp_in_nI (by omega) (by decide)) (show A 0 (nI n).toNatClampNeg = nI 9 by rw [nI_clamp (by omega)]; exact h0) ?_
      iterate 2 (refine zv_step (bX7_inner (3 * z + 5)) rfl rfl trivial ?_)
      refine zv_iff (by decide) ?_
      iterate 3 (refine zv_step (bX7_inner (3 * z + 5)) rfl rfl trivial ?_)
      refine zv_step (bX7_inner (3 * z + 5)) rfl rfl (vp_in_nI (by omega) (by decide)) ?_
      iterate 3 (refine zv_step (bX7_inner (3 * z + 5)) rfl rfl trivial ?_)
      refine zv_step (bX7_inner (3 * z + 5)) rfl rfl (vp_in_nI (by omega) (by decide)) ?_
      iterate 1 (refine zv_step (bX7_inner (3 * z + 5)) rfl rfl trivial ?_)
      refine zv_ifb (fun h140 => ?_) (fun h140 => ?_)
      · iterate 1 (refine zv_step (bX7_inner (3 * z + 5)) rfl rfl trivial ?_)
        exact zv_lret (bX7_inner (3 * z + 5)) rfl rfl (Nat.zero_le _) (Nat.zero_le _) ⟨rfl, _, rfl⟩
      · iterate 4 (refine zv_step (bX7_inner (3 * z + 5)) rfl rfl trivial ?_)
        refine zv_iale (bX7_inner (3 * z + 5)) rfl rfl (vp_in_nI (by omega) (by decide)) (show A 2 (nI n).toNatClampNeg = nI x by rw [nI_clamp (by omega)]; exact h2) ?_
        iterate 4 (refine zv_step (bX7_inner (3 * z + 5)) rfl rfl trivial ?_)
        refine zv_V3 (bX7_inner (3 * z + 5)) rfl rfl rfl rfl rfl rfl rfl ⟨rfl, rfl, rfl⟩ ⟨by show 3 * z + 3 + 1 ≤ 3 * z + 5; omega, by show 8 + (8 + 11) + 64 * (3 * z + 3) ≤ 64 * (3 * z + 5); omega⟩ ⟨Nat.zero_le _, Nat.zero_le _⟩ (ih x (a + 2) b _ _ (nI_2 a) rfl lx (by omega) (by omega) (by omega) (by omega)) ?_
        rintro _ _ ⟨rfl, v, rfl⟩
        iterate 1 (refine zv_step (bX7_inner (3 * z + 5)) rfl rfl trivial ?_)
        exact zv_lret (bX7_inner (3 * z + 5)) rfl rfl (Nat.zero_le _) (Nat.zero_le _) ⟨rfl, _, rfl⟩
set_option maxHeartbeats 1000000 in
set_option maxRecDepth 20000 in
theorem rnkD (f : Nat → zC) (o : Nat → Int32) (A : Nat → Nat → Int32) (J : Nat → Nat → Int64) {n i j c z : Nat} (hij : i < j) (hj : j ≤ 20) (hc : c < 20) {n0 : Nat} {Q : Option Value → zW → Prop} (kk : ∀ v : Int64, zV (zMo (3 * (z + 1) + 3) zX7_rank) false n0 0 0 139 [(5, .long v), (4, .int (nI c)), (0, .ref 76), (1, .int (nI n)), (2, .int (nI i)), (3, .int (nI j))] [] (wR f o A J) Q) : ∀ (w d : Nat), d + w = c → ∀ {x7 : Int32} {v : Int64}, x7 = nI d → zV (zMo (3 * (z + 1) + 3) zX7_rank) false n0 0 0 97 [(7, .int x7), (5, .long v), (4, .int (nI c)), (0, .ref 76), (1, .int (nI n)), (2, .int (nI i)), (3, .int (nI j))] [] (wR f o A J) Q := by
  intro w
  induction w with
  | zero =>
    intro d hd x7 v e7
    subst e7
    iterate 3 (refine zv_step (bX7_rank (3 * (z + 1) + 3)) rfl rfl trivial ?_)
    refine zv_ift (nI_le (by omega) (by omega)) ?_
    refine zv_locals (l := [(7, .int (nI d)), (5, .long v), (4, .int (nI c)), (0, .ref 76), (1, .int (nI n)), (2, .int (nI i)), (3, .int (nI j))]) (l' := [(5, .long v), (4, .int (nI c)), (0, .ref 76), (1, .int (nI n)), (2, .int (nI i)), (3, .int (nI j))]) ?_ (kk v)
    simp
  | succ w ih2 =>
    intro d hd x7 v e7
    subst e7
    iterate 3 (refine zv_step (bX7_rank (3 * (z + 1) + 3)) rfl rfl trivial ?_)
    refine zv_iff (fun h => absurd ((nI_leI (by omega) (by omega)).mp h) (by omega)) ?_
    iterate 4 (refine zv_step (bX7_rank (3 * (z + 1) + 3)) rfl rfl trivial ?_)
    refine zv_ifb (fun h108 => ?_) (fun h108 => ?_)
    · refine zv_locals (l := [(7, .int (nI d)), (5, .long v), (4, .int (nI c)), (0, .ref 76), (1, .int (nI n)), (2, .int (nI i)), (3, .int (nI j))]) (l' := [(5, .long v), (4, .int (nI c)), (0, .ref 76), (1, .int (nI n)), (2, .int (nI i)), (3, .int (nI j))]) ?_ (kk v)
      simp
    · iterate 12 (refine zv_step (bX7_rank (3 * (z + 1) + 3)) rfl rfl trivial ?_)
      refine zv_step (bX7_rank (3 * (z + 1) + 3)) rfl rfl (show vp_in (c8 20 * (c8 21 * nI i + nI j) + nI d) 8820 by rw [show c8 20 * (c8 21 * nI i + nI j) + nI d = nI (20 * (21 * i + j) + d) by rw [ix21, ix20m]]; exact vp_in_nI (by omega) (by decide)) ?_
      iterate 4 (refine zv_step (bX7_rank (3 * (z + 1) + 3)) rfl rfl trivial ?_)
      refine zv_locals (l := [(7, .int (nI d + Int32.ofInt 1)), (5, .long (v + J 0 (c8 20 * (c8 21 * nI i + nI j) + nI d).toNatClampNeg)), (4, .int (nI c)), (0, .ref 76), (1, .int (nI n)), (2, .int (nI i)), (3, .int (nI j))]) (l' := [(7, .int (nI d + Int32.ofInt 1)), (5, .long (v + J 0 (c8 20 * (c8 21 * nI i + nI j) + nI d).toNatClampNeg)), (4, .int (nI c)), (0, .ref 76), (1, .int (nI n)), (2, .int (nI i)), (3, .int (nI j))]) (fun q h => h) (ih2 (d + 1) (by omega) (nI_1 d))
set_option maxHeartbeats 1000000 in
set_option maxRecDepth 20000 in
theorem rnkC (f : Nat → zC) (o : Nat → Int32) (A : Nat → Nat → Int32) (J : Nat → Nat → Int64) {lo hi : Nat} (hh0 : hi ≤ 450) (hT : tbI lo hi A) {h : Nat} (hh : h ≤ 20) (hw : nnW h (A 8)) {s : Nat} (hJ : okJ h A s J) {z : Nat} (ih : ∀ (n i j : Nat) (y z' : Int32), y = nI i → z' = nI j → lo ≤ n → n < hi → szN A n ≤ z → i ≤ 30 → j ≤ h → zK (3 * z + 3) zX7_rank [.ref 76, .int (nI n), .int y, .int z'] (wR f o A J) (fun r w' => w' = (wR f o A J) ∧ ∃ v : Int64, r = some (.long v))) {n i j k : Nat} (hlo : lo ≤ n) (hn : n < hi) (hz : szN A n ≤ z + 1) (hij : i < j) (hj : j ≤ h) (hk : k < 10) (h0 : A 0 n = nI k) {n0 : Nat} : ∀ (w c : Nat), c + w = 2 * k + 2 → ∀ {x4 : Int32}, x4 = nI c → zV (zMo (3 * (z + 1) + 3) zX7_rank) false n0 0 0 26 [(4, .int x4), (0, .ref 76), (1, .int (nI n)), (2, .int (nI i)), (3, .int (nI j))] [] (wR f o A J) (fun r w' => w' = (wR f o A J) ∧ ∃ v : Int64, r = some (.long v)) := by
  intro w
  induction w with
  | zero =>
    intro c hc x4 e4
    subst e4
    iterate 5 (refine zv_step (bX7_rank (3 * (z + 1) + 3)) rfl rfl trivial ?_)
    refine zv_iale (bX7_rank (3 * (z + 1) + 3)) rfl rfl (vp_in_nI (by omega) (by decide)) (show A 0 (nI n).toNatClampNeg = nI k by rw [nI_clamp (by omega)]; exact h0) ?_
    iterate 4 (refine zv_step (bX7_rank (3 * (z + 1) + 3)) rfl rfl trivial ?_)
    refine zv_ift (show Int32.ofInt 2 * nI k + Int32.ofInt 2 ≤ nI c by rw [show Int32.ofInt 2 * nI k + Int32.ofInt 2 = nI (2 * k + 2) by rw [show Int32.ofInt 2 * nI k = nI (2 * k) from nI_mul 2 k]; exact nI_2 _]; exact nI_le (by omega) (by omega)) ?_
    iterate 1 (refine zv_step (bX7_rank (3 * (z + 1) + 3)) rfl rfl trivial ?_)
    exact zv_lret (bX7_rank (3 * (z + 1) + 3)) rfl rfl (Nat.zero_le _) (Nat.zero_le _) ⟨rfl, _, rfl⟩
  | succ w ih2 =>
    intro c hc x4 e4
    subst e4
    iterate 5 (refine zv_step (bX7_rank (3 * (z + 1) + 3)) rfl rfl trivial ?_)
    refine zv_iale (bX7_rank (3 * (z + 1) + 3)) rfl rfl (vp_in_nI (by omega) (by decide)) (show A 0 (nI n).toNatClampNeg = nI k by rw [nI_clamp (by omega)]; exact h0) ?_
    iterate 4 (refine zv_step (bX7_rank (3 * (z + 1) + 3)) rfl rfl trivial ?_)
    refine zv_iff (show ¬ Int32.ofInt 2 * nI k + Int32.ofInt 2 ≤ nI c by rw [show Int32.ofInt 2 * nI k + Int32.ofInt 2 = nI (2 * k + 2) by rw [show Int32.ofInt 2 * nI k = nI (2 * k) from nI_mul 2 k]; exact nI_2 _]; exact fun h => absurd ((nI_leI (by omega) (by omega)).mp h) (by omega)) ?_
    iterate 11 (refine zv_step (bX7_rank (3 * (z + 1) + 3)) rfl rfl trivial ?_)
    refine zv_lale (bX7_rank (3 * (z + 1) + 3)) rfl rfl (show vp_in (c8 20 * (c8 21 * nI i + nI j) + nI c) 8820 by rw [show c8 20 * (c8 21 * nI i + nI j) + nI c = nI (20 * (21 * i + j) + c) by rw [ix21, ix20m]]; exact vp_in_nI (by omega) (by decide)) (show J 0 (c8 20 * (c8 21 * nI i + nI j) + nI c).toNatClampNeg = lN (mW A s (lW J) i j c) by rw [show c8 20 * (c8 21 * nI i + nI j) + nI c = nI (20 * (21 * i + j) + c) by rw [ix21, ix20m], nI_clamp (by omega)]; exact (hJ i j hij hj).1 c (by omega)) ?_
    iterate 3 (refine zv_step (bX7_rank (3 * (z + 1) + 3)) rfl rfl trivial ?_)
    refine zv_ifb (fun h60 => ?_) (fun h60 => ?_)
    · iterate 2 (refine zv_step (bX7_rank (3 * (z + 1) + 3)) rfl rfl trivial ?_)
      refine zv_locals (l := [(4, .int (nI c + Int32.ofInt 1)), (0, .ref 76), (1, .int (nI n)), (2, .int (nI i)), (3, .int (nI j))]) (l' := [(4, .int (nI c + Int32.ofInt 1)), (0, .ref 76), (1, .int (nI n)), (2, .int (nI i)), (3, .int (nI j))]) (fun q h => h) (ih2 (c + 1) (by omega) (nI_1 c))
    · have hp : 0 < mW A s (lW J) i j c := by
        have h9 : ¬ lN (mW A s (lW J) i j c) ≤ lN 0 := fun e => h60 ((lg_cmp_le _ _).mpr e)
        have hcap := mW_le hJ (i := i) (j := j) hj c
        rw [lN_leJ (by unfold cap at hcap; omega) (by decide)] at h9
        omega
      have hw2 := (mW_pos hp).1
      have hab : i + c % 2 < j - c % 2 := by
        rcases Nat.lt_or_ge (i + c % 2) (j - c % 2) with e | e
        · exact e
        · rw [wi_n e] at hw2
          omega
      iterate 2 (refine zv_step (bX7_rank (3 * (z + 1) + 3)) rfl rfl trivial ?_)
      refine zv_step (bX7_rank (3 * (z + 1) + 3)) rfl rfl (show ¬ Int32.ofInt 2 = 0 by decide) ?_
      iterate 2 (refine zv_step (bX7_rank (3 * (z + 1) + 3)) rfl rfl trivial ?_)
      refine zv_ifb (fun h68 => ?_) (fun h68 => ?_)
      · have q68 : c % 2 = 0 := by
          have h9 : ¬ nI c - nI c / Int32.ofInt 2 * Int32.ofInt 2 = nI 1 := h68
          rw [rem2 (by omega), nI_eq (by omega) (by decide)] at h9
          omega
        rw [q68] at hab
        iterate 4 (refine zv_step (bX7_rank (3 * (z + 1) + 3)) rfl rfl trivial ?_)
        refine zv_V3 (bX7_rank (3 * (z + 1) + 3)) rfl rfl rfl rfl rfl rfl rfl ⟨rfl, rfl, rfl⟩ ⟨by show 3 * z + 5 + 1 ≤ 3 * (z + 1) + 3; omega, by show 8 + (6 + 11) + 64 * (3 * z + 5) ≤ 64 * (3 * (z + 1) + 3); omega⟩ ⟨Nat.zero_le _, Nat.zero_le _⟩ (mInner f o A J hh0 hT hh hw hJ ih hlo hn hz (a := i) (b := j) hab (by omega) rfl rfl) ?_
        rintro _ _ ⟨rfl, v9, rfl⟩
        iterate 3 (refine zv_step (bX7_rank (3 * (z + 1) + 3)) rfl rfl trivial ?_)
        refine zv_locals (l := [(7, .int (Int32.ofInt 0)), (5, .long v9), (4, .int (nI c)), (0, .ref 76), (1, .int (nI n)), (2, .int (nI i)), (3, .int (nI j))]) (l' := [(7, .int (Int32.ofInt 0)), (5, .long v9), (4, .int (nI c)), (0, .ref 76), (1, .int (nI n)), (2, .int (nI i)), (3, .int (nI j))]) (fun q h => h) (rnkD f o A J hij (by omega) (by omega) (fun v => ?_) c 0 (by omega) rfl)
        iterate 4 (refine zv_step (bX7_rank (3 * (z + 1) + 3)) rfl rfl trivial ?_)
        refine zv_ifb (fun h143 => ?_) (fun h143 => ?_)
        · iterate 2 (refine zv_step (bX7_rank (3 * (z + 1) + 3)) rfl rfl trivial ?_)
          refine zv_locals (l := [(4, .int (nI c + Int32.ofInt 1)), (5, .long v), (0, .ref 76), (1, .int (nI n)), (2, .int (nI i)), (3, .int (nI j))]) (l' := [(4, .int (nI c + Int32.ofInt 1)), (0, .ref 76), (1, .int (nI n)), (2, .int (nI i)), (3, .int (nI j))]) ?_ (ih2 (c + 1) (by omega) (nI_1 c))
          simp
        · iterate 1 (refine zv_step (bX7_rank (3 * (z + 1) + 3)) rfl rfl trivial ?_)
          exact zv_lret (bX7_rank (3 * (z + 1) + 3)) rfl rfl (Nat.zero_le _) (Nat.zero_le _) ⟨rfl, _, rfl⟩
      · have q68 : c % 2 = 1 := by
          have h9 : nI c - nI c / Int32.ofInt 2 * Int32.ofInt 2 = nI 1 := Decidable.not_not.mp h68
          rwa [rem2 (by omega), nI_eq (by omega) (by decide)] at h9
        rw [q68] at hab
        iterate 8 (refine zv_step (bX7_rank (3 * (z + 1) + 3)) rfl rfl trivial ?_)
        refine zv_V3 (bX7_rank (3 * (z + 1) + 3)) rfl rfl rfl rfl rfl rfl rfl ⟨rfl, rfl, rfl⟩ ⟨by show 3 * z + 5 + 1 ≤ 3 * (z + 1) + 3; omega, by show 8 + (6 + 11) + 64 * (3 * z + 5) ≤ 64 * (3 * (z + 1) + 3); omega⟩ ⟨Nat.zero_le _, Nat.zero_le _⟩ (mInner f o A J hh0 hT hh hw hJ ih hlo hn hz (a := i + 1) (b := j - 1) hab (by omega) (nI_1 i) (sub_1 (by omega))) ?_
        rintro _ _ ⟨rfl, v9, rfl⟩
        iterate 4 (refine zv_step (bX7_rank (3 * (z + 1) + 3)) rfl rfl trivial ?_)
        refine zv_locals (l := [(7, .int (Int32.ofInt 0)), (5, .long v9), (4, .int (nI c)), (0, .ref 76), (1, .int (nI n)), (2, .int (nI i)), (3, .int (nI j))]) (l' := [(7, .int (Int32.ofInt 0)), (5, .long v9), (4, .int (nI c)), (0, .ref 76), (1, .int (nI n)), (2, .int (nI i)), (3, .int (nI j))]) (fun q h => h) (rnkD f o A J hij (by omega) (by omega) (fun v => ?_) c 0 (by omega) rfl)
        iterate 4 (refine zv_step (bX7_rank (3 * (z + 1) + 3)) rfl rfl trivial ?_)
        refine zv_ifb (fun h143 => ?_) (fun h143 => ?_)
        · iterate 2 (refine zv_step (bX7_rank (3 * (z + 1) + 3)) rfl rfl trivial ?_)
          refine zv_locals (l := [(4, .int (nI c + Int32.ofInt 1)), (5, .long v), (0, .ref 76), (1, .int (nI n)), (2, .int (nI i)), (3, .int (nI j))]) (l' := [(4, .int (nI c + Int32.ofInt 1)), (0, .ref 76), (1, .int (nI n)), (2, .int (nI i)), (3, .int (nI j))]) ?_ (ih2 (c + 1) (by omega) (nI_1 c))
          simp
        · iterate 1 (refine zv_step (bX7_rank (3 * (z + 1) + 3)) rfl rfl trivial ?_)
          exact zv_lret (bX7_rank (3 * (z + 1) + 3)) rfl rfl (Nat.zero_le _) (Nat.zero_le _) ⟨rfl, _, rfl⟩
set_option maxHeartbeats 1000000 in
set_option maxRecDepth 20000 in
theorem mRank (f : Nat → zC) (o : Nat → Int32) (A : Nat → Nat → Int32) (J : Nat → Nat → Int64) {lo hi : Nat} (hh0 : hi ≤ 450) (hT : tbI lo hi A) {h : Nat} (hh : h ≤ 20) (hw : nnW h (A 8)) {s : Nat} (hJ : okJ h A s J) : ∀ (z n i j : Nat) (y z' : Int32), y = nI i → z' = nI j → lo ≤ n → n < hi → szN A n ≤ z → i ≤ 30 → j ≤ h → zK (3 * z + 3) zX7_rank [.ref 76, .int (nI n), .int y, .int z'] (wR f o A J) (fun r w' => w' = (wR f o A J) ∧ ∃ v : Int64, r = some (.long v)) := by
  intro z
  induction z with
  | zero =>
    intro n i j y z' _ _ hlo hn hz
    have := (rN_sz (hT n hlo hn)).1
    omega
  | succ z ih =>
    intro n i j y z' ey ez hlo hn hz hi0 hj
    subst ey ez
    obtain ⟨k, hk, h0⟩ := rN_kd (hT n hlo hn)
    refine zK_of qX7_rank (by decide +kernel) rfl ?_
    iterate 3 (refine zv_step (bX7_rank (3 * (z + 1) + 3)) rfl rfl trivial ?_)
    refine zv_iale (bX7_rank (3 * (z + 1) + 3)) rfl rfl (vp_in_nI (by omega) (by decide)) (show A 4 (nI n).toNatClampNeg = nI (szN A n) by rw [nI_clamp (by omega)]; exact (rN_sz (hT n hlo hn)).2.2) ?_
    iterate 4 (refine zv_step (bX7_rank (3 * (z + 1) + 3)) rfl rfl trivial ?_)
    refine zv_ifb (fun h9 => ?_) (fun h9 => ?_)
    · have hij : i < j := by
        rcases Nat.lt_or_ge i j with e | e
        · exact e
        · exfalso
          have h9 : nI (szN A n) ≤ nI j - nI i := h9
          have s1 := (rN_sz (hT n hlo hn)).1
          have s2 := (rN_sz (hT n hlo hn)).2.1
          rw [Int32.le_iff_toInt_le, Int32.toInt_sub, nI_toInt (by omega), nI_toInt (by omega), nI_toInt (by omega), Int.bmod_eq_of_le (by omega) (by omega)] at h9
          omega
      iterate 4 (refine zv_step (bX7_rank (3 * (z + 1) + 3)) rfl rfl trivial ?_)
      refine zv_iale (bX7_rank (3 * (z + 1) + 3)) rfl rfl (vp_in_nI (by omega) (by decide)) (show A 0 (nI n).toNatClampNeg = nI k by rw [nI_clamp (by omega)]; exact h0) ?_
      iterate 2 (refine zv_step (bX7_rank (3 * (z + 1) + 3)) rfl rfl trivial ?_)
      refine zv_locals (l := [(4, .int (Int32.ofInt 2 * nI k)), (0, .ref 76), (1, .int (nI n)), (2, .int (nI i)), (3, .int (nI j))]) (l' := [(4, .int (Int32.ofInt 2 * nI k)), (0, .ref 76), (1, .int (nI n)), (2, .int (nI i)), (3, .int (nI j))]) (fun q h => h) (rnkC f o A J hh0 hT hh hw hJ ih hlo hn hz hij hj hk h0 2 (2 * k) (by omega) (nI_mul 2 k))
    · iterate 1 (refine zv_step (bX7_rank (3 * (z + 1) + 3)) rfl rfl trivial ?_)
      exact zv_lret (bX7_rank (3 * (z + 1) + 3)) rfl rfl (Nat.zero_le _) (Nat.zero_le _) ⟨rfl, _, rfl⟩
set_option maxHeartbeats 1000000 in
set_option maxRecDepth 20000 in
theorem mPlace (f : Nat → zC) (o : Nat → Int32) (A : Nat → Nat → Int32) (J : Nat → Nat → Int64) {u : Nat} (hu : u ≤ 120) (ho : o 0 = nI u) (hT : tbI 0 u A) {h : Nat} (hh : h ≤ 20) (hw : nnW h (A 8)) (ho10 : o 10 = nI h) (x y : Int32) : zK 124 zX7_place [.ref 76, .int x, .int y] (wR f o A J) (fun r w' => ∃ (o' : Nat → Int32) (J' : Nat → Nat → Int64) (R : Int64), r = some (.long R) ∧ w' = wR f o' A J' ∧ ∀ j, j ≠ 28 → o' j = o j) := by
  refine zK_of qX7_place (by decide +kernel) rfl ?_
  iterate 4 (refine zv_step (bX7_place 124) rfl rfl trivial ?_)
  refine zv_S3 (bX7_place 124) rfl rfl rfl rfl ⟨rfl, rfl, rfl⟩ ⟨by decide, by decide⟩ ⟨Nat.zero_le _, Nat.zero_le _⟩ (mIn _ _ _ _ (a := 0) (b := 8) (by decide) (by decide)) ?_
  rintro _ _ ⟨rfl, ⟨g1, rfl⟩ | ⟨g1, rfl⟩⟩
  · obtain ⟨s, hs, rfl⟩ := in_nat (x := x) (b := 8) (by decide) g1
    iterate 1 (refine zv_step (bX7_place 124) rfl rfl trivial ?_)
    refine zv_iff (by decide) ?_
    iterate 2 (refine zv_step (bX7_place 124) rfl rfl trivial ?_)
    refine zv_V1 (bX7_place 124) rfl rfl rfl rfl rfl rfl rfl ⟨rfl, rfl, rfl⟩ ⟨by decide, by decide⟩ ⟨Nat.zero_le _, Nat.zero_le _⟩ (mIsNode f o A J hu ho _) ?_
    rintro _ _ ⟨rfl, ⟨g2, rfl⟩ | ⟨g2, rfl⟩⟩
    · obtain ⟨n, hn, rfl⟩ := nd_of (by omega) g2
      iterate 1 (refine zv_step (bX7_place 124) rfl rfl trivial ?_)
      refine zv_ift (by decide) ?_
      iterate 2 (refine zv_step (bX7_place 124) rfl rfl trivial ?_)
      refine zv_V1 (bX7_place 124) rfl rfl rfl rfl rfl rfl rfl ⟨rfl, rfl, rfl⟩ ⟨by decide, by decide⟩ ⟨Nat.zero_le _, Nat.zero_le _⟩ (mCounted f o A J hh hw ho10 hs rfl) ?_
      rintro _ _ ⟨J1, rfl, rfl, hJ⟩
      iterate 3 (refine zv_step (bX7_place 124) rfl rfl trivial ?_)
      refine zv_ifb (fun h31 => ?_) (fun h31 => ?_)
      · iterate 5 (refine zv_step (bX7_place 124) rfl rfl trivial ?_)
        refine zv_V3 (bX7_place 124) rfl rfl rfl rfl rfl rfl rfl ⟨rfl, rfl, rfl⟩ ⟨by decide, by decide⟩ ⟨Nat.zero_le _, Nat.zero_le _⟩ (mRank f (upd o 28 (nI s)) A J1 (by omega) hT hh hw hJ 40 n 0 h _ _ rfl ho10 (Nat.zero_le _) hn (rN_sz (hT n (Nat.zero_le _) hn)).2.1 (by omega) (Nat.le_refl _)) ?_
        rintro _ _ ⟨rfl, v, rfl⟩
        iterate 5 (refine zv_step (bX7_place 124) rfl rfl trivial ?_)
        refine zv_ifb (fun h52 => ?_) (fun h52 => ?_)
        · iterate 1 (refine zv_step (bX7_place 124) rfl rfl trivial ?_)
          exact zv_lret (bX7_place 124) rfl rfl (Nat.zero_le _) (Nat.zero_le _) ⟨(upd o 28 (nI s)), J1, _, rfl, rfl, fun j a => upd_ne _ _ a⟩
        · iterate 2 (refine zv_step (bX7_place 124) rfl rfl trivial ?_)
          exact zv_lret (bX7_place 124) rfl rfl (Nat.zero_le _) (Nat.zero_le _) ⟨(upd o 28 (nI s)), J1, _, rfl, rfl, fun j a => upd_ne _ _ a⟩
      · iterate 1 (refine zv_step (bX7_place 124) rfl rfl trivial ?_)
        exact zv_lret (bX7_place 124) rfl rfl (Nat.zero_le _) (Nat.zero_le _) ⟨(upd o 28 (nI s)), J1, _, rfl, rfl, fun j a => upd_ne _ _ a⟩
    · skip
      iterate 1 (refine zv_step (bX7_place 124) rfl rfl trivial ?_)
      refine zv_iff (by decide) ?_
      iterate 1 (refine zv_step (bX7_place 124) rfl rfl trivial ?_)
      exact zv_lret (bX7_place 124) rfl rfl (Nat.zero_le _) (Nat.zero_le _) ⟨o, J, _, rfl, rfl, fun _ _ => rfl⟩
  · skip
    iterate 1 (refine zv_step (bX7_place 124) rfl rfl trivial ?_)
    refine zv_ift (by decide) ?_
    iterate 1 (refine zv_step (bX7_place 124) rfl rfl trivial ?_)
    exact zv_lret (bX7_place 124) rfl rfl (Nat.zero_le _) (Nat.zero_le _) ⟨o, J, _, rfl, rfl, fun _ _ => rfl⟩
end
