section
/-- the row of KINDS and v's of a NODE of the reference's table, each PART ahead of what it is a PART of -/
def kvN (A : Nat → Nat → Int32) (n : Nat) : Nat × Nat := ((A 0 n).toNatClampNeg, if A 0 n = nI 7 then 25 else if A 0 n = nI 8 then 26 else (A 1 n).toNatClampNeg)
def tkW (A : Nat → Nat → Int32) : Nat → Int32 → List (Nat × Nat)
  | 0, _ => []
  | z + 1, x => if x < 0 then [] else tkW A z (A 2 x.toNatClampNeg) ++ tkW A z (A 3 x.toNatClampNeg) ++ [kvN A x.toNatClampNeg]
theorem tkW_m2 (A : Nat → Nat → Int32) (z : Nat) : tkW A z m2 = [] := by
  cases z with
  | zero => rfl
  | succ z => exact if_pos (by decide)
theorem tkW_nI {A : Nat → Nat → Int32} {z n : Nat} (hn : n < 450) : tkW A (z + 1) (nI n) = tkW A z (A 2 n) ++ tkW A z (A 3 n) ++ [kvN A n] := by
  show (if nI n < 0 then [] else tkW A z (A 2 (nI n).toNatClampNeg) ++ tkW A z (A 3 (nI n).toNatClampNeg) ++ [kvN A (nI n).toNatClampNeg]) = _
  rw [if_neg (nI_pos (by omega)), nI_clamp (by omega)]
theorem tkW_fr {lo hi : Nat} {A A' : Nat → Nat → Int32} (hh : hi ≤ 450) (hT : tbI lo hi A) (e : ∀ r, r < 4 → ∀ i, lo ≤ i → i < hi → A' r i = A r i) : ∀ (z : Nat) (x : Int32), pt lo hi A z x → tkW A' z x = tkW A z x
  | 0, x, _ => rfl
  | z + 1, x, h => by
    rcases h with rfl | ⟨n, rfl, hlo, hn, hz⟩
    · rw [tkW_m2, tkW_m2]
    · obtain ⟨p2, p3⟩ := rN_parts hT hlo hn hz
      have k : kvN A' n = kvN A n := by
        unfold kvN
        rw [e 0 (by decide) n hlo hn, e 1 (by decide) n hlo hn]
      rw [tkW_nI (by omega), tkW_nI (by omega), e 2 (by decide) n hlo hn, e 3 (by decide) n hlo hn, tkW_fr hh hT e z _ p2, tkW_fr hh hT e z _ p3, k]
theorem kv_lf {A : Nat → Nat → Int32} {n k v : Nat} (h0 : A 0 n = nI k) (h1 : A 1 n = nI v) (hk : k < 10) (h7 : ¬ k = 7) (h8 : ¬ k = 8) (hv : v < 2 ^ 31) : kvN A n = (k, v) := by
  unfold kvN
  rw [h0, h1, if_neg (fun e => h7 ((nI_eq (by omega) (by decide)).mp e)), if_neg (fun e => h8 ((nI_eq (by omega) (by decide)).mp e)), nI_clamp (by omega), nI_clamp hv]
theorem tkW_lf {A : Nat → Nat → Int32} {n k v z : Nat} (hn : n < 450) (hk : k < 2) (hv : v < 2 ^ 31) : tkW (setsA A n (nI k) (nI v) m2 m2) (z + 1) (nI n) = [(k, v)] := by
  rw [tkW_nI hn, show setsA A n (nI k) (nI v) m2 m2 2 n = m2 from upd_self _ _ _, show setsA A n (nI k) (nI v) m2 m2 3 n = m2 from upd_self _ _ _, tkW_m2, kv_lf (k := k) (v := v) (upd_self _ _ _) (upd_self _ _ _) (by omega) (by omega) (by omega) hv]
  rfl
theorem tkW_un {A : Nat → Nat → Int32} {n k z m : Nat} {v : Int32} (hn : n < 450) (k7 : 7 ≤ k) (k9 : k < 10) (hm : m < 450) : tkW (setsA A n (nI k) v (nI m) m2) (z + 1) (nI n) = tkW (setsA A n (nI k) v (nI m) m2) z (nI m) ++ [(k, if k = 7 then 25 else if k = 8 then 26 else v.toNatClampNeg)] := by
  have e : kvN (setsA A n (nI k) v (nI m) m2) n = (k, if k = 7 then 25 else if k = 8 then 26 else v.toNatClampNeg) := by
    unfold kvN
    rw [show setsA A n (nI k) v (nI m) m2 0 n = nI k from upd_self _ _ _, show setsA A n (nI k) v (nI m) m2 1 n = v from upd_self _ _ _, nI_clamp (by omega)]
    by_cases h : k = 7
    · subst h
      rfl
    · rw [if_neg (fun e => h ((nI_eq (by omega) (by decide)).mp e)), if_neg h]
      by_cases h8 : k = 8
      · subst h8
        rfl
      · rw [if_neg (fun e => h8 ((nI_eq (by omega) (by decide)).mp e)), if_neg h8]
  rw [tkW_nI hn, show setsA A n (nI k) v (nI m) m2 2 n = nI m from upd_self _ _ _, show setsA A n (nI k) v (nI m) m2 3 n = m2 from upd_self _ _ _, tkW_m2, List.append_nil, e]
theorem tkW_bi {A : Nat → Nat → Int32} {n k z x y : Nat} (hn : n < 450) (k2 : 2 ≤ k) (k6 : k ≤ 6) (hx : x < 450) (hy : y < 450) : tkW (setsA A n (nI k) m2 (nI x) (nI y)) (z + 1) (nI n) = tkW (setsA A n (nI k) m2 (nI x) (nI y)) z (nI x) ++ tkW (setsA A n (nI k) m2 (nI x) (nI y)) z (nI y) ++ [(k, 0)] := by
  have e : kvN (setsA A n (nI k) m2 (nI x) (nI y)) n = (k, 0) := by
    unfold kvN
    rw [show setsA A n (nI k) m2 (nI x) (nI y) 0 n = nI k from upd_self _ _ _, show setsA A n (nI k) m2 (nI x) (nI y) 1 n = m2 from upd_self _ _ _, nI_clamp (by omega), if_neg (fun e => absurd ((nI_eq (by omega) (by decide)).mp e) (by omega)), if_neg (fun e => absurd ((nI_eq (by omega) (by decide)).mp e) (by omega))]
    rfl
  rw [tkW_nI hn, show setsA A n (nI k) m2 (nI x) (nI y) 2 n = nI x from upd_self _ _ _, show setsA A n (nI k) m2 (nI x) (nI y) 3 n = nI y from upd_self _ _ _, e]
set_option maxHeartbeats 1000000 in
set_option maxRecDepth 20000 in
theorem takNX (f : Nat → zC) (o : Nat → Int32) (A0 : Nat → Nat → Int32) (J : Nat → Nat → Int64) {A : Nat → Nat → Int32} {h : Nat} (hh : h ≤ 20) (hw : nnW h (A0 8)) (eE : A 8 = A0 8) {a b q p fu : Nat} {x7 x1 x2 : Int32} {x3 : Int64} (hb : b ≤ h) (hb4 : b - a ≤ 4) (hab : a < b) (hd : ∀ x, a ≤ x → x < b → 10 ≤ eW A0 x ∧ eW A0 x ≤ 19) {n0 : Nat} {Q : Option Value → zW → Prop} (kk : ∀ v : Nat, v = nvN (eW A0) (b - a) a 0 → v < 10 ^ (b - a) → zV (zMo (2 * (fu + 1) + 3) zX7_takes) false n0 0 0 203 [(10, .int (nI v)), (9, .int (nI b)), (8, .int (nI a)), (7, .int x7), (5, .long (lN p)), (0, .ref 76), (1, .int x1), (2, .int x2), (3, .long x3)] [] (wR f (upd o 29 (nI q)) A J) Q) : ∀ (c t x v : Nat), x + c = b → a + t = x → t ≤ 4 → v < 10 ^ t → nvN (eW A0) c x v = nvN (eW A0) (b - a) a 0 → ∀ {x11 : Int32}, x11 = nI x → zV (zMo (2 * (fu + 1) + 3) zX7_takes) false n0 0 0 172 [(11, .int x11), (10, .int (nI v)), (9, .int (nI b)), (8, .int (nI a)), (7, .int x7), (5, .long (lN p)), (0, .ref 76), (1, .int x1), (2, .int x2), (3, .long x3)] [] (wR f (upd o 29 (nI q)) A J) Q := by
  intro c
  induction c with
  | zero =>
    intro t x v hc ht ht4 hv hnv x11 e11
    subst e11
    iterate 3 (refine zv_step (bX7_takes (2 * (fu + 1) + 3)) rfl rfl trivial ?_)
    refine zv_ift (nI_le (by omega) (by omega)) ?_
    refine zv_locals (l := [(11, .int (nI x)), (10, .int (nI v)), (9, .int (nI b)), (8, .int (nI a)), (7, .int x7), (5, .long (lN p)), (0, .ref 76), (1, .int x1), (2, .int x2), (3, .long x3)]) (l' := [(10, .int (nI v)), (9, .int (nI b)), (8, .int (nI a)), (7, .int x7), (5, .long (lN p)), (0, .ref 76), (1, .int x1), (2, .int x2), (3, .long x3)]) ?_ (kk v hnv (by rw [show b - a = t by omega]; exact hv))
    simp
  | succ c ih2 =>
    intro t x v hc ht ht4 hv hnv x11 e11
    subst e11
    have hp4 : 10 ^ t ≤ 10 ^ 4 := Nat.pow_le_pow_right (by decide) ht4
    iterate 3 (refine zv_step (bX7_takes (2 * (fu + 1) + 3)) rfl rfl trivial ?_)
    refine zv_iff (fun h => absurd ((nI_leI (by omega) (by omega)).mp h) (by omega)) ?_
    iterate 6 (refine zv_step (bX7_takes (2 * (fu + 1) + 3)) rfl rfl trivial ?_)
    refine zv_iale (bX7_takes (2 * (fu + 1) + 3)) rfl rfl (vp_in_nI (by omega) (by decide)) (show A 8 (nI x).toNatClampNeg = nI (eW A0 (x)) by rw [nI_clamp (by omega), eE]; exact (eW_of hw (by omega)).1) ?_
    iterate 6 (refine zv_step (bX7_takes (2 * (fu + 1) + 3)) rfl rfl trivial ?_)
    obtain ⟨d1, d2⟩ := hd x (by omega) (by omega)
    have hp1 : 10 ^ (t + 1) = 10 * 10 ^ t := by rw [Nat.pow_succ, Nat.mul_comm]
    have e9 : c8 10 * nI v + nI (eW A0 x) - c8 10 = nI (10 * v + eW A0 x - 10) := by
      rw [show c8 10 = nI 10 from rfl, nI_mul, nI_add, nI_sub (by omega)]
    refine zv_locals (l := [(11, .int (nI x + Int32.ofInt 1)), (10, .int (c8 10 * nI v + nI (eW A0 x) - c8 10)), (9, .int (nI b)), (8, .int (nI a)), (7, .int x7), (5, .long (lN p)), (0, .ref 76), (1, .int x1), (2, .int x2), (3, .long x3)]) (l' := [(11, .int (nI x + Int32.ofInt 1)), (10, .int (c8 10 * nI v + nI (eW A0 x) - c8 10)), (9, .int (nI b)), (8, .int (nI a)), (7, .int x7), (5, .long (lN p)), (0, .ref 76), (1, .int x1), (2, .int x2), (3, .long x3)]) (fun q h => h) ?_
    rw [e9]
    exact ih2 (t + 1) (x + 1) (10 * v + eW A0 x - 10) (by omega) (by omega) (by omega) (by omega) hnv (nI_1 x)
set_option maxHeartbeats 1000000 in
set_option maxRecDepth 20000 in
theorem tak2LX (f : Nat → zC) (o : Nat → Int32) (A0 : Nat → Nat → Int32) (J : Nat → Nat → Int64) {h : Nat} (hh : h ≤ 20) (hw : nnW h (A0 8)) {s : Nat} (hJ : okJ h A0 s J) {fu : Nat} (ih : ∀ (i j p : Nat) (x y : Int32) (z : Int64), x = nI i → y = nI j → z = lN p → i < j → j ≤ h → j - i ≤ fu → p < lW J i j → ∀ (q : Nat) (A : Nat → Nat → Int32), (∀ r, 6 ≤ r → A r = A0 r) → tbI 400 (400 + q) A → q + (j - i) ≤ 44 → zK (2 * fu + 3) zX7_takes [.ref 76, .int x, .int y, .long z] (wR f (upd o 29 (nI q)) A J) (fun r w' => ∃ (q1 : Nat) (A' : Nat → Nat → Int32), r = some (.int (nI (400 + q1))) ∧ w' = (wR f (upd o 29 (nI (q1 + 1))) A' J) ∧ tkF A q A' q1 (j - i) ∧ RT (eW A0) (mW A0 s (lW J)) (lW J) fu i j p (tkW A' fu (nI (400 + q1))))) {k a b p : Nat} (k2 : 2 ≤ k) (k6 : k ≤ 6) (hb : b ≤ h) (hf : b - a ≤ fu + 1) {A : Nat → Nat → Int32} (h6 : ∀ r, 6 ≤ r → A r = A0 r) {q : Nat} (hT : tbI 400 (400 + q) A) (hq : q + (b - a) ≤ 44) (hpp : p < pfS (eW A0) (lW J) k a b (b - 1 - (a + 1))) (hp9 : p ≤ cap) {x4 : Int64} {n0 : Nat} : ∀ (w c l : Nat), a + 1 + c + w = b - 1 → a + 1 + c ≤ 20 → p = pfS (eW A0) (lW J) k a b c + l → ∀ {x8 : Int32} {x6 : Int64}, x8 = nI (a + 1 + c) → x6 = lN l → zV (zMo (2 * fu + 4) zX7_takesTwo) false n0 0 0 9 [(8, .int x8), (6, .long x6), (0, .ref 76), (1, .int (nI k)), (2, .int (nI a)), (3, .int (nI b)), (4, .long x4)] [] (wR f (upd o 29 (nI q)) A J) (fun r w' => ∃ (q1 : Nat) (A' : Nat → Nat → Int32), r = some (.int (nI (400 + q1))) ∧ w' = (wR f (upd o 29 (nI (q1 + 1))) A' J) ∧ tkF A q A' q1 (b - a) ∧ RK (eW A0) (lW J) (RT (eW A0) (mW A0 s (lW J)) (lW J) fu) k a b p (tkW A' (fu + 1) (nI (400 + q1)))) := by
  have eE : A 8 = A0 8 := h6 8 (by decide)
  intro w
  induction w with
  | zero =>
    intro c l hc hc2 hp x8 x6 e8 e6
    rw [show b - 1 - (a + 1) = c by omega] at hpp
    omega
  | succ w ih2 =>
    intro c l hc hc2 hp x8 x6 e8 e6
    subst e8 e6
    iterate 3 (refine zv_step (bX7_takesTwo (2 * fu + 4)) rfl rfl trivial ?_)
    refine zv_iale (bX7_takesTwo (2 * fu + 4)) rfl rfl (vp_in_nI (by omega) (by decide)) (show A 8 (nI (a + 1 + c)).toNatClampNeg = nI (eW A0 (a + 1 + c)) by rw [nI_clamp (by omega), eE]; exact (eW_of hw (by omega)).1) ?_
    iterate 4 (refine zv_step (bX7_takesTwo (2 * fu + 4)) rfl rfl trivial ?_)
    refine zv_ifb (fun h20 => ?_) (fun h20 => ?_)
    · have q20 : ¬ eW A0 (a + 1 + c) = 18 + k := fun e => h20 (by show nI (eW A0 (a + 1 + c)) = nI 18 + nI k; rw [nI_add, e])
      iterate 4 (refine zv_step (bX7_takesTwo (2 * fu + 4)) rfl rfl trivial ?_)
      refine zv_iale (bX7_takesTwo (2 * fu + 4)) rfl rfl (vp_in_nI (by omega) (by decide)) (show A 8 (nI (a + 1 + c)).toNatClampNeg = nI (eW A0 (a + 1 + c)) by rw [nI_clamp (by omega), eE]; exact (eW_of hw (by omega)).1) ?_
      iterate 4 (refine zv_step (bX7_takesTwo (2 * fu + 4)) rfl rfl trivial ?_)
      refine zv_ift (fun e => q20 ((nI_eq (by have := (eW_of hw (show a + 1 + c < h by omega)).2; omega) (by omega)).mp (show nI (eW A0 (a + 1 + c)) = nI (18 + k) by rw [← nI_add]; exact e))) ?_
      iterate 5 (refine zv_step (bX7_takesTwo (2 * fu + 4)) rfl rfl trivial ?_)
      have e9 : pfS (eW A0) (lW J) k a b (c + 1) = pfS (eW A0) (lW J) k a b c + 0 := by
        show _ + _ = _
        rw [if_neg q20]
      refine zv_locals (l := [(8, .int (nI (a + 1 + c) + Int32.ofInt 1)), (6, .long (lN l - lN 0)), (0, .ref 76), (1, .int (nI k)), (2, .int (nI a)), (3, .int (nI b)), (4, .long x4)]) (l' := [(8, .int (nI (a + 1 + c) + Int32.ofInt 1)), (6, .long (lN l - lN 0)), (0, .ref 76), (1, .int (nI k)), (2, .int (nI a)), (3, .int (nI b)), (4, .long x4)]) (fun q h => h) (ih2 (c + 1) (l - 0) (by omega) (by omega) (by rw [e9]; omega) (nI_1 (a + 1 + c)) (lN_sub (by omega)))
    · have q20 : eW A0 (a + 1 + c) = 18 + k := by
        have h9 : nI (eW A0 (a + 1 + c)) = nI 18 + nI k := Decidable.not_not.mp h20
        have := (eW_of hw (show a + 1 + c < h by omega)).2
        rwa [nI_add, nI_eq (by omega) (by omega)] at h9
      iterate 8 (refine zv_step (bX7_takesTwo (2 * fu + 4)) rfl rfl trivial ?_)
      refine zv_lale (bX7_takesTwo (2 * fu + 4)) rfl rfl (show vp_in (c8 21 * nI a + nI (a + 1 + c)) 441 by rw [ix21]; exact vp_in_nI (by omega) (by decide)) (show J 1 (c8 21 * nI a + nI (a + 1 + c)).toNatClampNeg = lN (lW J (a) (a + 1 + c)) by rw [ix21, nI_clamp (by omega)]; exact (okS_l (hJ (a) (a + 1 + c) (by omega) (by omega))).2.2) ?_
      iterate 9 (refine zv_step (bX7_takesTwo (2 * fu + 4)) rfl rfl trivial ?_)
      refine zv_lale (bX7_takesTwo (2 * fu + 4)) rfl rfl (show vp_in (c8 21 * (nI (a + 1 + c) + Int32.ofInt 1) + nI b) 441 by rw [show nI (a + 1 + c) + Int32.ofInt 1 = nI (a + 1 + c + 1) from nI_1 _, ix21]; exact vp_in_nI (by omega) (by decide)) (show J 1 (c8 21 * (nI (a + 1 + c) + Int32.ofInt 1) + nI b).toNatClampNeg = lN (lW J (a + 1 + c + 1) (b)) by rw [show nI (a + 1 + c) + Int32.ofInt 1 = nI (a + 1 + c + 1) from nI_1 _, ix21, nI_clamp (by omega)]; exact (okS_l (hJ (a + 1 + c + 1) (b) (by omega) (by omega))).2.2) ?_
      refine zv_S2 (bX7_takesTwo (2 * fu + 4)) rfl rfl rfl rfl ⟨rfl, rfl, rfl⟩ ⟨by show 0 + 1 ≤ 2 * fu + 4; omega, by show 8 + (4 + 11) + 64 * (0) ≤ 64 * (2 * fu + 4); omega⟩ ⟨Nat.zero_le _, Nat.zero_le _⟩ (mMul _ (okS_l (hJ a (a + 1 + c) (by omega) (by omega))).2.1 (okS_l (hJ (a + 1 + c + 1) b (by omega) (by omega))).2.1) ?_
      rintro _ _ ⟨rfl, rfl⟩
      iterate 2 (refine zv_step (bX7_takesTwo (2 * fu + 4)) rfl rfl trivial ?_)
      refine zv_ifb (fun h55 => ?_) (fun h55 => ?_)
      · have q55 : l < (tmW (lW J a (a + 1 + c)) (lW J (a + 1 + c + 1) b)) := by
          have h9 : lN l < lN (tmW (lW J a (a + 1 + c)) (lW J (a + 1 + c + 1) b)) := (lg_cmp_lt _ _).mp h55
          have := (tmW_le (lW J a (a + 1 + c)) (lW J (a + 1 + c + 1) b)).1
          rwa [lN_ltJ (by unfold cap at *; omega) (by unfold cap at *; omega)] at h9
        obtain ⟨lb0, lb1⟩ : 0 < lW J (a + 1 + c + 1) b ∧ l / lW J (a + 1 + c + 1) b < lW J a (a + 1 + c) := by
          have ht := (tmW_le (lW J a (a + 1 + c)) (lW J (a + 1 + c + 1) b)).2
          have h0 : 0 < lW J (a + 1 + c + 1) b := by
            rcases Nat.eq_zero_or_pos (lW J (a + 1 + c + 1) b) with e | e
            · rw [e, Nat.mul_zero] at ht
              rw [e] at q55
              omega
            · exact e
          exact ⟨h0, (Nat.div_lt_iff_lt_mul h0).mpr (by omega)⟩
        have lb2 : l % lW J (a + 1 + c + 1) b < lW J (a + 1 + c + 1) b := Nat.mod_lt _ lb0
        have capb := (okS_l (hJ (a + 1 + c + 1) b (by omega) (by omega))).2.1
        have hl9 : l < 2 ^ 62 := by have := (tmW_le (lW J a (a + 1 + c)) (lW J (a + 1 + c + 1) b)).1; unfold cap at *; omega
        iterate 9 (refine zv_step (bX7_takesTwo (2 * fu + 4)) rfl rfl trivial ?_)
        refine zv_lale (bX7_takesTwo (2 * fu + 4)) rfl rfl (show vp_in (c8 21 * (nI (a + 1 + c) + Int32.ofInt 1) + nI b) 441 by rw [show nI (a + 1 + c) + Int32.ofInt 1 = nI (a + 1 + c + 1) from nI_1 _, ix21]; exact vp_in_nI (by omega) (by decide)) (show J 1 (c8 21 * (nI (a + 1 + c) + Int32.ofInt 1) + nI b).toNatClampNeg = lN (lW J (a + 1 + c + 1) (b)) by rw [show nI (a + 1 + c) + Int32.ofInt 1 = nI (a + 1 + c + 1) from nI_1 _, ix21, nI_clamp (by omega)]; exact (okS_l (hJ (a + 1 + c + 1) (b) (by omega) (by omega))).2.2) ?_
        iterate 6 (refine zv_step (bX7_takesTwo (2 * fu + 4)) rfl rfl trivial ?_)
        refine zv_step (bX7_takesTwo (2 * fu + 4)) rfl rfl (fun e => absurd ((lN_eqJ (b := 0) (by unfold cap at capb; omega) (by decide)).mp e) (by omega)) ?_
        refine zv_V3 (bX7_takesTwo (2 * fu + 4)) rfl rfl rfl rfl rfl rfl rfl ⟨rfl, rfl, rfl⟩ ⟨by show 2 * fu + 3 + 1 ≤ 2 * fu + 4; omega, by show 8 + (12 + 11) + 64 * (2 * fu + 3) ≤ 64 * (2 * fu + 4); omega⟩ ⟨Nat.zero_le _, Nat.zero_le _⟩ (ih a (a + 1 + c) (l / lW J (a + 1 + c + 1) b) _ _ _ rfl rfl (lN_divJ hl9 (by unfold cap at capb; omega)) (by omega) (by omega) (by omega) lb1 q A h6 hT (by omega)) ?_
        rintro _ _ ⟨q1, A1, rfl, rfl, k1, r1⟩
        iterate 12 (refine zv_step (bX7_takesTwo (2 * fu + 4)) rfl rfl trivial ?_)
        refine zv_step (bX7_takesTwo (2 * fu + 4)) rfl rfl (fun e => absurd ((lN_eqJ (b := 0) (by unfold cap at capb; omega) (by decide)).mp e) (by omega)) ?_
        refine zv_V3 (bX7_takesTwo (2 * fu + 4)) rfl rfl rfl rfl rfl rfl rfl ⟨rfl, rfl, rfl⟩ ⟨by show 2 * fu + 3 + 1 ≤ 2 * fu + 4; omega, by show 8 + (12 + 11) + 64 * (2 * fu + 3) ≤ 64 * (2 * fu + 4); omega⟩ ⟨Nat.zero_le _, Nat.zero_le _⟩ (ih (a + 1 + c + 1) b (l % lW J (a + 1 + c + 1) b) _ _ _ (nI_1 _) rfl (show lN l - lN l / lN (lW J (a + 1 + c + 1) b) * lN (lW J (a + 1 + c + 1) b) = lN (l % lW J (a + 1 + c + 1) b) by rw [lN_divJ hl9 (by unfold cap at capb; omega), lN_mul, lN_sub (Nat.div_mul_le_self _ _)]; congr 1; have := Nat.div_add_mod l (lW J (a + 1 + c + 1) b); rw [Nat.mul_comm] at this; omega) (by omega) (by omega) (by omega) lb2 (q1 + 1) A1 (fun r hr => (k1.1 r hr).trans (h6 r hr)) k1.2.1 (by have := k1.2.2.2.2.1; omega)) ?_
        rintro _ _ ⟨q2, A2, rfl, rfl, k9, r2⟩
        refine zv_V4 (bX7_takesTwo (2 * fu + 4)) rfl rfl rfl rfl rfl rfl rfl ⟨rfl, rfl, rfl⟩ ⟨by show 1 + 1 ≤ 2 * fu + 4; omega, by show 8 + (5 + 11) + 64 * (1) ≤ 64 * (2 * fu + 4); omega⟩ ⟨Nat.zero_le _, Nat.zero_le _⟩ (mMakes f o A2 J (q := q2 + 1) (by have := k1.2.2.2.2.1; have := k9.2.2.2.2.1; have := k9.2.2.2.1; omega) (fun _ => vp_in_nI (by have := k9.2.2.2.2.1; have := k1.2.2.2.2.1; have := k9.2.2.2.1; omega) (by decide)) (fun _ => vp_in_nI (by have := k1.2.2.2.2.1; have := k9.2.2.2.2.1; have := k9.2.2.2.1; omega) (by decide))) ?_
        rintro _ _ ⟨rfl, rfl⟩
        have l1 := k1.2.2.2.2.1
        have l2 := k9.2.2.2.2.1
        have m1 := k1.2.2.2.1
        have m9 := k9.2.2.2.1
        have hK := tkF_bi k1 k9 (len := b - a) (k := k) (by omega) (by omega) (by omega) k2 k6
        have s1 := k1.2.2.2.2.2
        have s9 := k9.2.2.2.2.2
        have e1 : tkW (setsA A2 (400 + (q2 + 1)) (nI k) m2 (nI (400 + q1)) (nI (400 + q2))) fu (nI (400 + q1)) = tkW A1 fu (nI (400 + q1)) := tkW_fr (by omega) k1.2.1 (fun r hr i i1 i2 => (setsA_o (by omega)).trans (k9.2.2.1 r i (by omega))) fu _ (Or.inr ⟨400 + q1, rfl, by omega, by omega, by omega⟩)
        have e2 : tkW (setsA A2 (400 + (q2 + 1)) (nI k) m2 (nI (400 + q1)) (nI (400 + q2))) fu (nI (400 + q2)) = tkW A2 fu (nI (400 + q2)) := tkW_fr (by omega) k9.2.1 (fun r hr i i1 i2 => setsA_o (by omega)) fu _ (Or.inr ⟨400 + q2, rfl, by omega, by omega, by omega⟩)
        exact zv_iret (bX7_takesTwo (2 * fu + 4)) rfl (Or.inl rfl) (Nat.zero_le _) (Nat.zero_le _) ⟨q2 + 1, _, rfl, rfl, hK, Or.inr (Or.inr ⟨k2, k6, c, l, _, _, by omega, q20, hp, q55, (tkW_bi (by omega) k2 k6 (by omega) (by omega)).trans (by rw [e1, e2]), r1, r2⟩)⟩
      · have q55 : ¬ l < (tmW (lW J a (a + 1 + c)) (lW J (a + 1 + c + 1) b)) := fun e => h55 ((lg_cmp_lt _ _).mpr (by
          have := (tmW_le (lW J a (a + 1 + c)) (lW J (a + 1 + c + 1) b)).1
          rwa [lN_ltJ (by unfold cap at *; omega) (by unfold cap at *; omega)]))
        iterate 4 (refine zv_step (bX7_takesTwo (2 * fu + 4)) rfl rfl trivial ?_)
        refine zv_iale (bX7_takesTwo (2 * fu + 4)) rfl rfl (vp_in_nI (by omega) (by decide)) (show A 8 (nI (a + 1 + c)).toNatClampNeg = nI (eW A0 (a + 1 + c)) by rw [nI_clamp (by omega), eE]; exact (eW_of hw (by omega)).1) ?_
        iterate 4 (refine zv_step (bX7_takesTwo (2 * fu + 4)) rfl rfl trivial ?_)
        refine zv_iff (fun h => h (show nI (eW A0 (a + 1 + c)) = nI 18 + nI k by rw [nI_add, q20])) ?_
        iterate 7 (refine zv_step (bX7_takesTwo (2 * fu + 4)) rfl rfl trivial ?_)
        refine zv_lale (bX7_takesTwo (2 * fu + 4)) rfl rfl (show vp_in (c8 21 * nI a + nI (a + 1 + c)) 441 by rw [ix21]; exact vp_in_nI (by omega) (by decide)) (show J 1 (c8 21 * nI a + nI (a + 1 + c)).toNatClampNeg = lN (lW J (a) (a + 1 + c)) by rw [ix21, nI_clamp (by omega)]; exact (okS_l (hJ (a) (a + 1 + c) (by omega) (by omega))).2.2) ?_
        iterate 9 (refine zv_step (bX7_takesTwo (2 * fu + 4)) rfl rfl trivial ?_)
        refine zv_lale (bX7_takesTwo (2 * fu + 4)) rfl rfl (show vp_in (c8 21 * (nI (a + 1 + c) + Int32.ofInt 1) + nI b) 441 by rw [show nI (a + 1 + c) + Int32.ofInt 1 = nI (a + 1 + c + 1) from nI_1 _, ix21]; exact vp_in_nI (by omega) (by decide)) (show J 1 (c8 21 * (nI (a + 1 + c) + Int32.ofInt 1) + nI b).toNatClampNeg = lN (lW J (a + 1 + c + 1) (b)) by rw [show nI (a + 1 + c) + Int32.ofInt 1 = nI (a + 1 + c + 1) from nI_1 _, ix21, nI_clamp (by omega)]; exact (okS_l (hJ (a + 1 + c + 1) (b) (by omega) (by omega))).2.2) ?_
        refine zv_S2 (bX7_takesTwo (2 * fu + 4)) rfl rfl rfl rfl ⟨rfl, rfl, rfl⟩ ⟨by show 0 + 1 ≤ 2 * fu + 4; omega, by show 8 + (4 + 11) + 64 * (0) ≤ 64 * (2 * fu + 4); omega⟩ ⟨Nat.zero_le _, Nat.zero_le _⟩ (mMul _ (okS_l (hJ a (a + 1 + c) (by omega) (by omega))).2.1 (okS_l (hJ (a + 1 + c + 1) b (by omega) (by omega))).2.1) ?_
        rintro _ _ ⟨rfl, rfl⟩
        iterate 5 (refine zv_step (bX7_takesTwo (2 * fu + 4)) rfl rfl trivial ?_)
        have e9 : pfS (eW A0) (lW J) k a b (c + 1) = pfS (eW A0) (lW J) k a b c + (tmW (lW J a (a + 1 + c)) (lW J (a + 1 + c + 1) b)) := by
          show _ + _ = _
          rw [if_pos q20]
        refine zv_locals (l := [(8, .int (nI (a + 1 + c) + Int32.ofInt 1)), (6, .long (lN l - lN (tmW (lW J a (a + 1 + c)) (lW J (a + 1 + c + 1) b)))), (0, .ref 76), (1, .int (nI k)), (2, .int (nI a)), (3, .int (nI b)), (4, .long x4)]) (l' := [(8, .int (nI (a + 1 + c) + Int32.ofInt 1)), (6, .long (lN l - lN (tmW (lW J a (a + 1 + c)) (lW J (a + 1 + c + 1) b)))), (0, .ref 76), (1, .int (nI k)), (2, .int (nI a)), (3, .int (nI b)), (4, .long x4)]) (fun q h => h) (ih2 (c + 1) (l - (tmW (lW J a (a + 1 + c)) (lW J (a + 1 + c + 1) b))) (by omega) (by omega) (by rw [e9]; omega) (nI_1 (a + 1 + c)) (lN_sub (by omega)))
set_option maxHeartbeats 1000000 in
set_option maxRecDepth 20000 in
theorem mTakes2X (f : Nat → zC) (o : Nat → Int32) (A0 : Nat → Nat → Int32) (J : Nat → Nat → Int64) {h : Nat} (hh : h ≤ 20) (hw : nnW h (A0 8)) {s : Nat} (hJ : okJ h A0 s J) {fu : Nat} (ih : ∀ (i j p : Nat) (x y : Int32) (z : Int64), x = nI i → y = nI j → z = lN p → i < j → j ≤ h → j - i ≤ fu → p < lW J i j → ∀ (q : Nat) (A : Nat → Nat → Int32), (∀ r, 6 ≤ r → A r = A0 r) → tbI 400 (400 + q) A → q + (j - i) ≤ 44 → zK (2 * fu + 3) zX7_takes [.ref 76, .int x, .int y, .long z] (wR f (upd o 29 (nI q)) A J) (fun r w' => ∃ (q1 : Nat) (A' : Nat → Nat → Int32), r = some (.int (nI (400 + q1))) ∧ w' = (wR f (upd o 29 (nI (q1 + 1))) A' J) ∧ tkF A q A' q1 (j - i) ∧ RT (eW A0) (mW A0 s (lW J)) (lW J) fu i j p (tkW A' fu (nI (400 + q1))))) {k a b p : Nat} (k2 : 2 ≤ k) (k6 : k ≤ 6) (hab : a < b) (hb : b ≤ h) (hf : b - a ≤ fu + 1) {A : Nat → Nat → Int32} (h6 : ∀ r, 6 ≤ r → A r = A0 r) {q : Nat} (hT : tbI 400 (400 + q) A) (hq : q + (b - a) ≤ 44) (hpw : p < wi (eW A0) (A0 6) (lW J) k a b) (hp9 : p ≤ cap) {x1 x2 x3 : Int32} {z : Int64} (e1 : x1 = nI k) (e2 : x2 = nI a) (e3 : x3 = nI b) (ez : z = lN p) : zK (2 * fu + 4) zX7_takesTwo [.ref 76, .int x1, .int x2, .int x3, .long z] (wR f (upd o 29 (nI q)) A J) (fun r w' => ∃ (q1 : Nat) (A' : Nat → Nat → Int32), r = some (.int (nI (400 + q1))) ∧ w' = (wR f (upd o 29 (nI (q1 + 1))) A' J) ∧ tkF A q A' q1 (b - a) ∧ RK (eW A0) (lW J) (RT (eW A0) (mW A0 s (lW J)) (lW J) fu) k a b p (tkW A' (fu + 1) (nI (400 + q1)))) := by
  subst e1 e2 e3 ez
  have hpp : p < pfS (eW A0) (lW J) k a b (b - 1 - (a + 1)) := by
    rw [wi_2 hab k2 k6] at hpw
    have := wiP_pf (E := eW A0) (L := lW J) (k := k) (a := a) (b := b) (b - 1 - (a + 1)) 0 0 (Nat.zero_le _)
    rw [Nat.zero_add] at this
    exact Nat.lt_of_lt_of_le hpw this
  have hab2 : a + 2 < b := by
    rcases Nat.lt_or_ge (a + 2) b with e | e
    · exact e
    · rw [show b - 1 - (a + 1) = 0 by omega] at hpp
      exact absurd hpp (by show ¬ p < 0; omega)
  refine zK_of qX7_takesTwo (by decide +kernel) rfl ?_
  iterate 6 (refine zv_step (bX7_takesTwo (2 * fu + 4)) rfl rfl trivial ?_)
  refine zv_locals (l := [(8, .int (nI a + Int32.ofInt 1)), (6, .long (lN p)), (0, .ref 76), (1, .int (nI k)), (2, .int (nI a)), (3, .int (nI b)), (4, .long (lN p))]) (l' := [(8, .int (nI a + Int32.ofInt 1)), (6, .long (lN p)), (0, .ref 76), (1, .int (nI k)), (2, .int (nI a)), (3, .int (nI b)), (4, .long (lN p))]) (fun q h => h) (tak2LX f o A0 J hh hw hJ ih k2 k6 hb hf h6 hT hq hpp hp9 (b - 1 - (a + 1)) 0 p (by omega) (by omega) (by show p = 0 + p; omega) (nI_1 a) rfl)
set_option maxHeartbeats 1000000 in
set_option maxRecDepth 20000 in
theorem takXK0 (f : Nat → zC) (o : Nat → Int32) (A0 : Nat → Nat → Int32) (J : Nat → Nat → Int64) {h : Nat} (hh : h ≤ 20) (hw : nnW h (A0 8)) {s : Nat} (hJ : okJ h A0 s J) {fu : Nat} (ih : ∀ (i j p : Nat) (x y : Int32) (z : Int64), x = nI i → y = nI j → z = lN p → i < j → j ≤ h → j - i ≤ fu → p < lW J i j → ∀ (q : Nat) (A : Nat → Nat → Int32), (∀ r, 6 ≤ r → A r = A0 r) → tbI 400 (400 + q) A → q + (j - i) ≤ 44 → zK (2 * fu + 3) zX7_takes [.ref 76, .int x, .int y, .long z] (wR f (upd o 29 (nI q)) A J) (fun r w' => ∃ (q1 : Nat) (A' : Nat → Nat → Int32), r = some (.int (nI (400 + q1))) ∧ w' = (wR f (upd o 29 (nI (q1 + 1))) A' J) ∧ tkF A q A' q1 (j - i) ∧ RT (eW A0) (mW A0 s (lW J)) (lW J) fu i j p (tkW A' fu (nI (400 + q1))))) {a b p : Nat} (hb : b ≤ h) (hf : b - a ≤ fu + 1) {A : Nat → Nat → Int32} (h6 : ∀ r, 6 ≤ r → A r = A0 r) {q : Nat} (hT : tbI 400 (400 + q) A) (hq : q + (b - a) ≤ 44) (hp9 : p ≤ cap) {x7 x1 x2 : Int32} {x3 : Int64} {n0 : Nat} (hp : p < wi (eW A0) (A0 6) (lW J) 0 a b) : zV (zMo (2 * (fu + 1) + 3) zX7_takes) false n0 0 0 148 [(9, .int (nI b)), (8, .int (nI a)), (7, .int x7), (5, .long (lN p)), (0, .ref 76), (1, .int x1), (2, .int x2), (3, .long x3)] [] (wR f (upd o 29 (nI q)) A J) (fun r w' => ∃ (q1 : Nat) (A' : Nat → Nat → Int32), r = some (.int (nI (400 + q1))) ∧ w' = (wR f (upd o 29 (nI (q1 + 1))) A' J) ∧ tkF A q A' q1 (b - a) ∧ RK (eW A0) (lW J) (RT (eW A0) (mW A0 s (lW J)) (lW J) fu) 0 a b p (tkW A' (fu + 1) (nI (400 + q1)))) := by
  have eE : A 8 = A0 8 := h6 8 (by decide)
  have hab : a < b := by
    rcases Nat.lt_or_ge a b with e | e
    · exact e
    · rw [wi_n e] at hp
      omega
  rw [wi_0 hab] at hp
  split at hp
  case isFalse => omega
  rename_i hc
  iterate 5 (refine zv_step (bX7_takes (2 * (fu + 1) + 3)) rfl rfl trivial ?_)
  refine zv_iale (bX7_takes (2 * (fu + 1) + 3)) rfl rfl (vp_in_nI (by omega) (by decide)) (show A 8 (nI a).toNatClampNeg = nI (eW A0 (a)) by rw [nI_clamp (by omega), eE]; exact (eW_of hw (by omega)).1) ?_
  iterate 2 (refine zv_step (bX7_takes (2 * (fu + 1) + 3)) rfl rfl trivial ?_)
  refine zv_V4 (bX7_takes (2 * (fu + 1) + 3)) rfl rfl rfl rfl rfl rfl rfl ⟨rfl, rfl, rfl⟩ ⟨by show 1 + 1 ≤ 2 * (fu + 1) + 3; omega, by show 8 + (5 + 11) + 64 * (1) ≤ 64 * (2 * (fu + 1) + 3); omega⟩ ⟨Nat.zero_le _, Nat.zero_le _⟩ (mMakes f o A J (q := q) (by omega) vpm2 vpm2) ?_
  rintro _ _ ⟨rfl, rfl⟩
  refine zv_iret (bX7_takes (2 * (fu + 1) + 3)) rfl (Or.inl rfl) (Nat.zero_le _) (Nat.zero_le _) ⟨q, _, rfl, rfl, tkF_lf hT (by omega) (k := 0) (by decide) ⟨fun _ => ⟨eW A0 a, by omega, rfl⟩, fun h => absurd h (by decide)⟩ (by omega), Or.inl ⟨by decide, tkW_lf (by omega) (by decide) (by omega)⟩⟩
set_option maxHeartbeats 1000000 in
set_option maxRecDepth 20000 in
theorem takXK1 (f : Nat → zC) (o : Nat → Int32) (A0 : Nat → Nat → Int32) (J : Nat → Nat → Int64) {h : Nat} (hh : h ≤ 20) (hw : nnW h (A0 8)) {s : Nat} (hJ : okJ h A0 s J) {fu : Nat} (ih : ∀ (i j p : Nat) (x y : Int32) (z : Int64), x = nI i → y = nI j → z = lN p → i < j → j ≤ h → j - i ≤ fu → p < lW J i j → ∀ (q : Nat) (A : Nat → Nat → Int32), (∀ r, 6 ≤ r → A r = A0 r) → tbI 400 (400 + q) A → q + (j - i) ≤ 44 → zK (2 * fu + 3) zX7_takes [.ref 76, .int x, .int y, .long z] (wR f (upd o 29 (nI q)) A J) (fun r w' => ∃ (q1 : Nat) (A' : Nat → Nat → Int32), r = some (.int (nI (400 + q1))) ∧ w' = (wR f (upd o 29 (nI (q1 + 1))) A' J) ∧ tkF A q A' q1 (j - i) ∧ RT (eW A0) (mW A0 s (lW J)) (lW J) fu i j p (tkW A' fu (nI (400 + q1))))) {a b p : Nat} (hb : b ≤ h) (hf : b - a ≤ fu + 1) {A : Nat → Nat → Int32} (h6 : ∀ r, 6 ≤ r → A r = A0 r) {q : Nat} (hT : tbI 400 (400 + q) A) (hq : q + (b - a) ≤ 44) (hp9 : p ≤ cap) {x7 x1 x2 : Int32} {x3 : Int64} {n0 : Nat} (hp : p < wi (eW A0) (A0 6) (lW J) 1 a b) : zV (zMo (2 * (fu + 1) + 3) zX7_takes) false n0 0 0 165 [(9, .int (nI b)), (8, .int (nI a)), (7, .int x7), (5, .long (lN p)), (0, .ref 76), (1, .int x1), (2, .int x2), (3, .long x3)] [] (wR f (upd o 29 (nI q)) A J) (fun r w' => ∃ (q1 : Nat) (A' : Nat → Nat → Int32), r = some (.int (nI (400 + q1))) ∧ w' = (wR f (upd o 29 (nI (q1 + 1))) A' J) ∧ tkF A q A' q1 (b - a) ∧ RK (eW A0) (lW J) (RT (eW A0) (mW A0 s (lW J)) (lW J) fu) 1 a b p (tkW A' (fu + 1) (nI (400 + q1)))) := by
  have eE : A 8 = A0 8 := h6 8 (by decide)
  have hab : a < b := by
    rcases Nat.lt_or_ge a b with e | e
    · exact e
    · rw [wi_n e] at hp
      omega
  rw [wi_1 hab] at hp
  split at hp
  case isFalse => omega
  rename_i hc
  iterate 4 (refine zv_step (bX7_takes (2 * (fu + 1) + 3)) rfl rfl trivial ?_)
  have hn := isNumB_at hc
  refine zv_locals (l := [(11, .int (nI a)), (10, .int (Int32.ofInt 0)), (9, .int (nI b)), (8, .int (nI a)), (7, .int x7), (5, .long (lN p)), (0, .ref 76), (1, .int x1), (2, .int x2), (3, .long x3)]) (l' := [(11, .int (nI a)), (10, .int (Int32.ofInt 0)), (9, .int (nI b)), (8, .int (nI a)), (7, .int x7), (5, .long (lN p)), (0, .ref 76), (1, .int x1), (2, .int x2), (3, .long x3)]) (fun q h => h) (takNX f o A0 J hh hw eE hb hn.1 hab hn.2.2 (fun v hnv hv => ?_) (b - a) 0 a 0 (by omega) rfl (by decide) (by decide) rfl rfl)
  iterate 5 (refine zv_step (bX7_takes (2 * (fu + 1) + 3)) rfl rfl trivial ?_)
  refine zv_V4 (bX7_takes (2 * (fu + 1) + 3)) rfl rfl rfl rfl rfl rfl rfl ⟨rfl, rfl, rfl⟩ ⟨by show 1 + 1 ≤ 2 * (fu + 1) + 3; omega, by show 8 + (5 + 11) + 64 * (1) ≤ 64 * (2 * (fu + 1) + 3); omega⟩ ⟨Nat.zero_le _, Nat.zero_le _⟩ (mMakes f o A J (q := q) (by omega) vpm2 vpm2) ?_
  rintro _ _ ⟨rfl, rfl⟩
  refine zv_iret (bX7_takes (2 * (fu + 1) + 3)) rfl (Or.inl rfl) (Nat.zero_le _) (Nat.zero_le _) ⟨q, _, rfl, rfl, tkF_lf hT (by omega) (k := 1) (by decide) ⟨fun h => absurd h (by decide), fun _ => ⟨v, by have : 10 ^ (b - a) ≤ 10 ^ 4 := Nat.pow_le_pow_right (by decide) hn.1; omega, rfl⟩⟩ (by omega), Or.inl ⟨by decide, (tkW_lf (by omega) (by decide) (by have : 10 ^ (b - a) ≤ 10 ^ 4 := Nat.pow_le_pow_right (by decide) hn.1; omega)).trans (by rw [hnv]; rfl)⟩⟩
set_option maxHeartbeats 1000000 in
set_option maxRecDepth 20000 in
theorem takXK7 (f : Nat → zC) (o : Nat → Int32) (A0 : Nat → Nat → Int32) (J : Nat → Nat → Int64) {h : Nat} (hh : h ≤ 20) (hw : nnW h (A0 8)) {s : Nat} (hJ : okJ h A0 s J) {fu : Nat} (ih : ∀ (i j p : Nat) (x y : Int32) (z : Int64), x = nI i → y = nI j → z = lN p → i < j → j ≤ h → j - i ≤ fu → p < lW J i j → ∀ (q : Nat) (A : Nat → Nat → Int32), (∀ r, 6 ≤ r → A r = A0 r) → tbI 400 (400 + q) A → q + (j - i) ≤ 44 → zK (2 * fu + 3) zX7_takes [.ref 76, .int x, .int y, .long z] (wR f (upd o 29 (nI q)) A J) (fun r w' => ∃ (q1 : Nat) (A' : Nat → Nat → Int32), r = some (.int (nI (400 + q1))) ∧ w' = (wR f (upd o 29 (nI (q1 + 1))) A' J) ∧ tkF A q A' q1 (j - i) ∧ RT (eW A0) (mW A0 s (lW J)) (lW J) fu i j p (tkW A' fu (nI (400 + q1))))) {a b p : Nat} (hb : b ≤ h) (hf : b - a ≤ fu + 1) {A : Nat → Nat → Int32} (h6 : ∀ r, 6 ≤ r → A r = A0 r) {q : Nat} (hT : tbI 400 (400 + q) A) (hq : q + (b - a) ≤ 44) (hp9 : p ≤ cap) {x7 x1 x2 : Int32} {x3 : Int64} {n0 : Nat} (hp : p < wi (eW A0) (A0 6) (lW J) 7 a b) : zV (zMo (2 * (fu + 1) + 3) zX7_takes) false n0 0 0 215 [(9, .int (nI b)), (8, .int (nI a)), (7, .int x7), (5, .long (lN p)), (0, .ref 76), (1, .int x1), (2, .int x2), (3, .long x3)] [] (wR f (upd o 29 (nI q)) A J) (fun r w' => ∃ (q1 : Nat) (A' : Nat → Nat → Int32), r = some (.int (nI (400 + q1))) ∧ w' = (wR f (upd o 29 (nI (q1 + 1))) A' J) ∧ tkF A q A' q1 (b - a) ∧ RK (eW A0) (lW J) (RT (eW A0) (mW A0 s (lW J)) (lW J) fu) 7 a b p (tkW A' (fu + 1) (nI (400 + q1)))) := by
  have eE : A 8 = A0 8 := h6 8 (by decide)
  have hab : a < b := by
    rcases Nat.lt_or_ge a b with e | e
    · exact e
    · rw [wi_n e] at hp
      omega
  rw [wi_7 hab] at hp
  split at hp
  case isFalse => omega
  rename_i hc
  iterate 9 (refine zv_step (bX7_takes (2 * (fu + 1) + 3)) rfl rfl trivial ?_)
  refine zv_V3 (bX7_takes (2 * (fu + 1) + 3)) rfl rfl rfl rfl rfl rfl rfl ⟨rfl, rfl, rfl⟩ ⟨by show 2 * fu + 3 + 1 ≤ 2 * (fu + 1) + 3; omega, by show 8 + (12 + 11) + 64 * (2 * fu + 3) ≤ 64 * (2 * (fu + 1) + 3); omega⟩ ⟨Nat.zero_le _, Nat.zero_le _⟩ (ih (a + 1) (b) p _ _ _ (nI_1 a) rfl rfl (by omega) (by omega) (by omega) hp q A h6 hT (by omega)) ?_
  rintro _ _ ⟨q1, A1, rfl, rfl, k1, r1⟩
  have l1 := k1.2.2.2.2.1
  have m1 := k1.2.2.2.1
  iterate 1 (refine zv_step (bX7_takes (2 * (fu + 1) + 3)) rfl rfl trivial ?_)
  refine zv_V4 (bX7_takes (2 * (fu + 1) + 3)) rfl rfl rfl rfl rfl rfl rfl ⟨rfl, rfl, rfl⟩ ⟨by show 1 + 1 ≤ 2 * (fu + 1) + 3; omega, by show 8 + (5 + 11) + 64 * (1) ≤ 64 * (2 * (fu + 1) + 3); omega⟩ ⟨Nat.zero_le _, Nat.zero_le _⟩ (mMakes f o A1 J (q := q1 + 1) (by omega) (fun _ => vp_in_nI (by omega) (by decide)) vpm2) ?_
  rintro _ _ ⟨rfl, rfl⟩
  refine zv_iret (bX7_takes (2 * (fu + 1) + 3)) rfl (Or.inl rfl) (Nat.zero_le _) (Nat.zero_le _) ⟨q1 + 1, _, rfl, rfl, tkF_un k1 (by omega) (by omega) (by omega) (k := 7) (by decide) (by decide) ⟨fun h => absurd h (by decide), fun _ => rfl⟩, Or.inr (Or.inl ⟨by decide, tkW A1 fu (nI (400 + q1)), (tkW_un (by omega) (by decide) (by decide) (by omega)).trans ?_, r1⟩)⟩
  rw [tkW_fr (by omega) k1.2.1 (fun r hr i i1 i2 => setsA_o (by omega)) fu _ (Or.inr ⟨400 + q1, rfl, by omega, by omega, by have := k1.2.2.2.2.2; omega⟩)]
  rw [hc.1]
  rfl
set_option maxHeartbeats 1000000 in
set_option maxRecDepth 20000 in
theorem takXK8 (f : Nat → zC) (o : Nat → Int32) (A0 : Nat → Nat → Int32) (J : Nat → Nat → Int64) {h : Nat} (hh : h ≤ 20) (hw : nnW h (A0 8)) {s : Nat} (hJ : okJ h A0 s J) {fu : Nat} (ih : ∀ (i j p : Nat) (x y : Int32) (z : Int64), x = nI i → y = nI j → z = lN p → i < j → j ≤ h → j - i ≤ fu → p < lW J i j → ∀ (q : Nat) (A : Nat → Nat → Int32), (∀ r, 6 ≤ r → A r = A0 r) → tbI 400 (400 + q) A → q + (j - i) ≤ 44 → zK (2 * fu + 3) zX7_takes [.ref 76, .int x, .int y, .long z] (wR f (upd o 29 (nI q)) A J) (fun r w' => ∃ (q1 : Nat) (A' : Nat → Nat → Int32), r = some (.int (nI (400 + q1))) ∧ w' = (wR f (upd o 29 (nI (q1 + 1))) A' J) ∧ tkF A q A' q1 (j - i) ∧ RT (eW A0) (mW A0 s (lW J)) (lW J) fu i j p (tkW A' fu (nI (400 + q1))))) {a b p : Nat} (hb : b ≤ h) (hf : b - a ≤ fu + 1) {A : Nat → Nat → Int32} (h6 : ∀ r, 6 ≤ r → A r = A0 r) {q : Nat} (hT : tbI 400 (400 + q) A) (hq : q + (b - a) ≤ 44) (hp9 : p ≤ cap) {x7 x1 x2 : Int32} {x3 : Int64} {n0 : Nat} (hp : p < wi (eW A0) (A0 6) (lW J) 8 a b) : zV (zMo (2 * (fu + 1) + 3) zX7_takes) false n0 0 0 238 [(9, .int (nI b)), (8, .int (nI a)), (7, .int x7), (5, .long (lN p)), (0, .ref 76), (1, .int x1), (2, .int x2), (3, .long x3)] [] (wR f (upd o 29 (nI q)) A J) (fun r w' => ∃ (q1 : Nat) (A' : Nat → Nat → Int32), r = some (.int (nI (400 + q1))) ∧ w' = (wR f (upd o 29 (nI (q1 + 1))) A' J) ∧ tkF A q A' q1 (b - a) ∧ RK (eW A0) (lW J) (RT (eW A0) (mW A0 s (lW J)) (lW J) fu) 8 a b p (tkW A' (fu + 1) (nI (400 + q1)))) := by
  have eE : A 8 = A0 8 := h6 8 (by decide)
  have hab : a < b := by
    rcases Nat.lt_or_ge a b with e | e
    · exact e
    · rw [wi_n e] at hp
      omega
  rw [wi_8 hab] at hp
  split at hp
  case isFalse => omega
  rename_i hc
  iterate 11 (refine zv_step (bX7_takes (2 * (fu + 1) + 3)) rfl rfl trivial ?_)
  refine zv_V3 (bX7_takes (2 * (fu + 1) + 3)) rfl rfl rfl rfl rfl rfl rfl ⟨rfl, rfl, rfl⟩ ⟨by show 2 * fu + 3 + 1 ≤ 2 * (fu + 1) + 3; omega, by show 8 + (12 + 11) + 64 * (2 * fu + 3) ≤ 64 * (2 * (fu + 1) + 3); omega⟩ ⟨Nat.zero_le _, Nat.zero_le _⟩ (ih (a + 1) (b - 1) p _ _ _ (nI_1 a) (sub_1 (by omega)) rfl (by omega) (by omega) (by omega) hp q A h6 hT (by omega)) ?_
  rintro _ _ ⟨q1, A1, rfl, rfl, k1, r1⟩
  have l1 := k1.2.2.2.2.1
  have m1 := k1.2.2.2.1
  iterate 1 (refine zv_step (bX7_takes (2 * (fu + 1) + 3)) rfl rfl trivial ?_)
  refine zv_V4 (bX7_takes (2 * (fu + 1) + 3)) rfl rfl rfl rfl rfl rfl rfl ⟨rfl, rfl, rfl⟩ ⟨by show 1 + 1 ≤ 2 * (fu + 1) + 3; omega, by show 8 + (5 + 11) + 64 * (1) ≤ 64 * (2 * (fu + 1) + 3); omega⟩ ⟨Nat.zero_le _, Nat.zero_le _⟩ (mMakes f o A1 J (q := q1 + 1) (by omega) (fun _ => vp_in_nI (by omega) (by decide)) vpm2) ?_
  rintro _ _ ⟨rfl, rfl⟩
  refine zv_iret (bX7_takes (2 * (fu + 1) + 3)) rfl (Or.inl rfl) (Nat.zero_le _) (Nat.zero_le _) ⟨q1 + 1, _, rfl, rfl, tkF_un k1 (by omega) (by omega) (by omega) (k := 8) (by decide) (by decide) ⟨fun h => absurd h (by decide), fun _ => rfl⟩, Or.inr (Or.inl ⟨by decide, tkW A1 fu (nI (400 + q1)), (tkW_un (by omega) (by decide) (by decide) (by omega)).trans ?_, r1⟩)⟩
  rw [tkW_fr (by omega) k1.2.1 (fun r hr i i1 i2 => setsA_o (by omega)) fu _ (Or.inr ⟨400 + q1, rfl, by omega, by omega, by have := k1.2.2.2.2.2; omega⟩)]
  rw [hc.1]
  rfl
set_option maxHeartbeats 1000000 in
set_option maxRecDepth 20000 in
theorem takXK9 (f : Nat → zC) (o : Nat → Int32) (A0 : Nat → Nat → Int32) (J : Nat → Nat → Int64) {h : Nat} (hh : h ≤ 20) (hw : nnW h (A0 8)) {s : Nat} (hJ : okJ h A0 s J) {fu : Nat} (ih : ∀ (i j p : Nat) (x y : Int32) (z : Int64), x = nI i → y = nI j → z = lN p → i < j → j ≤ h → j - i ≤ fu → p < lW J i j → ∀ (q : Nat) (A : Nat → Nat → Int32), (∀ r, 6 ≤ r → A r = A0 r) → tbI 400 (400 + q) A → q + (j - i) ≤ 44 → zK (2 * fu + 3) zX7_takes [.ref 76, .int x, .int y, .long z] (wR f (upd o 29 (nI q)) A J) (fun r w' => ∃ (q1 : Nat) (A' : Nat → Nat → Int32), r = some (.int (nI (400 + q1))) ∧ w' = (wR f (upd o 29 (nI (q1 + 1))) A' J) ∧ tkF A q A' q1 (j - i) ∧ RT (eW A0) (mW A0 s (lW J)) (lW J) fu i j p (tkW A' fu (nI (400 + q1))))) {a b p : Nat} (hb : b ≤ h) (hf : b - a ≤ fu + 1) {A : Nat → Nat → Int32} (h6 : ∀ r, 6 ≤ r → A r = A0 r) {q : Nat} (hT : tbI 400 (400 + q) A) (hq : q + (b - a) ≤ 44) (hp9 : p ≤ cap) {x7 x1 x2 : Int32} {x3 : Int64} {n0 : Nat} (hp : p < wi (eW A0) (A0 6) (lW J) 9 a b) : zV (zMo (2 * (fu + 1) + 3) zX7_takes) false n0 0 0 263 [(9, .int (nI b)), (8, .int (nI a)), (7, .int x7), (5, .long (lN p)), (0, .ref 76), (1, .int x1), (2, .int x2), (3, .long x3)] [] (wR f (upd o 29 (nI q)) A J) (fun r w' => ∃ (q1 : Nat) (A' : Nat → Nat → Int32), r = some (.int (nI (400 + q1))) ∧ w' = (wR f (upd o 29 (nI (q1 + 1))) A' J) ∧ tkF A q A' q1 (b - a) ∧ RK (eW A0) (lW J) (RT (eW A0) (mW A0 s (lW J)) (lW J) fu) 9 a b p (tkW A' (fu + 1) (nI (400 + q1)))) := by
  have eE : A 8 = A0 8 := h6 8 (by decide)
  have hab : a < b := by
    rcases Nat.lt_or_ge a b with e | e
    · exact e
    · rw [wi_n e] at hp
      omega
  rw [wi_9 hab] at hp
  split at hp
  case isFalse => omega
  rename_i hc
  iterate 5 (refine zv_step (bX7_takes (2 * (fu + 1) + 3)) rfl rfl trivial ?_)
  refine zv_iale (bX7_takes (2 * (fu + 1) + 3)) rfl rfl (vp_in_nI (by omega) (by decide)) (show A 8 (nI a).toNatClampNeg = nI (eW A0 (a)) by rw [nI_clamp (by omega), eE]; exact (eW_of hw (by omega)).1) ?_
  iterate 6 (refine zv_step (bX7_takes (2 * (fu + 1) + 3)) rfl rfl trivial ?_)
  refine zv_V3 (bX7_takes (2 * (fu + 1) + 3)) rfl rfl rfl rfl rfl rfl rfl ⟨rfl, rfl, rfl⟩ ⟨by show 2 * fu + 3 + 1 ≤ 2 * (fu + 1) + 3; omega, by show 8 + (12 + 11) + 64 * (2 * fu + 3) ≤ 64 * (2 * (fu + 1) + 3); omega⟩ ⟨Nat.zero_le _, Nat.zero_le _⟩ (ih (a + 2) (b) p _ _ _ (nI_2 a) rfl rfl (by omega) (by omega) (by omega) hp q A h6 hT (by omega)) ?_
  rintro _ _ ⟨q1, A1, rfl, rfl, k1, r1⟩
  have l1 := k1.2.2.2.2.1
  have m1 := k1.2.2.2.1
  iterate 1 (refine zv_step (bX7_takes (2 * (fu + 1) + 3)) rfl rfl trivial ?_)
  refine zv_V4 (bX7_takes (2 * (fu + 1) + 3)) rfl rfl rfl rfl rfl rfl rfl ⟨rfl, rfl, rfl⟩ ⟨by show 1 + 1 ≤ 2 * (fu + 1) + 3; omega, by show 8 + (5 + 11) + 64 * (1) ≤ 64 * (2 * (fu + 1) + 3); omega⟩ ⟨Nat.zero_le _, Nat.zero_le _⟩ (mMakes f o A1 J (q := q1 + 1) (by omega) (fun _ => vp_in_nI (by omega) (by decide)) vpm2) ?_
  rintro _ _ ⟨rfl, rfl⟩
  refine zv_iret (bX7_takes (2 * (fu + 1) + 3)) rfl (Or.inl rfl) (Nat.zero_le _) (Nat.zero_le _) ⟨q1 + 1, _, rfl, rfl, tkF_un k1 (by omega) (by omega) (by omega) (k := 9) (by decide) (by decide) ⟨fun _ => ⟨eW A0 a, by omega, rfl⟩, fun h => absurd h (by decide)⟩, Or.inr (Or.inl ⟨by decide, tkW A1 fu (nI (400 + q1)), (tkW_un (by omega) (by decide) (by decide) (by omega)).trans ?_, r1⟩)⟩
  rw [tkW_fr (by omega) k1.2.1 (fun r hr i i1 i2 => setsA_o (by omega)) fu _ (Or.inr ⟨400 + q1, rfl, by omega, by omega, by have := k1.2.2.2.2.2; omega⟩)]
  rw [show (nI (eW A0 a)).toNatClampNeg = eW A0 a from nI_clamp (by omega)]
  rfl
set_option maxHeartbeats 1000000 in
set_option maxRecDepth 20000 in
theorem takXKP (f : Nat → zC) (o : Nat → Int32) (A0 : Nat → Nat → Int32) (J : Nat → Nat → Int64) {h : Nat} (hh : h ≤ 20) (hw : nnW h (A0 8)) {s : Nat} (hJ : okJ h A0 s J) {fu : Nat} (ih : ∀ (i j p : Nat) (x y : Int32) (z : Int64), x = nI i → y = nI j → z = lN p → i < j → j ≤ h → j - i ≤ fu → p < lW J i j → ∀ (q : Nat) (A : Nat → Nat → Int32), (∀ r, 6 ≤ r → A r = A0 r) → tbI 400 (400 + q) A → q + (j - i) ≤ 44 → zK (2 * fu + 3) zX7_takes [.ref 76, .int x, .int y, .long z] (wR f (upd o 29 (nI q)) A J) (fun r w' => ∃ (q1 : Nat) (A' : Nat → Nat → Int32), r = some (.int (nI (400 + q1))) ∧ w' = (wR f (upd o 29 (nI (q1 + 1))) A' J) ∧ tkF A q A' q1 (j - i) ∧ RT (eW A0) (mW A0 s (lW J)) (lW J) fu i j p (tkW A' fu (nI (400 + q1))))) {a b p : Nat} (hb : b ≤ h) (hf : b - a ≤ fu + 1) {A : Nat → Nat → Int32} (h6 : ∀ r, 6 ≤ r → A r = A0 r) {q : Nat} (hT : tbI 400 (400 + q) A) (hq : q + (b - a) ≤ 44) (hp9 : p ≤ cap) {x7 x1 x2 : Int32} {x3 : Int64} {n0 : Nat} {k cc : Nat} (k2 : 2 ≤ k) (k6 : k ≤ 6) (e7 : x7 = nI cc) (half2 : nI cc / Int32.ofInt 2 = nI k) (hp : p < wi (eW A0) (A0 6) (lW J) k a b) : zV (zMo (2 * (fu + 1) + 3) zX7_takes) false n0 0 0 291 [(9, .int (nI b)), (8, .int (nI a)), (7, .int x7), (5, .long (lN p)), (0, .ref 76), (1, .int x1), (2, .int x2), (3, .long x3)] [] (wR f (upd o 29 (nI q)) A J) (fun r w' => ∃ (q1 : Nat) (A' : Nat → Nat → Int32), r = some (.int (nI (400 + q1))) ∧ w' = (wR f (upd o 29 (nI (q1 + 1))) A' J) ∧ tkF A q A' q1 (b - a) ∧ RK (eW A0) (lW J) (RT (eW A0) (mW A0 s (lW J)) (lW J) fu) k a b p (tkW A' (fu + 1) (nI (400 + q1)))) := by
  have eE : A 8 = A0 8 := h6 8 (by decide)
  have hab : a < b := by
    rcases Nat.lt_or_ge a b with e | e
    · exact e
    · rw [wi_n e] at hp
      omega
  iterate 3 (refine zv_step (bX7_takes (2 * (fu + 1) + 3)) rfl rfl trivial ?_)
  refine zv_step (bX7_takes (2 * (fu + 1) + 3)) rfl rfl (show ¬ Int32.ofInt 2 = 0 by decide) ?_
  iterate 3 (refine zv_step (bX7_takes (2 * (fu + 1) + 3)) rfl rfl trivial ?_)
  refine zv_V4 (bX7_takes (2 * (fu + 1) + 3)) rfl rfl rfl rfl rfl rfl rfl ⟨rfl, rfl, rfl⟩ ⟨by show 2 * fu + 4 + 1 ≤ 2 * (fu + 1) + 3; omega, by show 8 + (12 + 11) + 64 * (2 * fu + 4) ≤ 64 * (2 * (fu + 1) + 3); omega⟩ ⟨Nat.zero_le _, Nat.zero_le _⟩ (mTakes2X f o A0 J hh hw hJ ih k2 k6 hab hb hf h6 hT hq hp hp9 (by rw [e7]; exact half2) rfl rfl rfl) ?_
  rintro _ _ ⟨q1, A1, rfl, rfl, k1, r1⟩
  refine zv_iret (bX7_takes (2 * (fu + 1) + 3)) rfl (Or.inl rfl) (Nat.zero_le _) (Nat.zero_le _) ⟨q1, A1, rfl, rfl, k1, r1⟩
set_option maxHeartbeats 1000000 in
set_option maxRecDepth 20000 in
theorem takLX (f : Nat → zC) (o : Nat → Int32) (A0 : Nat → Nat → Int32) (J : Nat → Nat → Int64) {h : Nat} (hh : h ≤ 20) (hw : nnW h (A0 8)) {s : Nat} (hJ : okJ h A0 s J) {fu : Nat} (ih : ∀ (i j p : Nat) (x y : Int32) (z : Int64), x = nI i → y = nI j → z = lN p → i < j → j ≤ h → j - i ≤ fu → p < lW J i j → ∀ (q : Nat) (A : Nat → Nat → Int32), (∀ r, 6 ≤ r → A r = A0 r) → tbI 400 (400 + q) A → q + (j - i) ≤ 44 → zK (2 * fu + 3) zX7_takes [.ref 76, .int x, .int y, .long z] (wR f (upd o 29 (nI q)) A J) (fun r w' => ∃ (q1 : Nat) (A' : Nat → Nat → Int32), r = some (.int (nI (400 + q1))) ∧ w' = (wR f (upd o 29 (nI (q1 + 1))) A' J) ∧ tkF A q A' q1 (j - i) ∧ RT (eW A0) (mW A0 s (lW J)) (lW J) fu i j p (tkW A' fu (nI (400 + q1))))) {i j p : Nat} (hij : i < j) (hj : j ≤ h) (hf : j - i ≤ fu + 1) (hps : p < sW (mW A0 s (lW J) i j) 20) (hp9 : p ≤ cap) {A : Nat → Nat → Int32} (h6 : ∀ r, 6 ≤ r → A r = A0 r) {q : Nat} (hT : tbI 400 (400 + q) A) (hq : q + (j - i) ≤ 44) {n0 : Nat} : ∀ (w c l : Nat), c + w = 20 → p = sW (mW A0 s (lW J) i j) c + l → l ≤ cap → ∀ {x7 : Int32}, x7 = nI c → zV (zMo (2 * (fu + 1) + 3) zX7_takes) false n0 0 0 6 [(7, .int x7), (5, .long (lN l)), (0, .ref 76), (1, .int (nI i)), (2, .int (nI j)), (3, .long (lN p))] [] (wR f (upd o 29 (nI q)) A J) (fun r w' => ∃ (q1 : Nat) (A' : Nat → Nat → Int32), r = some (.int (nI (400 + q1))) ∧ w' = (wR f (upd o 29 (nI (q1 + 1))) A' J) ∧ tkF A q A' q1 (j - i) ∧ RT (eW A0) (mW A0 s (lW J)) (lW J) (fu + 1) i j p (tkW A' (fu + 1) (nI (400 + q1)))) := by
  intro w
  induction w with
  | zero =>
    intro c l hc hp hl9 x7 e7
    rw [show c = 20 by omega] at hp
    omega
  | succ w ih2 =>
    intro c l hc hp hl9 x7 e7
    subst e7
    have hcap := mW_le hJ (i := i) (j := j) hj c
    iterate 12 (refine zv_step (bX7_takes (2 * (fu + 1) + 3)) rfl rfl trivial ?_)
    refine zv_lale (bX7_takes (2 * (fu + 1) + 3)) rfl rfl (show vp_in (c8 20 * (c8 21 * nI i + nI j) + nI c) 8820 by rw [show c8 20 * (c8 21 * nI i + nI j) + nI c = nI (20 * (21 * i + j) + c) by rw [ix21, ix20m]]; exact vp_in_nI (by omega) (by decide)) (show J 0 (c8 20 * (c8 21 * nI i + nI j) + nI c).toNatClampNeg = lN (mW A0 s (lW J) i j c) by rw [show c8 20 * (c8 21 * nI i + nI j) + nI c = nI (20 * (21 * i + j) + c) by rw [ix21, ix20m], nI_clamp (by omega)]; exact (hJ i j hij hj).1 c (by omega)) ?_
    iterate 2 (refine zv_step (bX7_takes (2 * (fu + 1) + 3)) rfl rfl trivial ?_)
    refine zv_ifb (fun h26 => ?_) (fun h26 => ?_)
    · have hl : l < mW A0 s (lW J) i j c := by
        have h9 : lN l < lN (mW A0 s (lW J) i j c) := (lg_cmp_lt _ _).mp h26
        rwa [lN_ltJ (by unfold cap at *; omega) (by unfold cap at *; omega)] at h9
      rcases (show c % 2 = 1 ∨ c % 2 = 0 by omega) with hodd | hodd
      · iterate 2 (refine zv_step (bX7_takes (2 * (fu + 1) + 3)) rfl rfl trivial ?_)
        refine zv_step (bX7_takes (2 * (fu + 1) + 3)) rfl rfl (show ¬ Int32.ofInt 2 = 0 by decide) ?_
        iterate 2 (refine zv_step (bX7_takes (2 * (fu + 1) + 3)) rfl rfl trivial ?_)
        refine zv_iff (fun h => h (show nI c - nI c / Int32.ofInt 2 * Int32.ofInt 2 = nI 1 by rw [rem2 (by omega), hodd])) ?_
        iterate 7 (refine zv_step (bX7_takes (2 * (fu + 1) + 3)) rfl rfl trivial ?_)
        refine zv_step (bX7_takes (2 * (fu + 1) + 3)) rfl rfl (show ¬ Int32.ofInt 2 = 0 by decide) ?_
        iterate 2 (refine zv_step (bX7_takes (2 * (fu + 1) + 3)) rfl rfl trivial ?_)
        refine zv_iff (fun h => h (show nI c - nI c / Int32.ofInt 2 * Int32.ofInt 2 = nI 1 by rw [rem2 (by omega), hodd])) ?_
        iterate 7 (refine zv_step (bX7_takes (2 * (fu + 1) + 3)) rfl rfl trivial ?_)
        refine zv_step (bX7_takes (2 * (fu + 1) + 3)) rfl rfl (show ¬ Int32.ofInt 2 = 0 by decide) ?_
        have hw2 := (mW_pos hl).1
        rw [hodd] at hw2
        have hw2 : l < wi (eW A0) (A0 6) (lW J) (c / 2) (i + 1) (j - 1) := hw2
        have ehalf : nI c / Int32.ofInt 2 = nI (c / 2) := half (by omega)
        refine zv_locals (l := [(9, .int (nI j - Int32.ofInt 1)), (8, .int (nI i + Int32.ofInt 1)), (7, .int (nI c)), (5, .long (lN l)), (0, .ref 76), (1, .int (nI i)), (2, .int (nI j)), (3, .long (lN p))]) (l' := [(9, .int (nI j - Int32.ofInt 1)), (8, .int (nI i + Int32.ofInt 1)), (7, .int (nI c)), (5, .long (lN l)), (0, .ref 76), (1, .int (nI i)), (2, .int (nI j)), (3, .long (lN p))]) (fun q h => h) ?_
        rw [show nI i + Int32.ofInt 1 = nI (i + 1) from nI_1 i, show nI j - Int32.ofInt 1 = nI (j - 1) from sub_1 (by omega)]
        show zV (zMo (2 * (fu + 1) + 3) zX7_takes) false _ 0 0 95 _ [.int (nI c / Int32.ofInt 2)] _ _
        rw [ehalf]
        refine zv_weak (Q := (fun r w' => ∃ (q1 : Nat) (A' : Nat → Nat → Int32), r = some (.int (nI (400 + q1))) ∧ w' = (wR f (upd o 29 (nI (q1 + 1))) A' J) ∧ tkF A q A' q1 ((j - 1) - (i + 1)) ∧ RK (eW A0) (lW J) (RT (eW A0) (mW A0 s (lW J)) (lW J) fu) (c / 2) (i + 1) (j - 1) l (tkW A' (fu + 1) (nI (400 + q1))))) ?_ ?_
        · rintro r w ⟨q1, A1, e1, e2, t1, r1⟩
          exact ⟨q1, A1, e1, e2, ⟨t1.1, t1.2.1, t1.2.2.1, t1.2.2.2.1, by have := t1.2.2.2.2.1; omega, t1.2.2.2.2.2⟩, c, l, by omega, hp, hl, by rw [hodd]; exact r1⟩
        · generalize hk0 : c / 2 = k0 at *
          have hk9 : k0 < 10 := by omega
          match k0, hk9 with
          | 0, _ =>
            refine zv_step (bX7_takes (2 * (fu + 1) + 3)) rfl rfl (by decide) ?_
            exact takXK0 f o A0 J hh hw hJ ih (a := (i + 1)) (b := (j - 1)) (by omega) (by omega) h6 hT (by omega) hl9 hw2
          | 1, _ =>
            refine zv_step (bX7_takes (2 * (fu + 1) + 3)) rfl rfl (by decide) ?_
            exact takXK1 f o A0 J hh hw hJ ih (a := (i + 1)) (b := (j - 1)) (by omega) (by omega) h6 hT (by omega) hl9 hw2
          | 2, _ =>
            refine zv_step (bX7_takes (2 * (fu + 1) + 3)) rfl rfl (by decide) ?_
            exact takXKP f o A0 J hh hw hJ ih (a := (i + 1)) (b := (j - 1)) (by omega) (by omega) h6 hT (by omega) hl9 (by decide) (by decide) rfl (by rw [ehalf]) hw2
          | 3, _ =>
            refine zv_step (bX7_takes (2 * (fu + 1) + 3)) rfl rfl (by decide) ?_
            exact takXKP f o A0 J hh hw hJ ih (a := (i + 1)) (b := (j - 1)) (by omega) (by omega) h6 hT (by omega) hl9 (by decide) (by decide) rfl (by rw [ehalf]) hw2
          | 4, _ =>
            refine zv_step (bX7_takes (2 * (fu + 1) + 3)) rfl rfl (by decide) ?_
            exact takXKP f o A0 J hh hw hJ ih (a := (i + 1)) (b := (j - 1)) (by omega) (by omega) h6 hT (by omega) hl9 (by decide) (by decide) rfl (by rw [ehalf]) hw2
          | 5, _ =>
            refine zv_step (bX7_takes (2 * (fu + 1) + 3)) rfl rfl (by decide) ?_
            exact takXKP f o A0 J hh hw hJ ih (a := (i + 1)) (b := (j - 1)) (by omega) (by omega) h6 hT (by omega) hl9 (by decide) (by decide) rfl (by rw [ehalf]) hw2
          | 6, _ =>
            refine zv_step (bX7_takes (2 * (fu + 1) + 3)) rfl rfl (by decide) ?_
            exact takXKP f o A0 J hh hw hJ ih (a := (i + 1)) (b := (j - 1)) (by omega) (by omega) h6 hT (by omega) hl9 (by decide) (by decide) rfl (by rw [ehalf]) hw2
          | 7, _ =>
            refine zv_step (bX7_takes (2 * (fu + 1) + 3)) rfl rfl (by decide) ?_
            exact takXK7 f o A0 J hh hw hJ ih (a := (i + 1)) (b := (j - 1)) (by omega) (by omega) h6 hT (by omega) hl9 hw2
          | 8, _ =>
            refine zv_step (bX7_takes (2 * (fu + 1) + 3)) rfl rfl (by decide) ?_
            exact takXK8 f o A0 J hh hw hJ ih (a := (i + 1)) (b := (j - 1)) (by omega) (by omega) h6 hT (by omega) hl9 hw2
          | 9, _ =>
            refine zv_step (bX7_takes (2 * (fu + 1) + 3)) rfl rfl (by decide) ?_
            exact takXK9 f o A0 J hh hw hJ ih (a := (i + 1)) (b := (j - 1)) (by omega) (by omega) h6 hT (by omega) hl9 hw2
          | k0 + 10, h => exact absurd h (by omega)
      · iterate 2 (refine zv_step (bX7_takes (2 * (fu + 1) + 3)) rfl rfl trivial ?_)
        refine zv_step (bX7_takes (2 * (fu + 1) + 3)) rfl rfl (show ¬ Int32.ofInt 2 = 0 by decide) ?_
        iterate 2 (refine zv_step (bX7_takes (2 * (fu + 1) + 3)) rfl rfl trivial ?_)
        refine zv_ift (fun h => absurd ((nI_eq (b := 1) (by omega) (by decide)).mp (show nI (c % 2) = nI 1 by rw [← rem2 (show c < 21 by omega)]; exact h)) (by omega)) ?_
        iterate 4 (refine zv_step (bX7_takes (2 * (fu + 1) + 3)) rfl rfl trivial ?_)
        refine zv_step (bX7_takes (2 * (fu + 1) + 3)) rfl rfl (show ¬ Int32.ofInt 2 = 0 by decide) ?_
        iterate 2 (refine zv_step (bX7_takes (2 * (fu + 1) + 3)) rfl rfl trivial ?_)
        refine zv_ift (fun h => absurd ((nI_eq (b := 1) (by omega) (by decide)).mp (show nI (c % 2) = nI 1 by rw [← rem2 (show c < 21 by omega)]; exact h)) (by omega)) ?_
        iterate 4 (refine zv_step (bX7_takes (2 * (fu + 1) + 3)) rfl rfl trivial ?_)
        refine zv_step (bX7_takes (2 * (fu + 1) + 3)) rfl rfl (show ¬ Int32.ofInt 2 = 0 by decide) ?_
        have hw2 := (mW_pos hl).1
        rw [hodd] at hw2
        have hw2 : l < wi (eW A0) (A0 6) (lW J) (c / 2) i j := hw2
        have ehalf : nI c / Int32.ofInt 2 = nI (c / 2) := half (by omega)
        refine zv_locals (l := [(9, .int (nI j)), (8, .int (nI i)), (7, .int (nI c)), (5, .long (lN l)), (0, .ref 76), (1, .int (nI i)), (2, .int (nI j)), (3, .long (lN p))]) (l' := [(9, .int (nI j)), (8, .int (nI i)), (7, .int (nI c)), (5, .long (lN l)), (0, .ref 76), (1, .int (nI i)), (2, .int (nI j)), (3, .long (lN p))]) (fun q h => h) ?_
        show zV (zMo (2 * (fu + 1) + 3) zX7_takes) false _ 0 0 95 _ [.int (nI c / Int32.ofInt 2)] _ _
        rw [ehalf]
        refine zv_weak (Q := (fun r w' => ∃ (q1 : Nat) (A' : Nat → Nat → Int32), r = some (.int (nI (400 + q1))) ∧ w' = (wR f (upd o 29 (nI (q1 + 1))) A' J) ∧ tkF A q A' q1 (j - i) ∧ RK (eW A0) (lW J) (RT (eW A0) (mW A0 s (lW J)) (lW J) fu) (c / 2) i j l (tkW A' (fu + 1) (nI (400 + q1))))) ?_ ?_
        · rintro r w ⟨q1, A1, e1, e2, t1, r1⟩
          exact ⟨q1, A1, e1, e2, ⟨t1.1, t1.2.1, t1.2.2.1, t1.2.2.2.1, by have := t1.2.2.2.2.1; omega, t1.2.2.2.2.2⟩, c, l, by omega, hp, hl, by rw [hodd]; exact r1⟩
        · generalize hk0 : c / 2 = k0 at *
          have hk9 : k0 < 10 := by omega
          match k0, hk9 with
          | 0, _ =>
            refine zv_step (bX7_takes (2 * (fu + 1) + 3)) rfl rfl (by decide) ?_
            exact takXK0 f o A0 J hh hw hJ ih (a := i) (b := j) (by omega) (by omega) h6 hT (by omega) hl9 hw2
          | 1, _ =>
            refine zv_step (bX7_takes (2 * (fu + 1) + 3)) rfl rfl (by decide) ?_
            exact takXK1 f o A0 J hh hw hJ ih (a := i) (b := j) (by omega) (by omega) h6 hT (by omega) hl9 hw2
          | 2, _ =>
            refine zv_step (bX7_takes (2 * (fu + 1) + 3)) rfl rfl (by decide) ?_
            exact takXKP f o A0 J hh hw hJ ih (a := i) (b := j) (by omega) (by omega) h6 hT (by omega) hl9 (by decide) (by decide) rfl (by rw [ehalf]) hw2
          | 3, _ =>
            refine zv_step (bX7_takes (2 * (fu + 1) + 3)) rfl rfl (by decide) ?_
            exact takXKP f o A0 J hh hw hJ ih (a := i) (b := j) (by omega) (by omega) h6 hT (by omega) hl9 (by decide) (by decide) rfl (by rw [ehalf]) hw2
          | 4, _ =>
            refine zv_step (bX7_takes (2 * (fu + 1) + 3)) rfl rfl (by decide) ?_
            exact takXKP f o A0 J hh hw hJ ih (a := i) (b := j) (by omega) (by omega) h6 hT (by omega) hl9 (by decide) (by decide) rfl (by rw [ehalf]) hw2
          | 5, _ =>
            refine zv_step (bX7_takes (2 * (fu + 1) + 3)) rfl rfl (by decide) ?_
            exact takXKP f o A0 J hh hw hJ ih (a := i) (b := j) (by omega) (by omega) h6 hT (by omega) hl9 (by decide) (by decide) rfl (by rw [ehalf]) hw2
          | 6, _ =>
            refine zv_step (bX7_takes (2 * (fu + 1) + 3)) rfl rfl (by decide) ?_
            exact takXKP f o A0 J hh hw hJ ih (a := i) (b := j) (by omega) (by omega) h6 hT (by omega) hl9 (by decide) (by decide) rfl (by rw [ehalf]) hw2
          | 7, _ =>
            refine zv_step (bX7_takes (2 * (fu + 1) + 3)) rfl rfl (by decide) ?_
            exact takXK7 f o A0 J hh hw hJ ih (a := i) (b := j) (by omega) (by omega) h6 hT (by omega) hl9 hw2
          | 8, _ =>
            refine zv_step (bX7_takes (2 * (fu + 1) + 3)) rfl rfl (by decide) ?_
            exact takXK8 f o A0 J hh hw hJ ih (a := i) (b := j) (by omega) (by omega) h6 hT (by omega) hl9 hw2
          | 9, _ =>
            refine zv_step (bX7_takes (2 * (fu + 1) + 3)) rfl rfl (by decide) ?_
            exact takXK9 f o A0 J hh hw hJ ih (a := i) (b := j) (by omega) (by omega) h6 hT (by omega) hl9 hw2
          | k0 + 10, h => exact absurd h (by omega)
    · have hl : ¬ l < mW A0 s (lW J) i j c := fun e => h26 ((lg_cmp_lt _ _).mpr (by rwa [lN_ltJ (by unfold cap at *; omega) (by unfold cap at *; omega)]))
      iterate 12 (refine zv_step (bX7_takes (2 * (fu + 1) + 3)) rfl rfl trivial ?_)
      refine zv_lale (bX7_takes (2 * (fu + 1) + 3)) rfl rfl (show vp_in (c8 20 * (c8 21 * nI i + nI j) + nI c) 8820 by rw [show c8 20 * (c8 21 * nI i + nI j) + nI c = nI (20 * (21 * i + j) + c) by rw [ix21, ix20m]]; exact vp_in_nI (by omega) (by decide)) (show J 0 (c8 20 * (c8 21 * nI i + nI j) + nI c).toNatClampNeg = lN (mW A0 s (lW J) i j c) by rw [show c8 20 * (c8 21 * nI i + nI j) + nI c = nI (20 * (21 * i + j) + c) by rw [ix21, ix20m], nI_clamp (by omega)]; exact (hJ i j hij hj).1 c (by omega)) ?_
      iterate 4 (refine zv_step (bX7_takes (2 * (fu + 1) + 3)) rfl rfl trivial ?_)
      refine zv_locals (l := [(7, .int (nI c + Int32.ofInt 1)), (5, .long (lN l - lN (mW A0 s (lW J) i j c))), (0, .ref 76), (1, .int (nI i)), (2, .int (nI j)), (3, .long (lN p))]) (l' := [(7, .int (nI c + Int32.ofInt 1)), (5, .long (lN l - lN (mW A0 s (lW J) i j c))), (0, .ref 76), (1, .int (nI i)), (2, .int (nI j)), (3, .long (lN p))]) (fun q h => h) ?_
      rw [lN_sub (by omega)]
      exact ih2 (c + 1) (l - mW A0 s (lW J) i j c) (by omega) (by show p = sW (mW A0 s (lW J) i j) c + mW A0 s (lW J) i j c + _; omega) (by omega) (nI_1 c)
set_option maxHeartbeats 1000000 in
set_option maxRecDepth 20000 in
theorem mTakesX (f : Nat → zC) (o : Nat → Int32) (A0 : Nat → Nat → Int32) (J : Nat → Nat → Int64) {h : Nat} (hh : h ≤ 20) (hw : nnW h (A0 8)) {s : Nat} (hJ : okJ h A0 s J) : ∀ (fu i j p : Nat) (x y : Int32) (z : Int64), x = nI i → y = nI j → z = lN p → i < j → j ≤ h → j - i ≤ fu → p < lW J i j → ∀ (q : Nat) (A : Nat → Nat → Int32), (∀ r, 6 ≤ r → A r = A0 r) → tbI 400 (400 + q) A → q + (j - i) ≤ 44 → zK (2 * fu + 3) zX7_takes [.ref 76, .int x, .int y, .long z] (wR f (upd o 29 (nI q)) A J) (fun r w' => ∃ (q1 : Nat) (A' : Nat → Nat → Int32), r = some (.int (nI (400 + q1))) ∧ w' = (wR f (upd o 29 (nI (q1 + 1))) A' J) ∧ tkF A q A' q1 (j - i) ∧ RT (eW A0) (mW A0 s (lW J)) (lW J) fu i j p (tkW A' fu (nI (400 + q1)))) := by
  intro fu
  induction fu with
  | zero =>
    intro i j p x y z _ _ _ hij _ hf
    omega
  | succ fu ih =>
    intro i j p x y z ex ey ez hij hj hf hp q A h6 hT hq
    subst ex ey ez
    obtain ⟨e1, e2, _⟩ := okS_l (hJ i j hij hj)
    have hps : p < sW (mW A0 s (lW J) i j) 20 := by
      have := csW_s (mW A0 s (lW J) i j) 20
      omega
    refine zK_of qX7_takes (by decide +kernel) rfl ?_
    iterate 4 (refine zv_step (bX7_takes (2 * (fu + 1) + 3)) rfl rfl trivial ?_)
    refine zv_locals (l := [(7, .int (Int32.ofInt 0)), (5, .long (lN p)), (0, .ref 76), (1, .int (nI i)), (2, .int (nI j)), (3, .long (lN p))]) (l' := [(7, .int (Int32.ofInt 0)), (5, .long (lN p)), (0, .ref 76), (1, .int (nI i)), (2, .int (nI j)), (3, .long (lN p))]) (fun q h => h) (takLX f o A0 J hh hw hJ ih hij hj hf hps (by omega) h6 hT hq 20 0 p (by omega) (by show p = 0 + p; omega) (by omega) rfl)
end
section
/-! both tables of NODES hold the same -/
def cvI (x : Int32) : Int32 := if x = m2 then m1 else x
def pvI (g : Nat → Int32) (x : Int32) : Int32 := if x = m1 then 0 else g x.toNatClampNeg
theorem pvI_m1 (g : Nat → Int32) : pvI g m1 = 0 := if_pos rfl
theorem pvI_nI (g : Nat → Int32) {a : Nat} (h : a < 120) : pvI g (nI a) = g a := by
  unfold pvI
  rw [if_neg (nI_m1' (by omega)), nI_clamp (by omega)]
theorem adI_m1 (b u n : Nat) (P : Nat → Nat → Int32) : adI b (nI u) P n m1 = P := by
  unfold adI
  rw [if_neg (fun q => absurd q.1 (by decide))]
theorem adI_nI {b u a : Nat} (ha : a < u) (hu : u < 120) (n : Nat) (P : Nat → Nat → Int32) : adI b (nI u) P n (nI a) = adA b P n a := by
  unfold adI
  rw [if_pos ⟨by rw [nI_toInt (by omega)]; omega, by rw [nI_toInt (by omega), nI_toInt (by omega)]; omega⟩, show nC (nI a) = a from nI_clamp (by omega)]
theorem adA_ne {b n x j i : Nat} {P : Nat → Nat → Int32} (h : j ≠ n) : adA b P n x i j = P i j := by
  unfold adA updA
  split
  · rename_i e; subst e; exact upd_ne _ _ h
  · split
    · rename_i e; subst e; exact upd_ne _ _ h
    · split
      · rename_i e; subst e; exact upd_ne _ _ h
      · split
        · rename_i e; subst e; exact upd_ne _ _ h
        · split
          · rename_i e; subst e; exact upd_ne _ _ h
          · split
            · rename_i e; subst e; exact upd_ne _ _ h
            · rfl
theorem adI_ne {b n j i : Nat} {u x : Int32} {P : Nat → Nat → Int32} (h : j ≠ n) : adI b u P n x i j = P i j := by
  unfold adI
  split
  · exact adA_ne h
  · rfl
theorem putV_ne {b n j i : Nat} {P : Nat → Nat → Int32} {k v x y ow ch le ca : Int32} (h : j ≠ n) : putV b P n k v x y ow ch le ca i j = P i j := by
  unfold putV updA
  split
  · rename_i e; subst e; exact upd_ne _ _ h
  · split
    · rename_i e; subst e; exact upd_ne _ _ h
    · split
      · rename_i e; subst e; exact upd_ne _ _ h
      · split
        · rename_i e; subst e; exact upd_ne _ _ h
        · split
          · rename_i e; subst e; exact upd_ne _ _ h
          · split
            · rename_i e; subst e; exact upd_ne _ _ h
            · split
              · rename_i e; subst e; exact upd_ne _ _ h
              · split
                · rename_i e; subst e; exact upd_ne _ _ h
                · split
                  · rename_i e; subst e; exact upd_ne _ _ h
                  · split
                    · rename_i e; subst e; exact upd_ne _ _ h
                    · rfl
theorem stC_ne {b u j i : Nat} {P : Nat → Nat → Int32} {k v x y sh : Int32} (h : j ≠ u) : stC b P u k v x y sh i j = P i j := by
  unfold stC updA
  split
  · rename_i e
    subst e
    rw [upd_ne _ _ h, adI_ne h, adI_ne h, putV_ne h]
  · rw [adI_ne h, adI_ne h, putV_ne h]
def leW (k v : Int32) : Int32 := if k = 0 then Int32.ofInt 1 <<< (v &&& 31) else Int32.ofInt 0
def caW (k v : Int32) : Int32 := if k = c8 9 then Int32.ofInt 1 <<< (v &&& 31) else Int32.ofInt 0
theorem adA_u {n x : Nat} {P : Nat → Nat → Int32} : adA 1 P n x 2 n = P 2 n ∧ adA 1 P n x 3 n = P 3 n ∧ adA 1 P n x 4 n = P 4 n ∧ adA 1 P n x 5 n = P 5 n ∧ adA 1 P n x 6 n = P 6 n + P 6 x ∧ adA 1 P n x 8 n = P 8 n + P 8 x ∧ adA 1 P n x 9 n = P 9 n + P 9 x ∧ adA 1 P n x 10 n = P 10 n ||| P 10 x ∧ adA 1 P n x 11 n = P 11 n ||| P 11 x :=
  ⟨rfl, rfl, rfl, rfl, upd_self _ _ _, upd_self _ _ _, upd_self _ _ _, upd_self _ _ _, upd_self _ _ _⟩
theorem adI_u {u : Nat} {x : Int32} {P : Nat → Nat → Int32} (hu : u < 120) (hx : okp u x) : adI 1 (nI u) P u x 2 u = P 2 u ∧ adI 1 (nI u) P u x 3 u = P 3 u ∧ adI 1 (nI u) P u x 4 u = P 4 u ∧ adI 1 (nI u) P u x 5 u = P 5 u ∧ adI 1 (nI u) P u x 6 u = P 6 u + pvI (P 6) x ∧ adI 1 (nI u) P u x 8 u = P 8 u + pvI (P 8) x ∧ adI 1 (nI u) P u x 9 u = P 9 u + pvI (P 9) x ∧ adI 1 (nI u) P u x 10 u = P 10 u ||| pvI (P 10) x ∧ adI 1 (nI u) P u x 11 u = P 11 u ||| pvI (P 11) x := by
  rcases hx with rfl | ⟨a, ha, rfl⟩
  · rw [adI_m1, pvI_m1 (P 6), pvI_m1 (P 8), pvI_m1 (P 9), pvI_m1 (P 10), pvI_m1 (P 11)]
    exact ⟨rfl, rfl, rfl, rfl, (Int32.add_zero _).symm, (Int32.add_zero _).symm, (Int32.add_zero _).symm, Int32.or_zero.symm, Int32.or_zero.symm⟩
  · rw [adI_nI ha hu]
    simp only [pvI_nI _ (show a < 120 by omega)]
    exact adA_u
theorem pvI_e {g g' : Nat → Int32} {u : Nat} {x : Int32} (hu : u < 120) (hx : okp u x) (e : ∀ j, j < u → g' j = g j) : pvI g' x = pvI g x := by
  rcases hx with rfl | ⟨a, ha, rfl⟩
  · rw [pvI_m1, pvI_m1]
  · rw [pvI_nI _ (by omega), pvI_nI _ (by omega), e a ha]
theorem stC_u {u : Nat} {P : Nat → Nat → Int32} {k v x y sh : Int32} (hu : u < 120) (hx : okp u x) (hy : okp u y) : stC 1 P u k v x y sh 2 u = k ∧ stC 1 P u k v x y sh 3 u = v ∧ stC 1 P u k v x y sh 4 u = x ∧ stC 1 P u k v x y sh 5 u = y ∧ stC 1 P u k v x y sh 6 u = Int32.ofInt 1 + pvI (P 6) x + pvI (P 6) y ∧ stC 1 P u k v x y sh 8 u = owW k v + pvI (P 8) x + pvI (P 8) y ∧ stC 1 P u k v x y sh 9 u = hbW (Int16.ofInt 764).toInt32 k + pvI (P 9) x + pvI (P 9) y ∧ stC 1 P u k v x y sh 10 u = leW k v ||| pvI (P 10) x ||| pvI (P 10) y ∧ stC 1 P u k v x y sh 11 u = caW k v ||| pvI (P 11) x ||| pvI (P 11) y := by
  have e : ∀ i, i ≠ 12 → stC 1 P u k v x y sh i = adI 1 (nI u) (adI 1 (nI u) (putV 1 P u k v x y (owW k v) (hbW (Int16.ofInt 764).toInt32 k) (leW k v) (caW k v)) u x) u y i := fun i hi => updA_ne _ _ hi
  rw [e 2 (by decide), e 3 (by decide), e 4 (by decide), e 5 (by decide), e 6 (by decide), e 8 (by decide), e 9 (by decide), e 10 (by decide), e 11 (by decide)]
  obtain ⟨a1, a2, a3, a4, a5, a6, a7, a8, a9⟩ := adI_u (P := putV 1 P u k v x y (owW k v) (hbW (Int16.ofInt 764).toInt32 k) (leW k v) (caW k v)) hu hx
  obtain ⟨b1, b2, b3, b4, b5, b6, b7, b8, b9⟩ := adI_u (P := adI 1 (nI u) (putV 1 P u k v x y (owW k v) (hbW (Int16.ofInt 764).toInt32 k) (leW k v) (caW k v)) u x) hu hy
  have pe : ∀ i, ∀ z, okp u z → pvI (putV 1 P u k v x y (owW k v) (hbW (Int16.ofInt 764).toInt32 k) (leW k v) (caW k v) i) z = pvI (P i) z := fun i z hz => pvI_e hu hz (fun j hj => putV_ne (by omega))
  have qe : ∀ i, ∀ z, okp u z → pvI (adI 1 (nI u) (putV 1 P u k v x y (owW k v) (hbW (Int16.ofInt 764).toInt32 k) (leW k v) (caW k v)) u x i) z = pvI (P i) z := fun i z hz => pvI_e hu hz (fun j hj => by rw [adI_ne (by omega), putV_ne (by omega)])
  rw [b1, b2, b3, b4, b5, b6, b7, b8, b9, a1, a2, a3, a4, a5, a6, a7, a8, a9, pe 6 x hx, pe 8 x hx, pe 9 x hx, pe 10 x hx, pe 11 x hx, qe 6 y hy, qe 8 y hy, qe 9 y hy, qe 10 y hy, qe 11 y hy]
  refine ⟨upd_self _ _ _, upd_self _ _ _, upd_self _ _ _, upd_self _ _ _, ?_, ?_, ?_, ?_, ?_⟩
  · rw [show putV 1 P u k v x y (owW k v) (hbW (Int16.ofInt 764).toInt32 k) (leW k v) (caW k v) 6 u = Int32.ofInt 1 from upd_self _ _ _]
  · rw [show putV 1 P u k v x y (owW k v) (hbW (Int16.ofInt 764).toInt32 k) (leW k v) (caW k v) 8 u = owW k v from upd_self _ _ _]
  · rw [show putV 1 P u k v x y (owW k v) (hbW (Int16.ofInt 764).toInt32 k) (leW k v) (caW k v) 9 u = hbW (Int16.ofInt 764).toInt32 k from upd_self _ _ _]
  · rw [show putV 1 P u k v x y (owW k v) (hbW (Int16.ofInt 764).toInt32 k) (leW k v) (caW k v) 10 u = leW k v from upd_self _ _ _]
  · rw [show putV 1 P u k v x y (owW k v) (hbW (Int16.ofInt 764).toInt32 k) (leW k v) (caW k v) 11 u = caW k v from upd_self _ _ _]
/-- what the class keeps beside a NODE -/
def cN (P : Nat → Nat → Int32) (n : Nat) : Prop := P 8 n = owW (P 2 n) (P 3 n) + pvI (P 8) (P 4 n) + pvI (P 8) (P 5 n) ∧ P 9 n = hbW (Int16.ofInt 764).toInt32 (P 2 n) + pvI (P 9) (P 4 n) + pvI (P 9) (P 5 n) ∧ P 10 n = leW (P 2 n) (P 3 n) ||| pvI (P 10) (P 4 n) ||| pvI (P 10) (P 5 n) ∧ P 11 n = caW (P 2 n) (P 3 n) ||| pvI (P 11) (P 4 n) ||| pvI (P 11) (P 5 n)
def NR (u : Nat) (P A : Nat → Nat → Int32) : Prop := ∀ n, n < u → P 2 n = A 0 n ∧ P 3 n = cvI (A 1 n) ∧ P 4 n = cvI (A 2 n) ∧ P 5 n = cvI (A 3 n) ∧ P 6 n = A 4 n ∧ okp n (P 4 n) ∧ okp n (P 5 n) ∧ cN P n
theorem cvI_m2 : cvI m2 = m1 := if_pos rfl
theorem cvI_nI {n : Nat} (h : n < 2 ^ 31) : cvI (nI n) = nI n := if_neg (fun e => by
  have := congrArg Int32.toInt e
  rw [nI_toInt h] at this
  have e2 : m2.toInt = -2 := by decide
  omega)
theorem NR_le {u u' : Nat} {P A : Nat → Nat → Int32} (h : NR u P A) (hu : u' ≤ u) : NR u' P A := fun n hn => h n (by omega)
theorem cN_fr {P P' : Nat → Nat → Int32} {n : Nat} (hn : n < 120) (h : cN P n) (h4 : okp n (P 4 n)) (h5 : okp n (P 5 n)) (e : ∀ i, 2 ≤ i → i ≤ 11 → i ≠ 7 → ∀ j, j ≤ n → P' i j = P i j) : cN P' n := by
  unfold cN at h ⊢
  have p : ∀ i, 2 ≤ i → i ≤ 11 → i ≠ 7 → ∀ z, okp n z → pvI (P' i) z = pvI (P i) z := fun i i1 i2 i3 z hz => pvI_e hn hz (fun j hj => e i i1 i2 i3 j (by omega))
  rw [e 2 (by decide) (by decide) (by decide) n (Nat.le_refl _), e 3 (by decide) (by decide) (by decide) n (Nat.le_refl _), e 4 (by decide) (by decide) (by decide) n (Nat.le_refl _), e 5 (by decide) (by decide) (by decide) n (Nat.le_refl _), e 8 (by decide) (by decide) (by decide) n (Nat.le_refl _), e 9 (by decide) (by decide) (by decide) n (Nat.le_refl _), e 10 (by decide) (by decide) (by decide) n (Nat.le_refl _), e 11 (by decide) (by decide) (by decide) n (Nat.le_refl _), p 8 (by decide) (by decide) (by decide) _ h4, p 8 (by decide) (by decide) (by decide) _ h5, p 9 (by decide) (by decide) (by decide) _ h4, p 9 (by decide) (by decide) (by decide) _ h5, p 10 (by decide) (by decide) (by decide) _ h4, p 10 (by decide) (by decide) (by decide) _ h5, p 11 (by decide) (by decide) (by decide) _ h4, p 11 (by decide) (by decide) (by decide) _ h5]
  exact h
theorem NR_fr {u : Nat} {P P' A A' : Nat → Nat → Int32} (hu : u ≤ 120) (h : NR u P A) (e : ∀ i, 2 ≤ i → i ≤ 11 → i ≠ 7 → ∀ j, j < u → P' i j = P i j) (e' : ∀ r, r < 5 → ∀ j, j < u → A' r j = A r j) : NR u P' A' := fun n hn => by
  obtain ⟨h1, h2, h3, h4, h5, h6, h7, h8⟩ := h n hn
  rw [e 2 (by decide) (by decide) (by decide) n hn, e 3 (by decide) (by decide) (by decide) n hn, e 4 (by decide) (by decide) (by decide) n hn, e 5 (by decide) (by decide) (by decide) n hn, e 6 (by decide) (by decide) (by decide) n hn, e' 0 (by decide) n hn, e' 1 (by decide) n hn, e' 2 (by decide) n hn, e' 3 (by decide) n hn, e' 4 (by decide) n hn]
  exact ⟨h1, h2, h3, h4, h5, h6, h7, cN_fr (by omega) h8 h6 h7 (fun i i1 i2 i3 j hj => e i i1 i2 i3 j (by omega))⟩
/-- a NODE comes to both -/
theorem NR_st {u : Nat} {P A : Nat → Nat → Int32} (hu : u < 120) (h : NR u P A) {k v x y sh : Int32} (hx : x = m2 ∨ ∃ a, a < u ∧ x = nI a) (hy : y = m2 ∨ ∃ a, a < u ∧ y = nI a) : NR (u + 1) (stC 1 P u k (cvI v) (cvI x) (cvI y) sh) (setsA A u k v x y) := by
  have ok : ∀ z, (z = m2 ∨ ∃ a, a < u ∧ z = nI a) → okp u (cvI z) ∧ pvI (P 6) (cvI z) = rdv (A 4) z := by
    rintro z (rfl | ⟨a, ha, rfl⟩)
    · exact ⟨Or.inl cvI_m2, by rw [cvI_m2, pvI_m1, rdv_m2]; rfl⟩
    · rw [cvI_nI (by omega), pvI_nI _ (by omega), rdv_nI (by omega)]
      exact ⟨Or.inr ⟨a, ha, rfl⟩, (h a ha).2.2.2.2.1⟩
  obtain ⟨ox, sx⟩ := ok x hx
  obtain ⟨oy, sy⟩ := ok y hy
  intro n hn
  by_cases e : n = u
  · subst e
    obtain ⟨a1, a2, a3, a4, a5, a6, a7, a8, a9⟩ := stC_u (P := P) (k := k) (v := cvI v) (sh := sh) hu ox oy
    have pe : ∀ i z, okp n z → pvI (stC 1 P n k (cvI v) (cvI x) (cvI y) sh i) z = pvI (P i) z := fun i z hz => pvI_e hu hz (fun j hj => stC_ne (by omega))
    refine ⟨a1.trans (upd_self _ _ _).symm, a2.trans (by rw [show setsA A n k v x y 1 n = v from upd_self _ _ _]), a3.trans (by rw [show setsA A n k v x y 2 n = x from upd_self _ _ _]), a4.trans (by rw [show setsA A n k v x y 3 n = y from upd_self _ _ _]), ?_, by rw [a3]; exact ox, by rw [a4]; exact oy, ?_⟩
    · rw [a5, sx, sy]
      exact (upd_self _ _ _).symm
    · unfold cN
      rw [a1, a2, a3, a4, a6, a7, a8, a9, pe 8 _ ox, pe 8 _ oy, pe 9 _ ox, pe 9 _ oy, pe 10 _ ox, pe 10 _ oy, pe 11 _ ox, pe 11 _ oy]
      exact ⟨rfl, rfl, rfl, rfl⟩
  · exact NR_fr (P' := stC 1 P u k (cvI v) (cvI x) (cvI y) sh) (A' := setsA A u k v x y) (by omega) h (fun i _ _ _ j hj => stC_ne (by omega)) (fun r _ j hj => setsA_o (by omega)) n (by omega)
/-- the same row on the reference's table -/
def tkM (t : Nat × Nat) (s : (Nat → Nat → Int32) × Nat × List Nat) : (Nat → Nat → Int32) × Nat × List Nat :=
  if t.1 < 2 then (setsA s.1 s.2.1 (nI t.1) (nI t.2) m2 m2, s.2.1 + 1, s.2.1 :: s.2.2)
  else if t.1 ≤ 6 then (setsA s.1 s.2.1 (nI t.1) m2 (nI (s.2.2.getD 1 0)) (nI (s.2.2.getD 0 0)), s.2.1 + 1, s.2.1 :: s.2.2.drop 2)
  else (setsA s.1 s.2.1 (nI t.1) (if t.1 = 9 then nI t.2 else m2) (nI (s.2.2.getD 0 0)) m2, s.2.1 + 1, s.2.1 :: s.2.2.drop 1)
def lyM : List (Nat × Nat) → (Nat → Nat → Int32) × Nat × List Nat → (Nat → Nat → Int32) × Nat × List Nat
  | [], s => s
  | t :: T, s => lyM T (tkM t s)
theorem lyM_app : ∀ (X Y : List (Nat × Nat)) (s : (Nat → Nat → Int32) × Nat × List Nat), lyM (X ++ Y) s = lyM Y (lyM X s)
  | [], _, _ => rfl
  | t :: X, Y, s => lyM_app X Y (tkM t s)
theorem lyC_split {b : Nat} : ∀ (X Y : List (Nat × Nat)) (s s' : (Nat → Nat → Int32) × Nat × List Nat), lyC b (X ++ Y) s s' → ∃ m, lyC b X s m ∧ lyC b Y m s'
  | [], Y, s, s', h => ⟨s, rfl, h⟩
  | t :: X, Y, s, s', ⟨sh, h⟩ => by
    obtain ⟨m, h1, h2⟩ := lyC_split X Y _ s' h
    exact ⟨m, ⟨sh, h1⟩, h2⟩
theorem tkM_0 {k v u : Nat} {A : Nat → Nat → Int32} {st : List Nat} (h : k < 2) : lyM [(k, v)] (A, u, st) = (setsA A u (nI k) (nI v) m2 m2, u + 1, u :: st) := by
  show tkM (k, v) (A, u, st) = _
  unfold tkM
  rw [if_pos h]
theorem tkM_1 {k v u x : Nat} {A : Nat → Nat → Int32} {st : List Nat} (h : 7 ≤ k) : lyM [(k, v)] (A, u, x :: st) = (setsA A u (nI k) (if k = 9 then nI v else m2) (nI x) m2, u + 1, u :: st) := by
  show tkM (k, v) (A, u, x :: st) = _
  unfold tkM
  rw [if_neg (by show ¬ k < 2; omega), if_neg (by show ¬ k ≤ 6; omega)]
  rfl
theorem tkM_2 {k v u x y : Nat} {A : Nat → Nat → Int32} {st : List Nat} (h : 2 ≤ k) (h6 : k ≤ 6) : lyM [(k, v)] (A, u, y :: x :: st) = (setsA A u (nI k) m2 (nI x) (nI y), u + 1, u :: st) := by
  show tkM (k, v) (A, u, y :: x :: st) = _
  unfold tkM
  rw [if_neg (by show ¬ k < 2; omega), if_pos (by show k ≤ 6; omega)]
  rfl
theorem tkC_0 {b k v u : Nat} {P : Nat → Nat → Int32} {st : List Nat} {s' : (Nat → Nat → Int32) × Nat × List Nat} (h : k < 2) (g : lyC b [(k, v)] (P, u, st) s') : ∃ sh, s' = (stC b P u (nI k) (nI v) m1 m1 sh, u + 1, u :: st) := by
  obtain ⟨sh, g⟩ := g
  refine ⟨sh, ?_⟩
  rw [← show tkC b (k, v) (P, u, st) sh = s' from g]
  unfold tkC
  rw [if_pos h]
theorem tkC_1 {b k v u x : Nat} {P : Nat → Nat → Int32} {st : List Nat} {s' : (Nat → Nat → Int32) × Nat × List Nat} (h : 7 ≤ k) (g : lyC b [(k, v)] (P, u, x :: st) s') : ∃ sh, s' = (stC b P u (nI k) (if k = 9 then nI v else m1) (nI x) m1 sh, u + 1, u :: st) := by
  obtain ⟨sh, g⟩ := g
  refine ⟨sh, ?_⟩
  rw [← show tkC b (k, v) (P, u, x :: st) sh = s' from g]
  unfold tkC
  rw [if_neg (by show ¬ k < 2; omega), if_neg (by show ¬ k ≤ 6; omega)]
  rfl
theorem tkC_2 {b k v u x y : Nat} {P : Nat → Nat → Int32} {st : List Nat} {s' : (Nat → Nat → Int32) × Nat × List Nat} (h : 2 ≤ k) (h6 : k ≤ 6) (g : lyC b [(k, v)] (P, u, y :: x :: st) s') : ∃ sh, s' = (stC b P u (nI k) m1 (nI x) (nI y) sh, u + 1, u :: st) := by
  obtain ⟨sh, g⟩ := g
  refine ⟨sh, ?_⟩
  rw [← show tkC b (k, v) (P, u, y :: x :: st) sh = s' from g]
  unfold tkC
  rw [if_neg (by show ¬ k < 2; omega), if_pos (by show k ≤ 6; omega)]
  rfl
theorem isNum_E {E : Nat → Nat} {G : Nat → Int32} {L : Nat → Nat → Nat} {k a b q : Nat} (hk : k < 10) (h : q < wi E G L k a b) (v : Nat) (hv : (k = 0 ∧ v = E a) ∨ (k = 1 ∧ v = nvN E (b - a) a 0) ∨ (7 ≤ k ∧ v = E a)) : v < 10000 := by
  have w := wi_pos h
  rcases hv with ⟨e, rfl⟩ | ⟨e, rfl⟩ | ⟨e, rfl⟩
  · have := w.2.1 e
    omega
  · exact nv_sm (w.2.2.1 e).1
  · rcases (show k = 7 ∨ k = 8 ∨ k = 9 by omega) with e | e | e
    · have := w.2.2.2.1 e
      omega
    · have := w.2.2.2.2.1 e
      omega
    · have := w.2.2.2.2.2 e
      omega
/-- a READING written on both sides leaves them the same -/
theorem NR_ly {E : Nat → Nat} {G : Nat → Int32} {lt : Nat → Nat → Bool} {L : Nat → Nat → Nat} : ∀ (f i j p : Nat) (T : List (Nat × Nat)), RT E (mG E G lt L) L f i j p T → ∀ (u : Nat) (P A : Nat → Nat → Int32) (st : List Nat) (s' : (Nat → Nat → Int32) × Nat × List Nat), NR u P A → u + T.length ≤ 120 → lyC 1 T (P, u, st) s' → NR (u + T.length) s'.1 (lyM T (A, u, st)).1 ∧ s'.2 = (u + T.length, (u + T.length - 1) :: st) ∧ (lyM T (A, u, st)).2 = (u + T.length, (u + T.length - 1) :: st) ∧ 1 ≤ T.length
  | 0, _, _, _, _, h => h.elim
  | f + 1, i, j, p, T, ⟨c, q, h1, h2, h3, h4⟩ => by
    intro u P A st s' hN hu hl
    obtain ⟨w1, w2, w3⟩ := mG_pos h3
    have hc : c / 2 < 10 := by omega
    rcases h4 with ⟨a1, a2⟩ | ⟨a1, X, a2, a3⟩ | ⟨a1, a2, d, r, X, Y, b1, b2, b3, b4, b5, b6, b7⟩
    · have hv : (if c / 2 = 0 then E (i + c % 2) else nvN E (j - c % 2 - (i + c % 2)) (i + c % 2) 0) < 10000 := by
        refine isNum_E hc w1 _ ?_
        rcases (show c / 2 = 0 ∨ c / 2 = 1 by omega) with e | e
        · exact Or.inl ⟨e, by rw [if_pos e]⟩
        · exact Or.inr (Or.inl ⟨e, by rw [if_neg (by omega)]⟩)
      rw [a2] at hl hu ⊢
      obtain ⟨sh, rfl⟩ := tkC_0 a1 hl
      rw [tkM_0 a1]
      refine ⟨?_, rfl, rfl, Nat.le_refl _⟩
      have := NR_st (k := nI (c / 2)) (v := nI (if c / 2 = 0 then E (i + c % 2) else nvN E (j - c % 2 - (i + c % 2)) (i + c % 2) 0)) (sh := sh) (by have h9 : u + 1 ≤ 120 := hu; omega) hN (Or.inl rfl) (Or.inl rfl)
      rw [cvI_m2, cvI_nI (by omega)] at this
      exact this
    · have hv : E (i + c % 2) < 10000 := isNum_E hc w1 _ (Or.inr (Or.inr ⟨a1, rfl⟩))
      have hlen : T.length = X.length + 1 := by rw [a2, List.length_append]; rfl
      rw [a2] at hl
      obtain ⟨m, l1, l2⟩ := lyC_split X _ _ _ hl
      obtain ⟨n1, n2, n3, n4⟩ := NR_ly f _ _ _ X a3 u P A st m hN (by omega) l1
      obtain ⟨P1, m2'⟩ := m
      rw [show m2' = (u + X.length, (u + X.length - 1) :: st) from n2] at l2
      obtain ⟨sh, rfl⟩ := tkC_1 a1 l2
      have eM : lyM X (A, u, st) = ((lyM X (A, u, st)).1, u + X.length, (u + X.length - 1) :: st) := Prod.ext rfl n3
      rw [a2, lyM_app, eM, tkM_1 a1, ← a2, hlen]
      refine ⟨?_, rfl, rfl, by omega⟩
      have := NR_st (k := nI (c / 2)) (v := if c / 2 = 9 then nI (E (i + c % 2)) else m2) (x := nI (u + X.length - 1)) (y := m2) (sh := sh) (by omega) n1 (Or.inr ⟨u + X.length - 1, by omega, rfl⟩) (Or.inl rfl)
      have ec : cvI (if c / 2 = 9 then nI (E (i + c % 2)) else m2) = if c / 2 = 9 then nI (E (i + c % 2)) else m1 := by
        split
        · exact cvI_nI (by omega)
        · exact cvI_m2
      rw [cvI_m2, cvI_nI (by omega), ec] at this
      exact this
    · have hlen : T.length = X.length + Y.length + 1 := by rw [b5, List.length_append, List.length_append]; rfl
      rw [b5] at hl
      obtain ⟨m, l1, l3⟩ := lyC_split (X ++ Y) _ _ _ hl
      obtain ⟨m0, l1, l2⟩ := lyC_split X Y _ _ l1
      obtain ⟨n1, n2, n3, n4⟩ := NR_ly f _ _ _ X b6 u P A st m0 hN (by omega) l1
      obtain ⟨P1, m2'⟩ := m0
      rw [show m2' = (u + X.length, (u + X.length - 1) :: st) from n2] at l2
      obtain ⟨k1, k2, k3, k4⟩ := NR_ly f _ _ _ Y b7 (u + X.length) P1 (lyM X (A, u, st)).1 ((u + X.length - 1) :: st) m n1 (by omega) l2
      obtain ⟨P2, m3'⟩ := m
      rw [show m3' = (u + X.length + Y.length, (u + X.length + Y.length - 1) :: (u + X.length - 1) :: st) from k2] at l3
      obtain ⟨sh, rfl⟩ := tkC_2 a1 a2 l3
      have eM : lyM X (A, u, st) = ((lyM X (A, u, st)).1, u + X.length, (u + X.length - 1) :: st) := Prod.ext rfl n3
      have eN : lyM Y (lyM X (A, u, st)) = ((lyM Y ((lyM X (A, u, st)).1, u + X.length, (u + X.length - 1) :: st)).1, u + X.length + Y.length, (u + X.length + Y.length - 1) :: (u + X.length - 1) :: st) := by
        rw [eM]
        exact Prod.ext rfl k3
      rw [b5, lyM_app, lyM_app, eN, tkM_2 a1 a2, ← b5, hlen, show u + (X.length + Y.length + 1) = u + X.length + Y.length + 1 by omega]
      refine ⟨?_, rfl, rfl, by omega⟩
      have := NR_st (k := nI (c / 2)) (v := m2) (x := nI (u + X.length - 1)) (y := nI (u + X.length + Y.length - 1)) (sh := sh) (by omega) k1 (Or.inr ⟨u + X.length - 1, by omega, rfl⟩) (Or.inr ⟨u + X.length + Y.length - 1, by omega, rfl⟩)
      rw [cvI_m2, cvI_nI (by omega), cvI_nI (by omega)] at this
      exact this
/-- READINGS hang on the counts of their spans alone -/
theorem pfS_cg {E : Nat → Nat} {L L' : Nat → Nat → Nat} {h k a b : Nat} (hb : b ≤ h) (e : ∀ a b, a < b → b ≤ h → L a b = L' a b) : ∀ c, a + 1 + c ≤ b - 1 → pfS E L k a b c = pfS E L' k a b c
  | 0, _ => rfl
  | c + 1, hc => by
    show pfS E L k a b c + _ = pfS E L' k a b c + _
    rw [pfS_cg hb e c (by omega), e a (a + 1 + c) (by omega) (by omega), e (a + 1 + c + 1) b (by omega) (by omega)]
theorem RT_cg {E : Nat → Nat} {G : Nat → Int32} {lt : Nat → Nat → Bool} {L L' : Nat → Nat → Nat} {h : Nat} (e : ∀ a b, a < b → b ≤ h → L a b = L' a b) : ∀ (f i j p : Nat) (T : List (Nat × Nat)), j ≤ h → RT E (mG E G lt L) L f i j p T → RT E (mG E G lt L') L' f i j p T
  | 0, _, _, _, _, _, h => h
  | f + 1, i, j, p, T, hj, ⟨c, q, h1, h2, h3, h4⟩ => by
    have em : ∀ d, mG E G lt L i j d = mG E G lt L' i j d := fun d => mG_cg (fun a b _ q2 q3 _ => e a b q2 (by omega))
    refine ⟨c, q, h1, ?_, by rw [← em]; exact h3, ?_⟩
    · rw [h2, sW_cg c (fun d _ => em d)]
    · rcases h4 with ⟨a1, a2⟩ | ⟨a1, X, a2, a3⟩ | ⟨a1, a2, d, r, X, Y, b1, b2, b3, b4, b5, b6, b7⟩
      · exact Or.inl ⟨a1, a2⟩
      · refine Or.inr (Or.inl ⟨a1, X, a2, RT_cg e f _ _ _ X ?_ a3⟩)
        unfold ptN
        split <;> omega
      · have e1 := e (i + c % 2) (i + c % 2 + 1 + d) (by omega) (by omega)
        have e2 := e (i + c % 2 + 1 + d + 1) (j - c % 2) (by omega) (by omega)
        refine Or.inr (Or.inr ⟨a1, a2, d, r, X, Y, b1, b2, ?_, by rw [← e1, ← e2]; exact b4, b5, ?_, ?_⟩)
        · rw [b3, pfS_cg (by omega) e d (by omega)]
        · rw [← e2]
          exact RT_cg e f _ _ _ X (by omega) b6
        · rw [← e2]
          exact RT_cg e f _ _ _ Y (by omega) b7
end
section
theorem kv_1 {A : Nat → Nat → Int32} {n k : Nat} (h0 : A 0 n = nI k) (hk : k < 10) : kvN A n = (k, (kvN A n).2) := Prod.ext (by show (A 0 n).toNatClampNeg = k; rw [h0, nI_clamp (by omega)]) rfl
theorem lyM_lf {A : Nat → Nat → Int32} {n k u z : Nat} {st : List Nat} (hn : n < 450) (h0 : A 0 n = nI k) (hk : k < 2) (hv : (k = 0 ∨ k = 9 → ∃ w : Nat, w ≤ 9 ∧ A 1 n = nI w) ∧ (k = 1 → ∃ w : Nat, w ≤ 9999 ∧ A 1 n = nI w) ∧ (2 ≤ k → k ≤ 8 → A 1 n = m2)) (h2 : A 2 n = m2) (h3 : A 3 n = m2) : lyM (tkW A (z + 1) (nI n)) (A, u, st) = (setsA A u (nI k) (A 1 n) m2 m2, u + 1, u :: st) := by
  obtain ⟨v, hv9, e⟩ : ∃ v : Nat, v ≤ 9999 ∧ A 1 n = nI v := by
    rcases (show k = 0 ∨ k = 1 by omega) with q | q
    · obtain ⟨w, h, e⟩ := hv.1 (Or.inl q)
      exact ⟨w, by omega, e⟩
    · exact hv.2.1 q
  rw [tkW_nI hn, h2, h3, tkW_m2, kv_lf h0 e (by omega) (by omega) (by omega) (by omega), e]
  exact tkM_0 hk
theorem lyM_un {A A1 : Nat → Nat → Int32} {n k u u1 z a : Nat} {st : List Nat} (hn : n < 450) (h0 : A 0 n = nI k) (k7 : 7 ≤ k) (hk : k < 10) (hv : (k = 0 ∨ k = 9 → ∃ w : Nat, w ≤ 9 ∧ A 1 n = nI w) ∧ (k = 1 → ∃ w : Nat, w ≤ 9999 ∧ A 1 n = nI w) ∧ (2 ≤ k → k ≤ 8 → A 1 n = m2)) (h2 : A 2 n = nI a) (h3 : A 3 n = m2) (y1 : lyM (tkW A z (nI a)) (A, u, st) = (A1, u1 + 1, u1 :: st)) : lyM (tkW A (z + 1) (nI n)) (A, u, st) = (setsA A1 (u1 + 1) (nI k) (A 1 n) (nI u1) m2, u1 + 1 + 1, (u1 + 1) :: st) := by
  have e : (if k = 9 then nI (kvN A n).2 else m2) = A 1 n := by
    by_cases h : k = 9
    · rw [if_pos h]
      obtain ⟨w, h9, e1⟩ := hv.1 (Or.inr h)
      rw [kv_lf h0 e1 hk (by omega) (by omega) (by omega), e1]
    · rw [if_neg h, hv.2.2 (by omega) (by omega)]
  rw [tkW_nI hn, h2, h3, tkW_m2, List.append_nil, lyM_app, y1, kv_1 h0 hk, tkM_1 k7, e]
theorem lyM_bi {A A1 A2 : Nat → Nat → Int32} {n k u u1 u2 z a b : Nat} {st : List Nat} (hn : n < 450) (h0 : A 0 n = nI k) (k2 : 2 ≤ k) (k6 : k ≤ 6) (hv : (k = 0 ∨ k = 9 → ∃ w : Nat, w ≤ 9 ∧ A 1 n = nI w) ∧ (k = 1 → ∃ w : Nat, w ≤ 9999 ∧ A 1 n = nI w) ∧ (2 ≤ k → k ≤ 8 → A 1 n = m2)) (h2 : A 2 n = nI a) (h3 : A 3 n = nI b) (y1 : lyM (tkW A z (nI a)) (A, u, st) = (A1, u1 + 1, u1 :: st)) (y2 : lyM (tkW A1 z (nI b)) (A1, u1 + 1, u1 :: st) = (A2, u2 + 1, u2 :: u1 :: st)) (e : tkW A1 z (nI b) = tkW A z (nI b)) : lyM (tkW A (z + 1) (nI n)) (A, u, st) = (setsA A2 (u2 + 1) (nI k) (A 1 n) (nI u1) (nI u2), u2 + 1 + 1, (u2 + 1) :: st) := by
  rw [tkW_nI hn, h2, h3, lyM_app, lyM_app, y1, ← e, y2, kv_1 h0 (by omega), tkM_2 k2 k6, hv.2.2 k2 (by omega)]
theorem tkW_len {lo hi : Nat} {A : Nat → Nat → Int32} (hh : hi ≤ 450) (hT : tbI lo hi A) : ∀ (z n : Nat), lo ≤ n → n < hi → szN A n ≤ z → (tkW A z (nI n)).length = szN A n
  | 0, n, hlo, hn, hz => by have := (rN_sz (hT n hlo hn)).1; omega
  | z + 1, n, hlo, hn, hz => by
    obtain ⟨k, h0, hk, hs, h40, hv⟩ := rN_val (hT n hlo hn)
    rw [tkW_nI (by omega)]
    rcases hs with ⟨k1, h2, h3, es⟩ | ⟨k1, k6, a, b, h2, la, ha, h3, lb, hb, es⟩ | ⟨k1, a, h2, la, ha, h3, es⟩
    · rw [h2, h3, tkW_m2, es]
      rfl
    · rw [h2, h3, List.length_append, List.length_append, tkW_len hh hT z a la (by omega) (by omega), tkW_len hh hT z b lb (by omega) (by omega), es]
      show szN A a + szN A b + 1 = _
      omega
    · rw [h2, h3, tkW_m2, List.append_nil, List.length_append, tkW_len hh hT z a la (by omega) (by omega), es]
      show szN A a + 1 = _
      omega
set_option maxHeartbeats 1000000 in
set_option maxRecDepth 20000 in
theorem mCopiesX (f : Nat → zC) (o : Nat → Int32) (J : Nat → Nat → Int64) {hi : Nat} (hh : hi ≤ 450) : ∀ (z : Nat) (A : Nat → Nat → Int32) (n : Nat), 400 ≤ n → n < hi → szN A n ≤ z → ∀ (u : Nat), tbI 0 u A → tbI 400 hi A → u + szN A n ≤ 120 → ∀ (st : List Nat), zK (z + 1) zX7_copies [.ref 76, .int (nI n)] (wR f (upd o 0 (nI u)) A J) (fun r w' => ∃ (u1 : Nat) (A' : Nat → Nat → Int32), r = some (.int (nI u1)) ∧ w' = (wR f (upd o 0 (nI (u1 + 1))) A' J) ∧ cpF u A A' u1 (szN A n) ∧ lyM (tkW A z (nI n)) (A, u, st) = (A', u1 + 1, u1 :: st)) := by
  intro z
  induction z with
  | zero =>
    intro A n hlo hn hz u _ hO
    have := (rN_sz (hO n hlo hn)).1
    omega
  | succ z ih1 =>
    intro A n hlo hn hz u hT hO hu st
    have ih := fun (n : Nat) (h1 : 400 ≤ n) (h2 : n < hi) (h3 : szN A n ≤ z) (u : Nat) (A' : Nat → Nat → Int32) (g1 : tbI 0 u A) (g2 : tbI 400 hi A) (g3 : u + szN A n ≤ 120) (st : List Nat) => ih1 A n h1 h2 h3 u g1 g2 g3 st
    obtain ⟨k, h0, hk, hs, h40, hv⟩ := rN_val (hO n hlo hn)
    refine zK_of qX7_copies (by decide +kernel) rfl ?_
    rcases hs with ⟨k1, h2, h3, es⟩ | ⟨k1, k6, a, b, h2, la, ha, h3, lb, hb, es⟩ | ⟨k1, a, h2, la, ha, h3, es⟩
    · iterate 3 (refine zv_step (bX7_copies (z + 1 + 1)) rfl rfl trivial ?_)
      refine zv_iale (bX7_copies (z + 1 + 1)) rfl rfl (vp_in_nI (by omega) (by decide)) (show A 2 (nI n).toNatClampNeg = m2 by rw [nI_clamp (by omega)]; exact h2) ?_
      iterate 1 (refine zv_step (bX7_copies (z + 1 + 1)) rfl rfl trivial ?_)
      refine zv_iff (by decide) ?_
      iterate 6 (refine zv_step (bX7_copies (z + 1 + 1)) rfl rfl trivial ?_)
      refine zv_iale (bX7_copies (z + 1 + 1)) rfl rfl (vp_in_nI (by omega) (by decide)) (show A 3 (nI n).toNatClampNeg = m2 by rw [nI_clamp (by omega)]; exact h3) ?_
      iterate 1 (refine zv_step (bX7_copies (z + 1 + 1)) rfl rfl trivial ?_)
      refine zv_iff (by decide) ?_
      iterate 9 (refine zv_step (bX7_copies (z + 1 + 1)) rfl rfl trivial ?_)
      refine zv_iale (bX7_copies (z + 1 + 1)) rfl rfl (vp_in_nI (by omega) (by decide)) (show A 0 (nI n).toNatClampNeg = nI k by rw [nI_clamp (by omega)]; exact h0) ?_
      iterate 3 (refine zv_step (bX7_copies (z + 1 + 1)) rfl rfl trivial ?_)
      refine zv_iale (bX7_copies (z + 1 + 1)) rfl rfl (vp_in_nI (by omega) (by decide)) (show A 1 (nI n).toNatClampNeg = A 1 n by rw [nI_clamp (by omega)]) ?_
      iterate 2 (refine zv_step (bX7_copies (z + 1 + 1)) rfl rfl trivial ?_)
      refine zv_V5 (bX7_copies (z + 1 + 1)) rfl rfl rfl rfl rfl rfl rfl ⟨rfl, rfl, rfl⟩ ⟨by show 0 + 1 ≤ z + 1 + 1; omega, by show 8 + (8 + 11) + 64 * (0) ≤ 64 * (z + 1 + 1); omega⟩ ⟨Nat.zero_le _, Nat.zero_le _⟩ (mSetsE f (upd o 0 (nI u)) A J (show upd o 0 (nI u) 0 = nI u from rfl) (by omega) vpm2 vpm2) ?_
      rintro _ _ ⟨rfl, rfl⟩
      iterate 10 (refine zv_step (bX7_copies (z + 1 + 1)) rfl rfl trivial ?_)
      exact zv_iret (bX7_copies (z + 1 + 1)) rfl (Or.inl rfl) (Nat.zero_le _) (Nat.zero_le _) ⟨u, _, by show some (Value.int (nI (u) + Int32.ofInt 1 - Int32.ofInt 1)) = _; rw [show nI (u) + Int32.ofInt 1 = nI (u + 1) from nI_1 _, show nI (u + 1) - Int32.ofInt 1 = nI (u) from nI_m1 _], by rw [show nI (u + 1) = nI (u) + Int32.ofInt 1 from (nI_1 _).symm]; rfl, by rw [es]; exact cpF_lf hT (by omega) k1 hv, lyM_lf (by omega) h0 k1 hv h2 h3⟩
    · iterate 3 (refine zv_step (bX7_copies (z + 1 + 1)) rfl rfl trivial ?_)
      refine zv_iale (bX7_copies (z + 1 + 1)) rfl rfl (vp_in_nI (by omega) (by decide)) (show A 2 (nI n).toNatClampNeg = nI a by rw [nI_clamp (by omega)]; exact h2) ?_
      iterate 1 (refine zv_step (bX7_copies (z + 1 + 1)) rfl rfl trivial ?_)
      refine zv_ift (nI_pos' (by omega)) ?_
      iterate 4 (refine zv_step (bX7_copies (z + 1 + 1)) rfl rfl trivial ?_)
      refine zv_iale (bX7_copies (z + 1 + 1)) rfl rfl (vp_in_nI (by omega) (by decide)) (show A 2 (nI n).toNatClampNeg = nI a by rw [nI_clamp (by omega)]; exact h2) ?_
      refine zv_V1 (bX7_copies (z + 1 + 1)) rfl rfl rfl rfl rfl rfl rfl ⟨rfl, rfl, rfl⟩ ⟨by show z + 1 + 1 ≤ z + 1 + 1; omega, by show 8 + (4 + 11) + 64 * (z + 1) ≤ 64 * (z + 1 + 1); omega⟩ ⟨Nat.zero_le _, Nat.zero_le _⟩ (ih a (by omega) (by omega) (by omega) u A hT hO (by omega) st) ?_
      rintro _ _ ⟨u1, A1, rfl, rfl, c1, y1⟩
      have n1 := c1.2.2.2.1
      have eb : szN A1 b = szN A b := by
        unfold szN
        rw [c1.2.2.1 4 b (Or.inr (by omega))]
      have ih2 := fun (n : Nat) (h1 : 400 ≤ n) (h2 : n < hi) (h3 : szN A1 n ≤ z) => ih1 A1 n h1 h2 h3
      iterate 4 (refine zv_step (bX7_copies (z + 1 + 1)) rfl rfl trivial ?_)
      refine zv_iale (bX7_copies (z + 1 + 1)) rfl rfl (vp_in_nI (by omega) (by decide)) (show A1 3 (nI n).toNatClampNeg = nI b by rw [nI_clamp (by omega)]; exact (c1.2.2.1 3 n (Or.inr (by omega))).trans h3) ?_
      iterate 1 (refine zv_step (bX7_copies (z + 1 + 1)) rfl rfl trivial ?_)
      refine zv_ift (nI_pos' (by omega)) ?_
      iterate 4 (refine zv_step (bX7_copies (z + 1 + 1)) rfl rfl trivial ?_)
      refine zv_iale (bX7_copies (z + 1 + 1)) rfl rfl (vp_in_nI (by omega) (by decide)) (show A1 3 (nI n).toNatClampNeg = nI b by rw [nI_clamp (by omega)]; exact (c1.2.2.1 3 n (Or.inr (by omega))).trans h3) ?_
      refine zv_V1 (bX7_copies (z + 1 + 1)) rfl rfl rfl rfl rfl rfl rfl ⟨rfl, rfl, rfl⟩ ⟨by show z + 1 + 1 ≤ z + 1 + 1; omega, by show 8 + (4 + 11) + 64 * (z + 1) ≤ 64 * (z + 1 + 1); omega⟩ ⟨Nat.zero_le _, Nat.zero_le _⟩ (ih2 b (by omega) (by omega) (by omega) (u1 + 1) c1.1 (tbI_fr hO (fun r _ i hi _ => c1.2.2.1 r i (Or.inr (by omega)))) (by rw [eb]; omega) (u1 :: st)) ?_
      rintro _ _ ⟨u2, A2, rfl, rfl, c2, y2⟩
      rw [eb] at c2
      have n2 := c2.2.2.2.1
      iterate 7 (refine zv_step (bX7_copies (z + 1 + 1)) rfl rfl trivial ?_)
      refine zv_iale (bX7_copies (z + 1 + 1)) rfl rfl (vp_in_nI (by omega) (by decide)) (show A2 0 (nI n).toNatClampNeg = nI k by rw [nI_clamp (by omega)]; exact ((c2.2.2.1 0 n (Or.inr (by omega))).trans (c1.2.2.1 0 n (Or.inr (by omega)))).trans h0) ?_
      iterate 3 (refine zv_step (bX7_copies (z + 1 + 1)) rfl rfl trivial ?_)
      refine zv_iale (bX7_copies (z + 1 + 1)) rfl rfl (vp_in_nI (by omega) (by decide)) (show A2 1 (nI n).toNatClampNeg = A 1 n by rw [nI_clamp (by omega)]; exact (c2.2.2.1 1 n (Or.inr (by omega))).trans (c1.2.2.1 1 n (Or.inr (by omega)))) ?_
      iterate 2 (refine zv_step (bX7_copies (z + 1 + 1)) rfl rfl trivial ?_)
      refine zv_V5 (bX7_copies (z + 1 + 1)) rfl rfl rfl rfl rfl rfl rfl ⟨rfl, rfl, rfl⟩ ⟨by show 0 + 1 ≤ z + 1 + 1; omega, by show 8 + (8 + 11) + 64 * (0) ≤ 64 * (z + 1 + 1); omega⟩ ⟨Nat.zero_le _, Nat.zero_le _⟩ (mSetsE f (upd o 0 (nI (u2 + 1))) A2 J (show upd o 0 (nI (u2 + 1)) 0 = nI (u2 + 1) from rfl) (by omega) (fun _ => vp_in_nI (by omega) (by decide)) (fun _ => vp_in_nI (by omega) (by decide))) ?_
      rintro _ _ ⟨rfl, rfl⟩
      iterate 10 (refine zv_step (bX7_copies (z + 1 + 1)) rfl rfl trivial ?_)
      exact zv_iret (bX7_copies (z + 1 + 1)) rfl (Or.inl rfl) (Nat.zero_le _) (Nat.zero_le _) ⟨u2 + 1, _, by show some (Value.int (nI (u2 + 1) + Int32.ofInt 1 - Int32.ofInt 1)) = _; rw [show nI (u2 + 1) + Int32.ofInt 1 = nI (u2 + 1 + 1) from nI_1 _, show nI (u2 + 1 + 1) - Int32.ofInt 1 = nI (u2 + 1) from nI_m1 _], by rw [show nI (u2 + 1 + 1) = nI (u2 + 1) + Int32.ofInt 1 from (nI_1 _).symm]; rfl, by rw [es]; exact cpF_bi c1 c2 (by omega) (by omega) (rN_sz (hO b (by omega) (by omega))).1 k1 k6 hv, lyM_bi (by omega) h0 k1 k6 hv h2 h3 y1 y2 (tkW_fr hh hO (fun r _ i hi _ => c1.2.2.1 r i (Or.inr (by omega))) z _ (Or.inr ⟨b, rfl, by omega, by omega, by omega⟩))⟩
    · iterate 3 (refine zv_step (bX7_copies (z + 1 + 1)) rfl rfl trivial ?_)
      refine zv_iale (bX7_copies (z + 1 + 1)) rfl rfl (vp_in_nI (by omega) (by decide)) (show A 2 (nI n).toNatClampNeg = nI a by rw [nI_clamp (by omega)]; exact h2) ?_
      iterate 1 (refine zv_step (bX7_copies (z + 1 + 1)) rfl rfl trivial ?_)
      refine zv_ift (nI_pos' (by omega)) ?_
      iterate 4 (refine zv_step (bX7_copies (z + 1 + 1)) rfl rfl trivial ?_)
      refine zv_iale (bX7_copies (z + 1 + 1)) rfl rfl (vp_in_nI (by omega) (by decide)) (show A 2 (nI n).toNatClampNeg = nI a by rw [nI_clamp (by omega)]; exact h2) ?_
      refine zv_V1 (bX7_copies (z + 1 + 1)) rfl rfl rfl rfl rfl rfl rfl ⟨rfl, rfl, rfl⟩ ⟨by show z + 1 + 1 ≤ z + 1 + 1; omega, by show 8 + (4 + 11) + 64 * (z + 1) ≤ 64 * (z + 1 + 1); omega⟩ ⟨Nat.zero_le _, Nat.zero_le _⟩ (ih a (by omega) (by omega) (by omega) u A hT hO (by omega) st) ?_
      rintro _ _ ⟨u1, A1, rfl, rfl, c1, y1⟩
      have n1 := c1.2.2.2.1
      iterate 4 (refine zv_step (bX7_copies (z + 1 + 1)) rfl rfl trivial ?_)
      refine zv_iale (bX7_copies (z + 1 + 1)) rfl rfl (vp_in_nI (by omega) (by decide)) (show A1 3 (nI n).toNatClampNeg = m2 by rw [nI_clamp (by omega)]; exact (c1.2.2.1 3 n (Or.inr (by omega))).trans h3) ?_
      iterate 1 (refine zv_step (bX7_copies (z + 1 + 1)) rfl rfl trivial ?_)
      refine zv_iff (by decide) ?_
      iterate 9 (refine zv_step (bX7_copies (z + 1 + 1)) rfl rfl trivial ?_)
      refine zv_iale (bX7_copies (z + 1 + 1)) rfl rfl (vp_in_nI (by omega) (by decide)) (show A1 0 (nI n).toNatClampNeg = nI k by rw [nI_clamp (by omega)]; exact (c1.2.2.1 0 n (Or.inr (by omega))).trans h0) ?_
      iterate 3 (refine zv_step (bX7_copies (z + 1 + 1)) rfl rfl trivial ?_)
      refine zv_iale (bX7_copies (z + 1 + 1)) rfl rfl (vp_in_nI (by omega) (by decide)) (show A1 1 (nI n).toNatClampNeg = A 1 n by rw [nI_clamp (by omega)]; exact c1.2.2.1 1 n (Or.inr (by omega))) ?_
      iterate 2 (refine zv_step (bX7_copies (z + 1 + 1)) rfl rfl trivial ?_)
      refine zv_V5 (bX7_copies (z + 1 + 1)) rfl rfl rfl rfl rfl rfl rfl ⟨rfl, rfl, rfl⟩ ⟨by show 0 + 1 ≤ z + 1 + 1; omega, by show 8 + (8 + 11) + 64 * (0) ≤ 64 * (z + 1 + 1); omega⟩ ⟨Nat.zero_le _, Nat.zero_le _⟩ (mSetsE f (upd o 0 (nI (u1 + 1))) A1 J (show upd o 0 (nI (u1 + 1)) 0 = nI (u1 + 1) from rfl) (by omega) (fun _ => vp_in_nI (by omega) (by decide)) vpm2) ?_
      rintro _ _ ⟨rfl, rfl⟩
      iterate 10 (refine zv_step (bX7_copies (z + 1 + 1)) rfl rfl trivial ?_)
      exact zv_iret (bX7_copies (z + 1 + 1)) rfl (Or.inl rfl) (Nat.zero_le _) (Nat.zero_le _) ⟨u1 + 1, _, by show some (Value.int (nI (u1 + 1) + Int32.ofInt 1 - Int32.ofInt 1)) = _; rw [show nI (u1 + 1) + Int32.ofInt 1 = nI (u1 + 1 + 1) from nI_1 _, show nI (u1 + 1 + 1) - Int32.ofInt 1 = nI (u1 + 1) from nI_m1 _], by rw [show nI (u1 + 1 + 1) = nI (u1 + 1) + Int32.ofInt 1 from (nI_1 _).symm]; rfl, by rw [es]; exact cpF_un c1 (by omega) (by omega) k1 hk hv, lyM_un (by omega) h0 k1 hk hv h2 h3 y1⟩
/-- what write answers of the reference, and what it leaves -/
def wrM (o : Nat → Int32) (A : Nat → Nat → Int32) (u h : Nat) (x : Int32) (z : Int64) (o' : Nat → Int32) (A' : Nat → Nat → Int32) (R : Int32) : Prop :=
  (R = Int32.ofInt (-1) ∧ ¬ ((0 ≤ x.toInt ∧ x.toInt ≤ 8) ∧ 0 ≤ z.toInt) ∧ o' 0 = nI u) ∨
  ∃ (s : Nat) (J1 : Nat → Nat → Int64), s ≤ 8 ∧ x = nI s ∧ 0 ≤ z.toInt ∧ okJ h A s J1 ∧ ((R = c8 (-4) ∧ ¬ z < lN (ctW h J1) ∧ o' 0 = nI u) ∨
    ∃ (p : Nat) (T : List (Nat × Nat)), z = lN p ∧ p < ctW h J1 ∧ RT (eW A) (mW A s (lW J1)) (lW J1) 20 0 h p T ∧ ((R = c8 (-2) ∧ 120 < u + T.length ∧ o' 0 = nI u) ∨
      (R = nI (u + T.length - 1) ∧ u + T.length ≤ 120 ∧ o' 0 = nI (u + T.length) ∧ ∃ A1 : Nat → Nat → Int32, (∀ r i, i < 400 → A1 r i = A r i) ∧ A' = (lyM T (A1, u, [])).1)))
set_option maxHeartbeats 1000000 in
set_option maxRecDepth 20000 in
theorem mWriteX (f : Nat → zC) (o : Nat → Int32) (A : Nat → Nat → Int32) (J : Nat → Nat → Int64) {u : Nat} (hu : u ≤ 120) (ho : o 0 = nI u) (hT : tbI 0 u A) {h : Nat} (hh : h ≤ 20) (hw : nnW h (A 8)) (ho10 : o 10 = nI h) (x : Int32) (z : Int64) : zK 50 zX7_write [.ref 76, .int x, .long z] (wR f o A J) (fun r w' => ∃ (o' : Nat → Int32) (A' : Nat → Nat → Int32) (J' : Nat → Nat → Int64) (R : Int32), r = some (.int R) ∧ w' = wR f o' A' J' ∧ ndY o u A o' A' ∧ wrM o A u h x z o' A' R) := by
  refine zK_of qX7_write (by decide +kernel) rfl ?_
  iterate 4 (refine zv_step (bX7_write 50) rfl rfl trivial ?_)
  refine zv_S3 (bX7_write 50) rfl rfl rfl rfl ⟨rfl, rfl, rfl⟩ ⟨by decide, by decide⟩ ⟨Nat.zero_le _, Nat.zero_le _⟩ (mIn _ _ _ _ (a := 0) (b := 8) (by decide) (by decide)) ?_
  rintro _ _ ⟨rfl, ⟨g1, rfl⟩ | ⟨g1, rfl⟩⟩
  · try rw [Int32.toInt_toInt64] at g1
    obtain ⟨s, hs, rfl⟩ := in_nat (x := x) (b := 8) (by decide) g1
    iterate 1 (refine zv_step (bX7_write 50) rfl rfl trivial ?_)
    refine zv_iff (by decide) ?_
    iterate 4 (refine zv_step (bX7_write 50) rfl rfl trivial ?_)
    refine zv_ifb (fun h15 => ?_) (fun h15 => ?_)
    · have z0 : 0 ≤ z.toInt := by
        rw [lg_cmp_ge, Int64.le_iff_toInt_le] at h15
        exact h15
      iterate 3 (refine zv_step (bX7_write 50) rfl rfl trivial ?_)
      refine zv_V1 (bX7_write 50) rfl rfl rfl rfl rfl rfl rfl ⟨rfl, rfl, rfl⟩ ⟨by decide, by decide⟩ ⟨Nat.zero_le _, Nat.zero_le _⟩ (mCounted f o A J hh hw ho10 hs rfl) ?_
      rintro _ _ ⟨J1, rfl, rfl, hJ⟩
      iterate 2 (refine zv_step (bX7_write 50) rfl rfl trivial ?_)
      refine zv_ifb (fun h27 => ?_) (fun h27 => ?_)
      · obtain ⟨p, hp, rfl⟩ := l_nat z0 (ctW_le hJ) ((lg_cmp_lt _ _).mp h27)
        have hpc := hp
        obtain ⟨h0, hp⟩ := ctW_lt hp
        iterate 3 (refine zv_step (bX7_write 50) rfl rfl trivial ?_)
        refine zv_world (show _ = wR f (upd (upd o 28 (nI s)) 29 (nI 0)) A J1 from rfl) ?_
        iterate 5 (refine zv_step (bX7_write 50) rfl rfl trivial ?_)
        refine zv_V3 (bX7_write 50) rfl rfl rfl rfl rfl rfl rfl ⟨rfl, rfl, rfl⟩ ⟨by decide, by decide⟩ ⟨Nat.zero_le _, Nat.zero_le _⟩ (mTakesX f (upd o 28 (nI s)) A J1 hh hw hJ 20 0 h p _ _ _ rfl ho10 rfl h0 (Nat.le_refl _) (by omega) hp 0 A (fun _ _ => rfl) (fun n h1 h2 => absurd h2 (by omega)) (by omega)) ?_
        rintro _ _ ⟨q1, A1, rfl, rfl, k1, r1⟩
        have l1 := k1.2.2.2.2.1
        have es := k1.2.2.2.2.2
        have hT1 : tbI 0 u A1 := tbI_fr hT (fun r _ i _ hi => k1.2.2.1 r i (by omega))
        have hlen := tkW_len (by omega) k1.2.1 20 (400 + q1) (by omega) (by omega) (by omega)
        iterate 8 (refine zv_step (bX7_write 50) rfl rfl trivial ?_)
        refine zv_ifb (fun h61 => ?_) (fun h61 => ?_)
        · have hfit : u + (q1 + 1) ≤ 120 := by
            have h9 : o 0 + nI (q1 + 1) ≤ nI 120 := h61
            rwa [ho, nI_add, nI_leI (by omega) (by decide)] at h9
          refine zv_world (show _ = wR f (upd (upd (upd o 28 (nI s)) 29 (nI (q1 + 1))) 0 (nI u)) A1 J1 from by rw [← ho]; rfl) ?_
          iterate 2 (refine zv_step (bX7_write 50) rfl rfl trivial ?_)
          refine zv_V1 (bX7_write 50) rfl rfl rfl rfl rfl rfl rfl ⟨rfl, rfl, rfl⟩ ⟨by decide, by decide⟩ ⟨Nat.zero_le _, Nat.zero_le _⟩ (mCopiesX f (upd (upd o 28 (nI s)) 29 (nI (q1 + 1))) J1 (hi := 400 + (q1 + 1)) (by omega) 20 A1 (400 + q1) (by omega) (by omega) (by omega) u hT1 k1.2.1 (by omega) []) ?_
          rintro _ _ ⟨u1, A2, rfl, rfl, c1, y1⟩
          have n1 := c1.2.2.2.1
          exact zv_iret (bX7_write 50) rfl (Or.inl rfl) (Nat.zero_le _) (Nat.zero_le _) ⟨_, A2, J1, _, rfl, rfl, ⟨⟨u1 + 1, by omega, by omega, upd_self _ _ _, c1.1⟩, fun j a b c => by rw [upd_ne _ _ a, upd_ne _ _ c, upd_ne _ _ b], fun r hr => (c1.2.1 r hr).trans (k1.1 r hr), fun r i hi => (c1.2.2.1 r i (Or.inl hi)).trans (k1.2.2.1 r i (by omega))⟩, Or.inr ⟨s, J1, by omega, rfl, z0, hJ, Or.inr ⟨p, _, rfl, hpc, r1, Or.inr ⟨by rw [show u1 = u + (tkW A1 20 (nI (400 + q1))).length - 1 by omega], by omega, by rw [show u + (tkW A1 20 (nI (400 + q1))).length = u1 + 1 by omega]; exact upd_self _ _ _, A1, fun r i hi => k1.2.2.1 r i (by omega), by rw [y1]⟩⟩⟩⟩
        · have hfit : ¬ u + (q1 + 1) ≤ 120 := fun q => h61 (by show o 0 + nI (q1 + 1) ≤ nI 120; rw [ho, nI_add, nI_leI (by omega) (by decide)]; exact q)
          iterate 1 (refine zv_step (bX7_write 50) rfl rfl trivial ?_)
          exact zv_iret (bX7_write 50) rfl (Or.inl rfl) (Nat.zero_le _) (Nat.zero_le _) ⟨upd (upd o 28 (nI s)) 29 (nI (q1 + 1)), A1, J1, _, rfl, rfl, ⟨⟨u, Nat.le_refl _, hu, ho, hT1⟩, fun j a b c => by rw [upd_ne _ _ c, upd_ne _ _ b], k1.1, fun r i hi => k1.2.2.1 r i (by omega)⟩, Or.inr ⟨s, J1, by omega, rfl, z0, hJ, Or.inr ⟨p, _, rfl, hpc, r1, Or.inl ⟨rfl, by omega, ho⟩⟩⟩⟩
      · have q27 : ¬ z < lN (ctW h J1) := fun q => h27 ((lg_cmp_lt _ _).mpr q)
        iterate 1 (refine zv_step (bX7_write 50) rfl rfl trivial ?_)
        exact zv_iret (bX7_write 50) rfl (Or.inl rfl) (Nat.zero_le _) (Nat.zero_le _) ⟨(upd o 28 (nI s)), A, J1, _, rfl, rfl, ⟨⟨u, Nat.le_refl _, hu, ho, hT⟩, fun j a b c => by rw [upd_ne _ _ b], fun _ _ => rfl, fun _ _ _ => rfl⟩, Or.inr ⟨s, J1, by omega, rfl, z0, hJ, Or.inl ⟨rfl, q27, ho⟩⟩⟩
    · have z0 : ¬ 0 ≤ z.toInt := fun q => h15 (by rw [lg_cmp_ge, Int64.le_iff_toInt_le]; exact q)
      iterate 1 (refine zv_step (bX7_write 50) rfl rfl trivial ?_)
      exact zv_iret (bX7_write 50) rfl (Or.inl rfl) (Nat.zero_le _) (Nat.zero_le _) ⟨o, A, J, _, rfl, rfl, ⟨⟨u, Nat.le_refl _, hu, ho, hT⟩, fun _ _ _ _ => rfl, fun _ _ => rfl, fun _ _ _ => rfl⟩, Or.inl ⟨rfl, fun q => z0 q.2, ho⟩⟩
  · try rw [Int32.toInt_toInt64] at g1
    iterate 1 (refine zv_step (bX7_write 50) rfl rfl trivial ?_)
    refine zv_ift (by decide) ?_
    iterate 1 (refine zv_step (bX7_write 50) rfl rfl trivial ?_)
    exact zv_iret (bX7_write 50) rfl (Or.inl rfl) (Nat.zero_le _) (Nat.zero_le _) ⟨o, A, J, _, rfl, rfl, ⟨⟨u, Nat.le_refl _, hu, ho, hT⟩, fun _ _ _ _ => rfl, fun _ _ => rfl, fun _ _ _ => rfl⟩, Or.inl ⟨rfl, fun q => g1 q.1, ho⟩⟩
/-- a style's KINDS, as the class holds them -/
def syR (P : Nat → Nat → Int32) (s : Nat) (lt : Nat → Nat → Bool) : Prop := if s = 8 then (∀ k, k < 10 → lt k 0 = true ∧ lt k 1 = mayN k) else (∃ m, m < 1024 ∧ P 75 s = nI m ∧ ∀ k, k < 10 → lt k 1 = m.testBit k ∧ lt k 0 = !m.testBit k)
set_option maxRecDepth 100000 in
theorem not_m : ∀ m, m < 1024 → (Int16.ofInt 1023).toInt32 &&& (nI m ^^^ Int32.ofInt (-1)) = nI (1023 ^^^ m) := by decide +kernel
theorem may_k : ∀ k, k < 10 → Nat.testBit 764 k = mayN k := by decide +kernel
theorem sy_8 {P : Nat → Nat → Int32} {lt : Nat → Nat → Bool} (h : syR P 8 lt) : btR (Int16.ofInt 1023).toInt32 (fun k => lt k 0) ∧ btR (Int16.ofInt 764).toInt32 (fun k => lt k 1) := by
  unfold syR at h
  rw [if_pos rfl] at h
  exact ⟨⟨1023, by decide, by decide +kernel, fun k hk => by show _ = lt k 0; rw [(h k hk).1]; exact t1023 k hk⟩, ⟨764, by decide, by decide +kernel, fun k hk => by show _ = lt k 1; rw [(h k hk).2]; exact may_k k hk⟩⟩
theorem sy_n {P : Nat → Nat → Int32} {s : Nat} {lt : Nat → Nat → Bool} (h : syR P s lt) (hs : ¬ s = 8) : btR ((Int16.ofInt 1023).toInt32 &&& (P 75 s ^^^ Int32.ofInt (-1))) (fun k => lt k 0) ∧ btR (P 75 s) (fun k => lt k 1) := by
  unfold syR at h
  rw [if_neg hs] at h
  obtain ⟨m, hm, e, hb⟩ := h
  refine ⟨⟨1023 ^^^ m, Nat.xor_lt_two_pow (n := 10) (by decide) hm, by rw [e]; exact not_m m hm, fun k hk => ?_⟩, ⟨m, hm, e, fun k hk => (hb k hk).1.symm⟩⟩
  show _ = lt k 0
  rw [Nat.testBit_xor, t1023 k hk, (hb k hk).2]
  exact Bool.true_xor _
theorem min_cap {x : Nat} (h : x ≤ cap) : (if Int64.ofInt 1000000000000000 < lN x then Int64.ofInt 1000000000000000 else lN x) = lN x := if_neg (by rw [cap_e, lN_ltJ (by decide) (by unfold cap at h; omega)]; omega)
theorem ctY_le {Y0 : Nat → Nat → Int64} {n : Nat} (hn : n ≤ 20) {E : Nat → Nat} {G : Nat → Int32} {lt : Nat → Nat → Bool} {Y : Nat → Nat → Int64} (h : okZ Y0 n E G lt Y (n + 1) 0) : ctY n Y ≤ cap := by
  unfold ctY
  split
  · exact Nat.zero_le _
  · exact Nat.le_trans (h.1 0 n (by omega) (Nat.le_refl _) (by omega)).2.2 (pow5_cap1 (by omega))
set_option maxHeartbeats 1000000 in
set_option maxRecDepth 20000 in
theorem cTallyInX (O : Nat → Int32) (P : Nat → Nat → Int32) (Y : Nat → Nat → Int64) (g : Nat → zC) {n : Nat} {E : Nat → Nat} (hE : eaR n P E) (hO : O 9 = nI n) (hn : n ≤ 20) {G : Nat → Int32} (hG : gfR (O 0) G) {lt : Nat → Nat → Bool} {s : Nat} (hs : s ≤ 8) (hy : syR P s lt) : zK 5 zX6_tallyIn [.ref 0, .int (nI s)] (wX O P Y g) (fun r w' => ∃ (a b : Int32) (Y' : Nat → Nat → Int64), r = some (.long (lN (ctY n Y'))) ∧ w' = wX (upd (upd (upd O 10 a) 11 b) 12 (O 0)) P Y' g ∧ okZ Y n E G lt Y' (n + 1) 0 ∧ btR a (fun k => lt k 0) ∧ btR b (fun k => lt k 1)) := by
  refine zK_of qX6_tallyIn (by decide +kernel) rfl ?_
  iterate 3 (refine zv_step (bX6_tallyIn 5) rfl rfl trivial ?_)
  refine zv_ifb (fun h3 => ?_) (fun h3 => ?_)
  · have q3 : ¬ s = 8 := fun e => h3 (by rw [e]; rfl)
    iterate 3 (refine zv_step (bX6_tallyIn 5) rfl rfl trivial ?_)
    refine zv_iale (bX6_tallyIn 5) rfl rfl (vp_in_nI (by omega) (by decide)) (show P 75 (nI s).toNatClampNeg = P 75 s by rw [nI_clamp (by omega)]) ?_
    iterate 4 (refine zv_step (bX6_tallyIn 5) rfl rfl trivial ?_)
    refine zv_ift (h3) ?_
    iterate 12 (refine zv_step (bX6_tallyIn 5) rfl rfl trivial ?_)
    refine zv_V3 (bX6_tallyIn 5) rfl rfl rfl rfl rfl rfl rfl ⟨rfl, rfl, rfl⟩ ⟨by decide, by decide⟩ ⟨Nat.zero_le _, Nat.zero_le _⟩ (hTallyX O P Y g hE hO hn hG (btR_kd (btR_1 (sy_n hy q3).1)) (btR_kd (btR_1 (sy_n hy q3).2))) ?_
    rintro _ _ ⟨Y1, rfl, rfl, hZ⟩
    iterate 1 (refine zv_step (bX6_tallyIn 5) rfl rfl trivial ?_)
    refine zv_minJ (bX6_tallyIn 5) rfl zMinL rfl ⟨by decide, by decide⟩ ⟨Nat.zero_le _, Nat.zero_le _⟩ ?_
    exact zv_lret (bX6_tallyIn 5) rfl rfl (Nat.zero_le _) (Nat.zero_le _) ⟨_, _, Y1, congrArg (fun v => some (Value.long v)) (min_cap (ctY_le hn hZ)), rfl, hZ, sy_n hy q3⟩
  · have q3 : s = 8 := (nI_eq (b := 8) (by omega) (by decide)).mp (Decidable.not_not.mp h3)
    have hy8 : syR P 8 lt := by rw [← q3]; exact hy
    iterate 6 (refine zv_step (bX6_tallyIn 5) rfl rfl trivial ?_)
    refine zv_iff (h3) ?_
    iterate 9 (refine zv_step (bX6_tallyIn 5) rfl rfl trivial ?_)
    refine zv_V3 (bX6_tallyIn 5) rfl rfl rfl rfl rfl rfl rfl ⟨rfl, rfl, rfl⟩ ⟨by decide, by decide⟩ ⟨Nat.zero_le _, Nat.zero_le _⟩ (hTallyX O P Y g hE hO hn hG (btR_kd (btR_1 (sy_8 hy8).1)) (btR_kd (btR_1 (sy_8 hy8).2))) ?_
    rintro _ _ ⟨Y1, rfl, rfl, hZ⟩
    iterate 1 (refine zv_step (bX6_tallyIn 5) rfl rfl trivial ?_)
    refine zv_minJ (bX6_tallyIn 5) rfl zMinL rfl ⟨by decide, by decide⟩ ⟨Nat.zero_le _, Nat.zero_le _⟩ ?_
    exact zv_lret (bX6_tallyIn 5) rfl rfl (Nat.zero_le _) (Nat.zero_le _) ⟨_, _, Y1, congrArg (fun v => some (Value.long v)) (min_cap (ctY_le hn hZ)), rfl, hZ, sy_8 hy8⟩
/-- what write answers of the class, and what it leaves -/
def wrC (O : Nat → Int32) (P : Nat → Nat → Int32) (Y : Nat → Nat → Int64) (E : Nat → Nat) (G : Nat → Int32) (lt : Nat → Nat → Nat → Bool) (u n : Nat) (x : Int32) (z : Int64) (O' : Nat → Int32) (P' : Nat → Nat → Int32) (R : Int32) : Prop :=
  (R = Int32.ofInt (-1) ∧ ¬ ((0 ≤ x.toInt ∧ x.toInt ≤ 8) ∧ 0 ≤ z.toInt) ∧ O' 1 = nI u ∧ P' = P) ∨
  ∃ (s : Nat) (Y1 : Nat → Nat → Int64), s ≤ 8 ∧ x = nI s ∧ 0 ≤ z.toInt ∧ okZ Y n E G (lt s) Y1 (n + 1) 0 ∧ ((R = c8 (-4) ∧ ¬ z < lN (ctY n Y1) ∧ O' 1 = nI u ∧ P' = P) ∨
    ∃ (p : Nat) (T : List (Nat × Nat)), z = lN p ∧ p < ctY n Y1 ∧ RT E (mG E G (lt s) (lY Y1)) (lY Y1) 20 0 n p T ∧ ((R = c8 (-2) ∧ 120 < u + T.length ∧ O' 1 = nI u ∧ ∀ i, ¬ (14 < i ∧ i ≤ 26) → P' i = P i) ∨
      (R = nI (u + T.length - 1) ∧ u + T.length ≤ 120 ∧ O' 1 = nI (u + T.length) ∧ (∀ i, ¬ (1 < i ∧ i ≤ 26) → P' i = P i) ∧ ∃ P1 : Nat → Nat → Int32, (∀ i, ¬ (14 < i ∧ i ≤ 26) → P1 i = P i) ∧ lyC 1 T (P1, u, []) (P', u + T.length, [u + T.length - 1]))))
set_option maxHeartbeats 1000000 in
set_option maxRecDepth 20000 in
theorem cWriteX (O : Nat → Int32) (P : Nat → Nat → Int32) (Y : Nat → Nat → Int64) (g : Nat → zC) {u : Nat} (hu : u ≤ 120) (hO1 : O 1 = nI u) {n : Nat} {E : Nat → Nat} (hE : eaR n P E) (hO : O 9 = nI n) (hn : n ≤ 20) {G : Nat → Int32} (hG : gfR (O 0) G) {lt : Nat → Nat → Nat → Bool} (hy : ∀ s, s ≤ 8 → syR P s (lt s)) (x : Int32) (z : Int64) : zK 66 zX6_write [.ref 0, .int x, .long z] (wX O P Y g) (fun r w' => ∃ (O' : Nat → Int32) (P' : Nat → Nat → Int32) (Y' : Nat → Nat → Int64) (R : Int32), r = some (.int R) ∧ w' = wX O' P' Y' g ∧ (wyI Y → wyI Y') ∧ (∀ j, j ≠ 1 → j ≠ 2 → j ≠ 10 → j ≠ 11 → j ≠ 12 → O' j = O j) ∧ wrC O P Y E G lt u n x z O' P' R) := by
  refine zK_of qX6_write (by decide +kernel) rfl ?_
  iterate 1 (refine zv_step (bX6_write 66) rfl rfl trivial ?_)
  refine zv_S1 (bX6_write 66) rfl rfl rfl rfl ⟨rfl, rfl, rfl⟩ ⟨by decide, by decide⟩ ⟨Nat.zero_le _, Nat.zero_le _⟩ (hX6_isStyleOrFree _ _) ?_
  rintro _ _ ⟨rfl, ⟨hx, rfl⟩ | ⟨hx, rfl⟩⟩
  · obtain ⟨s, hs, rfl⟩ := in_nat (x := x) (b := 8) (by decide) hx
    iterate 1 (refine zv_step (bX6_write 66) rfl rfl trivial ?_)
    refine zv_iff (by decide) ?_
    iterate 4 (refine zv_step (bX6_write 66) rfl rfl trivial ?_)
    refine zv_ifb (fun h10 => ?_) (fun h10 => ?_)
    · have z0 : 0 ≤ z.toInt := by
        rw [lg_cmp_ge, Int64.le_iff_toInt_le] at h10
        exact h10
      iterate 3 (refine zv_step (bX6_write 66) rfl rfl trivial ?_)
      refine zv_V1 (bX6_write 66) rfl rfl rfl rfl rfl rfl rfl ⟨rfl, rfl, rfl⟩ ⟨by decide, by decide⟩ ⟨Nat.zero_le _, Nat.zero_le _⟩ (cTallyInX O P Y g hE hO hn hG (s := s) (by omega) (hy s (by omega))) ?_
      rintro _ _ ⟨a, b, Y1, rfl, rfl, hZ, ha, hb⟩
      iterate 2 (refine zv_step (bX6_write 66) rfl rfl trivial ?_)
      refine zv_ifb (fun h22 => ?_) (fun h22 => ?_)
      · obtain ⟨p, hp, rfl⟩ := l_nat z0 (ctY_le hn hZ) ((lg_cmp_lt _ _).mp h22)
        have h0 : 0 < n ∧ p < lY Y1 0 n := by
          unfold ctY at hp
          split at hp
          · omega
          · exact ⟨by omega, hp⟩
        obtain ⟨T, hT, hT20⟩ := RT_ex hn (fun i j h1 h2 => (hZ.1 i j h1 h2 (by omega)).2.1) 20 0 n p h0.1 (Nat.le_refl _) (by omega) h0.2
        iterate 4 (refine zv_step (bX6_write 66) rfl rfl trivial ?_)
        refine zv_world (show _ = wX (upd (upd (upd (upd O 10 a) 11 b) 12 (O 0)) 2 (nI 0)) P Y1 g from rfl) ?_
        iterate 5 (refine zv_step (bX6_write 66) rfl rfl trivial ?_)
        refine zv_V2 (bX6_write 66) rfl rfl rfl rfl rfl rfl rfl ⟨rfl, rfl, rfl⟩ ⟨by decide, by decide⟩ ⟨Nat.zero_le _, Nat.zero_le _⟩ (hBuildX14 hE hn (O := (upd (upd (upd O 10 a) 11 b) 12 (O 0))) (Y := Y1) (g := g) hG ha hb (fun c d h1 h2 => (hZ.1 c d h1 h2 (by omega)).1) (fun c d h1 h2 => (hZ.1 c d h1 h2 (by omega)).2.2) hO h0.1 hT (u := 0) (P := P) (st := []) rfl (by omega)) ?_
        rintro _ _ ⟨P1, rfl, rfl, ly1, fr1, ln1⟩
        iterate 10 (refine zv_step (bX6_write 66) rfl rfl trivial ?_)
        refine zv_ifb (fun h66 => ?_) (fun h66 => ?_)
        · have hfit : u + T.length ≤ 120 := by
            have h9 : O 1 + nI (0 + T.length) ≤ nI 120 := h66
            rwa [hO1, nI_add, nI_leI (by omega) (by decide), Nat.zero_add] at h9
          refine zv_world (show wX (upd (upd (upd (upd O 10 a) 11 b) 12 (O 0)) 2 (nI (0 + T.length))) P1 Y1 g = wX (upd (upd (upd (upd (upd O 10 a) 11 b) 12 (O 0)) 2 (nI (0 + T.length))) 1 (nI u)) P1 Y1 g by rw [upd_same (show (upd (upd (upd (upd O 10 a) 11 b) 12 (O 0)) 2 (nI (0 + T.length))) 1 = nI u from hO1)]) ?_
          iterate 5 (refine zv_step (bX6_write 66) rfl rfl trivial ?_)
          refine zv_V2 (bX6_write 66) rfl rfl rfl rfl rfl rfl rfl ⟨rfl, rfl, rfl⟩ ⟨by decide, by decide⟩ ⟨Nat.zero_le _, Nat.zero_le _⟩ (hBuildX1 hE hn (O := (upd (upd (upd (upd O 10 a) 11 b) 12 (O 0)) 2 (nI (0 + T.length)))) (Y := Y1) (g := g) hG ha hb (fun c d h1 h2 => (hZ.1 c d h1 h2 (by omega)).1) (fun c d h1 h2 => (hZ.1 c d h1 h2 (by omega)).2.2) hO h0.1 hT (u := u) (P := P1) (st := []) (fr1 32 (by omega)) hfit) ?_
          rintro _ _ ⟨P2, rfl, rfl, ly2, fr2, ln2⟩
          exact zv_iret (bX6_write 66) rfl (Or.inl rfl) (Nat.zero_le _) (Nat.zero_le _) ⟨_, P2, Y1, _, rfl, rfl, hZ.2, fun j b1 b2 b3 b4 b5 => (upd_ne _ _ b1).trans ((upd_ne _ _ b2).trans (upd_3 O a b (O 0) b3 b4 b5)), Or.inr ⟨s, Y1, by omega, rfl, z0, hZ, Or.inr ⟨p, T, rfl, hp, hT, Or.inr ⟨rfl, hfit, rfl, fun i hi => (fr2 i (by omega)).trans (fr1 i (by omega)), P1, fr1, ly2⟩⟩⟩⟩
        · have hfit : ¬ u + T.length ≤ 120 := fun q => h66 (by show O 1 + nI (0 + T.length) ≤ nI 120; rw [hO1, nI_add, nI_leI (by omega) (by decide), Nat.zero_add]; exact q)
          iterate 1 (refine zv_step (bX6_write 66) rfl rfl trivial ?_)
          exact zv_iret (bX6_write 66) rfl (Or.inl rfl) (Nat.zero_le _) (Nat.zero_le _) ⟨_, P1, Y1, _, rfl, rfl, hZ.2, fun j b1 b2 b3 b4 b5 => (upd_ne _ _ b2).trans (upd_3 O a b (O 0) b3 b4 b5), Or.inr ⟨s, Y1, by omega, rfl, z0, hZ, Or.inr ⟨p, T, rfl, hp, hT, Or.inl ⟨rfl, by omega, hO1, fr1⟩⟩⟩⟩
      · have q22 : ¬ z < lN (ctY n Y1) := fun q => h22 ((lg_cmp_lt _ _).mpr q)
        iterate 1 (refine zv_step (bX6_write 66) rfl rfl trivial ?_)
        exact zv_iret (bX6_write 66) rfl (Or.inl rfl) (Nat.zero_le _) (Nat.zero_le _) ⟨_, P, Y1, _, rfl, rfl, hZ.2, fun j b1 b2 b3 b4 b5 => upd_3 O a b (O 0) b3 b4 b5, Or.inr ⟨s, Y1, by omega, rfl, z0, hZ, Or.inl ⟨rfl, q22, hO1, rfl⟩⟩⟩
    · have z0 : ¬ 0 ≤ z.toInt := fun q => h10 (by rw [lg_cmp_ge, Int64.le_iff_toInt_le]; exact q)
      iterate 1 (refine zv_step (bX6_write 66) rfl rfl trivial ?_)
      exact zv_iret (bX6_write 66) rfl (Or.inl rfl) (Nat.zero_le _) (Nat.zero_le _) ⟨O, P, Y, _, rfl, rfl, id, fun _ _ _ _ _ _ => rfl, Or.inl ⟨rfl, fun q => z0 q.2, hO1, rfl⟩⟩
  · skip
    iterate 1 (refine zv_step (bX6_write 66) rfl rfl trivial ?_)
    refine zv_ift (by decide) ?_
    iterate 1 (refine zv_step (bX6_write 66) rfl rfl trivial ?_)
    exact zv_iret (bX6_write 66) rfl (Or.inl rfl) (Nat.zero_le _) (Nat.zero_le _) ⟨O, P, Y, _, rfl, rfl, id, fun _ _ _ _ _ _ => rfl, Or.inl ⟨rfl, fun q => hx q.1, hO1, rfl⟩⟩
end
