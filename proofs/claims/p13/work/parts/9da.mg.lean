section
theorem nI_and (a b : Nat) : nI a &&& nI b = nI (a &&& b) := by
  apply Int32.toBitVec_inj.mp
  rw [Int32.toBitVec_and]
  show BitVec.ofNat 32 a &&& BitVec.ofNat 32 b = BitVec.ofNat 32 (a &&& b)
  exact (BitVec.ofNat_and ..).symm
theorem shl_k : ∀ k, k < 10 → Int32.ofInt 1 <<< (nI k &&& 31) = nI (2 ^ k) := by decide +kernel
/-- a set of KINDS as bits -/
def btR (x : Int32) (K : Nat → Bool) : Prop := ∃ m, m < 1024 ∧ x = nI m ∧ ∀ k, k < 10 → m.testBit k = K k
theorem btR_kd {x : Int32} {K : Nat → Bool} (h : btR x K) : kdR x K := fun k hk => by
  obtain ⟨m, hm, rfl, hb⟩ := h
  rw [hb_bt m hm k hk]
  unfold bt
  rw [hb k hk]
  cases K k <;> decide
theorem btR_1 {x : Int32} {K : Nat → Bool} (h : btR x K) : btR ((Int16.ofInt 1023).toInt32 &&& x) K := by
  obtain ⟨m, hm, rfl, hb⟩ := h
  refine ⟨1023 &&& m, Nat.lt_of_le_of_lt Nat.and_le_right hm, nI_and 1023 m, fun k hk => ?_⟩
  rw [Nat.testBit_and, t1023 k hk, Bool.true_and]
  exact hb k hk
theorem btR_k {x : Int32} {K : Nat → Bool} (h : btR x K) {q : Nat} (hq : q < 10) : btR (x &&& (Int32.ofInt 1 <<< (nI q &&& 31))) (fun k => K k && decide (k = q)) := by
  obtain ⟨m, hm, rfl, hb⟩ := h
  refine ⟨m &&& 2 ^ q, Nat.lt_of_le_of_lt Nat.and_le_left hm, by rw [shl_k q hq, nI_and], fun k hk => ?_⟩
  rw [Nat.testBit_and, Nat.testBit_two_pow, hb k hk]
  by_cases e : k = q
  · subst e
    simp
  · show (K k && decide (q = k)) = (K k && decide (k = q))
    rw [decide_eq_false e, decide_eq_false (fun h => e h.symm)]
theorem kS_one {K : Nat → Bool} {w : Nat → Nat} {q : Nat} : ∀ c, kS (fun k => K k && decide (k = q)) w c = if q < c ∧ K q = true then w q else 0
  | 0 => by rw [if_neg (fun h => absurd h.1 (Nat.not_lt_zero _))]; rfl
  | c + 1 => by
    show kS (fun k => K k && decide (k = q)) w c + (if (K c && decide (c = q)) = true then w c else 0) = _
    rw [kS_one c]
    by_cases e : c = q
    · subst e
      rw [if_neg (show ¬ (c < c ∧ K c = true) from fun h => absurd h.1 (Nat.lt_irrefl _)), decide_eq_true rfl, Bool.and_true]
      by_cases h : K c = true
      · rw [if_pos h, if_pos (show c < c + 1 ∧ K c = true from ⟨Nat.lt_succ_self _, h⟩), Nat.zero_add]
      · rw [if_neg h, if_neg (show ¬ (c < c + 1 ∧ K c = true) from fun q => h q.2)]
    · rw [decide_eq_false e, Bool.and_false, if_neg (show ¬ (false = true) by decide), Nat.add_zero]
      by_cases h : q < c ∧ K q = true
      · rw [if_pos h, if_pos (show q < c + 1 ∧ K q = true from ⟨by omega, h.2⟩)]
      · rw [if_neg h, if_neg (show ¬ (q < c + 1 ∧ K q = true) from fun w => h ⟨by omega, w.2⟩)]
theorem bS_one {E : Nat → Nat} {G : Nat → Int32} {L : Nat → Nat → Nat} {K : Nat → Bool} {q i j : Nat} (hq : q < 10) : bS E G L (fun k => K k && decide (k = q)) i j = if K q = true then wi E G L q i j else 0 := by
  unfold bS
  rw [kS_one]
  by_cases h : K q = true
  · rw [if_pos h, if_pos ⟨hq, h⟩]
  · rw [if_neg h, if_neg (fun w => h w.2)]
abbrev m1 : Int32 := Int32.ofInt (-1)
/-- a NODE is put on a page of the class -/
noncomputable def stC (b : Nat) (P : Nat → Nat → Int32) (u : Nat) (k v x y sh : Int32) : Nat → Nat → Int32 := updA (adI b (nI u) (adI b (nI u) (putV b P u k v x y (owW k v) (hbW (Int16.ofInt 764).toInt32 k) (if k = 0 then Int32.ofInt 1 <<< (v &&& 31) else Int32.ofInt 0) (if k = c8 9 then Int32.ofInt 1 <<< (v &&& 31) else Int32.ofInt 0)) u x) u y) (b + 11) (upd ((adI b (nI u) (adI b (nI u) (putV b P u k v x y (owW k v) (hbW (Int16.ofInt 764).toInt32 k) (if k = 0 then Int32.ofInt 1 <<< (v &&& 31) else Int32.ofInt 0) (if k = c8 9 then Int32.ofInt 1 <<< (v &&& 31) else Int32.ofInt 0)) u x) u y) (b + 11)) u sh)
theorem stC_o {b : Nat} {P : Nat → Nat → Int32} {u i : Nat} {k v x y sh : Int32} (h : ¬ (b < i ∧ i ≤ b + 12)) : stC b P u k v x y sh i = P i := by
  unfold stC
  rw [updA_ne _ _ (by omega), adI_row _ _ _ _ (by omega), adI_row _ _ _ _ (by omega), putV_o _ _ _ _ _ _ _ _ _ _ (by omega)]
/-- one more of a row of KINDS and v's: the page, how many NODES, the NODES that are no PARTS yet -/
noncomputable def tkC (b : Nat) (t : Nat × Nat) (s : (Nat → Nat → Int32) × Nat × List Nat) (sh : Int32) : (Nat → Nat → Int32) × Nat × List Nat :=
  if t.1 < 2 then (stC b s.1 s.2.1 (nI t.1) (nI t.2) m1 m1 sh, s.2.1 + 1, s.2.1 :: s.2.2)
  else if t.1 ≤ 6 then (stC b s.1 s.2.1 (nI t.1) m1 (nI (s.2.2.getD 1 0)) (nI (s.2.2.getD 0 0)) sh, s.2.1 + 1, s.2.1 :: s.2.2.drop 2)
  else (stC b s.1 s.2.1 (nI t.1) (if t.1 = 9 then nI t.2 else m1) (nI (s.2.2.getD 0 0)) m1 sh, s.2.1 + 1, s.2.1 :: s.2.2.drop 1)
def lyC (b : Nat) : List (Nat × Nat) → (Nat → Nat → Int32) × Nat × List Nat → (Nat → Nat → Int32) × Nat × List Nat → Prop
  | [], s, s' => s = s'
  | t :: T, s, s' => ∃ sh, lyC b T (tkC b t s sh) s'
theorem lyC_app {b : Nat} : ∀ (X Y : List (Nat × Nat)) (s m s' : (Nat → Nat → Int32) × Nat × List Nat), lyC b X s m → lyC b Y m s' → lyC b (X ++ Y) s s'
  | [], Y, s, m, s', h, g => by
    have e : s = m := h
    rw [e]
    exact g
  | t :: X, Y, s, m, s', ⟨sh, h⟩, g => ⟨sh, lyC_app X Y _ m s' h g⟩
theorem eaR_r {n : Nat} {P P0 : Nat → Nat → Int32} {E : Nat → Nat} (h : eaR n P0 E) (e : P 32 = P0 32) : eaR n P E := fun i hi => by
  rw [e]
  exact h i hi
theorem tk_0 {b k v u : Nat} {P : Nat → Nat → Int32} {st : List Nat} {sh : Int32} (h : k < 2) : lyC b [(k, v)] (P, u, st) (stC b P u (nI k) (nI v) m1 m1 sh, u + 1, u :: st) := ⟨sh, by
  show tkC b (k, v) (P, u, st) sh = _
  unfold tkC
  rw [if_pos h]⟩
theorem tk_1 {b k v u x : Nat} {P : Nat → Nat → Int32} {st : List Nat} {sh : Int32} (h : 7 ≤ k) : lyC b [(k, v)] (P, u, x :: st) (stC b P u (nI k) (if k = 9 then nI v else m1) (nI x) m1 sh, u + 1, u :: st) := ⟨sh, by
  show tkC b (k, v) (P, u, x :: st) sh = _
  unfold tkC
  rw [if_neg (by show ¬ k < 2; omega), if_neg (by show ¬ k ≤ 6; omega)]
  rfl⟩
theorem tk_2 {b k v u x y : Nat} {P : Nat → Nat → Int32} {st : List Nat} {sh : Int32} (h : 2 ≤ k) (h6 : k ≤ 6) : lyC b [(k, v)] (P, u, y :: x :: st) (stC b P u (nI k) m1 (nI x) (nI y) sh, u + 1, u :: st) := ⟨sh, by
  show tkC b (k, v) (P, u, y :: x :: st) sh = _
  unfold tkC
  rw [if_neg (by show ¬ k < 2; omega), if_pos (by show k ≤ 6; omega)]
  rfl⟩
theorem putX1 {O : Nat → Int32} {P : Nat → Nat → Int32} {Y : Nat → Nat → Int64} {g : Nat → zC} {m : Nat} {k v x y : Int32} (hm : m < 120) {r : Option Value} {w' : zW} (h : r = some (.int (nI m)) ∧ ∃ sh ch le ca, ch = hbW (Int16.ofInt 764).toInt32 k ∧ le = (if k = 0 then Int32.ofInt 1 <<< (v &&& 31) else Int32.ofInt 0) ∧ ca = (if k = c8 9 then Int32.ofInt 1 <<< (v &&& 31) else Int32.ofInt 0) ∧ w' = wX (upd (upd O 1 (nI m)) 1 (nI m + Int32.ofInt 1)) (updA (adI 1 (nI m) (adI 1 (nI m) (putV 1 P (nC (nI m)) k v x y (owW k v) ch le ca) (nC (nI m)) x) (nC (nI m)) y) 12 (upd ((adI 1 (nI m) (adI 1 (nI m) (putV 1 P (nC (nI m)) k v x y (owW k v) ch le ca) (nC (nI m)) x) (nC (nI m)) y) 12) (nC (nI m)) sh)) Y g) : r = some (.int (nI m)) ∧ ∃ sh, w' = wX (upd O 1 (nI (m + 1))) (stC 1 P m k v x y sh) Y g := by
  obtain ⟨h1, sh, _, _, _, rfl, rfl, rfl, h2⟩ := h
  refine ⟨h1, sh, ?_⟩
  rw [h2, show nC (nI m) = m from nI_clamp (by omega), upd2, show nI m + Int32.ofInt 1 = nI (m + 1) from nI_1 m]
  rfl
set_option maxHeartbeats 1000000 in
set_option maxRecDepth 20000 in
theorem hBPLX1 {O : Nat → Int32} {Y : Nat → Nat → Int64} {g : Nat → zC} {P0 : Nat → Nat → Int32} {n : Nat} {E : Nat → Nat} (hE0 : eaR n P0 E) (hn : n ≤ 20) {G : Nat → Int32} (hG : gfR (O 12) G) {lt : Nat → Nat → Bool} (h0 : btR (O 10) (fun k => lt k 0)) (h1 : btR (O 11) (fun k => lt k 1)) {L : Nat → Nat → Nat} (hY : ∀ c d, c < d → d ≤ n → Y (34 + c) d = lN (L c d)) (hB : ∀ c d, c < d → d ≤ n → L c d ≤ 5 ^ (d - c - 1)) {f : Nat} (ih : ∀ (i j p : Nat) (T : List (Nat × Nat)) (x y : Int32) (z : Int64), x = nI i → y = nI j → z = lN p → i < j → j ≤ n → j - i ≤ f → RT E (mG E G lt L) L f i j p T → ∀ (u : Nat) (P : Nat → Nat → Int32) (st : List Nat), P 32 = P0 32 → u + T.length ≤ 120 → zK (3 * f + 4) zX0_buildSpan [.ref 31, .ref 1, .int x, .int y, .long z] (wX (upd O 1 (nI (u))) P Y g) (fun r w' => ∃ P' : Nat → Nat → Int32, r = some (.int (nI (u + T.length - 1))) ∧ w' = wX (upd O 1 (nI (u + T.length))) P' Y g ∧ lyC 1 T (P, u, st) (P', u + T.length, (u + T.length - 1) :: st) ∧ (∀ i, ¬ (1 < i ∧ i ≤ 13) → P' i = P i) ∧ 1 ≤ T.length)) {u : Nat} {P : Nat → Nat → Int32} {st : List Nat} (hP : P 32 = P0 32) {kn a b c r : Nat} {X1 Y1 : List (Nat × Nat)} (k2 : 2 ≤ kn) (k6 : kn ≤ 6) (hb : b ≤ n) (hf : b - a ≤ f + 1) (hc : a + 1 + c + 1 < b) (hEc : E (a + 1 + c) = 18 + kn) (hr : r < tmW (L a (a + 1 + c)) (L (a + 1 + c + 1) b)) (hX : RT E (mG E G lt L) L f a (a + 1 + c) (r / L (a + 1 + c + 1) b) X1) (hY1 : RT E (mG E G lt L) L f (a + 1 + c + 1) b (r % L (a + 1 + c + 1) b) Y1) (hu : u + (X1.length + Y1.length + 1) ≤ 120) (hq9 : pfS E L kn a b c + r < 2 ^ 62) (kk : Int64) {n0 : Nat} : ∀ (w d : Nat), d + w = c → ∀ {x9 : Int32}, x9 = nI (a + 1 + d) → zV (zMo (3 * f + 5) zX0_buildPair) false n0 0 0 9 [(9, .int (x9)), (7, .long (lN (pfS E L kn a b c + r - pfS E L kn a b d))), (0, .ref 31), (1, .ref 1), (2, .int (nI kn)), (3, .int (nI a)), (4, .int (nI b)), (5, .long kk)] [] (wX (upd O 1 (nI (u))) P Y g) (fun r w' => ∃ P' : Nat → Nat → Int32, r = some (.int (nI (u + (X1 ++ Y1 ++ [(kn, 0)]).length - 1))) ∧ w' = wX (upd O 1 (nI (u + (X1 ++ Y1 ++ [(kn, 0)]).length))) P' Y g ∧ lyC 1 (X1 ++ Y1 ++ [(kn, 0)]) (P, u, st) (P', u + (X1 ++ Y1 ++ [(kn, 0)]).length, (u + (X1 ++ Y1 ++ [(kn, 0)]).length - 1) :: st) ∧ (∀ i, ¬ (1 < i ∧ i ≤ 13) → P' i = P i) ∧ 1 ≤ (X1 ++ Y1 ++ [(kn, 0)]).length) := by
  have hE := eaR_r hE0 hP
  have hBD : BD L a b := fun c d _ h2 h3 _ => hB c d h2 (by omega)
  have hlen : (X1 ++ Y1 ++ [(kn, 0)]).length = X1.length + Y1.length + 1 := by rw [List.length_append, List.length_append]; rfl
  obtain ⟨g0, g1, g2⟩ := tm_dm hr
  have hcap : ∀ c d, c < d → d ≤ n → L c d ≤ cap := fun c d h2 h3 => Nat.le_trans (hB c d h2 h3) (pow5_cap1 (by omega))
  have htm : ∀ d, a + 1 + d + 1 < b → lN (L a (a + 1 + d)) * lN (L (a + 1 + d + 1) b) = lN (tmW (L a (a + 1 + d)) (L (a + 1 + d + 1) b)) := fun d hd => by
    rw [lN_mul, tmW_eq (Nat.le_trans (tm_5 hBD hd) (pow5_cap1 (by omega)))]
  have hr9 : r < 2 ^ 62 := by have := (tmW_le (L a (a + 1 + c)) (L (a + 1 + c + 1) b)).1; unfold cap at this; omega
  have capb := hcap (a + 1 + c + 1) b (by omega) hb
  intro w
  induction w with
  | zero =>
    intro d hd x9 e9
    subst e9
    rw [show d = c by omega, show pfS E L kn a b c + r - pfS E L kn a b c = r by omega]
    iterate 5 (refine zv_step (bX0_buildPair (3 * f + 5)) rfl rfl trivial ?_)
    refine zv_iff (show ¬ nI b - Int32.ofInt 1 ≤ nI (a + 1 + c) by rw [sub_1 (by omega)]; exact fun h => absurd ((nI_leI (by omega) (by omega)).mp h) (by omega)) ?_
    iterate 3 (refine zv_step (bX0_buildPair (3 * f + 5)) rfl rfl trivial ?_)
    refine zv_iale (bX0_buildPair (3 * f + 5)) rfl rfl (show vp_in (nI (a + 1 + c)) 20 by exact vp_in_nI (by omega) (by decide)) (show P 32 (nI (a + 1 + c)).toNatClampNeg = nI (E (a + 1 + c)) by rw [nI_clamp (by omega)]; exact (hE (a + 1 + c) (by omega)).1) ?_
    iterate 4 (refine zv_step (bX0_buildPair (3 * f + 5)) rfl rfl trivial ?_)
    refine zv_ift (show nI (E (a + 1 + c)) = nI 18 + nI kn by rw [nI_add, hEc]) ?_
    iterate 5 (refine zv_step (bX0_buildPair (3 * f + 5)) rfl rfl trivial ?_)
    refine zv_aald (bX0_buildPair (3 * f + 5)) rfl (Or.inr rfl) rfl (show vp_in (nI (a + 1 + c) + Int32.ofInt 1) 21 by rw [show nI (a + 1 + c) + Int32.ofInt 1 = nI (a + 1 + c + 1) from nI_1 _]; exact vp_in_nI (by omega) (by decide)) (show ([some 34, some 35, some 36, some 37, some 38, some 39, some 40, some 41, some 42, some 43, some 44, some 45, some 46, some 47, some 48, some 49, some 50, some 51, some 52, some 53, some 54] : List (Option Nat)).getD (nI (a + 1 + c) + Int32.ofInt 1).toNatClampNeg none = some (34 + (a + 1 + c + 1)) by rw [show nI (a + 1 + c) + Int32.ofInt 1 = nI (a + 1 + c + 1) from nI_1 _, nI_clamp (by omega)]; exact dLs (by omega)) ?_
    iterate 1 (refine zv_step (bX0_buildPair (3 * f + 5)) rfl rfl trivial ?_)
    refine zv_lale (bX0_buildPair (3 * f + 5)) rfl (wY (upd O 1 (nI (u))) P Y g (by omega)) (show vp_in (nI b) 21 by exact vp_in_nI (by omega) (by decide)) (show Y (34 + (a + 1 + c + 1)) (nI b).toNatClampNeg = lN (L (a + 1 + c + 1) (b)) by rw [nI_clamp (by omega)]; exact hY _ _ (by omega) (by omega)) ?_
    iterate 4 (refine zv_step (bX0_buildPair (3 * f + 5)) rfl rfl trivial ?_)
    refine zv_aald (bX0_buildPair (3 * f + 5)) rfl (Or.inr rfl) rfl (show vp_in (nI a) 21 by exact vp_in_nI (by omega) (by decide)) (show ([some 34, some 35, some 36, some 37, some 38, some 39, some 40, some 41, some 42, some 43, some 44, some 45, some 46, some 47, some 48, some 49, some 50, some 51, some 52, some 53, some 54] : List (Option Nat)).getD (nI a).toNatClampNeg none = some (34 + (a)) by rw [nI_clamp (by omega)]; exact dLs (by omega)) ?_
    iterate 1 (refine zv_step (bX0_buildPair (3 * f + 5)) rfl rfl trivial ?_)
    refine zv_lale (bX0_buildPair (3 * f + 5)) rfl (wY (upd O 1 (nI (u))) P Y g (by omega)) (show vp_in (nI (a + 1 + c)) 21 by exact vp_in_nI (by omega) (by decide)) (show Y (34 + (a)) (nI (a + 1 + c)).toNatClampNeg = lN (L (a) (a + 1 + c)) by rw [nI_clamp (by omega)]; exact hY _ _ (by omega) (by omega)) ?_
    iterate 7 (refine zv_step (bX0_buildPair (3 * f + 5)) rfl rfl trivial ?_)
    refine zv_iff (fun h => absurd ((lN_leJ (a := tmW (L a (a + 1 + c)) (L (a + 1 + c + 1) b)) (by have := (tmW_le (L a (a + 1 + c)) (L (a + 1 + c + 1) b)).1; unfold cap at this; omega) hr9).mp (by have h9 : lN (L a (a + 1 + c)) * lN (L (a + 1 + c + 1) b) ≤ lN r := (lg_cmp_ge _ _).mp h; rwa [htm c hc] at h9)) (by omega)) ?_
    iterate 4 (refine zv_step (bX0_buildPair (3 * f + 5)) rfl rfl trivial ?_)
    refine zv_iff (fun h => absurd ((lN_leJ (b := 0) (by unfold cap at capb; omega) (by decide)).mp ((lg_cmp_le _ _).mp h)) (by omega)) ?_
    iterate 6 (refine zv_step (bX0_buildPair (3 * f + 5)) rfl rfl trivial ?_)
    refine zv_step (bX0_buildPair (3 * f + 5)) rfl rfl (fun e => absurd ((lN_eqJ (b := 0) (by unfold cap at capb; omega) (by decide)).mp e) (by omega)) ?_
    refine zv_V4 (bX0_buildPair (3 * f + 5)) rfl rfl rfl rfl rfl rfl rfl ⟨rfl, rfl, rfl⟩ ⟨by show 3 * f + 4 + 1 ≤ 3 * f + 5; omega, by show 8 + (14 + 11) + 64 * (3 * f + 4) ≤ 64 * (3 * f + 5); omega⟩ ⟨Nat.zero_le _, Nat.zero_le _⟩ (ih a (a + 1 + c) (r / L (a + 1 + c + 1) b) X1 _ _ _ rfl rfl (lN_divJ hr9 (by unfold cap at capb; omega)) (by omega) (by omega) (by omega) hX u P st hP (by omega)) ?_
    rintro _ _ ⟨P1, rfl, rfl, ly1, fr1, ln1⟩
    have hP1 : P1 32 = P0 32 := (fr1 32 (by omega)).trans hP
    iterate 9 (refine zv_step (bX0_buildPair (3 * f + 5)) rfl rfl trivial ?_)
    refine zv_step (bX0_buildPair (3 * f + 5)) rfl rfl (fun e => absurd ((lN_eqJ (b := 0) (by unfold cap at capb; omega) (by decide)).mp e) (by omega)) ?_
    refine zv_V4 (bX0_buildPair (3 * f + 5)) rfl rfl rfl rfl rfl rfl rfl ⟨rfl, rfl, rfl⟩ ⟨by show 3 * f + 4 + 1 ≤ 3 * f + 5; omega, by show 8 + (14 + 11) + 64 * (3 * f + 4) ≤ 64 * (3 * f + 5); omega⟩ ⟨Nat.zero_le _, Nat.zero_le _⟩ (ih (a + 1 + c + 1) b (r % L (a + 1 + c + 1) b) Y1 _ _ _ (nI_1 _) rfl (show lN r - lN r / lN (L (a + 1 + c + 1) b) * lN (L (a + 1 + c + 1) b) = lN (r % L (a + 1 + c + 1) b) by rw [lN_divJ hr9 (by unfold cap at capb; omega), lN_mul, lN_sub (Nat.div_mul_le_self _ _)]; congr 1; have := Nat.div_add_mod r (L (a + 1 + c + 1) b); rw [Nat.mul_comm] at this; omega) (by omega) (by omega) (by omega) hY1 (u + X1.length) P1 ((u + X1.length - 1) :: st) hP1 (by omega)) ?_
    rintro _ _ ⟨P2, rfl, rfl, ly2, fr2, ln2⟩
    iterate 6 (refine zv_step (bX0_buildPair (3 * f + 5)) rfl rfl trivial ?_)
    refine zv_V4 (bX0_buildPair (3 * f + 5)) rfl rfl rfl rfl rfl rfl rfl ⟨rfl, rfl, rfl⟩ ⟨by show 2 + 1 ≤ 3 * f + 5; omega, by show 8 + (6 + 11) + 64 * (2) ≤ 64 * (3 * f + 5); omega⟩ ⟨Nat.zero_le _, Nat.zero_le _⟩ (pPut1 (upd O 1 (nI (u + X1.length + Y1.length))) P2 Y g (show (nI (u + X1.length + Y1.length)).toInt ≤ 120 by rw [nI_toInt (by omega)]; omega) (m := u + X1.length + Y1.length) (by omega) rfl (nI kn) (m1) (nI (u + X1.length - 1)) (nI (u + X1.length + Y1.length - 1))) ?_
    rintro r9 w9 hpo
    obtain ⟨rfl, sh, rfl⟩ := putX1 (by omega) hpo
    exact zv_iret (bX0_buildPair (3 * f + 5)) rfl (Or.inl rfl) (Nat.zero_le _) (Nat.zero_le _) ⟨_, by rw [hlen, show u + (X1.length + Y1.length + 1) - 1 = u + X1.length + Y1.length by omega], by rw [hlen, show u + (X1.length + Y1.length + 1) = u + X1.length + Y1.length + 1 by omega], by
      rw [hlen, show u + (X1.length + Y1.length + 1) - 1 = u + X1.length + Y1.length by omega, show u + (X1.length + Y1.length + 1) = u + X1.length + Y1.length + 1 by omega]
      exact lyC_app _ _ _ _ _ (lyC_app _ _ _ _ _ ly1 ly2) (tk_2 k2 k6), fun i hi => (stC_o hi).trans ((fr2 i hi).trans (fr1 i hi)), by rw [hlen]; omega⟩
  | succ w ih2 =>
    intro d hd x9 e9
    subst e9
    have hmono := pfS_mono (E := E) (L := L) (k := kn) (a := a) (b := b) (d + 1) w
    rw [show d + 1 + w = c by omega] at hmono
    iterate 5 (refine zv_step (bX0_buildPair (3 * f + 5)) rfl rfl trivial ?_)
    refine zv_iff (show ¬ nI b - Int32.ofInt 1 ≤ nI (a + 1 + d) by rw [sub_1 (by omega)]; exact fun h => absurd ((nI_leI (by omega) (by omega)).mp h) (by omega)) ?_
    iterate 3 (refine zv_step (bX0_buildPair (3 * f + 5)) rfl rfl trivial ?_)
    refine zv_iale (bX0_buildPair (3 * f + 5)) rfl rfl (show vp_in (nI (a + 1 + d)) 20 by exact vp_in_nI (by omega) (by decide)) (show P 32 (nI (a + 1 + d)).toNatClampNeg = nI (E (a + 1 + d)) by rw [nI_clamp (by omega)]; exact (hE (a + 1 + d) (by omega)).1) ?_
    iterate 4 (refine zv_step (bX0_buildPair (3 * f + 5)) rfl rfl trivial ?_)
    refine zv_ifb (fun h29 => ?_) (fun h29 => ?_)
    · have q29 : E (a + 1 + d) = 18 + kn := (nI_eq (by have := (hE (a + 1 + d) (by omega)).2; omega) (by omega)).mp (show nI (E (a + 1 + d)) = nI (18 + kn) by rw [← nI_add]; exact h29)
      have e9 := pfS_at (L := L) (b := b) q29
      rw [e9] at hmono
      iterate 5 (refine zv_step (bX0_buildPair (3 * f + 5)) rfl rfl trivial ?_)
      refine zv_aald (bX0_buildPair (3 * f + 5)) rfl (Or.inr rfl) rfl (show vp_in (nI (a + 1 + d) + Int32.ofInt 1) 21 by rw [show nI (a + 1 + d) + Int32.ofInt 1 = nI (a + 1 + d + 1) from nI_1 _]; exact vp_in_nI (by omega) (by decide)) (show ([some 34, some 35, some 36, some 37, some 38, some 39, some 40, some 41, some 42, some 43, some 44, some 45, some 46, some 47, some 48, some 49, some 50, some 51, some 52, some 53, some 54] : List (Option Nat)).getD (nI (a + 1 + d) + Int32.ofInt 1).toNatClampNeg none = some (34 + (a + 1 + d + 1)) by rw [show nI (a + 1 + d) + Int32.ofInt 1 = nI (a + 1 + d + 1) from nI_1 _, nI_clamp (by omega)]; exact dLs (by omega)) ?_
      iterate 1 (refine zv_step (bX0_buildPair (3 * f + 5)) rfl rfl trivial ?_)
      refine zv_lale (bX0_buildPair (3 * f + 5)) rfl (wY (upd O 1 (nI (u))) P Y g (by omega)) (show vp_in (nI b) 21 by exact vp_in_nI (by omega) (by decide)) (show Y (34 + (a + 1 + d + 1)) (nI b).toNatClampNeg = lN (L (a + 1 + d + 1) (b)) by rw [nI_clamp (by omega)]; exact hY _ _ (by omega) (by omega)) ?_
      iterate 4 (refine zv_step (bX0_buildPair (3 * f + 5)) rfl rfl trivial ?_)
      refine zv_aald (bX0_buildPair (3 * f + 5)) rfl (Or.inr rfl) rfl (show vp_in (nI a) 21 by exact vp_in_nI (by omega) (by decide)) (show ([some 34, some 35, some 36, some 37, some 38, some 39, some 40, some 41, some 42, some 43, some 44, some 45, some 46, some 47, some 48, some 49, some 50, some 51, some 52, some 53, some 54] : List (Option Nat)).getD (nI a).toNatClampNeg none = some (34 + (a)) by rw [nI_clamp (by omega)]; exact dLs (by omega)) ?_
      iterate 1 (refine zv_step (bX0_buildPair (3 * f + 5)) rfl rfl trivial ?_)
      refine zv_lale (bX0_buildPair (3 * f + 5)) rfl (wY (upd O 1 (nI (u))) P Y g (by omega)) (show vp_in (nI (a + 1 + d)) 21 by exact vp_in_nI (by omega) (by decide)) (show Y (34 + (a)) (nI (a + 1 + d)).toNatClampNeg = lN (L (a) (a + 1 + d)) by rw [nI_clamp (by omega)]; exact hY _ _ (by omega) (by omega)) ?_
      iterate 7 (refine zv_step (bX0_buildPair (3 * f + 5)) rfl rfl trivial ?_)
      refine zv_ift ((lg_cmp_ge _ _).mpr (show lN (L a (a + 1 + d)) * lN (L (a + 1 + d + 1) b) ≤ lN (pfS E L kn a b c + r - pfS E L kn a b d) by rw [htm d (by omega), lN_leJ (by have := (tmW_le (L a (a + 1 + d)) (L (a + 1 + d + 1) b)).1; unfold cap at this; omega) (by omega)]; omega)) ?_
      iterate 6 (refine zv_step (bX0_buildPair (3 * f + 5)) rfl rfl trivial ?_)
      refine zv_locals (l := [(9, .int (nI (a + 1 + d) + Int32.ofInt 1)), (7, .long (lN (pfS E L kn a b c + r - pfS E L kn a b d) - lN (L a (a + 1 + d)) * lN (L (a + 1 + d + 1) b))), (12, .long (lN (L a (a + 1 + d)) * lN (L (a + 1 + d + 1) b))), (10, .long (lN (L (a + 1 + d + 1) b))), (0, .ref 31), (1, .ref 1), (2, .int (nI kn)), (3, .int (nI a)), (4, .int (nI b)), (5, .long kk)]) (l' := [(9, .int (nI (a + 1 + d) + Int32.ofInt 1)), (7, .long (lN (pfS E L kn a b c + r - pfS E L kn a b d) - lN (L a (a + 1 + d)) * lN (L (a + 1 + d + 1) b))), (0, .ref 31), (1, .ref 1), (2, .int (nI kn)), (3, .int (nI a)), (4, .int (nI b)), (5, .long kk)]) (by simp) ?_
      rw [htm d (by omega), lN_sub (by omega), show pfS E L kn a b c + r - pfS E L kn a b d - tmW (L a (a + 1 + d)) (L (a + 1 + d + 1) b) = pfS E L kn a b c + r - pfS E L kn a b (d + 1) by rw [e9]; omega]
      exact ih2 (d + 1) (by omega) (nI_1 _)
    · have q29 : ¬ E (a + 1 + d) = 18 + kn := fun e => h29 (show nI (E (a + 1 + d)) = nI 18 + nI kn by rw [nI_add, e])
      iterate 3 (refine zv_step (bX0_buildPair (3 * f + 5)) rfl rfl trivial ?_)
      have e9 : pfS E L kn a b (d + 1) = pfS E L kn a b d := by
        show _ + _ = _
        rw [if_neg q29]
        rfl
      rw [← e9]
      exact ih2 (d + 1) (by omega) (nI_1 _)
set_option maxHeartbeats 1000000 in
set_option maxRecDepth 20000 in
theorem hBPX1 {O : Nat → Int32} {Y : Nat → Nat → Int64} {g : Nat → zC} {P0 : Nat → Nat → Int32} {n : Nat} {E : Nat → Nat} (hE0 : eaR n P0 E) (hn : n ≤ 20) {G : Nat → Int32} (hG : gfR (O 12) G) {lt : Nat → Nat → Bool} (h0 : btR (O 10) (fun k => lt k 0)) (h1 : btR (O 11) (fun k => lt k 1)) {L : Nat → Nat → Nat} (hY : ∀ c d, c < d → d ≤ n → Y (34 + c) d = lN (L c d)) (hB : ∀ c d, c < d → d ≤ n → L c d ≤ 5 ^ (d - c - 1)) {f : Nat} (ih : ∀ (i j p : Nat) (T : List (Nat × Nat)) (x y : Int32) (z : Int64), x = nI i → y = nI j → z = lN p → i < j → j ≤ n → j - i ≤ f → RT E (mG E G lt L) L f i j p T → ∀ (u : Nat) (P : Nat → Nat → Int32) (st : List Nat), P 32 = P0 32 → u + T.length ≤ 120 → zK (3 * f + 4) zX0_buildSpan [.ref 31, .ref 1, .int x, .int y, .long z] (wX (upd O 1 (nI (u))) P Y g) (fun r w' => ∃ P' : Nat → Nat → Int32, r = some (.int (nI (u + T.length - 1))) ∧ w' = wX (upd O 1 (nI (u + T.length))) P' Y g ∧ lyC 1 T (P, u, st) (P', u + T.length, (u + T.length - 1) :: st) ∧ (∀ i, ¬ (1 < i ∧ i ≤ 13) → P' i = P i) ∧ 1 ≤ T.length)) {u : Nat} {P : Nat → Nat → Int32} {st : List Nat} (hP : P 32 = P0 32) {kn a b c r : Nat} {X1 Y1 : List (Nat × Nat)} (k2 : 2 ≤ kn) (k6 : kn ≤ 6) (hb : b ≤ n) (hf : b - a ≤ f + 1) (hc : a + 1 + c + 1 < b) (hEc : E (a + 1 + c) = 18 + kn) (hr : r < tmW (L a (a + 1 + c)) (L (a + 1 + c + 1) b)) (hX : RT E (mG E G lt L) L f a (a + 1 + c) (r / L (a + 1 + c + 1) b) X1) (hY1 : RT E (mG E G lt L) L f (a + 1 + c + 1) b (r % L (a + 1 + c + 1) b) Y1) (hu : u + (X1.length + Y1.length + 1) ≤ 120) {q : Nat} (hq : q = pfS E L kn a b c + r) (hq9 : q < 2 ^ 62) : zK (3 * f + 5) zX0_buildPair [.ref 31, .ref 1, .int (nI kn), .int (nI a), .int (nI b), .long (lN q)] (wX (upd O 1 (nI (u))) P Y g) (fun r w' => ∃ P' : Nat → Nat → Int32, r = some (.int (nI (u + (X1 ++ Y1 ++ [(kn, 0)]).length - 1))) ∧ w' = wX (upd O 1 (nI (u + (X1 ++ Y1 ++ [(kn, 0)]).length))) P' Y g ∧ lyC 1 (X1 ++ Y1 ++ [(kn, 0)]) (P, u, st) (P', u + (X1 ++ Y1 ++ [(kn, 0)]).length, (u + (X1 ++ Y1 ++ [(kn, 0)]).length - 1) :: st) ∧ (∀ i, ¬ (1 < i ∧ i ≤ 13) → P' i = P i) ∧ 1 ≤ (X1 ++ Y1 ++ [(kn, 0)]).length) := by
  refine zK_of qX0_buildPair (by decide +kernel) rfl ?_
  iterate 6 (refine zv_step (bX0_buildPair (3 * f + 5)) rfl rfl trivial ?_)
  subst hq
  exact hBPLX1 hE0 hn hG h0 h1 hY hB ih hP k2 k6 hb hf hc hEc hr hX hY1 hu hq9 _ c 0 (by omega) (nI_1 a)
set_option maxHeartbeats 1000000 in
set_option maxRecDepth 20000 in
theorem hBB0X1 {O : Nat → Int32} {Y : Nat → Nat → Int64} {g : Nat → zC} {P0 : Nat → Nat → Int32} {n : Nat} {E : Nat → Nat} (hE0 : eaR n P0 E) (hn : n ≤ 20) {G : Nat → Int32} (hG : gfR (O 12) G) {lt : Nat → Nat → Bool} (h0 : btR (O 10) (fun k => lt k 0)) (h1 : btR (O 11) (fun k => lt k 1)) {L : Nat → Nat → Nat} (hY : ∀ c d, c < d → d ≤ n → Y (34 + c) d = lN (L c d)) (hB : ∀ c d, c < d → d ≤ n → L c d ≤ 5 ^ (d - c - 1)) {f : Nat} {u : Nat} {P : Nat → Nat → Int32} {st : List Nat} (hP : P 32 = P0 32) {a b : Nat} (hab : a < b) (hb : b ≤ n) (hu : u + 1 ≤ 120) (kk : Int64) {x y : Int32} (ex : x = nI a) (ey : y = nI b) : zK (3 * f + 6) zX0_buildBare [.ref 31, .ref 1, .int (nI 0), .int x, .int y, .long kk] (wX (upd O 1 (nI (u))) P Y g) (fun r w' => ∃ P' : Nat → Nat → Int32, r = some (.int (nI (u + [(0, E a)].length - 1))) ∧ w' = wX (upd O 1 (nI (u + [(0, E a)].length))) P' Y g ∧ lyC 1 [(0, E a)] (P, u, st) (P', u + [(0, E a)].length, (u + [(0, E a)].length - 1) :: st) ∧ (∀ i, ¬ (1 < i ∧ i ≤ 13) → P' i = P i) ∧ 1 ≤ [(0, E a)].length) := by
  subst ex ey
  have hE := eaR_r hE0 hP
  refine zK_of qX0_buildBare (by decide +kernel) rfl ?_
  iterate 1 (refine zv_step (bX0_buildBare (3 * f + 6)) rfl rfl trivial ?_)
  refine zv_S1 (bX0_buildBare (3 * f + 6)) rfl rfl rfl rfl ⟨rfl, rfl, rfl⟩ ⟨by show 0 + 1 ≤ 3 * f + 6; omega, by show 8 + (1 + 11) + 64 * (0) ≤ 64 * (3 * f + 6); omega⟩ ⟨Nat.zero_le _, Nat.zero_le _⟩ (hX1_isPair _ _) ?_
  rintro _ _ ⟨rfl, ⟨hpr, rfl⟩ | ⟨hpr, rfl⟩⟩
  · skip
    iterate 1 (refine zv_step (bX0_buildBare (3 * f + 6)) rfl rfl trivial ?_)
    refine zv_iff (by decide) ?_
    exact absurd hpr (by decide)
  · skip
    iterate 1 (refine zv_step (bX0_buildBare (3 * f + 6)) rfl rfl trivial ?_)
    refine zv_ift (by decide) ?_
    iterate 2 (refine zv_step (bX0_buildBare (3 * f + 6)) rfl rfl trivial ?_)
    refine zv_iff (fun h => h rfl) ?_
    iterate 5 (refine zv_step (bX0_buildBare (3 * f + 6)) rfl rfl trivial ?_)
    refine zv_iale (bX0_buildBare (3 * f + 6)) rfl rfl (show vp_in (nI a) 20 by exact vp_in_nI (by omega) (by decide)) (show P 32 (nI a).toNatClampNeg = nI (E (a)) by rw [nI_clamp (by omega)]; exact (hE (a) (by omega)).1) ?_
    iterate 2 (refine zv_step (bX0_buildBare (3 * f + 6)) rfl rfl trivial ?_)
    refine zv_V4 (bX0_buildBare (3 * f + 6)) rfl rfl rfl rfl rfl rfl rfl ⟨rfl, rfl, rfl⟩ ⟨by show 2 + 1 ≤ 3 * f + 6; omega, by show 8 + (6 + 11) + 64 * (2) ≤ 64 * (3 * f + 6); omega⟩ ⟨Nat.zero_le _, Nat.zero_le _⟩ (pPut1 (upd O 1 (nI (u))) P Y g (show (nI (u)).toInt ≤ 120 by rw [nI_toInt (by omega)]; omega) (m := u) (by omega) rfl (nI 0) (nI (E a)) (m1) (m1)) ?_
    rintro r9 w9 hpo
    obtain ⟨rfl, sh, rfl⟩ := putX1 (by omega) hpo
    exact zv_iret (bX0_buildBare (3 * f + 6)) rfl (Or.inl rfl) (Nat.zero_le _) (Nat.zero_le _) ⟨_, rfl, rfl, tk_0 (by omega), fun i hi => stC_o hi, Nat.le_refl 1⟩
set_option maxHeartbeats 1000000 in
set_option maxRecDepth 20000 in
theorem hBB1X1 {O : Nat → Int32} {Y : Nat → Nat → Int64} {g : Nat → zC} {P0 : Nat → Nat → Int32} {n : Nat} {E : Nat → Nat} (hE0 : eaR n P0 E) (hn : n ≤ 20) {G : Nat → Int32} (hG : gfR (O 12) G) {lt : Nat → Nat → Bool} (h0 : btR (O 10) (fun k => lt k 0)) (h1 : btR (O 11) (fun k => lt k 1)) {L : Nat → Nat → Nat} (hY : ∀ c d, c < d → d ≤ n → Y (34 + c) d = lN (L c d)) (hB : ∀ c d, c < d → d ≤ n → L c d ≤ 5 ^ (d - c - 1)) {f : Nat} {u : Nat} {P : Nat → Nat → Int32} {st : List Nat} (hP : P 32 = P0 32) {a b : Nat} (hab : a < b) (hb : b ≤ n) (hnm : isNumB E a b = true) (hu : u + 1 ≤ 120) (kk : Int64) {x y : Int32} (ex : x = nI a) (ey : y = nI b) : zK (3 * f + 6) zX0_buildBare [.ref 31, .ref 1, .int (nI 1), .int x, .int y, .long kk] (wX (upd O 1 (nI (u))) P Y g) (fun r w' => ∃ P' : Nat → Nat → Int32, r = some (.int (nI (u + [(1, nvN E (b - a) a 0)].length - 1))) ∧ w' = wX (upd O 1 (nI (u + [(1, nvN E (b - a) a 0)].length))) P' Y g ∧ lyC 1 [(1, nvN E (b - a) a 0)] (P, u, st) (P', u + [(1, nvN E (b - a) a 0)].length, (u + [(1, nvN E (b - a) a 0)].length - 1) :: st) ∧ (∀ i, ¬ (1 < i ∧ i ≤ 13) → P' i = P i) ∧ 1 ≤ [(1, nvN E (b - a) a 0)].length) := by
  subst ex ey
  have hE := eaR_r hE0 hP
  refine zK_of qX0_buildBare (by decide +kernel) rfl ?_
  iterate 1 (refine zv_step (bX0_buildBare (3 * f + 6)) rfl rfl trivial ?_)
  refine zv_S1 (bX0_buildBare (3 * f + 6)) rfl rfl rfl rfl ⟨rfl, rfl, rfl⟩ ⟨by show 0 + 1 ≤ 3 * f + 6; omega, by show 8 + (1 + 11) + 64 * (0) ≤ 64 * (3 * f + 6); omega⟩ ⟨Nat.zero_le _, Nat.zero_le _⟩ (hX1_isPair _ _) ?_
  rintro _ _ ⟨rfl, ⟨hpr, rfl⟩ | ⟨hpr, rfl⟩⟩
  · skip
    iterate 1 (refine zv_step (bX0_buildBare (3 * f + 6)) rfl rfl trivial ?_)
    refine zv_iff (by decide) ?_
    exact absurd hpr (by decide)
  · skip
    iterate 1 (refine zv_step (bX0_buildBare (3 * f + 6)) rfl rfl trivial ?_)
    refine zv_ift (by decide) ?_
    iterate 2 (refine zv_step (bX0_buildBare (3 * f + 6)) rfl rfl trivial ?_)
    refine zv_ift (by decide) ?_
    iterate 3 (refine zv_step (bX0_buildBare (3 * f + 6)) rfl rfl trivial ?_)
    refine zv_iff (fun h => h rfl) ?_
    iterate 5 (refine zv_step (bX0_buildBare (3 * f + 6)) rfl rfl trivial ?_)
    refine zv_V2 (bX0_buildBare (3 * f + 6)) rfl rfl rfl rfl rfl rfl rfl ⟨rfl, rfl, rfl⟩ ⟨by show 0 + 1 ≤ 3 * f + 6; omega, by show 8 + (6 + 11) + 64 * (0) ≤ 64 * (3 * f + 6); omega⟩ ⟨Nat.zero_le _, Nat.zero_le _⟩ (hNum (upd O 1 (nI (u))) P Y g hab (by omega)) ?_
    rintro _ _ ⟨rfl, rfl⟩
    rw [nmW_num hE hab hb, if_pos hnm]
    iterate 2 (refine zv_step (bX0_buildBare (3 * f + 6)) rfl rfl trivial ?_)
    refine zv_V4 (bX0_buildBare (3 * f + 6)) rfl rfl rfl rfl rfl rfl rfl ⟨rfl, rfl, rfl⟩ ⟨by show 2 + 1 ≤ 3 * f + 6; omega, by show 8 + (6 + 11) + 64 * (2) ≤ 64 * (3 * f + 6); omega⟩ ⟨Nat.zero_le _, Nat.zero_le _⟩ (pPut1 (upd O 1 (nI (u))) P Y g (show (nI (u)).toInt ≤ 120 by rw [nI_toInt (by omega)]; omega) (m := u) (by omega) rfl (nI 1) (nI (nvN E (b - a) a 0)) (m1) (m1)) ?_
    rintro r9 w9 hpo
    obtain ⟨rfl, sh, rfl⟩ := putX1 (by omega) hpo
    exact zv_iret (bX0_buildBare (3 * f + 6)) rfl (Or.inl rfl) (Nat.zero_le _) (Nat.zero_le _) ⟨_, rfl, rfl, tk_0 (by omega), fun i hi => stC_o hi, Nat.le_refl 1⟩
set_option maxHeartbeats 1000000 in
set_option maxRecDepth 20000 in
theorem hBBUX1 {O : Nat → Int32} {Y : Nat → Nat → Int64} {g : Nat → zC} {P0 : Nat → Nat → Int32} {n : Nat} {E : Nat → Nat} (hE0 : eaR n P0 E) (hn : n ≤ 20) {G : Nat → Int32} (hG : gfR (O 12) G) {lt : Nat → Nat → Bool} (h0 : btR (O 10) (fun k => lt k 0)) (h1 : btR (O 11) (fun k => lt k 1)) {L : Nat → Nat → Nat} (hY : ∀ c d, c < d → d ≤ n → Y (34 + c) d = lN (L c d)) (hB : ∀ c d, c < d → d ≤ n → L c d ≤ 5 ^ (d - c - 1)) {f : Nat} (ih : ∀ (i j p : Nat) (T : List (Nat × Nat)) (x y : Int32) (z : Int64), x = nI i → y = nI j → z = lN p → i < j → j ≤ n → j - i ≤ f → RT E (mG E G lt L) L f i j p T → ∀ (u : Nat) (P : Nat → Nat → Int32) (st : List Nat), P 32 = P0 32 → u + T.length ≤ 120 → zK (3 * f + 4) zX0_buildSpan [.ref 31, .ref 1, .int x, .int y, .long z] (wX (upd O 1 (nI (u))) P Y g) (fun r w' => ∃ P' : Nat → Nat → Int32, r = some (.int (nI (u + T.length - 1))) ∧ w' = wX (upd O 1 (nI (u + T.length))) P' Y g ∧ lyC 1 T (P, u, st) (P', u + T.length, (u + T.length - 1) :: st) ∧ (∀ i, ¬ (1 < i ∧ i ≤ 13) → P' i = P i) ∧ 1 ≤ T.length)) {u : Nat} {P : Nat → Nat → Int32} {st : List Nat} (hP : P 32 = P0 32) {kn a b q : Nat} {X1 : List (Nat × Nat)} (k7 : 7 ≤ kn) (hk : kn < 10) (hb : b ≤ n) (hf : b - a ≤ f + 1) (hq : q < wi E G L kn a b) (hX : RT E (mG E G lt L) L f (pfN kn a) (ptN kn b) q X1) (hu : u + (X1.length + 1) ≤ 120) {x y : Int32} (ex : x = nI a) (ey : y = nI b) : zK (3 * f + 6) zX0_buildBare [.ref 31, .ref 1, .int (nI kn), .int x, .int y, .long (lN q)] (wX (upd O 1 (nI (u))) P Y g) (fun r w' => ∃ P' : Nat → Nat → Int32, r = some (.int (nI (u + (X1 ++ [(kn, E a)]).length - 1))) ∧ w' = wX (upd O 1 (nI (u + (X1 ++ [(kn, E a)]).length))) P' Y g ∧ lyC 1 (X1 ++ [(kn, E a)]) (P, u, st) (P', u + (X1 ++ [(kn, E a)]).length, (u + (X1 ++ [(kn, E a)]).length - 1) :: st) ∧ (∀ i, ¬ (1 < i ∧ i ≤ 13) → P' i = P i) ∧ 1 ≤ (X1 ++ [(kn, E a)]).length) := by
  subst ex ey
  have hE := eaR_r hE0 hP
  have hlen : (X1 ++ [(kn, E a)]).length = X1.length + 1 := by rw [List.length_append]; rfl
  obtain ⟨hab, w1, w2, w3, w4, w5⟩ := wi_un k7 hk hq
  refine zK_of qX0_buildBare (by decide +kernel) rfl ?_
  iterate 1 (refine zv_step (bX0_buildBare (3 * f + 6)) rfl rfl trivial ?_)
  refine zv_S1 (bX0_buildBare (3 * f + 6)) rfl rfl rfl rfl ⟨rfl, rfl, rfl⟩ ⟨by show 0 + 1 ≤ 3 * f + 6; omega, by show 8 + (1 + 11) + 64 * (0) ≤ 64 * (3 * f + 6); omega⟩ ⟨Nat.zero_le _, Nat.zero_le _⟩ (hX1_isPair _ _) ?_
  rintro _ _ ⟨rfl, ⟨hpr, rfl⟩ | ⟨hpr, rfl⟩⟩
  · rw [nI_toInt (by omega)] at hpr
    iterate 1 (refine zv_step (bX0_buildBare (3 * f + 6)) rfl rfl trivial ?_)
    refine zv_iff (by decide) ?_
    omega
  · skip
    iterate 1 (refine zv_step (bX0_buildBare (3 * f + 6)) rfl rfl trivial ?_)
    refine zv_ift (by decide) ?_
    iterate 2 (refine zv_step (bX0_buildBare (3 * f + 6)) rfl rfl trivial ?_)
    refine zv_ift (fun h => absurd ((nI_eq (b := 0) (by omega) (by decide)).mp h) (by omega)) ?_
    iterate 3 (refine zv_step (bX0_buildBare (3 * f + 6)) rfl rfl trivial ?_)
    refine zv_ift (fun h => absurd ((nI_eq (b := 1) (by omega) (by decide)).mp h) (by omega)) ?_
    iterate 4 (refine zv_step (bX0_buildBare (3 * f + 6)) rfl rfl trivial ?_)
    refine zv_S2 (bX0_buildBare (3 * f + 6)) rfl rfl rfl rfl ⟨rfl, rfl, rfl⟩ ⟨by show 0 + 1 ≤ 3 * f + 6; omega, by show 8 + (2 + 11) + 64 * (0) ≤ 64 * (3 * f + 6); omega⟩ ⟨Nat.zero_le _, Nat.zero_le _⟩ (hFrom _ _ _) ?_
    rintro _ _ ⟨rfl, rfl⟩
    iterate 2 (refine zv_step (bX0_buildBare (3 * f + 6)) rfl rfl trivial ?_)
    refine zv_S2 (bX0_buildBare (3 * f + 6)) rfl rfl rfl rfl ⟨rfl, rfl, rfl⟩ ⟨by show 0 + 1 ≤ 3 * f + 6; omega, by show 8 + (2 + 11) + 64 * (0) ≤ 64 * (3 * f + 6); omega⟩ ⟨Nat.zero_le _, Nat.zero_le _⟩ (hTo _ _ _) ?_
    rintro _ _ ⟨rfl, rfl⟩
    iterate 1 (refine zv_step (bX0_buildBare (3 * f + 6)) rfl rfl trivial ?_)
    refine zv_V4 (bX0_buildBare (3 * f + 6)) rfl rfl rfl rfl rfl rfl rfl ⟨rfl, rfl, rfl⟩ ⟨by show 3 * f + 4 + 1 ≤ 3 * f + 6; omega, by show 8 + (14 + 11) + 64 * (3 * f + 4) ≤ 64 * (3 * f + 6); omega⟩ ⟨Nat.zero_le _, Nat.zero_le _⟩ (ih (pfN kn a) (ptN kn b) q X1 _ _ _ (pf_N hk) (pt_N hk (by omega)) rfl w3 (by omega) (by omega) hX u P st hP (by omega)) ?_
    rintro _ _ ⟨P1, rfl, rfl, ly1, fr1, ln1⟩
    have hP1 : P1 32 = P0 32 := (fr1 32 (by omega)).trans hP
    have hE1 := eaR_r hE0 hP1
    iterate 6 (refine zv_step (bX0_buildBare (3 * f + 6)) rfl rfl trivial ?_)
    refine zv_ifb (fun h82 => ?_) (fun h82 => ?_)
    · have q82 : ¬ kn = 9 := fun e => h82 (by rw [e]; rfl)
      iterate 3 (refine zv_step (bX0_buildBare (3 * f + 6)) rfl rfl trivial ?_)
      refine zv_V4 (bX0_buildBare (3 * f + 6)) rfl rfl rfl rfl rfl rfl rfl ⟨rfl, rfl, rfl⟩ ⟨by show 2 + 1 ≤ 3 * f + 6; omega, by show 8 + (6 + 11) + 64 * (2) ≤ 64 * (3 * f + 6); omega⟩ ⟨Nat.zero_le _, Nat.zero_le _⟩ (pPut1 (upd O 1 (nI (u + X1.length))) P1 Y g (show (nI (u + X1.length)).toInt ≤ 120 by rw [nI_toInt (by omega)]; omega) (m := u + X1.length) (by omega) rfl (nI kn) (m1) (nI (u + X1.length - 1)) (m1)) ?_
      rintro r9 w9 hpo
      obtain ⟨rfl, sh, rfl⟩ := putX1 (by omega) hpo
      have hl9 : lyC 1 [(kn, E a)] (P1, u + X1.length, (u + X1.length - 1) :: st) (stC 1 P1 (u + X1.length) (nI kn) (m1) (nI (u + X1.length - 1)) m1 sh, u + X1.length + 1, (u + X1.length) :: st) := by
        have h := tk_1 (b := 1) (v := E a) (u := u + X1.length) (x := u + X1.length - 1) (P := P1) (st := st) (sh := sh) k7
        rw [if_neg q82] at h
        exact h
      have hly := lyC_app _ _ _ _ _ ly1 hl9
      refine zv_iret (bX0_buildBare (3 * f + 6)) rfl (Or.inl rfl) (Nat.zero_le _) (Nat.zero_le _) ⟨stC 1 P1 (u + X1.length) (nI kn) (m1) (nI (u + X1.length - 1)) m1 sh, ?_, ?_, ?_, fun i hi => (stC_o hi).trans (fr1 i hi), ?_⟩
      · rw [hlen]
        rfl
      · rw [hlen]
        rfl
      · rw [hlen]
        exact hly
      · rw [hlen]
        omega
    · have q82 : kn = 9 := (nI_eq (b := 9) (by omega) (by decide)).mp (Decidable.not_not.mp h82)
      iterate 3 (refine zv_step (bX0_buildBare (3 * f + 6)) rfl rfl trivial ?_)
      refine zv_iale (bX0_buildBare (3 * f + 6)) rfl rfl (show vp_in (nI a) 20 by exact vp_in_nI (by omega) (by decide)) (show P1 32 (nI a).toNatClampNeg = nI (E (a)) by rw [nI_clamp (by omega)]; exact (hE1 (a) (by omega)).1) ?_
      iterate 3 (refine zv_step (bX0_buildBare (3 * f + 6)) rfl rfl trivial ?_)
      refine zv_V4 (bX0_buildBare (3 * f + 6)) rfl rfl rfl rfl rfl rfl rfl ⟨rfl, rfl, rfl⟩ ⟨by show 2 + 1 ≤ 3 * f + 6; omega, by show 8 + (6 + 11) + 64 * (2) ≤ 64 * (3 * f + 6); omega⟩ ⟨Nat.zero_le _, Nat.zero_le _⟩ (pPut1 (upd O 1 (nI (u + X1.length))) P1 Y g (show (nI (u + X1.length)).toInt ≤ 120 by rw [nI_toInt (by omega)]; omega) (m := u + X1.length) (by omega) rfl (nI kn) (nI (E a)) (nI (u + X1.length - 1)) (m1)) ?_
      rintro r9 w9 hpo
      obtain ⟨rfl, sh, rfl⟩ := putX1 (by omega) hpo
      have hl9 : lyC 1 [(kn, E a)] (P1, u + X1.length, (u + X1.length - 1) :: st) (stC 1 P1 (u + X1.length) (nI kn) (nI (E a)) (nI (u + X1.length - 1)) m1 sh, u + X1.length + 1, (u + X1.length) :: st) := by
        have h := tk_1 (b := 1) (v := E a) (u := u + X1.length) (x := u + X1.length - 1) (P := P1) (st := st) (sh := sh) k7
        rw [if_pos q82] at h
        exact h
      have hly := lyC_app _ _ _ _ _ ly1 hl9
      refine zv_iret (bX0_buildBare (3 * f + 6)) rfl (Or.inl rfl) (Nat.zero_le _) (Nat.zero_le _) ⟨stC 1 P1 (u + X1.length) (nI kn) (nI (E a)) (nI (u + X1.length - 1)) m1 sh, ?_, ?_, ?_, fun i hi => (stC_o hi).trans (fr1 i hi), ?_⟩
      · rw [hlen]
        rfl
      · rw [hlen]
        rfl
      · rw [hlen]
        exact hly
      · rw [hlen]
        omega
set_option maxHeartbeats 1000000 in
set_option maxRecDepth 20000 in
theorem hBBPX1 {O : Nat → Int32} {Y : Nat → Nat → Int64} {g : Nat → zC} {P0 : Nat → Nat → Int32} {n : Nat} {E : Nat → Nat} (hE0 : eaR n P0 E) (hn : n ≤ 20) {G : Nat → Int32} (hG : gfR (O 12) G) {lt : Nat → Nat → Bool} (h0 : btR (O 10) (fun k => lt k 0)) (h1 : btR (O 11) (fun k => lt k 1)) {L : Nat → Nat → Nat} (hY : ∀ c d, c < d → d ≤ n → Y (34 + c) d = lN (L c d)) (hB : ∀ c d, c < d → d ≤ n → L c d ≤ 5 ^ (d - c - 1)) {f : Nat} (ih : ∀ (i j p : Nat) (T : List (Nat × Nat)) (x y : Int32) (z : Int64), x = nI i → y = nI j → z = lN p → i < j → j ≤ n → j - i ≤ f → RT E (mG E G lt L) L f i j p T → ∀ (u : Nat) (P : Nat → Nat → Int32) (st : List Nat), P 32 = P0 32 → u + T.length ≤ 120 → zK (3 * f + 4) zX0_buildSpan [.ref 31, .ref 1, .int x, .int y, .long z] (wX (upd O 1 (nI (u))) P Y g) (fun r w' => ∃ P' : Nat → Nat → Int32, r = some (.int (nI (u + T.length - 1))) ∧ w' = wX (upd O 1 (nI (u + T.length))) P' Y g ∧ lyC 1 T (P, u, st) (P', u + T.length, (u + T.length - 1) :: st) ∧ (∀ i, ¬ (1 < i ∧ i ≤ 13) → P' i = P i) ∧ 1 ≤ T.length)) {u : Nat} {P : Nat → Nat → Int32} {st : List Nat} (hP : P 32 = P0 32) {kn a b c r : Nat} {X1 Y1 : List (Nat × Nat)} (k2 : 2 ≤ kn) (k6 : kn ≤ 6) (hb : b ≤ n) (hf : b - a ≤ f + 1) (hc : a + 1 + c + 1 < b) (hEc : E (a + 1 + c) = 18 + kn) (hr : r < tmW (L a (a + 1 + c)) (L (a + 1 + c + 1) b)) (hX : RT E (mG E G lt L) L f a (a + 1 + c) (r / L (a + 1 + c + 1) b) X1) (hY1 : RT E (mG E G lt L) L f (a + 1 + c + 1) b (r % L (a + 1 + c + 1) b) Y1) (hu : u + (X1.length + Y1.length + 1) ≤ 120) {q : Nat} (hq : q = pfS E L kn a b c + r) (hq9 : q < 2 ^ 62) {x y : Int32} (ex : x = nI a) (ey : y = nI b) : zK (3 * f + 6) zX0_buildBare [.ref 31, .ref 1, .int (nI kn), .int x, .int y, .long (lN q)] (wX (upd O 1 (nI (u))) P Y g) (fun r w' => ∃ P' : Nat → Nat → Int32, r = some (.int (nI (u + (X1 ++ Y1 ++ [(kn, 0)]).length - 1))) ∧ w' = wX (upd O 1 (nI (u + (X1 ++ Y1 ++ [(kn, 0)]).length))) P' Y g ∧ lyC 1 (X1 ++ Y1 ++ [(kn, 0)]) (P, u, st) (P', u + (X1 ++ Y1 ++ [(kn, 0)]).length, (u + (X1 ++ Y1 ++ [(kn, 0)]).length - 1) :: st) ∧ (∀ i, ¬ (1 < i ∧ i ≤ 13) → P' i = P i) ∧ 1 ≤ (X1 ++ Y1 ++ [(kn, 0)]).length) := by
  subst ex ey
  refine zK_of qX0_buildBare (by decide +kernel) rfl ?_
  iterate 1 (refine zv_step (bX0_buildBare (3 * f + 6)) rfl rfl trivial ?_)
  refine zv_S1 (bX0_buildBare (3 * f + 6)) rfl rfl rfl rfl ⟨rfl, rfl, rfl⟩ ⟨by show 0 + 1 ≤ 3 * f + 6; omega, by show 8 + (1 + 11) + 64 * (0) ≤ 64 * (3 * f + 6); omega⟩ ⟨Nat.zero_le _, Nat.zero_le _⟩ (hX1_isPair _ _) ?_
  rintro _ _ ⟨rfl, ⟨hpr, rfl⟩ | ⟨hpr, rfl⟩⟩
  · skip
    iterate 1 (refine zv_step (bX0_buildBare (3 * f + 6)) rfl rfl trivial ?_)
    refine zv_iff (by decide) ?_
    iterate 6 (refine zv_step (bX0_buildBare (3 * f + 6)) rfl rfl trivial ?_)
    refine zv_V5 (bX0_buildBare (3 * f + 6)) rfl rfl rfl rfl rfl rfl rfl ⟨rfl, rfl, rfl⟩ ⟨by show 3 * f + 5 + 1 ≤ 3 * f + 6; omega, by show 8 + (16 + 11) + 64 * (3 * f + 5) ≤ 64 * (3 * f + 6); omega⟩ ⟨Nat.zero_le _, Nat.zero_le _⟩ (hBPX1 hE0 hn hG h0 h1 hY hB ih (st := st) hP k2 k6 hb hf hc hEc hr hX hY1 hu hq hq9) ?_
    rintro _ _ ⟨P1, rfl, rfl, ly1, fr1, ln1⟩
    exact zv_iret (bX0_buildBare (3 * f + 6)) rfl (Or.inl rfl) (Nat.zero_le _) (Nat.zero_le _) ⟨P1, rfl, rfl, ly1, fr1, ln1⟩
  · skip
    iterate 1 (refine zv_step (bX0_buildBare (3 * f + 6)) rfl rfl trivial ?_)
    refine zv_ift (by decide) ?_
    exact absurd (show 2 ≤ (nI kn).toInt ∧ (nI kn).toInt ≤ 6 by rw [nI_toInt (by omega)]; omega) hpr
theorem hBBX1 {O : Nat → Int32} {Y : Nat → Nat → Int64} {g : Nat → zC} {P0 : Nat → Nat → Int32} {n : Nat} {E : Nat → Nat} (hE0 : eaR n P0 E) (hn : n ≤ 20) {G : Nat → Int32} (hG : gfR (O 12) G) {lt : Nat → Nat → Bool} (h0 : btR (O 10) (fun k => lt k 0)) (h1 : btR (O 11) (fun k => lt k 1)) {L : Nat → Nat → Nat} (hY : ∀ c d, c < d → d ≤ n → Y (34 + c) d = lN (L c d)) (hB : ∀ c d, c < d → d ≤ n → L c d ≤ 5 ^ (d - c - 1)) {f : Nat} (ih : ∀ (i j p : Nat) (T : List (Nat × Nat)) (x y : Int32) (z : Int64), x = nI i → y = nI j → z = lN p → i < j → j ≤ n → j - i ≤ f → RT E (mG E G lt L) L f i j p T → ∀ (u : Nat) (P : Nat → Nat → Int32) (st : List Nat), P 32 = P0 32 → u + T.length ≤ 120 → zK (3 * f + 4) zX0_buildSpan [.ref 31, .ref 1, .int x, .int y, .long z] (wX (upd O 1 (nI (u))) P Y g) (fun r w' => ∃ P' : Nat → Nat → Int32, r = some (.int (nI (u + T.length - 1))) ∧ w' = wX (upd O 1 (nI (u + T.length))) P' Y g ∧ lyC 1 T (P, u, st) (P', u + T.length, (u + T.length - 1) :: st) ∧ (∀ i, ¬ (1 < i ∧ i ≤ 13) → P' i = P i) ∧ 1 ≤ T.length)) {u : Nat} {P : Nat → Nat → Int32} {st : List Nat} (hP : P 32 = P0 32) {kn a b q : Nat} {T : List (Nat × Nat)} (hk : kn < 10) (hab : a < b) (hb : b ≤ n) (hf : b - a ≤ f + 1) (hq : q < wi E G L kn a b) (hq9 : q < 2 ^ 62) (hT : RK E L (RT E (mG E G lt L) L f) kn a b q T) (hu : u + T.length ≤ 120) {x y : Int32} (ex : x = nI a) (ey : y = nI b) : zK (3 * f + 6) zX0_buildBare [.ref 31, .ref 1, .int (nI kn), .int x, .int y, .long (lN q)] (wX (upd O 1 (nI (u))) P Y g) (fun r w' => ∃ P' : Nat → Nat → Int32, r = some (.int (nI (u + T.length - 1))) ∧ w' = wX (upd O 1 (nI (u + T.length))) P' Y g ∧ lyC 1 T (P, u, st) (P', u + T.length, (u + T.length - 1) :: st) ∧ (∀ i, ¬ (1 < i ∧ i ≤ 13) → P' i = P i) ∧ 1 ≤ T.length) := by
  rcases hT with ⟨a1, a2⟩ | ⟨a1, X1, a2, a3⟩ | ⟨a1, a2, c, r, X1, Y1, b1, b2, b3, b4, b5, b6, b7⟩
  · rcases (show kn = 0 ∨ kn = 1 by omega) with e | e
    · subst e
      subst a2
      exact hBB0X1 hE0 hn hG h0 h1 hY hB hP hab hb hu _ ex ey
    · subst e
      subst a2
      refine hBB1X1 hE0 hn hG h0 h1 hY hB hP hab hb ?_ hu _ ex ey
      rw [wi_1 hab] at hq
      split at hq
      · assumption
      · omega
  · subst a2
    exact hBBUX1 hE0 hn hG h0 h1 hY hB ih hP a1 hk hb hf hq a3 (by rw [List.length_append] at hu; exact hu) ex ey
  · subst b5
    exact hBBPX1 hE0 hn hG h0 h1 hY hB ih hP a1 a2 hb hf b1 b2 b4 b6 b7 (by rw [List.length_append, List.length_append] at hu; exact hu) b3 hq9 ex ey
set_option maxHeartbeats 1000000 in
set_option maxRecDepth 20000 in
theorem hBSLX1 {O : Nat → Int32} {Y : Nat → Nat → Int64} {g : Nat → zC} {P0 : Nat → Nat → Int32} {n : Nat} {E : Nat → Nat} (hE0 : eaR n P0 E) (hn : n ≤ 20) {G : Nat → Int32} (hG : gfR (O 12) G) {lt : Nat → Nat → Bool} (h0 : btR (O 10) (fun k => lt k 0)) (h1 : btR (O 11) (fun k => lt k 1)) {L : Nat → Nat → Nat} (hY : ∀ c d, c < d → d ≤ n → Y (34 + c) d = lN (L c d)) (hB : ∀ c d, c < d → d ≤ n → L c d ≤ 5 ^ (d - c - 1)) {f : Nat} (ih : ∀ (i j p : Nat) (T : List (Nat × Nat)) (x y : Int32) (z : Int64), x = nI i → y = nI j → z = lN p → i < j → j ≤ n → j - i ≤ f → RT E (mG E G lt L) L f i j p T → ∀ (u : Nat) (P : Nat → Nat → Int32) (st : List Nat), P 32 = P0 32 → u + T.length ≤ 120 → zK (3 * f + 4) zX0_buildSpan [.ref 31, .ref 1, .int x, .int y, .long z] (wX (upd O 1 (nI (u))) P Y g) (fun r w' => ∃ P' : Nat → Nat → Int32, r = some (.int (nI (u + T.length - 1))) ∧ w' = wX (upd O 1 (nI (u + T.length))) P' Y g ∧ lyC 1 T (P, u, st) (P', u + T.length, (u + T.length - 1) :: st) ∧ (∀ i, ¬ (1 < i ∧ i ≤ 13) → P' i = P i) ∧ 1 ≤ T.length)) {u : Nat} {P : Nat → Nat → Int32} {st : List Nat} (hP : P 32 = P0 32) {i j p c0 q0 : Nat} {T : List (Nat × Nat)} (hij : i < j) (hj : j ≤ n) (hf : j - i ≤ f + 1) (hc20 : c0 < 20) (hp : p = sW (mG E G lt L i j) c0 + q0) (hq0 : q0 < mG E G lt L i j c0) (hR : RK E L (RT E (mG E G lt L) L f) (c0 / 2) (i + c0 % 2) (j - c0 % 2) q0 T) (hu : u + T.length ≤ 120) (hp9 : p < 2 ^ 62) (h62 : ∀ c, c < 20 → mG E G lt L i j c < 2 ^ 62) (kk : Int64) {e : Int32} (he : (e = 0 → ∀ w, mG E G lt L i j (2 * w + 1) = 0) ∧ (¬ e = 0 → 2 < j - i ∧ brE E i j)) {n0 : Nat} : ∀ (v w : Nat), w + v = 10 → 2 * w ≤ c0 → ∀ {x9 : Int32}, x9 = nI w → zV (zMo (3 * (f + 1) + 4) zX0_buildSpan) false n0 0 0 22 [(9, .int (x9)), (8, .int e), (6, .long (lN (p - sW (mG E G lt L i j) (2 * w)))), (0, .ref 31), (1, .ref 1), (2, .int (nI i)), (3, .int (nI j)), (4, .long kk)] [] (wX (upd O 1 (nI (u))) P Y g) (fun r w' => ∃ P' : Nat → Nat → Int32, r = some (.int (nI (u + T.length - 1))) ∧ w' = wX (upd O 1 (nI (u + T.length))) P' Y g ∧ lyC 1 T (P, u, st) (P', u + T.length, (u + T.length - 1) :: st) ∧ (∀ i, ¬ (1 < i ∧ i ≤ 13) → P' i = P i) ∧ 1 ≤ T.length) := by
  have hE := eaR_r hE0 hP
  intro v
  induction v with
  | zero =>
    intro w hw hwc x9 e9
    omega
  | succ v ih2 =>
    intro w hw hwc x9 e9
    subst e9
    have hsp := sW_mono (mG E G lt L i j) (2 * w) (c0 - 2 * w)
    rw [show 2 * w + (c0 - 2 * w) = c0 by omega] at hsp
    iterate 3 (refine zv_step (bX0_buildSpan (3 * (f + 1) + 4)) rfl rfl trivial ?_)
    refine zv_iff (show ¬ c8 9 < nI w from show ¬ nI 9 < nI w from nI_nlt (by omega) (by omega)) ?_
    iterate 9 (refine zv_step (bX0_buildSpan (3 * (f + 1) + 4)) rfl rfl trivial ?_)
    refine zv_V3 (bX0_buildSpan (3 * (f + 1) + 4)) rfl rfl rfl rfl rfl rfl rfl ⟨rfl, rfl, rfl⟩ ⟨by show 2 + 1 ≤ 3 * (f + 1) + 4; omega, by show 8 + (8 + 11) + 64 * (2) ≤ 64 * (3 * (f + 1) + 4); omega⟩ ⟨Nat.zero_le _, Nat.zero_le _⟩ (hBareX (upd O 1 (nI (u))) P Y g hE hG hij hj hn (fun c d _ h2 h3 _ => hY c d h2 (by omega)) (fun c d _ h2 h3 _ => hB c d h2 (by omega)) (btR_kd (btR_k h0 (show w < 10 by omega))) rfl rfl) ?_
    rintro _ _ ⟨rfl, rfl⟩
    rw [bS_one (show w < 10 by omega), ← mG_e (i := i) (j := j)]
    iterate 5 (refine zv_step (bX0_buildSpan (3 * (f + 1) + 4)) rfl rfl trivial ?_)
    refine zv_ifb (fun h51 => ?_) (fun h51 => ?_)
    · have q51 : mG E G lt L i j (2 * w) ≤ p - sW (mG E G lt L i j) (2 * w) := (lN_leJ (h62 _ (by omega)) (by omega)).mp ((lg_cmp_ge _ _).mp h51)
      have hlt : 2 * w < c0 := by
        rcases Nat.lt_or_ge (2 * w) c0 with e | e
        · exact e
        · have : 2 * w = c0 := by omega
          subst this
          omega
      have s1 : sW (mG E G lt L i j) (2 * w + 1) = sW (mG E G lt L i j) (2 * w) + mG E G lt L i j (2 * w) := rfl
      have s2 : sW (mG E G lt L i j) (2 * (w + 1)) = sW (mG E G lt L i j) (2 * w) + mG E G lt L i j (2 * w) + mG E G lt L i j (2 * w + 1) := rfl
      refine zv_locals (l := [(10, .long (lN (mG E G lt L i j (2 * w)))), (9, .int (nI w)), (8, .int e), (6, .long (lN (p - sW (mG E G lt L i j) (2 * w)))), (0, .ref 31), (1, .ref 1), (2, .int (nI i)), (3, .int (nI j)), (4, .long kk)]) (l' := [(10, .long (lN (mG E G lt L i j (2 * w)))), (9, .int (nI w)), (8, .int e), (6, .long (lN (p - sW (mG E G lt L i j) (2 * w)))), (0, .ref 31), (1, .ref 1), (2, .int (nI i)), (3, .int (nI j)), (4, .long kk)]) (fun q h => h) ?_
      iterate 4 (refine zv_step (bX0_buildSpan (3 * (f + 1) + 4)) rfl rfl trivial ?_)
      refine zv_locals (l := [(6, .long (lN (p - sW (mG E G lt L i j) (2 * w)) - lN (mG E G lt L i j (2 * w)))), (10, .long (lN (mG E G lt L i j (2 * w)))), (9, .int (nI w)), (8, .int e), (0, .ref 31), (1, .ref 1), (2, .int (nI i)), (3, .int (nI j)), (4, .long kk)]) (l' := [(6, .long (lN (p - sW (mG E G lt L i j) (2 * w)) - lN (mG E G lt L i j (2 * w)))), (10, .long (lN (mG E G lt L i j (2 * w)))), (9, .int (nI w)), (8, .int e), (0, .ref 31), (1, .ref 1), (2, .int (nI i)), (3, .int (nI j)), (4, .long kk)]) (fun q h => h) ?_
      rw [lN_sub q51]
      iterate 2 (refine zv_step (bX0_buildSpan (3 * (f + 1) + 4)) rfl rfl trivial ?_)
      refine zv_ifb (fun h75 => ?_) (fun h75 => ?_)
      · have q75 := he.1 h75
        iterate 1 (refine zv_step (bX0_buildSpan (3 * (f + 1) + 4)) rfl rfl trivial ?_)
        rw [show Int64.ofNat ((0 : Fin 2) : Nat) = lN (mG E G lt L i j (2 * w + 1)) by rw [q75 w]; rfl]
        iterate 5 (refine zv_step (bX0_buildSpan (3 * (f + 1) + 4)) rfl rfl trivial ?_)
        refine zv_ifb (fun h108 => ?_) (fun h108 => ?_)
        · have q108 : mG E G lt L i j (2 * w + 1) ≤ p - sW (mG E G lt L i j) (2 * w) - mG E G lt L i j (2 * w) := (lN_leJ (h62 _ (by omega)) (by omega)).mp ((lg_cmp_ge _ _).mp h108)
          have hlt2 : 2 * w + 1 < c0 := by
            rcases Nat.lt_or_ge (2 * w + 1) c0 with e | e
            · exact e
            · have : 2 * w + 1 = c0 := by omega
              subst this
              omega
          iterate 6 (refine zv_step (bX0_buildSpan (3 * (f + 1) + 4)) rfl rfl trivial ?_)
          refine zv_locals (l := [(9, .int (nI w + Int32.ofInt 1)), (6, .long (lN (p - sW (mG E G lt L i j) (2 * w) - mG E G lt L i j (2 * w)) - lN (mG E G lt L i j (2 * w + 1)))), (12, .long (lN (mG E G lt L i j (2 * w + 1)))), (10, .long (lN (mG E G lt L i j (2 * w)))), (8, .int e), (0, .ref 31), (1, .ref 1), (2, .int (nI i)), (3, .int (nI j)), (4, .long kk)]) (l' := [(9, .int (nI w + Int32.ofInt 1)), (8, .int e), (6, .long (lN (p - sW (mG E G lt L i j) (2 * w) - mG E G lt L i j (2 * w)) - lN (mG E G lt L i j (2 * w + 1)))), (0, .ref 31), (1, .ref 1), (2, .int (nI i)), (3, .int (nI j)), (4, .long kk)]) (by simp) ?_
          rw [lN_sub q108, show p - sW (mG E G lt L i j) (2 * w) - mG E G lt L i j (2 * w) - mG E G lt L i j (2 * w + 1) = p - sW (mG E G lt L i j) (2 * (w + 1)) by omega]
          exact ih2 (w + 1) (by omega) (by omega) (nI_1 w)
        · have q108 : ¬ mG E G lt L i j (2 * w + 1) ≤ p - sW (mG E G lt L i j) (2 * w) - mG E G lt L i j (2 * w) := fun q => h108 ((lg_cmp_ge _ _).mpr ((lN_leJ (h62 _ (by omega)) (by omega)).mpr q))
          have hc0 : 2 * w + 1 = c0 := by
            rcases Nat.lt_or_ge (2 * w + 1) c0 with e | e
            · have := sW_mono (mG E G lt L i j) (2 * w + 1 + 1) (c0 - (2 * w + 1 + 1))
              rw [show 2 * w + 1 + 1 + (c0 - (2 * w + 1 + 1)) = c0 by omega] at this
              have s3 : sW (mG E G lt L i j) (2 * w + 1 + 1) = sW (mG E G lt L i j) (2 * w + 1) + mG E G lt L i j (2 * w + 1) := rfl
              omega
            · omega
          subst hc0
          have eq0 : p - sW (mG E G lt L i j) (2 * w) - mG E G lt L i j (2 * w) = q0 := by omega
          rw [show (2 * w + 1) / 2 = w by omega, show (2 * w + 1) % 2 = 1 by omega] at hR
          have hw0 := (mG_pos hq0).1
          rw [show (2 * w + 1) / 2 = w by omega, show (2 * w + 1) % 2 = 1 by omega] at hw0
          have hab1 : i + 1 < j - 1 := by
            rcases Nat.lt_or_ge (i + 1) (j - 1) with e | e
            · exact e
            · rw [wi_n e] at hw0
              omega
          refine zv_locals (l := [(12, .long (lN (mG E G lt L i j (2 * w + 1)))), (6, .long (lN (p - sW (mG E G lt L i j) (2 * w) - mG E G lt L i j (2 * w)))), (10, .long (lN (mG E G lt L i j (2 * w)))), (9, .int (nI w)), (8, .int e), (0, .ref 31), (1, .ref 1), (2, .int (nI i)), (3, .int (nI j)), (4, .long kk)]) (l' := [(12, .long (lN (mG E G lt L i j (2 * w + 1)))), (6, .long (lN (p - sW (mG E G lt L i j) (2 * w) - mG E G lt L i j (2 * w)))), (10, .long (lN (mG E G lt L i j (2 * w)))), (9, .int (nI w)), (8, .int e), (0, .ref 31), (1, .ref 1), (2, .int (nI i)), (3, .int (nI j)), (4, .long kk)]) (fun q h => h) ?_
          rw [eq0]
          iterate 10 (refine zv_step (bX0_buildSpan (3 * (f + 1) + 4)) rfl rfl trivial ?_)
          refine zv_V5 (bX0_buildSpan (3 * (f + 1) + 4)) rfl rfl rfl rfl rfl rfl rfl ⟨rfl, rfl, rfl⟩ ⟨by show 3 * f + 6 + 1 ≤ 3 * (f + 1) + 4; omega, by show 8 + (8 + 11) + 64 * (3 * f + 6) ≤ 64 * (3 * (f + 1) + 4); omega⟩ ⟨Nat.zero_le _, Nat.zero_le _⟩ (hBBX1 hE0 hn hG h0 h1 hY hB ih (st := st) hP (a := i + 1) (b := j - 1) (show w < 10 by omega) hab1 (by omega) (by omega) hw0 (by omega) hR hu (nI_1 i) (sub_1 (by omega))) ?_
          rintro _ _ ⟨P1, rfl, rfl, ly1, fr1, ln1⟩
          exact zv_iret (bX0_buildSpan (3 * (f + 1) + 4)) rfl (Or.inl rfl) (Nat.zero_le _) (Nat.zero_le _) ⟨P1, rfl, rfl, ly1, fr1, ln1⟩
      · have q75 := he.2 h75
        iterate 13 (refine zv_step (bX0_buildSpan (3 * (f + 1) + 4)) rfl rfl trivial ?_)
        refine zv_V3 (bX0_buildSpan (3 * (f + 1) + 4)) rfl rfl rfl rfl rfl rfl rfl ⟨rfl, rfl, rfl⟩ ⟨by show 2 + 1 ≤ 3 * (f + 1) + 4; omega, by show 8 + (8 + 11) + 64 * (2) ≤ 64 * (3 * (f + 1) + 4); omega⟩ ⟨Nat.zero_le _, Nat.zero_le _⟩ (hBareX (upd O 1 (nI (u))) P Y g hE hG (a := i + 1) (b := j - 1) (by omega) (by omega) hn (fun c d _ h2 h3 _ => hY c d h2 (by omega)) (fun c d _ h2 h3 _ => hB c d h2 (by omega)) (btR_kd (btR_k h1 (show w < 10 by omega))) (nI_1 i) (sub_1 (by omega))) ?_
        rintro _ _ ⟨rfl, rfl⟩
        have e94 : bS E G L (fun k => lt k 1 && decide (k = w)) (i + 1) (j - 1) = mG E G lt L i j (2 * w + 1) := by rw [bS_one (show w < 10 by omega), mG_o, if_pos q75.2]
        rw [e94]
        iterate 6 (refine zv_step (bX0_buildSpan (3 * (f + 1) + 4)) rfl rfl trivial ?_)
        refine zv_ifb (fun h108 => ?_) (fun h108 => ?_)
        · have q108 : mG E G lt L i j (2 * w + 1) ≤ p - sW (mG E G lt L i j) (2 * w) - mG E G lt L i j (2 * w) := (lN_leJ (h62 _ (by omega)) (by omega)).mp ((lg_cmp_ge _ _).mp h108)
          have hlt2 : 2 * w + 1 < c0 := by
            rcases Nat.lt_or_ge (2 * w + 1) c0 with e | e
            · exact e
            · have : 2 * w + 1 = c0 := by omega
              subst this
              omega
          iterate 6 (refine zv_step (bX0_buildSpan (3 * (f + 1) + 4)) rfl rfl trivial ?_)
          refine zv_locals (l := [(9, .int (nI w + Int32.ofInt 1)), (6, .long (lN (p - sW (mG E G lt L i j) (2 * w) - mG E G lt L i j (2 * w)) - lN (mG E G lt L i j (2 * w + 1)))), (12, .long (lN (mG E G lt L i j (2 * w + 1)))), (10, .long (lN (mG E G lt L i j (2 * w)))), (8, .int e), (0, .ref 31), (1, .ref 1), (2, .int (nI i)), (3, .int (nI j)), (4, .long kk)]) (l' := [(9, .int (nI w + Int32.ofInt 1)), (8, .int e), (6, .long (lN (p - sW (mG E G lt L i j) (2 * w) - mG E G lt L i j (2 * w)) - lN (mG E G lt L i j (2 * w + 1)))), (0, .ref 31), (1, .ref 1), (2, .int (nI i)), (3, .int (nI j)), (4, .long kk)]) (by simp) ?_
          rw [lN_sub q108, show p - sW (mG E G lt L i j) (2 * w) - mG E G lt L i j (2 * w) - mG E G lt L i j (2 * w + 1) = p - sW (mG E G lt L i j) (2 * (w + 1)) by omega]
          exact ih2 (w + 1) (by omega) (by omega) (nI_1 w)
        · have q108 : ¬ mG E G lt L i j (2 * w + 1) ≤ p - sW (mG E G lt L i j) (2 * w) - mG E G lt L i j (2 * w) := fun q => h108 ((lg_cmp_ge _ _).mpr ((lN_leJ (h62 _ (by omega)) (by omega)).mpr q))
          have hc0 : 2 * w + 1 = c0 := by
            rcases Nat.lt_or_ge (2 * w + 1) c0 with e | e
            · have := sW_mono (mG E G lt L i j) (2 * w + 1 + 1) (c0 - (2 * w + 1 + 1))
              rw [show 2 * w + 1 + 1 + (c0 - (2 * w + 1 + 1)) = c0 by omega] at this
              have s3 : sW (mG E G lt L i j) (2 * w + 1 + 1) = sW (mG E G lt L i j) (2 * w + 1) + mG E G lt L i j (2 * w + 1) := rfl
              omega
            · omega
          subst hc0
          have eq0 : p - sW (mG E G lt L i j) (2 * w) - mG E G lt L i j (2 * w) = q0 := by omega
          rw [show (2 * w + 1) / 2 = w by omega, show (2 * w + 1) % 2 = 1 by omega] at hR
          have hw0 := (mG_pos hq0).1
          rw [show (2 * w + 1) / 2 = w by omega, show (2 * w + 1) % 2 = 1 by omega] at hw0
          have hab1 : i + 1 < j - 1 := by
            rcases Nat.lt_or_ge (i + 1) (j - 1) with e | e
            · exact e
            · rw [wi_n e] at hw0
              omega
          refine zv_locals (l := [(12, .long (lN (mG E G lt L i j (2 * w + 1)))), (6, .long (lN (p - sW (mG E G lt L i j) (2 * w) - mG E G lt L i j (2 * w)))), (10, .long (lN (mG E G lt L i j (2 * w)))), (9, .int (nI w)), (8, .int e), (0, .ref 31), (1, .ref 1), (2, .int (nI i)), (3, .int (nI j)), (4, .long kk)]) (l' := [(12, .long (lN (mG E G lt L i j (2 * w + 1)))), (6, .long (lN (p - sW (mG E G lt L i j) (2 * w) - mG E G lt L i j (2 * w)))), (10, .long (lN (mG E G lt L i j (2 * w)))), (9, .int (nI w)), (8, .int e), (0, .ref 31), (1, .ref 1), (2, .int (nI i)), (3, .int (nI j)), (4, .long kk)]) (fun q h => h) ?_
          rw [eq0]
          iterate 10 (refine zv_step (bX0_buildSpan (3 * (f + 1) + 4)) rfl rfl trivial ?_)
          refine zv_V5 (bX0_buildSpan (3 * (f + 1) + 4)) rfl rfl rfl rfl rfl rfl rfl ⟨rfl, rfl, rfl⟩ ⟨by show 3 * f + 6 + 1 ≤ 3 * (f + 1) + 4; omega, by show 8 + (8 + 11) + 64 * (3 * f + 6) ≤ 64 * (3 * (f + 1) + 4); omega⟩ ⟨Nat.zero_le _, Nat.zero_le _⟩ (hBBX1 hE0 hn hG h0 h1 hY hB ih (st := st) hP (a := i + 1) (b := j - 1) (show w < 10 by omega) hab1 (by omega) (by omega) hw0 (by omega) hR hu (nI_1 i) (sub_1 (by omega))) ?_
          rintro _ _ ⟨P1, rfl, rfl, ly1, fr1, ln1⟩
          exact zv_iret (bX0_buildSpan (3 * (f + 1) + 4)) rfl (Or.inl rfl) (Nat.zero_le _) (Nat.zero_le _) ⟨P1, rfl, rfl, ly1, fr1, ln1⟩
    · have q51 : ¬ mG E G lt L i j (2 * w) ≤ p - sW (mG E G lt L i j) (2 * w) := fun q => h51 ((lg_cmp_ge _ _).mpr ((lN_leJ (h62 _ (by omega)) (by omega)).mpr q))
      have hc0 : 2 * w = c0 := by
        rcases Nat.lt_or_ge (2 * w) c0 with e | e
        · have := sW_mono (mG E G lt L i j) (2 * w + 1) (c0 - (2 * w + 1))
          rw [show 2 * w + 1 + (c0 - (2 * w + 1)) = c0 by omega] at this
          have s1 : sW (mG E G lt L i j) (2 * w + 1) = sW (mG E G lt L i j) (2 * w) + mG E G lt L i j (2 * w) := rfl
          omega
        · omega
      subst hc0
      have eq0 : p - sW (mG E G lt L i j) (2 * w) = q0 := by omega
      rw [show 2 * w / 2 = w by omega, show 2 * w % 2 = 0 by omega] at hR
      have hw0 := (mG_pos hq0).1
      rw [show 2 * w / 2 = w by omega, show 2 * w % 2 = 0 by omega] at hw0
      refine zv_locals (l := [(10, .long (lN (mG E G lt L i j (2 * w)))), (9, .int (nI w)), (8, .int e), (6, .long (lN (p - sW (mG E G lt L i j) (2 * w)))), (0, .ref 31), (1, .ref 1), (2, .int (nI i)), (3, .int (nI j)), (4, .long kk)]) (l' := [(10, .long (lN (mG E G lt L i j (2 * w)))), (9, .int (nI w)), (8, .int e), (6, .long (lN (p - sW (mG E G lt L i j) (2 * w)))), (0, .ref 31), (1, .ref 1), (2, .int (nI i)), (3, .int (nI j)), (4, .long kk)]) (fun q h => h) ?_
      rw [eq0]
      iterate 6 (refine zv_step (bX0_buildSpan (3 * (f + 1) + 4)) rfl rfl trivial ?_)
      refine zv_V5 (bX0_buildSpan (3 * (f + 1) + 4)) rfl rfl rfl rfl rfl rfl rfl ⟨rfl, rfl, rfl⟩ ⟨by show 3 * f + 6 + 1 ≤ 3 * (f + 1) + 4; omega, by show 8 + (8 + 11) + 64 * (3 * f + 6) ≤ 64 * (3 * (f + 1) + 4); omega⟩ ⟨Nat.zero_le _, Nat.zero_le _⟩ (hBBX1 hE0 hn hG h0 h1 hY hB ih (st := st) hP (show w < 10 by omega) hij hj hf hw0 (by omega) hR hu rfl rfl) ?_
      rintro _ _ ⟨P1, rfl, rfl, ly1, fr1, ln1⟩
      exact zv_iret (bX0_buildSpan (3 * (f + 1) + 4)) rfl (Or.inl rfl) (Nat.zero_le _) (Nat.zero_le _) ⟨P1, rfl, rfl, ly1, fr1, ln1⟩
theorem mG_le1 {n : Nat} (hn : n ≤ 20) {E : Nat → Nat} {G : Nat → Int32} {lt : Nat → Nat → Bool} {L : Nat → Nat → Nat} (hB : ∀ c d, c < d → d ≤ n → L c d ≤ 5 ^ (d - c - 1)) {i j : Nat} (hij : i < j) (hj : j ≤ n) (c : Nat) (hc : c < 20) : mG E G lt L i j c ≤ cap := by
  have hb : BD L i j := fun a b _ h2 h3 _ => hB a b h2 (by omega)
  have h1 := tS_le (E := E) (G := G) hb hij (by omega) lt
  rw [← sW_tS] at h1
  have h2 := sW_mono (mG E G lt L i j) (c + 1) (20 - (c + 1))
  rw [show c + 1 + (20 - (c + 1)) = 20 by omega] at h2
  have h3 : sW (mG E G lt L i j) (c + 1) = sW (mG E G lt L i j) c + mG E G lt L i j c := rfl
  have h4 := pow5_cap1 (n := j - i - 1) (by omega)
  omega
set_option maxHeartbeats 1000000 in
set_option maxRecDepth 20000 in
theorem hBSX1 {O : Nat → Int32} {Y : Nat → Nat → Int64} {g : Nat → zC} {P0 : Nat → Nat → Int32} {n : Nat} {E : Nat → Nat} (hE0 : eaR n P0 E) (hn : n ≤ 20) {G : Nat → Int32} (hG : gfR (O 12) G) {lt : Nat → Nat → Bool} (h0 : btR (O 10) (fun k => lt k 0)) (h1 : btR (O 11) (fun k => lt k 1)) {L : Nat → Nat → Nat} (hY : ∀ c d, c < d → d ≤ n → Y (34 + c) d = lN (L c d)) (hB : ∀ c d, c < d → d ≤ n → L c d ≤ 5 ^ (d - c - 1)) : ∀ (f i j p : Nat) (T : List (Nat × Nat)) (x y : Int32) (z : Int64), x = nI i → y = nI j → z = lN p → i < j → j ≤ n → j - i ≤ f → RT E (mG E G lt L) L f i j p T → ∀ (u : Nat) (P : Nat → Nat → Int32) (st : List Nat), P 32 = P0 32 → u + T.length ≤ 120 → zK (3 * f + 4) zX0_buildSpan [.ref 31, .ref 1, .int x, .int y, .long z] (wX (upd O 1 (nI (u))) P Y g) (fun r w' => ∃ P' : Nat → Nat → Int32, r = some (.int (nI (u + T.length - 1))) ∧ w' = wX (upd O 1 (nI (u + T.length))) P' Y g ∧ lyC 1 T (P, u, st) (P', u + T.length, (u + T.length - 1) :: st) ∧ (∀ i, ¬ (1 < i ∧ i ≤ 13) → P' i = P i) ∧ 1 ≤ T.length) := by
  intro f
  induction f with
  | zero =>
    intro i j p T x y z _ _ _ hij _ hf
    omega
  | succ f ih =>
    intro i j p T x y z ex ey ez hij hj hf hT u P st hP hu
    subst ex ey ez
    have hE := eaR_r hE0 hP
    obtain ⟨c0, q0, hc20, hp, hq0, hR⟩ := hT
    have h62 : ∀ c, c < 20 → mG E G lt L i j c < 2 ^ 62 := fun c e => by
      have := mG_le1 hn (E := E) (G := G) (lt := lt) hB hij hj c e
      unfold cap at this
      omega
    have hp9 : p < 2 ^ 62 := by
      have hb : BD L i j := fun a b _ h2 h3 _ => hB a b h2 (by omega)
      have h1 := tS_le (E := E) (G := G) hb hij (by omega) lt
      rw [← sW_tS] at h1
      have h2 := sW_mono (mG E G lt L i j) (c0 + 1) (20 - (c0 + 1))
      rw [show c0 + 1 + (20 - (c0 + 1)) = 20 by omega] at h2
      have h3 : sW (mG E G lt L i j) (c0 + 1) = sW (mG E G lt L i j) c0 + mG E G lt L i j c0 := rfl
      have h4 := pow5_cap1 (n := j - i - 1) (by omega)
      unfold cap at h4
      omega
    refine zK_of qX0_buildSpan (by decide +kernel) rfl ?_
    iterate 3 (refine zv_step (bX0_buildSpan (3 * (f + 1) + 4)) rfl rfl trivial ?_)
    refine zv_ift (nI_lt (by omega) (by omega)) ?_
    iterate 5 (refine zv_step (bX0_buildSpan (3 * (f + 1) + 4)) rfl rfl trivial ?_)
    refine zv_V2 (bX0_buildSpan (3 * (f + 1) + 4)) rfl rfl rfl rfl rfl rfl rfl ⟨rfl, rfl, rfl⟩ ⟨by show 0 + 1 ≤ 3 * (f + 1) + 4; omega, by show 8 + (3 + 11) + 64 * (0) ≤ 64 * (3 * (f + 1) + 4); omega⟩ ⟨Nat.zero_le _, Nat.zero_le _⟩ (hBr (upd O 1 (nI (u))) P Y g hij (by omega)) ?_
    rintro _ _ ⟨rfl, ⟨hh, rfl⟩ | ⟨hh, rfl⟩⟩
    · skip
      iterate 3 (refine zv_step (bX0_buildSpan (3 * (f + 1) + 4)) rfl rfl trivial ?_)
      rw [show lN p = lN (p - sW (mG E G lt L i j) (2 * 0)) by rw [show sW (mG E G lt L i j) (2 * 0) = 0 from rfl, Nat.sub_zero]]
      exact hBSLX1 hE0 hn hG h0 h1 hY hB ih hP hij hj hf hc20 hp hq0 hR hu hp9 h62 _ ⟨fun e => absurd e (by decide), fun _ => (br_E hE hij hj).mp hh⟩ 10 0 rfl (Nat.zero_le _) rfl
    · skip
      iterate 3 (refine zv_step (bX0_buildSpan (3 * (f + 1) + 4)) rfl rfl trivial ?_)
      rw [show lN p = lN (p - sW (mG E G lt L i j) (2 * 0)) by rw [show sW (mG E G lt L i j) (2 * 0) = 0 from rfl, Nat.sub_zero]]
      exact hBSLX1 hE0 hn hG h0 h1 hY hB ih hP hij hj hf hc20 hp hq0 hR hu hp9 h62 _ ⟨fun _ w => by
        rw [mG_o]
        split
        · rename_i q
          have : ¬ 2 < j - i := fun e => hh ((br_E hE hij hj).mpr ⟨e, q⟩)
          rw [wi_n (by omega)]
          split <;> rfl
        · rfl, fun e => absurd rfl e⟩ 10 0 rfl (Nat.zero_le _) rfl
set_option maxHeartbeats 1000000 in
set_option maxRecDepth 20000 in
theorem hBuildX1 {O : Nat → Int32} {Y : Nat → Nat → Int64} {g : Nat → zC} {P0 : Nat → Nat → Int32} {n : Nat} {E : Nat → Nat} (hE0 : eaR n P0 E) (hn : n ≤ 20) {G : Nat → Int32} (hG : gfR (O 12) G) {lt : Nat → Nat → Bool} (h0 : btR (O 10) (fun k => lt k 0)) (h1 : btR (O 11) (fun k => lt k 1)) {L : Nat → Nat → Nat} (hY : ∀ c d, c < d → d ≤ n → Y (34 + c) d = lN (L c d)) (hB : ∀ c d, c < d → d ≤ n → L c d ≤ 5 ^ (d - c - 1)) (hO : O 9 = nI n) (h9 : 0 < n) {p : Nat} {T : List (Nat × Nat)} (hT : RT E (mG E G lt L) L 20 0 n p T) {u : Nat} {P : Nat → Nat → Int32} {st : List Nat} (hP : P 32 = P0 32) (hu : u + T.length ≤ 120) : zK 65 zX0_build [.ref 31, .ref 1, .long (lN p)] (wX (upd O 1 (nI (u))) P Y g) (fun r w' => ∃ P' : Nat → Nat → Int32, r = some (.int (nI (u + T.length - 1))) ∧ w' = wX (upd O 1 (nI (u + T.length))) P' Y g ∧ lyC 1 T (P, u, st) (P', u + T.length, (u + T.length - 1) :: st) ∧ (∀ i, ¬ (1 < i ∧ i ≤ 13) → P' i = P i) ∧ 1 ≤ T.length) := by
  refine zK_of qX0_build (by decide +kernel) rfl ?_
  iterate 6 (refine zv_step (bX0_build 65) rfl rfl trivial ?_)
  refine zv_V4 (bX0_build 65) rfl rfl rfl rfl rfl rfl rfl ⟨rfl, rfl, rfl⟩ ⟨by decide, by decide⟩ ⟨Nat.zero_le _, Nat.zero_le _⟩ (hBSX1 hE0 hn hG h0 h1 hY hB 20 0 n p T _ _ _ rfl hO rfl h9 (Nat.le_refl _) (by omega) hT u P st hP hu) ?_
  rintro _ _ ⟨P1, rfl, rfl, ly1, fr1, ln1⟩
  exact zv_iret (bX0_build 65) rfl (Or.inl rfl) (Nat.zero_le _) (Nat.zero_le _) ⟨P1, rfl, rfl, ly1, fr1, ln1⟩
end
section
theorem putX14 {O : Nat → Int32} {P : Nat → Nat → Int32} {Y : Nat → Nat → Int64} {g : Nat → zC} {m : Nat} {k v x y : Int32} (hm : m < 120) {r : Option Value} {w' : zW} (h : r = some (.int (nI m)) ∧ ∃ sh ch le ca, ch = hbW (Int16.ofInt 764).toInt32 k ∧ le = (if k = 0 then Int32.ofInt 1 <<< (v &&& 31) else Int32.ofInt 0) ∧ ca = (if k = c8 9 then Int32.ofInt 1 <<< (v &&& 31) else Int32.ofInt 0) ∧ w' = wX (upd (upd O 2 (nI m)) 2 (nI m + Int32.ofInt 1)) (updA (adI 14 (nI m) (adI 14 (nI m) (putV 14 P (nC (nI m)) k v x y (owW k v) ch le ca) (nC (nI m)) x) (nC (nI m)) y) 25 (upd ((adI 14 (nI m) (adI 14 (nI m) (putV 14 P (nC (nI m)) k v x y (owW k v) ch le ca) (nC (nI m)) x) (nC (nI m)) y) 25) (nC (nI m)) sh)) Y g) : r = some (.int (nI m)) ∧ ∃ sh, w' = wX (upd O 2 (nI (m + 1))) (stC 14 P m k v x y sh) Y g := by
  obtain ⟨h1, sh, _, _, _, rfl, rfl, rfl, h2⟩ := h
  refine ⟨h1, sh, ?_⟩
  rw [h2, show nC (nI m) = m from nI_clamp (by omega), upd2, show nI m + Int32.ofInt 1 = nI (m + 1) from nI_1 m]
  rfl
set_option maxHeartbeats 1000000 in
set_option maxRecDepth 20000 in
theorem hBPLX14 {O : Nat → Int32} {Y : Nat → Nat → Int64} {g : Nat → zC} {P0 : Nat → Nat → Int32} {n : Nat} {E : Nat → Nat} (hE0 : eaR n P0 E) (hn : n ≤ 20) {G : Nat → Int32} (hG : gfR (O 12) G) {lt : Nat → Nat → Bool} (h0 : btR (O 10) (fun k => lt k 0)) (h1 : btR (O 11) (fun k => lt k 1)) {L : Nat → Nat → Nat} (hY : ∀ c d, c < d → d ≤ n → Y (34 + c) d = lN (L c d)) (hB : ∀ c d, c < d → d ≤ n → L c d ≤ 5 ^ (d - c - 1)) {f : Nat} (ih : ∀ (i j p : Nat) (T : List (Nat × Nat)) (x y : Int32) (z : Int64), x = nI i → y = nI j → z = lN p → i < j → j ≤ n → j - i ≤ f → RT E (mG E G lt L) L f i j p T → ∀ (u : Nat) (P : Nat → Nat → Int32) (st : List Nat), P 32 = P0 32 → u + T.length ≤ 120 → zK (3 * f + 4) zX0_buildSpan [.ref 31, .ref 14, .int x, .int y, .long z] (wX (upd O 2 (nI (u))) P Y g) (fun r w' => ∃ P' : Nat → Nat → Int32, r = some (.int (nI (u + T.length - 1))) ∧ w' = wX (upd O 2 (nI (u + T.length))) P' Y g ∧ lyC 14 T (P, u, st) (P', u + T.length, (u + T.length - 1) :: st) ∧ (∀ i, ¬ (14 < i ∧ i ≤ 26) → P' i = P i) ∧ 1 ≤ T.length)) {u : Nat} {P : Nat → Nat → Int32} {st : List Nat} (hP : P 32 = P0 32) {kn a b c r : Nat} {X1 Y1 : List (Nat × Nat)} (k2 : 2 ≤ kn) (k6 : kn ≤ 6) (hb : b ≤ n) (hf : b - a ≤ f + 1) (hc : a + 1 + c + 1 < b) (hEc : E (a + 1 + c) = 18 + kn) (hr : r < tmW (L a (a + 1 + c)) (L (a + 1 + c + 1) b)) (hX : RT E (mG E G lt L) L f a (a + 1 + c) (r / L (a + 1 + c + 1) b) X1) (hY1 : RT E (mG E G lt L) L f (a + 1 + c + 1) b (r % L (a + 1 + c + 1) b) Y1) (hu : u + (X1.length + Y1.length + 1) ≤ 120) (hq9 : pfS E L kn a b c + r < 2 ^ 62) (kk : Int64) {n0 : Nat} : ∀ (w d : Nat), d + w = c → ∀ {x9 : Int32}, x9 = nI (a + 1 + d) → zV (zMo (3 * f + 5) zX0_buildPair) false n0 0 0 9 [(9, .int (x9)), (7, .long (lN (pfS E L kn a b c + r - pfS E L kn a b d))), (0, .ref 31), (1, .ref 14), (2, .int (nI kn)), (3, .int (nI a)), (4, .int (nI b)), (5, .long kk)] [] (wX (upd O 2 (nI (u))) P Y g) (fun r w' => ∃ P' : Nat → Nat → Int32, r = some (.int (nI (u + (X1 ++ Y1 ++ [(kn, 0)]).length - 1))) ∧ w' = wX (upd O 2 (nI (u + (X1 ++ Y1 ++ [(kn, 0)]).length))) P' Y g ∧ lyC 14 (X1 ++ Y1 ++ [(kn, 0)]) (P, u, st) (P', u + (X1 ++ Y1 ++ [(kn, 0)]).length, (u + (X1 ++ Y1 ++ [(kn, 0)]).length - 1) :: st) ∧ (∀ i, ¬ (14 < i ∧ i ≤ 26) → P' i = P i) ∧ 1 ≤ (X1 ++ Y1 ++ [(kn, 0)]).length) := by
  have hE := eaR_r hE0 hP
  have hBD : BD L a b := fun c d _ h2 h3 _ => hB c d h2 (by omega)
  have hlen : (X1 ++ Y1 ++ [(kn, 0)]).length = X1.length + Y1.length + 1 := by rw [List.length_append, List.length_append]; rfl
  obtain ⟨g0, g1, g2⟩ := tm_dm hr
  have hcap : ∀ c d, c < d → d ≤ n → L c d ≤ cap := fun c d h2 h3 => Nat.le_trans (hB c d h2 h3) (pow5_cap1 (by omega))
  have htm : ∀ d, a + 1 + d + 1 < b → lN (L a (a + 1 + d)) * lN (L (a + 1 + d + 1) b) = lN (tmW (L a (a + 1 + d)) (L (a + 1 + d + 1) b)) := fun d hd => by
    rw [lN_mul, tmW_eq (Nat.le_trans (tm_5 hBD hd) (pow5_cap1 (by omega)))]
  have hr9 : r < 2 ^ 62 := by have := (tmW_le (L a (a + 1 + c)) (L (a + 1 + c + 1) b)).1; unfold cap at this; omega
  have capb := hcap (a + 1 + c + 1) b (by omega) hb
  intro w
  induction w with
  | zero =>
    intro d hd x9 e9
    subst e9
    rw [show d = c by omega, show pfS E L kn a b c + r - pfS E L kn a b c = r by omega]
    iterate 5 (refine zv_step (bX0_buildPair (3 * f + 5)) rfl rfl trivial ?_)
    refine zv_iff (show ¬ nI b - Int32.ofInt 1 ≤ nI (a + 1 + c) by rw [sub_1 (by omega)]; exact fun h => absurd ((nI_leI (by omega) (by omega)).mp h) (by omega)) ?_
    iterate 3 (refine zv_step (bX0_buildPair (3 * f + 5)) rfl rfl trivial ?_)
    refine zv_iale (bX0_buildPair (3 * f + 5)) rfl rfl (show vp_in (nI (a + 1 + c)) 20 by exact vp_in_nI (by omega) (by decide)) (show P 32 (nI (a + 1 + c)).toNatClampNeg = nI (E (a + 1 + c)) by rw [nI_clamp (by omega)]; exact (hE (a + 1 + c) (by omega)).1) ?_
    iterate 4 (refine zv_step (bX0_buildPair (3 * f + 5)) rfl rfl trivial ?_)
    refine zv_ift (show nI (E (a + 1 + c)) = nI 18 + nI kn by rw [nI_add, hEc]) ?_
    iterate 5 (refine zv_step (bX0_buildPair (3 * f + 5)) rfl rfl trivial ?_)
    refine zv_aald (bX0_buildPair (3 * f + 5)) rfl (Or.inr rfl) rfl (show vp_in (nI (a + 1 + c) + Int32.ofInt 1) 21 by rw [show nI (a + 1 + c) + Int32.ofInt 1 = nI (a + 1 + c + 1) from nI_1 _]; exact vp_in_nI (by omega) (by decide)) (show ([some 34, some 35, some 36, some 37, some 38, some 39, some 40, some 41, some 42, some 43, some 44, some 45, some 46, some 47, some 48, some 49, some 50, some 51, some 52, some 53, some 54] : List (Option Nat)).getD (nI (a + 1 + c) + Int32.ofInt 1).toNatClampNeg none = some (34 + (a + 1 + c + 1)) by rw [show nI (a + 1 + c) + Int32.ofInt 1 = nI (a + 1 + c + 1) from nI_1 _, nI_clamp (by omega)]; exact dLs (by omega)) ?_
    iterate 1 (refine zv_step (bX0_buildPair (3 * f + 5)) rfl rfl trivial ?_)
    refine zv_lale (bX0_buildPair (3 * f + 5)) rfl (wY (upd O 2 (nI (u))) P Y g (by omega)) (show vp_in (nI b) 21 by exact vp_in_nI (by omega) (by decide)) (show Y (34 + (a + 1 + c + 1)) (nI b).toNatClampNeg = lN (L (a + 1 + c + 1) (b)) by rw [nI_clamp (by omega)]; exact hY _ _ (by omega) (by omega)) ?_
    iterate 4 (refine zv_step (bX0_buildPair (3 * f + 5)) rfl rfl trivial ?_)
    refine zv_aald (bX0_buildPair (3 * f + 5)) rfl (Or.inr rfl) rfl (show vp_in (nI a) 21 by exact vp_in_nI (by omega) (by decide)) (show ([some 34, some 35, some 36, some 37, some 38, some 39, some 40, some 41, some 42, some 43, some 44, some 45, some 46, some 47, some 48, some 49, some 50, some 51, some 52, some 53, some 54] : List (Option Nat)).getD (nI a).toNatClampNeg none = some (34 + (a)) by rw [nI_clamp (by omega)]; exact dLs (by omega)) ?_
    iterate 1 (refine zv_step (bX0_buildPair (3 * f + 5)) rfl rfl trivial ?_)
    refine zv_lale (bX0_buildPair (3 * f + 5)) rfl (wY (upd O 2 (nI (u))) P Y g (by omega)) (show vp_in (nI (a + 1 + c)) 21 by exact vp_in_nI (by omega) (by decide)) (show Y (34 + (a)) (nI (a + 1 + c)).toNatClampNeg = lN (L (a) (a + 1 + c)) by rw [nI_clamp (by omega)]; exact hY _ _ (by omega) (by omega)) ?_
    iterate 7 (refine zv_step (bX0_buildPair (3 * f + 5)) rfl rfl trivial ?_)
    refine zv_iff (fun h => absurd ((lN_leJ (a := tmW (L a (a + 1 + c)) (L (a + 1 + c + 1) b)) (by have := (tmW_le (L a (a + 1 + c)) (L (a + 1 + c + 1) b)).1; unfold cap at this; omega) hr9).mp (by have h9 : lN (L a (a + 1 + c)) * lN (L (a + 1 + c + 1) b) ≤ lN r := (lg_cmp_ge _ _).mp h; rwa [htm c hc] at h9)) (by omega)) ?_
    iterate 4 (refine zv_step (bX0_buildPair (3 * f + 5)) rfl rfl trivial ?_)
    refine zv_iff (fun h => absurd ((lN_leJ (b := 0) (by unfold cap at capb; omega) (by decide)).mp ((lg_cmp_le _ _).mp h)) (by omega)) ?_
    iterate 6 (refine zv_step (bX0_buildPair (3 * f + 5)) rfl rfl trivial ?_)
    refine zv_step (bX0_buildPair (3 * f + 5)) rfl rfl (fun e => absurd ((lN_eqJ (b := 0) (by unfold cap at capb; omega) (by decide)).mp e) (by omega)) ?_
    refine zv_V4 (bX0_buildPair (3 * f + 5)) rfl rfl rfl rfl rfl rfl rfl ⟨rfl, rfl, rfl⟩ ⟨by show 3 * f + 4 + 1 ≤ 3 * f + 5; omega, by show 8 + (14 + 11) + 64 * (3 * f + 4) ≤ 64 * (3 * f + 5); omega⟩ ⟨Nat.zero_le _, Nat.zero_le _⟩ (ih a (a + 1 + c) (r / L (a + 1 + c + 1) b) X1 _ _ _ rfl rfl (lN_divJ hr9 (by unfold cap at capb; omega)) (by omega) (by omega) (by omega) hX u P st hP (by omega)) ?_
    rintro _ _ ⟨P1, rfl, rfl, ly1, fr1, ln1⟩
    have hP1 : P1 32 = P0 32 := (fr1 32 (by omega)).trans hP
    iterate 9 (refine zv_step (bX0_buildPair (3 * f + 5)) rfl rfl trivial ?_)
    refine zv_step (bX0_buildPair (3 * f + 5)) rfl rfl (fun e => absurd ((lN_eqJ (b := 0) (by unfold cap at capb; omega) (by decide)).mp e) (by omega)) ?_
    refine zv_V4 (bX0_buildPair (3 * f + 5)) rfl rfl rfl rfl rfl rfl rfl ⟨rfl, rfl, rfl⟩ ⟨by show 3 * f + 4 + 1 ≤ 3 * f + 5; omega, by show 8 + (14 + 11) + 64 * (3 * f + 4) ≤ 64 * (3 * f + 5); omega⟩ ⟨Nat.zero_le _, Nat.zero_le _⟩ (ih (a + 1 + c + 1) b (r % L (a + 1 + c + 1) b) Y1 _ _ _ (nI_1 _) rfl (show lN r - lN r / lN (L (a + 1 + c + 1) b) * lN (L (a + 1 + c + 1) b) = lN (r % L (a + 1 + c + 1) b) by rw [lN_divJ hr9 (by unfold cap at capb; omega), lN_mul, lN_sub (Nat.div_mul_le_self _ _)]; congr 1; have := Nat.div_add_mod r (L (a + 1 + c + 1) b); rw [Nat.mul_comm] at this; omega) (by omega) (by omega) (by omega) hY1 (u + X1.length) P1 ((u + X1.length - 1) :: st) hP1 (by omega)) ?_
    rintro _ _ ⟨P2, rfl, rfl, ly2, fr2, ln2⟩
    iterate 6 (refine zv_step (bX0_buildPair (3 * f + 5)) rfl rfl trivial ?_)
    refine zv_V4 (bX0_buildPair (3 * f + 5)) rfl rfl rfl rfl rfl rfl rfl ⟨rfl, rfl, rfl⟩ ⟨by show 2 + 1 ≤ 3 * f + 5; omega, by show 8 + (6 + 11) + 64 * (2) ≤ 64 * (3 * f + 5); omega⟩ ⟨Nat.zero_le _, Nat.zero_le _⟩ (pPut14 (upd O 2 (nI (u + X1.length + Y1.length))) P2 Y g (show (nI (u + X1.length + Y1.length)).toInt ≤ 120 by rw [nI_toInt (by omega)]; omega) (m := u + X1.length + Y1.length) (by omega) rfl (nI kn) (m1) (nI (u + X1.length - 1)) (nI (u + X1.length + Y1.length - 1))) ?_
    rintro r9 w9 hpo
    obtain ⟨rfl, sh, rfl⟩ := putX14 (by omega) hpo
    exact zv_iret (bX0_buildPair (3 * f + 5)) rfl (Or.inl rfl) (Nat.zero_le _) (Nat.zero_le _) ⟨_, by rw [hlen, show u + (X1.length + Y1.length + 1) - 1 = u + X1.length + Y1.length by omega], by rw [hlen, show u + (X1.length + Y1.length + 1) = u + X1.length + Y1.length + 1 by omega], by
      rw [hlen, show u + (X1.length + Y1.length + 1) - 1 = u + X1.length + Y1.length by omega, show u + (X1.length + Y1.length + 1) = u + X1.length + Y1.length + 1 by omega]
      exact lyC_app _ _ _ _ _ (lyC_app _ _ _ _ _ ly1 ly2) (tk_2 k2 k6), fun i hi => (stC_o hi).trans ((fr2 i hi).trans (fr1 i hi)), by rw [hlen]; omega⟩
  | succ w ih2 =>
    intro d hd x9 e9
    subst e9
    have hmono := pfS_mono (E := E) (L := L) (k := kn) (a := a) (b := b) (d + 1) w
    rw [show d + 1 + w = c by omega] at hmono
    iterate 5 (refine zv_step (bX0_buildPair (3 * f + 5)) rfl rfl trivial ?_)
    refine zv_iff (show ¬ nI b - Int32.ofInt 1 ≤ nI (a + 1 + d) by rw [sub_1 (by omega)]; exact fun h => absurd ((nI_leI (by omega) (by omega)).mp h) (by omega)) ?_
    iterate 3 (refine zv_step (bX0_buildPair (3 * f + 5)) rfl rfl trivial ?_)
    refine zv_iale (bX0_buildPair (3 * f + 5)) rfl rfl (show vp_in (nI (a + 1 + d)) 20 by exact vp_in_nI (by omega) (by decide)) (show P 32 (nI (a + 1 + d)).toNatClampNeg = nI (E (a + 1 + d)) by rw [nI_clamp (by omega)]; exact (hE (a + 1 + d) (by omega)).1) ?_
    iterate 4 (refine zv_step (bX0_buildPair (3 * f + 5)) rfl rfl trivial ?_)
    refine zv_ifb (fun h29 => ?_) (fun h29 => ?_)
    · have q29 : E (a + 1 + d) = 18 + kn := (nI_eq (by have := (hE (a + 1 + d) (by omega)).2; omega) (by omega)).mp (show nI (E (a + 1 + d)) = nI (18 + kn) by rw [← nI_add]; exact h29)
      have e9 := pfS_at (L := L) (b := b) q29
      rw [e9] at hmono
      iterate 5 (refine zv_step (bX0_buildPair (3 * f + 5)) rfl rfl trivial ?_)
      refine zv_aald (bX0_buildPair (3 * f + 5)) rfl (Or.inr rfl) rfl (show vp_in (nI (a + 1 + d) + Int32.ofInt 1) 21 by rw [show nI (a + 1 + d) + Int32.ofInt 1 = nI (a + 1 + d + 1) from nI_1 _]; exact vp_in_nI (by omega) (by decide)) (show ([some 34, some 35, some 36, some 37, some 38, some 39, some 40, some 41, some 42, some 43, some 44, some 45, some 46, some 47, some 48, some 49, some 50, some 51, some 52, some 53, some 54] : List (Option Nat)).getD (nI (a + 1 + d) + Int32.ofInt 1).toNatClampNeg none = some (34 + (a + 1 + d + 1)) by rw [show nI (a + 1 + d) + Int32.ofInt 1 = nI (a + 1 + d + 1) from nI_1 _, nI_clamp (by omega)]; exact dLs (by omega)) ?_
      iterate 1 (refine zv_step (bX0_buildPair (3 * f + 5)) rfl rfl trivial ?_)
      refine zv_lale (bX0_buildPair (3 * f + 5)) rfl (wY (upd O 2 (nI (u))) P Y g (by omega)) (show vp_in (nI b) 21 by exact vp_in_nI (by omega) (by decide)) (show Y (34 + (a + 1 + d + 1)) (nI b).toNatClampNeg = lN (L (a + 1 + d + 1) (b)) by rw [nI_clamp (by omega)]; exact hY _ _ (by omega) (by omega)) ?_
      iterate 4 (refine zv_step (bX0_buildPair (3 * f + 5)) rfl rfl trivial ?_)
      refine zv_aald (bX0_buildPair (3 * f + 5)) rfl (Or.inr rfl) rfl (show vp_in (nI a) 21 by exact vp_in_nI (by omega) (by decide)) (show ([some 34, some 35, some 36, some 37, some 38, some 39, some 40, some 41, some 42, some 43, some 44, some 45, some 46, some 47, some 48, some 49, some 50, some 51, some 52, some 53, some 54] : List (Option Nat)).getD (nI a).toNatClampNeg none = some (34 + (a)) by rw [nI_clamp (by omega)]; exact dLs (by omega)) ?_
      iterate 1 (refine zv_step (bX0_buildPair (3 * f + 5)) rfl rfl trivial ?_)
      refine zv_lale (bX0_buildPair (3 * f + 5)) rfl (wY (upd O 2 (nI (u))) P Y g (by omega)) (show vp_in (nI (a + 1 + d)) 21 by exact vp_in_nI (by omega) (by decide)) (show Y (34 + (a)) (nI (a + 1 + d)).toNatClampNeg = lN (L (a) (a + 1 + d)) by rw [nI_clamp (by omega)]; exact hY _ _ (by omega) (by omega)) ?_
      iterate 7 (refine zv_step (bX0_buildPair (3 * f + 5)) rfl rfl trivial ?_)
      refine zv_ift ((lg_cmp_ge _ _).mpr (show lN (L a (a + 1 + d)) * lN (L (a + 1 + d + 1) b) ≤ lN (pfS E L kn a b c + r - pfS E L kn a b d) by rw [htm d (by omega), lN_leJ (by have := (tmW_le (L a (a + 1 + d)) (L (a + 1 + d + 1) b)).1; unfold cap at this; omega) (by omega)]; omega)) ?_
      iterate 6 (refine zv_step (bX0_buildPair (3 * f + 5)) rfl rfl trivial ?_)
      refine zv_locals (l := [(9, .int (nI (a + 1 + d) + Int32.ofInt 1)), (7, .long (lN (pfS E L kn a b c + r - pfS E L kn a b d) - lN (L a (a + 1 + d)) * lN (L (a + 1 + d + 1) b))), (12, .long (lN (L a (a + 1 + d)) * lN (L (a + 1 + d + 1) b))), (10, .long (lN (L (a + 1 + d + 1) b))), (0, .ref 31), (1, .ref 14), (2, .int (nI kn)), (3, .int (nI a)), (4, .int (nI b)), (5, .long kk)]) (l' := [(9, .int (nI (a + 1 + d) + Int32.ofInt 1)), (7, .long (lN (pfS E L kn a b c + r - pfS E L kn a b d) - lN (L a (a + 1 + d)) * lN (L (a + 1 + d + 1) b))), (0, .ref 31), (1, .ref 14), (2, .int (nI kn)), (3, .int (nI a)), (4, .int (nI b)), (5, .long kk)]) (by simp) ?_
      rw [htm d (by omega), lN_sub (by omega), show pfS E L kn a b c + r - pfS E L kn a b d - tmW (L a (a + 1 + d)) (L (a + 1 + d + 1) b) = pfS E L kn a b c + r - pfS E L kn a b (d + 1) by rw [e9]; omega]
      exact ih2 (d + 1) (by omega) (nI_1 _)
    · have q29 : ¬ E (a + 1 + d) = 18 + kn := fun e => h29 (show nI (E (a + 1 + d)) = nI 18 + nI kn by rw [nI_add, e])
      iterate 3 (refine zv_step (bX0_buildPair (3 * f + 5)) rfl rfl trivial ?_)
      have e9 : pfS E L kn a b (d + 1) = pfS E L kn a b d := by
        show _ + _ = _
        rw [if_neg q29]
        rfl
      rw [← e9]
      exact ih2 (d + 1) (by omega) (nI_1 _)
set_option maxHeartbeats 1000000 in
set_option maxRecDepth 20000 in
theorem hBPX14 {O : Nat → Int32} {Y : Nat → Nat → Int64} {g : Nat → zC} {P0 : Nat → Nat → Int32} {n : Nat} {E : Nat → Nat} (hE0 : eaR n P0 E) (hn : n ≤ 20) {G : Nat → Int32} (hG : gfR (O 12) G) {lt : Nat → Nat → Bool} (h0 : btR (O 10) (fun k => lt k 0)) (h1 : btR (O 11) (fun k => lt k 1)) {L : Nat → Nat → Nat} (hY : ∀ c d, c < d → d ≤ n → Y (34 + c) d = lN (L c d)) (hB : ∀ c d, c < d → d ≤ n → L c d ≤ 5 ^ (d - c - 1)) {f : Nat} (ih : ∀ (i j p : Nat) (T : List (Nat × Nat)) (x y : Int32) (z : Int64), x = nI i → y = nI j → z = lN p → i < j → j ≤ n → j - i ≤ f → RT E (mG E G lt L) L f i j p T → ∀ (u : Nat) (P : Nat → Nat → Int32) (st : List Nat), P 32 = P0 32 → u + T.length ≤ 120 → zK (3 * f + 4) zX0_buildSpan [.ref 31, .ref 14, .int x, .int y, .long z] (wX (upd O 2 (nI (u))) P Y g) (fun r w' => ∃ P' : Nat → Nat → Int32, r = some (.int (nI (u + T.length - 1))) ∧ w' = wX (upd O 2 (nI (u + T.length))) P' Y g ∧ lyC 14 T (P, u, st) (P', u + T.length, (u + T.length - 1) :: st) ∧ (∀ i, ¬ (14 < i ∧ i ≤ 26) → P' i = P i) ∧ 1 ≤ T.length)) {u : Nat} {P : Nat → Nat → Int32} {st : List Nat} (hP : P 32 = P0 32) {kn a b c r : Nat} {X1 Y1 : List (Nat × Nat)} (k2 : 2 ≤ kn) (k6 : kn ≤ 6) (hb : b ≤ n) (hf : b - a ≤ f + 1) (hc : a + 1 + c + 1 < b) (hEc : E (a + 1 + c) = 18 + kn) (hr : r < tmW (L a (a + 1 + c)) (L (a + 1 + c + 1) b)) (hX : RT E (mG E G lt L) L f a (a + 1 + c) (r / L (a + 1 + c + 1) b) X1) (hY1 : RT E (mG E G lt L) L f (a + 1 + c + 1) b (r % L (a + 1 + c + 1) b) Y1) (hu : u + (X1.length + Y1.length + 1) ≤ 120) {q : Nat} (hq : q = pfS E L kn a b c + r) (hq9 : q < 2 ^ 62) : zK (3 * f + 5) zX0_buildPair [.ref 31, .ref 14, .int (nI kn), .int (nI a), .int (nI b), .long (lN q)] (wX (upd O 2 (nI (u))) P Y g) (fun r w' => ∃ P' : Nat → Nat → Int32, r = some (.int (nI (u + (X1 ++ Y1 ++ [(kn, 0)]).length - 1))) ∧ w' = wX (upd O 2 (nI (u + (X1 ++ Y1 ++ [(kn, 0)]).length))) P' Y g ∧ lyC 14 (X1 ++ Y1 ++ [(kn, 0)]) (P, u, st) (P', u + (X1 ++ Y1 ++ [(kn, 0)]).length, (u + (X1 ++ Y1 ++ [(kn, 0)]).length - 1) :: st) ∧ (∀ i, ¬ (14 < i ∧ i ≤ 26) → P' i = P i) ∧ 1 ≤ (X1 ++ Y1 ++ [(kn, 0)]).length) := by
  refine zK_of qX0_buildPair (by decide +kernel) rfl ?_
  iterate 6 (refine zv_step (bX0_buildPair (3 * f + 5)) rfl rfl trivial ?_)
  subst hq
  exact hBPLX14 hE0 hn hG h0 h1 hY hB ih hP k2 k6 hb hf hc hEc hr hX hY1 hu hq9 _ c 0 (by omega) (nI_1 a)
set_option maxHeartbeats 1000000 in
set_option maxRecDepth 20000 in
theorem hBB0X14 {O : Nat → Int32} {Y : Nat → Nat → Int64} {g : Nat → zC} {P0 : Nat → Nat → Int32} {n : Nat} {E : Nat → Nat} (hE0 : eaR n P0 E) (hn : n ≤ 20) {G : Nat → Int32} (hG : gfR (O 12) G) {lt : Nat → Nat → Bool} (h0 : btR (O 10) (fun k => lt k 0)) (h1 : btR (O 11) (fun k => lt k 1)) {L : Nat → Nat → Nat} (hY : ∀ c d, c < d → d ≤ n → Y (34 + c) d = lN (L c d)) (hB : ∀ c d, c < d → d ≤ n → L c d ≤ 5 ^ (d - c - 1)) {f : Nat} {u : Nat} {P : Nat → Nat → Int32} {st : List Nat} (hP : P 32 = P0 32) {a b : Nat} (hab : a < b) (hb : b ≤ n) (hu : u + 1 ≤ 120) (kk : Int64) {x y : Int32} (ex : x = nI a) (ey : y = nI b) : zK (3 * f + 6) zX0_buildBare [.ref 31, .ref 14, .int (nI 0), .int x, .int y, .long kk] (wX (upd O 2 (nI (u))) P Y g) (fun r w' => ∃ P' : Nat → Nat → Int32, r = some (.int (nI (u + [(0, E a)].length - 1))) ∧ w' = wX (upd O 2 (nI (u + [(0, E a)].length))) P' Y g ∧ lyC 14 [(0, E a)] (P, u, st) (P', u + [(0, E a)].length, (u + [(0, E a)].length - 1) :: st) ∧ (∀ i, ¬ (14 < i ∧ i ≤ 26) → P' i = P i) ∧ 1 ≤ [(0, E a)].length) := by
  subst ex ey
  have hE := eaR_r hE0 hP
  refine zK_of qX0_buildBare (by decide +kernel) rfl ?_
  iterate 1 (refine zv_step (bX0_buildBare (3 * f + 6)) rfl rfl trivial ?_)
  refine zv_S1 (bX0_buildBare (3 * f + 6)) rfl rfl rfl rfl ⟨rfl, rfl, rfl⟩ ⟨by show 0 + 1 ≤ 3 * f + 6; omega, by show 8 + (1 + 11) + 64 * (0) ≤ 64 * (3 * f + 6); omega⟩ ⟨Nat.zero_le _, Nat.zero_le _⟩ (hX1_isPair _ _) ?_
  rintro _ _ ⟨rfl, ⟨hpr, rfl⟩ | ⟨hpr, rfl⟩⟩
  · skip
    iterate 1 (refine zv_step (bX0_buildBare (3 * f + 6)) rfl rfl trivial ?_)
    refine zv_iff (by decide) ?_
    exact absurd hpr (by decide)
  · skip
    iterate 1 (refine zv_step (bX0_buildBare (3 * f + 6)) rfl rfl trivial ?_)
    refine zv_ift (by decide) ?_
    iterate 2 (refine zv_step (bX0_buildBare (3 * f + 6)) rfl rfl trivial ?_)
    refine zv_iff (fun h => h rfl) ?_
    iterate 5 (refine zv_step (bX0_buildBare (3 * f + 6)) rfl rfl trivial ?_)
    refine zv_iale (bX0_buildBare (3 * f + 6)) rfl rfl (show vp_in (nI a) 20 by exact vp_in_nI (by omega) (by decide)) (show P 32 (nI a).toNatClampNeg = nI (E (a)) by rw [nI_clamp (by omega)]; exact (hE (a) (by omega)).1) ?_
    iterate 2 (refine zv_step (bX0_buildBare (3 * f + 6)) rfl rfl trivial ?_)
    refine zv_V4 (bX0_buildBare (3 * f + 6)) rfl rfl rfl rfl rfl rfl rfl ⟨rfl, rfl, rfl⟩ ⟨by show 2 + 1 ≤ 3 * f + 6; omega, by show 8 + (6 + 11) + 64 * (2) ≤ 64 * (3 * f + 6); omega⟩ ⟨Nat.zero_le _, Nat.zero_le _⟩ (pPut14 (upd O 2 (nI (u))) P Y g (show (nI (u)).toInt ≤ 120 by rw [nI_toInt (by omega)]; omega) (m := u) (by omega) rfl (nI 0) (nI (E a)) (m1) (m1)) ?_
    rintro r9 w9 hpo
    obtain ⟨rfl, sh, rfl⟩ := putX14 (by omega) hpo
    exact zv_iret (bX0_buildBare (3 * f + 6)) rfl (Or.inl rfl) (Nat.zero_le _) (Nat.zero_le _) ⟨_, rfl, rfl, tk_0 (by omega), fun i hi => stC_o hi, Nat.le_refl 1⟩
set_option maxHeartbeats 1000000 in
set_option maxRecDepth 20000 in
theorem hBB1X14 {O : Nat → Int32} {Y : Nat → Nat → Int64} {g : Nat → zC} {P0 : Nat → Nat → Int32} {n : Nat} {E : Nat → Nat} (hE0 : eaR n P0 E) (hn : n ≤ 20) {G : Nat → Int32} (hG : gfR (O 12) G) {lt : Nat → Nat → Bool} (h0 : btR (O 10) (fun k => lt k 0)) (h1 : btR (O 11) (fun k => lt k 1)) {L : Nat → Nat → Nat} (hY : ∀ c d, c < d → d ≤ n → Y (34 + c) d = lN (L c d)) (hB : ∀ c d, c < d → d ≤ n → L c d ≤ 5 ^ (d - c - 1)) {f : Nat} {u : Nat} {P : Nat → Nat → Int32} {st : List Nat} (hP : P 32 = P0 32) {a b : Nat} (hab : a < b) (hb : b ≤ n) (hnm : isNumB E a b = true) (hu : u + 1 ≤ 120) (kk : Int64) {x y : Int32} (ex : x = nI a) (ey : y = nI b) : zK (3 * f + 6) zX0_buildBare [.ref 31, .ref 14, .int (nI 1), .int x, .int y, .long kk] (wX (upd O 2 (nI (u))) P Y g) (fun r w' => ∃ P' : Nat → Nat → Int32, r = some (.int (nI (u + [(1, nvN E (b - a) a 0)].length - 1))) ∧ w' = wX (upd O 2 (nI (u + [(1, nvN E (b - a) a 0)].length))) P' Y g ∧ lyC 14 [(1, nvN E (b - a) a 0)] (P, u, st) (P', u + [(1, nvN E (b - a) a 0)].length, (u + [(1, nvN E (b - a) a 0)].length - 1) :: st) ∧ (∀ i, ¬ (14 < i ∧ i ≤ 26) → P' i = P i) ∧ 1 ≤ [(1, nvN E (b - a) a 0)].length) := by
  subst ex ey
  have hE := eaR_r hE0 hP
  refine zK_of qX0_buildBare (by decide +kernel) rfl ?_
  iterate 1 (refine zv_step (bX0_buildBare (3 * f + 6)) rfl rfl trivial ?_)
  refine zv_S1 (bX0_buildBare (3 * f + 6)) rfl rfl rfl rfl ⟨rfl, rfl, rfl⟩ ⟨by show 0 + 1 ≤ 3 * f + 6; omega, by show 8 + (1 + 11) + 64 * (0) ≤ 64 * (3 * f + 6); omega⟩ ⟨Nat.zero_le _, Nat.zero_le _⟩ (hX1_isPair _ _) ?_
  rintro _ _ ⟨rfl, ⟨hpr, rfl⟩ | ⟨hpr, rfl⟩⟩
  · skip
    iterate 1 (refine zv_step (bX0_buildBare (3 * f + 6)) rfl rfl trivial ?_)
    refine zv_iff (by decide) ?_
    exact absurd hpr (by decide)
  · skip
    iterate 1 (refine zv_step (bX0_buildBare (3 * f + 6)) rfl rfl trivial ?_)
    refine zv_ift (by decide) ?_
    iterate 2 (refine zv_step (bX0_buildBare (3 * f + 6)) rfl rfl trivial ?_)
    refine zv_ift (by decide) ?_
    iterate 3 (refine zv_step (bX0_buildBare (3 * f + 6)) rfl rfl trivial ?_)
    refine zv_iff (fun h => h rfl) ?_
    iterate 5 (refine zv_step (bX0_buildBare (3 * f + 6)) rfl rfl trivial ?_)
    refine zv_V2 (bX0_buildBare (3 * f + 6)) rfl rfl rfl rfl rfl rfl rfl ⟨rfl, rfl, rfl⟩ ⟨by show 0 + 1 ≤ 3 * f + 6; omega, by show 8 + (6 + 11) + 64 * (0) ≤ 64 * (3 * f + 6); omega⟩ ⟨Nat.zero_le _, Nat.zero_le _⟩ (hNum (upd O 2 (nI (u))) P Y g hab (by omega)) ?_
    rintro _ _ ⟨rfl, rfl⟩
    rw [nmW_num hE hab hb, if_pos hnm]
    iterate 2 (refine zv_step (bX0_buildBare (3 * f + 6)) rfl rfl trivial ?_)
    refine zv_V4 (bX0_buildBare (3 * f + 6)) rfl rfl rfl rfl rfl rfl rfl ⟨rfl, rfl, rfl⟩ ⟨by show 2 + 1 ≤ 3 * f + 6; omega, by show 8 + (6 + 11) + 64 * (2) ≤ 64 * (3 * f + 6); omega⟩ ⟨Nat.zero_le _, Nat.zero_le _⟩ (pPut14 (upd O 2 (nI (u))) P Y g (show (nI (u)).toInt ≤ 120 by rw [nI_toInt (by omega)]; omega) (m := u) (by omega) rfl (nI 1) (nI (nvN E (b - a) a 0)) (m1) (m1)) ?_
    rintro r9 w9 hpo
    obtain ⟨rfl, sh, rfl⟩ := putX14 (by omega) hpo
    exact zv_iret (bX0_buildBare (3 * f + 6)) rfl (Or.inl rfl) (Nat.zero_le _) (Nat.zero_le _) ⟨_, rfl, rfl, tk_0 (by omega), fun i hi => stC_o hi, Nat.le_refl 1⟩
set_option maxHeartbeats 1000000 in
set_option maxRecDepth 20000 in
theorem hBBUX14 {O : Nat → Int32} {Y : Nat → Nat → Int64} {g : Nat → zC} {P0 : Nat → Nat → Int32} {n : Nat} {E : Nat → Nat} (hE0 : eaR n P0 E) (hn : n ≤ 20) {G : Nat → Int32} (hG : gfR (O 12) G) {lt : Nat → Nat → Bool} (h0 : btR (O 10) (fun k => lt k 0)) (h1 : btR (O 11) (fun k => lt k 1)) {L : Nat → Nat → Nat} (hY : ∀ c d, c < d → d ≤ n → Y (34 + c) d = lN (L c d)) (hB : ∀ c d, c < d → d ≤ n → L c d ≤ 5 ^ (d - c - 1)) {f : Nat} (ih : ∀ (i j p : Nat) (T : List (Nat × Nat)) (x y : Int32) (z : Int64), x = nI i → y = nI j → z = lN p → i < j → j ≤ n → j - i ≤ f → RT E (mG E G lt L) L f i j p T → ∀ (u : Nat) (P : Nat → Nat → Int32) (st : List Nat), P 32 = P0 32 → u + T.length ≤ 120 → zK (3 * f + 4) zX0_buildSpan [.ref 31, .ref 14, .int x, .int y, .long z] (wX (upd O 2 (nI (u))) P Y g) (fun r w' => ∃ P' : Nat → Nat → Int32, r = some (.int (nI (u + T.length - 1))) ∧ w' = wX (upd O 2 (nI (u + T.length))) P' Y g ∧ lyC 14 T (P, u, st) (P', u + T.length, (u + T.length - 1) :: st) ∧ (∀ i, ¬ (14 < i ∧ i ≤ 26) → P' i = P i) ∧ 1 ≤ T.length)) {u : Nat} {P : Nat → Nat → Int32} {st : List Nat} (hP : P 32 = P0 32) {kn a b q : Nat} {X1 : List (Nat × Nat)} (k7 : 7 ≤ kn) (hk : kn < 10) (hb : b ≤ n) (hf : b - a ≤ f + 1) (hq : q < wi E G L kn a b) (hX : RT E (mG E G lt L) L f (pfN kn a) (ptN kn b) q X1) (hu : u + (X1.length + 1) ≤ 120) {x y : Int32} (ex : x = nI a) (ey : y = nI b) : zK (3 * f + 6) zX0_buildBare [.ref 31, .ref 14, .int (nI kn), .int x, .int y, .long (lN q)] (wX (upd O 2 (nI (u))) P Y g) (fun r w' => ∃ P' : Nat → Nat → Int32, r = some (.int (nI (u + (X1 ++ [(kn, E a)]).length - 1))) ∧ w' = wX (upd O 2 (nI (u + (X1 ++ [(kn, E a)]).length))) P' Y g ∧ lyC 14 (X1 ++ [(kn, E a)]) (P, u, st) (P', u + (X1 ++ [(kn, E a)]).length, (u + (X1 ++ [(kn, E a)]).length - 1) :: st) ∧ (∀ i, ¬ (14 < i ∧ i ≤ 26) → P' i = P i) ∧ 1 ≤ (X1 ++ [(kn, E a)]).length) := by
  subst ex ey
  have hE := eaR_r hE0 hP
  have hlen : (X1 ++ [(kn, E a)]).length = X1.length + 1 := by rw [List.length_append]; rfl
  obtain ⟨hab, w1, w2, w3, w4, w5⟩ := wi_un k7 hk hq
  refine zK_of qX0_buildBare (by decide +kernel) rfl ?_
  iterate 1 (refine zv_step (bX0_buildBare (3 * f + 6)) rfl rfl trivial ?_)
  refine zv_S1 (bX0_buildBare (3 * f + 6)) rfl rfl rfl rfl ⟨rfl, rfl, rfl⟩ ⟨by show 0 + 1 ≤ 3 * f + 6; omega, by show 8 + (1 + 11) + 64 * (0) ≤ 64 * (3 * f + 6); omega⟩ ⟨Nat.zero_le _, Nat.zero_le _⟩ (hX1_isPair _ _) ?_
  rintro _ _ ⟨rfl, ⟨hpr, rfl⟩ | ⟨hpr, rfl⟩⟩
  · rw [nI_toInt (by omega)] at hpr
    iterate 1 (refine zv_step (bX0_buildBare (3 * f + 6)) rfl rfl trivial ?_)
    refine zv_iff (by decide) ?_
    omega
  · skip
    iterate 1 (refine zv_step (bX0_buildBare (3 * f + 6)) rfl rfl trivial ?_)
    refine zv_ift (by decide) ?_
    iterate 2 (refine zv_step (bX0_buildBare (3 * f + 6)) rfl rfl trivial ?_)
    refine zv_ift (fun h => absurd ((nI_eq (b := 0) (by omega) (by decide)).mp h) (by omega)) ?_
    iterate 3 (refine zv_step (bX0_buildBare (3 * f + 6)) rfl rfl trivial ?_)
    refine zv_ift (fun h => absurd ((nI_eq (b := 1) (by omega) (by decide)).mp h) (by omega)) ?_
    iterate 4 (refine zv_step (bX0_buildBare (3 * f + 6)) rfl rfl trivial ?_)
    refine zv_S2 (bX0_buildBare (3 * f + 6)) rfl rfl rfl rfl ⟨rfl, rfl, rfl⟩ ⟨by show 0 + 1 ≤ 3 * f + 6; omega, by show 8 + (2 + 11) + 64 * (0) ≤ 64 * (3 * f + 6); omega⟩ ⟨Nat.zero_le _, Nat.zero_le _⟩ (hFrom _ _ _) ?_
    rintro _ _ ⟨rfl, rfl⟩
    iterate 2 (refine zv_step (bX0_buildBare (3 * f + 6)) rfl rfl trivial ?_)
    refine zv_S2 (bX0_buildBare (3 * f + 6)) rfl rfl rfl rfl ⟨rfl, rfl, rfl⟩ ⟨by show 0 + 1 ≤ 3 * f + 6; omega, by show 8 + (2 + 11) + 64 * (0) ≤ 64 * (3 * f + 6); omega⟩ ⟨Nat.zero_le _, Nat.zero_le _⟩ (hTo _ _ _) ?_
    rintro _ _ ⟨rfl, rfl⟩
    iterate 1 (refine zv_step (bX0_buildBare (3 * f + 6)) rfl rfl trivial ?_)
    refine zv_V4 (bX0_buildBare (3 * f + 6)) rfl rfl rfl rfl rfl rfl rfl ⟨rfl, rfl, rfl⟩ ⟨by show 3 * f + 4 + 1 ≤ 3 * f + 6; omega, by show 8 + (14 + 11) + 64 * (3 * f + 4) ≤ 64 * (3 * f + 6); omega⟩ ⟨Nat.zero_le _, Nat.zero_le _⟩ (ih (pfN kn a) (ptN kn b) q X1 _ _ _ (pf_N hk) (pt_N hk (by omega)) rfl w3 (by omega) (by omega) hX u P st hP (by omega)) ?_
    rintro _ _ ⟨P1, rfl, rfl, ly1, fr1, ln1⟩
    have hP1 : P1 32 = P0 32 := (fr1 32 (by omega)).trans hP
    have hE1 := eaR_r hE0 hP1
    iterate 6 (refine zv_step (bX0_buildBare (3 * f + 6)) rfl rfl trivial ?_)
    refine zv_ifb (fun h82 => ?_) (fun h82 => ?_)
    · have q82 : ¬ kn = 9 := fun e => h82 (by rw [e]; rfl)
      iterate 3 (refine zv_step (bX0_buildBare (3 * f + 6)) rfl rfl trivial ?_)
      refine zv_V4 (bX0_buildBare (3 * f + 6)) rfl rfl rfl rfl rfl rfl rfl ⟨rfl, rfl, rfl⟩ ⟨by show 2 + 1 ≤ 3 * f + 6; omega, by show 8 + (6 + 11) + 64 * (2) ≤ 64 * (3 * f + 6); omega⟩ ⟨Nat.zero_le _, Nat.zero_le _⟩ (pPut14 (upd O 2 (nI (u + X1.length))) P1 Y g (show (nI (u + X1.length)).toInt ≤ 120 by rw [nI_toInt (by omega)]; omega) (m := u + X1.length) (by omega) rfl (nI kn) (m1) (nI (u + X1.length - 1)) (m1)) ?_
      rintro r9 w9 hpo
      obtain ⟨rfl, sh, rfl⟩ := putX14 (by omega) hpo
      have hl9 : lyC 14 [(kn, E a)] (P1, u + X1.length, (u + X1.length - 1) :: st) (stC 14 P1 (u + X1.length) (nI kn) (m1) (nI (u + X1.length - 1)) m1 sh, u + X1.length + 1, (u + X1.length) :: st) := by
        have h := tk_1 (b := 14) (v := E a) (u := u + X1.length) (x := u + X1.length - 1) (P := P1) (st := st) (sh := sh) k7
        rw [if_neg q82] at h
        exact h
      have hly := lyC_app _ _ _ _ _ ly1 hl9
      refine zv_iret (bX0_buildBare (3 * f + 6)) rfl (Or.inl rfl) (Nat.zero_le _) (Nat.zero_le _) ⟨stC 14 P1 (u + X1.length) (nI kn) (m1) (nI (u + X1.length - 1)) m1 sh, ?_, ?_, ?_, fun i hi => (stC_o hi).trans (fr1 i hi), ?_⟩
      · rw [hlen]
        rfl
      · rw [hlen]
        rfl
      · rw [hlen]
        exact hly
      · rw [hlen]
        omega
    · have q82 : kn = 9 := (nI_eq (b := 9) (by omega) (by decide)).mp (Decidable.not_not.mp h82)
      iterate 3 (refine zv_step (bX0_buildBare (3 * f + 6)) rfl rfl trivial ?_)
      refine zv_iale (bX0_buildBare (3 * f + 6)) rfl rfl (show vp_in (nI a) 20 by exact vp_in_nI (by omega) (by decide)) (show P1 32 (nI a).toNatClampNeg = nI (E (a)) by rw [nI_clamp (by omega)]; exact (hE1 (a) (by omega)).1) ?_
      iterate 3 (refine zv_step (bX0_buildBare (3 * f + 6)) rfl rfl trivial ?_)
      refine zv_V4 (bX0_buildBare (3 * f + 6)) rfl rfl rfl rfl rfl rfl rfl ⟨rfl, rfl, rfl⟩ ⟨by show 2 + 1 ≤ 3 * f + 6; omega, by show 8 + (6 + 11) + 64 * (2) ≤ 64 * (3 * f + 6); omega⟩ ⟨Nat.zero_le _, Nat.zero_le _⟩ (pPut14 (upd O 2 (nI (u + X1.length))) P1 Y g (show (nI (u + X1.length)).toInt ≤ 120 by rw [nI_toInt (by omega)]; omega) (m := u + X1.length) (by omega) rfl (nI kn) (nI (E a)) (nI (u + X1.length - 1)) (m1)) ?_
      rintro r9 w9 hpo
      obtain ⟨rfl, sh, rfl⟩ := putX14 (by omega) hpo
      have hl9 : lyC 14 [(kn, E a)] (P1, u + X1.length, (u + X1.length - 1) :: st) (stC 14 P1 (u + X1.length) (nI kn) (nI (E a)) (nI (u + X1.length - 1)) m1 sh, u + X1.length + 1, (u + X1.length) :: st) := by
        have h := tk_1 (b := 14) (v := E a) (u := u + X1.length) (x := u + X1.length - 1) (P := P1) (st := st) (sh := sh) k7
        rw [if_pos q82] at h
        exact h
      have hly := lyC_app _ _ _ _ _ ly1 hl9
      refine zv_iret (bX0_buildBare (3 * f + 6)) rfl (Or.inl rfl) (Nat.zero_le _) (Nat.zero_le _) ⟨stC 14 P1 (u + X1.length) (nI kn) (nI (E a)) (nI (u + X1.length - 1)) m1 sh, ?_, ?_, ?_, fun i hi => (stC_o hi).trans (fr1 i hi), ?_⟩
      · rw [hlen]
        rfl
      · rw [hlen]
        rfl
      · rw [hlen]
        exact hly
      · rw [hlen]
        omega
set_option maxHeartbeats 1000000 in
set_option maxRecDepth 20000 in
theorem hBBPX14 {O : Nat → Int32} {Y : Nat → Nat → Int64} {g : Nat → zC} {P0 : Nat → Nat → Int32} {n : Nat} {E : Nat → Nat} (hE0 : eaR n P0 E) (hn : n ≤ 20) {G : Nat → Int32} (hG : gfR (O 12) G) {lt : Nat → Nat → Bool} (h0 : btR (O 10) (fun k => lt k 0)) (h1 : btR (O 11) (fun k => lt k 1)) {L : Nat → Nat → Nat} (hY : ∀ c d, c < d → d ≤ n → Y (34 + c) d = lN (L c d)) (hB : ∀ c d, c < d → d ≤ n → L c d ≤ 5 ^ (d - c - 1)) {f : Nat} (ih : ∀ (i j p : Nat) (T : List (Nat × Nat)) (x y : Int32) (z : Int64), x = nI i → y = nI j → z = lN p → i < j → j ≤ n → j - i ≤ f → RT E (mG E G lt L) L f i j p T → ∀ (u : Nat) (P : Nat → Nat → Int32) (st : List Nat), P 32 = P0 32 → u + T.length ≤ 120 → zK (3 * f + 4) zX0_buildSpan [.ref 31, .ref 14, .int x, .int y, .long z] (wX (upd O 2 (nI (u))) P Y g) (fun r w' => ∃ P' : Nat → Nat → Int32, r = some (.int (nI (u + T.length - 1))) ∧ w' = wX (upd O 2 (nI (u + T.length))) P' Y g ∧ lyC 14 T (P, u, st) (P', u + T.length, (u + T.length - 1) :: st) ∧ (∀ i, ¬ (14 < i ∧ i ≤ 26) → P' i = P i) ∧ 1 ≤ T.length)) {u : Nat} {P : Nat → Nat → Int32} {st : List Nat} (hP : P 32 = P0 32) {kn a b c r : Nat} {X1 Y1 : List (Nat × Nat)} (k2 : 2 ≤ kn) (k6 : kn ≤ 6) (hb : b ≤ n) (hf : b - a ≤ f + 1) (hc : a + 1 + c + 1 < b) (hEc : E (a + 1 + c) = 18 + kn) (hr : r < tmW (L a (a + 1 + c)) (L (a + 1 + c + 1) b)) (hX : RT E (mG E G lt L) L f a (a + 1 + c) (r / L (a + 1 + c + 1) b) X1) (hY1 : RT E (mG E G lt L) L f (a + 1 + c + 1) b (r % L (a + 1 + c + 1) b) Y1) (hu : u + (X1.length + Y1.length + 1) ≤ 120) {q : Nat} (hq : q = pfS E L kn a b c + r) (hq9 : q < 2 ^ 62) {x y : Int32} (ex : x = nI a) (ey : y = nI b) : zK (3 * f + 6) zX0_buildBare [.ref 31, .ref 14, .int (nI kn), .int x, .int y, .long (lN q)] (wX (upd O 2 (nI (u))) P Y g) (fun r w' => ∃ P' : Nat → Nat → Int32, r = some (.int (nI (u + (X1 ++ Y1 ++ [(kn, 0)]).length - 1))) ∧ w' = wX (upd O 2 (nI (u + (X1 ++ Y1 ++ [(kn, 0)]).length))) P' Y g ∧ lyC 14 (X1 ++ Y1 ++ [(kn, 0)]) (P, u, st) (P', u + (X1 ++ Y1 ++ [(kn, 0)]).length, (u + (X1 ++ Y1 ++ [(kn, 0)]).length - 1) :: st) ∧ (∀ i, ¬ (14 < i ∧ i ≤ 26) → P' i = P i) ∧ 1 ≤ (X1 ++ Y1 ++ [(kn, 0)]).length) := by
  subst ex ey
  refine zK_of qX0_buildBare (by decide +kernel) rfl ?_
  iterate 1 (refine zv_step (bX0_buildBare (3 * f + 6)) rfl rfl trivial ?_)
  refine zv_S1 (bX0_buildBare (3 * f + 6)) rfl rfl rfl rfl ⟨rfl, rfl, rfl⟩ ⟨by show 0 + 1 ≤ 3 * f + 6; omega, by show 8 + (1 + 11) + 64 * (0) ≤ 64 * (3 * f + 6); omega⟩ ⟨Nat.zero_le _, Nat.zero_le _⟩ (hX1_isPair _ _) ?_
  rintro _ _ ⟨rfl, ⟨hpr, rfl⟩ | ⟨hpr, rfl⟩⟩
  · skip
    iterate 1 (refine zv_step (bX0_buildBare (3 * f + 6)) rfl rfl trivial ?_)
    refine zv_iff (by decide) ?_
    iterate 6 (refine zv_step (bX0_buildBare (3 * f + 6)) rfl rfl trivial ?_)
    refine zv_V5 (bX0_buildBare (3 * f + 6)) rfl rfl rfl rfl rfl rfl rfl ⟨rfl, rfl, rfl⟩ ⟨by show 3 * f + 5 + 1 ≤ 3 * f + 6; omega, by show 8 + (16 + 11) + 64 * (3 * f + 5) ≤ 64 * (3 * f + 6); omega⟩ ⟨Nat.zero_le _, Nat.zero_le _⟩ (hBPX14 hE0 hn hG h0 h1 hY hB ih (st := st) hP k2 k6 hb hf hc hEc hr hX hY1 hu hq hq9) ?_
    rintro _ _ ⟨P1, rfl, rfl, ly1, fr1, ln1⟩
    exact zv_iret (bX0_buildBare (3 * f + 6)) rfl (Or.inl rfl) (Nat.zero_le _) (Nat.zero_le _) ⟨P1, rfl, rfl, ly1, fr1, ln1⟩
  · skip
    iterate 1 (refine zv_step (bX0_buildBare (3 * f + 6)) rfl rfl trivial ?_)
    refine zv_ift (by decide) ?_
    exact absurd (show 2 ≤ (nI kn).toInt ∧ (nI kn).toInt ≤ 6 by rw [nI_toInt (by omega)]; omega) hpr
theorem hBBX14 {O : Nat → Int32} {Y : Nat → Nat → Int64} {g : Nat → zC} {P0 : Nat → Nat → Int32} {n : Nat} {E : Nat → Nat} (hE0 : eaR n P0 E) (hn : n ≤ 20) {G : Nat → Int32} (hG : gfR (O 12) G) {lt : Nat → Nat → Bool} (h0 : btR (O 10) (fun k => lt k 0)) (h1 : btR (O 11) (fun k => lt k 1)) {L : Nat → Nat → Nat} (hY : ∀ c d, c < d → d ≤ n → Y (34 + c) d = lN (L c d)) (hB : ∀ c d, c < d → d ≤ n → L c d ≤ 5 ^ (d - c - 1)) {f : Nat} (ih : ∀ (i j p : Nat) (T : List (Nat × Nat)) (x y : Int32) (z : Int64), x = nI i → y = nI j → z = lN p → i < j → j ≤ n → j - i ≤ f → RT E (mG E G lt L) L f i j p T → ∀ (u : Nat) (P : Nat → Nat → Int32) (st : List Nat), P 32 = P0 32 → u + T.length ≤ 120 → zK (3 * f + 4) zX0_buildSpan [.ref 31, .ref 14, .int x, .int y, .long z] (wX (upd O 2 (nI (u))) P Y g) (fun r w' => ∃ P' : Nat → Nat → Int32, r = some (.int (nI (u + T.length - 1))) ∧ w' = wX (upd O 2 (nI (u + T.length))) P' Y g ∧ lyC 14 T (P, u, st) (P', u + T.length, (u + T.length - 1) :: st) ∧ (∀ i, ¬ (14 < i ∧ i ≤ 26) → P' i = P i) ∧ 1 ≤ T.length)) {u : Nat} {P : Nat → Nat → Int32} {st : List Nat} (hP : P 32 = P0 32) {kn a b q : Nat} {T : List (Nat × Nat)} (hk : kn < 10) (hab : a < b) (hb : b ≤ n) (hf : b - a ≤ f + 1) (hq : q < wi E G L kn a b) (hq9 : q < 2 ^ 62) (hT : RK E L (RT E (mG E G lt L) L f) kn a b q T) (hu : u + T.length ≤ 120) {x y : Int32} (ex : x = nI a) (ey : y = nI b) : zK (3 * f + 6) zX0_buildBare [.ref 31, .ref 14, .int (nI kn), .int x, .int y, .long (lN q)] (wX (upd O 2 (nI (u))) P Y g) (fun r w' => ∃ P' : Nat → Nat → Int32, r = some (.int (nI (u + T.length - 1))) ∧ w' = wX (upd O 2 (nI (u + T.length))) P' Y g ∧ lyC 14 T (P, u, st) (P', u + T.length, (u + T.length - 1) :: st) ∧ (∀ i, ¬ (14 < i ∧ i ≤ 26) → P' i = P i) ∧ 1 ≤ T.length) := by
  rcases hT with ⟨a1, a2⟩ | ⟨a1, X1, a2, a3⟩ | ⟨a1, a2, c, r, X1, Y1, b1, b2, b3, b4, b5, b6, b7⟩
  · rcases (show kn = 0 ∨ kn = 1 by omega) with e | e
    · subst e
      subst a2
      exact hBB0X14 hE0 hn hG h0 h1 hY hB hP hab hb hu _ ex ey
    · subst e
      subst a2
      refine hBB1X14 hE0 hn hG h0 h1 hY hB hP hab hb ?_ hu _ ex ey
      rw [wi_1 hab] at hq
      split at hq
      · assumption
      · omega
  · subst a2
    exact hBBUX14 hE0 hn hG h0 h1 hY hB ih hP a1 hk hb hf hq a3 (by rw [List.length_append] at hu; exact hu) ex ey
  · subst b5
    exact hBBPX14 hE0 hn hG h0 h1 hY hB ih hP a1 a2 hb hf b1 b2 b4 b6 b7 (by rw [List.length_append, List.length_append] at hu; exact hu) b3 hq9 ex ey
set_option maxHeartbeats 1000000 in
set_option maxRecDepth 20000 in
theorem hBSLX14 {O : Nat → Int32} {Y : Nat → Nat → Int64} {g : Nat → zC} {P0 : Nat → Nat → Int32} {n : Nat} {E : Nat → Nat} (hE0 : eaR n P0 E) (hn : n ≤ 20) {G : Nat → Int32} (hG : gfR (O 12) G) {lt : Nat → Nat → Bool} (h0 : btR (O 10) (fun k => lt k 0)) (h1 : btR (O 11) (fun k => lt k 1)) {L : Nat → Nat → Nat} (hY : ∀ c d, c < d → d ≤ n → Y (34 + c) d = lN (L c d)) (hB : ∀ c d, c < d → d ≤ n → L c d ≤ 5 ^ (d - c - 1)) {f : Nat} (ih : ∀ (i j p : Nat) (T : List (Nat × Nat)) (x y : Int32) (z : Int64), x = nI i → y = nI j → z = lN p → i < j → j ≤ n → j - i ≤ f → RT E (mG E G lt L) L f i j p T → ∀ (u : Nat) (P : Nat → Nat → Int32) (st : List Nat), P 32 = P0 32 → u + T.length ≤ 120 → zK (3 * f + 4) zX0_buildSpan [.ref 31, .ref 14, .int x, .int y, .long z] (wX (upd O 2 (nI (u))) P Y g) (fun r w' => ∃ P' : Nat → Nat → Int32, r = some (.int (nI (u + T.length - 1))) ∧ w' = wX (upd O 2 (nI (u + T.length))) P' Y g ∧ lyC 14 T (P, u, st) (P', u + T.length, (u + T.length - 1) :: st) ∧ (∀ i, ¬ (14 < i ∧ i ≤ 26) → P' i = P i) ∧ 1 ≤ T.length)) {u : Nat} {P : Nat → Nat → Int32} {st : List Nat} (hP : P 32 = P0 32) {i j p c0 q0 : Nat} {T : List (Nat × Nat)} (hij : i < j) (hj : j ≤ n) (hf : j - i ≤ f + 1) (hc20 : c0 < 20) (hp : p = sW (mG E G lt L i j) c0 + q0) (hq0 : q0 < mG E G lt L i j c0) (hR : RK E L (RT E (mG E G lt L) L f) (c0 / 2) (i + c0 % 2) (j - c0 % 2) q0 T) (hu : u + T.length ≤ 120) (hp9 : p < 2 ^ 62) (h62 : ∀ c, c < 20 → mG E G lt L i j c < 2 ^ 62) (kk : Int64) {e : Int32} (he : (e = 0 → ∀ w, mG E G lt L i j (2 * w + 1) = 0) ∧ (¬ e = 0 → 2 < j - i ∧ brE E i j)) {n0 : Nat} : ∀ (v w : Nat), w + v = 10 → 2 * w ≤ c0 → ∀ {x9 : Int32}, x9 = nI w → zV (zMo (3 * (f + 1) + 4) zX0_buildSpan) false n0 0 0 22 [(9, .int (x9)), (8, .int e), (6, .long (lN (p - sW (mG E G lt L i j) (2 * w)))), (0, .ref 31), (1, .ref 14), (2, .int (nI i)), (3, .int (nI j)), (4, .long kk)] [] (wX (upd O 2 (nI (u))) P Y g) (fun r w' => ∃ P' : Nat → Nat → Int32, r = some (.int (nI (u + T.length - 1))) ∧ w' = wX (upd O 2 (nI (u + T.length))) P' Y g ∧ lyC 14 T (P, u, st) (P', u + T.length, (u + T.length - 1) :: st) ∧ (∀ i, ¬ (14 < i ∧ i ≤ 26) → P' i = P i) ∧ 1 ≤ T.length) := by
  have hE := eaR_r hE0 hP
  intro v
  induction v with
  | zero =>
    intro w hw hwc x9 e9
    omega
  | succ v ih2 =>
    intro w hw hwc x9 e9
    subst e9
    have hsp := sW_mono (mG E G lt L i j) (2 * w) (c0 - 2 * w)
    rw [show 2 * w + (c0 - 2 * w) = c0 by omega] at hsp
    iterate 3 (refine zv_step (bX0_buildSpan (3 * (f + 1) + 4)) rfl rfl trivial ?_)
    refine zv_iff (show ¬ c8 9 < nI w from show ¬ nI 9 < nI w from nI_nlt (by omega) (by omega)) ?_
    iterate 9 (refine zv_step (bX0_buildSpan (3 * (f + 1) + 4)) rfl rfl trivial ?_)
    refine zv_V3 (bX0_buildSpan (3 * (f + 1) + 4)) rfl rfl rfl rfl rfl rfl rfl ⟨rfl, rfl, rfl⟩ ⟨by show 2 + 1 ≤ 3 * (f + 1) + 4; omega, by show 8 + (8 + 11) + 64 * (2) ≤ 64 * (3 * (f + 1) + 4); omega⟩ ⟨Nat.zero_le _, Nat.zero_le _⟩ (hBareX (upd O 2 (nI (u))) P Y g hE hG hij hj hn (fun c d _ h2 h3 _ => hY c d h2 (by omega)) (fun c d _ h2 h3 _ => hB c d h2 (by omega)) (btR_kd (btR_k h0 (show w < 10 by omega))) rfl rfl) ?_
    rintro _ _ ⟨rfl, rfl⟩
    rw [bS_one (show w < 10 by omega), ← mG_e (i := i) (j := j)]
    iterate 5 (refine zv_step (bX0_buildSpan (3 * (f + 1) + 4)) rfl rfl trivial ?_)
    refine zv_ifb (fun h51 => ?_) (fun h51 => ?_)
    · have q51 : mG E G lt L i j (2 * w) ≤ p - sW (mG E G lt L i j) (2 * w) := (lN_leJ (h62 _ (by omega)) (by omega)).mp ((lg_cmp_ge _ _).mp h51)
      have hlt : 2 * w < c0 := by
        rcases Nat.lt_or_ge (2 * w) c0 with e | e
        · exact e
        · have : 2 * w = c0 := by omega
          subst this
          omega
      have s1 : sW (mG E G lt L i j) (2 * w + 1) = sW (mG E G lt L i j) (2 * w) + mG E G lt L i j (2 * w) := rfl
      have s2 : sW (mG E G lt L i j) (2 * (w + 1)) = sW (mG E G lt L i j) (2 * w) + mG E G lt L i j (2 * w) + mG E G lt L i j (2 * w + 1) := rfl
      refine zv_locals (l := [(10, .long (lN (mG E G lt L i j (2 * w)))), (9, .int (nI w)), (8, .int e), (6, .long (lN (p - sW (mG E G lt L i j) (2 * w)))), (0, .ref 31), (1, .ref 14), (2, .int (nI i)), (3, .int (nI j)), (4, .long kk)]) (l' := [(10, .long (lN (mG E G lt L i j (2 * w)))), (9, .int (nI w)), (8, .int e), (6, .long (lN (p - sW (mG E G lt L i j) (2 * w)))), (0, .ref 31), (1, .ref 14), (2, .int (nI i)), (3, .int (nI j)), (4, .long kk)]) (fun q h => h) ?_
      iterate 4 (refine zv_step (bX0_buildSpan (3 * (f + 1) + 4)) rfl rfl trivial ?_)
      refine zv_locals (l := [(6, .long (lN (p - sW (mG E G lt L i j) (2 * w)) - lN (mG E G lt L i j (2 * w)))), (10, .long (lN (mG E G lt L i j (2 * w)))), (9, .int (nI w)), (8, .int e), (0, .ref 31), (1, .ref 14), (2, .int (nI i)), (3, .int (nI j)), (4, .long kk)]) (l' := [(6, .long (lN (p - sW (mG E G lt L i j) (2 * w)) - lN (mG E G lt L i j (2 * w)))), (10, .long (lN (mG E G lt L i j (2 * w)))), (9, .int (nI w)), (8, .int e), (0, .ref 31), (1, .ref 14), (2, .int (nI i)), (3, .int (nI j)), (4, .long kk)]) (fun q h => h) ?_
      rw [lN_sub q51]
      iterate 2 (refine zv_step (bX0_buildSpan (3 * (f + 1) + 4)) rfl rfl trivial ?_)
      refine zv_ifb (fun h75 => ?_) (fun h75 => ?_)
      · have q75 := he.1 h75
        iterate 1 (refine zv_step (bX0_buildSpan (3 * (f + 1) + 4)) rfl rfl trivial ?_)
        rw [show Int64.ofNat ((0 : Fin 2) : Nat) = lN (mG E G lt L i j (2 * w + 1)) by rw [q75 w]; rfl]
        iterate 5 (refine zv_step (bX0_buildSpan (3 * (f + 1) + 4)) rfl rfl trivial ?_)
        refine zv_ifb (fun h108 => ?_) (fun h108 => ?_)
        · have q108 : mG E G lt L i j (2 * w + 1) ≤ p - sW (mG E G lt L i j) (2 * w) - mG E G lt L i j (2 * w) := (lN_leJ (h62 _ (by omega)) (by omega)).mp ((lg_cmp_ge _ _).mp h108)
          have hlt2 : 2 * w + 1 < c0 := by
            rcases Nat.lt_or_ge (2 * w + 1) c0 with e | e
            · exact e
            · have : 2 * w + 1 = c0 := by omega
              subst this
              omega
          iterate 6 (refine zv_step (bX0_buildSpan (3 * (f + 1) + 4)) rfl rfl trivial ?_)
          refine zv_locals (l := [(9, .int (nI w + Int32.ofInt 1)), (6, .long (lN (p - sW (mG E G lt L i j) (2 * w) - mG E G lt L i j (2 * w)) - lN (mG E G lt L i j (2 * w + 1)))), (12, .long (lN (mG E G lt L i j (2 * w + 1)))), (10, .long (lN (mG E G lt L i j (2 * w)))), (8, .int e), (0, .ref 31), (1, .ref 14), (2, .int (nI i)), (3, .int (nI j)), (4, .long kk)]) (l' := [(9, .int (nI w + Int32.ofInt 1)), (8, .int e), (6, .long (lN (p - sW (mG E G lt L i j) (2 * w) - mG E G lt L i j (2 * w)) - lN (mG E G lt L i j (2 * w + 1)))), (0, .ref 31), (1, .ref 14), (2, .int (nI i)), (3, .int (nI j)), (4, .long kk)]) (by simp) ?_
          rw [lN_sub q108, show p - sW (mG E G lt L i j) (2 * w) - mG E G lt L i j (2 * w) - mG E G lt L i j (2 * w + 1) = p - sW (mG E G lt L i j) (2 * (w + 1)) by omega]
          exact ih2 (w + 1) (by omega) (by omega) (nI_1 w)
        · have q108 : ¬ mG E G lt L i j (2 * w + 1) ≤ p - sW (mG E G lt L i j) (2 * w) - mG E G lt L i j (2 * w) := fun q => h108 ((lg_cmp_ge _ _).mpr ((lN_leJ (h62 _ (by omega)) (by omega)).mpr q))
          have hc0 : 2 * w + 1 = c0 := by
            rcases Nat.lt_or_ge (2 * w + 1) c0 with e | e
            · have := sW_mono (mG E G lt L i j) (2 * w + 1 + 1) (c0 - (2 * w + 1 + 1))
              rw [show 2 * w + 1 + 1 + (c0 - (2 * w + 1 + 1)) = c0 by omega] at this
              have s3 : sW (mG E G lt L i j) (2 * w + 1 + 1) = sW (mG E G lt L i j) (2 * w + 1) + mG E G lt L i j (2 * w + 1) := rfl
              omega
            · omega
          subst hc0
          have eq0 : p - sW (mG E G lt L i j) (2 * w) - mG E G lt L i j (2 * w) = q0 := by omega
          rw [show (2 * w + 1) / 2 = w by omega, show (2 * w + 1) % 2 = 1 by omega] at hR
          have hw0 := (mG_pos hq0).1
          rw [show (2 * w + 1) / 2 = w by omega, show (2 * w + 1) % 2 = 1 by omega] at hw0
          have hab1 : i + 1 < j - 1 := by
            rcases Nat.lt_or_ge (i + 1) (j - 1) with e | e
            · exact e
            · rw [wi_n e] at hw0
              omega
          refine zv_locals (l := [(12, .long (lN (mG E G lt L i j (2 * w + 1)))), (6, .long (lN (p - sW (mG E G lt L i j) (2 * w) - mG E G lt L i j (2 * w)))), (10, .long (lN (mG E G lt L i j (2 * w)))), (9, .int (nI w)), (8, .int e), (0, .ref 31), (1, .ref 14), (2, .int (nI i)), (3, .int (nI j)), (4, .long kk)]) (l' := [(12, .long (lN (mG E G lt L i j (2 * w + 1)))), (6, .long (lN (p - sW (mG E G lt L i j) (2 * w) - mG E G lt L i j (2 * w)))), (10, .long (lN (mG E G lt L i j (2 * w)))), (9, .int (nI w)), (8, .int e), (0, .ref 31), (1, .ref 14), (2, .int (nI i)), (3, .int (nI j)), (4, .long kk)]) (fun q h => h) ?_
          rw [eq0]
          iterate 10 (refine zv_step (bX0_buildSpan (3 * (f + 1) + 4)) rfl rfl trivial ?_)
          refine zv_V5 (bX0_buildSpan (3 * (f + 1) + 4)) rfl rfl rfl rfl rfl rfl rfl ⟨rfl, rfl, rfl⟩ ⟨by show 3 * f + 6 + 1 ≤ 3 * (f + 1) + 4; omega, by show 8 + (8 + 11) + 64 * (3 * f + 6) ≤ 64 * (3 * (f + 1) + 4); omega⟩ ⟨Nat.zero_le _, Nat.zero_le _⟩ (hBBX14 hE0 hn hG h0 h1 hY hB ih (st := st) hP (a := i + 1) (b := j - 1) (show w < 10 by omega) hab1 (by omega) (by omega) hw0 (by omega) hR hu (nI_1 i) (sub_1 (by omega))) ?_
          rintro _ _ ⟨P1, rfl, rfl, ly1, fr1, ln1⟩
          exact zv_iret (bX0_buildSpan (3 * (f + 1) + 4)) rfl (Or.inl rfl) (Nat.zero_le _) (Nat.zero_le _) ⟨P1, rfl, rfl, ly1, fr1, ln1⟩
      · have q75 := he.2 h75
        iterate 13 (refine zv_step (bX0_buildSpan (3 * (f + 1) + 4)) rfl rfl trivial ?_)
        refine zv_V3 (bX0_buildSpan (3 * (f + 1) + 4)) rfl rfl rfl rfl rfl rfl rfl ⟨rfl, rfl, rfl⟩ ⟨by show 2 + 1 ≤ 3 * (f + 1) + 4; omega, by show 8 + (8 + 11) + 64 * (2) ≤ 64 * (3 * (f + 1) + 4); omega⟩ ⟨Nat.zero_le _, Nat.zero_le _⟩ (hBareX (upd O 2 (nI (u))) P Y g hE hG (a := i + 1) (b := j - 1) (by omega) (by omega) hn (fun c d _ h2 h3 _ => hY c d h2 (by omega)) (fun c d _ h2 h3 _ => hB c d h2 (by omega)) (btR_kd (btR_k h1 (show w < 10 by omega))) (nI_1 i) (sub_1 (by omega))) ?_
        rintro _ _ ⟨rfl, rfl⟩
        have e94 : bS E G L (fun k => lt k 1 && decide (k = w)) (i + 1) (j - 1) = mG E G lt L i j (2 * w + 1) := by rw [bS_one (show w < 10 by omega), mG_o, if_pos q75.2]
        rw [e94]
        iterate 6 (refine zv_step (bX0_buildSpan (3 * (f + 1) + 4)) rfl rfl trivial ?_)
        refine zv_ifb (fun h108 => ?_) (fun h108 => ?_)
        · have q108 : mG E G lt L i j (2 * w + 1) ≤ p - sW (mG E G lt L i j) (2 * w) - mG E G lt L i j (2 * w) := (lN_leJ (h62 _ (by omega)) (by omega)).mp ((lg_cmp_ge _ _).mp h108)
          have hlt2 : 2 * w + 1 < c0 := by
            rcases Nat.lt_or_ge (2 * w + 1) c0 with e | e
            · exact e
            · have : 2 * w + 1 = c0 := by omega
              subst this
              omega
          iterate 6 (refine zv_step (bX0_buildSpan (3 * (f + 1) + 4)) rfl rfl trivial ?_)
          refine zv_locals (l := [(9, .int (nI w + Int32.ofInt 1)), (6, .long (lN (p - sW (mG E G lt L i j) (2 * w) - mG E G lt L i j (2 * w)) - lN (mG E G lt L i j (2 * w + 1)))), (12, .long (lN (mG E G lt L i j (2 * w + 1)))), (10, .long (lN (mG E G lt L i j (2 * w)))), (8, .int e), (0, .ref 31), (1, .ref 14), (2, .int (nI i)), (3, .int (nI j)), (4, .long kk)]) (l' := [(9, .int (nI w + Int32.ofInt 1)), (8, .int e), (6, .long (lN (p - sW (mG E G lt L i j) (2 * w) - mG E G lt L i j (2 * w)) - lN (mG E G lt L i j (2 * w + 1)))), (0, .ref 31), (1, .ref 14), (2, .int (nI i)), (3, .int (nI j)), (4, .long kk)]) (by simp) ?_
          rw [lN_sub q108, show p - sW (mG E G lt L i j) (2 * w) - mG E G lt L i j (2 * w) - mG E G lt L i j (2 * w + 1) = p - sW (mG E G lt L i j) (2 * (w + 1)) by omega]
          exact ih2 (w + 1) (by omega) (by omega) (nI_1 w)
        · have q108 : ¬ mG E G lt L i j (2 * w + 1) ≤ p - sW (mG E G lt L i j) (2 * w) - mG E G lt L i j (2 * w) := fun q => h108 ((lg_cmp_ge _ _).mpr ((lN_leJ (h62 _ (by omega)) (by omega)).mpr q))
          have hc0 : 2 * w + 1 = c0 := by
            rcases Nat.lt_or_ge (2 * w + 1) c0 with e | e
            · have := sW_mono (mG E G lt L i j) (2 * w + 1 + 1) (c0 - (2 * w + 1 + 1))
              rw [show 2 * w + 1 + 1 + (c0 - (2 * w + 1 + 1)) = c0 by omega] at this
              have s3 : sW (mG E G lt L i j) (2 * w + 1 + 1) = sW (mG E G lt L i j) (2 * w + 1) + mG E G lt L i j (2 * w + 1) := rfl
              omega
            · omega
          subst hc0
          have eq0 : p - sW (mG E G lt L i j) (2 * w) - mG E G lt L i j (2 * w) = q0 := by omega
          rw [show (2 * w + 1) / 2 = w by omega, show (2 * w + 1) % 2 = 1 by omega] at hR
          have hw0 := (mG_pos hq0).1
          rw [show (2 * w + 1) / 2 = w by omega, show (2 * w + 1) % 2 = 1 by omega] at hw0
          have hab1 : i + 1 < j - 1 := by
            rcases Nat.lt_or_ge (i + 1) (j - 1) with e | e
            · exact e
            · rw [wi_n e] at hw0
              omega
          refine zv_locals (l := [(12, .long (lN (mG E G lt L i j (2 * w + 1)))), (6, .long (lN (p - sW (mG E G lt L i j) (2 * w) - mG E G lt L i j (2 * w)))), (10, .long (lN (mG E G lt L i j (2 * w)))), (9, .int (nI w)), (8, .int e), (0, .ref 31), (1, .ref 14), (2, .int (nI i)), (3, .int (nI j)), (4, .long kk)]) (l' := [(12, .long (lN (mG E G lt L i j (2 * w + 1)))), (6, .long (lN (p - sW (mG E G lt L i j) (2 * w) - mG E G lt L i j (2 * w)))), (10, .long (lN (mG E G lt L i j (2 * w)))), (9, .int (nI w)), (8, .int e), (0, .ref 31), (1, .ref 14), (2, .int (nI i)), (3, .int (nI j)), (4, .long kk)]) (fun q h => h) ?_
          rw [eq0]
          iterate 10 (refine zv_step (bX0_buildSpan (3 * (f + 1) + 4)) rfl rfl trivial ?_)
          refine zv_V5 (bX0_buildSpan (3 * (f + 1) + 4)) rfl rfl rfl rfl rfl rfl rfl ⟨rfl, rfl, rfl⟩ ⟨by show 3 * f + 6 + 1 ≤ 3 * (f + 1) + 4; omega, by show 8 + (8 + 11) + 64 * (3 * f + 6) ≤ 64 * (3 * (f + 1) + 4); omega⟩ ⟨Nat.zero_le _, Nat.zero_le _⟩ (hBBX14 hE0 hn hG h0 h1 hY hB ih (st := st) hP (a := i + 1) (b := j - 1) (show w < 10 by omega) hab1 (by omega) (by omega) hw0 (by omega) hR hu (nI_1 i) (sub_1 (by omega))) ?_
          rintro _ _ ⟨P1, rfl, rfl, ly1, fr1, ln1⟩
          exact zv_iret (bX0_buildSpan (3 * (f + 1) + 4)) rfl (Or.inl rfl) (Nat.zero_le _) (Nat.zero_le _) ⟨P1, rfl, rfl, ly1, fr1, ln1⟩
    · have q51 : ¬ mG E G lt L i j (2 * w) ≤ p - sW (mG E G lt L i j) (2 * w) := fun q => h51 ((lg_cmp_ge _ _).mpr ((lN_leJ (h62 _ (by omega)) (by omega)).mpr q))
      have hc0 : 2 * w = c0 := by
        rcases Nat.lt_or_ge (2 * w) c0 with e | e
        · have := sW_mono (mG E G lt L i j) (2 * w + 1) (c0 - (2 * w + 1))
          rw [show 2 * w + 1 + (c0 - (2 * w + 1)) = c0 by omega] at this
          have s1 : sW (mG E G lt L i j) (2 * w + 1) = sW (mG E G lt L i j) (2 * w) + mG E G lt L i j (2 * w) := rfl
          omega
        · omega
      subst hc0
      have eq0 : p - sW (mG E G lt L i j) (2 * w) = q0 := by omega
      rw [show 2 * w / 2 = w by omega, show 2 * w % 2 = 0 by omega] at hR
      have hw0 := (mG_pos hq0).1
      rw [show 2 * w / 2 = w by omega, show 2 * w % 2 = 0 by omega] at hw0
      refine zv_locals (l := [(10, .long (lN (mG E G lt L i j (2 * w)))), (9, .int (nI w)), (8, .int e), (6, .long (lN (p - sW (mG E G lt L i j) (2 * w)))), (0, .ref 31), (1, .ref 14), (2, .int (nI i)), (3, .int (nI j)), (4, .long kk)]) (l' := [(10, .long (lN (mG E G lt L i j (2 * w)))), (9, .int (nI w)), (8, .int e), (6, .long (lN (p - sW (mG E G lt L i j) (2 * w)))), (0, .ref 31), (1, .ref 14), (2, .int (nI i)), (3, .int (nI j)), (4, .long kk)]) (fun q h => h) ?_
      rw [eq0]
      iterate 6 (refine zv_step (bX0_buildSpan (3 * (f + 1) + 4)) rfl rfl trivial ?_)
      refine zv_V5 (bX0_buildSpan (3 * (f + 1) + 4)) rfl rfl rfl rfl rfl rfl rfl ⟨rfl, rfl, rfl⟩ ⟨by show 3 * f + 6 + 1 ≤ 3 * (f + 1) + 4; omega, by show 8 + (8 + 11) + 64 * (3 * f + 6) ≤ 64 * (3 * (f + 1) + 4); omega⟩ ⟨Nat.zero_le _, Nat.zero_le _⟩ (hBBX14 hE0 hn hG h0 h1 hY hB ih (st := st) hP (show w < 10 by omega) hij hj hf hw0 (by omega) hR hu rfl rfl) ?_
      rintro _ _ ⟨P1, rfl, rfl, ly1, fr1, ln1⟩
      exact zv_iret (bX0_buildSpan (3 * (f + 1) + 4)) rfl (Or.inl rfl) (Nat.zero_le _) (Nat.zero_le _) ⟨P1, rfl, rfl, ly1, fr1, ln1⟩
set_option maxHeartbeats 1000000 in
set_option maxRecDepth 20000 in
theorem hBSX14 {O : Nat → Int32} {Y : Nat → Nat → Int64} {g : Nat → zC} {P0 : Nat → Nat → Int32} {n : Nat} {E : Nat → Nat} (hE0 : eaR n P0 E) (hn : n ≤ 20) {G : Nat → Int32} (hG : gfR (O 12) G) {lt : Nat → Nat → Bool} (h0 : btR (O 10) (fun k => lt k 0)) (h1 : btR (O 11) (fun k => lt k 1)) {L : Nat → Nat → Nat} (hY : ∀ c d, c < d → d ≤ n → Y (34 + c) d = lN (L c d)) (hB : ∀ c d, c < d → d ≤ n → L c d ≤ 5 ^ (d - c - 1)) : ∀ (f i j p : Nat) (T : List (Nat × Nat)) (x y : Int32) (z : Int64), x = nI i → y = nI j → z = lN p → i < j → j ≤ n → j - i ≤ f → RT E (mG E G lt L) L f i j p T → ∀ (u : Nat) (P : Nat → Nat → Int32) (st : List Nat), P 32 = P0 32 → u + T.length ≤ 120 → zK (3 * f + 4) zX0_buildSpan [.ref 31, .ref 14, .int x, .int y, .long z] (wX (upd O 2 (nI (u))) P Y g) (fun r w' => ∃ P' : Nat → Nat → Int32, r = some (.int (nI (u + T.length - 1))) ∧ w' = wX (upd O 2 (nI (u + T.length))) P' Y g ∧ lyC 14 T (P, u, st) (P', u + T.length, (u + T.length - 1) :: st) ∧ (∀ i, ¬ (14 < i ∧ i ≤ 26) → P' i = P i) ∧ 1 ≤ T.length) := by
  intro f
  induction f with
  | zero =>
    intro i j p T x y z _ _ _ hij _ hf
    omega
  | succ f ih =>
    intro i j p T x y z ex ey ez hij hj hf hT u P st hP hu
    subst ex ey ez
    have hE := eaR_r hE0 hP
    obtain ⟨c0, q0, hc20, hp, hq0, hR⟩ := hT
    have h62 : ∀ c, c < 20 → mG E G lt L i j c < 2 ^ 62 := fun c e => by
      have := mG_le1 hn (E := E) (G := G) (lt := lt) hB hij hj c e
      unfold cap at this
      omega
    have hp9 : p < 2 ^ 62 := by
      have hb : BD L i j := fun a b _ h2 h3 _ => hB a b h2 (by omega)
      have h1 := tS_le (E := E) (G := G) hb hij (by omega) lt
      rw [← sW_tS] at h1
      have h2 := sW_mono (mG E G lt L i j) (c0 + 1) (20 - (c0 + 1))
      rw [show c0 + 1 + (20 - (c0 + 1)) = 20 by omega] at h2
      have h3 : sW (mG E G lt L i j) (c0 + 1) = sW (mG E G lt L i j) c0 + mG E G lt L i j c0 := rfl
      have h4 := pow5_cap1 (n := j - i - 1) (by omega)
      unfold cap at h4
      omega
    refine zK_of qX0_buildSpan (by decide +kernel) rfl ?_
    iterate 3 (refine zv_step (bX0_buildSpan (3 * (f + 1) + 4)) rfl rfl trivial ?_)
    refine zv_ift (nI_lt (by omega) (by omega)) ?_
    iterate 5 (refine zv_step (bX0_buildSpan (3 * (f + 1) + 4)) rfl rfl trivial ?_)
    refine zv_V2 (bX0_buildSpan (3 * (f + 1) + 4)) rfl rfl rfl rfl rfl rfl rfl ⟨rfl, rfl, rfl⟩ ⟨by show 0 + 1 ≤ 3 * (f + 1) + 4; omega, by show 8 + (3 + 11) + 64 * (0) ≤ 64 * (3 * (f + 1) + 4); omega⟩ ⟨Nat.zero_le _, Nat.zero_le _⟩ (hBr (upd O 2 (nI (u))) P Y g hij (by omega)) ?_
    rintro _ _ ⟨rfl, ⟨hh, rfl⟩ | ⟨hh, rfl⟩⟩
    · skip
      iterate 3 (refine zv_step (bX0_buildSpan (3 * (f + 1) + 4)) rfl rfl trivial ?_)
      rw [show lN p = lN (p - sW (mG E G lt L i j) (2 * 0)) by rw [show sW (mG E G lt L i j) (2 * 0) = 0 from rfl, Nat.sub_zero]]
      exact hBSLX14 hE0 hn hG h0 h1 hY hB ih hP hij hj hf hc20 hp hq0 hR hu hp9 h62 _ ⟨fun e => absurd e (by decide), fun _ => (br_E hE hij hj).mp hh⟩ 10 0 rfl (Nat.zero_le _) rfl
    · skip
      iterate 3 (refine zv_step (bX0_buildSpan (3 * (f + 1) + 4)) rfl rfl trivial ?_)
      rw [show lN p = lN (p - sW (mG E G lt L i j) (2 * 0)) by rw [show sW (mG E G lt L i j) (2 * 0) = 0 from rfl, Nat.sub_zero]]
      exact hBSLX14 hE0 hn hG h0 h1 hY hB ih hP hij hj hf hc20 hp hq0 hR hu hp9 h62 _ ⟨fun _ w => by
        rw [mG_o]
        split
        · rename_i q
          have : ¬ 2 < j - i := fun e => hh ((br_E hE hij hj).mpr ⟨e, q⟩)
          rw [wi_n (by omega)]
          split <;> rfl
        · rfl, fun e => absurd rfl e⟩ 10 0 rfl (Nat.zero_le _) rfl
set_option maxHeartbeats 1000000 in
set_option maxRecDepth 20000 in
theorem hBuildX14 {O : Nat → Int32} {Y : Nat → Nat → Int64} {g : Nat → zC} {P0 : Nat → Nat → Int32} {n : Nat} {E : Nat → Nat} (hE0 : eaR n P0 E) (hn : n ≤ 20) {G : Nat → Int32} (hG : gfR (O 12) G) {lt : Nat → Nat → Bool} (h0 : btR (O 10) (fun k => lt k 0)) (h1 : btR (O 11) (fun k => lt k 1)) {L : Nat → Nat → Nat} (hY : ∀ c d, c < d → d ≤ n → Y (34 + c) d = lN (L c d)) (hB : ∀ c d, c < d → d ≤ n → L c d ≤ 5 ^ (d - c - 1)) (hO : O 9 = nI n) (h9 : 0 < n) {p : Nat} {T : List (Nat × Nat)} (hT : RT E (mG E G lt L) L 20 0 n p T) {u : Nat} {P : Nat → Nat → Int32} {st : List Nat} (hP : P 32 = P0 32) (hu : u + T.length ≤ 120) : zK 65 zX0_build [.ref 31, .ref 14, .long (lN p)] (wX (upd O 2 (nI (u))) P Y g) (fun r w' => ∃ P' : Nat → Nat → Int32, r = some (.int (nI (u + T.length - 1))) ∧ w' = wX (upd O 2 (nI (u + T.length))) P' Y g ∧ lyC 14 T (P, u, st) (P', u + T.length, (u + T.length - 1) :: st) ∧ (∀ i, ¬ (14 < i ∧ i ≤ 26) → P' i = P i) ∧ 1 ≤ T.length) := by
  refine zK_of qX0_build (by decide +kernel) rfl ?_
  iterate 6 (refine zv_step (bX0_build 65) rfl rfl trivial ?_)
  refine zv_V4 (bX0_build 65) rfl rfl rfl rfl rfl rfl rfl ⟨rfl, rfl, rfl⟩ ⟨by decide, by decide⟩ ⟨Nat.zero_le _, Nat.zero_le _⟩ (hBSX14 hE0 hn hG h0 h1 hY hB 20 0 n p T _ _ _ rfl hO rfl h9 (Nat.le_refl _) (by omega) hT u P st hP hu) ?_
  rintro _ _ ⟨P1, rfl, rfl, ly1, fr1, ln1⟩
  exact zv_iret (bX0_build 65) rfl (Or.inl rfl) (Nat.zero_le _) (Nat.zero_le _) ⟨P1, rfl, rfl, ly1, fr1, ln1⟩
end
