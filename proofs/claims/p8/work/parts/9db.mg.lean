section
theorem putX14 {O : Nat → Int32} {P : Nat → Nat → Int32} {Y : Nat → Nat → Int64} {g : Nat → zC} {m : Nat} {k v x y : Int32} (hm : m < 120) {r : Option Value} {w' : zW} (h : r = some (.int (nI m)) ∧ ∃ sh ch le ca, ch = hbW (Int16.ofInt 764).toInt32 k ∧ le = (if k = 0 then Int32.ofInt 1 <<< (v &&& 31) else Int32.ofInt 0) ∧ ca = (if k = c8 9 then Int32.ofInt 1 <<< (v &&& 31) else Int32.ofInt 0) ∧ sh = faW 14 (nI m) (adI 14 (nI m) (adI 14 (nI m) (putV 14 P (nC (nI m)) k v x y (owW k v) ch le ca) (nC (nI m)) x) (nC (nI m)) y) m m 0 ∧ w' = wX (upd (upd O 2 (nI m)) 2 (nI m + Int32.ofInt 1)) (updA (adI 14 (nI m) (adI 14 (nI m) (putV 14 P (nC (nI m)) k v x y (owW k v) ch le ca) (nC (nI m)) x) (nC (nI m)) y) 25 (upd ((adI 14 (nI m) (adI 14 (nI m) (putV 14 P (nC (nI m)) k v x y (owW k v) ch le ca) (nC (nI m)) x) (nC (nI m)) y) 25) (nC (nI m)) sh)) Y g) : r = some (.int (nI m)) ∧ ∃ sh, w' = wX (upd O 2 (nI (m + 1))) (stC 14 P m k v x y sh) Y g := by
  obtain ⟨h1, sh, _, _, _, rfl, rfl, rfl, rfl, h2⟩ := h
  refine ⟨h1, 0, ?_⟩
  rw [h2, show nC (nI m) = m from nI_clamp (by omega), upd2, show nI m + Int32.ofInt 1 = nI (m + 1) from nI_1 m]
  rfl
set_option maxHeartbeats 1000000 in
set_option maxRecDepth 20000 in
theorem hBPLX14 {O : Nat → Int32} {Y : Nat → Nat → Int64} {g : Nat → zC} {P0 : Nat → Nat → Int32} {n : Nat} {E : Nat → Nat} (hE0 : eaR n P0 E) (hn : n ≤ 20) {G : Nat → Int32} (hG : gfR (O 12) G) {lt : Nat → Nat → Bool} (h0 : btR (O 10) (fun k => lt k 0)) (h1 : btR (O 11) (fun k => lt k 1)) {L : Nat → Nat → Nat} (hY : ∀ c d, c < d → d ≤ n → Y (34 + c) d = lN (L c d)) (hB : ∀ c d, c < d → d ≤ n → L c d ≤ 5 ^ (d - c - 1)) {f : Nat} (ih : ∀ (i j p : Nat) (T : List (Nat × Nat)) (x y : Int32) (z : Int64), x = nI i → y = nI j → z = lN p → i < j → j ≤ n → j - i ≤ f → RT E (mG E G lt L) L f i j p T → ∀ (u : Nat) (P : Nat → Nat → Int32) (st : List Nat), P 32 = P0 32 → u + T.length ≤ 120 → zK (3 * f + 4) zX0_buildSpan [.ref 31, .ref 14, .int x, .int y, .long z] (wX (upd O 2 (nI (u))) P Y g) (fun r w' => ∃ P' : Nat → Nat → Int32, r = some (.int (nI (u + T.length - 1))) ∧ w' = wX (upd O 2 (nI (u + T.length))) P' Y g ∧ lyC 14 T (P, u, st) (P', u + T.length, (u + T.length - 1) :: st) ∧ (∀ i, ¬ (14 < i ∧ i ≤ 26) → P' i = P i) ∧ 1 ≤ T.length)) {u : Nat} {P : Nat → Nat → Int32} {st : List Nat} (hP : P 32 = P0 32) {kn a b c r : Nat} {X1 Y1 : List (Nat × Nat)} (k2 : 2 ≤ kn) (k6 : kn ≤ 6) (hb : b ≤ n) (hf : b - a ≤ f + 1) (hc : a + 1 + c + 1 < b) (hEc : E (a + 1 + c) = 18 + kn) (hr : r < tmW (L a (a + 1 + c)) (L (a + 1 + c + 1) b)) (hX : RT E (mG E G lt L) L f a (a + 1 + c) (r / L (a + 1 + c + 1) b) X1) (hY1 : RT E (mG E G lt L) L f (a + 1 + c + 1) b (r % L (a + 1 + c + 1) b) Y1) (hu : u + (X1.length + Y1.length + 1) ≤ 120) (hq9 : pfS E L kn a b c + r < 2 ^ 62) (kk : Int64) {n0 : Nat} : ∀ (w d : Nat), d + w = c → ∀ {x9 : Int32}, x9 = nI (a + 1 + d) → zV (zMo (3 * f + 5) zX0_buildPair) false n0 0 0 9 [(9, .int (x9)), (7, .long (lN (pfS E L kn a b c + r - pfS E L kn a b d))), (0, .ref 31), (1, .ref 14), (2, .int (nI kn)), (3, .int (nI a)), (4, .int (nI b)), (5, .long kk)] [] (wX (upd O 2 (nI (u))) P Y g) (fun r w' => ∃ P' : Nat → Nat → Int32, r = some (.int (nI (u + (X1 ++ Y1 ++ [(kn, 0)]).length - 1))) ∧ w' = wX (upd O 2 (nI (u + (X1 ++ Y1 ++ [(kn, 0)]).length))) P' Y g ∧ lyC 14 (X1 ++ Y1 ++ [(kn, 0)]) (P, u, st) (P', u + (X1 ++ Y1 ++ [(kn, 0)]).length, (u + (X1 ++ Y1 ++ [(kn, 0)]).length - 1) :: st) ∧ (∀ i, ¬ (14 < i ∧ i ≤ 26) → P' i = P i) ∧ 1 ≤ (X1 ++ Y1 ++ [(kn, 0)]).length) := by
  have hE := eaR_r hE0 hP
  have hBD : BD L a b := fun c d _ h2 h3 _ => hB c d h2 (by omega)
  have hlen : (X1 ++ Y1 ++ [(kn, 0)]).length = X1.length + Y1.length + 1 := by rw [List.length_append, List.length_append]; rfl
  obtain ⟨g0, g1, g2⟩ := tm_dm hr
  have hcap : ∀ c d, c < d → d ≤ n → L c d ≤ cap := fun c d h2 h3 => Nat.le_trans (hB c d h2 h3) (pow5_cap1 (by omega))
  have htm : ∀ d, a + 1 + d + 1 < b → lN (L a (a + 1 + d)) * lN (L (a + 1 + d + 1) b) = lN (tmW (L a (a + 1 + d)) (L (a + 1 + d + 1) b)) := fun d hd => by
    rw [lN_mul, tmW_eq (Nat.le_trans (tm_5 hBD hd) (pow5_cap1 (by omega)))]
  have hr9 : r < 2 ^ 62 := by have := (tmW_le (L a (a + 1 + c)) (L (a + 1 + c + 1) b)).1; unfold cap at this; omega
  have capb := hcap (a + 1 + c + 1) b (by omega) hb
  intro w
  induction w with
  | zero =>
    intro d hd x9 e9
    subst e9
    rw [show d = c by omega, show pfS E L kn a b c + r - pfS E L kn a b c = r by omega]
    iterate 5 (refine zv_step (bX0_buildPair (3 * f + 5)) rfl rfl trivial ?_)
    refine zv_iff (show ¬ nI b - Int32.ofInt 1 ≤ nI (a + 1 + c) by rw [sub_1 (by omega)]; exact fun h => absurd ((nI_leI (by omega) (by omega)).mp h) (by omega)) ?_
    iterate 3 (refine zv_step (bX0_buildPair (3 * f + 5)) rfl rfl trivial ?_)
    refine zv_iale (bX0_buildPair (3 * f + 5)) rfl rfl (show vp_in (nI (a + 1 + c)) 20 by exact vp_in_nI (by omega) (by decide)) (show P 32 (nI (a + 1 + c)).toNatClampNeg = nI (E (a + 1 + c)) by rw [nI_clamp (by omega)]; exact (hE (a + 1 + c) (by omega)).1) ?_
    iterate 4 (refine zv_step (bX0_buildPair (3 * f + 5)) rfl rfl trivial ?_)
    refine zv_ift (show nI (E (a + 1 + c)) = nI 18 + nI kn by rw [nI_add, hEc]) ?_
    iterate 5 (refine zv_step (bX0_buildPair (3 * f + 5)) rfl rfl trivial ?_)
    refine zv_aald (bX0_buildPair (3 * f + 5)) rfl (Or.inr rfl) rfl (show vp_in (nI (a + 1 + c) + Int32.ofInt 1) 21 by rw [show nI (a + 1 + c) + Int32.ofInt 1 = nI (a + 1 + c + 1) from nI_1 _]; exact vp_in_nI (by omega) (by decide)) (show ([some 34, some 35, some 36, some 37, some 38, some 39, some 40, some 41, some 42, some 43, some 44, some 45, some 46, some 47, some 48, some 49, some 50, some 51, some 52, some 53, some 54] : List (Option Nat)).getD (nI (a + 1 + c) + Int32.ofInt 1).toNatClampNeg none = some (34 + (a + 1 + c + 1)) by rw [show nI (a + 1 + c) + Int32.ofInt 1 = nI (a + 1 + c + 1) from nI_1 _, nI_clamp (by omega)]; exact dLs (by omega)) ?_
    iterate 1 (refine zv_step (bX0_buildPair (3 * f + 5)) rfl rfl trivial ?_)
    refine zv_lale (bX0_buildPair (3 * f + 5)) rfl (wY (upd O 2 (nI (u))) P Y g (by omega)) (show vp_in (nI b) 21 by exact vp_in_nI (by omega) (by decide)) (show Y (34 + (a + 1 + c + 1)) (nI b).toNatClampNeg = lN (L (a + 1 + c + 1) (b)) by rw [nI_clamp (by omega)]; exact hY _ _ (by omega) (by omega)) ?_
    iterate 4 (refine zv_step (bX0_buildPair (3 * f + 5)) rfl rfl trivial ?_)
    refine zv_aald (bX0_buildPair (3 * f + 5)) rfl (Or.inr rfl) rfl (show vp_in (nI a) 21 by exact vp_in_nI (by omega) (by decide)) (show ([some 34, some 35, some 36, some 37, some 38, some 39, some 40, some 41, some 42, some 43, some 44, some 45, some 46, some 47, some 48, some 49, some 50, some 51, some 52, some 53, some 54] : List (Option Nat)).getD (nI a).toNatClampNeg none = some (34 + (a)) by rw [nI_clamp (by omega)]; exact dLs (by omega)) ?_
    iterate 1 (refine zv_step (bX0_buildPair (3 * f + 5)) rfl rfl trivial ?_)
    refine zv_lale (bX0_buildPair (3 * f + 5)) rfl (wY (upd O 2 (nI (u))) P Y g (by omega)) (show vp_in (nI (a + 1 + c)) 21 by exact vp_in_nI (by omega) (by decide)) (show Y (34 + (a)) (nI (a + 1 + c)).toNatClampNeg = lN (L (a) (a + 1 + c)) by rw [nI_clamp (by omega)]; exact hY _ _ (by omega) (by omega)) ?_
    iterate 7 (refine zv_step (bX0_buildPair (3 * f + 5)) rfl rfl trivial ?_)
    refine zv_iff (fun h => absurd ((lN_leJ (a := tmW (L a (a + 1 + c)) (L (a + 1 + c + 1) b)) (by have := (tmW_le (L a (a + 1 + c)) (L (a + 1 + c + 1) b)).1; unfold cap at this; omega) hr9).mp (by have h9 : lN (L a (a + 1 + c)) * lN (L (a + 1 + c + 1) b) ≤ lN r := (lg_cmp_ge _ _).mp h; rwa [htm c hc] at h9)) (by omega)) ?_
    iterate 4 (refine zv_step (bX0_buildPair (3 * f + 5)) rfl rfl trivial ?_)
    refine zv_iff (fun h => absurd ((lN_leJ (b := 0) (by unfold cap at capb; omega) (by decide)).mp ((lg_cmp_le _ _).mp h)) (by omega)) ?_
    iterate 6 (refine zv_step (bX0_buildPair (3 * f + 5)) rfl rfl trivial ?_)
    refine zv_step (bX0_buildPair (3 * f + 5)) rfl rfl (fun e => absurd ((lN_eqJ (b := 0) (by unfold cap at capb; omega) (by decide)).mp e) (by omega)) ?_
    refine zv_V4 (bX0_buildPair (3 * f + 5)) rfl rfl rfl rfl rfl rfl rfl ⟨rfl, rfl, rfl⟩ ⟨by show 3 * f + 4 + 1 ≤ 3 * f + 5; omega, by show 8 + (14 + 11) + 64 * (3 * f + 4) ≤ 64 * (3 * f + 5); omega⟩ ⟨Nat.zero_le _, Nat.zero_le _⟩ (ih a (a + 1 + c) (r / L (a + 1 + c + 1) b) X1 _ _ _ rfl rfl (lN_divJ hr9 (by unfold cap at capb; omega)) (by omega) (by omega) (by omega) hX u P st hP (by omega)) ?_
    rintro _ _ ⟨P1, rfl, rfl, ly1, fr1, ln1⟩
    have hP1 : P1 32 = P0 32 := (fr1 32 (by omega)).trans hP
    iterate 9 (refine zv_step (bX0_buildPair (3 * f + 5)) rfl rfl trivial ?_)
    refine zv_step (bX0_buildPair (3 * f + 5)) rfl rfl (fun e => absurd ((lN_eqJ (b := 0) (by unfold cap at capb; omega) (by decide)).mp e) (by omega)) ?_
    refine zv_V4 (bX0_buildPair (3 * f + 5)) rfl rfl rfl rfl rfl rfl rfl ⟨rfl, rfl, rfl⟩ ⟨by show 3 * f + 4 + 1 ≤ 3 * f + 5; omega, by show 8 + (14 + 11) + 64 * (3 * f + 4) ≤ 64 * (3 * f + 5); omega⟩ ⟨Nat.zero_le _, Nat.zero_le _⟩ (ih (a + 1 + c + 1) b (r % L (a + 1 + c + 1) b) Y1 _ _ _ (nI_1 _) rfl (show lN r - lN r / lN (L (a + 1 + c + 1) b) * lN (L (a + 1 + c + 1) b) = lN (r % L (a + 1 + c + 1) b) by rw [lN_divJ hr9 (by unfold cap at capb; omega), lN_mul, lN_sub (Nat.div_mul_le_self _ _)]; congr 1; have := Nat.div_add_mod r (L (a + 1 + c + 1) b); rw [Nat.mul_comm] at this; omega) (by omega) (by omega) (by omega) hY1 (u + X1.length) P1 ((u + X1.length - 1) :: st) hP1 (by omega)) ?_
    rintro _ _ ⟨P2, rfl, rfl, ly2, fr2, ln2⟩
    iterate 6 (refine zv_step (bX0_buildPair (3 * f + 5)) rfl rfl trivial ?_)
    refine zv_V4 (bX0_buildPair (3 * f + 5)) rfl rfl rfl rfl rfl rfl rfl ⟨rfl, rfl, rfl⟩ ⟨by show 2 + 1 ≤ 3 * f + 5; omega, by show 8 + (6 + 11) + 64 * (2) ≤ 64 * (3 * f + 5); omega⟩ ⟨Nat.zero_le _, Nat.zero_le _⟩ (pPut14 (upd O 2 (nI (u + X1.length + Y1.length))) P2 Y g (show (nI (u + X1.length + Y1.length)).toInt ≤ 120 by rw [nI_toInt (by omega)]; omega) (m := u + X1.length + Y1.length) (by omega) rfl (nI kn) (m1) (nI (u + X1.length - 1)) (nI (u + X1.length + Y1.length - 1))) ?_
    rintro r9 w9 hpo
    obtain ⟨rfl, sh, rfl⟩ := putX14 (by omega) hpo
    exact zv_iret (bX0_buildPair (3 * f + 5)) rfl (Or.inl rfl) (Nat.zero_le _) (Nat.zero_le _) ⟨_, by rw [hlen, show u + (X1.length + Y1.length + 1) - 1 = u + X1.length + Y1.length by omega], by rw [hlen, show u + (X1.length + Y1.length + 1) = u + X1.length + Y1.length + 1 by omega], by
      rw [hlen, show u + (X1.length + Y1.length + 1) - 1 = u + X1.length + Y1.length by omega, show u + (X1.length + Y1.length + 1) = u + X1.length + Y1.length + 1 by omega]
      exact lyC_app _ _ _ _ _ (lyC_app _ _ _ _ _ ly1 ly2) (tk_2 k2 k6), fun i hi => (stC_o hi).trans ((fr2 i hi).trans (fr1 i hi)), by rw [hlen]; omega⟩
  | succ w ih2 =>
    intro d hd x9 e9
    subst e9
    have hmono := pfS_mono (E := E) (L := L) (k := kn) (a := a) (b := b) (d + 1) w
    rw [show d + 1 + w = c by omega] at hmono
    iterate 5 (refine zv_step (bX0_buildPair (3 * f + 5)) rfl rfl trivial ?_)
    refine zv_iff (show ¬ nI b - Int32.ofInt 1 ≤ nI (a + 1 + d) by rw [sub_1 (by omega)]; exact fun h => absurd ((nI_leI (by omega) (by omega)).mp h) (by omega)) ?_
    iterate 3 (refine zv_step (bX0_buildPair (3 * f + 5)) rfl rfl trivial ?_)
    refine zv_iale (bX0_buildPair (3 * f + 5)) rfl rfl (show vp_in (nI (a + 1 + d)) 20 by exact vp_in_nI (by omega) (by decide)) (show P 32 (nI (a + 1 + d)).toNatClampNeg = nI (E (a + 1 + d)) by rw [nI_clamp (by omega)]; exact (hE (a + 1 + d) (by omega)).1) ?_
    iterate 4 (refine zv_step (bX0_buildPair (3 * f + 5)) rfl rfl trivial ?_)
    refine zv_ifb (fun h29 => ?_) (fun h29 => ?_)
    · have q29 : E (a + 1 + d) = 18 + kn := (nI_eq (by have := (hE (a + 1 + d) (by omega)).2; omega) (by omega)).mp (show nI (E (a + 1 + d)) = nI (18 + kn) by rw [← nI_add]; exact h29)
      have e9 := pfS_at (L := L) (b := b) q29
      rw [e9] at hmono
      iterate 5 (refine zv_step (bX0_buildPair (3 * f + 5)) rfl rfl trivial ?_)
      refine zv_aald (bX0_buildPair (3 * f + 5)) rfl (Or.inr rfl) rfl (show vp_in (nI (a + 1 + d) + Int32.ofInt 1) 21 by rw [show nI (a + 1 + d) + Int32.ofInt 1 = nI (a + 1 + d + 1) from nI_1 _]; exact vp_in_nI (by omega) (by decide)) (show ([some 34, some 35, some 36, some 37, some 38, some 39, some 40, some 41, some 42, some 43, some 44, some 45, some 46, some 47, some 48, some 49, some 50, some 51, some 52, some 53, some 54] : List (Option Nat)).getD (nI (a + 1 + d) + Int32.ofInt 1).toNatClampNeg none = some (34 + (a + 1 + d + 1)) by rw [show nI (a + 1 + d) + Int32.ofInt 1 = nI (a + 1 + d + 1) from nI_1 _, nI_clamp (by omega)]; exact dLs (by omega)) ?_
      iterate 1 (refine zv_step (bX0_buildPair (3 * f + 5)) rfl rfl trivial ?_)
      refine zv_lale (bX0_buildPair (3 * f + 5)) rfl (wY (upd O 2 (nI (u))) P Y g (by omega)) (show vp_in (nI b) 21 by exact vp_in_nI (by omega) (by decide)) (show Y (34 + (a + 1 + d + 1)) (nI b).toNatClampNeg = lN (L (a + 1 + d + 1) (b)) by rw [nI_clamp (by omega)]; exact hY _ _ (by omega) (by omega)) ?_
      iterate 4 (refine zv_step (bX0_buildPair (3 * f + 5)) rfl rfl trivial ?_)
      refine zv_aald (bX0_buildPair (3 * f + 5)) rfl (Or.inr rfl) rfl (show vp_in (nI a) 21 by exact vp_in_nI (by omega) (by decide)) (show ([some 34, some 35, some 36, some 37, some 38, some 39, some 40, some 41, some 42, some 43, some 44, some 45, some 46, some 47, some 48, some 49, some 50, some 51, some 52, some 53, some 54] : List (Option Nat)).getD (nI a).toNatClampNeg none = some (34 + (a)) by rw [nI_clamp (by omega)]; exact dLs (by omega)) ?_
      iterate 1 (refine zv_step (bX0_buildPair (3 * f + 5)) rfl rfl trivial ?_)
      refine zv_lale (bX0_buildPair (3 * f + 5)) rfl (wY (upd O 2 (nI (u))) P Y g (by omega)) (show vp_in (nI (a + 1 + d)) 21 by exact vp_in_nI (by omega) (by decide)) (show Y (34 + (a)) (nI (a + 1 + d)).toNatClampNeg = lN (L (a) (a + 1 + d)) by rw [nI_clamp (by omega)]; exact hY _ _ (by omega) (by omega)) ?_
      iterate 7 (refine zv_step (bX0_buildPair (3 * f + 5)) rfl rfl trivial ?_)
      refine zv_ift ((lg_cmp_ge _ _).mpr (show lN (L a (a + 1 + d)) * lN (L (a + 1 + d + 1) b) ≤ lN (pfS E L kn a b c + r - pfS E L kn a b d) by rw [htm d (by omega), lN_leJ (by have := (tmW_le (L a (a + 1 + d)) (L (a + 1 + d + 1) b)).1; unfold cap at this; omega) (by omega)]; omega)) ?_
      iterate 6 (refine zv_step (bX0_buildPair (3 * f + 5)) rfl rfl trivial ?_)
      refine zv_locals (l := [(9, .int (nI (a + 1 + d) + Int32.ofInt 1)), (7, .long (lN (pfS E L kn a b c + r - pfS E L kn a b d) - lN (L a (a + 1 + d)) * lN (L (a + 1 + d + 1) b))), (12, .long (lN (L a (a + 1 + d)) * lN (L (a + 1 + d + 1) b))), (10, .long (lN (L (a + 1 + d + 1) b))), (0, .ref 31), (1, .ref 14), (2, .int (nI kn)), (3, .int (nI a)), (4, .int (nI b)), (5, .long kk)]) (l' := [(9, .int (nI (a + 1 + d) + Int32.ofInt 1)), (7, .long (lN (pfS E L kn a b c + r - pfS E L kn a b d) - lN (L a (a + 1 + d)) * lN (L (a + 1 + d + 1) b))), (0, .ref 31), (1, .ref 14), (2, .int (nI kn)), (3, .int (nI a)), (4, .int (nI b)), (5, .long kk)]) (by simp) ?_
      rw [htm d (by omega), lN_sub (by omega), show pfS E L kn a b c + r - pfS E L kn a b d - tmW (L a (a + 1 + d)) (L (a + 1 + d + 1) b) = pfS E L kn a b c + r - pfS E L kn a b (d + 1) by rw [e9]; omega]
      exact ih2 (d + 1) (by omega) (nI_1 _)
    · have q29 : ¬ E (a + 1 + d) = 18 + kn := fun e => h29 (show nI (E (a + 1 + d)) = nI 18 + nI kn by rw [nI_add, e])
      iterate 3 (refine zv_step (bX0_buildPair (3 * f + 5)) rfl rfl trivial ?_)
      have e9 : pfS E L kn a b (d + 1) = pfS E L kn a b d := by
        show _ + _ = _
        rw [if_neg q29]
        rfl
      rw [← e9]
      exact ih2 (d + 1) (by omega) (nI_1 _)
set_option maxHeartbeats 1000000 in
set_option maxRecDepth 20000 in
theorem hBPX14 {O : Nat → Int32} {Y : Nat → Nat → Int64} {g : Nat → zC} {P0 : Nat → Nat → Int32} {n : Nat} {E : Nat → Nat} (hE0 : eaR n P0 E) (hn : n ≤ 20) {G : Nat → Int32} (hG : gfR (O 12) G) {lt : Nat → Nat → Bool} (h0 : btR (O 10) (fun k => lt k 0)) (h1 : btR (O 11) (fun k => lt k 1)) {L : Nat → Nat → Nat} (hY : ∀ c d, c < d → d ≤ n → Y (34 + c) d = lN (L c d)) (hB : ∀ c d, c < d → d ≤ n → L c d ≤ 5 ^ (d - c - 1)) {f : Nat} (ih : ∀ (i j p : Nat) (T : List (Nat × Nat)) (x y : Int32) (z : Int64), x = nI i → y = nI j → z = lN p → i < j → j ≤ n → j - i ≤ f → RT E (mG E G lt L) L f i j p T → ∀ (u : Nat) (P : Nat → Nat → Int32) (st : List Nat), P 32 = P0 32 → u + T.length ≤ 120 → zK (3 * f + 4) zX0_buildSpan [.ref 31, .ref 14, .int x, .int y, .long z] (wX (upd O 2 (nI (u))) P Y g) (fun r w' => ∃ P' : Nat → Nat → Int32, r = some (.int (nI (u + T.length - 1))) ∧ w' = wX (upd O 2 (nI (u + T.length))) P' Y g ∧ lyC 14 T (P, u, st) (P', u + T.length, (u + T.length - 1) :: st) ∧ (∀ i, ¬ (14 < i ∧ i ≤ 26) → P' i = P i) ∧ 1 ≤ T.length)) {u : Nat} {P : Nat → Nat → Int32} {st : List Nat} (hP : P 32 = P0 32) {kn a b c r : Nat} {X1 Y1 : List (Nat × Nat)} (k2 : 2 ≤ kn) (k6 : kn ≤ 6) (hb : b ≤ n) (hf : b - a ≤ f + 1) (hc : a + 1 + c + 1 < b) (hEc : E (a + 1 + c) = 18 + kn) (hr : r < tmW (L a (a + 1 + c)) (L (a + 1 + c + 1) b)) (hX : RT E (mG E G lt L) L f a (a + 1 + c) (r / L (a + 1 + c + 1) b) X1) (hY1 : RT E (mG E G lt L) L f (a + 1 + c + 1) b (r % L (a + 1 + c + 1) b) Y1) (hu : u + (X1.length + Y1.length + 1) ≤ 120) {q : Nat} (hq : q = pfS E L kn a b c + r) (hq9 : q < 2 ^ 62) : zK (3 * f + 5) zX0_buildPair [.ref 31, .ref 14, .int (nI kn), .int (nI a), .int (nI b), .long (lN q)] (wX (upd O 2 (nI (u))) P Y g) (fun r w' => ∃ P' : Nat → Nat → Int32, r = some (.int (nI (u + (X1 ++ Y1 ++ [(kn, 0)]).length - 1))) ∧ w' = wX (upd O 2 (nI (u + (X1 ++ Y1 ++ [(kn, 0)]).length))) P' Y g ∧ lyC 14 (X1 ++ Y1 ++ [(kn, 0)]) (P, u, st) (P', u + (X1 ++ Y1 ++ [(kn, 0)]).length, (u + (X1 ++ Y1 ++ [(kn, 0)]).length - 1) :: st) ∧ (∀ i, ¬ (14 < i ∧ i ≤ 26) → P' i = P i) ∧ 1 ≤ (X1 ++ Y1 ++ [(kn, 0)]).length) := by
  refine zK_of qX0_buildPair (by decide +kernel) rfl ?_
  iterate 6 (refine zv_step (bX0_buildPair (3 * f + 5)) rfl rfl trivial ?_)
  subst hq
  exact hBPLX14 hE0 hn hG h0 h1 hY hB ih hP k2 k6 hb hf hc hEc hr hX hY1 hu hq9 _ c 0 (by omega) (nI_1 a)
set_option maxHeartbeats 1000000 in
set_option maxRecDepth 20000 in
theorem hBB0X14 {O : Nat → Int32} {Y : Nat → Nat → Int64} {g : Nat → zC} {P0 : Nat → Nat → Int32} {n : Nat} {E : Nat → Nat} (hE0 : eaR n P0 E) (hn : n ≤ 20) {G : Nat → Int32} (hG : gfR (O 12) G) {lt : Nat → Nat → Bool} (h0 : btR (O 10) (fun k => lt k 0)) (h1 : btR (O 11) (fun k => lt k 1)) {L : Nat → Nat → Nat} (hY : ∀ c d, c < d → d ≤ n → Y (34 + c) d = lN (L c d)) (hB : ∀ c d, c < d → d ≤ n → L c d ≤ 5 ^ (d - c - 1)) {f : Nat} {u : Nat} {P : Nat → Nat → Int32} {st : List Nat} (hP : P 32 = P0 32) {a b : Nat} (hab : a < b) (hb : b ≤ n) (hu : u + 1 ≤ 120) (kk : Int64) {x y : Int32} (ex : x = nI a) (ey : y = nI b) : zK (3 * f + 6) zX0_buildBare [.ref 31, .ref 14, .int (nI 0), .int x, .int y, .long kk] (wX (upd O 2 (nI (u))) P Y g) (fun r w' => ∃ P' : Nat → Nat → Int32, r = some (.int (nI (u + [(0, E a)].length - 1))) ∧ w' = wX (upd O 2 (nI (u + [(0, E a)].length))) P' Y g ∧ lyC 14 [(0, E a)] (P, u, st) (P', u + [(0, E a)].length, (u + [(0, E a)].length - 1) :: st) ∧ (∀ i, ¬ (14 < i ∧ i ≤ 26) → P' i = P i) ∧ 1 ≤ [(0, E a)].length) := by
  subst ex ey
  have hE := eaR_r hE0 hP
  refine zK_of qX0_buildBare (by decide +kernel) rfl ?_
  iterate 1 (refine zv_step (bX0_buildBare (3 * f + 6)) rfl rfl trivial ?_)
  refine zv_S1 (bX0_buildBare (3 * f + 6)) rfl rfl rfl rfl ⟨rfl, rfl, rfl⟩ ⟨by show 0 + 1 ≤ 3 * f + 6; omega, by show 8 + (1 + 11) + 64 * (0) ≤ 64 * (3 * f + 6); omega⟩ ⟨Nat.zero_le _, Nat.zero_le _⟩ (hX1_isPair _ _) ?_
  rintro _ _ ⟨rfl, ⟨hpr, rfl⟩ | ⟨hpr, rfl⟩⟩
  · skip
    iterate 1 (refine zv_step (bX0_buildBare (3 * f + 6)) rfl rfl trivial ?_)
    refine zv_iff (by decide) ?_
    exact absurd hpr (by decide)
  · skip
    iterate 1 (refine zv_step (bX0_buildBare (3 * f + 6)) rfl rfl trivial ?_)
    refine zv_ift (by decide) ?_
    iterate 2 (refine zv_step (bX0_buildBare (3 * f + 6)) rfl rfl trivial ?_)
    refine zv_iff (fun h => h rfl) ?_
    iterate 5 (refine zv_step (bX0_buildBare (3 * f + 6)) rfl rfl trivial ?_)
    refine zv_iale (bX0_buildBare (3 * f + 6)) rfl rfl (show vp_in (nI a) 20 by exact vp_in_nI (by omega) (by decide)) (show P 32 (nI a).toNatClampNeg = nI (E (a)) by rw [nI_clamp (by omega)]; exact (hE (a) (by omega)).1) ?_
    iterate 2 (refine zv_step (bX0_buildBare (3 * f + 6)) rfl rfl trivial ?_)
    refine zv_V4 (bX0_buildBare (3 * f + 6)) rfl rfl rfl rfl rfl rfl rfl ⟨rfl, rfl, rfl⟩ ⟨by show 2 + 1 ≤ 3 * f + 6; omega, by show 8 + (6 + 11) + 64 * (2) ≤ 64 * (3 * f + 6); omega⟩ ⟨Nat.zero_le _, Nat.zero_le _⟩ (pPut14 (upd O 2 (nI (u))) P Y g (show (nI (u)).toInt ≤ 120 by rw [nI_toInt (by omega)]; omega) (m := u) (by omega) rfl (nI 0) (nI (E a)) (m1) (m1)) ?_
    rintro r9 w9 hpo
    obtain ⟨rfl, sh, rfl⟩ := putX14 (by omega) hpo
    exact zv_iret (bX0_buildBare (3 * f + 6)) rfl (Or.inl rfl) (Nat.zero_le _) (Nat.zero_le _) ⟨_, rfl, rfl, tk_0 (by omega), fun i hi => stC_o hi, Nat.le_refl 1⟩
set_option maxHeartbeats 1000000 in
set_option maxRecDepth 20000 in
theorem hBB1X14 {O : Nat → Int32} {Y : Nat → Nat → Int64} {g : Nat → zC} {P0 : Nat → Nat → Int32} {n : Nat} {E : Nat → Nat} (hE0 : eaR n P0 E) (hn : n ≤ 20) {G : Nat → Int32} (hG : gfR (O 12) G) {lt : Nat → Nat → Bool} (h0 : btR (O 10) (fun k => lt k 0)) (h1 : btR (O 11) (fun k => lt k 1)) {L : Nat → Nat → Nat} (hY : ∀ c d, c < d → d ≤ n → Y (34 + c) d = lN (L c d)) (hB : ∀ c d, c < d → d ≤ n → L c d ≤ 5 ^ (d - c - 1)) {f : Nat} {u : Nat} {P : Nat → Nat → Int32} {st : List Nat} (hP : P 32 = P0 32) {a b : Nat} (hab : a < b) (hb : b ≤ n) (hnm : isNumB E a b = true) (hu : u + 1 ≤ 120) (kk : Int64) {x y : Int32} (ex : x = nI a) (ey : y = nI b) : zK (3 * f + 6) zX0_buildBare [.ref 31, .ref 14, .int (nI 1), .int x, .int y, .long kk] (wX (upd O 2 (nI (u))) P Y g) (fun r w' => ∃ P' : Nat → Nat → Int32, r = some (.int (nI (u + [(1, nvN E (b - a) a 0)].length - 1))) ∧ w' = wX (upd O 2 (nI (u + [(1, nvN E (b - a) a 0)].length))) P' Y g ∧ lyC 14 [(1, nvN E (b - a) a 0)] (P, u, st) (P', u + [(1, nvN E (b - a) a 0)].length, (u + [(1, nvN E (b - a) a 0)].length - 1) :: st) ∧ (∀ i, ¬ (14 < i ∧ i ≤ 26) → P' i = P i) ∧ 1 ≤ [(1, nvN E (b - a) a 0)].length) := by
  subst ex ey
  have hE := eaR_r hE0 hP
  refine zK_of qX0_buildBare (by decide +kernel) rfl ?_
  iterate 1 (refine zv_step (bX0_buildBare (3 * f + 6)) rfl rfl trivial ?_)
  refine zv_S1 (bX0_buildBare (3 * f + 6)) rfl rfl rfl rfl ⟨rfl, rfl, rfl⟩ ⟨by show 0 + 1 ≤ 3 * f + 6; omega, by show 8 + (1 + 11) + 64 * (0) ≤ 64 * (3 * f + 6); omega⟩ ⟨Nat.zero_le _, Nat.zero_le _⟩ (hX1_isPair _ _) ?_
  rintro _ _ ⟨rfl, ⟨hpr, rfl⟩ | ⟨hpr, rfl⟩⟩
  · skip
    iterate 1 (refine zv_step (bX0_buildBare (3 * f + 6)) rfl rfl trivial ?_)
    refine zv_iff (by decide) ?_
    exact absurd hpr (by decide)
  · skip
    iterate 1 (refine zv_step (bX0_buildBare (3 * f + 6)) rfl rfl trivial ?_)
    refine zv_ift (by decide) ?_
    iterate 2 (refine zv_step (bX0_buildBare (3 * f + 6)) rfl rfl trivial ?_)
    refine zv_ift (by decide) ?_
    iterate 3 (refine zv_step (bX0_buildBare (3 * f + 6)) rfl rfl trivial ?_)
    refine zv_iff (fun h => h rfl) ?_
    iterate 5 (refine zv_step (bX0_buildBare (3 * f + 6)) rfl rfl trivial ?_)
    refine zv_V2 (bX0_buildBare (3 * f + 6)) rfl rfl rfl rfl rfl rfl rfl ⟨rfl, rfl, rfl⟩ ⟨by show 0 + 1 ≤ 3 * f + 6; omega, by show 8 + (6 + 11) + 64 * (0) ≤ 64 * (3 * f + 6); omega⟩ ⟨Nat.zero_le _, Nat.zero_le _⟩ (hNum (upd O 2 (nI (u))) P Y g hab (by omega)) ?_
    rintro _ _ ⟨rfl, rfl⟩
    rw [nmW_num hE hab hb, if_pos hnm]
    iterate 2 (refine zv_step (bX0_buildBare (3 * f + 6)) rfl rfl trivial ?_)
    refine zv_V4 (bX0_buildBare (3 * f + 6)) rfl rfl rfl rfl rfl rfl rfl ⟨rfl, rfl, rfl⟩ ⟨by show 2 + 1 ≤ 3 * f + 6; omega, by show 8 + (6 + 11) + 64 * (2) ≤ 64 * (3 * f + 6); omega⟩ ⟨Nat.zero_le _, Nat.zero_le _⟩ (pPut14 (upd O 2 (nI (u))) P Y g (show (nI (u)).toInt ≤ 120 by rw [nI_toInt (by omega)]; omega) (m := u) (by omega) rfl (nI 1) (nI (nvN E (b - a) a 0)) (m1) (m1)) ?_
    rintro r9 w9 hpo
    obtain ⟨rfl, sh, rfl⟩ := putX14 (by omega) hpo
    exact zv_iret (bX0_buildBare (3 * f + 6)) rfl (Or.inl rfl) (Nat.zero_le _) (Nat.zero_le _) ⟨_, rfl, rfl, tk_0 (by omega), fun i hi => stC_o hi, Nat.le_refl 1⟩
set_option maxHeartbeats 1000000 in
set_option maxRecDepth 20000 in
theorem hBBUX14 {O : Nat → Int32} {Y : Nat → Nat → Int64} {g : Nat → zC} {P0 : Nat → Nat → Int32} {n : Nat} {E : Nat → Nat} (hE0 : eaR n P0 E) (hn : n ≤ 20) {G : Nat → Int32} (hG : gfR (O 12) G) {lt : Nat → Nat → Bool} (h0 : btR (O 10) (fun k => lt k 0)) (h1 : btR (O 11) (fun k => lt k 1)) {L : Nat → Nat → Nat} (hY : ∀ c d, c < d → d ≤ n → Y (34 + c) d = lN (L c d)) (hB : ∀ c d, c < d → d ≤ n → L c d ≤ 5 ^ (d - c - 1)) {f : Nat} (ih : ∀ (i j p : Nat) (T : List (Nat × Nat)) (x y : Int32) (z : Int64), x = nI i → y = nI j → z = lN p → i < j → j ≤ n → j - i ≤ f → RT E (mG E G lt L) L f i j p T → ∀ (u : Nat) (P : Nat → Nat → Int32) (st : List Nat), P 32 = P0 32 → u + T.length ≤ 120 → zK (3 * f + 4) zX0_buildSpan [.ref 31, .ref 14, .int x, .int y, .long z] (wX (upd O 2 (nI (u))) P Y g) (fun r w' => ∃ P' : Nat → Nat → Int32, r = some (.int (nI (u + T.length - 1))) ∧ w' = wX (upd O 2 (nI (u + T.length))) P' Y g ∧ lyC 14 T (P, u, st) (P', u + T.length, (u + T.length - 1) :: st) ∧ (∀ i, ¬ (14 < i ∧ i ≤ 26) → P' i = P i) ∧ 1 ≤ T.length)) {u : Nat} {P : Nat → Nat → Int32} {st : List Nat} (hP : P 32 = P0 32) {kn a b q : Nat} {X1 : List (Nat × Nat)} (k7 : 7 ≤ kn) (hk : kn < 10) (hb : b ≤ n) (hf : b - a ≤ f + 1) (hq : q < wi E G L kn a b) (hX : RT E (mG E G lt L) L f (pfN kn a) (ptN kn b) q X1) (hu : u + (X1.length + 1) ≤ 120) {x y : Int32} (ex : x = nI a) (ey : y = nI b) : zK (3 * f + 6) zX0_buildBare [.ref 31, .ref 14, .int (nI kn), .int x, .int y, .long (lN q)] (wX (upd O 2 (nI (u))) P Y g) (fun r w' => ∃ P' : Nat → Nat → Int32, r = some (.int (nI (u + (X1 ++ [(kn, E a)]).length - 1))) ∧ w' = wX (upd O 2 (nI (u + (X1 ++ [(kn, E a)]).length))) P' Y g ∧ lyC 14 (X1 ++ [(kn, E a)]) (P, u, st) (P', u + (X1 ++ [(kn, E a)]).length, (u + (X1 ++ [(kn, E a)]).length - 1) :: st) ∧ (∀ i, ¬ (14 < i ∧ i ≤ 26) → P' i = P i) ∧ 1 ≤ (X1 ++ [(kn, E a)]).length) := by
  subst ex ey
  have hE := eaR_r hE0 hP
  have hlen : (X1 ++ [(kn, E a)]).length = X1.length + 1 := by rw [List.length_append]; rfl
  obtain ⟨hab, w1, w2, w3, w4, w5⟩ := wi_un k7 hk hq
  refine zK_of qX0_buildBare (by decide +kernel) rfl ?_
  iterate 1 (refine zv_step (bX0_buildBare (3 * f + 6)) rfl rfl trivial ?_)
  refine zv_S1 (bX0_buildBare (3 * f + 6)) rfl rfl rfl rfl ⟨rfl, rfl, rfl⟩ ⟨by show 0 + 1 ≤ 3 * f + 6; omega, by show 8 + (1 + 11) + 64 * (0) ≤ 64 * (3 * f + 6); omega⟩ ⟨Nat.zero_le _, Nat.zero_le _⟩ (hX1_isPair _ _) ?_
  rintro _ _ ⟨rfl, ⟨hpr, rfl⟩ | ⟨hpr, rfl⟩⟩
  · rw [nI_toInt (by omega)] at hpr
    iterate 1 (refine zv_step (bX0_buildBare (3 * f + 6)) rfl rfl trivial ?_)
    refine zv_iff (by decide) ?_
    omega
  · skip
    iterate 1 (refine zv_step (bX0_buildBare (3 * f + 6)) rfl rfl trivial ?_)
    refine zv_ift (by decide) ?_
    iterate 2 (refine zv_step (bX0_buildBare (3 * f + 6)) rfl rfl trivial ?_)
    refine zv_ift (fun h => absurd ((nI_eq (b := 0) (by omega) (by decide)).mp h) (by omega)) ?_
    iterate 3 (refine zv_step (bX0_buildBare (3 * f + 6)) rfl rfl trivial ?_)
    refine zv_ift (fun h => absurd ((nI_eq (b := 1) (by omega) (by decide)).mp h) (by omega)) ?_
    iterate 4 (refine zv_step (bX0_buildBare (3 * f + 6)) rfl rfl trivial ?_)
    refine zv_S2 (bX0_buildBare (3 * f + 6)) rfl rfl rfl rfl ⟨rfl, rfl, rfl⟩ ⟨by show 0 + 1 ≤ 3 * f + 6; omega, by show 8 + (2 + 11) + 64 * (0) ≤ 64 * (3 * f + 6); omega⟩ ⟨Nat.zero_le _, Nat.zero_le _⟩ (hFrom _ _ _) ?_
    rintro _ _ ⟨rfl, rfl⟩
    iterate 2 (refine zv_step (bX0_buildBare (3 * f + 6)) rfl rfl trivial ?_)
    refine zv_S2 (bX0_buildBare (3 * f + 6)) rfl rfl rfl rfl ⟨rfl, rfl, rfl⟩ ⟨by show 0 + 1 ≤ 3 * f + 6; omega, by show 8 + (2 + 11) + 64 * (0) ≤ 64 * (3 * f + 6); omega⟩ ⟨Nat.zero_le _, Nat.zero_le _⟩ (hTo _ _ _) ?_
    rintro _ _ ⟨rfl, rfl⟩
    iterate 1 (refine zv_step (bX0_buildBare (3 * f + 6)) rfl rfl trivial ?_)
    refine zv_V4 (bX0_buildBare (3 * f + 6)) rfl rfl rfl rfl rfl rfl rfl ⟨rfl, rfl, rfl⟩ ⟨by show 3 * f + 4 + 1 ≤ 3 * f + 6; omega, by show 8 + (14 + 11) + 64 * (3 * f + 4) ≤ 64 * (3 * f + 6); omega⟩ ⟨Nat.zero_le _, Nat.zero_le _⟩ (ih (pfN kn a) (ptN kn b) q X1 _ _ _ (pf_N hk) (pt_N hk (by omega)) rfl w3 (by omega) (by omega) hX u P st hP (by omega)) ?_
    rintro _ _ ⟨P1, rfl, rfl, ly1, fr1, ln1⟩
    have hP1 : P1 32 = P0 32 := (fr1 32 (by omega)).trans hP
    have hE1 := eaR_r hE0 hP1
    iterate 6 (refine zv_step (bX0_buildBare (3 * f + 6)) rfl rfl trivial ?_)
    refine zv_ifb (fun h82 => ?_) (fun h82 => ?_)
    · have q82 : ¬ kn = 9 := fun e => h82 (by rw [e]; rfl)
      iterate 3 (refine zv_step (bX0_buildBare (3 * f + 6)) rfl rfl trivial ?_)
      refine zv_V4 (bX0_buildBare (3 * f + 6)) rfl rfl rfl rfl rfl rfl rfl ⟨rfl, rfl, rfl⟩ ⟨by show 2 + 1 ≤ 3 * f + 6; omega, by show 8 + (6 + 11) + 64 * (2) ≤ 64 * (3 * f + 6); omega⟩ ⟨Nat.zero_le _, Nat.zero_le _⟩ (pPut14 (upd O 2 (nI (u + X1.length))) P1 Y g (show (nI (u + X1.length)).toInt ≤ 120 by rw [nI_toInt (by omega)]; omega) (m := u + X1.length) (by omega) rfl (nI kn) (m1) (nI (u + X1.length - 1)) (m1)) ?_
      rintro r9 w9 hpo
      obtain ⟨rfl, sh, rfl⟩ := putX14 (by omega) hpo
      have hl9 : lyC 14 [(kn, E a)] (P1, u + X1.length, (u + X1.length - 1) :: st) (stC 14 P1 (u + X1.length) (nI kn) (m1) (nI (u + X1.length - 1)) m1 sh, u + X1.length + 1, (u + X1.length) :: st) := by
        have h := tk_1 (b := 14) (v := E a) (u := u + X1.length) (x := u + X1.length - 1) (P := P1) (st := st) (sh := sh) k7
        rw [if_neg q82] at h
        exact h
      have hly := lyC_app _ _ _ _ _ ly1 hl9
      refine zv_iret (bX0_buildBare (3 * f + 6)) rfl (Or.inl rfl) (Nat.zero_le _) (Nat.zero_le _) ⟨stC 14 P1 (u + X1.length) (nI kn) (m1) (nI (u + X1.length - 1)) m1 sh, ?_, ?_, ?_, fun i hi => (stC_o hi).trans (fr1 i hi), ?_⟩
      · rw [hlen]
        rfl
      · rw [hlen]
        rfl
      · rw [hlen]
        exact hly
      · rw [hlen]
        omega
    · have q82 : kn = 9 := (nI_eq (b := 9) (by omega) (by decide)).mp (Decidable.not_not.mp h82)
      iterate 3 (refine zv_step (bX0_buildBare (3 * f + 6)) rfl rfl trivial ?_)
      refine zv_iale (bX0_buildBare (3 * f + 6)) rfl rfl (show vp_in (nI a) 20 by exact vp_in_nI (by omega) (by decide)) (show P1 32 (nI a).toNatClampNeg = nI (E (a)) by rw [nI_clamp (by omega)]; exact (hE1 (a) (by omega)).1) ?_
      iterate 3 (refine zv_step (bX0_buildBare (3 * f + 6)) rfl rfl trivial ?_)
      refine zv_V4 (bX0_buildBare (3 * f + 6)) rfl rfl rfl rfl rfl rfl rfl ⟨rfl, rfl, rfl⟩ ⟨by show 2 + 1 ≤ 3 * f + 6; omega, by show 8 + (6 + 11) + 64 * (2) ≤ 64 * (3 * f + 6); omega⟩ ⟨Nat.zero_le _, Nat.zero_le _⟩ (pPut14 (upd O 2 (nI (u + X1.length))) P1 Y g (show (nI (u + X1.length)).toInt ≤ 120 by rw [nI_toInt (by omega)]; omega) (m := u + X1.length) (by omega) rfl (nI kn) (nI (E a)) (nI (u + X1.length - 1)) (m1)) ?_
      rintro r9 w9 hpo
      obtain ⟨rfl, sh, rfl⟩ := putX14 (by omega) hpo
      have hl9 : lyC 14 [(kn, E a)] (P1, u + X1.length, (u + X1.length - 1) :: st) (stC 14 P1 (u + X1.length) (nI kn) (nI (E a)) (nI (u + X1.length - 1)) m1 sh, u + X1.length + 1, (u + X1.length) :: st) := by
        have h := tk_1 (b := 14) (v := E a) (u := u + X1.length) (x := u + X1.length - 1) (P := P1) (st := st) (sh := sh) k7
        rw [if_pos q82] at h
        exact h
      have hly := lyC_app _ _ _ _ _ ly1 hl9
      refine zv_iret (bX0_buildBare (3 * f + 6)) rfl (Or.inl rfl) (Nat.zero_le _) (Nat.zero_le _) ⟨stC 14 P1 (u + X1.length) (nI kn) (nI (E a)) (nI (u + X1.length - 1)) m1 sh, ?_, ?_, ?_, fun i hi => (stC_o hi).trans (fr1 i hi), ?_⟩
      · rw [hlen]
        rfl
      · rw [hlen]
        rfl
      · rw [hlen]
        exact hly
      · rw [hlen]
        omega
set_option maxHeartbeats 1000000 in
set_option maxRecDepth 20000 in
theorem hBBPX14 {O : Nat → Int32} {Y : Nat → Nat → Int64} {g : Nat → zC} {P0 : Nat → Nat → Int32} {n : Nat} {E : Nat → Nat} (hE0 : eaR n P0 E) (hn : n ≤ 20) {G : Nat → Int32} (hG : gfR (O 12) G) {lt : Nat → Nat → Bool} (h0 : btR (O 10) (fun k => lt k 0)) (h1 : btR (O 11) (fun k => lt k 1)) {L : Nat → Nat → Nat} (hY : ∀ c d, c < d → d ≤ n → Y (34 + c) d = lN (L c d)) (hB : ∀ c d, c < d → d ≤ n → L c d ≤ 5 ^ (d - c - 1)) {f : Nat} (ih : ∀ (i j p : Nat) (T : List (Nat × Nat)) (x y : Int32) (z : Int64), x = nI i → y = nI j → z = lN p → i < j → j ≤ n → j - i ≤ f → RT E (mG E G lt L) L f i j p T → ∀ (u : Nat) (P : Nat → Nat → Int32) (st : List Nat), P 32 = P0 32 → u + T.length ≤ 120 → zK (3 * f + 4) zX0_buildSpan [.ref 31, .ref 14, .int x, .int y, .long z] (wX (upd O 2 (nI (u))) P Y g) (fun r w' => ∃ P' : Nat → Nat → Int32, r = some (.int (nI (u + T.length - 1))) ∧ w' = wX (upd O 2 (nI (u + T.length))) P' Y g ∧ lyC 14 T (P, u, st) (P', u + T.length, (u + T.length - 1) :: st) ∧ (∀ i, ¬ (14 < i ∧ i ≤ 26) → P' i = P i) ∧ 1 ≤ T.length)) {u : Nat} {P : Nat → Nat → Int32} {st : List Nat} (hP : P 32 = P0 32) {kn a b c r : Nat} {X1 Y1 : List (Nat × Nat)} (k2 : 2 ≤ kn) (k6 : kn ≤ 6) (hb : b ≤ n) (hf : b - a ≤ f + 1) (hc : a + 1 + c + 1 < b) (hEc : E (a + 1 + c) = 18 + kn) (hr : r < tmW (L a (a + 1 + c)) (L (a + 1 + c + 1) b)) (hX : RT E (mG E G lt L) L f a (a + 1 + c) (r / L (a + 1 + c + 1) b) X1) (hY1 : RT E (mG E G lt L) L f (a + 1 + c + 1) b (r % L (a + 1 + c + 1) b) Y1) (hu : u + (X1.length + Y1.length + 1) ≤ 120) {q : Nat} (hq : q = pfS E L kn a b c + r) (hq9 : q < 2 ^ 62) {x y : Int32} (ex : x = nI a) (ey : y = nI b) : zK (3 * f + 6) zX0_buildBare [.ref 31, .ref 14, .int (nI kn), .int x, .int y, .long (lN q)] (wX (upd O 2 (nI (u))) P Y g) (fun r w' => ∃ P' : Nat → Nat → Int32, r = some (.int (nI (u + (X1 ++ Y1 ++ [(kn, 0)]).length - 1))) ∧ w' = wX (upd O 2 (nI (u + (X1 ++ Y1 ++ [(kn, 0)]).length))) P' Y g ∧ lyC 14 (X1 ++ Y1 ++ [(kn, 0)]) (P, u, st) (P', u + (X1 ++ Y1 ++ [(kn, 0)]).length, (u + (X1 ++ Y1 ++ [(kn, 0)]).length - 1) :: st) ∧ (∀ i, ¬ (14 < i ∧ i ≤ 26) → P' i = P i) ∧ 1 ≤ (X1 ++ Y1 ++ [(kn, 0)]).length) := by
  subst ex ey
  refine zK_of qX0_buildBare (by decide +kernel) rfl ?_
  iterate 1 (refine zv_step (bX0_buildBare (3 * f + 6)) rfl rfl trivial ?_)
  refine zv_S1 (bX0_buildBare (3 * f + 6)) rfl rfl rfl rfl ⟨rfl, rfl, rfl⟩ ⟨by show 0 + 1 ≤ 3 * f + 6; omega, by show 8 + (1 + 11) + 64 * (0) ≤ 64 * (3 * f + 6); omega⟩ ⟨Nat.zero_le _, Nat.zero_le _⟩ (hX1_isPair _ _) ?_
  rintro _ _ ⟨rfl, ⟨hpr, rfl⟩ | ⟨hpr, rfl⟩⟩
  · skip
    iterate 1 (refine zv_step (bX0_buildBare (3 * f + 6)) rfl rfl trivial ?_)
    refine zv_iff (by decide) ?_
    iterate 6 (refine zv_step (bX0_buildBare (3 * f + 6)) rfl rfl trivial ?_)
    refine zv_V5 (bX0_buildBare (3 * f + 6)) rfl rfl rfl rfl rfl rfl rfl ⟨rfl, rfl, rfl⟩ ⟨by show 3 * f + 5 + 1 ≤ 3 * f + 6; omega, by show 8 + (16 + 11) + 64 * (3 * f + 5) ≤ 64 * (3 * f + 6); omega⟩ ⟨Nat.zero_le _, Nat.zero_le _⟩ (hBPX14 hE0 hn hG h0 h1 hY hB ih (st := st) hP k2 k6 hb hf hc hEc hr hX hY1 hu hq hq9) ?_
    rintro _ _ ⟨P1, rfl, rfl, ly1, fr1, ln1⟩
    exact zv_iret (bX0_buildBare (3 * f + 6)) rfl (Or.inl rfl) (Nat.zero_le _) (Nat.zero_le _) ⟨P1, rfl, rfl, ly1, fr1, ln1⟩
  · skip
    iterate 1 (refine zv_step (bX0_buildBare (3 * f + 6)) rfl rfl trivial ?_)
    refine zv_ift (by decide) ?_
    exact absurd (show 2 ≤ (nI kn).toInt ∧ (nI kn).toInt ≤ 6 by rw [nI_toInt (by omega)]; omega) hpr
theorem hBBX14 {O : Nat → Int32} {Y : Nat → Nat → Int64} {g : Nat → zC} {P0 : Nat → Nat → Int32} {n : Nat} {E : Nat → Nat} (hE0 : eaR n P0 E) (hn : n ≤ 20) {G : Nat → Int32} (hG : gfR (O 12) G) {lt : Nat → Nat → Bool} (h0 : btR (O 10) (fun k => lt k 0)) (h1 : btR (O 11) (fun k => lt k 1)) {L : Nat → Nat → Nat} (hY : ∀ c d, c < d → d ≤ n → Y (34 + c) d = lN (L c d)) (hB : ∀ c d, c < d → d ≤ n → L c d ≤ 5 ^ (d - c - 1)) {f : Nat} (ih : ∀ (i j p : Nat) (T : List (Nat × Nat)) (x y : Int32) (z : Int64), x = nI i → y = nI j → z = lN p → i < j → j ≤ n → j - i ≤ f → RT E (mG E G lt L) L f i j p T → ∀ (u : Nat) (P : Nat → Nat → Int32) (st : List Nat), P 32 = P0 32 → u + T.length ≤ 120 → zK (3 * f + 4) zX0_buildSpan [.ref 31, .ref 14, .int x, .int y, .long z] (wX (upd O 2 (nI (u))) P Y g) (fun r w' => ∃ P' : Nat → Nat → Int32, r = some (.int (nI (u + T.length - 1))) ∧ w' = wX (upd O 2 (nI (u + T.length))) P' Y g ∧ lyC 14 T (P, u, st) (P', u + T.length, (u + T.length - 1) :: st) ∧ (∀ i, ¬ (14 < i ∧ i ≤ 26) → P' i = P i) ∧ 1 ≤ T.length)) {u : Nat} {P : Nat → Nat → Int32} {st : List Nat} (hP : P 32 = P0 32) {kn a b q : Nat} {T : List (Nat × Nat)} (hk : kn < 10) (hab : a < b) (hb : b ≤ n) (hf : b - a ≤ f + 1) (hq : q < wi E G L kn a b) (hq9 : q < 2 ^ 62) (hT : RK E L (RT E (mG E G lt L) L f) kn a b q T) (hu : u + T.length ≤ 120) {x y : Int32} (ex : x = nI a) (ey : y = nI b) : zK (3 * f + 6) zX0_buildBare [.ref 31, .ref 14, .int (nI kn), .int x, .int y, .long (lN q)] (wX (upd O 2 (nI (u))) P Y g) (fun r w' => ∃ P' : Nat → Nat → Int32, r = some (.int (nI (u + T.length - 1))) ∧ w' = wX (upd O 2 (nI (u + T.length))) P' Y g ∧ lyC 14 T (P, u, st) (P', u + T.length, (u + T.length - 1) :: st) ∧ (∀ i, ¬ (14 < i ∧ i ≤ 26) → P' i = P i) ∧ 1 ≤ T.length) := by
  rcases hT with ⟨a1, a2⟩ | ⟨a1, X1, a2, a3⟩ | ⟨a1, a2, c, r, X1, Y1, b1, b2, b3, b4, b5, b6, b7⟩
  · rcases (show kn = 0 ∨ kn = 1 by omega) with e | e
    · subst e
      subst a2
      exact hBB0X14 hE0 hn hG h0 h1 hY hB hP hab hb hu _ ex ey
    · subst e
      subst a2
      refine hBB1X14 hE0 hn hG h0 h1 hY hB hP hab hb ?_ hu _ ex ey
      rw [wi_1 hab] at hq
      split at hq
      · assumption
      · omega
  · subst a2
    exact hBBUX14 hE0 hn hG h0 h1 hY hB ih hP a1 hk hb hf hq a3 (by rw [List.length_append] at hu; exact hu) ex ey
  · subst b5
    exact hBBPX14 hE0 hn hG h0 h1 hY hB ih hP a1 a2 hb hf b1 b2 b4 b6 b7 (by rw [List.length_append, List.length_append] at hu; exact hu) b3 hq9 ex ey
set_option maxHeartbeats 1000000 in
set_option maxRecDepth 20000 in
theorem hBSLX14 {O : Nat → Int32} {Y : Nat → Nat → Int64} {g : Nat → zC} {P0 : Nat → Nat → Int32} {n : Nat} {E : Nat → Nat} (hE0 : eaR n P0 E) (hn : n ≤ 20) {G : Nat → Int32} (hG : gfR (O 12) G) {lt : Nat → Nat → Bool} (h0 : btR (O 10) (fun k => lt k 0)) (h1 : btR (O 11) (fun k => lt k 1)) {L : Nat → Nat → Nat} (hY : ∀ c d, c < d → d ≤ n → Y (34 + c) d = lN (L c d)) (hB : ∀ c d, c < d → d ≤ n → L c d ≤ 5 ^ (d - c - 1)) {f : Nat} (ih : ∀ (i j p : Nat) (T : List (Nat × Nat)) (x y : Int32) (z : Int64), x = nI i → y = nI j → z = lN p → i < j → j ≤ n → j - i ≤ f → RT E (mG E G lt L) L f i j p T → ∀ (u : Nat) (P : Nat → Nat → Int32) (st : List Nat), P 32 = P0 32 → u + T.length ≤ 120 → zK (3 * f + 4) zX0_buildSpan [.ref 31, .ref 14, .int x, .int y, .long z] (wX (upd O 2 (nI (u))) P Y g) (fun r w' => ∃ P' : Nat → Nat → Int32, r = some (.int (nI (u + T.length - 1))) ∧ w' = wX (upd O 2 (nI (u + T.length))) P' Y g ∧ lyC 14 T (P, u, st) (P', u + T.length, (u + T.length - 1) :: st) ∧ (∀ i, ¬ (14 < i ∧ i ≤ 26) → P' i = P i) ∧ 1 ≤ T.length)) {u : Nat} {P : Nat → Nat → Int32} {st : List Nat} (hP : P 32 = P0 32) {i j p c0 q0 : Nat} {T : List (Nat × Nat)} (hij : i < j) (hj : j ≤ n) (hf : j - i ≤ f + 1) (hc20 : c0 < 20) (hp : p = sW (mG E G lt L i j) c0 + q0) (hq0 : q0 < mG E G lt L i j c0) (hR : RK E L (RT E (mG E G lt L) L f) (c0 / 2) (i + c0 % 2) (j - c0 % 2) q0 T) (hu : u + T.length ≤ 120) (hp9 : p < 2 ^ 62) (h62 : ∀ c, c < 20 → mG E G lt L i j c < 2 ^ 62) (kk : Int64) {e : Int32} (he : (e = 0 → ∀ w, mG E G lt L i j (2 * w + 1) = 0) ∧ (¬ e = 0 → 2 < j - i ∧ brE E i j)) {n0 : Nat} : ∀ (v w : Nat), w + v = 10 → 2 * w ≤ c0 → ∀ {x9 : Int32}, x9 = nI w → zV (zMo (3 * (f + 1) + 4) zX0_buildSpan) false n0 0 0 22 [(9, .int (x9)), (8, .int e), (6, .long (lN (p - sW (mG E G lt L i j) (2 * w)))), (0, .ref 31), (1, .ref 14), (2, .int (nI i)), (3, .int (nI j)), (4, .long kk)] [] (wX (upd O 2 (nI (u))) P Y g) (fun r w' => ∃ P' : Nat → Nat → Int32, r = some (.int (nI (u + T.length - 1))) ∧ w' = wX (upd O 2 (nI (u + T.length))) P' Y g ∧ lyC 14 T (P, u, st) (P', u + T.length, (u + T.length - 1) :: st) ∧ (∀ i, ¬ (14 < i ∧ i ≤ 26) → P' i = P i) ∧ 1 ≤ T.length) := by
  have hE := eaR_r hE0 hP
  intro v
  induction v with
  | zero =>
    intro w hw hwc x9 e9
    omega
  | succ v ih2 =>
    intro w hw hwc x9 e9
    subst e9
    have hsp := sW_mono (mG E G lt L i j) (2 * w) (c0 - 2 * w)
    rw [show 2 * w + (c0 - 2 * w) = c0 by omega] at hsp
    iterate 3 (refine zv_step (bX0_buildSpan (3 * (f + 1) + 4)) rfl rfl trivial ?_)
    refine zv_iff (show ¬ c8 9 < nI w from show ¬ nI 9 < nI w from nI_nlt (by omega) (by omega)) ?_
    iterate 9 (refine zv_step (bX0_buildSpan (3 * (f + 1) + 4)) rfl rfl trivial ?_)
    refine zv_V3 (bX0_buildSpan (3 * (f + 1) + 4)) rfl rfl rfl rfl rfl rfl rfl ⟨rfl, rfl, rfl⟩ ⟨by show 2 + 1 ≤ 3 * (f + 1) + 4; omega, by show 8 + (8 + 11) + 64 * (2) ≤ 64 * (3 * (f + 1) + 4); omega⟩ ⟨Nat.zero_le _, Nat.zero_le _⟩ (hBareX (upd O 2 (nI (u))) P Y g hE hG hij hj hn (fun c d _ h2 h3 _ => hY c d h2 (by omega)) (fun c d _ h2 h3 _ => hB c d h2 (by omega)) (btR_kd (btR_k h0 (show w < 10 by omega))) rfl rfl) ?_
    rintro _ _ ⟨rfl, rfl⟩
    rw [bS_one (show w < 10 by omega), ← mG_e (i := i) (j := j)]
    iterate 5 (refine zv_step (bX0_buildSpan (3 * (f + 1) + 4)) rfl rfl trivial ?_)
    refine zv_ifb (fun h51 => ?_) (fun h51 => ?_)
    · have q51 : mG E G lt L i j (2 * w) ≤ p - sW (mG E G lt L i j) (2 * w) := (lN_leJ (h62 _ (by omega)) (by omega)).mp ((lg_cmp_ge _ _).mp h51)
      have hlt : 2 * w < c0 := by
        rcases Nat.lt_or_ge (2 * w) c0 with e | e
        · exact e
        · have : 2 * w = c0 := by omega
          subst this
          omega
      have s1 : sW (mG E G lt L i j) (2 * w + 1) = sW (mG E G lt L i j) (2 * w) + mG E G lt L i j (2 * w) := rfl
      have s2 : sW (mG E G lt L i j) (2 * (w + 1)) = sW (mG E G lt L i j) (2 * w) + mG E G lt L i j (2 * w) + mG E G lt L i j (2 * w + 1) := rfl
      refine zv_locals (l := [(10, .long (lN (mG E G lt L i j (2 * w)))), (9, .int (nI w)), (8, .int e), (6, .long (lN (p - sW (mG E G lt L i j) (2 * w)))), (0, .ref 31), (1, .ref 14), (2, .int (nI i)), (3, .int (nI j)), (4, .long kk)]) (l' := [(10, .long (lN (mG E G lt L i j (2 * w)))), (9, .int (nI w)), (8, .int e), (6, .long (lN (p - sW (mG E G lt L i j) (2 * w)))), (0, .ref 31), (1, .ref 14), (2, .int (nI i)), (3, .int (nI j)), (4, .long kk)]) (fun q h => h) ?_
      iterate 4 (refine zv_step (bX0_buildSpan (3 * (f + 1) + 4)) rfl rfl trivial ?_)
      refine zv_locals (l := [(6, .long (lN (p - sW (mG E G lt L i j) (2 * w)) - lN (mG E G lt L i j (2 * w)))), (10, .long (lN (mG E G lt L i j (2 * w)))), (9, .int (nI w)), (8, .int e), (0, .ref 31), (1, .ref 14), (2, .int (nI i)), (3, .int (nI j)), (4, .long kk)]) (l' := [(6, .long (lN (p - sW (mG E G lt L i j) (2 * w)) - lN (mG E G lt L i j (2 * w)))), (10, .long (lN (mG E G lt L i j (2 * w)))), (9, .int (nI w)), (8, .int e), (0, .ref 31), (1, .ref 14), (2, .int (nI i)), (3, .int (nI j)), (4, .long kk)]) (fun q h => h) ?_
      rw [lN_sub q51]
      iterate 2 (refine zv_step (bX0_buildSpan (3 * (f + 1) + 4)) rfl rfl trivial ?_)
      refine zv_ifb (fun h75 => ?_) (fun h75 => ?_)
      · have q75 := he.1 h75
        iterate 1 (refine zv_step (bX0_buildSpan (3 * (f + 1) + 4)) rfl rfl trivial ?_)
        rw [show Int64.ofNat ((0 : Fin 2) : Nat) = lN (mG E G lt L i j (2 * w + 1)) by rw [q75 w]; rfl]
        iterate 5 (refine zv_step (bX0_buildSpan (3 * (f + 1) + 4)) rfl rfl trivial ?_)
        refine zv_ifb (fun h108 => ?_) (fun h108 => ?_)
        · have q108 : mG E G lt L i j (2 * w + 1) ≤ p - sW (mG E G lt L i j) (2 * w) - mG E G lt L i j (2 * w) := (lN_leJ (h62 _ (by omega)) (by omega)).mp ((lg_cmp_ge _ _).mp h108)
          have hlt2 : 2 * w + 1 < c0 := by
            rcases Nat.lt_or_ge (2 * w + 1) c0 with e | e
            · exact e
            · have : 2 * w + 1 = c0 := by omega
              subst this
              omega
          iterate 6 (refine zv_step (bX0_buildSpan (3 * (f + 1) + 4)) rfl rfl trivial ?_)
          refine zv_locals (l := [(9, .int (nI w + Int32.ofInt 1)), (6, .long (lN (p - sW (mG E G lt L i j) (2 * w) - mG E G lt L i j (2 * w)) - lN (mG E G lt L i j (2 * w + 1)))), (12, .long (lN (mG E G lt L i j (2 * w + 1)))), (10, .long (lN (mG E G lt L i j (2 * w)))), (8, .int e), (0, .ref 31), (1, .ref 14), (2, .int (nI i)), (3, .int (nI j)), (4, .long kk)]) (l' := [(9, .int (nI w + Int32.ofInt 1)), (8, .int e), (6, .long (lN (p - sW (mG E G lt L i j) (2 * w) - mG E G lt L i j (2 * w)) - lN (mG E G lt L i j (2 * w + 1)))), (0, .ref 31), (1, .ref 14), (2, .int (nI i)), (3, .int (nI j)), (4, .long kk)]) (by simp) ?_
          rw [lN_sub q108, show p - sW (mG E G lt L i j) (2 * w) - mG E G lt L i j (2 * w) - mG E G lt L i j (2 * w + 1) = p - sW (mG E G lt L i j) (2 * (w + 1)) by omega]
          exact ih2 (w + 1) (by omega) (by omega) (nI_1 w)
        · have q108 : ¬ mG E G lt L i j (2 * w + 1) ≤ p - sW (mG E G lt L i j) (2 * w) - mG E G lt L i j (2 * w) := fun q => h108 ((lg_cmp_ge _ _).mpr ((lN_leJ (h62 _ (by omega)) (by omega)).mpr q))
          have hc0 : 2 * w + 1 = c0 := by
            rcases Nat.lt_or_ge (2 * w + 1) c0 with e | e
            · have := sW_mono (mG E G lt L i j) (2 * w + 1 + 1) (c0 - (2 * w + 1 + 1))
              rw [show 2 * w + 1 + 1 + (c0 - (2 * w + 1 + 1)) = c0 by omega] at this
              have s3 : sW (mG E G lt L i j) (2 * w + 1 + 1) = sW (mG E G lt L i j) (2 * w + 1) + mG E G lt L i j (2 * w + 1) := rfl
              omega
            · omega
          subst hc0
          have eq0 : p - sW (mG E G lt L i j) (2 * w) - mG E G lt L i j (2 * w) = q0 := by omega
          rw [show (2 * w + 1) / 2 = w by omega, show (2 * w + 1) % 2 = 1 by omega] at hR
          have hw0 := (mG_pos hq0).1
          rw [show (2 * w + 1) / 2 = w by omega, show (2 * w + 1) % 2 = 1 by omega] at hw0
          have hab1 : i + 1 < j - 1 := by
            rcases Nat.lt_or_ge (i + 1) (j - 1) with e | e
            · exact e
            · rw [wi_n e] at hw0
              omega
          refine zv_locals (l := [(12, .long (lN (mG E G lt L i j (2 * w + 1)))), (6, .long (lN (p - sW (mG E G lt L i j) (2 * w) - mG E G lt L i j (2 * w)))), (10, .long (lN (mG E G lt L i j (2 * w)))), (9, .int (nI w)), (8, .int e), (0, .ref 31), (1, .ref 14), (2, .int (nI i)), (3, .int (nI j)), (4, .long kk)]) (l' := [(12, .long (lN (mG E G lt L i j (2 * w + 1)))), (6, .long (lN (p - sW (mG E G lt L i j) (2 * w) - mG E G lt L i j (2 * w)))), (10, .long (lN (mG E G lt L i j (2 * w)))), (9, .int (nI w)), (8, .int e), (0, .ref 31), (1, .ref 14), (2, .int (nI i)), (3, .int (nI j)), (4, .long kk)]) (fun q h => h) ?_
          rw [eq0]
          iterate 10 (refine zv_step (bX0_buildSpan (3 * (f + 1) + 4)) rfl rfl trivial ?_)
          refine zv_V5 (bX0_buildSpan (3 * (f + 1) + 4)) rfl rfl rfl rfl rfl rfl rfl ⟨rfl, rfl, rfl⟩ ⟨by show 3 * f + 6 + 1 ≤ 3 * (f + 1) + 4; omega, by show 8 + (8 + 11) + 64 * (3 * f + 6) ≤ 64 * (3 * (f + 1) + 4); omega⟩ ⟨Nat.zero_le _, Nat.zero_le _⟩ (hBBX14 hE0 hn hG h0 h1 hY hB ih (st := st) hP (a := i + 1) (b := j - 1) (show w < 10 by omega) hab1 (by omega) (by omega) hw0 (by omega) hR hu (nI_1 i) (sub_1 (by omega))) ?_
          rintro _ _ ⟨P1, rfl, rfl, ly1, fr1, ln1⟩
          exact zv_iret (bX0_buildSpan (3 * (f + 1) + 4)) rfl (Or.inl rfl) (Nat.zero_le _) (Nat.zero_le _) ⟨P1, rfl, rfl, ly1, fr1, ln1⟩
      · have q75 := he.2 h75
        iterate 13 (refine zv_step (bX0_buildSpan (3 * (f + 1) + 4)) rfl rfl trivial ?_)
        refine zv_V3 (bX0_buildSpan (3 * (f + 1) + 4)) rfl rfl rfl rfl rfl rfl rfl ⟨rfl, rfl, rfl⟩ ⟨by show 2 + 1 ≤ 3 * (f + 1) + 4; omega, by show 8 + (8 + 11) + 64 * (2) ≤ 64 * (3 * (f + 1) + 4); omega⟩ ⟨Nat.zero_le _, Nat.zero_le _⟩ (hBareX (upd O 2 (nI (u))) P Y g hE hG (a := i + 1) (b := j - 1) (by omega) (by omega) hn (fun c d _ h2 h3 _ => hY c d h2 (by omega)) (fun c d _ h2 h3 _ => hB c d h2 (by omega)) (btR_kd (btR_k h1 (show w < 10 by omega))) (nI_1 i) (sub_1 (by omega))) ?_
        rintro _ _ ⟨rfl, rfl⟩
        have e94 : bS E G L (fun k => lt k 1 && decide (k = w)) (i + 1) (j - 1) = mG E G lt L i j (2 * w + 1) := by rw [bS_one (show w < 10 by omega), mG_o, if_pos q75.2]
        rw [e94]
        iterate 6 (refine zv_step (bX0_buildSpan (3 * (f + 1) + 4)) rfl rfl trivial ?_)
        refine zv_ifb (fun h108 => ?_) (fun h108 => ?_)
        · have q108 : mG E G lt L i j (2 * w + 1) ≤ p - sW (mG E G lt L i j) (2 * w) - mG E G lt L i j (2 * w) := (lN_leJ (h62 _ (by omega)) (by omega)).mp ((lg_cmp_ge _ _).mp h108)
          have hlt2 : 2 * w + 1 < c0 := by
            rcases Nat.lt_or_ge (2 * w + 1) c0 with e | e
            · exact e
            · have : 2 * w + 1 = c0 := by omega
              subst this
              omega
          iterate 6 (refine zv_step (bX0_buildSpan (3 * (f + 1) + 4)) rfl rfl trivial ?_)
          refine zv_locals (l := [(9, .int (nI w + Int32.ofInt 1)), (6, .long (lN (p - sW (mG E G lt L i j) (2 * w) - mG E G lt L i j (2 * w)) - lN (mG E G lt L i j (2 * w + 1)))), (12, .long (lN (mG E G lt L i j (2 * w + 1)))), (10, .long (lN (mG E G lt L i j (2 * w)))), (8, .int e), (0, .ref 31), (1, .ref 14), (2, .int (nI i)), (3, .int (nI j)), (4, .long kk)]) (l' := [(9, .int (nI w + Int32.ofInt 1)), (8, .int e), (6, .long (lN (p - sW (mG E G lt L i j) (2 * w) - mG E G lt L i j (2 * w)) - lN (mG E G lt L i j (2 * w + 1)))), (0, .ref 31), (1, .ref 14), (2, .int (nI i)), (3, .int (nI j)), (4, .long kk)]) (by simp) ?_
          rw [lN_sub q108, show p - sW (mG E G lt L i j) (2 * w) - mG E G lt L i j (2 * w) - mG E G lt L i j (2 * w + 1) = p - sW (mG E G lt L i j) (2 * (w + 1)) by omega]
          exact ih2 (w + 1) (by omega) (by omega) (nI_1 w)
        · have q108 : ¬ mG E G lt L i j (2 * w + 1) ≤ p - sW (mG E G lt L i j) (2 * w) - mG E G lt L i j (2 * w) := fun q => h108 ((lg_cmp_ge _ _).mpr ((lN_leJ (h62 _ (by omega)) (by omega)).mpr q))
          have hc0 : 2 * w + 1 = c0 := by
            rcases Nat.lt_or_ge (2 * w + 1) c0 with e | e
            · have := sW_mono (mG E G lt L i j) (2 * w + 1 + 1) (c0 - (2 * w + 1 + 1))
              rw [show 2 * w + 1 + 1 + (c0 - (2 * w + 1 + 1)) = c0 by omega] at this
              have s3 : sW (mG E G lt L i j) (2 * w + 1 + 1) = sW (mG E G lt L i j) (2 * w + 1) + mG E G lt L i j (2 * w + 1) := rfl
              omega
            · omega
          subst hc0
          have eq0 : p - sW (mG E G lt L i j) (2 * w) - mG E G lt L i j (2 * w) = q0 := by omega
          rw [show (2 * w + 1) / 2 = w by omega, show (2 * w + 1) % 2 = 1 by omega] at hR
          have hw0 := (mG_pos hq0).1
          rw [show (2 * w + 1) / 2 = w by omega, show (2 * w + 1) % 2 = 1 by omega] at hw0
          have hab1 : i + 1 < j - 1 := by
            rcases Nat.lt_or_ge (i + 1) (j - 1) with e | e
            · exact e
            · rw [wi_n e] at hw0
              omega
          refine zv_locals (l := [(12, .long (lN (mG E G lt L i j (2 * w + 1)))), (6, .long (lN (p - sW (mG E G lt L i j) (2 * w) - mG E G lt L i j (2 * w)))), (10, .long (lN (mG E G lt L i j (2 * w)))), (9, .int (nI w)), (8, .int e), (0, .ref 31), (1, .ref 14), (2, .int (nI i)), (3, .int (nI j)), (4, .long kk)]) (l' := [(12, .long (lN (mG E G lt L i j (2 * w + 1)))), (6, .long (lN (p - sW (mG E G lt L i j) (2 * w) - mG E G lt L i j (2 * w)))), (10, .long (lN (mG E G lt L i j (2 * w)))), (9, .int (nI w)), (8, .int e), (0, .ref 31), (1, .ref 14), (2, .int (nI i)), (3, .int (nI j)), (4, .long kk)]) (fun q h => h) ?_
          rw [eq0]
          iterate 10 (refine zv_step (bX0_buildSpan (3 * (f + 1) + 4)) rfl rfl trivial ?_)
          refine zv_V5 (bX0_buildSpan (3 * (f + 1) + 4)) rfl rfl rfl rfl rfl rfl rfl ⟨rfl, rfl, rfl⟩ ⟨by show 3 * f + 6 + 1 ≤ 3 * (f + 1) + 4; omega, by show 8 + (8 + 11) + 64 * (3 * f + 6) ≤ 64 * (3 * (f + 1) + 4); omega⟩ ⟨Nat.zero_le _, Nat.zero_le _⟩ (hBBX14 hE0 hn hG h0 h1 hY hB ih (st := st) hP (a := i + 1) (b := j - 1) (show w < 10 by omega) hab1 (by omega) (by omega) hw0 (by omega) hR hu (nI_1 i) (sub_1 (by omega))) ?_
          rintro _ _ ⟨P1, rfl, rfl, ly1, fr1, ln1⟩
          exact zv_iret (bX0_buildSpan (3 * (f + 1) + 4)) rfl (Or.inl rfl) (Nat.zero_le _) (Nat.zero_le _) ⟨P1, rfl, rfl, ly1, fr1, ln1⟩
    · have q51 : ¬ mG E G lt L i j (2 * w) ≤ p - sW (mG E G lt L i j) (2 * w) := fun q => h51 ((lg_cmp_ge _ _).mpr ((lN_leJ (h62 _ (by omega)) (by omega)).mpr q))
      have hc0 : 2 * w = c0 := by
        rcases Nat.lt_or_ge (2 * w) c0 with e | e
        · have := sW_mono (mG E G lt L i j) (2 * w + 1) (c0 - (2 * w + 1))
          rw [show 2 * w + 1 + (c0 - (2 * w + 1)) = c0 by omega] at this
          have s1 : sW (mG E G lt L i j) (2 * w + 1) = sW (mG E G lt L i j) (2 * w) + mG E G lt L i j (2 * w) := rfl
          omega
        · omega
      subst hc0
      have eq0 : p - sW (mG E G lt L i j) (2 * w) = q0 := by omega
      rw [show 2 * w / 2 = w by omega, show 2 * w % 2 = 0 by omega] at hR
      have hw0 := (mG_pos hq0).1
      rw [show 2 * w / 2 = w by omega, show 2 * w % 2 = 0 by omega] at hw0
      refine zv_locals (l := [(10, .long (lN (mG E G lt L i j (2 * w)))), (9, .int (nI w)), (8, .int e), (6, .long (lN (p - sW (mG E G lt L i j) (2 * w)))), (0, .ref 31), (1, .ref 14), (2, .int (nI i)), (3, .int (nI j)), (4, .long kk)]) (l' := [(10, .long (lN (mG E G lt L i j (2 * w)))), (9, .int (nI w)), (8, .int e), (6, .long (lN (p - sW (mG E G lt L i j) (2 * w)))), (0, .ref 31), (1, .ref 14), (2, .int (nI i)), (3, .int (nI j)), (4, .long kk)]) (fun q h => h) ?_
      rw [eq0]
      iterate 6 (refine zv_step (bX0_buildSpan (3 * (f + 1) + 4)) rfl rfl trivial ?_)
      refine zv_V5 (bX0_buildSpan (3 * (f + 1) + 4)) rfl rfl rfl rfl rfl rfl rfl ⟨rfl, rfl, rfl⟩ ⟨by show 3 * f + 6 + 1 ≤ 3 * (f + 1) + 4; omega, by show 8 + (8 + 11) + 64 * (3 * f + 6) ≤ 64 * (3 * (f + 1) + 4); omega⟩ ⟨Nat.zero_le _, Nat.zero_le _⟩ (hBBX14 hE0 hn hG h0 h1 hY hB ih (st := st) hP (show w < 10 by omega) hij hj hf hw0 (by omega) hR hu rfl rfl) ?_
      rintro _ _ ⟨P1, rfl, rfl, ly1, fr1, ln1⟩
      exact zv_iret (bX0_buildSpan (3 * (f + 1) + 4)) rfl (Or.inl rfl) (Nat.zero_le _) (Nat.zero_le _) ⟨P1, rfl, rfl, ly1, fr1, ln1⟩
set_option maxHeartbeats 1000000 in
set_option maxRecDepth 20000 in
theorem hBSX14 {O : Nat → Int32} {Y : Nat → Nat → Int64} {g : Nat → zC} {P0 : Nat → Nat → Int32} {n : Nat} {E : Nat → Nat} (hE0 : eaR n P0 E) (hn : n ≤ 20) {G : Nat → Int32} (hG : gfR (O 12) G) {lt : Nat → Nat → Bool} (h0 : btR (O 10) (fun k => lt k 0)) (h1 : btR (O 11) (fun k => lt k 1)) {L : Nat → Nat → Nat} (hY : ∀ c d, c < d → d ≤ n → Y (34 + c) d = lN (L c d)) (hB : ∀ c d, c < d → d ≤ n → L c d ≤ 5 ^ (d - c - 1)) : ∀ (f i j p : Nat) (T : List (Nat × Nat)) (x y : Int32) (z : Int64), x = nI i → y = nI j → z = lN p → i < j → j ≤ n → j - i ≤ f → RT E (mG E G lt L) L f i j p T → ∀ (u : Nat) (P : Nat → Nat → Int32) (st : List Nat), P 32 = P0 32 → u + T.length ≤ 120 → zK (3 * f + 4) zX0_buildSpan [.ref 31, .ref 14, .int x, .int y, .long z] (wX (upd O 2 (nI (u))) P Y g) (fun r w' => ∃ P' : Nat → Nat → Int32, r = some (.int (nI (u + T.length - 1))) ∧ w' = wX (upd O 2 (nI (u + T.length))) P' Y g ∧ lyC 14 T (P, u, st) (P', u + T.length, (u + T.length - 1) :: st) ∧ (∀ i, ¬ (14 < i ∧ i ≤ 26) → P' i = P i) ∧ 1 ≤ T.length) := by
  intro f
  induction f with
  | zero =>
    intro i j p T x y z _ _ _ hij _ hf
    omega
  | succ f ih =>
    intro i j p T x y z ex ey ez hij hj hf hT u P st hP hu
    subst ex ey ez
    have hE := eaR_r hE0 hP
    obtain ⟨c0, q0, hc20, hp, hq0, hR⟩ := hT
    have h62 : ∀ c, c < 20 → mG E G lt L i j c < 2 ^ 62 := fun c e => by
      have := mG_le1 hn (E := E) (G := G) (lt := lt) hB hij hj c e
      unfold cap at this
      omega
    have hp9 : p < 2 ^ 62 := by
      have hb : BD L i j := fun a b _ h2 h3 _ => hB a b h2 (by omega)
      have h1 := tS_le (E := E) (G := G) hb hij (by omega) lt
      rw [← sW_tS] at h1
      have h2 := sW_mono (mG E G lt L i j) (c0 + 1) (20 - (c0 + 1))
      rw [show c0 + 1 + (20 - (c0 + 1)) = 20 by omega] at h2
      have h3 : sW (mG E G lt L i j) (c0 + 1) = sW (mG E G lt L i j) c0 + mG E G lt L i j c0 := rfl
      have h4 := pow5_cap1 (n := j - i - 1) (by omega)
      unfold cap at h4
      omega
    refine zK_of qX0_buildSpan (by decide +kernel) rfl ?_
    iterate 3 (refine zv_step (bX0_buildSpan (3 * (f + 1) + 4)) rfl rfl trivial ?_)
    refine zv_ift (nI_lt (by omega) (by omega)) ?_
    iterate 5 (refine zv_step (bX0_buildSpan (3 * (f + 1) + 4)) rfl rfl trivial ?_)
    refine zv_V2 (bX0_buildSpan (3 * (f + 1) + 4)) rfl rfl rfl rfl rfl rfl rfl ⟨rfl, rfl, rfl⟩ ⟨by show 0 + 1 ≤ 3 * (f + 1) + 4; omega, by show 8 + (3 + 11) + 64 * (0) ≤ 64 * (3 * (f + 1) + 4); omega⟩ ⟨Nat.zero_le _, Nat.zero_le _⟩ (hBr (upd O 2 (nI (u))) P Y g hij (by omega)) ?_
    rintro _ _ ⟨rfl, ⟨hh, rfl⟩ | ⟨hh, rfl⟩⟩
    · skip
      iterate 3 (refine zv_step (bX0_buildSpan (3 * (f + 1) + 4)) rfl rfl trivial ?_)
      rw [show lN p = lN (p - sW (mG E G lt L i j) (2 * 0)) by rw [show sW (mG E G lt L i j) (2 * 0) = 0 from rfl, Nat.sub_zero]]
      exact hBSLX14 hE0 hn hG h0 h1 hY hB ih hP hij hj hf hc20 hp hq0 hR hu hp9 h62 _ ⟨fun e => absurd e (by decide), fun _ => (br_E hE hij hj).mp hh⟩ 10 0 rfl (Nat.zero_le _) rfl
    · skip
      iterate 3 (refine zv_step (bX0_buildSpan (3 * (f + 1) + 4)) rfl rfl trivial ?_)
      rw [show lN p = lN (p - sW (mG E G lt L i j) (2 * 0)) by rw [show sW (mG E G lt L i j) (2 * 0) = 0 from rfl, Nat.sub_zero]]
      exact hBSLX14 hE0 hn hG h0 h1 hY hB ih hP hij hj hf hc20 hp hq0 hR hu hp9 h62 _ ⟨fun _ w => by
        rw [mG_o]
        split
        · rename_i q
          have : ¬ 2 < j - i := fun e => hh ((br_E hE hij hj).mpr ⟨e, q⟩)
          rw [wi_n (by omega)]
          split <;> rfl
        · rfl, fun e => absurd rfl e⟩ 10 0 rfl (Nat.zero_le _) rfl
set_option maxHeartbeats 1000000 in
set_option maxRecDepth 20000 in
theorem hBuildX14 {O : Nat → Int32} {Y : Nat → Nat → Int64} {g : Nat → zC} {P0 : Nat → Nat → Int32} {n : Nat} {E : Nat → Nat} (hE0 : eaR n P0 E) (hn : n ≤ 20) {G : Nat → Int32} (hG : gfR (O 12) G) {lt : Nat → Nat → Bool} (h0 : btR (O 10) (fun k => lt k 0)) (h1 : btR (O 11) (fun k => lt k 1)) {L : Nat → Nat → Nat} (hY : ∀ c d, c < d → d ≤ n → Y (34 + c) d = lN (L c d)) (hB : ∀ c d, c < d → d ≤ n → L c d ≤ 5 ^ (d - c - 1)) (hO : O 9 = nI n) (h9 : 0 < n) {p : Nat} {T : List (Nat × Nat)} (hT : RT E (mG E G lt L) L 20 0 n p T) {u : Nat} {P : Nat → Nat → Int32} {st : List Nat} (hP : P 32 = P0 32) (hu : u + T.length ≤ 120) : zK 65 zX0_build [.ref 31, .ref 14, .long (lN p)] (wX (upd O 2 (nI (u))) P Y g) (fun r w' => ∃ P' : Nat → Nat → Int32, r = some (.int (nI (u + T.length - 1))) ∧ w' = wX (upd O 2 (nI (u + T.length))) P' Y g ∧ lyC 14 T (P, u, st) (P', u + T.length, (u + T.length - 1) :: st) ∧ (∀ i, ¬ (14 < i ∧ i ≤ 26) → P' i = P i) ∧ 1 ≤ T.length) := by
  refine zK_of qX0_build (by decide +kernel) rfl ?_
  iterate 6 (refine zv_step (bX0_build 65) rfl rfl trivial ?_)
  refine zv_V4 (bX0_build 65) rfl rfl rfl rfl rfl rfl rfl ⟨rfl, rfl, rfl⟩ ⟨by decide, by decide⟩ ⟨Nat.zero_le _, Nat.zero_le _⟩ (hBSX14 hE0 hn hG h0 h1 hY hB 20 0 n p T _ _ _ rfl hO rfl h9 (Nat.le_refl _) (by omega) hT u P st hP hu) ?_
  rintro _ _ ⟨P1, rfl, rfl, ly1, fr1, ln1⟩
  exact zv_iret (bX0_build 65) rfl (Or.inl rfl) (Nat.zero_le _) (Nat.zero_le _) ⟨P1, rfl, rfl, ly1, fr1, ln1⟩
end
section
/-- the row of KINDS and v's of a NODE of the reference's table, each PART ahead of what it is a PART of -/
def kvN (A : Nat → Nat → Int32) (n : Nat) : Nat × Nat := ((A 0 n).toNatClampNeg, if A 0 n = nI 7 then 25 else if A 0 n = nI 8 then 26 else (A 1 n).toNatClampNeg)
def tkW (A : Nat → Nat → Int32) : Nat → Int32 → List (Nat × Nat)
  | 0, _ => []
  | z + 1, x => if x < 0 then [] else tkW A z (A 2 x.toNatClampNeg) ++ tkW A z (A 3 x.toNatClampNeg) ++ [kvN A x.toNatClampNeg]
theorem tkW_m2 (A : Nat → Nat → Int32) (z : Nat) : tkW A z m2 = [] := by
  cases z with
  | zero => rfl
  | succ z => exact if_pos (by decide)
theorem tkW_nI {A : Nat → Nat → Int32} {z n : Nat} (hn : n < 450) : tkW A (z + 1) (nI n) = tkW A z (A 2 n) ++ tkW A z (A 3 n) ++ [kvN A n] := by
  show (if nI n < 0 then [] else tkW A z (A 2 (nI n).toNatClampNeg) ++ tkW A z (A 3 (nI n).toNatClampNeg) ++ [kvN A (nI n).toNatClampNeg]) = _
  rw [if_neg (nI_pos (by omega)), nI_clamp (by omega)]
theorem tkW_fr {lo hi : Nat} {A A' : Nat → Nat → Int32} (hh : hi ≤ 450) (hT : tbI lo hi A) (e : ∀ r, r < 4 → ∀ i, lo ≤ i → i < hi → A' r i = A r i) : ∀ (z : Nat) (x : Int32), pt lo hi A z x → tkW A' z x = tkW A z x
  | 0, x, _ => rfl
  | z + 1, x, h => by
    rcases h with rfl | ⟨n, rfl, hlo, hn, hz⟩
    · rw [tkW_m2, tkW_m2]
    · obtain ⟨p2, p3⟩ := rN_parts hT hlo hn hz
      have k : kvN A' n = kvN A n := by
        unfold kvN
        rw [e 0 (by decide) n hlo hn, e 1 (by decide) n hlo hn]
      rw [tkW_nI (by omega), tkW_nI (by omega), e 2 (by decide) n hlo hn, e 3 (by decide) n hlo hn, tkW_fr hh hT e z _ p2, tkW_fr hh hT e z _ p3, k]
theorem kv_lf {A : Nat → Nat → Int32} {n k v : Nat} (h0 : A 0 n = nI k) (h1 : A 1 n = nI v) (hk : k < 10) (h7 : ¬ k = 7) (h8 : ¬ k = 8) (hv : v < 2 ^ 31) : kvN A n = (k, v) := by
  unfold kvN
  rw [h0, h1, if_neg (fun e => h7 ((nI_eq (by omega) (by decide)).mp e)), if_neg (fun e => h8 ((nI_eq (by omega) (by decide)).mp e)), nI_clamp (by omega), nI_clamp hv]
theorem tkW_lf {A : Nat → Nat → Int32} {n k v z : Nat} (hn : n < 450) (hk : k < 2) (hv : v < 2 ^ 31) : tkW (setsA A n (nI k) (nI v) m2 m2) (z + 1) (nI n) = [(k, v)] := by
  rw [tkW_nI hn, show setsA A n (nI k) (nI v) m2 m2 2 n = m2 from upd_self _ _ _, show setsA A n (nI k) (nI v) m2 m2 3 n = m2 from upd_self _ _ _, tkW_m2, kv_lf (k := k) (v := v) (upd_self _ _ _) (upd_self _ _ _) (by omega) (by omega) (by omega) hv]
  rfl
theorem tkW_un {A : Nat → Nat → Int32} {n k z m : Nat} {v : Int32} (hn : n < 450) (k7 : 7 ≤ k) (k9 : k < 10) (hm : m < 450) : tkW (setsA A n (nI k) v (nI m) m2) (z + 1) (nI n) = tkW (setsA A n (nI k) v (nI m) m2) z (nI m) ++ [(k, if k = 7 then 25 else if k = 8 then 26 else v.toNatClampNeg)] := by
  have e : kvN (setsA A n (nI k) v (nI m) m2) n = (k, if k = 7 then 25 else if k = 8 then 26 else v.toNatClampNeg) := by
    unfold kvN
    rw [show setsA A n (nI k) v (nI m) m2 0 n = nI k from upd_self _ _ _, show setsA A n (nI k) v (nI m) m2 1 n = v from upd_self _ _ _, nI_clamp (by omega)]
    by_cases h : k = 7
    · subst h
      rfl
    · rw [if_neg (fun e => h ((nI_eq (by omega) (by decide)).mp e)), if_neg h]
      by_cases h8 : k = 8
      · subst h8
        rfl
      · rw [if_neg (fun e => h8 ((nI_eq (by omega) (by decide)).mp e)), if_neg h8]
  rw [tkW_nI hn, show setsA A n (nI k) v (nI m) m2 2 n = nI m from upd_self _ _ _, show setsA A n (nI k) v (nI m) m2 3 n = m2 from upd_self _ _ _, tkW_m2, List.append_nil, e]
theorem tkW_bi {A : Nat → Nat → Int32} {n k z x y : Nat} (hn : n < 450) (k2 : 2 ≤ k) (k6 : k ≤ 6) (hx : x < 450) (hy : y < 450) : tkW (setsA A n (nI k) m2 (nI x) (nI y)) (z + 1) (nI n) = tkW (setsA A n (nI k) m2 (nI x) (nI y)) z (nI x) ++ tkW (setsA A n (nI k) m2 (nI x) (nI y)) z (nI y) ++ [(k, 0)] := by
  have e : kvN (setsA A n (nI k) m2 (nI x) (nI y)) n = (k, 0) := by
    unfold kvN
    rw [show setsA A n (nI k) m2 (nI x) (nI y) 0 n = nI k from upd_self _ _ _, show setsA A n (nI k) m2 (nI x) (nI y) 1 n = m2 from upd_self _ _ _, nI_clamp (by omega), if_neg (fun e => absurd ((nI_eq (by omega) (by decide)).mp e) (by omega)), if_neg (fun e => absurd ((nI_eq (by omega) (by decide)).mp e) (by omega))]
    rfl
  rw [tkW_nI hn, show setsA A n (nI k) m2 (nI x) (nI y) 2 n = nI x from upd_self _ _ _, show setsA A n (nI k) m2 (nI x) (nI y) 3 n = nI y from upd_self _ _ _, e]
set_option maxHeartbeats 1000000 in
set_option maxRecDepth 20000 in
theorem takNX (f : Nat → zC) (o : Nat → Int32) (A0 : Nat → Nat → Int32) (J : Nat → Nat → Int64) {A : Nat → Nat → Int32} {h : Nat} (hh : h ≤ 20) (hw : nnW h (A0 8)) (eE : A 8 = A0 8) {a b q p fu : Nat} {x7 x1 x2 : Int32} {x3 : Int64} (hb : b ≤ h) (hb4 : b - a ≤ 4) (hab : a < b) (hd : ∀ x, a ≤ x → x < b → 10 ≤ eW A0 x ∧ eW A0 x ≤ 19) {n0 : Nat} {Q : Option Value → zW → Prop} (kk : ∀ v : Nat, v = nvN (eW A0) (b - a) a 0 → v < 10 ^ (b - a) → zV (zMo (2 * (fu + 1) + 3) zX7_takes) false n0 0 0 203 [(10, .int (nI v)), (9, .int (nI b)), (8, .int (nI a)), (7, .int x7), (5, .long (lN p)), (0, .ref 76), (1, .int x1), (2, .int x2), (3, .long x3)] [] (wR f (upd o 29 (nI q)) A J) Q) : ∀ (c t x v : Nat), x + c = b → a + t = x → t ≤ 4 → v < 10 ^ t → nvN (eW A0) c x v = nvN (eW A0) (b - a) a 0 → ∀ {x11 : Int32}, x11 = nI x → zV (zMo (2 * (fu + 1) + 3) zX7_takes) false n0 0 0 172 [(11, .int x11), (10, .int (nI v)), (9, .int (nI b)), (8, .int (nI a)), (7, .int x7), (5, .long (lN p)), (0, .ref 76), (1, .int x1), (2, .int x2), (3, .long x3)] [] (wR f (upd o 29 (nI q)) A J) Q := by
  intro c
  induction c with
  | zero =>
    intro t x v hc ht ht4 hv hnv x11 e11
    subst e11
    iterate 3 (refine zv_step (bX7_takes (2 * (fu + 1) + 3)) rfl rfl trivial ?_)
    refine zv_ift (nI_le (by omega) (by omega)) ?_
    refine zv_locals (l := [(11, .int (nI x)), (10, .int (nI v)), (9, .int (nI b)), (8, .int (nI a)), (7, .int x7), (5, .long (lN p)), (0, .ref 76), (1, .int x1), (2, .int x2), (3, .long x3)]) (l' := [(10, .int (nI v)), (9, .int (nI b)), (8, .int (nI a)), (7, .int x7), (5, .long (lN p)), (0, .ref 76), (1, .int x1), (2, .int x2), (3, .long x3)]) ?_ (kk v hnv (by rw [show b - a = t by omega]; exact hv))
    simp
  | succ c ih2 =>
    intro t x v hc ht ht4 hv hnv x11 e11
    subst e11
    have hp4 : 10 ^ t ≤ 10 ^ 4 := Nat.pow_le_pow_right (by decide) ht4
    iterate 3 (refine zv_step (bX7_takes (2 * (fu + 1) + 3)) rfl rfl trivial ?_)
    refine zv_iff (fun h => absurd ((nI_leI (by omega) (by omega)).mp h) (by omega)) ?_
    iterate 6 (refine zv_step (bX7_takes (2 * (fu + 1) + 3)) rfl rfl trivial ?_)
    refine zv_iale (bX7_takes (2 * (fu + 1) + 3)) rfl rfl (vp_in_nI (by omega) (by decide)) (show A 8 (nI x).toNatClampNeg = nI (eW A0 (x)) by rw [nI_clamp (by omega), eE]; exact (eW_of hw (by omega)).1) ?_
    iterate 6 (refine zv_step (bX7_takes (2 * (fu + 1) + 3)) rfl rfl trivial ?_)
    obtain ⟨d1, d2⟩ := hd x (by omega) (by omega)
    have hp1 : 10 ^ (t + 1) = 10 * 10 ^ t := by rw [Nat.pow_succ, Nat.mul_comm]
    have e9 : c8 10 * nI v + nI (eW A0 x) - c8 10 = nI (10 * v + eW A0 x - 10) := by
      rw [show c8 10 = nI 10 from rfl, nI_mul, nI_add, nI_sub (by omega)]
    refine zv_locals (l := [(11, .int (nI x + Int32.ofInt 1)), (10, .int (c8 10 * nI v + nI (eW A0 x) - c8 10)), (9, .int (nI b)), (8, .int (nI a)), (7, .int x7), (5, .long (lN p)), (0, .ref 76), (1, .int x1), (2, .int x2), (3, .long x3)]) (l' := [(11, .int (nI x + Int32.ofInt 1)), (10, .int (c8 10 * nI v + nI (eW A0 x) - c8 10)), (9, .int (nI b)), (8, .int (nI a)), (7, .int x7), (5, .long (lN p)), (0, .ref 76), (1, .int x1), (2, .int x2), (3, .long x3)]) (fun q h => h) ?_
    rw [e9]
    exact ih2 (t + 1) (x + 1) (10 * v + eW A0 x - 10) (by omega) (by omega) (by omega) (by omega) hnv (nI_1 x)
set_option maxHeartbeats 1000000 in
set_option maxRecDepth 20000 in
theorem tak2LX (f : Nat → zC) (o : Nat → Int32) (A0 : Nat → Nat → Int32) (J : Nat → Nat → Int64) {h : Nat} (hh : h ≤ 20) (hw : nnW h (A0 8)) {s : Nat} (hJ : okJ h A0 s J) {fu : Nat} (ih : ∀ (i j p : Nat) (x y : Int32) (z : Int64), x = nI i → y = nI j → z = lN p → i < j → j ≤ h → j - i ≤ fu → p < lW J i j → ∀ (q : Nat) (A : Nat → Nat → Int32), (∀ r, 6 ≤ r → A r = A0 r) → tbI 400 (400 + q) A → q + (j - i) ≤ 44 → zK (2 * fu + 3) zX7_takes [.ref 76, .int x, .int y, .long z] (wR f (upd o 29 (nI q)) A J) (fun r w' => ∃ (q1 : Nat) (A' : Nat → Nat → Int32), r = some (.int (nI (400 + q1))) ∧ w' = (wR f (upd o 29 (nI (q1 + 1))) A' J) ∧ tkF A q A' q1 (j - i) ∧ RT (eW A0) (mW A0 s (lW J)) (lW J) fu i j p (tkW A' fu (nI (400 + q1))))) {k a b p : Nat} (k2 : 2 ≤ k) (k6 : k ≤ 6) (hb : b ≤ h) (hf : b - a ≤ fu + 1) {A : Nat → Nat → Int32} (h6 : ∀ r, 6 ≤ r → A r = A0 r) {q : Nat} (hT : tbI 400 (400 + q) A) (hq : q + (b - a) ≤ 44) (hpp : p < pfS (eW A0) (lW J) k a b (b - 1 - (a + 1))) (hp9 : p ≤ cap) {x4 : Int64} {n0 : Nat} : ∀ (w c l : Nat), a + 1 + c + w = b - 1 → a + 1 + c ≤ 20 → p = pfS (eW A0) (lW J) k a b c + l → ∀ {x8 : Int32} {x6 : Int64}, x8 = nI (a + 1 + c) → x6 = lN l → zV (zMo (2 * fu + 4) zX7_takesTwo) false n0 0 0 9 [(8, .int x8), (6, .long x6), (0, .ref 76), (1, .int (nI k)), (2, .int (nI a)), (3, .int (nI b)), (4, .long x4)] [] (wR f (upd o 29 (nI q)) A J) (fun r w' => ∃ (q1 : Nat) (A' : Nat → Nat → Int32), r = some (.int (nI (400 + q1))) ∧ w' = (wR f (upd o 29 (nI (q1 + 1))) A' J) ∧ tkF A q A' q1 (b - a) ∧ RK (eW A0) (lW J) (RT (eW A0) (mW A0 s (lW J)) (lW J) fu) k a b p (tkW A' (fu + 1) (nI (400 + q1)))) := by
  have eE : A 8 = A0 8 := h6 8 (by decide)
  intro w
  induction w with
  | zero =>
    intro c l hc hc2 hp x8 x6 e8 e6
    rw [show b - 1 - (a + 1) = c by omega] at hpp
    omega
  | succ w ih2 =>
    intro c l hc hc2 hp x8 x6 e8 e6
    subst e8 e6
    iterate 3 (refine zv_step (bX7_takesTwo (2 * fu + 4)) rfl rfl trivial ?_)
    refine zv_iale (bX7_takesTwo (2 * fu + 4)) rfl rfl (vp_in_nI (by omega) (by decide)) (show A 8 (nI (a + 1 + c)).toNatClampNeg = nI (eW A0 (a + 1 + c)) by rw [nI_clamp (by omega), eE]; exact (eW_of hw (by omega)).1) ?_
    iterate 4 (refine zv_step (bX7_takesTwo (2 * fu + 4)) rfl rfl trivial ?_)
    refine zv_ifb (fun h20 => ?_) (fun h20 => ?_)
    · have q20 : ¬ eW A0 (a + 1 + c) = 18 + k := fun e => h20 (by show nI (eW A0 (a + 1 + c)) = nI 18 + nI k; rw [nI_add, e])
      iterate 4 (refine zv_step (bX7_takesTwo (2 * fu + 4)) rfl rfl trivial ?_)
      refine zv_iale (bX7_takesTwo (2 * fu + 4)) rfl rfl (vp_in_nI (by omega) (by decide)) (show A 8 (nI (a + 1 + c)).toNatClampNeg = nI (eW A0 (a + 1 + c)) by rw [nI_clamp (by omega), eE]; exact (eW_of hw (by omega)).1) ?_
      iterate 4 (refine zv_step (bX7_takesTwo (2 * fu + 4)) rfl rfl trivial ?_)
      refine zv_ift (fun e => q20 ((nI_eq (by have := (eW_of hw (show a + 1 + c < h by omega)).2; omega) (by omega)).mp (show nI (eW A0 (a + 1 + c)) = nI (18 + k) by rw [← nI_add]; exact e))) ?_
      iterate 5 (refine zv_step (bX7_takesTwo (2 * fu + 4)) rfl rfl trivial ?_)
      have e9 : pfS (eW A0) (lW J) k a b (c + 1) = pfS (eW A0) (lW J) k a b c + 0 := by
        show _ + _ = _
        rw [if_neg q20]
      refine zv_locals (l := [(8, .int (nI (a + 1 + c) + Int32.ofInt 1)), (6, .long (lN l - lN 0)), (0, .ref 76), (1, .int (nI k)), (2, .int (nI a)), (3, .int (nI b)), (4, .long x4)]) (l' := [(8, .int (nI (a + 1 + c) + Int32.ofInt 1)), (6, .long (lN l - lN 0)), (0, .ref 76), (1, .int (nI k)), (2, .int (nI a)), (3, .int (nI b)), (4, .long x4)]) (fun q h => h) (ih2 (c + 1) (l - 0) (by omega) (by omega) (by rw [e9]; omega) (nI_1 (a + 1 + c)) (lN_sub (by omega)))
    · have q20 : eW A0 (a + 1 + c) = 18 + k := by
        have h9 : nI (eW A0 (a + 1 + c)) = nI 18 + nI k := Decidable.not_not.mp h20
        have := (eW_of hw (show a + 1 + c < h by omega)).2
        rwa [nI_add, nI_eq (by omega) (by omega)] at h9
      iterate 8 (refine zv_step (bX7_takesTwo (2 * fu + 4)) rfl rfl trivial ?_)
      refine zv_lale (bX7_takesTwo (2 * fu + 4)) rfl rfl (show vp_in (c8 21 * nI a + nI (a + 1 + c)) 441 by rw [ix21]; exact vp_in_nI (by omega) (by decide)) (show J 1 (c8 21 * nI a + nI (a + 1 + c)).toNatClampNeg = lN (lW J (a) (a + 1 + c)) by rw [ix21, nI_clamp (by omega)]; exact (okS_l (hJ (a) (a + 1 + c) (by omega) (by omega))).2.2) ?_
      iterate 9 (refine zv_step (bX7_takesTwo (2 * fu + 4)) rfl rfl trivial ?_)
      refine zv_lale (bX7_takesTwo (2 * fu + 4)) rfl rfl (show vp_in (c8 21 * (nI (a + 1 + c) + Int32.ofInt 1) + nI b) 441 by rw [show nI (a + 1 + c) + Int32.ofInt 1 = nI (a + 1 + c + 1) from nI_1 _, ix21]; exact vp_in_nI (by omega) (by decide)) (show J 1 (c8 21 * (nI (a + 1 + c) + Int32.ofInt 1) + nI b).toNatClampNeg = lN (lW J (a + 1 + c + 1) (b)) by rw [show nI (a + 1 + c) + Int32.ofInt 1 = nI (a + 1 + c + 1) from nI_1 _, ix21, nI_clamp (by omega)]; exact (okS_l (hJ (a + 1 + c + 1) (b) (by omega) (by omega))).2.2) ?_
      refine zv_S2 (bX7_takesTwo (2 * fu + 4)) rfl rfl rfl rfl ⟨rfl, rfl, rfl⟩ ⟨by show 0 + 1 ≤ 2 * fu + 4; omega, by show 8 + (4 + 11) + 64 * (0) ≤ 64 * (2 * fu + 4); omega⟩ ⟨Nat.zero_le _, Nat.zero_le _⟩ (mMul _ (okS_l (hJ a (a + 1 + c) (by omega) (by omega))).2.1 (okS_l (hJ (a + 1 + c + 1) b (by omega) (by omega))).2.1) ?_
      rintro _ _ ⟨rfl, rfl⟩
      iterate 2 (refine zv_step (bX7_takesTwo (2 * fu + 4)) rfl rfl trivial ?_)
      refine zv_ifb (fun h55 => ?_) (fun h55 => ?_)
      · have q55 : l < (tmW (lW J a (a + 1 + c)) (lW J (a + 1 + c + 1) b)) := by
          have h9 : lN l < lN (tmW (lW J a (a + 1 + c)) (lW J (a + 1 + c + 1) b)) := (lg_cmp_lt _ _).mp h55
          have := (tmW_le (lW J a (a + 1 + c)) (lW J (a + 1 + c + 1) b)).1
          rwa [lN_ltJ (by unfold cap at *; omega) (by unfold cap at *; omega)] at h9
        obtain ⟨lb0, lb1⟩ : 0 < lW J (a + 1 + c + 1) b ∧ l / lW J (a + 1 + c + 1) b < lW J a (a + 1 + c) := by
          have ht := (tmW_le (lW J a (a + 1 + c)) (lW J (a + 1 + c + 1) b)).2
          have h0 : 0 < lW J (a + 1 + c + 1) b := by
            rcases Nat.eq_zero_or_pos (lW J (a + 1 + c + 1) b) with e | e
            · rw [e, Nat.mul_zero] at ht
              rw [e] at q55
              omega
            · exact e
          exact ⟨h0, (Nat.div_lt_iff_lt_mul h0).mpr (by omega)⟩
        have lb2 : l % lW J (a + 1 + c + 1) b < lW J (a + 1 + c + 1) b := Nat.mod_lt _ lb0
        have capb := (okS_l (hJ (a + 1 + c + 1) b (by omega) (by omega))).2.1
        have hl9 : l < 2 ^ 62 := by have := (tmW_le (lW J a (a + 1 + c)) (lW J (a + 1 + c + 1) b)).1; unfold cap at *; omega
        iterate 9 (refine zv_step (bX7_takesTwo (2 * fu + 4)) rfl rfl trivial ?_)
        refine zv_lale (bX7_takesTwo (2 * fu + 4)) rfl rfl (show vp_in (c8 21 * (nI (a + 1 + c) + Int32.ofInt 1) + nI b) 441 by rw [show nI (a + 1 + c) + Int32.ofInt 1 = nI (a + 1 + c + 1) from nI_1 _, ix21]; exact vp_in_nI (by omega) (by decide)) (show J 1 (c8 21 * (nI (a + 1 + c) + Int32.ofInt 1) + nI b).toNatClampNeg = lN (lW J (a + 1 + c + 1) (b)) by rw [show nI (a + 1 + c) + Int32.ofInt 1 = nI (a + 1 + c + 1) from nI_1 _, ix21, nI_clamp (by omega)]; exact (okS_l (hJ (a + 1 + c + 1) (b) (by omega) (by omega))).2.2) ?_
        iterate 6 (refine zv_step (bX7_takesTwo (2 * fu + 4)) rfl rfl trivial ?_)
        refine zv_step (bX7_takesTwo (2 * fu + 4)) rfl rfl (fun e => absurd ((lN_eqJ (b := 0) (by unfold cap at capb; omega) (by decide)).mp e) (by omega)) ?_
        refine zv_V3 (bX7_takesTwo (2 * fu + 4)) rfl rfl rfl rfl rfl rfl rfl ⟨rfl, rfl, rfl⟩ ⟨by show 2 * fu + 3 + 1 ≤ 2 * fu + 4; omega, by show 8 + (12 + 11) + 64 * (2 * fu + 3) ≤ 64 * (2 * fu + 4); omega⟩ ⟨Nat.zero_le _, Nat.zero_le _⟩ (ih a (a + 1 + c) (l / lW J (a + 1 + c + 1) b) _ _ _ rfl rfl (lN_divJ hl9 (by unfold cap at capb; omega)) (by omega) (by omega) (by omega) lb1 q A h6 hT (by omega)) ?_
        rintro _ _ ⟨q1, A1, rfl, rfl, k1, r1⟩
        iterate 12 (refine zv_step (bX7_takesTwo (2 * fu + 4)) rfl rfl trivial ?_)
        refine zv_step (bX7_takesTwo (2 * fu + 4)) rfl rfl (fun e => absurd ((lN_eqJ (b := 0) (by unfold cap at capb; omega) (by decide)).mp e) (by omega)) ?_
        refine zv_V3 (bX7_takesTwo (2 * fu + 4)) rfl rfl rfl rfl rfl rfl rfl ⟨rfl, rfl, rfl⟩ ⟨by show 2 * fu + 3 + 1 ≤ 2 * fu + 4; omega, by show 8 + (12 + 11) + 64 * (2 * fu + 3) ≤ 64 * (2 * fu + 4); omega⟩ ⟨Nat.zero_le _, Nat.zero_le _⟩ (ih (a + 1 + c + 1) b (l % lW J (a + 1 + c + 1) b) _ _ _ (nI_1 _) rfl (show lN l - lN l / lN (lW J (a + 1 + c + 1) b) * lN (lW J (a + 1 + c + 1) b) = lN (l % lW J (a + 1 + c + 1) b) by rw [lN_divJ hl9 (by unfold cap at capb; omega), lN_mul, lN_sub (Nat.div_mul_le_self _ _)]; congr 1; have := Nat.div_add_mod l (lW J (a + 1 + c + 1) b); rw [Nat.mul_comm] at this; omega) (by omega) (by omega) (by omega) lb2 (q1 + 1) A1 (fun r hr => (k1.1 r hr).trans (h6 r hr)) k1.2.1 (by have := k1.2.2.2.2.1; omega)) ?_
        rintro _ _ ⟨q2, A2, rfl, rfl, k9, r2⟩
        refine zv_V4 (bX7_takesTwo (2 * fu + 4)) rfl rfl rfl rfl rfl rfl rfl ⟨rfl, rfl, rfl⟩ ⟨by show 1 + 1 ≤ 2 * fu + 4; omega, by show 8 + (5 + 11) + 64 * (1) ≤ 64 * (2 * fu + 4); omega⟩ ⟨Nat.zero_le _, Nat.zero_le _⟩ (mMakes f o A2 J (q := q2 + 1) (by have := k1.2.2.2.2.1; have := k9.2.2.2.2.1; have := k9.2.2.2.1; omega) (fun _ => vp_in_nI (by have := k9.2.2.2.2.1; have := k1.2.2.2.2.1; have := k9.2.2.2.1; omega) (by decide)) (fun _ => vp_in_nI (by have := k1.2.2.2.2.1; have := k9.2.2.2.2.1; have := k9.2.2.2.1; omega) (by decide))) ?_
        rintro _ _ ⟨rfl, rfl⟩
        have l1 := k1.2.2.2.2.1
        have l2 := k9.2.2.2.2.1
        have m1 := k1.2.2.2.1
        have m9 := k9.2.2.2.1
        have hK := tkF_bi k1 k9 (len := b - a) (k := k) (by omega) (by omega) (by omega) k2 k6
        have s1 := k1.2.2.2.2.2
        have s9 := k9.2.2.2.2.2
        have e1 : tkW (setsA A2 (400 + (q2 + 1)) (nI k) m2 (nI (400 + q1)) (nI (400 + q2))) fu (nI (400 + q1)) = tkW A1 fu (nI (400 + q1)) := tkW_fr (by omega) k1.2.1 (fun r hr i i1 i2 => (setsA_o (by omega)).trans (k9.2.2.1 r i (by omega))) fu _ (Or.inr ⟨400 + q1, rfl, by omega, by omega, by omega⟩)
        have e2 : tkW (setsA A2 (400 + (q2 + 1)) (nI k) m2 (nI (400 + q1)) (nI (400 + q2))) fu (nI (400 + q2)) = tkW A2 fu (nI (400 + q2)) := tkW_fr (by omega) k9.2.1 (fun r hr i i1 i2 => setsA_o (by omega)) fu _ (Or.inr ⟨400 + q2, rfl, by omega, by omega, by omega⟩)
        exact zv_iret (bX7_takesTwo (2 * fu + 4)) rfl (Or.inl rfl) (Nat.zero_le _) (Nat.zero_le _) ⟨q2 + 1, _, rfl, rfl, hK, Or.inr (Or.inr ⟨k2, k6, c, l, _, _, by omega, q20, hp, q55, (tkW_bi (by omega) k2 k6 (by omega) (by omega)).trans (by rw [e1, e2]), r1, r2⟩)⟩
      · have q55 : ¬ l < (tmW (lW J a (a + 1 + c)) (lW J (a + 1 + c + 1) b)) := fun e => h55 ((lg_cmp_lt _ _).mpr (by
          have := (tmW_le (lW J a (a + 1 + c)) (lW J (a + 1 + c + 1) b)).1
          rwa [lN_ltJ (by unfold cap at *; omega) (by unfold cap at *; omega)]))
        iterate 4 (refine zv_step (bX7_takesTwo (2 * fu + 4)) rfl rfl trivial ?_)
        refine zv_iale (bX7_takesTwo (2 * fu + 4)) rfl rfl (vp_in_nI (by omega) (by decide)) (show A 8 (nI (a + 1 + c)).toNatClampNeg = nI (eW A0 (a + 1 + c)) by rw [nI_clamp (by omega), eE]; exact (eW_of hw (by omega)).1) ?_
        iterate 4 (refine zv_step (bX7_takesTwo (2 * fu + 4)) rfl rfl trivial ?_)
        refine zv_iff (fun h => h (show nI (eW A0 (a + 1 + c)) = nI 18 + nI k by rw [nI_add, q20])) ?_
        iterate 7 (refine zv_step (bX7_takesTwo (2 * fu + 4)) rfl rfl trivial ?_)
        refine zv_lale (bX7_takesTwo (2 * fu + 4)) rfl rfl (show vp_in (c8 21 * nI a + nI (a + 1 + c)) 441 by rw [ix21]; exact vp_in_nI (by omega) (by decide)) (show J 1 (c8 21 * nI a + nI (a + 1 + c)).toNatClampNeg = lN (lW J (a) (a + 1 + c)) by rw [ix21, nI_clamp (by omega)]; exact (okS_l (hJ (a) (a + 1 + c) (by omega) (by omega))).2.2) ?_
        iterate 9 (refine zv_step (bX7_takesTwo (2 * fu + 4)) rfl rfl trivial ?_)
        refine zv_lale (bX7_takesTwo (2 * fu + 4)) rfl rfl (show vp_in (c8 21 * (nI (a + 1 + c) + Int32.ofInt 1) + nI b) 441 by rw [show nI (a + 1 + c) + Int32.ofInt 1 = nI (a + 1 + c + 1) from nI_1 _, ix21]; exact vp_in_nI (by omega) (by decide)) (show J 1 (c8 21 * (nI (a + 1 + c) + Int32.ofInt 1) + nI b).toNatClampNeg = lN (lW J (a + 1 + c + 1) (b)) by rw [show nI (a + 1 + c) + Int32.ofInt 1 = nI (a + 1 + c + 1) from nI_1 _, ix21, nI_clamp (by omega)]; exact (okS_l (hJ (a + 1 + c + 1) (b) (by omega) (by omega))).2.2) ?_
        refine zv_S2 (bX7_takesTwo (2 * fu + 4)) rfl rfl rfl rfl ⟨rfl, rfl, rfl⟩ ⟨by show 0 + 1 ≤ 2 * fu + 4; omega, by show 8 + (4 + 11) + 64 * (0) ≤ 64 * (2 * fu + 4); omega⟩ ⟨Nat.zero_le _, Nat.zero_le _⟩ (mMul _ (okS_l (hJ a (a + 1 + c) (by omega) (by omega))).2.1 (okS_l (hJ (a + 1 + c + 1) b (by omega) (by omega))).2.1) ?_
        rintro _ _ ⟨rfl, rfl⟩
        iterate 5 (refine zv_step (bX7_takesTwo (2 * fu + 4)) rfl rfl trivial ?_)
        have e9 : pfS (eW A0) (lW J) k a b (c + 1) = pfS (eW A0) (lW J) k a b c + (tmW (lW J a (a + 1 + c)) (lW J (a + 1 + c + 1) b)) := by
          show _ + _ = _
          rw [if_pos q20]
        refine zv_locals (l := [(8, .int (nI (a + 1 + c) + Int32.ofInt 1)), (6, .long (lN l - lN (tmW (lW J a (a + 1 + c)) (lW J (a + 1 + c + 1) b)))), (0, .ref 76), (1, .int (nI k)), (2, .int (nI a)), (3, .int (nI b)), (4, .long x4)]) (l' := [(8, .int (nI (a + 1 + c) + Int32.ofInt 1)), (6, .long (lN l - lN (tmW (lW J a (a + 1 + c)) (lW J (a + 1 + c + 1) b)))), (0, .ref 76), (1, .int (nI k)), (2, .int (nI a)), (3, .int (nI b)), (4, .long x4)]) (fun q h => h) (ih2 (c + 1) (l - (tmW (lW J a (a + 1 + c)) (lW J (a + 1 + c + 1) b))) (by omega) (by omega) (by rw [e9]; omega) (nI_1 (a + 1 + c)) (lN_sub (by omega)))
set_option maxHeartbeats 1000000 in
set_option maxRecDepth 20000 in
theorem mTakes2X (f : Nat → zC) (o : Nat → Int32) (A0 : Nat → Nat → Int32) (J : Nat → Nat → Int64) {h : Nat} (hh : h ≤ 20) (hw : nnW h (A0 8)) {s : Nat} (hJ : okJ h A0 s J) {fu : Nat} (ih : ∀ (i j p : Nat) (x y : Int32) (z : Int64), x = nI i → y = nI j → z = lN p → i < j → j ≤ h → j - i ≤ fu → p < lW J i j → ∀ (q : Nat) (A : Nat → Nat → Int32), (∀ r, 6 ≤ r → A r = A0 r) → tbI 400 (400 + q) A → q + (j - i) ≤ 44 → zK (2 * fu + 3) zX7_takes [.ref 76, .int x, .int y, .long z] (wR f (upd o 29 (nI q)) A J) (fun r w' => ∃ (q1 : Nat) (A' : Nat → Nat → Int32), r = some (.int (nI (400 + q1))) ∧ w' = (wR f (upd o 29 (nI (q1 + 1))) A' J) ∧ tkF A q A' q1 (j - i) ∧ RT (eW A0) (mW A0 s (lW J)) (lW J) fu i j p (tkW A' fu (nI (400 + q1))))) {k a b p : Nat} (k2 : 2 ≤ k) (k6 : k ≤ 6) (hab : a < b) (hb : b ≤ h) (hf : b - a ≤ fu + 1) {A : Nat → Nat → Int32} (h6 : ∀ r, 6 ≤ r → A r = A0 r) {q : Nat} (hT : tbI 400 (400 + q) A) (hq : q + (b - a) ≤ 44) (hpw : p < wi (eW A0) (A0 6) (lW J) k a b) (hp9 : p ≤ cap) {x1 x2 x3 : Int32} {z : Int64} (e1 : x1 = nI k) (e2 : x2 = nI a) (e3 : x3 = nI b) (ez : z = lN p) : zK (2 * fu + 4) zX7_takesTwo [.ref 76, .int x1, .int x2, .int x3, .long z] (wR f (upd o 29 (nI q)) A J) (fun r w' => ∃ (q1 : Nat) (A' : Nat → Nat → Int32), r = some (.int (nI (400 + q1))) ∧ w' = (wR f (upd o 29 (nI (q1 + 1))) A' J) ∧ tkF A q A' q1 (b - a) ∧ RK (eW A0) (lW J) (RT (eW A0) (mW A0 s (lW J)) (lW J) fu) k a b p (tkW A' (fu + 1) (nI (400 + q1)))) := by
  subst e1 e2 e3 ez
  have hpp : p < pfS (eW A0) (lW J) k a b (b - 1 - (a + 1)) := by
    rw [wi_2 hab k2 k6] at hpw
    have := wiP_pf (E := eW A0) (L := lW J) (k := k) (a := a) (b := b) (b - 1 - (a + 1)) 0 0 (Nat.zero_le _)
    rw [Nat.zero_add] at this
    exact Nat.lt_of_lt_of_le hpw this
  have hab2 : a + 2 < b := by
    rcases Nat.lt_or_ge (a + 2) b with e | e
    · exact e
    · rw [show b - 1 - (a + 1) = 0 by omega] at hpp
      exact absurd hpp (by show ¬ p < 0; omega)
  refine zK_of qX7_takesTwo (by decide +kernel) rfl ?_
  iterate 6 (refine zv_step (bX7_takesTwo (2 * fu + 4)) rfl rfl trivial ?_)
  refine zv_locals (l := [(8, .int (nI a + Int32.ofInt 1)), (6, .long (lN p)), (0, .ref 76), (1, .int (nI k)), (2, .int (nI a)), (3, .int (nI b)), (4, .long (lN p))]) (l' := [(8, .int (nI a + Int32.ofInt 1)), (6, .long (lN p)), (0, .ref 76), (1, .int (nI k)), (2, .int (nI a)), (3, .int (nI b)), (4, .long (lN p))]) (fun q h => h) (tak2LX f o A0 J hh hw hJ ih k2 k6 hb hf h6 hT hq hpp hp9 (b - 1 - (a + 1)) 0 p (by omega) (by omega) (by show p = 0 + p; omega) (nI_1 a) rfl)
set_option maxHeartbeats 1000000 in
set_option maxRecDepth 20000 in
theorem takXK0 (f : Nat → zC) (o : Nat → Int32) (A0 : Nat → Nat → Int32) (J : Nat → Nat → Int64) {h : Nat} (hh : h ≤ 20) (hw : nnW h (A0 8)) {s : Nat} (hJ : okJ h A0 s J) {fu : Nat} (ih : ∀ (i j p : Nat) (x y : Int32) (z : Int64), x = nI i → y = nI j → z = lN p → i < j → j ≤ h → j - i ≤ fu → p < lW J i j → ∀ (q : Nat) (A : Nat → Nat → Int32), (∀ r, 6 ≤ r → A r = A0 r) → tbI 400 (400 + q) A → q + (j - i) ≤ 44 → zK (2 * fu + 3) zX7_takes [.ref 76, .int x, .int y, .long z] (wR f (upd o 29 (nI q)) A J) (fun r w' => ∃ (q1 : Nat) (A' : Nat → Nat → Int32), r = some (.int (nI (400 + q1))) ∧ w' = (wR f (upd o 29 (nI (q1 + 1))) A' J) ∧ tkF A q A' q1 (j - i) ∧ RT (eW A0) (mW A0 s (lW J)) (lW J) fu i j p (tkW A' fu (nI (400 + q1))))) {a b p : Nat} (hb : b ≤ h) (hf : b - a ≤ fu + 1) {A : Nat → Nat → Int32} (h6 : ∀ r, 6 ≤ r → A r = A0 r) {q : Nat} (hT : tbI 400 (400 + q) A) (hq : q + (b - a) ≤ 44) (hp9 : p ≤ cap) {x7 x1 x2 : Int32} {x3 : Int64} {n0 : Nat} (hp : p < wi (eW A0) (A0 6) (lW J) 0 a b) : zV (zMo (2 * (fu + 1) + 3) zX7_takes) false n0 0 0 148 [(9, .int (nI b)), (8, .int (nI a)), (7, .int x7), (5, .long (lN p)), (0, .ref 76), (1, .int x1), (2, .int x2), (3, .long x3)] [] (wR f (upd o 29 (nI q)) A J) (fun r w' => ∃ (q1 : Nat) (A' : Nat → Nat → Int32), r = some (.int (nI (400 + q1))) ∧ w' = (wR f (upd o 29 (nI (q1 + 1))) A' J) ∧ tkF A q A' q1 (b - a) ∧ RK (eW A0) (lW J) (RT (eW A0) (mW A0 s (lW J)) (lW J) fu) 0 a b p (tkW A' (fu + 1) (nI (400 + q1)))) := by
  have eE : A 8 = A0 8 := h6 8 (by decide)
  have hab : a < b := by
    rcases Nat.lt_or_ge a b with e | e
    · exact e
    · rw [wi_n e] at hp
      omega
  rw [wi_0 hab] at hp
  split at hp
  case isFalse => omega
  rename_i hc
  iterate 5 (refine zv_step (bX7_takes (2 * (fu + 1) + 3)) rfl rfl trivial ?_)
  refine zv_iale (bX7_takes (2 * (fu + 1) + 3)) rfl rfl (vp_in_nI (by omega) (by decide)) (show A 8 (nI a).toNatClampNeg = nI (eW A0 (a)) by rw [nI_clamp (by omega), eE]; exact (eW_of hw (by omega)).1) ?_
  iterate 2 (refine zv_step (bX7_takes (2 * (fu + 1) + 3)) rfl rfl trivial ?_)
  refine zv_V4 (bX7_takes (2 * (fu + 1) + 3)) rfl rfl rfl rfl rfl rfl rfl ⟨rfl, rfl, rfl⟩ ⟨by show 1 + 1 ≤ 2 * (fu + 1) + 3; omega, by show 8 + (5 + 11) + 64 * (1) ≤ 64 * (2 * (fu + 1) + 3); omega⟩ ⟨Nat.zero_le _, Nat.zero_le _⟩ (mMakes f o A J (q := q) (by omega) vpm2 vpm2) ?_
  rintro _ _ ⟨rfl, rfl⟩
  refine zv_iret (bX7_takes (2 * (fu + 1) + 3)) rfl (Or.inl rfl) (Nat.zero_le _) (Nat.zero_le _) ⟨q, _, rfl, rfl, tkF_lf hT (by omega) (k := 0) (by decide) ⟨fun _ => ⟨eW A0 a, by omega, rfl⟩, fun h => absurd h (by decide)⟩ (by omega), Or.inl ⟨by decide, tkW_lf (by omega) (by decide) (by omega)⟩⟩
set_option maxHeartbeats 1000000 in
set_option maxRecDepth 20000 in
theorem takXK1 (f : Nat → zC) (o : Nat → Int32) (A0 : Nat → Nat → Int32) (J : Nat → Nat → Int64) {h : Nat} (hh : h ≤ 20) (hw : nnW h (A0 8)) {s : Nat} (hJ : okJ h A0 s J) {fu : Nat} (ih : ∀ (i j p : Nat) (x y : Int32) (z : Int64), x = nI i → y = nI j → z = lN p → i < j → j ≤ h → j - i ≤ fu → p < lW J i j → ∀ (q : Nat) (A : Nat → Nat → Int32), (∀ r, 6 ≤ r → A r = A0 r) → tbI 400 (400 + q) A → q + (j - i) ≤ 44 → zK (2 * fu + 3) zX7_takes [.ref 76, .int x, .int y, .long z] (wR f (upd o 29 (nI q)) A J) (fun r w' => ∃ (q1 : Nat) (A' : Nat → Nat → Int32), r = some (.int (nI (400 + q1))) ∧ w' = (wR f (upd o 29 (nI (q1 + 1))) A' J) ∧ tkF A q A' q1 (j - i) ∧ RT (eW A0) (mW A0 s (lW J)) (lW J) fu i j p (tkW A' fu (nI (400 + q1))))) {a b p : Nat} (hb : b ≤ h) (hf : b - a ≤ fu + 1) {A : Nat → Nat → Int32} (h6 : ∀ r, 6 ≤ r → A r = A0 r) {q : Nat} (hT : tbI 400 (400 + q) A) (hq : q + (b - a) ≤ 44) (hp9 : p ≤ cap) {x7 x1 x2 : Int32} {x3 : Int64} {n0 : Nat} (hp : p < wi (eW A0) (A0 6) (lW J) 1 a b) : zV (zMo (2 * (fu + 1) + 3) zX7_takes) false n0 0 0 165 [(9, .int (nI b)), (8, .int (nI a)), (7, .int x7), (5, .long (lN p)), (0, .ref 76), (1, .int x1), (2, .int x2), (3, .long x3)] [] (wR f (upd o 29 (nI q)) A J) (fun r w' => ∃ (q1 : Nat) (A' : Nat → Nat → Int32), r = some (.int (nI (400 + q1))) ∧ w' = (wR f (upd o 29 (nI (q1 + 1))) A' J) ∧ tkF A q A' q1 (b - a) ∧ RK (eW A0) (lW J) (RT (eW A0) (mW A0 s (lW J)) (lW J) fu) 1 a b p (tkW A' (fu + 1) (nI (400 + q1)))) := by
  have eE : A 8 = A0 8 := h6 8 (by decide)
  have hab : a < b := by
    rcases Nat.lt_or_ge a b with e | e
    · exact e
    · rw [wi_n e] at hp
      omega
  rw [wi_1 hab] at hp
  split at hp
  case isFalse => omega
  rename_i hc
  iterate 4 (refine zv_step (bX7_takes (2 * (fu + 1) + 3)) rfl rfl trivial ?_)
  have hn := isNumB_at hc
  refine zv_locals (l := [(11, .int (nI a)), (10, .int (Int32.ofInt 0)), (9, .int (nI b)), (8, .int (nI a)), (7, .int x7), (5, .long (lN p)), (0, .ref 76), (1, .int x1), (2, .int x2), (3, .long x3)]) (l' := [(11, .int (nI a)), (10, .int (Int32.ofInt 0)), (9, .int (nI b)), (8, .int (nI a)), (7, .int x7), (5, .long (lN p)), (0, .ref 76), (1, .int x1), (2, .int x2), (3, .long x3)]) (fun q h => h) (takNX f o A0 J hh hw eE hb hn.1 hab hn.2.2 (fun v hnv hv => ?_) (b - a) 0 a 0 (by omega) rfl (by decide) (by decide) rfl rfl)
  iterate 5 (refine zv_step (bX7_takes (2 * (fu + 1) + 3)) rfl rfl trivial ?_)
  refine zv_V4 (bX7_takes (2 * (fu + 1) + 3)) rfl rfl rfl rfl rfl rfl rfl ⟨rfl, rfl, rfl⟩ ⟨by show 1 + 1 ≤ 2 * (fu + 1) + 3; omega, by show 8 + (5 + 11) + 64 * (1) ≤ 64 * (2 * (fu + 1) + 3); omega⟩ ⟨Nat.zero_le _, Nat.zero_le _⟩ (mMakes f o A J (q := q) (by omega) vpm2 vpm2) ?_
  rintro _ _ ⟨rfl, rfl⟩
  refine zv_iret (bX7_takes (2 * (fu + 1) + 3)) rfl (Or.inl rfl) (Nat.zero_le _) (Nat.zero_le _) ⟨q, _, rfl, rfl, tkF_lf hT (by omega) (k := 1) (by decide) ⟨fun h => absurd h (by decide), fun _ => ⟨v, by have : 10 ^ (b - a) ≤ 10 ^ 4 := Nat.pow_le_pow_right (by decide) hn.1; omega, rfl⟩⟩ (by omega), Or.inl ⟨by decide, (tkW_lf (by omega) (by decide) (by have : 10 ^ (b - a) ≤ 10 ^ 4 := Nat.pow_le_pow_right (by decide) hn.1; omega)).trans (by rw [hnv]; rfl)⟩⟩
set_option maxHeartbeats 1000000 in
set_option maxRecDepth 20000 in
theorem takXK7 (f : Nat → zC) (o : Nat → Int32) (A0 : Nat → Nat → Int32) (J : Nat → Nat → Int64) {h : Nat} (hh : h ≤ 20) (hw : nnW h (A0 8)) {s : Nat} (hJ : okJ h A0 s J) {fu : Nat} (ih : ∀ (i j p : Nat) (x y : Int32) (z : Int64), x = nI i → y = nI j → z = lN p → i < j → j ≤ h → j - i ≤ fu → p < lW J i j → ∀ (q : Nat) (A : Nat → Nat → Int32), (∀ r, 6 ≤ r → A r = A0 r) → tbI 400 (400 + q) A → q + (j - i) ≤ 44 → zK (2 * fu + 3) zX7_takes [.ref 76, .int x, .int y, .long z] (wR f (upd o 29 (nI q)) A J) (fun r w' => ∃ (q1 : Nat) (A' : Nat → Nat → Int32), r = some (.int (nI (400 + q1))) ∧ w' = (wR f (upd o 29 (nI (q1 + 1))) A' J) ∧ tkF A q A' q1 (j - i) ∧ RT (eW A0) (mW A0 s (lW J)) (lW J) fu i j p (tkW A' fu (nI (400 + q1))))) {a b p : Nat} (hb : b ≤ h) (hf : b - a ≤ fu + 1) {A : Nat → Nat → Int32} (h6 : ∀ r, 6 ≤ r → A r = A0 r) {q : Nat} (hT : tbI 400 (400 + q) A) (hq : q + (b - a) ≤ 44) (hp9 : p ≤ cap) {x7 x1 x2 : Int32} {x3 : Int64} {n0 : Nat} (hp : p < wi (eW A0) (A0 6) (lW J) 7 a b) : zV (zMo (2 * (fu + 1) + 3) zX7_takes) false n0 0 0 215 [(9, .int (nI b)), (8, .int (nI a)), (7, .int x7), (5, .long (lN p)), (0, .ref 76), (1, .int x1), (2, .int x2), (3, .long x3)] [] (wR f (upd o 29 (nI q)) A J) (fun r w' => ∃ (q1 : Nat) (A' : Nat → Nat → Int32), r = some (.int (nI (400 + q1))) ∧ w' = (wR f (upd o 29 (nI (q1 + 1))) A' J) ∧ tkF A q A' q1 (b - a) ∧ RK (eW A0) (lW J) (RT (eW A0) (mW A0 s (lW J)) (lW J) fu) 7 a b p (tkW A' (fu + 1) (nI (400 + q1)))) := by
  have eE : A 8 = A0 8 := h6 8 (by decide)
  have hab : a < b := by
    rcases Nat.lt_or_ge a b with e | e
    · exact e
    · rw [wi_n e] at hp
      omega
  rw [wi_7 hab] at hp
  split at hp
  case isFalse => omega
  rename_i hc
  iterate 9 (refine zv_step (bX7_takes (2 * (fu + 1) + 3)) rfl rfl trivial ?_)
  refine zv_V3 (bX7_takes (2 * (fu + 1) + 3)) rfl rfl rfl rfl rfl rfl rfl ⟨rfl, rfl, rfl⟩ ⟨by show 2 * fu + 3 + 1 ≤ 2 * (fu + 1) + 3; omega, by show 8 + (12 + 11) + 64 * (2 * fu + 3) ≤ 64 * (2 * (fu + 1) + 3); omega⟩ ⟨Nat.zero_le _, Nat.zero_le _⟩ (ih (a + 1) (b) p _ _ _ (nI_1 a) rfl rfl (by omega) (by omega) (by omega) hp q A h6 hT (by omega)) ?_
  rintro _ _ ⟨q1, A1, rfl, rfl, k1, r1⟩
  have l1 := k1.2.2.2.2.1
  have m1 := k1.2.2.2.1
  iterate 1 (refine zv_step (bX7_takes (2 * (fu + 1) + 3)) rfl rfl trivial ?_)
  refine zv_V4 (bX7_takes (2 * (fu + 1) + 3)) rfl rfl rfl rfl rfl rfl rfl ⟨rfl, rfl, rfl⟩ ⟨by show 1 + 1 ≤ 2 * (fu + 1) + 3; omega, by show 8 + (5 + 11) + 64 * (1) ≤ 64 * (2 * (fu + 1) + 3); omega⟩ ⟨Nat.zero_le _, Nat.zero_le _⟩ (mMakes f o A1 J (q := q1 + 1) (by omega) (fun _ => vp_in_nI (by omega) (by decide)) vpm2) ?_
  rintro _ _ ⟨rfl, rfl⟩
  refine zv_iret (bX7_takes (2 * (fu + 1) + 3)) rfl (Or.inl rfl) (Nat.zero_le _) (Nat.zero_le _) ⟨q1 + 1, _, rfl, rfl, tkF_un k1 (by omega) (by omega) (by omega) (k := 7) (by decide) (by decide) ⟨fun h => absurd h (by decide), fun _ => rfl⟩, Or.inr (Or.inl ⟨by decide, tkW A1 fu (nI (400 + q1)), (tkW_un (by omega) (by decide) (by decide) (by omega)).trans ?_, r1⟩)⟩
  rw [tkW_fr (by omega) k1.2.1 (fun r hr i i1 i2 => setsA_o (by omega)) fu _ (Or.inr ⟨400 + q1, rfl, by omega, by omega, by have := k1.2.2.2.2.2; omega⟩)]
  rw [hc.1]
  rfl
set_option maxHeartbeats 1000000 in
set_option maxRecDepth 20000 in
theorem takXK8 (f : Nat → zC) (o : Nat → Int32) (A0 : Nat → Nat → Int32) (J : Nat → Nat → Int64) {h : Nat} (hh : h ≤ 20) (hw : nnW h (A0 8)) {s : Nat} (hJ : okJ h A0 s J) {fu : Nat} (ih : ∀ (i j p : Nat) (x y : Int32) (z : Int64), x = nI i → y = nI j → z = lN p → i < j → j ≤ h → j - i ≤ fu → p < lW J i j → ∀ (q : Nat) (A : Nat → Nat → Int32), (∀ r, 6 ≤ r → A r = A0 r) → tbI 400 (400 + q) A → q + (j - i) ≤ 44 → zK (2 * fu + 3) zX7_takes [.ref 76, .int x, .int y, .long z] (wR f (upd o 29 (nI q)) A J) (fun r w' => ∃ (q1 : Nat) (A' : Nat → Nat → Int32), r = some (.int (nI (400 + q1))) ∧ w' = (wR f (upd o 29 (nI (q1 + 1))) A' J) ∧ tkF A q A' q1 (j - i) ∧ RT (eW A0) (mW A0 s (lW J)) (lW J) fu i j p (tkW A' fu (nI (400 + q1))))) {a b p : Nat} (hb : b ≤ h) (hf : b - a ≤ fu + 1) {A : Nat → Nat → Int32} (h6 : ∀ r, 6 ≤ r → A r = A0 r) {q : Nat} (hT : tbI 400 (400 + q) A) (hq : q + (b - a) ≤ 44) (hp9 : p ≤ cap) {x7 x1 x2 : Int32} {x3 : Int64} {n0 : Nat} (hp : p < wi (eW A0) (A0 6) (lW J) 8 a b) : zV (zMo (2 * (fu + 1) + 3) zX7_takes) false n0 0 0 238 [(9, .int (nI b)), (8, .int (nI a)), (7, .int x7), (5, .long (lN p)), (0, .ref 76), (1, .int x1), (2, .int x2), (3, .long x3)] [] (wR f (upd o 29 (nI q)) A J) (fun r w' => ∃ (q1 : Nat) (A' : Nat → Nat → Int32), r = some (.int (nI (400 + q1))) ∧ w' = (wR f (upd o 29 (nI (q1 + 1))) A' J) ∧ tkF A q A' q1 (b - a) ∧ RK (eW A0) (lW J) (RT (eW A0) (mW A0 s (lW J)) (lW J) fu) 8 a b p (tkW A' (fu + 1) (nI (400 + q1)))) := by
  have eE : A 8 = A0 8 := h6 8 (by decide)
  have hab : a < b := by
    rcases Nat.lt_or_ge a b with e | e
    · exact e
    · rw [wi_n e] at hp
      omega
  rw [wi_8 hab] at hp
  split at hp
  case isFalse => omega
  rename_i hc
  iterate 11 (refine zv_step (bX7_takes (2 * (fu + 1) + 3)) rfl rfl trivial ?_)
  refine zv_V3 (bX7_takes (2 * (fu + 1) + 3)) rfl rfl rfl rfl rfl rfl rfl ⟨rfl, rfl, rfl⟩ ⟨by show 2 * fu + 3 + 1 ≤ 2 * (fu + 1) + 3; omega, by show 8 + (12 + 11) + 64 * (2 * fu + 3) ≤ 64 * (2 * (fu + 1) + 3); omega⟩ ⟨Nat.zero_le _, Nat.zero_le _⟩ (ih (a + 1) (b - 1) p _ _ _ (nI_1 a) (sub_1 (by omega)) rfl (by omega) (by omega) (by omega) hp q A h6 hT (by omega)) ?_
  rintro _ _ ⟨q1, A1, rfl, rfl, k1, r1⟩
  have l1 := k1.2.2.2.2.1
  have m1 := k1.2.2.2.1
  iterate 1 (refine zv_step (bX7_takes (2 * (fu + 1) + 3)) rfl rfl trivial ?_)
  refine zv_V4 (bX7_takes (2 * (fu + 1) + 3)) rfl rfl rfl rfl rfl rfl rfl ⟨rfl, rfl, rfl⟩ ⟨by show 1 + 1 ≤ 2 * (fu + 1) + 3; omega, by show 8 + (5 + 11) + 64 * (1) ≤ 64 * (2 * (fu + 1) + 3); omega⟩ ⟨Nat.zero_le _, Nat.zero_le _⟩ (mMakes f o A1 J (q := q1 + 1) (by omega) (fun _ => vp_in_nI (by omega) (by decide)) vpm2) ?_
  rintro _ _ ⟨rfl, rfl⟩
  refine zv_iret (bX7_takes (2 * (fu + 1) + 3)) rfl (Or.inl rfl) (Nat.zero_le _) (Nat.zero_le _) ⟨q1 + 1, _, rfl, rfl, tkF_un k1 (by omega) (by omega) (by omega) (k := 8) (by decide) (by decide) ⟨fun h => absurd h (by decide), fun _ => rfl⟩, Or.inr (Or.inl ⟨by decide, tkW A1 fu (nI (400 + q1)), (tkW_un (by omega) (by decide) (by decide) (by omega)).trans ?_, r1⟩)⟩
  rw [tkW_fr (by omega) k1.2.1 (fun r hr i i1 i2 => setsA_o (by omega)) fu _ (Or.inr ⟨400 + q1, rfl, by omega, by omega, by have := k1.2.2.2.2.2; omega⟩)]
  rw [hc.1]
  rfl
set_option maxHeartbeats 1000000 in
set_option maxRecDepth 20000 in
theorem takXK9 (f : Nat → zC) (o : Nat → Int32) (A0 : Nat → Nat → Int32) (J : Nat → Nat → Int64) {h : Nat} (hh : h ≤ 20) (hw : nnW h (A0 8)) {s : Nat} (hJ : okJ h A0 s J) {fu : Nat} (ih : ∀ (i j p : Nat) (x y : Int32) (z : Int64), x = nI i → y = nI j → z = lN p → i < j → j ≤ h → j - i ≤ fu → p < lW J i j → ∀ (q : Nat) (A : Nat → Nat → Int32), (∀ r, 6 ≤ r → A r = A0 r) → tbI 400 (400 + q) A → q + (j - i) ≤ 44 → zK (2 * fu + 3) zX7_takes [.ref 76, .int x, .int y, .long z] (wR f (upd o 29 (nI q)) A J) (fun r w' => ∃ (q1 : Nat) (A' : Nat → Nat → Int32), r = some (.int (nI (400 + q1))) ∧ w' = (wR f (upd o 29 (nI (q1 + 1))) A' J) ∧ tkF A q A' q1 (j - i) ∧ RT (eW A0) (mW A0 s (lW J)) (lW J) fu i j p (tkW A' fu (nI (400 + q1))))) {a b p : Nat} (hb : b ≤ h) (hf : b - a ≤ fu + 1) {A : Nat → Nat → Int32} (h6 : ∀ r, 6 ≤ r → A r = A0 r) {q : Nat} (hT : tbI 400 (400 + q) A) (hq : q + (b - a) ≤ 44) (hp9 : p ≤ cap) {x7 x1 x2 : Int32} {x3 : Int64} {n0 : Nat} (hp : p < wi (eW A0) (A0 6) (lW J) 9 a b) : zV (zMo (2 * (fu + 1) + 3) zX7_takes) false n0 0 0 263 [(9, .int (nI b)), (8, .int (nI a)), (7, .int x7), (5, .long (lN p)), (0, .ref 76), (1, .int x1), (2, .int x2), (3, .long x3)] [] (wR f (upd o 29 (nI q)) A J) (fun r w' => ∃ (q1 : Nat) (A' : Nat → Nat → Int32), r = some (.int (nI (400 + q1))) ∧ w' = (wR f (upd o 29 (nI (q1 + 1))) A' J) ∧ tkF A q A' q1 (b - a) ∧ RK (eW A0) (lW J) (RT (eW A0) (mW A0 s (lW J)) (lW J) fu) 9 a b p (tkW A' (fu + 1) (nI (400 + q1)))) := by
  have eE : A 8 = A0 8 := h6 8 (by decide)
  have hab : a < b := by
    rcases Nat.lt_or_ge a b with e | e
    · exact e
    · rw [wi_n e] at hp
      omega
  rw [wi_9 hab] at hp
  split at hp
  case isFalse => omega
  rename_i hc
  iterate 5 (refine zv_step (bX7_takes (2 * (fu + 1) + 3)) rfl rfl trivial ?_)
  refine zv_iale (bX7_takes (2 * (fu + 1) + 3)) rfl rfl (vp_in_nI (by omega) (by decide)) (show A 8 (nI a).toNatClampNeg = nI (eW A0 (a)) by rw [nI_clamp (by omega), eE]; exact (eW_of hw (by omega)).1) ?_
  iterate 6 (refine zv_step (bX7_takes (2 * (fu + 1) + 3)) rfl rfl trivial ?_)
  refine zv_V3 (bX7_takes (2 * (fu + 1) + 3)) rfl rfl rfl rfl rfl rfl rfl ⟨rfl, rfl, rfl⟩ ⟨by show 2 * fu + 3 + 1 ≤ 2 * (fu + 1) + 3; omega, by show 8 + (12 + 11) + 64 * (2 * fu + 3) ≤ 64 * (2 * (fu + 1) + 3); omega⟩ ⟨Nat.zero_le _, Nat.zero_le _⟩ (ih (a + 2) (b) p _ _ _ (nI_2 a) rfl rfl (by omega) (by omega) (by omega) hp q A h6 hT (by omega)) ?_
  rintro _ _ ⟨q1, A1, rfl, rfl, k1, r1⟩
  have l1 := k1.2.2.2.2.1
  have m1 := k1.2.2.2.1
  iterate 1 (refine zv_step (bX7_takes (2 * (fu + 1) + 3)) rfl rfl trivial ?_)
  refine zv_V4 (bX7_takes (2 * (fu + 1) + 3)) rfl rfl rfl rfl rfl rfl rfl ⟨rfl, rfl, rfl⟩ ⟨by show 1 + 1 ≤ 2 * (fu + 1) + 3; omega, by show 8 + (5 + 11) + 64 * (1) ≤ 64 * (2 * (fu + 1) + 3); omega⟩ ⟨Nat.zero_le _, Nat.zero_le _⟩ (mMakes f o A1 J (q := q1 + 1) (by omega) (fun _ => vp_in_nI (by omega) (by decide)) vpm2) ?_
  rintro _ _ ⟨rfl, rfl⟩
  refine zv_iret (bX7_takes (2 * (fu + 1) + 3)) rfl (Or.inl rfl) (Nat.zero_le _) (Nat.zero_le _) ⟨q1 + 1, _, rfl, rfl, tkF_un k1 (by omega) (by omega) (by omega) (k := 9) (by decide) (by decide) ⟨fun _ => ⟨eW A0 a, by omega, rfl⟩, fun h => absurd h (by decide)⟩, Or.inr (Or.inl ⟨by decide, tkW A1 fu (nI (400 + q1)), (tkW_un (by omega) (by decide) (by decide) (by omega)).trans ?_, r1⟩)⟩
  rw [tkW_fr (by omega) k1.2.1 (fun r hr i i1 i2 => setsA_o (by omega)) fu _ (Or.inr ⟨400 + q1, rfl, by omega, by omega, by have := k1.2.2.2.2.2; omega⟩)]
  rw [show (nI (eW A0 a)).toNatClampNeg = eW A0 a from nI_clamp (by omega)]
  rfl
set_option maxHeartbeats 1000000 in
set_option maxRecDepth 20000 in
theorem takXKP (f : Nat → zC) (o : Nat → Int32) (A0 : Nat → Nat → Int32) (J : Nat → Nat → Int64) {h : Nat} (hh : h ≤ 20) (hw : nnW h (A0 8)) {s : Nat} (hJ : okJ h A0 s J) {fu : Nat} (ih : ∀ (i j p : Nat) (x y : Int32) (z : Int64), x = nI i → y = nI j → z = lN p → i < j → j ≤ h → j - i ≤ fu → p < lW J i j → ∀ (q : Nat) (A : Nat → Nat → Int32), (∀ r, 6 ≤ r → A r = A0 r) → tbI 400 (400 + q) A → q + (j - i) ≤ 44 → zK (2 * fu + 3) zX7_takes [.ref 76, .int x, .int y, .long z] (wR f (upd o 29 (nI q)) A J) (fun r w' => ∃ (q1 : Nat) (A' : Nat → Nat → Int32), r = some (.int (nI (400 + q1))) ∧ w' = (wR f (upd o 29 (nI (q1 + 1))) A' J) ∧ tkF A q A' q1 (j - i) ∧ RT (eW A0) (mW A0 s (lW J)) (lW J) fu i j p (tkW A' fu (nI (400 + q1))))) {a b p : Nat} (hb : b ≤ h) (hf : b - a ≤ fu + 1) {A : Nat → Nat → Int32} (h6 : ∀ r, 6 ≤ r → A r = A0 r) {q : Nat} (hT : tbI 400 (400 + q) A) (hq : q + (b - a) ≤ 44) (hp9 : p ≤ cap) {x7 x1 x2 : Int32} {x3 : Int64} {n0 : Nat} {k cc : Nat} (k2 : 2 ≤ k) (k6 : k ≤ 6) (e7 : x7 = nI cc) (half2 : nI cc / Int32.ofInt 2 = nI k) (hp : p < wi (eW A0) (A0 6) (lW J) k a b) : zV (zMo (2 * (fu + 1) + 3) zX7_takes) false n0 0 0 291 [(9, .int (nI b)), (8, .int (nI a)), (7, .int x7), (5, .long (lN p)), (0, .ref 76), (1, .int x1), (2, .int x2), (3, .long x3)] [] (wR f (upd o 29 (nI q)) A J) (fun r w' => ∃ (q1 : Nat) (A' : Nat → Nat → Int32), r = some (.int (nI (400 + q1))) ∧ w' = (wR f (upd o 29 (nI (q1 + 1))) A' J) ∧ tkF A q A' q1 (b - a) ∧ RK (eW A0) (lW J) (RT (eW A0) (mW A0 s (lW J)) (lW J) fu) k a b p (tkW A' (fu + 1) (nI (400 + q1)))) := by
  have eE : A 8 = A0 8 := h6 8 (by decide)
  have hab : a < b := by
    rcases Nat.lt_or_ge a b with e | e
    · exact e
    · rw [wi_n e] at hp
      omega
  iterate 3 (refine zv_step (bX7_takes (2 * (fu + 1) + 3)) rfl rfl trivial ?_)
  refine zv_step (bX7_takes (2 * (fu + 1) + 3)) rfl rfl (show ¬ Int32.ofInt 2 = 0 by decide) ?_
  iterate 3 (refine zv_step (bX7_takes (2 * (fu + 1) + 3)) rfl rfl trivial ?_)
  refine zv_V4 (bX7_takes (2 * (fu + 1) + 3)) rfl rfl rfl rfl rfl rfl rfl ⟨rfl, rfl, rfl⟩ ⟨by show 2 * fu + 4 + 1 ≤ 2 * (fu + 1) + 3; omega, by show 8 + (12 + 11) + 64 * (2 * fu + 4) ≤ 64 * (2 * (fu + 1) + 3); omega⟩ ⟨Nat.zero_le _, Nat.zero_le _⟩ (mTakes2X f o A0 J hh hw hJ ih k2 k6 hab hb hf h6 hT hq hp hp9 (by rw [e7]; exact half2) rfl rfl rfl) ?_
  rintro _ _ ⟨q1, A1, rfl, rfl, k1, r1⟩
  refine zv_iret (bX7_takes (2 * (fu + 1) + 3)) rfl (Or.inl rfl) (Nat.zero_le _) (Nat.zero_le _) ⟨q1, A1, rfl, rfl, k1, r1⟩
set_option maxHeartbeats 1000000 in
set_option maxRecDepth 20000 in
theorem takLX (f : Nat → zC) (o : Nat → Int32) (A0 : Nat → Nat → Int32) (J : Nat → Nat → Int64) {h : Nat} (hh : h ≤ 20) (hw : nnW h (A0 8)) {s : Nat} (hJ : okJ h A0 s J) {fu : Nat} (ih : ∀ (i j p : Nat) (x y : Int32) (z : Int64), x = nI i → y = nI j → z = lN p → i < j → j ≤ h → j - i ≤ fu → p < lW J i j → ∀ (q : Nat) (A : Nat → Nat → Int32), (∀ r, 6 ≤ r → A r = A0 r) → tbI 400 (400 + q) A → q + (j - i) ≤ 44 → zK (2 * fu + 3) zX7_takes [.ref 76, .int x, .int y, .long z] (wR f (upd o 29 (nI q)) A J) (fun r w' => ∃ (q1 : Nat) (A' : Nat → Nat → Int32), r = some (.int (nI (400 + q1))) ∧ w' = (wR f (upd o 29 (nI (q1 + 1))) A' J) ∧ tkF A q A' q1 (j - i) ∧ RT (eW A0) (mW A0 s (lW J)) (lW J) fu i j p (tkW A' fu (nI (400 + q1))))) {i j p : Nat} (hij : i < j) (hj : j ≤ h) (hf : j - i ≤ fu + 1) (hps : p < sW (mW A0 s (lW J) i j) 20) (hp9 : p ≤ cap) {A : Nat → Nat → Int32} (h6 : ∀ r, 6 ≤ r → A r = A0 r) {q : Nat} (hT : tbI 400 (400 + q) A) (hq : q + (j - i) ≤ 44) {n0 : Nat} : ∀ (w c l : Nat), c + w = 20 → p = sW (mW A0 s (lW J) i j) c + l → l ≤ cap → ∀ {x7 : Int32}, x7 = nI c → zV (zMo (2 * (fu + 1) + 3) zX7_takes) false n0 0 0 6 [(7, .int x7), (5, .long (lN l)), (0, .ref 76), (1, .int (nI i)), (2, .int (nI j)), (3, .long (lN p))] [] (wR f (upd o 29 (nI q)) A J) (fun r w' => ∃ (q1 : Nat) (A' : Nat → Nat → Int32), r = some (.int (nI (400 + q1))) ∧ w' = (wR f (upd o 29 (nI (q1 + 1))) A' J) ∧ tkF A q A' q1 (j - i) ∧ RT (eW A0) (mW A0 s (lW J)) (lW J) (fu + 1) i j p (tkW A' (fu + 1) (nI (400 + q1)))) := by
  intro w
  induction w with
  | zero =>
    intro c l hc hp hl9 x7 e7
    rw [show c = 20 by omega] at hp
    omega
  | succ w ih2 =>
    intro c l hc hp hl9 x7 e7
    subst e7
    have hcap := mW_le hJ (i := i) (j := j) hj c
    iterate 12 (refine zv_step (bX7_takes (2 * (fu + 1) + 3)) rfl rfl trivial ?_)
    refine zv_lale (bX7_takes (2 * (fu + 1) + 3)) rfl rfl (show vp_in (c8 20 * (c8 21 * nI i + nI j) + nI c) 8820 by rw [show c8 20 * (c8 21 * nI i + nI j) + nI c = nI (20 * (21 * i + j) + c) by rw [ix21, ix20m]]; exact vp_in_nI (by omega) (by decide)) (show J 0 (c8 20 * (c8 21 * nI i + nI j) + nI c).toNatClampNeg = lN (mW A0 s (lW J) i j c) by rw [show c8 20 * (c8 21 * nI i + nI j) + nI c = nI (20 * (21 * i + j) + c) by rw [ix21, ix20m], nI_clamp (by omega)]; exact (hJ i j hij hj).1 c (by omega)) ?_
    iterate 2 (refine zv_step (bX7_takes (2 * (fu + 1) + 3)) rfl rfl trivial ?_)
    refine zv_ifb (fun h26 => ?_) (fun h26 => ?_)
    · have hl : l < mW A0 s (lW J) i j c := by
        have h9 : lN l < lN (mW A0 s (lW J) i j c) := (lg_cmp_lt _ _).mp h26
        rwa [lN_ltJ (by unfold cap at *; omega) (by unfold cap at *; omega)] at h9
      rcases (show c % 2 = 1 ∨ c % 2 = 0 by omega) with hodd | hodd
      · iterate 2 (refine zv_step (bX7_takes (2 * (fu + 1) + 3)) rfl rfl trivial ?_)
        refine zv_step (bX7_takes (2 * (fu + 1) + 3)) rfl rfl (show ¬ Int32.ofInt 2 = 0 by decide) ?_
        iterate 2 (refine zv_step (bX7_takes (2 * (fu + 1) + 3)) rfl rfl trivial ?_)
        refine zv_iff (fun h => h (show nI c - nI c / Int32.ofInt 2 * Int32.ofInt 2 = nI 1 by rw [rem2 (by omega), hodd])) ?_
        iterate 7 (refine zv_step (bX7_takes (2 * (fu + 1) + 3)) rfl rfl trivial ?_)
        refine zv_step (bX7_takes (2 * (fu + 1) + 3)) rfl rfl (show ¬ Int32.ofInt 2 = 0 by decide) ?_
        iterate 2 (refine zv_step (bX7_takes (2 * (fu + 1) + 3)) rfl rfl trivial ?_)
        refine zv_iff (fun h => h (show nI c - nI c / Int32.ofInt 2 * Int32.ofInt 2 = nI 1 by rw [rem2 (by omega), hodd])) ?_
        iterate 7 (refine zv_step (bX7_takes (2 * (fu + 1) + 3)) rfl rfl trivial ?_)
        refine zv_step (bX7_takes (2 * (fu + 1) + 3)) rfl rfl (show ¬ Int32.ofInt 2 = 0 by decide) ?_
        have hw2 := (mW_pos hl).1
        rw [hodd] at hw2
        have hw2 : l < wi (eW A0) (A0 6) (lW J) (c / 2) (i + 1) (j - 1) := hw2
        have ehalf : nI c / Int32.ofInt 2 = nI (c / 2) := half (by omega)
        refine zv_locals (l := [(9, .int (nI j - Int32.ofInt 1)), (8, .int (nI i + Int32.ofInt 1)), (7, .int (nI c)), (5, .long (lN l)), (0, .ref 76), (1, .int (nI i)), (2, .int (nI j)), (3, .long (lN p))]) (l' := [(9, .int (nI j - Int32.ofInt 1)), (8, .int (nI i + Int32.ofInt 1)), (7, .int (nI c)), (5, .long (lN l)), (0, .ref 76), (1, .int (nI i)), (2, .int (nI j)), (3, .long (lN p))]) (fun q h => h) ?_
        rw [show nI i + Int32.ofInt 1 = nI (i + 1) from nI_1 i, show nI j - Int32.ofInt 1 = nI (j - 1) from sub_1 (by omega)]
        show zV (zMo (2 * (fu + 1) + 3) zX7_takes) false _ 0 0 95 _ [.int (nI c / Int32.ofInt 2)] _ _
        rw [ehalf]
        refine zv_weak (Q := (fun r w' => ∃ (q1 : Nat) (A' : Nat → Nat → Int32), r = some (.int (nI (400 + q1))) ∧ w' = (wR f (upd o 29 (nI (q1 + 1))) A' J) ∧ tkF A q A' q1 ((j - 1) - (i + 1)) ∧ RK (eW A0) (lW J) (RT (eW A0) (mW A0 s (lW J)) (lW J) fu) (c / 2) (i + 1) (j - 1) l (tkW A' (fu + 1) (nI (400 + q1))))) ?_ ?_
        · rintro r w ⟨q1, A1, e1, e2, t1, r1⟩
          exact ⟨q1, A1, e1, e2, ⟨t1.1, t1.2.1, t1.2.2.1, t1.2.2.2.1, by have := t1.2.2.2.2.1; omega, t1.2.2.2.2.2⟩, c, l, by omega, hp, hl, by rw [hodd]; exact r1⟩
        · generalize hk0 : c / 2 = k0 at *
          have hk9 : k0 < 10 := by omega
          match k0, hk9 with
          | 0, _ =>
            refine zv_step (bX7_takes (2 * (fu + 1) + 3)) rfl rfl (by decide) ?_
            exact takXK0 f o A0 J hh hw hJ ih (a := (i + 1)) (b := (j - 1)) (by omega) (by omega) h6 hT (by omega) hl9 hw2
          | 1, _ =>
            refine zv_step (bX7_takes (2 * (fu + 1) + 3)) rfl rfl (by decide) ?_
            exact takXK1 f o A0 J hh hw hJ ih (a := (i + 1)) (b := (j - 1)) (by omega) (by omega) h6 hT (by omega) hl9 hw2
          | 2, _ =>
            refine zv_step (bX7_takes (2 * (fu + 1) + 3)) rfl rfl (by decide) ?_
            exact takXKP f o A0 J hh hw hJ ih (a := (i + 1)) (b := (j - 1)) (by omega) (by omega) h6 hT (by omega) hl9 (by decide) (by decide) rfl (by rw [ehalf]) hw2
          | 3, _ =>
            refine zv_step (bX7_takes (2 * (fu + 1) + 3)) rfl rfl (by decide) ?_
            exact takXKP f o A0 J hh hw hJ ih (a := (i + 1)) (b := (j - 1)) (by omega) (by omega) h6 hT (by omega) hl9 (by decide) (by decide) rfl (by rw [ehalf]) hw2
          | 4, _ =>
            refine zv_step (bX7_takes (2 * (fu + 1) + 3)) rfl rfl (by decide) ?_
            exact takXKP f o A0 J hh hw hJ ih (a := (i + 1)) (b := (j - 1)) (by omega) (by omega) h6 hT (by omega) hl9 (by decide) (by decide) rfl (by rw [ehalf]) hw2
          | 5, _ =>
            refine zv_step (bX7_takes (2 * (fu + 1) + 3)) rfl rfl (by decide) ?_
            exact takXKP f o A0 J hh hw hJ ih (a := (i + 1)) (b := (j - 1)) (by omega) (by omega) h6 hT (by omega) hl9 (by decide) (by decide) rfl (by rw [ehalf]) hw2
          | 6, _ =>
            refine zv_step (bX7_takes (2 * (fu + 1) + 3)) rfl rfl (by decide) ?_
            exact takXKP f o A0 J hh hw hJ ih (a := (i + 1)) (b := (j - 1)) (by omega) (by omega) h6 hT (by omega) hl9 (by decide) (by decide) rfl (by rw [ehalf]) hw2
          | 7, _ =>
            refine zv_step (bX7_takes (2 * (fu + 1) + 3)) rfl rfl (by decide) ?_
            exact takXK7 f o A0 J hh hw hJ ih (a := (i + 1)) (b := (j - 1)) (by omega) (by omega) h6 hT (by omega) hl9 hw2
          | 8, _ =>
            refine zv_step (bX7_takes (2 * (fu + 1) + 3)) rfl rfl (by decide) ?_
            exact takXK8 f o A0 J hh hw hJ ih (a := (i + 1)) (b := (j - 1)) (by omega) (by omega) h6 hT (by omega) hl9 hw2
          | 9, _ =>
            refine zv_step (bX7_takes (2 * (fu + 1) + 3)) rfl rfl (by decide) ?_
            exact takXK9 f o A0 J hh hw hJ ih (a := (i + 1)) (b := (j - 1)) (by omega) (by omega) h6 hT (by omega) hl9 hw2
          | k0 + 10, h => exact absurd h (by omega)
      · iterate 2 (refine zv_step (bX7_takes (2 * (fu + 1) + 3)) rfl rfl trivial ?_)
        refine zv_step (bX7_takes (2 * (fu + 1) + 3)) rfl rfl (show ¬ Int32.ofInt 2 = 0 by decide) ?_
        iterate 2 (refine zv_step (bX7_takes (2 * (fu + 1) + 3)) rfl rfl trivial ?_)
        refine zv_ift (fun h => absurd ((nI_eq (b := 1) (by omega) (by decide)).mp (show nI (c % 2) = nI 1 by rw [← rem2 (show c < 21 by omega)]; exact h)) (by omega)) ?_
        iterate 4 (refine zv_step (bX7_takes (2 * (fu + 1) + 3)) rfl rfl trivial ?_)
        refine zv_step (bX7_takes (2 * (fu + 1) + 3)) rfl rfl (show ¬ Int32.ofInt 2 = 0 by decide) ?_
        iterate 2 (refine zv_step (bX7_takes (2 * (fu + 1) + 3)) rfl rfl trivial ?_)
        refine zv_ift (fun h => absurd ((nI_eq (b := 1) (by omega) (by decide)).mp (show nI (c % 2) = nI 1 by rw [← rem2 (show c < 21 by omega)]; exact h)) (by omega)) ?_
        iterate 4 (refine zv_step (bX7_takes (2 * (fu + 1) + 3)) rfl rfl trivial ?_)
        refine zv_step (bX7_takes (2 * (fu + 1) + 3)) rfl rfl (show ¬ Int32.ofInt 2 = 0 by decide) ?_
        have hw2 := (mW_pos hl).1
        rw [hodd] at hw2
        have hw2 : l < wi (eW A0) (A0 6) (lW J) (c / 2) i j := hw2
        have ehalf : nI c / Int32.ofInt 2 = nI (c / 2) := half (by omega)
        refine zv_locals (l := [(9, .int (nI j)), (8, .int (nI i)), (7, .int (nI c)), (5, .long (lN l)), (0, .ref 76), (1, .int (nI i)), (2, .int (nI j)), (3, .long (lN p))]) (l' := [(9, .int (nI j)), (8, .int (nI i)), (7, .int (nI c)), (5, .long (lN l)), (0, .ref 76), (1, .int (nI i)), (2, .int (nI j)), (3, .long (lN p))]) (fun q h => h) ?_
        show zV (zMo (2 * (fu + 1) + 3) zX7_takes) false _ 0 0 95 _ [.int (nI c / Int32.ofInt 2)] _ _
        rw [ehalf]
        refine zv_weak (Q := (fun r w' => ∃ (q1 : Nat) (A' : Nat → Nat → Int32), r = some (.int (nI (400 + q1))) ∧ w' = (wR f (upd o 29 (nI (q1 + 1))) A' J) ∧ tkF A q A' q1 (j - i) ∧ RK (eW A0) (lW J) (RT (eW A0) (mW A0 s (lW J)) (lW J) fu) (c / 2) i j l (tkW A' (fu + 1) (nI (400 + q1))))) ?_ ?_
        · rintro r w ⟨q1, A1, e1, e2, t1, r1⟩
          exact ⟨q1, A1, e1, e2, ⟨t1.1, t1.2.1, t1.2.2.1, t1.2.2.2.1, by have := t1.2.2.2.2.1; omega, t1.2.2.2.2.2⟩, c, l, by omega, hp, hl, by rw [hodd]; exact r1⟩
        · generalize hk0 : c / 2 = k0 at *
          have hk9 : k0 < 10 := by omega
          match k0, hk9 with
          | 0, _ =>
            refine zv_step (bX7_takes (2 * (fu + 1) + 3)) rfl rfl (by decide) ?_
            exact takXK0 f o A0 J hh hw hJ ih (a := i) (b := j) (by omega) (by omega) h6 hT (by omega) hl9 hw2
          | 1, _ =>
            refine zv_step (bX7_takes (2 * (fu + 1) + 3)) rfl rfl (by decide) ?_
            exact takXK1 f o A0 J hh hw hJ ih (a := i) (b := j) (by omega) (by omega) h6 hT (by omega) hl9 hw2
          | 2, _ =>
            refine zv_step (bX7_takes (2 * (fu + 1) + 3)) rfl rfl (by decide) ?_
            exact takXKP f o A0 J hh hw hJ ih (a := i) (b := j) (by omega) (by omega) h6 hT (by omega) hl9 (by decide) (by decide) rfl (by rw [ehalf]) hw2
          | 3, _ =>
            refine zv_step (bX7_takes (2 * (fu + 1) + 3)) rfl rfl (by decide) ?_
            exact takXKP f o A0 J hh hw hJ ih (a := i) (b := j) (by omega) (by omega) h6 hT (by omega) hl9 (by decide) (by decide) rfl (by rw [ehalf]) hw2
          | 4, _ =>
            refine zv_step (bX7_takes (2 * (fu + 1) + 3)) rfl rfl (by decide) ?_
            exact takXKP f o A0 J hh hw hJ ih (a := i) (b := j) (by omega) (by omega) h6 hT (by omega) hl9 (by decide) (by decide) rfl (by rw [ehalf]) hw2
          | 5, _ =>
            refine zv_step (bX7_takes (2 * (fu + 1) + 3)) rfl rfl (by decide) ?_
            exact takXKP f o A0 J hh hw hJ ih (a := i) (b := j) (by omega) (by omega) h6 hT (by omega) hl9 (by decide) (by decide) rfl (by rw [ehalf]) hw2
          | 6, _ =>
            refine zv_step (bX7_takes (2 * (fu + 1) + 3)) rfl rfl (by decide) ?_
            exact takXKP f o A0 J hh hw hJ ih (a := i) (b := j) (by omega) (by omega) h6 hT (by omega) hl9 (by decide) (by decide) rfl (by rw [ehalf]) hw2
          | 7, _ =>
            refine zv_step (bX7_takes (2 * (fu + 1) + 3)) rfl rfl (by decide) ?_
            exact takXK7 f o A0 J hh hw hJ ih (a := i) (b := j) (by omega) (by omega) h6 hT (by omega) hl9 hw2
          | 8, _ =>
            refine zv_step (bX7_takes (2 * (fu + 1) + 3)) rfl rfl (by decide) ?_
            exact takXK8 f o A0 J hh hw hJ ih (a := i) (b := j) (by omega) (by omega) h6 hT (by omega) hl9 hw2
          | 9, _ =>
            refine zv_step (bX7_takes (2 * (fu + 1) + 3)) rfl rfl (by decide) ?_
            exact takXK9 f o A0 J hh hw hJ ih (a := i) (b := j) (by omega) (by omega) h6 hT (by omega) hl9 hw2
          | k0 + 10, h => exact absurd h (by omega)
    · have hl : ¬ l < mW A0 s (lW J) i j c := fun e => h26 ((lg_cmp_lt _ _).mpr (by rwa [lN_ltJ (by unfold cap at *; omega) (by unfold cap at *; omega)]))
      iterate 12 (refine zv_step (bX7_takes (2 * (fu + 1) + 3)) rfl rfl trivial ?_)
      refine zv_lale (bX7_takes (2 * (fu + 1) + 3)) rfl rfl (show vp_in (c8 20 * (c8 21 * nI i + nI j) + nI c) 8820 by rw [show c8 20 * (c8 21 * nI i + nI j) + nI c = nI (20 * (21 * i + j) + c) by rw [ix21, ix20m]]; exact vp_in_nI (by omega) (by decide)) (show J 0 (c8 20 * (c8 21 * nI i + nI j) + nI c).toNatClampNeg = lN (mW A0 s (lW J) i j c) by rw [show c8 20 * (c8 21 * nI i + nI j) + nI c = nI (20 * (21 * i + j) + c) by rw [ix21, ix20m], nI_clamp (by omega)]; exact (hJ i j hij hj).1 c (by omega)) ?_
      iterate 4 (refine zv_step (bX7_takes (2 * (fu + 1) + 3)) rfl rfl trivial ?_)
      refine zv_locals (l := [(7, .int (nI c + Int32.ofInt 1)), (5, .long (lN l - lN (mW A0 s (lW J) i j c))), (0, .ref 76), (1, .int (nI i)), (2, .int (nI j)), (3, .long (lN p))]) (l' := [(7, .int (nI c + Int32.ofInt 1)), (5, .long (lN l - lN (mW A0 s (lW J) i j c))), (0, .ref 76), (1, .int (nI i)), (2, .int (nI j)), (3, .long (lN p))]) (fun q h => h) ?_
      rw [lN_sub (by omega)]
      exact ih2 (c + 1) (l - mW A0 s (lW J) i j c) (by omega) (by show p = sW (mW A0 s (lW J) i j) c + mW A0 s (lW J) i j c + _; omega) (by omega) (nI_1 c)
set_option maxHeartbeats 1000000 in
set_option maxRecDepth 20000 in
theorem mTakesX (f : Nat → zC) (o : Nat → Int32) (A0 : Nat → Nat → Int32) (J : Nat → Nat → Int64) {h : Nat} (hh : h ≤ 20) (hw : nnW h (A0 8)) {s : Nat} (hJ : okJ h A0 s J) : ∀ (fu i j p : Nat) (x y : Int32) (z : Int64), x = nI i → y = nI j → z = lN p → i < j → j ≤ h → j - i ≤ fu → p < lW J i j → ∀ (q : Nat) (A : Nat → Nat → Int32), (∀ r, 6 ≤ r → A r = A0 r) → tbI 400 (400 + q) A → q + (j - i) ≤ 44 → zK (2 * fu + 3) zX7_takes [.ref 76, .int x, .int y, .long z] (wR f (upd o 29 (nI q)) A J) (fun r w' => ∃ (q1 : Nat) (A' : Nat → Nat → Int32), r = some (.int (nI (400 + q1))) ∧ w' = (wR f (upd o 29 (nI (q1 + 1))) A' J) ∧ tkF A q A' q1 (j - i) ∧ RT (eW A0) (mW A0 s (lW J)) (lW J) fu i j p (tkW A' fu (nI (400 + q1)))) := by
  intro fu
  induction fu with
  | zero =>
    intro i j p x y z _ _ _ hij _ hf
    omega
  | succ fu ih =>
    intro i j p x y z ex ey ez hij hj hf hp q A h6 hT hq
    subst ex ey ez
    obtain ⟨e1, e2, _⟩ := okS_l (hJ i j hij hj)
    have hps : p < sW (mW A0 s (lW J) i j) 20 := by
      have := csW_s (mW A0 s (lW J) i j) 20
      omega
    refine zK_of qX7_takes (by decide +kernel) rfl ?_
    iterate 4 (refine zv_step (bX7_takes (2 * (fu + 1) + 3)) rfl rfl trivial ?_)
    refine zv_locals (l := [(7, .int (Int32.ofInt 0)), (5, .long (lN p)), (0, .ref 76), (1, .int (nI i)), (2, .int (nI j)), (3, .long (lN p))]) (l' := [(7, .int (Int32.ofInt 0)), (5, .long (lN p)), (0, .ref 76), (1, .int (nI i)), (2, .int (nI j)), (3, .long (lN p))]) (fun q h => h) (takLX f o A0 J hh hw hJ ih hij hj hf hps (by omega) h6 hT hq 20 0 p (by omega) (by show p = 0 + p; omega) (by omega) rfl)
end
section
/-! both tables of NODES hold the same -/
def cvI (x : Int32) : Int32 := if x = m2 then m1 else x
def pvI (g : Nat → Int32) (x : Int32) : Int32 := if x = m1 then 0 else g x.toNatClampNeg
theorem pvI_m1 (g : Nat → Int32) : pvI g m1 = 0 := if_pos rfl
theorem pvI_nI (g : Nat → Int32) {a : Nat} (h : a < 120) : pvI g (nI a) = g a := by
  unfold pvI
  rw [if_neg (nI_m1' (by omega)), nI_clamp (by omega)]
theorem adI_m1 (b u n : Nat) (P : Nat → Nat → Int32) : adI b (nI u) P n m1 = P := by
  unfold adI
  rw [if_neg (fun q => absurd q.1 (by decide))]
theorem adI_nI {b u a : Nat} (ha : a < u) (hu : u < 120) (n : Nat) (P : Nat → Nat → Int32) : adI b (nI u) P n (nI a) = adA b P n a := by
  unfold adI
  rw [if_pos ⟨by rw [nI_toInt (by omega)]; omega, by rw [nI_toInt (by omega), nI_toInt (by omega)]; omega⟩, show nC (nI a) = a from nI_clamp (by omega)]
theorem adA_ne {b n x j i : Nat} {P : Nat → Nat → Int32} (h : j ≠ n) : adA b P n x i j = P i j := by
  unfold adA updA
  split
  · rename_i e; subst e; exact upd_ne _ _ h
  · split
    · rename_i e; subst e; exact upd_ne _ _ h
    · split
      · rename_i e; subst e; exact upd_ne _ _ h
      · split
        · rename_i e; subst e; exact upd_ne _ _ h
        · split
          · rename_i e; subst e; exact upd_ne _ _ h
          · split
            · rename_i e; subst e; exact upd_ne _ _ h
            · rfl
theorem adI_ne {b n j i : Nat} {u x : Int32} {P : Nat → Nat → Int32} (h : j ≠ n) : adI b u P n x i j = P i j := by
  unfold adI
  split
  · exact adA_ne h
  · rfl
theorem putV_ne {b n j i : Nat} {P : Nat → Nat → Int32} {k v x y ow ch le ca : Int32} (h : j ≠ n) : putV b P n k v x y ow ch le ca i j = P i j := by
  unfold putV updA
  split
  · rename_i e; subst e; exact upd_ne _ _ h
  · split
    · rename_i e; subst e; exact upd_ne _ _ h
    · split
      · rename_i e; subst e; exact upd_ne _ _ h
      · split
        · rename_i e; subst e; exact upd_ne _ _ h
        · split
          · rename_i e; subst e; exact upd_ne _ _ h
          · split
            · rename_i e; subst e; exact upd_ne _ _ h
            · split
              · rename_i e; subst e; exact upd_ne _ _ h
              · split
                · rename_i e; subst e; exact upd_ne _ _ h
                · split
                  · rename_i e; subst e; exact upd_ne _ _ h
                  · split
                    · rename_i e; subst e; exact upd_ne _ _ h
                    · rfl
theorem stC_ne {b u j i : Nat} {P : Nat → Nat → Int32} {k v x y sh : Int32} (h : j ≠ u) : stC b P u k v x y sh i j = P i j := by
  unfold stC updA
  split
  · rename_i e
    subst e
    rw [upd_ne _ _ h, adI_ne h, adI_ne h, putV_ne h]
  · rw [adI_ne h, adI_ne h, putV_ne h]
def leW (k v : Int32) : Int32 := if k = 0 then Int32.ofInt 1 <<< (v &&& 31) else Int32.ofInt 0
def caW (k v : Int32) : Int32 := if k = c8 9 then Int32.ofInt 1 <<< (v &&& 31) else Int32.ofInt 0
theorem adA_u {n x : Nat} {P : Nat → Nat → Int32} : adA 1 P n x 2 n = P 2 n ∧ adA 1 P n x 3 n = P 3 n ∧ adA 1 P n x 4 n = P 4 n ∧ adA 1 P n x 5 n = P 5 n ∧ adA 1 P n x 6 n = P 6 n + P 6 x ∧ adA 1 P n x 8 n = P 8 n + P 8 x ∧ adA 1 P n x 9 n = P 9 n + P 9 x ∧ adA 1 P n x 10 n = P 10 n ||| P 10 x ∧ adA 1 P n x 11 n = P 11 n ||| P 11 x :=
  ⟨rfl, rfl, rfl, rfl, upd_self _ _ _, upd_self _ _ _, upd_self _ _ _, upd_self _ _ _, upd_self _ _ _⟩
theorem adI_u {u : Nat} {x : Int32} {P : Nat → Nat → Int32} (hu : u < 120) (hx : okp u x) : adI 1 (nI u) P u x 2 u = P 2 u ∧ adI 1 (nI u) P u x 3 u = P 3 u ∧ adI 1 (nI u) P u x 4 u = P 4 u ∧ adI 1 (nI u) P u x 5 u = P 5 u ∧ adI 1 (nI u) P u x 6 u = P 6 u + pvI (P 6) x ∧ adI 1 (nI u) P u x 8 u = P 8 u + pvI (P 8) x ∧ adI 1 (nI u) P u x 9 u = P 9 u + pvI (P 9) x ∧ adI 1 (nI u) P u x 10 u = P 10 u ||| pvI (P 10) x ∧ adI 1 (nI u) P u x 11 u = P 11 u ||| pvI (P 11) x := by
  rcases hx with rfl | ⟨a, ha, rfl⟩
  · rw [adI_m1, pvI_m1 (P 6), pvI_m1 (P 8), pvI_m1 (P 9), pvI_m1 (P 10), pvI_m1 (P 11)]
    exact ⟨rfl, rfl, rfl, rfl, (Int32.add_zero _).symm, (Int32.add_zero _).symm, (Int32.add_zero _).symm, Int32.or_zero.symm, Int32.or_zero.symm⟩
  · rw [adI_nI ha hu]
    simp only [pvI_nI _ (show a < 120 by omega)]
    exact adA_u
theorem pvI_e {g g' : Nat → Int32} {u : Nat} {x : Int32} (hu : u < 120) (hx : okp u x) (e : ∀ j, j < u → g' j = g j) : pvI g' x = pvI g x := by
  rcases hx with rfl | ⟨a, ha, rfl⟩
  · rw [pvI_m1, pvI_m1]
  · rw [pvI_nI _ (by omega), pvI_nI _ (by omega), e a ha]
theorem stC_u {u : Nat} {P : Nat → Nat → Int32} {k v x y sh : Int32} (hu : u < 120) (hx : okp u x) (hy : okp u y) : stC 1 P u k v x y sh 2 u = k ∧ stC 1 P u k v x y sh 3 u = v ∧ stC 1 P u k v x y sh 4 u = x ∧ stC 1 P u k v x y sh 5 u = y ∧ stC 1 P u k v x y sh 6 u = Int32.ofInt 1 + pvI (P 6) x + pvI (P 6) y ∧ stC 1 P u k v x y sh 8 u = owW k v + pvI (P 8) x + pvI (P 8) y ∧ stC 1 P u k v x y sh 9 u = hbW (Int16.ofInt 764).toInt32 k + pvI (P 9) x + pvI (P 9) y ∧ stC 1 P u k v x y sh 10 u = leW k v ||| pvI (P 10) x ||| pvI (P 10) y ∧ stC 1 P u k v x y sh 11 u = caW k v ||| pvI (P 11) x ||| pvI (P 11) y := by
  have e : ∀ i, i ≠ 12 → stC 1 P u k v x y sh i = adI 1 (nI u) (adI 1 (nI u) (putV 1 P u k v x y (owW k v) (hbW (Int16.ofInt 764).toInt32 k) (leW k v) (caW k v)) u x) u y i := fun i hi => updA_ne _ _ hi
  rw [e 2 (by decide), e 3 (by decide), e 4 (by decide), e 5 (by decide), e 6 (by decide), e 8 (by decide), e 9 (by decide), e 10 (by decide), e 11 (by decide)]
  obtain ⟨a1, a2, a3, a4, a5, a6, a7, a8, a9⟩ := adI_u (P := putV 1 P u k v x y (owW k v) (hbW (Int16.ofInt 764).toInt32 k) (leW k v) (caW k v)) hu hx
  obtain ⟨b1, b2, b3, b4, b5, b6, b7, b8, b9⟩ := adI_u (P := adI 1 (nI u) (putV 1 P u k v x y (owW k v) (hbW (Int16.ofInt 764).toInt32 k) (leW k v) (caW k v)) u x) hu hy
  have pe : ∀ i, ∀ z, okp u z → pvI (putV 1 P u k v x y (owW k v) (hbW (Int16.ofInt 764).toInt32 k) (leW k v) (caW k v) i) z = pvI (P i) z := fun i z hz => pvI_e hu hz (fun j hj => putV_ne (by omega))
  have qe : ∀ i, ∀ z, okp u z → pvI (adI 1 (nI u) (putV 1 P u k v x y (owW k v) (hbW (Int16.ofInt 764).toInt32 k) (leW k v) (caW k v)) u x i) z = pvI (P i) z := fun i z hz => pvI_e hu hz (fun j hj => by rw [adI_ne (by omega), putV_ne (by omega)])
  rw [b1, b2, b3, b4, b5, b6, b7, b8, b9, a1, a2, a3, a4, a5, a6, a7, a8, a9, pe 6 x hx, pe 8 x hx, pe 9 x hx, pe 10 x hx, pe 11 x hx, qe 6 y hy, qe 8 y hy, qe 9 y hy, qe 10 y hy, qe 11 y hy]
  refine ⟨upd_self _ _ _, upd_self _ _ _, upd_self _ _ _, upd_self _ _ _, ?_, ?_, ?_, ?_, ?_⟩
  · rw [show putV 1 P u k v x y (owW k v) (hbW (Int16.ofInt 764).toInt32 k) (leW k v) (caW k v) 6 u = Int32.ofInt 1 from upd_self _ _ _]
  · rw [show putV 1 P u k v x y (owW k v) (hbW (Int16.ofInt 764).toInt32 k) (leW k v) (caW k v) 8 u = owW k v from upd_self _ _ _]
  · rw [show putV 1 P u k v x y (owW k v) (hbW (Int16.ofInt 764).toInt32 k) (leW k v) (caW k v) 9 u = hbW (Int16.ofInt 764).toInt32 k from upd_self _ _ _]
  · rw [show putV 1 P u k v x y (owW k v) (hbW (Int16.ofInt 764).toInt32 k) (leW k v) (caW k v) 10 u = leW k v from upd_self _ _ _]
  · rw [show putV 1 P u k v x y (owW k v) (hbW (Int16.ofInt 764).toInt32 k) (leW k v) (caW k v) 11 u = caW k v from upd_self _ _ _]
/-- what the class keeps beside a NODE -/
def cN (P : Nat → Nat → Int32) (n : Nat) : Prop := P 8 n = owW (P 2 n) (P 3 n) + pvI (P 8) (P 4 n) + pvI (P 8) (P 5 n) ∧ P 9 n = hbW (Int16.ofInt 764).toInt32 (P 2 n) + pvI (P 9) (P 4 n) + pvI (P 9) (P 5 n) ∧ P 10 n = leW (P 2 n) (P 3 n) ||| pvI (P 10) (P 4 n) ||| pvI (P 10) (P 5 n) ∧ P 11 n = caW (P 2 n) (P 3 n) ||| pvI (P 11) (P 4 n) ||| pvI (P 11) (P 5 n)
def NR (u : Nat) (P A : Nat → Nat → Int32) : Prop := ∀ n, n < u → P 2 n = A 0 n ∧ P 3 n = cvI (A 1 n) ∧ P 4 n = cvI (A 2 n) ∧ P 5 n = cvI (A 3 n) ∧ P 6 n = A 4 n ∧ okp n (P 4 n) ∧ okp n (P 5 n) ∧ cN P n
theorem cvI_m2 : cvI m2 = m1 := if_pos rfl
theorem cvI_nI {n : Nat} (h : n < 2 ^ 31) : cvI (nI n) = nI n := if_neg (fun e => by
  have := congrArg Int32.toInt e
  rw [nI_toInt h] at this
  have e2 : m2.toInt = -2 := by decide
  omega)
theorem NR_le {u u' : Nat} {P A : Nat → Nat → Int32} (h : NR u P A) (hu : u' ≤ u) : NR u' P A := fun n hn => h n (by omega)
theorem cN_fr {P P' : Nat → Nat → Int32} {n : Nat} (hn : n < 120) (h : cN P n) (h4 : okp n (P 4 n)) (h5 : okp n (P 5 n)) (e : ∀ i, 2 ≤ i → i ≤ 11 → i ≠ 7 → ∀ j, j ≤ n → P' i j = P i j) : cN P' n := by
  unfold cN at h ⊢
  have p : ∀ i, 2 ≤ i → i ≤ 11 → i ≠ 7 → ∀ z, okp n z → pvI (P' i) z = pvI (P i) z := fun i i1 i2 i3 z hz => pvI_e hn hz (fun j hj => e i i1 i2 i3 j (by omega))
  rw [e 2 (by decide) (by decide) (by decide) n (Nat.le_refl _), e 3 (by decide) (by decide) (by decide) n (Nat.le_refl _), e 4 (by decide) (by decide) (by decide) n (Nat.le_refl _), e 5 (by decide) (by decide) (by decide) n (Nat.le_refl _), e 8 (by decide) (by decide) (by decide) n (Nat.le_refl _), e 9 (by decide) (by decide) (by decide) n (Nat.le_refl _), e 10 (by decide) (by decide) (by decide) n (Nat.le_refl _), e 11 (by decide) (by decide) (by decide) n (Nat.le_refl _), p 8 (by decide) (by decide) (by decide) _ h4, p 8 (by decide) (by decide) (by decide) _ h5, p 9 (by decide) (by decide) (by decide) _ h4, p 9 (by decide) (by decide) (by decide) _ h5, p 10 (by decide) (by decide) (by decide) _ h4, p 10 (by decide) (by decide) (by decide) _ h5, p 11 (by decide) (by decide) (by decide) _ h4, p 11 (by decide) (by decide) (by decide) _ h5]
  exact h
theorem NR_fr {u : Nat} {P P' A A' : Nat → Nat → Int32} (hu : u ≤ 120) (h : NR u P A) (e : ∀ i, 2 ≤ i → i ≤ 11 → i ≠ 7 → ∀ j, j < u → P' i j = P i j) (e' : ∀ r, r < 5 → ∀ j, j < u → A' r j = A r j) : NR u P' A' := fun n hn => by
  obtain ⟨h1, h2, h3, h4, h5, h6, h7, h8⟩ := h n hn
  rw [e 2 (by decide) (by decide) (by decide) n hn, e 3 (by decide) (by decide) (by decide) n hn, e 4 (by decide) (by decide) (by decide) n hn, e 5 (by decide) (by decide) (by decide) n hn, e 6 (by decide) (by decide) (by decide) n hn, e' 0 (by decide) n hn, e' 1 (by decide) n hn, e' 2 (by decide) n hn, e' 3 (by decide) n hn, e' 4 (by decide) n hn]
  exact ⟨h1, h2, h3, h4, h5, h6, h7, cN_fr (by omega) h8 h6 h7 (fun i i1 i2 i3 j hj => e i i1 i2 i3 j (by omega))⟩
/-- a NODE comes to both -/
theorem NR_st {u : Nat} {P A : Nat → Nat → Int32} (hu : u < 120) (h : NR u P A) {k v x y sh : Int32} (hx : x = m2 ∨ ∃ a, a < u ∧ x = nI a) (hy : y = m2 ∨ ∃ a, a < u ∧ y = nI a) : NR (u + 1) (stC 1 P u k (cvI v) (cvI x) (cvI y) sh) (setsA A u k v x y) := by
  have ok : ∀ z, (z = m2 ∨ ∃ a, a < u ∧ z = nI a) → okp u (cvI z) ∧ pvI (P 6) (cvI z) = rdv (A 4) z := by
    rintro z (rfl | ⟨a, ha, rfl⟩)
    · exact ⟨Or.inl cvI_m2, by rw [cvI_m2, pvI_m1, rdv_m2]; rfl⟩
    · rw [cvI_nI (by omega), pvI_nI _ (by omega), rdv_nI (by omega)]
      exact ⟨Or.inr ⟨a, ha, rfl⟩, (h a ha).2.2.2.2.1⟩
  obtain ⟨ox, sx⟩ := ok x hx
  obtain ⟨oy, sy⟩ := ok y hy
  intro n hn
  by_cases e : n = u
  · subst e
    obtain ⟨a1, a2, a3, a4, a5, a6, a7, a8, a9⟩ := stC_u (P := P) (k := k) (v := cvI v) (sh := sh) hu ox oy
    have pe : ∀ i z, okp n z → pvI (stC 1 P n k (cvI v) (cvI x) (cvI y) sh i) z = pvI (P i) z := fun i z hz => pvI_e hu hz (fun j hj => stC_ne (by omega))
    refine ⟨a1.trans (upd_self _ _ _).symm, a2.trans (by rw [show setsA A n k v x y 1 n = v from upd_self _ _ _]), a3.trans (by rw [show setsA A n k v x y 2 n = x from upd_self _ _ _]), a4.trans (by rw [show setsA A n k v x y 3 n = y from upd_self _ _ _]), ?_, by rw [a3]; exact ox, by rw [a4]; exact oy, ?_⟩
    · rw [a5, sx, sy]
      exact (upd_self _ _ _).symm
    · unfold cN
      rw [a1, a2, a3, a4, a6, a7, a8, a9, pe 8 _ ox, pe 8 _ oy, pe 9 _ ox, pe 9 _ oy, pe 10 _ ox, pe 10 _ oy, pe 11 _ ox, pe 11 _ oy]
      exact ⟨rfl, rfl, rfl, rfl⟩
  · exact NR_fr (P' := stC 1 P u k (cvI v) (cvI x) (cvI y) sh) (A' := setsA A u k v x y) (by omega) h (fun i _ _ _ j hj => stC_ne (by omega)) (fun r _ j hj => setsA_o (by omega)) n (by omega)
/-- the same row on the reference's table -/
def tkM (t : Nat × Nat) (s : (Nat → Nat → Int32) × Nat × List Nat) : (Nat → Nat → Int32) × Nat × List Nat :=
  if t.1 < 2 then (setsA s.1 s.2.1 (nI t.1) (nI t.2) m2 m2, s.2.1 + 1, s.2.1 :: s.2.2)
  else if t.1 ≤ 6 then (setsA s.1 s.2.1 (nI t.1) m2 (nI (s.2.2.getD 1 0)) (nI (s.2.2.getD 0 0)), s.2.1 + 1, s.2.1 :: s.2.2.drop 2)
  else (setsA s.1 s.2.1 (nI t.1) (if t.1 = 9 then nI t.2 else m2) (nI (s.2.2.getD 0 0)) m2, s.2.1 + 1, s.2.1 :: s.2.2.drop 1)
def lyM : List (Nat × Nat) → (Nat → Nat → Int32) × Nat × List Nat → (Nat → Nat → Int32) × Nat × List Nat
  | [], s => s
  | t :: T, s => lyM T (tkM t s)
theorem lyM_app : ∀ (X Y : List (Nat × Nat)) (s : (Nat → Nat → Int32) × Nat × List Nat), lyM (X ++ Y) s = lyM Y (lyM X s)
  | [], _, _ => rfl
  | t :: X, Y, s => lyM_app X Y (tkM t s)
theorem lyC_split {b : Nat} : ∀ (X Y : List (Nat × Nat)) (s s' : (Nat → Nat → Int32) × Nat × List Nat), lyC b (X ++ Y) s s' → ∃ m, lyC b X s m ∧ lyC b Y m s'
  | [], Y, s, s', h => ⟨s, rfl, h⟩
  | t :: X, Y, s, s', ⟨sh, h⟩ => by
    obtain ⟨m, h1, h2⟩ := lyC_split X Y _ s' h
    exact ⟨m, ⟨sh, h1⟩, h2⟩
theorem tkM_0 {k v u : Nat} {A : Nat → Nat → Int32} {st : List Nat} (h : k < 2) : lyM [(k, v)] (A, u, st) = (setsA A u (nI k) (nI v) m2 m2, u + 1, u :: st) := by
  show tkM (k, v) (A, u, st) = _
  unfold tkM
  rw [if_pos h]
theorem tkM_1 {k v u x : Nat} {A : Nat → Nat → Int32} {st : List Nat} (h : 7 ≤ k) : lyM [(k, v)] (A, u, x :: st) = (setsA A u (nI k) (if k = 9 then nI v else m2) (nI x) m2, u + 1, u :: st) := by
  show tkM (k, v) (A, u, x :: st) = _
  unfold tkM
  rw [if_neg (by show ¬ k < 2; omega), if_neg (by show ¬ k ≤ 6; omega)]
  rfl
theorem tkM_2 {k v u x y : Nat} {A : Nat → Nat → Int32} {st : List Nat} (h : 2 ≤ k) (h6 : k ≤ 6) : lyM [(k, v)] (A, u, y :: x :: st) = (setsA A u (nI k) m2 (nI x) (nI y), u + 1, u :: st) := by
  show tkM (k, v) (A, u, y :: x :: st) = _
  unfold tkM
  rw [if_neg (by show ¬ k < 2; omega), if_pos (by show k ≤ 6; omega)]
  rfl
theorem tkC_0 {b k v u : Nat} {P : Nat → Nat → Int32} {st : List Nat} {s' : (Nat → Nat → Int32) × Nat × List Nat} (h : k < 2) (g : lyC b [(k, v)] (P, u, st) s') : ∃ sh, s' = (stC b P u (nI k) (nI v) m1 m1 sh, u + 1, u :: st) := by
  obtain ⟨sh, g⟩ := g
  refine ⟨sh, ?_⟩
  rw [← show tkC b (k, v) (P, u, st) sh = s' from g]
  unfold tkC
  rw [if_pos h]
theorem tkC_1 {b k v u x : Nat} {P : Nat → Nat → Int32} {st : List Nat} {s' : (Nat → Nat → Int32) × Nat × List Nat} (h : 7 ≤ k) (g : lyC b [(k, v)] (P, u, x :: st) s') : ∃ sh, s' = (stC b P u (nI k) (if k = 9 then nI v else m1) (nI x) m1 sh, u + 1, u :: st) := by
  obtain ⟨sh, g⟩ := g
  refine ⟨sh, ?_⟩
  rw [← show tkC b (k, v) (P, u, x :: st) sh = s' from g]
  unfold tkC
  rw [if_neg (by show ¬ k < 2; omega), if_neg (by show ¬ k ≤ 6; omega)]
  rfl
theorem tkC_2 {b k v u x y : Nat} {P : Nat → Nat → Int32} {st : List Nat} {s' : (Nat → Nat → Int32) × Nat × List Nat} (h : 2 ≤ k) (h6 : k ≤ 6) (g : lyC b [(k, v)] (P, u, y :: x :: st) s') : ∃ sh, s' = (stC b P u (nI k) m1 (nI x) (nI y) sh, u + 1, u :: st) := by
  obtain ⟨sh, g⟩ := g
  refine ⟨sh, ?_⟩
  rw [← show tkC b (k, v) (P, u, y :: x :: st) sh = s' from g]
  unfold tkC
  rw [if_neg (by show ¬ k < 2; omega), if_pos (by show k ≤ 6; omega)]
  rfl
theorem isNum_E {E : Nat → Nat} {G : Nat → Int32} {L : Nat → Nat → Nat} {k a b q : Nat} (hk : k < 10) (h : q < wi E G L k a b) (v : Nat) (hv : (k = 0 ∧ v = E a) ∨ (k = 1 ∧ v = nvN E (b - a) a 0) ∨ (7 ≤ k ∧ v = E a)) : v < 10000 := by
  have w := wi_pos h
  rcases hv with ⟨e, rfl⟩ | ⟨e, rfl⟩ | ⟨e, rfl⟩
  · have := w.2.1 e
    omega
  · exact nv_sm (w.2.2.1 e).1
  · rcases (show k = 7 ∨ k = 8 ∨ k = 9 by omega) with e | e | e
    · have := w.2.2.2.1 e
      omega
    · have := w.2.2.2.2.1 e
      omega
    · have := w.2.2.2.2.2 e
      omega
/-- a READING written on both sides leaves them the same -/
theorem NR_ly {E : Nat → Nat} {G : Nat → Int32} {lt : Nat → Nat → Bool} {L : Nat → Nat → Nat} : ∀ (f i j p : Nat) (T : List (Nat × Nat)), RT E (mG E G lt L) L f i j p T → ∀ (u : Nat) (P A : Nat → Nat → Int32) (st : List Nat) (s' : (Nat → Nat → Int32) × Nat × List Nat), NR u P A → u + T.length ≤ 120 → lyC 1 T (P, u, st) s' → NR (u + T.length) s'.1 (lyM T (A, u, st)).1 ∧ s'.2 = (u + T.length, (u + T.length - 1) :: st) ∧ (lyM T (A, u, st)).2 = (u + T.length, (u + T.length - 1) :: st) ∧ 1 ≤ T.length
  | 0, _, _, _, _, h => h.elim
  | f + 1, i, j, p, T, ⟨c, q, h1, h2, h3, h4⟩ => by
    intro u P A st s' hN hu hl
    obtain ⟨w1, w2, w3⟩ := mG_pos h3
    have hc : c / 2 < 10 := by omega
    rcases h4 with ⟨a1, a2⟩ | ⟨a1, X, a2, a3⟩ | ⟨a1, a2, d, r, X, Y, b1, b2, b3, b4, b5, b6, b7⟩
    · have hv : (if c / 2 = 0 then E (i + c % 2) else nvN E (j - c % 2 - (i + c % 2)) (i + c % 2) 0) < 10000 := by
        refine isNum_E hc w1 _ ?_
        rcases (show c / 2 = 0 ∨ c / 2 = 1 by omega) with e | e
        · exact Or.inl ⟨e, by rw [if_pos e]⟩
        · exact Or.inr (Or.inl ⟨e, by rw [if_neg (by omega)]⟩)
      rw [a2] at hl hu ⊢
      obtain ⟨sh, rfl⟩ := tkC_0 a1 hl
      rw [tkM_0 a1]
      refine ⟨?_, rfl, rfl, Nat.le_refl _⟩
      have := NR_st (k := nI (c / 2)) (v := nI (if c / 2 = 0 then E (i + c % 2) else nvN E (j - c % 2 - (i + c % 2)) (i + c % 2) 0)) (sh := sh) (by have h9 : u + 1 ≤ 120 := hu; omega) hN (Or.inl rfl) (Or.inl rfl)
      rw [cvI_m2, cvI_nI (by omega)] at this
      exact this
    · have hv : E (i + c % 2) < 10000 := isNum_E hc w1 _ (Or.inr (Or.inr ⟨a1, rfl⟩))
      have hlen : T.length = X.length + 1 := by rw [a2, List.length_append]; rfl
      rw [a2] at hl
      obtain ⟨m, l1, l2⟩ := lyC_split X _ _ _ hl
      obtain ⟨n1, n2, n3, n4⟩ := NR_ly f _ _ _ X a3 u P A st m hN (by omega) l1
      obtain ⟨P1, m2'⟩ := m
      rw [show m2' = (u + X.length, (u + X.length - 1) :: st) from n2] at l2
      obtain ⟨sh, rfl⟩ := tkC_1 a1 l2
      have eM : lyM X (A, u, st) = ((lyM X (A, u, st)).1, u + X.length, (u + X.length - 1) :: st) := Prod.ext rfl n3
      rw [a2, lyM_app, eM, tkM_1 a1, ← a2, hlen]
      refine ⟨?_, rfl, rfl, by omega⟩
      have := NR_st (k := nI (c / 2)) (v := if c / 2 = 9 then nI (E (i + c % 2)) else m2) (x := nI (u + X.length - 1)) (y := m2) (sh := sh) (by omega) n1 (Or.inr ⟨u + X.length - 1, by omega, rfl⟩) (Or.inl rfl)
      have ec : cvI (if c / 2 = 9 then nI (E (i + c % 2)) else m2) = if c / 2 = 9 then nI (E (i + c % 2)) else m1 := by
        split
        · exact cvI_nI (by omega)
        · exact cvI_m2
      rw [cvI_m2, cvI_nI (by omega), ec] at this
      exact this
    · have hlen : T.length = X.length + Y.length + 1 := by rw [b5, List.length_append, List.length_append]; rfl
      rw [b5] at hl
      obtain ⟨m, l1, l3⟩ := lyC_split (X ++ Y) _ _ _ hl
      obtain ⟨m0, l1, l2⟩ := lyC_split X Y _ _ l1
      obtain ⟨n1, n2, n3, n4⟩ := NR_ly f _ _ _ X b6 u P A st m0 hN (by omega) l1
      obtain ⟨P1, m2'⟩ := m0
      rw [show m2' = (u + X.length, (u + X.length - 1) :: st) from n2] at l2
      obtain ⟨k1, k2, k3, k4⟩ := NR_ly f _ _ _ Y b7 (u + X.length) P1 (lyM X (A, u, st)).1 ((u + X.length - 1) :: st) m n1 (by omega) l2
      obtain ⟨P2, m3'⟩ := m
      rw [show m3' = (u + X.length + Y.length, (u + X.length + Y.length - 1) :: (u + X.length - 1) :: st) from k2] at l3
      obtain ⟨sh, rfl⟩ := tkC_2 a1 a2 l3
      have eM : lyM X (A, u, st) = ((lyM X (A, u, st)).1, u + X.length, (u + X.length - 1) :: st) := Prod.ext rfl n3
      have eN : lyM Y (lyM X (A, u, st)) = ((lyM Y ((lyM X (A, u, st)).1, u + X.length, (u + X.length - 1) :: st)).1, u + X.length + Y.length, (u + X.length + Y.length - 1) :: (u + X.length - 1) :: st) := by
        rw [eM]
        exact Prod.ext rfl k3
      rw [b5, lyM_app, lyM_app, eN, tkM_2 a1 a2, ← b5, hlen, show u + (X.length + Y.length + 1) = u + X.length + Y.length + 1 by omega]
      refine ⟨?_, rfl, rfl, by omega⟩
      have := NR_st (k := nI (c / 2)) (v := m2) (x := nI (u + X.length - 1)) (y := nI (u + X.length + Y.length - 1)) (sh := sh) (by omega) k1 (Or.inr ⟨u + X.length - 1, by omega, rfl⟩) (Or.inr ⟨u + X.length + Y.length - 1, by omega, rfl⟩)
      rw [cvI_m2, cvI_nI (by omega), cvI_nI (by omega)] at this
      exact this
/-- READINGS hang on the counts of their spans alone -/
theorem pfS_cg {E : Nat → Nat} {L L' : Nat → Nat → Nat} {h k a b : Nat} (hb : b ≤ h) (e : ∀ a b, a < b → b ≤ h → L a b = L' a b) : ∀ c, a + 1 + c ≤ b - 1 → pfS E L k a b c = pfS E L' k a b c
  | 0, _ => rfl
  | c + 1, hc => by
    show pfS E L k a b c + _ = pfS E L' k a b c + _
    rw [pfS_cg hb e c (by omega), e a (a + 1 + c) (by omega) (by omega), e (a + 1 + c + 1) b (by omega) (by omega)]
theorem RT_cg {E : Nat → Nat} {G : Nat → Int32} {lt : Nat → Nat → Bool} {L L' : Nat → Nat → Nat} {h : Nat} (e : ∀ a b, a < b → b ≤ h → L a b = L' a b) : ∀ (f i j p : Nat) (T : List (Nat × Nat)), j ≤ h → RT E (mG E G lt L) L f i j p T → RT E (mG E G lt L') L' f i j p T
  | 0, _, _, _, _, _, h => h
  | f + 1, i, j, p, T, hj, ⟨c, q, h1, h2, h3, h4⟩ => by
    have em : ∀ d, mG E G lt L i j d = mG E G lt L' i j d := fun d => mG_cg (fun a b _ q2 q3 _ => e a b q2 (by omega))
    refine ⟨c, q, h1, ?_, by rw [← em]; exact h3, ?_⟩
    · rw [h2, sW_cg c (fun d _ => em d)]
    · rcases h4 with ⟨a1, a2⟩ | ⟨a1, X, a2, a3⟩ | ⟨a1, a2, d, r, X, Y, b1, b2, b3, b4, b5, b6, b7⟩
      · exact Or.inl ⟨a1, a2⟩
      · refine Or.inr (Or.inl ⟨a1, X, a2, RT_cg e f _ _ _ X ?_ a3⟩)
        unfold ptN
        split <;> omega
      · have e1 := e (i + c % 2) (i + c % 2 + 1 + d) (by omega) (by omega)
        have e2 := e (i + c % 2 + 1 + d + 1) (j - c % 2) (by omega) (by omega)
        refine Or.inr (Or.inr ⟨a1, a2, d, r, X, Y, b1, b2, ?_, by rw [← e1, ← e2]; exact b4, b5, ?_, ?_⟩)
        · rw [b3, pfS_cg (by omega) e d (by omega)]
        · rw [← e2]
          exact RT_cg e f _ _ _ X (by omega) b6
        · rw [← e2]
          exact RT_cg e f _ _ _ Y (by omega) b7
end
