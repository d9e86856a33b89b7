section
theorem cut_at {E : Nat → Nat} {G : Nat → Int32} {lt : Nat → Nat → Bool} {L : Nat → Nat → Nat} {A : Nat → Nat → Int32} {f k a b x y c : Nat} (hx : x < 450) (hb : b ≤ 20) (g : cutO E L (Rg E (mG E G lt L) L A f) k a b x y c) : E (a + 1 + c) = 18 + k ∧ spn (gO E) a (a + 1 + c) = bwW A 40 (nI x) := by
  obtain ⟨h1, h2, p, q, _, _, rx, _⟩ := g
  exact ⟨h2, cut_bw hx (by omega) rx⟩
set_option maxHeartbeats 2000000 in
set_option maxRecDepth 20000 in
theorem hPPLX {O : Nat → Int32} {P : Nat → Nat → Int32} {Y : Nat → Nat → Int64} {g : Nat → zC} {N : Nat} {E : Nat → Nat} (hE : eaR N P E) (hN0 : N ≤ 20) {G : Nat → Int32} (hG : gfR (O 12) G) {lt : Nat → Nat → Bool} (hb0 : btR (O 10) (fun k => lt k 0)) (hb1 : btR (O 11) (fun k => lt k 1)) {L : Nat → Nat → Nat} (hY : ∀ c d, c < d → d ≤ N → Y (34 + c) d = lN (L c d)) (hB : ∀ c d, c < d → d ≤ N → L c d ≤ 5 ^ (d - c - 1)) (hL : ∀ c d, c < d → d ≤ N → L c d = tS E G lt L c d) {u : Nat} (hu : u ≤ 120) (hO1 : O 1 = nI u) {A : Nat → Nat → Int32} (hT : tbI 0 u A) (hNR : NR u P A) {f : Nat} (ih : ∀ (a b n : Nat) (x y : Int32), x = nI a → y = nI b → a < b → b ≤ N → b - a ≤ f → n < u → zK (3 * f + 4) zX0_placeIn [.ref 31, .ref 1, .int (nI n), .int x, .int y] (wX O P Y g) (fun r w' => w' = (wX O P Y g) ∧ ∃ v : Int64, r = some (.long v) ∧ ansR v (L (a) (b)) (fun p => Rg E (mG E G lt L) L A (f) (a) (b) p (n)))) {a b : Nat} (hab : a < b) (hb : b ≤ N) (hf : b - a ≤ f + 1) {n k x y : Nat} (hn : n < u) (k2 : 2 ≤ k) (k6 : k ≤ 6) (h0 : A 0 n = nI k) (h2 : A 2 n = nI x) (h3 : A 3 n = nI y) (hx : x < n) (hy : y < n) (hbx : P 8 x = nI (bwW A 40 (nI x)) ∧ (bwW A 40 (nI x)) ≤ 4 * szN A x ∧ 1 ≤ (bwW A 40 (nI x))) (hz : szN A x ≤ 40) (e5 : P 5 n = nI y) {n0 : Nat} : ∀ (c m : Nat), b - m ≤ c → a ≤ m → m ≤ b → ∀ {x10 p9 : Int32} {s : Int64}, x10 = nI m → p9 = nI (spn (gO E) a m) → ( ¬ E a = 18 + k → s = lN (pfS E L k a b (m - (a + 1)))) → ( ∀ m', a ≤ m' → m' < m → E m' = 18 + k → ¬ spn (gO E) a m' = (bwW A 40 (nI x))) → zV (zMo (3 * f + 5) zX0_placePair) false n0 0 0 41 [(10, .int (x10)), (9, .int (p9)), (7, .long (s)), (6, .int (nI x)), (5, .int (c8 18 + nI k)), (0, .ref 31), (1, .ref 1), (2, .int (nI n)), (3, .int (nI a)), (4, .int (nI b))] [] (wX O P Y g) (fun r w' => w' = (wX O P Y g) ∧ ∃ v : Int64, r = some (.long v) ∧ ansR v (wi E G L (k) (a) (b)) (fun q => Gk E L A (Rg E (mG E G lt L) L A f) (k) (a) (b) q (n))) := by
  intro c
  induction c with
  | zero =>
    intro m hc hm hmb x10 p9 s e6 e7 hs hno
    subst e6 e7
    iterate 5 (refine zv_step (bX0_placePair (3 * f + 5)) rfl rfl trivial ?_)
    refine zv_ift (show nI b - Int32.ofInt 1 ≤ nI m by rw [sub_1 (by omega)]; exact nI_le (by omega) (by omega)) ?_
    iterate 1 (refine zv_step (bX0_placePair (3 * f + 5)) rfl rfl trivial ?_)
    exact zv_lret (bX0_placePair (3 * f + 5)) rfl rfl (Nat.zero_le _) (Nat.zero_le _) ⟨rfl, _, rfl, Or.inr ⟨rfl, fun q _ => G2_no (by omega) k2 k6 hx hy h2 h3 (fun c gc => by
      obtain ⟨e1, e2⟩ := cut_at (by omega) (by omega) gc
      exact hno _ (by omega) (by have := gc.1; omega) e1 e2) q⟩⟩
  | succ c ih2 =>
    intro m hc hm hmb x10 p9 s e6 e7 hs hno
    subst e6 e7
    iterate 5 (refine zv_step (bX0_placePair (3 * f + 5)) rfl rfl trivial ?_)
    refine zv_ifb (fun h47 => ?_) (fun h47 => ?_)
    · have q47 : b - 1 ≤ m := by
        have h9 : nI b - Int32.ofInt 1 ≤ nI m := h47
        rwa [sub_1 (by omega), nI_leI (by omega) (by omega)] at h9
      iterate 1 (refine zv_step (bX0_placePair (3 * f + 5)) rfl rfl trivial ?_)
      exact zv_lret (bX0_placePair (3 * f + 5)) rfl rfl (Nat.zero_le _) (Nat.zero_le _) ⟨rfl, _, rfl, Or.inr ⟨rfl, fun q _ => G2_no (by omega) k2 k6 hx hy h2 h3 (fun c gc => by
        obtain ⟨e1, e2⟩ := cut_at (by omega) (by omega) gc
        exact hno _ (by omega) (by have := gc.1; omega) e1 e2) q⟩⟩
    · have q47 : m + 1 < b := by
        have h9 : ¬ nI b - Int32.ofInt 1 ≤ nI m := h47
        rw [sub_1 (by omega), nI_leI (by omega) (by omega)] at h9
        omega
      iterate 3 (refine zv_step (bX0_placePair (3 * f + 5)) rfl rfl trivial ?_)
      refine zv_iale (bX0_placePair (3 * f + 5)) rfl rfl (show vp_in (nI (m)) 20 from vp_in_nI (by omega) (by decide)) (show P 32 (nI (m)).toNatClampNeg = nI (E (m)) by rw [nI_clamp (by omega)]; exact (hE (m) (by omega)).1) ?_
      iterate 2 (refine zv_step (bX0_placePair (3 * f + 5)) rfl rfl trivial ?_)
      refine zv_ifb (fun h59 => ?_) (fun h59 => ?_)
      · have q59 : ¬ E m = 18 + k := fun e => h59 (show nI (E m) = nI 18 + nI k by rw [nI_add, e])
        iterate 3 (refine zv_step (bX0_placePair (3 * f + 5)) rfl rfl trivial ?_)
        refine zv_iale (bX0_placePair (3 * f + 5)) rfl rfl (show vp_in (nI (m)) 20 from vp_in_nI (by omega) (by decide)) (show P 32 (nI (m)).toNatClampNeg = nI (E (m)) by rw [nI_clamp (by omega)]; exact (hE (m) (by omega)).1) ?_
        iterate 2 (refine zv_step (bX0_placePair (3 * f + 5)) rfl rfl trivial ?_)
        refine zv_ift (h59) ?_
        iterate 4 (refine zv_step (bX0_placePair (3 * f + 5)) rfl rfl trivial ?_)
        refine zv_iale (bX0_placePair (3 * f + 5)) rfl rfl (show vp_in (nI (m)) 20 from vp_in_nI (by omega) (by decide)) (show P 32 (nI (m)).toNatClampNeg = nI (E (m)) by rw [nI_clamp (by omega)]; exact (hE (m) (by omega)).1) ?_
        iterate 2 (refine zv_step (bX0_placePair (3 * f + 5)) rfl rfl trivial ?_)
        refine zv_ifb (fun h203 => ?_) (fun h203 => ?_)
        · have q203 : E m = 29 := (nI_eq (by have := (hE m (by omega)).2; omega) (by decide)).mp h203
          iterate 6 (refine zv_step (bX0_placePair (3 * f + 5)) rfl rfl trivial ?_)
          have hs2 : ¬ E a = 18 + k → s = lN (pfS E L k a b (m + 1 - (a + 1))) := fun e => by
            rw [hs e]
            by_cases w : a = m
            · rw [show m + 1 - (a + 1) = 0 by omega, show m - (a + 1) = 0 by omega]
            · rw [show m + 1 - (a + 1) = m - (a + 1) + 1 by omega, pfS_no (by rw [show a + 1 + (m - (a + 1)) = m by omega]; exact q59)]
          have hc2 : nI (spn (gO E) a m) + Int32.ofInt 0 = nI (spn (gO E) a (m + 1)) := by
            rw [spn_s (gO E) hm, show gO E m = 0 from (if_pos (Or.inl q203)), ← nI_add]
            rfl
          have hno2 : ∀ m', a ≤ m' → m' < m + 1 → E m' = 18 + k → ¬ spn (gO E) a m' = (bwW A 40 (nI x)) := fun m' h1 h2 he e => by
            by_cases w : m' = m
            · subst w
              exact q59 he
            · exact hno m' h1 (by omega) he e
          refine zv_locals (l := [(10, .int (nI m + Int32.ofInt 1)), (9, .int (nI (spn (gO E) a m) + Int32.ofInt 0)), (7, .long (s)), (6, .int (nI x)), (5, .int (c8 18 + nI k)), (0, .ref 31), (1, .ref 1), (2, .int (nI n)), (3, .int (nI a)), (4, .int (nI b))]) (l' := [(10, .int (nI m + Int32.ofInt 1)), (9, .int (nI (spn (gO E) a m) + Int32.ofInt 0)), (7, .long (s)), (6, .int (nI x)), (5, .int (c8 18 + nI k)), (0, .ref 31), (1, .ref 1), (2, .int (nI n)), (3, .int (nI a)), (4, .int (nI b))]) (fun q h => h) (ih2 (m + 1) (by omega) (by omega) (by omega) (nI_1 m) hc2 hs2 hno2)
        · have q203 : ¬ E m = 29 := fun e => h203 (show nI (E m) = nI 29 by rw [e])
          iterate 3 (refine zv_step (bX0_placePair (3 * f + 5)) rfl rfl trivial ?_)
          refine zv_iale (bX0_placePair (3 * f + 5)) rfl rfl (show vp_in (nI (m)) 20 from vp_in_nI (by omega) (by decide)) (show P 32 (nI (m)).toNatClampNeg = nI (E (m)) by rw [nI_clamp (by omega)]; exact (hE (m) (by omega)).1) ?_
          iterate 2 (refine zv_step (bX0_placePair (3 * f + 5)) rfl rfl trivial ?_)
          refine zv_ifb (fun h215 => ?_) (fun h215 => ?_)
          · have q215 : ¬ E m = 30 := fun e => h215 (show nI (E m) = nI 30 by rw [e])
            iterate 5 (refine zv_step (bX0_placePair (3 * f + 5)) rfl rfl trivial ?_)
            have hs2 : ¬ E a = 18 + k → s = lN (pfS E L k a b (m + 1 - (a + 1))) := fun e => by
              rw [hs e]
              by_cases w : a = m
              · rw [show m + 1 - (a + 1) = 0 by omega, show m - (a + 1) = 0 by omega]
              · rw [show m + 1 - (a + 1) = m - (a + 1) + 1 by omega, pfS_no (by rw [show a + 1 + (m - (a + 1)) = m by omega]; exact q59)]
            have hc2 : nI (spn (gO E) a m) + Int32.ofInt 1 = nI (spn (gO E) a (m + 1)) := by
              rw [spn_s (gO E) hm, show gO E m = 1 from (if_neg (fun q => q.elim q203 q215)), ← nI_add]
              rfl
            have hno2 : ∀ m', a ≤ m' → m' < m + 1 → E m' = 18 + k → ¬ spn (gO E) a m' = (bwW A 40 (nI x)) := fun m' h1 h2 he e => by
              by_cases w : m' = m
              · subst w
                exact q59 he
              · exact hno m' h1 (by omega) he e
            refine zv_locals (l := [(10, .int (nI m + Int32.ofInt 1)), (9, .int (nI (spn (gO E) a m) + Int32.ofInt 1)), (7, .long (s)), (6, .int (nI x)), (5, .int (c8 18 + nI k)), (0, .ref 31), (1, .ref 1), (2, .int (nI n)), (3, .int (nI a)), (4, .int (nI b))]) (l' := [(10, .int (nI m + Int32.ofInt 1)), (9, .int (nI (spn (gO E) a m) + Int32.ofInt 1)), (7, .long (s)), (6, .int (nI x)), (5, .int (c8 18 + nI k)), (0, .ref 31), (1, .ref 1), (2, .int (nI n)), (3, .int (nI a)), (4, .int (nI b))]) (fun q h => h) (ih2 (m + 1) (by omega) (by omega) (by omega) (nI_1 m) hc2 hs2 hno2)
          · have q215 : E m = 30 := (nI_eq (by have := (hE m (by omega)).2; omega) (by decide)).mp (Decidable.not_not.mp h215)
            iterate 6 (refine zv_step (bX0_placePair (3 * f + 5)) rfl rfl trivial ?_)
            have hs2 : ¬ E a = 18 + k → s = lN (pfS E L k a b (m + 1 - (a + 1))) := fun e => by
              rw [hs e]
              by_cases w : a = m
              · rw [show m + 1 - (a + 1) = 0 by omega, show m - (a + 1) = 0 by omega]
              · rw [show m + 1 - (a + 1) = m - (a + 1) + 1 by omega, pfS_no (by rw [show a + 1 + (m - (a + 1)) = m by omega]; exact q59)]
            have hc2 : nI (spn (gO E) a m) + Int32.ofInt 0 = nI (spn (gO E) a (m + 1)) := by
              rw [spn_s (gO E) hm, show gO E m = 0 from (if_pos (Or.inr q215)), ← nI_add]
              rfl
            have hno2 : ∀ m', a ≤ m' → m' < m + 1 → E m' = 18 + k → ¬ spn (gO E) a m' = (bwW A 40 (nI x)) := fun m' h1 h2 he e => by
              by_cases w : m' = m
              · subst w
                exact q59 he
              · exact hno m' h1 (by omega) he e
            refine zv_locals (l := [(10, .int (nI m + Int32.ofInt 1)), (9, .int (nI (spn (gO E) a m) + Int32.ofInt 0)), (7, .long (s)), (6, .int (nI x)), (5, .int (c8 18 + nI k)), (0, .ref 31), (1, .ref 1), (2, .int (nI n)), (3, .int (nI a)), (4, .int (nI b))]) (l' := [(10, .int (nI m + Int32.ofInt 1)), (9, .int (nI (spn (gO E) a m) + Int32.ofInt 0)), (7, .long (s)), (6, .int (nI x)), (5, .int (c8 18 + nI k)), (0, .ref 31), (1, .ref 1), (2, .int (nI n)), (3, .int (nI a)), (4, .int (nI b))]) (fun q h => h) (ih2 (m + 1) (by omega) (by omega) (by omega) (nI_1 m) hc2 hs2 hno2)
      · have q59 : E m = 18 + k := by
          have h9 : nI (E m) = nI 18 + nI k := Decidable.not_not.mp h59
          rwa [nI_add, nI_eq (by have := (hE m (by omega)).2; omega) (by omega)] at h9
        iterate 4 (refine zv_step (bX0_placePair (3 * f + 5)) rfl rfl trivial ?_)
        refine zv_iale (bX0_placePair (3 * f + 5)) rfl rfl (show vp_in (nI x) 120 from vp_in_nI (by omega) (by decide)) (show P 8 (nI x).toNatClampNeg = nI (bwW A 40 (nI x)) by rw [nI_clamp (by omega)]; exact hbx.1) ?_
        iterate 1 (refine zv_step (bX0_placePair (3 * f + 5)) rfl rfl trivial ?_)
        refine zv_ifb (fun h71 => ?_) (fun h71 => ?_)
        · have q71 : ¬ spn (gO E) a m = (bwW A 40 (nI x)) := fun e => h71 (show nI (spn (gO E) a m) = nI (bwW A 40 (nI x)) by rw [e])
          iterate 3 (refine zv_step (bX0_placePair (3 * f + 5)) rfl rfl trivial ?_)
          refine zv_iale (bX0_placePair (3 * f + 5)) rfl rfl (show vp_in (nI (m)) 20 from vp_in_nI (by omega) (by decide)) (show P 32 (nI (m)).toNatClampNeg = nI (E (m)) by rw [nI_clamp (by omega)]; exact (hE (m) (by omega)).1) ?_
          iterate 2 (refine zv_step (bX0_placePair (3 * f + 5)) rfl rfl trivial ?_)
          refine zv_iff (fun h9 => h9 (show nI (E m) = nI 18 + nI k by rw [nI_add, q59])) ?_
          iterate 4 (refine zv_step (bX0_placePair (3 * f + 5)) rfl rfl trivial ?_)
          refine zv_aald (bX0_placePair (3 * f + 5)) rfl (Or.inr rfl) rfl (show vp_in (nI a) 21 by exact vp_in_nI (by omega) (by decide)) (show ([some 34, some 35, some 36, some 37, some 38, some 39, some 40, some 41, some 42, some 43, some 44, some 45, some 46, some 47, some 48, some 49, some 50, some 51, some 52, some 53, some 54] : List (Option Nat)).getD (nI a).toNatClampNeg none = some (34 + (a)) by rw [nI_clamp (by omega)]; exact dLs (by omega)) ?_
          iterate 1 (refine zv_step (bX0_placePair (3 * f + 5)) rfl rfl trivial ?_)
          refine zv_lald (bX0_placePair (3 * f + 5)) rfl (wY O P Y g (by omega)) (show vp_in (nI m) 21 by exact vp_in_nI (by omega) (by decide)) ?_
          iterate 5 (refine zv_step (bX0_placePair (3 * f + 5)) rfl rfl trivial ?_)
          refine zv_aald (bX0_placePair (3 * f + 5)) rfl (Or.inr rfl) rfl (show vp_in (nI m + Int32.ofInt 1) 21 by rw [show nI m + Int32.ofInt 1 = nI (m + 1) from nI_1 m]; exact vp_in_nI (by omega) (by decide)) (show ([some 34, some 35, some 36, some 37, some 38, some 39, some 40, some 41, some 42, some 43, some 44, some 45, some 46, some 47, some 48, some 49, some 50, some 51, some 52, some 53, some 54] : List (Option Nat)).getD (nI m + Int32.ofInt 1).toNatClampNeg none = some (34 + (m + 1)) by rw [show nI m + Int32.ofInt 1 = nI (m + 1) from nI_1 m, nI_clamp (by omega)]; exact dLs (by omega)) ?_
          iterate 1 (refine zv_step (bX0_placePair (3 * f + 5)) rfl rfl trivial ?_)
          refine zv_lald (bX0_placePair (3 * f + 5)) rfl (wY O P Y g (by omega)) (show vp_in (nI b) 21 by exact vp_in_nI (by omega) (by decide)) ?_
          iterate 7 (refine zv_step (bX0_placePair (3 * f + 5)) rfl rfl trivial ?_)
          refine zv_iale (bX0_placePair (3 * f + 5)) rfl rfl (show vp_in (nI (m)) 20 from vp_in_nI (by omega) (by decide)) (show P 32 (nI (m)).toNatClampNeg = nI (E (m)) by rw [nI_clamp (by omega)]; exact (hE (m) (by omega)).1) ?_
          iterate 2 (refine zv_step (bX0_placePair (3 * f + 5)) rfl rfl trivial ?_)
          refine zv_ifb (fun h203 => ?_) (fun h203 => ?_)
          · have q203 : E m = 29 := (nI_eq (by have := (hE m (by omega)).2; omega) (by decide)).mp h203
            iterate 6 (refine zv_step (bX0_placePair (3 * f + 5)) rfl rfl trivial ?_)
            have hm0 : E m = 18 + k → a < m → L a m * L (m + 1) b ≤ cap := fun _ h9 => by
              have := tm_5 (L := L) (i := a) (j := b) (c := m - (a + 1)) (fun c d _ h2 h3 _ => hB c d h2 (by omega)) (by omega)
              rw [show a + 1 + (m - (a + 1)) = m by omega] at this
              exact Nat.le_trans this (pow5_cap1 (by omega))
            have hs2 : ¬ E a = 18 + k → s + Y (34 + a) (nI m).toNatClampNeg * Y (34 + (m + 1)) (nI b).toNatClampNeg = lN (pfS E L k a b (m + 1 - (a + 1))) := fun e => by
              have ham : a < m := by
                rcases Nat.lt_or_ge a m with w | w
                · exact w
                · exact absurd (show E a = 18 + k by rw [show a = m by omega]; exact q59) e
              rw [hs e, nI_clamp (show m < 2 ^ 31 by omega), nI_clamp (show b < 2 ^ 31 by omega), hY a m ham (by omega), hY (m + 1) b (by omega) hb, lN_mul, lN_add, show m + 1 - (a + 1) = m - (a + 1) + 1 by omega, pfS_at (by rw [show a + 1 + (m - (a + 1)) = m by omega]; exact q59), show a + 1 + (m - (a + 1)) = m by omega, tmW_eq (hm0 q59 ham)]
            have hc2 : nI (spn (gO E) a m) + Int32.ofInt 0 = nI (spn (gO E) a (m + 1)) := by
              rw [spn_s (gO E) hm, show gO E m = 0 from (if_pos (Or.inl q203)), ← nI_add]
              rfl
            have hno2 : ∀ m', a ≤ m' → m' < m + 1 → E m' = 18 + k → ¬ spn (gO E) a m' = (bwW A 40 (nI x)) := fun m' h1 h2 he e => by
              by_cases w : m' = m
              · subst w
                exact q71 e
              · exact hno m' h1 (by omega) he e
            refine zv_locals (l := [(10, .int (nI m + Int32.ofInt 1)), (9, .int (nI (spn (gO E) a m) + Int32.ofInt 0)), (7, .long (s + Y (34 + a) (nI m).toNatClampNeg * Y (34 + (m + 1)) (nI b).toNatClampNeg)), (6, .int (nI x)), (5, .int (c8 18 + nI k)), (0, .ref 31), (1, .ref 1), (2, .int (nI n)), (3, .int (nI a)), (4, .int (nI b))]) (l' := [(10, .int (nI m + Int32.ofInt 1)), (9, .int (nI (spn (gO E) a m) + Int32.ofInt 0)), (7, .long (s + Y (34 + a) (nI m).toNatClampNeg * Y (34 + (m + 1)) (nI b).toNatClampNeg)), (6, .int (nI x)), (5, .int (c8 18 + nI k)), (0, .ref 31), (1, .ref 1), (2, .int (nI n)), (3, .int (nI a)), (4, .int (nI b))]) (fun q h => h) (ih2 (m + 1) (by omega) (by omega) (by omega) (nI_1 m) hc2 hs2 hno2)
          · have q203 : ¬ E m = 29 := fun e => h203 (show nI (E m) = nI 29 by rw [e])
            iterate 3 (refine zv_step (bX0_placePair (3 * f + 5)) rfl rfl trivial ?_)
            refine zv_iale (bX0_placePair (3 * f + 5)) rfl rfl (show vp_in (nI (m)) 20 from vp_in_nI (by omega) (by decide)) (show P 32 (nI (m)).toNatClampNeg = nI (E (m)) by rw [nI_clamp (by omega)]; exact (hE (m) (by omega)).1) ?_
            iterate 2 (refine zv_step (bX0_placePair (3 * f + 5)) rfl rfl trivial ?_)
            refine zv_ifb (fun h215 => ?_) (fun h215 => ?_)
            · have q215 : ¬ E m = 30 := fun e => h215 (show nI (E m) = nI 30 by rw [e])
              iterate 5 (refine zv_step (bX0_placePair (3 * f + 5)) rfl rfl trivial ?_)
              have hm0 : E m = 18 + k → a < m → L a m * L (m + 1) b ≤ cap := fun _ h9 => by
                have := tm_5 (L := L) (i := a) (j := b) (c := m - (a + 1)) (fun c d _ h2 h3 _ => hB c d h2 (by omega)) (by omega)
                rw [show a + 1 + (m - (a + 1)) = m by omega] at this
                exact Nat.le_trans this (pow5_cap1 (by omega))
              have hs2 : ¬ E a = 18 + k → s + Y (34 + a) (nI m).toNatClampNeg * Y (34 + (m + 1)) (nI b).toNatClampNeg = lN (pfS E L k a b (m + 1 - (a + 1))) := fun e => by
                have ham : a < m := by
                  rcases Nat.lt_or_ge a m with w | w
                  · exact w
                  · exact absurd (show E a = 18 + k by rw [show a = m by omega]; exact q59) e
                rw [hs e, nI_clamp (show m < 2 ^ 31 by omega), nI_clamp (show b < 2 ^ 31 by omega), hY a m ham (by omega), hY (m + 1) b (by omega) hb, lN_mul, lN_add, show m + 1 - (a + 1) = m - (a + 1) + 1 by omega, pfS_at (by rw [show a + 1 + (m - (a + 1)) = m by omega]; exact q59), show a + 1 + (m - (a + 1)) = m by omega, tmW_eq (hm0 q59 ham)]
              have hc2 : nI (spn (gO E) a m) + Int32.ofInt 1 = nI (spn (gO E) a (m + 1)) := by
                rw [spn_s (gO E) hm, show gO E m = 1 from (if_neg (fun q => q.elim q203 q215)), ← nI_add]
                rfl
              have hno2 : ∀ m', a ≤ m' → m' < m + 1 → E m' = 18 + k → ¬ spn (gO E) a m' = (bwW A 40 (nI x)) := fun m' h1 h2 he e => by
                by_cases w : m' = m
                · subst w
                  exact q71 e
                · exact hno m' h1 (by omega) he e
              refine zv_locals (l := [(10, .int (nI m + Int32.ofInt 1)), (9, .int (nI (spn (gO E) a m) + Int32.ofInt 1)), (7, .long (s + Y (34 + a) (nI m).toNatClampNeg * Y (34 + (m + 1)) (nI b).toNatClampNeg)), (6, .int (nI x)), (5, .int (c8 18 + nI k)), (0, .ref 31), (1, .ref 1), (2, .int (nI n)), (3, .int (nI a)), (4, .int (nI b))]) (l' := [(10, .int (nI m + Int32.ofInt 1)), (9, .int (nI (spn (gO E) a m) + Int32.ofInt 1)), (7, .long (s + Y (34 + a) (nI m).toNatClampNeg * Y (34 + (m + 1)) (nI b).toNatClampNeg)), (6, .int (nI x)), (5, .int (c8 18 + nI k)), (0, .ref 31), (1, .ref 1), (2, .int (nI n)), (3, .int (nI a)), (4, .int (nI b))]) (fun q h => h) (ih2 (m + 1) (by omega) (by omega) (by omega) (nI_1 m) hc2 hs2 hno2)
            · have q215 : E m = 30 := (nI_eq (by have := (hE m (by omega)).2; omega) (by decide)).mp (Decidable.not_not.mp h215)
              iterate 6 (refine zv_step (bX0_placePair (3 * f + 5)) rfl rfl trivial ?_)
              have hm0 : E m = 18 + k → a < m → L a m * L (m + 1) b ≤ cap := fun _ h9 => by
                have := tm_5 (L := L) (i := a) (j := b) (c := m - (a + 1)) (fun c d _ h2 h3 _ => hB c d h2 (by omega)) (by omega)
                rw [show a + 1 + (m - (a + 1)) = m by omega] at this
                exact Nat.le_trans this (pow5_cap1 (by omega))
              have hs2 : ¬ E a = 18 + k → s + Y (34 + a) (nI m).toNatClampNeg * Y (34 + (m + 1)) (nI b).toNatClampNeg = lN (pfS E L k a b (m + 1 - (a + 1))) := fun e => by
                have ham : a < m := by
                  rcases Nat.lt_or_ge a m with w | w
                  · exact w
                  · exact absurd (show E a = 18 + k by rw [show a = m by omega]; exact q59) e
                rw [hs e, nI_clamp (show m < 2 ^ 31 by omega), nI_clamp (show b < 2 ^ 31 by omega), hY a m ham (by omega), hY (m + 1) b (by omega) hb, lN_mul, lN_add, show m + 1 - (a + 1) = m - (a + 1) + 1 by omega, pfS_at (by rw [show a + 1 + (m - (a + 1)) = m by omega]; exact q59), show a + 1 + (m - (a + 1)) = m by omega, tmW_eq (hm0 q59 ham)]
              have hc2 : nI (spn (gO E) a m) + Int32.ofInt 0 = nI (spn (gO E) a (m + 1)) := by
                rw [spn_s (gO E) hm, show gO E m = 0 from (if_pos (Or.inr q215)), ← nI_add]
                rfl
              have hno2 : ∀ m', a ≤ m' → m' < m + 1 → E m' = 18 + k → ¬ spn (gO E) a m' = (bwW A 40 (nI x)) := fun m' h1 h2 he e => by
                by_cases w : m' = m
                · subst w
                  exact q71 e
                · exact hno m' h1 (by omega) he e
              refine zv_locals (l := [(10, .int (nI m + Int32.ofInt 1)), (9, .int (nI (spn (gO E) a m) + Int32.ofInt 0)), (7, .long (s + Y (34 + a) (nI m).toNatClampNeg * Y (34 + (m + 1)) (nI b).toNatClampNeg)), (6, .int (nI x)), (5, .int (c8 18 + nI k)), (0, .ref 31), (1, .ref 1), (2, .int (nI n)), (3, .int (nI a)), (4, .int (nI b))]) (l' := [(10, .int (nI m + Int32.ofInt 1)), (9, .int (nI (spn (gO E) a m) + Int32.ofInt 0)), (7, .long (s + Y (34 + a) (nI m).toNatClampNeg * Y (34 + (m + 1)) (nI b).toNatClampNeg)), (6, .int (nI x)), (5, .int (c8 18 + nI k)), (0, .ref 31), (1, .ref 1), (2, .int (nI n)), (3, .int (nI a)), (4, .int (nI b))]) (fun q h => h) (ih2 (m + 1) (by omega) (by omega) (by omega) (nI_1 m) hc2 hs2 hno2)
        · have q71 : spn (gO E) a m = (bwW A 40 (nI x)) := by
            have h9 : nI (spn (gO E) a m) = nI (bwW A 40 (nI x)) := Decidable.not_not.mp h71
            have hl := spn_le (gO_le E) (a := a) (m - a)
            rw [show a + (m - a) = m by omega] at hl
            rwa [nI_eq (by omega) (by omega)] at h9
          have ham : a < m := by
            rcases Nat.lt_or_ge a m with w | w
            · exact w
            · rw [show m = a by omega, spn_0] at q71
              omega
          iterate 5 (refine zv_step (bX0_placePair (3 * f + 5)) rfl rfl trivial ?_)
          refine zv_V4 (bX0_placePair (3 * f + 5)) rfl rfl rfl rfl rfl rfl rfl ⟨rfl, rfl, rfl⟩ ⟨by show 3 * f + 4 + 1 ≤ 3 * f + 5; omega, by show 8 + (10 + 11) + 64 * (3 * f + 4) ≤ 64 * (3 * f + 5); omega⟩ ⟨Nat.zero_le _, Nat.zero_le _⟩ (ih a m x _ _ rfl rfl ham (by omega) (by omega) (by omega)) ?_
          rintro _ _ ⟨rfl, _, rfl, ⟨p, hp, rfl, rp⟩ | ⟨rfl, np⟩⟩
          · skip
            iterate 5 (refine zv_step (bX0_placePair (3 * f + 5)) rfl rfl trivial ?_)
            refine zv_ift ((lg_cmp_ge _ _).mpr (by show lN 0 ≤ lN p; rw [lN_leJ (by decide) (show p < 2 ^ 62 by have := p62 (Nat.le_trans (hB a m (by omega) (by omega)) (pow5 (by omega))); omega)]; exact Nat.zero_le _)) ?_
            iterate 5 (refine zv_step (bX0_placePair (3 * f + 5)) rfl rfl trivial ?_)
            refine zv_iale (bX0_placePair (3 * f + 5)) rfl rfl (show vp_in (nI n) 120 from vp_in_nI (by omega) (by decide)) (show P 5 (nI n).toNatClampNeg = nI y by rw [nI_clamp (by omega)]; exact e5) ?_
            iterate 4 (refine zv_step (bX0_placePair (3 * f + 5)) rfl rfl trivial ?_)
            refine zv_V4 (bX0_placePair (3 * f + 5)) rfl rfl rfl rfl rfl rfl rfl ⟨rfl, rfl, rfl⟩ ⟨by show 3 * f + 4 + 1 ≤ 3 * f + 5; omega, by show 8 + (10 + 11) + 64 * (3 * f + 4) ≤ 64 * (3 * f + 5); omega⟩ ⟨Nat.zero_le _, Nat.zero_le _⟩ (ih (m + 1) b y _ _ (nI_1 m) rfl (by omega) hb (by omega) (by omega)) ?_
            rintro _ _ ⟨rfl, _, rfl, ⟨q, hq, rfl, rq⟩ | ⟨rfl, nq⟩⟩
            · skip
              iterate 5 (refine zv_step (bX0_placePair (3 * f + 5)) rfl rfl trivial ?_)
              refine zv_ift ((lg_cmp_ge _ _).mpr (by show lN 0 ≤ lN q; rw [lN_leJ (by decide) (show q < 2 ^ 62 by have := p62 (Nat.le_trans (hB (m + 1) b (by omega) (by omega)) (pow5 (by omega))); omega)]; exact Nat.zero_le _)) ?_
              have gof := G2_of (E := E) (L := L) (a := a) (b := b) (k := k) (x := x) (y := y) (G := G) (A := A) (n := n) (c := m - (a + 1)) (R := Rg E (mG E G lt L) L A f) (p := p) (q := q) (fun c d _ h2 h3 _ => hB c d h2 (by omega)) (by omega) k2 k6 (by omega) (by rw [show a + 1 + (m - (a + 1)) = m by omega]; exact q59) (by rw [show a + 1 + (m - (a + 1)) = m by omega]; exact hp) (by rw [show a + 1 + (m - (a + 1)) = m by omega]; exact hq) hx hy h2 h3 (by rw [show a + 1 + (m - (a + 1)) = m by omega]; exact rp) (by rw [show a + 1 + (m - (a + 1)) = m by omega]; exact rq)
              rw [show a + 1 + (m - (a + 1)) = m by omega] at gof
              iterate 7 (refine zv_step (bX0_placePair (3 * f + 5)) rfl rfl trivial ?_)
              refine zv_aald (bX0_placePair (3 * f + 5)) rfl (Or.inr rfl) rfl (show vp_in (nI m + Int32.ofInt 1) 21 by rw [show nI m + Int32.ofInt 1 = nI (m + 1) from nI_1 m]; exact vp_in_nI (by omega) (by decide)) (show ([some 34, some 35, some 36, some 37, some 38, some 39, some 40, some 41, some 42, some 43, some 44, some 45, some 46, some 47, some 48, some 49, some 50, some 51, some 52, some 53, some 54] : List (Option Nat)).getD (nI m + Int32.ofInt 1).toNatClampNeg none = some (34 + (m + 1)) by rw [show nI m + Int32.ofInt 1 = nI (m + 1) from nI_1 m, nI_clamp (by omega)]; exact dLs (by omega)) ?_
              iterate 1 (refine zv_step (bX0_placePair (3 * f + 5)) rfl rfl trivial ?_)
              refine zv_lald (bX0_placePair (3 * f + 5)) rfl (wY O P Y g (by omega)) (show vp_in (nI b) 21 by exact vp_in_nI (by omega) (by decide)) ?_
              iterate 4 (refine zv_step (bX0_placePair (3 * f + 5)) rfl rfl trivial ?_)
              exact zv_lret (bX0_placePair (3 * f + 5)) rfl rfl (Nat.zero_le _) (Nat.zero_le _) ⟨rfl, _, rfl, Or.inl ⟨_, gof.1, by show s + lN p * Y (34 + (m + 1)) (nI b).toNatClampNeg + lN q = _; rw [hs (by have := Rg_first _ _ _ _ _ rp; omega), nI_clamp (show b < 2 ^ 31 by omega), hY (m + 1) b (by omega) hb, lN_mul, lN_add, lN_add, Nat.add_assoc], gof.2⟩⟩
            · skip
              iterate 5 (refine zv_step (bX0_placePair (3 * f + 5)) rfl rfl trivial ?_)
              refine zv_iff (fun e => absurd ((lg_cmp_ge _ _).mp e) (by decide)) ?_
              iterate 2 (refine zv_step (bX0_placePair (3 * f + 5)) rfl rfl trivial ?_)
              exact zv_lret (bX0_placePair (3 * f + 5)) rfl rfl (Nat.zero_le _) (Nat.zero_le _) ⟨rfl, _, rfl, Or.inr ⟨rfl, fun q _ => G2_no (by omega) k2 k6 hx hy h2 h3 (fun c gc => by
                obtain ⟨e1, e2⟩ := cut_at (by omega) (by omega) gc
                have em := cut_eq (E := E) (i := a) (m := a + 1 + c) (m' := m) (by omega) hm (e2.trans q71.symm) (by omega) (by omega)
                obtain ⟨_, _, p9, q9, hp9, hq9, rx9, ry9⟩ := gc
                rw [em] at hp9 hq9 rx9 ry9
                exact nq q9 hq9 ry9) q⟩⟩
          · skip
            iterate 5 (refine zv_step (bX0_placePair (3 * f + 5)) rfl rfl trivial ?_)
            refine zv_iff (fun e => absurd ((lg_cmp_ge _ _).mp e) (by decide)) ?_
            iterate 7 (refine zv_step (bX0_placePair (3 * f + 5)) rfl rfl trivial ?_)
            refine zv_iff (fun e => absurd ((lg_cmp_ge _ _).mp e) (by decide)) ?_
            iterate 2 (refine zv_step (bX0_placePair (3 * f + 5)) rfl rfl trivial ?_)
            exact zv_lret (bX0_placePair (3 * f + 5)) rfl rfl (Nat.zero_le _) (Nat.zero_le _) ⟨rfl, _, rfl, Or.inr ⟨rfl, fun q _ => G2_no (by omega) k2 k6 hx hy h2 h3 (fun c gc => by
              obtain ⟨e1, e2⟩ := cut_at (by omega) (by omega) gc
              have em := cut_eq (E := E) (i := a) (m := a + 1 + c) (m' := m) (by omega) hm (e2.trans q71.symm) (by omega) (by omega)
              obtain ⟨_, _, p9, q9, hp9, hq9, rx9, ry9⟩ := gc
              rw [em] at hp9 hq9 rx9 ry9
              exact np p9 hp9 rx9) q⟩⟩
set_option maxHeartbeats 1000000 in
set_option maxRecDepth 20000 in
theorem hPPX {O : Nat → Int32} {P : Nat → Nat → Int32} {Y : Nat → Nat → Int64} {g : Nat → zC} {N : Nat} {E : Nat → Nat} (hE : eaR N P E) (hN0 : N ≤ 20) {G : Nat → Int32} (hG : gfR (O 12) G) {lt : Nat → Nat → Bool} (hb0 : btR (O 10) (fun k => lt k 0)) (hb1 : btR (O 11) (fun k => lt k 1)) {L : Nat → Nat → Nat} (hY : ∀ c d, c < d → d ≤ N → Y (34 + c) d = lN (L c d)) (hB : ∀ c d, c < d → d ≤ N → L c d ≤ 5 ^ (d - c - 1)) (hL : ∀ c d, c < d → d ≤ N → L c d = tS E G lt L c d) {u : Nat} (hu : u ≤ 120) (hO1 : O 1 = nI u) {A : Nat → Nat → Int32} (hT : tbI 0 u A) (hNR : NR u P A) {f : Nat} (ih : ∀ (a b n : Nat) (x y : Int32), x = nI a → y = nI b → a < b → b ≤ N → b - a ≤ f → n < u → zK (3 * f + 4) zX0_placeIn [.ref 31, .ref 1, .int (nI n), .int x, .int y] (wX O P Y g) (fun r w' => w' = (wX O P Y g) ∧ ∃ v : Int64, r = some (.long v) ∧ ansR v (L (a) (b)) (fun p => Rg E (mG E G lt L) L A (f) (a) (b) p (n)))) {a b : Nat} (hab : a < b) (hb : b ≤ N) (hf : b - a ≤ f + 1) {n k x y : Nat} (hn : n < u) (k2 : 2 ≤ k) (k6 : k ≤ 6) (h0 : A 0 n = nI k) (h2 : A 2 n = nI x) (h3 : A 3 n = nI y) (hx : x < n) (hy : y < n) : zK (3 * f + 5) zX0_placePair [.ref 31, .ref 1, .int (nI n), .int (nI a), .int (nI b)] (wX O P Y g) (fun r w' => w' = (wX O P Y g) ∧ ∃ v : Int64, r = some (.long v) ∧ ansR v (wi E G L (k) (a) (b)) (fun q => Gk E L A (Rg E (mG E G lt L) L A f) (k) (a) (b) q (n))) := by
  have e4 : P 4 n = nI x := by rw [(hNR n hn).2.2.1, h2, cvI_nI (by omega)]
  have e5 : P 5 n = nI y := by rw [(hNR n hn).2.2.2.1, h3, cvI_nI (by omega)]
  have hz := (rN_sz (hT x (Nat.zero_le _) (by omega))).2.1
  have hbx := bw_P8 hu hT hNR 40 x (by omega) hz
  refine zK_of qX0_placePair (by decide +kernel) rfl ?_
  iterate 4 (refine zv_step (bX0_placePair (3 * f + 5)) rfl rfl trivial ?_)
  refine zv_iale (bX0_placePair (3 * f + 5)) rfl rfl (show vp_in (nI n) 120 from vp_in_nI (by omega) (by decide)) (show P 2 (nI n).toNatClampNeg = nI k by rw [nI_clamp (by omega)]; exact (hNR n hn).1.trans h0) ?_
  iterate 5 (refine zv_step (bX0_placePair (3 * f + 5)) rfl rfl trivial ?_)
  refine zv_iale (bX0_placePair (3 * f + 5)) rfl rfl (show vp_in (nI n) 120 from vp_in_nI (by omega) (by decide)) (show P 4 (nI n).toNatClampNeg = nI x by rw [nI_clamp (by omega)]; exact e4) ?_
  iterate 3 (refine zv_step (bX0_placePair (3 * f + 5)) rfl rfl trivial ?_)
  refine zv_V1 (bX0_placePair (3 * f + 5)) rfl rfl rfl rfl rfl rfl rfl ⟨rfl, rfl, rfl⟩ ⟨by show 0 + 1 ≤ 3 * f + 5; omega, by show 8 + (2 + 11) + 64 * (0) ≤ 64 * (3 * f + 5); omega⟩ ⟨Nat.zero_le _, Nat.zero_le _⟩ (pHas1 O P Y g _) ?_
  rintro _ _ ⟨rfl, ⟨hh, rfl⟩ | ⟨hh, rfl⟩⟩
  · skip
    iterate 1 (refine zv_step (bX0_placePair (3 * f + 5)) rfl rfl trivial ?_)
    refine zv_ift (by decide) ?_
    iterate 6 (refine zv_step (bX0_placePair (3 * f + 5)) rfl rfl trivial ?_)
    refine zv_locals (l := [(10, .int (nI a)), (9, .int (Int32.ofInt 0)), (7, .long (lN 0)), (6, .int (nI x)), (5, .int (c8 18 + nI k)), (0, .ref 31), (1, .ref 1), (2, .int (nI n)), (3, .int (nI a)), (4, .int (nI b))]) (l' := [(10, .int (nI a)), (9, .int (Int32.ofInt 0)), (7, .long (lN 0)), (6, .int (nI x)), (5, .int (c8 18 + nI k)), (0, .ref 31), (1, .ref 1), (2, .int (nI n)), (3, .int (nI a)), (4, .int (nI b))]) (fun q h => h) (hPPLX hE hN0 hG hb0 hb1 hY hB hL hu hO1 hT hNR ih hab hb hf hn k2 k6 h0 h2 h3 hx hy hbx hz e5 (b - a) a (by omega) (Nat.le_refl _) (by omega) rfl (by rw [spn_0]; rfl) (fun _ => by rw [show a - (a + 1) = 0 by omega]; rfl) (fun m' h1 h2 => absurd h2 (by omega)))
  · skip
    exact absurd ⟨by rw [nI_toInt (by omega)]; omega, by rw [hO1, nI_toInt (by omega), nI_toInt (by omega)]; omega⟩ hh
theorem wi_62 {E : Nat → Nat} {G : Nat → Int32} {L : Nat → Nat → Nat} {N a b k a' b' : Nat} (hB : ∀ c d, c < d → d ≤ N → L c d ≤ 5 ^ (d - c - 1)) (hab : a < b) (hb : b ≤ N) (h1 : a ≤ a') (h2 : b' ≤ b) (hk : k < 10) (hN : N ≤ 20) : wi E G L k a' b' < 2 ^ 62 := by
  rcases Nat.lt_or_ge a' b' with h | h
  · have w := bS_le (E := E) (G := G) (L := L) (i := a') (j := b') (fun c d _ q2 q3 _ => hB c d q2 (by omega)) h (by omega) (fun j => true && decide (j = k))
    rw [bS_one hk, if_pos rfl] at w
    refine Nat.lt_of_le_of_lt w ?_
    unfold hB5
    split
    · decide
    · exact Nat.lt_of_le_of_lt (Nat.mul_le_mul_left 23 (pow5 (n := b' - a' - 3) (m := 17) (by omega))) (by decide)
  · rw [wi_n h]
    decide
set_option maxHeartbeats 2000000 in
set_option maxRecDepth 20000 in
theorem hPBX {O : Nat → Int32} {P : Nat → Nat → Int32} {Y : Nat → Nat → Int64} {g : Nat → zC} {N : Nat} {E : Nat → Nat} (hE : eaR N P E) (hN0 : N ≤ 20) {G : Nat → Int32} (hG : gfR (O 12) G) {lt : Nat → Nat → Bool} (hb0 : btR (O 10) (fun k => lt k 0)) (hb1 : btR (O 11) (fun k => lt k 1)) {L : Nat → Nat → Nat} (hY : ∀ c d, c < d → d ≤ N → Y (34 + c) d = lN (L c d)) (hB : ∀ c d, c < d → d ≤ N → L c d ≤ 5 ^ (d - c - 1)) (hL : ∀ c d, c < d → d ≤ N → L c d = tS E G lt L c d) {u : Nat} (hu : u ≤ 120) (hO1 : O 1 = nI u) {A : Nat → Nat → Int32} (hT : tbI 0 u A) (hNR : NR u P A) {f : Nat} (ih : ∀ (a b n : Nat) (x y : Int32), x = nI a → y = nI b → a < b → b ≤ N → b - a ≤ f → n < u → zK (3 * f + 4) zX0_placeIn [.ref 31, .ref 1, .int (nI n), .int x, .int y] (wX O P Y g) (fun r w' => w' = (wX O P Y g) ∧ ∃ v : Int64, r = some (.long v) ∧ ansR v (L (a) (b)) (fun p => Rg E (mG E G lt L) L A (f) (a) (b) p (n)))) {a b : Nat} (hab : a < b) (hb : b ≤ N) (hf : b - a ≤ f + 1) {n k : Nat} (hn : n < u) (hk0 : k < 10) (h0 : A 0 n = nI k) {x' y' : Int32} (ex : x' = nI a) (ey : y' = nI b) : zK (3 * f + 6) zX0_placeBare [.ref 31, .ref 1, .int (nI n), .int x', .int y'] (wX O P Y g) (fun r w' => w' = (wX O P Y g) ∧ ∃ v : Int64, r = some (.long v) ∧ ansR v (wi E G L (k) (a) (b)) (fun q => Gk E L A (Rg E (mG E G lt L) L A f) (k) (a) (b) q (n))) := by
  subst ex ey
  obtain ⟨k', h0', hk, hs, h40, hv⟩ := rN_val (hT n (Nat.zero_le _) hn)
  have hk9 : k = k' := (nI_eq (by omega) (by omega)).mp (h0.symm.trans h0')
  subst hk9
  refine zK_of qX0_placeBare (by decide +kernel) rfl ?_
  rcases hs with ⟨k1, h2, h3, es⟩ | ⟨k1, k6, x, y2, h2, la, ha, h3, lb, hb2, es⟩ | ⟨k1, x, h2, lx, hx, h3, es⟩
  · rcases (show k = 0 ∨ k = 1 by omega) with rfl | rfl
    · have e3 : P 3 n = A 1 n := by
        rw [(hNR n hn).2.1]
        obtain ⟨v, _, ev⟩ := hv.1 (Or.inl rfl)
        rw [ev, cvI_nI (by omega)]
      iterate 3 (refine zv_step (bX0_placeBare (3 * f + 6)) rfl rfl trivial ?_)
      refine zv_iale (bX0_placeBare (3 * f + 6)) rfl rfl (show vp_in (nI n) 120 from vp_in_nI (by omega) (by decide)) (show P 2 (nI n).toNatClampNeg = nI 0 by rw [nI_clamp (by omega)]; exact (hNR n hn).1.trans h0) ?_
      iterate 2 (refine zv_step (bX0_placeBare (3 * f + 6)) rfl rfl trivial ?_)
      refine zv_S1 (bX0_placeBare (3 * f + 6)) rfl rfl rfl rfl ⟨rfl, rfl, rfl⟩ ⟨by show 0 + 1 ≤ 3 * f + 6; omega, by show 8 + (1 + 11) + 64 * (0) ≤ 64 * (3 * f + 6); omega⟩ ⟨Nat.zero_le _, Nat.zero_le _⟩ (hX1_isPair _ _) ?_
      rintro _ _ ⟨rfl, ⟨hp, rfl⟩ | ⟨hp, rfl⟩⟩
      · skip
        exact absurd hp (by rw [nI_toInt (by decide)]; omega)
      · skip
        iterate 1 (refine zv_step (bX0_placeBare (3 * f + 6)) rfl rfl trivial ?_)
        refine zv_ift (by decide) ?_
        iterate 3 (refine zv_step (bX0_placeBare (3 * f + 6)) rfl rfl trivial ?_)
        refine zv_V2 (bX0_placeBare (3 * f + 6)) rfl rfl rfl rfl rfl rfl rfl ⟨rfl, rfl, rfl⟩ ⟨by show 1 + 1 ≤ 3 * f + 6; omega, by show 8 + (5 + 11) + 64 * (1) ≤ 64 * (3 * f + 6); omega⟩ ⟨Nat.zero_le _, Nat.zero_le _⟩ (hKeX O P Y g hE hG hab hb hN0) ?_
        rintro _ _ ⟨rfl, rfl⟩
        iterate 2 (refine zv_step (bX0_placeBare (3 * f + 6)) rfl rfl trivial ?_)
        refine zv_ifb (fun h35 => ?_) (fun h35 => ?_)
        · have q35 : keV E G a b = 0 := by
            have h9 : keI (keV E G a b) = nI 0 := h35
            by_cases e : keV E G a b = 10
            · rw [e] at h9
              exact absurd h9 (by decide)
            · rw [keI_n e] at h9
              exact (nI_eq (by have := keV_in E G a b; omega) (by decide)).mp h9
          have hwi := keV_c hab L 0 (by decide) (E := E) (G := G)
          rw [if_pos q35] at hwi
          iterate 3 (refine zv_step (bX0_placeBare (3 * f + 6)) rfl rfl trivial ?_)
          refine zv_ift (by decide) ?_
          iterate 2 (refine zv_step (bX0_placeBare (3 * f + 6)) rfl rfl trivial ?_)
          refine zv_ift (by decide) ?_
          iterate 3 (refine zv_step (bX0_placeBare (3 * f + 6)) rfl rfl trivial ?_)
          refine zv_iale (bX0_placeBare (3 * f + 6)) rfl rfl (show vp_in (nI (a)) 20 from vp_in_nI (by omega) (by decide)) (show P 32 (nI (a)).toNatClampNeg = nI (E (a)) by rw [nI_clamp (by omega)]; exact (hE (a) (by omega)).1) ?_
          iterate 3 (refine zv_step (bX0_placeBare (3 * f + 6)) rfl rfl trivial ?_)
          refine zv_iale (bX0_placeBare (3 * f + 6)) rfl rfl (show vp_in (nI n) 120 from vp_in_nI (by omega) (by decide)) (show P 3 (nI n).toNatClampNeg = A 1 n by rw [nI_clamp (by omega)]; exact e3) ?_
          iterate 1 (refine zv_step (bX0_placeBare (3 * f + 6)) rfl rfl trivial ?_)
          refine zv_ifb (fun h96 => ?_) (fun h96 => ?_)
          · have q96 : nI (E a) = A 1 n := h96
            iterate 2 (refine zv_step (bX0_placeBare (3 * f + 6)) rfl rfl trivial ?_)
            refine zv_iff (by decide) ?_
            iterate 2 (refine zv_step (bX0_placeBare (3 * f + 6)) rfl rfl trivial ?_)
            exact zv_lret (bX0_placeBare (3 * f + 6)) rfl rfl (Nat.zero_le _) (Nat.zero_le _) ⟨rfl, _, rfl, Or.inl ⟨0, by rw [hwi, if_pos (by decide)]; decide, rfl, Or.inl ⟨rfl, q96.symm, h2, h3⟩⟩⟩
          · have q96 : ¬ nI (E a) = A 1 n := h96
            iterate 1 (refine zv_step (bX0_placeBare (3 * f + 6)) rfl rfl trivial ?_)
            exact zv_lret (bX0_placeBare (3 * f + 6)) rfl rfl (Nat.zero_le _) (Nat.zero_le _) ⟨rfl, _, rfl, Or.inr ⟨rfl, fun q _ gq => q96 (Gk_0v gq rfl).symm⟩⟩
        · have q35 : ¬ keV E G a b = 0 := fun e => h35 (show keI (keV E G a b) = nI 0 by rw [e]; rfl)
          have hwi := keV_c hab L 0 (by decide) (E := E) (G := G)
          rw [if_neg q35] at hwi
          iterate 1 (refine zv_step (bX0_placeBare (3 * f + 6)) rfl rfl trivial ?_)
          exact zv_lret (bX0_placeBare (3 * f + 6)) rfl rfl (Nat.zero_le _) (Nat.zero_le _) ⟨rfl, _, rfl, Or.inr ⟨rfl, fun q hq => absurd hq (by rw [hwi]; omega)⟩⟩
    · have e3 : P 3 n = A 1 n := by
        rw [(hNR n hn).2.1]
        obtain ⟨v, _, ev⟩ := hv.2.1 rfl
        rw [ev, cvI_nI (by omega)]
      iterate 3 (refine zv_step (bX0_placeBare (3 * f + 6)) rfl rfl trivial ?_)
      refine zv_iale (bX0_placeBare (3 * f + 6)) rfl rfl (show vp_in (nI n) 120 from vp_in_nI (by omega) (by decide)) (show P 2 (nI n).toNatClampNeg = nI 1 by rw [nI_clamp (by omega)]; exact (hNR n hn).1.trans h0) ?_
      iterate 2 (refine zv_step (bX0_placeBare (3 * f + 6)) rfl rfl trivial ?_)
      refine zv_S1 (bX0_placeBare (3 * f + 6)) rfl rfl rfl rfl ⟨rfl, rfl, rfl⟩ ⟨by show 0 + 1 ≤ 3 * f + 6; omega, by show 8 + (1 + 11) + 64 * (0) ≤ 64 * (3 * f + 6); omega⟩ ⟨Nat.zero_le _, Nat.zero_le _⟩ (hX1_isPair _ _) ?_
      rintro _ _ ⟨rfl, ⟨hp, rfl⟩ | ⟨hp, rfl⟩⟩
      · skip
        exact absurd hp (by rw [nI_toInt (by decide)]; omega)
      · skip
        iterate 1 (refine zv_step (bX0_placeBare (3 * f + 6)) rfl rfl trivial ?_)
        refine zv_ift (by decide) ?_
        iterate 3 (refine zv_step (bX0_placeBare (3 * f + 6)) rfl rfl trivial ?_)
        refine zv_V2 (bX0_placeBare (3 * f + 6)) rfl rfl rfl rfl rfl rfl rfl ⟨rfl, rfl, rfl⟩ ⟨by show 1 + 1 ≤ 3 * f + 6; omega, by show 8 + (5 + 11) + 64 * (1) ≤ 64 * (3 * f + 6); omega⟩ ⟨Nat.zero_le _, Nat.zero_le _⟩ (hKeX O P Y g hE hG hab hb hN0) ?_
        rintro _ _ ⟨rfl, rfl⟩
        iterate 2 (refine zv_step (bX0_placeBare (3 * f + 6)) rfl rfl trivial ?_)
        refine zv_ifb (fun h35 => ?_) (fun h35 => ?_)
        · have q35 : keV E G a b = 1 := by
            have h9 : keI (keV E G a b) = nI 1 := h35
            by_cases e : keV E G a b = 10
            · rw [e] at h9
              exact absurd h9 (by decide)
            · rw [keI_n e] at h9
              exact (nI_eq (by have := keV_in E G a b; omega) (by decide)).mp h9
          have hwi := keV_c hab L 1 (by decide) (E := E) (G := G)
          rw [if_pos q35] at hwi
          iterate 3 (refine zv_step (bX0_placeBare (3 * f + 6)) rfl rfl trivial ?_)
          refine zv_iff (by decide) ?_
          have hnum := (wi_pos (E := E) (G := G) (L := L) (k := 1) (q := 0) (by rw [hwi, if_pos (by decide)]; decide)).2.2.1 rfl
          have hnm : nmW (P 32) a b = nI (nvN E (b - a) a 0) := by rw [nmW_num hE hab hb, if_pos hnum.1]
          iterate 3 (refine zv_step (bX0_placeBare (3 * f + 6)) rfl rfl trivial ?_)
          refine zv_V2 (bX0_placeBare (3 * f + 6)) rfl rfl rfl rfl rfl rfl rfl ⟨rfl, rfl, rfl⟩ ⟨by show 0 + 1 ≤ 3 * f + 6; omega, by show 8 + (6 + 11) + 64 * (0) ≤ 64 * (3 * f + 6); omega⟩ ⟨Nat.zero_le _, Nat.zero_le _⟩ (hNum O P Y g hab (by omega)) ?_
          rintro _ _ ⟨rfl, rfl⟩
          iterate 3 (refine zv_step (bX0_placeBare (3 * f + 6)) rfl rfl trivial ?_)
          refine zv_iale (bX0_placeBare (3 * f + 6)) rfl rfl (show vp_in (nI n) 120 from vp_in_nI (by omega) (by decide)) (show P 3 (nI n).toNatClampNeg = A 1 n by rw [nI_clamp (by omega)]; exact e3) ?_
          iterate 1 (refine zv_step (bX0_placeBare (3 * f + 6)) rfl rfl trivial ?_)
          refine zv_ifb (fun h61 => ?_) (fun h61 => ?_)
          · have q61 : ¬ nI (nvN E (b - a) a 0) = A 1 n := fun e => h61 (by rw [hnm]; exact e)
            iterate 1 (refine zv_step (bX0_placeBare (3 * f + 6)) rfl rfl trivial ?_)
            exact zv_lret (bX0_placeBare (3 * f + 6)) rfl rfl (Nat.zero_le _) (Nat.zero_le _) ⟨rfl, _, rfl, Or.inr ⟨rfl, fun q _ gq => q61 (Gk_1v gq rfl).symm⟩⟩
          · have q61 : nI (nvN E (b - a) a 0) = A 1 n := by rw [← hnm]; exact Decidable.not_not.mp h61
            iterate 2 (refine zv_step (bX0_placeBare (3 * f + 6)) rfl rfl trivial ?_)
            exact zv_lret (bX0_placeBare (3 * f + 6)) rfl rfl (Nat.zero_le _) (Nat.zero_le _) ⟨rfl, _, rfl, Or.inl ⟨0, by rw [hwi, if_pos (by decide)]; decide, rfl, Or.inr (Or.inl ⟨rfl, q61.symm, h2, h3, by rw [← q61]; exact num_dg hab hnum.1⟩)⟩⟩
        · have q35 : ¬ keV E G a b = 1 := fun e => h35 (show keI (keV E G a b) = nI 1 by rw [e]; rfl)
          have hwi := keV_c hab L 1 (by decide) (E := E) (G := G)
          rw [if_neg q35] at hwi
          iterate 1 (refine zv_step (bX0_placeBare (3 * f + 6)) rfl rfl trivial ?_)
          exact zv_lret (bX0_placeBare (3 * f + 6)) rfl rfl (Nat.zero_le _) (Nat.zero_le _) ⟨rfl, _, rfl, Or.inr ⟨rfl, fun q hq => absurd hq (by rw [hwi]; omega)⟩⟩
  · iterate 3 (refine zv_step (bX0_placeBare (3 * f + 6)) rfl rfl trivial ?_)
    refine zv_iale (bX0_placeBare (3 * f + 6)) rfl rfl (show vp_in (nI n) 120 from vp_in_nI (by omega) (by decide)) (show P 2 (nI n).toNatClampNeg = nI k by rw [nI_clamp (by omega)]; exact (hNR n hn).1.trans h0) ?_
    iterate 2 (refine zv_step (bX0_placeBare (3 * f + 6)) rfl rfl trivial ?_)
    refine zv_S1 (bX0_placeBare (3 * f + 6)) rfl rfl rfl rfl ⟨rfl, rfl, rfl⟩ ⟨by show 0 + 1 ≤ 3 * f + 6; omega, by show 8 + (1 + 11) + 64 * (0) ≤ 64 * (3 * f + 6); omega⟩ ⟨Nat.zero_le _, Nat.zero_le _⟩ (hX1_isPair _ _) ?_
    rintro _ _ ⟨rfl, ⟨hp, rfl⟩ | ⟨hp, rfl⟩⟩
    · skip
      iterate 1 (refine zv_step (bX0_placeBare (3 * f + 6)) rfl rfl trivial ?_)
      refine zv_iff (by decide) ?_
      iterate 5 (refine zv_step (bX0_placeBare (3 * f + 6)) rfl rfl trivial ?_)
      refine zv_V4 (bX0_placeBare (3 * f + 6)) rfl rfl rfl rfl rfl rfl rfl ⟨rfl, rfl, rfl⟩ ⟨by show 3 * f + 5 + 1 ≤ 3 * f + 6; omega, by show 8 + (15 + 11) + 64 * (3 * f + 5) ≤ 64 * (3 * f + 6); omega⟩ ⟨Nat.zero_le _, Nat.zero_le _⟩ (hPPX hE hN0 hG hb0 hb1 hY hB hL hu hO1 hT hNR ih hab hb hf hn k1 k6 h0 h2 h3 ha hb2) ?_
      rintro _ _ ⟨rfl, v, rfl, gv⟩
      exact zv_lret (bX0_placeBare (3 * f + 6)) rfl rfl (Nat.zero_le _) (Nat.zero_le _) ⟨rfl, v, rfl, gv⟩
    · skip
      exact absurd ⟨by rw [nI_toInt (by omega)]; omega, by rw [nI_toInt (by omega)]; omega⟩ hp
  · have e4 : P 4 n = nI x := by rw [(hNR n hn).2.2.1, h2, cvI_nI (by omega)]
    rcases (show k = 7 ∨ k = 8 ∨ k = 9 by omega) with rfl | rfl | rfl
    · clear hv
      iterate 3 (refine zv_step (bX0_placeBare (3 * f + 6)) rfl rfl trivial ?_)
      refine zv_iale (bX0_placeBare (3 * f + 6)) rfl rfl (show vp_in (nI n) 120 from vp_in_nI (by omega) (by decide)) (show P 2 (nI n).toNatClampNeg = nI 7 by rw [nI_clamp (by omega)]; exact (hNR n hn).1.trans h0) ?_
      iterate 2 (refine zv_step (bX0_placeBare (3 * f + 6)) rfl rfl trivial ?_)
      refine zv_S1 (bX0_placeBare (3 * f + 6)) rfl rfl rfl rfl ⟨rfl, rfl, rfl⟩ ⟨by show 0 + 1 ≤ 3 * f + 6; omega, by show 8 + (1 + 11) + 64 * (0) ≤ 64 * (3 * f + 6); omega⟩ ⟨Nat.zero_le _, Nat.zero_le _⟩ (hX1_isPair _ _) ?_
      rintro _ _ ⟨rfl, ⟨hp, rfl⟩ | ⟨hp, rfl⟩⟩
      · skip
        exact absurd hp (by rw [nI_toInt (by decide)]; omega)
      · skip
        iterate 1 (refine zv_step (bX0_placeBare (3 * f + 6)) rfl rfl trivial ?_)
        refine zv_ift (by decide) ?_
        iterate 3 (refine zv_step (bX0_placeBare (3 * f + 6)) rfl rfl trivial ?_)
        refine zv_V2 (bX0_placeBare (3 * f + 6)) rfl rfl rfl rfl rfl rfl rfl ⟨rfl, rfl, rfl⟩ ⟨by show 1 + 1 ≤ 3 * f + 6; omega, by show 8 + (5 + 11) + 64 * (1) ≤ 64 * (3 * f + 6); omega⟩ ⟨Nat.zero_le _, Nat.zero_le _⟩ (hKeX O P Y g hE hG hab hb hN0) ?_
        rintro _ _ ⟨rfl, rfl⟩
        iterate 2 (refine zv_step (bX0_placeBare (3 * f + 6)) rfl rfl trivial ?_)
        refine zv_ifb (fun h35 => ?_) (fun h35 => ?_)
        · have q35 : keV E G a b = 7 := by
            have h9 : keI (keV E G a b) = nI 7 := h35
            by_cases e : keV E G a b = 10
            · rw [e] at h9
              exact absurd h9 (by decide)
            · rw [keI_n e] at h9
              exact (nI_eq (by have := keV_in E G a b; omega) (by decide)).mp h9
          have hwi := keV_c hab L 7 (by decide) (E := E) (G := G)
          rw [if_pos q35] at hwi
          iterate 3 (refine zv_step (bX0_placeBare (3 * f + 6)) rfl rfl trivial ?_)
          refine zv_ift (by decide) ?_
          iterate 2 (refine zv_step (bX0_placeBare (3 * f + 6)) rfl rfl trivial ?_)
          refine zv_iff (by decide) ?_
          iterate 3 (refine zv_step (bX0_placeBare (3 * f + 6)) rfl rfl trivial ?_)
          refine zv_ift (by decide) ?_
          iterate 2 (refine zv_step (bX0_placeBare (3 * f + 6)) rfl rfl trivial ?_)
          refine zv_ift (by decide) ?_
          have hke := keV_in E G a b
          rw [q35] at hke
          rw [if_neg (by decide), show pfN 7 a = a + 1 from rfl, show ptN 7 b = b from rfl] at hwi
          iterate 5 (refine zv_step (bX0_placeBare (3 * f + 6)) rfl rfl trivial ?_)
          refine zv_iale (bX0_placeBare (3 * f + 6)) rfl rfl (show vp_in (nI n) 120 from vp_in_nI (by omega) (by decide)) (show P 4 (nI n).toNatClampNeg = nI x by rw [nI_clamp (by omega)]; exact e4) ?_
          iterate 2 (refine zv_step (bX0_placeBare (3 * f + 6)) rfl rfl trivial ?_)
          refine zv_S2 (bX0_placeBare (3 * f + 6)) rfl rfl rfl rfl ⟨rfl, rfl, rfl⟩ ⟨by show 0 + 1 ≤ 3 * f + 6; omega, by show 8 + (2 + 11) + 64 * (0) ≤ 64 * (3 * f + 6); omega⟩ ⟨Nat.zero_le _, Nat.zero_le _⟩ (hFrom _ _ _) ?_
          rintro _ _ ⟨rfl, rfl⟩
          iterate 2 (refine zv_step (bX0_placeBare (3 * f + 6)) rfl rfl trivial ?_)
          refine zv_S2 (bX0_placeBare (3 * f + 6)) rfl rfl rfl rfl ⟨rfl, rfl, rfl⟩ ⟨by show 0 + 1 ≤ 3 * f + 6; omega, by show 8 + (2 + 11) + 64 * (0) ≤ 64 * (3 * f + 6); omega⟩ ⟨Nat.zero_le _, Nat.zero_le _⟩ (hTo _ _ _) ?_
          rintro _ _ ⟨rfl, rfl⟩
          refine zv_V4 (bX0_placeBare (3 * f + 6)) rfl rfl rfl rfl rfl rfl rfl ⟨rfl, rfl, rfl⟩ ⟨by show 3 * f + 4 + 1 ≤ 3 * f + 6; omega, by show 8 + (10 + 11) + 64 * (3 * f + 4) ≤ 64 * (3 * f + 6); omega⟩ ⟨Nat.zero_le _, Nat.zero_le _⟩ (ih (a + 1) (b) x _ _ (pf_N (k := 7) (by decide)) (pt_N (k := 7) (by decide) (by omega)) (by omega) (by omega) (by omega) (by omega)) ?_
          rintro _ _ ⟨rfl, _, rfl, ⟨p, hp9, rfl, rp⟩ | ⟨rfl, np⟩⟩
          · skip
            exact zv_lret (bX0_placeBare (3 * f + 6)) rfl rfl (Nat.zero_le _) (Nat.zero_le _) ⟨rfl, _, rfl, Or.inl ⟨p, by rw [hwi]; exact hp9, rfl, Or.inr (Or.inr (Or.inl ⟨rfl, x, Nat.zero_le _, hx, h2, h3, rp⟩))⟩⟩
          · skip
            exact zv_lret (bX0_placeBare (3 * f + 6)) rfl rfl (Nat.zero_le _) (Nat.zero_le _) ⟨rfl, _, rfl, Or.inr ⟨rfl, fun q hq gq => by
              obtain ⟨x', _, _, g2, _, rx⟩ := Gk_7 gq rfl
              have ex : x' = x := (nI_eq (by omega) (by omega)).mp (g2.symm.trans h2)
              subst ex
              rw [hwi] at hq
              exact np q hq rx⟩⟩
        · have q35 : ¬ keV E G a b = 7 := fun e => h35 (show keI (keV E G a b) = nI 7 by rw [e]; rfl)
          have hwi := keV_c hab L 7 (by decide) (E := E) (G := G)
          rw [if_neg q35] at hwi
          iterate 1 (refine zv_step (bX0_placeBare (3 * f + 6)) rfl rfl trivial ?_)
          exact zv_lret (bX0_placeBare (3 * f + 6)) rfl rfl (Nat.zero_le _) (Nat.zero_le _) ⟨rfl, _, rfl, Or.inr ⟨rfl, fun q hq => absurd hq (by rw [hwi]; omega)⟩⟩
    · clear hv
      iterate 3 (refine zv_step (bX0_placeBare (3 * f + 6)) rfl rfl trivial ?_)
      refine zv_iale (bX0_placeBare (3 * f + 6)) rfl rfl (show vp_in (nI n) 120 from vp_in_nI (by omega) (by decide)) (show P 2 (nI n).toNatClampNeg = nI 8 by rw [nI_clamp (by omega)]; exact (hNR n hn).1.trans h0) ?_
      iterate 2 (refine zv_step (bX0_placeBare (3 * f + 6)) rfl rfl trivial ?_)
      refine zv_S1 (bX0_placeBare (3 * f + 6)) rfl rfl rfl rfl ⟨rfl, rfl, rfl⟩ ⟨by show 0 + 1 ≤ 3 * f + 6; omega, by show 8 + (1 + 11) + 64 * (0) ≤ 64 * (3 * f + 6); omega⟩ ⟨Nat.zero_le _, Nat.zero_le _⟩ (hX1_isPair _ _) ?_
      rintro _ _ ⟨rfl, ⟨hp, rfl⟩ | ⟨hp, rfl⟩⟩
      · skip
        exact absurd hp (by rw [nI_toInt (by decide)]; omega)
      · skip
        iterate 1 (refine zv_step (bX0_placeBare (3 * f + 6)) rfl rfl trivial ?_)
        refine zv_ift (by decide) ?_
        iterate 3 (refine zv_step (bX0_placeBare (3 * f + 6)) rfl rfl trivial ?_)
        refine zv_V2 (bX0_placeBare (3 * f + 6)) rfl rfl rfl rfl rfl rfl rfl ⟨rfl, rfl, rfl⟩ ⟨by show 1 + 1 ≤ 3 * f + 6; omega, by show 8 + (5 + 11) + 64 * (1) ≤ 64 * (3 * f + 6); omega⟩ ⟨Nat.zero_le _, Nat.zero_le _⟩ (hKeX O P Y g hE hG hab hb hN0) ?_
        rintro _ _ ⟨rfl, rfl⟩
        iterate 2 (refine zv_step (bX0_placeBare (3 * f + 6)) rfl rfl trivial ?_)
        refine zv_ifb (fun h35 => ?_) (fun h35 => ?_)
        · have q35 : keV E G a b = 8 := by
            have h9 : keI (keV E G a b) = nI 8 := h35
            by_cases e : keV E G a b = 10
            · rw [e] at h9
              exact absurd h9 (by decide)
            · rw [keI_n e] at h9
              exact (nI_eq (by have := keV_in E G a b; omega) (by decide)).mp h9
          have hwi := keV_c hab L 8 (by decide) (E := E) (G := G)
          rw [if_pos q35] at hwi
          iterate 3 (refine zv_step (bX0_placeBare (3 * f + 6)) rfl rfl trivial ?_)
          refine zv_ift (by decide) ?_
          iterate 2 (refine zv_step (bX0_placeBare (3 * f + 6)) rfl rfl trivial ?_)
          refine zv_iff (by decide) ?_
          iterate 3 (refine zv_step (bX0_placeBare (3 * f + 6)) rfl rfl trivial ?_)
          refine zv_ift (by decide) ?_
          iterate 2 (refine zv_step (bX0_placeBare (3 * f + 6)) rfl rfl trivial ?_)
          refine zv_ift (by decide) ?_
          have hke := keV_in E G a b
          rw [q35] at hke
          rw [if_neg (by decide), show pfN 8 a = a + 1 from rfl, show ptN 8 b = b - 1 from rfl] at hwi
          iterate 5 (refine zv_step (bX0_placeBare (3 * f + 6)) rfl rfl trivial ?_)
          refine zv_iale (bX0_placeBare (3 * f + 6)) rfl rfl (show vp_in (nI n) 120 from vp_in_nI (by omega) (by decide)) (show P 4 (nI n).toNatClampNeg = nI x by rw [nI_clamp (by omega)]; exact e4) ?_
          iterate 2 (refine zv_step (bX0_placeBare (3 * f + 6)) rfl rfl trivial ?_)
          refine zv_S2 (bX0_placeBare (3 * f + 6)) rfl rfl rfl rfl ⟨rfl, rfl, rfl⟩ ⟨by show 0 + 1 ≤ 3 * f + 6; omega, by show 8 + (2 + 11) + 64 * (0) ≤ 64 * (3 * f + 6); omega⟩ ⟨Nat.zero_le _, Nat.zero_le _⟩ (hFrom _ _ _) ?_
          rintro _ _ ⟨rfl, rfl⟩
          iterate 2 (refine zv_step (bX0_placeBare (3 * f + 6)) rfl rfl trivial ?_)
          refine zv_S2 (bX0_placeBare (3 * f + 6)) rfl rfl rfl rfl ⟨rfl, rfl, rfl⟩ ⟨by show 0 + 1 ≤ 3 * f + 6; omega, by show 8 + (2 + 11) + 64 * (0) ≤ 64 * (3 * f + 6); omega⟩ ⟨Nat.zero_le _, Nat.zero_le _⟩ (hTo _ _ _) ?_
          rintro _ _ ⟨rfl, rfl⟩
          refine zv_V4 (bX0_placeBare (3 * f + 6)) rfl rfl rfl rfl rfl rfl rfl ⟨rfl, rfl, rfl⟩ ⟨by show 3 * f + 4 + 1 ≤ 3 * f + 6; omega, by show 8 + (10 + 11) + 64 * (3 * f + 4) ≤ 64 * (3 * f + 6); omega⟩ ⟨Nat.zero_le _, Nat.zero_le _⟩ (ih (a + 1) (b - 1) x _ _ (pf_N (k := 8) (by decide)) (pt_N (k := 8) (by decide) (by omega)) (by omega) (by omega) (by omega) (by omega)) ?_
          rintro _ _ ⟨rfl, _, rfl, ⟨p, hp9, rfl, rp⟩ | ⟨rfl, np⟩⟩
          · skip
            exact zv_lret (bX0_placeBare (3 * f + 6)) rfl rfl (Nat.zero_le _) (Nat.zero_le _) ⟨rfl, _, rfl, Or.inl ⟨p, by rw [hwi]; exact hp9, rfl, Or.inr (Or.inr (Or.inr (Or.inl ⟨rfl, x, Nat.zero_le _, hx, h2, h3, rp⟩)))⟩⟩
          · skip
            exact zv_lret (bX0_placeBare (3 * f + 6)) rfl rfl (Nat.zero_le _) (Nat.zero_le _) ⟨rfl, _, rfl, Or.inr ⟨rfl, fun q hq gq => by
              obtain ⟨x', _, _, g2, _, rx⟩ := Gk_8 gq rfl
              have ex : x' = x := (nI_eq (by omega) (by omega)).mp (g2.symm.trans h2)
              subst ex
              rw [hwi] at hq
              exact np q hq rx⟩⟩
        · have q35 : ¬ keV E G a b = 8 := fun e => h35 (show keI (keV E G a b) = nI 8 by rw [e]; rfl)
          have hwi := keV_c hab L 8 (by decide) (E := E) (G := G)
          rw [if_neg q35] at hwi
          iterate 1 (refine zv_step (bX0_placeBare (3 * f + 6)) rfl rfl trivial ?_)
          exact zv_lret (bX0_placeBare (3 * f + 6)) rfl rfl (Nat.zero_le _) (Nat.zero_le _) ⟨rfl, _, rfl, Or.inr ⟨rfl, fun q hq => absurd hq (by rw [hwi]; omega)⟩⟩
    · have e3 : P 3 n = A 1 n := by
        rw [(hNR n hn).2.1]
        obtain ⟨v, _, ev⟩ := hv.1 (Or.inr rfl)
        rw [ev, cvI_nI (by omega)]
      clear hv
      iterate 3 (refine zv_step (bX0_placeBare (3 * f + 6)) rfl rfl trivial ?_)
      refine zv_iale (bX0_placeBare (3 * f + 6)) rfl rfl (show vp_in (nI n) 120 from vp_in_nI (by omega) (by decide)) (show P 2 (nI n).toNatClampNeg = nI 9 by rw [nI_clamp (by omega)]; exact (hNR n hn).1.trans h0) ?_
      iterate 2 (refine zv_step (bX0_placeBare (3 * f + 6)) rfl rfl trivial ?_)
      refine zv_S1 (bX0_placeBare (3 * f + 6)) rfl rfl rfl rfl ⟨rfl, rfl, rfl⟩ ⟨by show 0 + 1 ≤ 3 * f + 6; omega, by show 8 + (1 + 11) + 64 * (0) ≤ 64 * (3 * f + 6); omega⟩ ⟨Nat.zero_le _, Nat.zero_le _⟩ (hX1_isPair _ _) ?_
      rintro _ _ ⟨rfl, ⟨hp, rfl⟩ | ⟨hp, rfl⟩⟩
      · skip
        exact absurd hp (by rw [nI_toInt (by decide)]; omega)
      · skip
        iterate 1 (refine zv_step (bX0_placeBare (3 * f + 6)) rfl rfl trivial ?_)
        refine zv_ift (by decide) ?_
        iterate 3 (refine zv_step (bX0_placeBare (3 * f + 6)) rfl rfl trivial ?_)
        refine zv_V2 (bX0_placeBare (3 * f + 6)) rfl rfl rfl rfl rfl rfl rfl ⟨rfl, rfl, rfl⟩ ⟨by show 1 + 1 ≤ 3 * f + 6; omega, by show 8 + (5 + 11) + 64 * (1) ≤ 64 * (3 * f + 6); omega⟩ ⟨Nat.zero_le _, Nat.zero_le _⟩ (hKeX O P Y g hE hG hab hb hN0) ?_
        rintro _ _ ⟨rfl, rfl⟩
        iterate 2 (refine zv_step (bX0_placeBare (3 * f + 6)) rfl rfl trivial ?_)
        refine zv_ifb (fun h35 => ?_) (fun h35 => ?_)
        · have q35 : keV E G a b = 9 := by
            have h9 : keI (keV E G a b) = nI 9 := h35
            by_cases e : keV E G a b = 10
            · rw [e] at h9
              exact absurd h9 (by decide)
            · rw [keI_n e] at h9
              exact (nI_eq (by have := keV_in E G a b; omega) (by decide)).mp h9
          have hwi := keV_c hab L 9 (by decide) (E := E) (G := G)
          rw [if_pos q35] at hwi
          iterate 3 (refine zv_step (bX0_placeBare (3 * f + 6)) rfl rfl trivial ?_)
          refine zv_ift (by decide) ?_
          iterate 2 (refine zv_step (bX0_placeBare (3 * f + 6)) rfl rfl trivial ?_)
          refine zv_iff (by decide) ?_
          iterate 3 (refine zv_step (bX0_placeBare (3 * f + 6)) rfl rfl trivial ?_)
          refine zv_iff (by decide) ?_
          iterate 3 (refine zv_step (bX0_placeBare (3 * f + 6)) rfl rfl trivial ?_)
          refine zv_iale (bX0_placeBare (3 * f + 6)) rfl rfl (show vp_in (nI (a)) 20 from vp_in_nI (by omega) (by decide)) (show P 32 (nI (a)).toNatClampNeg = nI (E (a)) by rw [nI_clamp (by omega)]; exact (hE (a) (by omega)).1) ?_
          iterate 3 (refine zv_step (bX0_placeBare (3 * f + 6)) rfl rfl trivial ?_)
          refine zv_iale (bX0_placeBare (3 * f + 6)) rfl rfl (show vp_in (nI n) 120 from vp_in_nI (by omega) (by decide)) (show P 3 (nI n).toNatClampNeg = A 1 n by rw [nI_clamp (by omega)]; exact e3) ?_
          iterate 1 (refine zv_step (bX0_placeBare (3 * f + 6)) rfl rfl trivial ?_)
          refine zv_ifb (fun h96 => ?_) (fun h96 => ?_)
          · have q96 : nI (E a) = A 1 n := h96
            iterate 2 (refine zv_step (bX0_placeBare (3 * f + 6)) rfl rfl trivial ?_)
            refine zv_ift (by decide) ?_
            have hke := keV_in E G a b
            rw [q35] at hke
            rw [if_neg (by decide), show pfN 9 a = a + 2 from rfl, show ptN 9 b = b from rfl] at hwi
            iterate 5 (refine zv_step (bX0_placeBare (3 * f + 6)) rfl rfl trivial ?_)
            refine zv_iale (bX0_placeBare (3 * f + 6)) rfl rfl (show vp_in (nI n) 120 from vp_in_nI (by omega) (by decide)) (show P 4 (nI n).toNatClampNeg = nI x by rw [nI_clamp (by omega)]; exact e4) ?_
            iterate 2 (refine zv_step (bX0_placeBare (3 * f + 6)) rfl rfl trivial ?_)
            refine zv_S2 (bX0_placeBare (3 * f + 6)) rfl rfl rfl rfl ⟨rfl, rfl, rfl⟩ ⟨by show 0 + 1 ≤ 3 * f + 6; omega, by show 8 + (2 + 11) + 64 * (0) ≤ 64 * (3 * f + 6); omega⟩ ⟨Nat.zero_le _, Nat.zero_le _⟩ (hFrom _ _ _) ?_
            rintro _ _ ⟨rfl, rfl⟩
            iterate 2 (refine zv_step (bX0_placeBare (3 * f + 6)) rfl rfl trivial ?_)
            refine zv_S2 (bX0_placeBare (3 * f + 6)) rfl rfl rfl rfl ⟨rfl, rfl, rfl⟩ ⟨by show 0 + 1 ≤ 3 * f + 6; omega, by show 8 + (2 + 11) + 64 * (0) ≤ 64 * (3 * f + 6); omega⟩ ⟨Nat.zero_le _, Nat.zero_le _⟩ (hTo _ _ _) ?_
            rintro _ _ ⟨rfl, rfl⟩
            refine zv_V4 (bX0_placeBare (3 * f + 6)) rfl rfl rfl rfl rfl rfl rfl ⟨rfl, rfl, rfl⟩ ⟨by show 3 * f + 4 + 1 ≤ 3 * f + 6; omega, by show 8 + (10 + 11) + 64 * (3 * f + 4) ≤ 64 * (3 * f + 6); omega⟩ ⟨Nat.zero_le _, Nat.zero_le _⟩ (ih (a + 2) (b) x _ _ (pf_N (k := 9) (by decide)) (pt_N (k := 9) (by decide) (by omega)) (by omega) (by omega) (by omega) (by omega)) ?_
            rintro _ _ ⟨rfl, _, rfl, ⟨p, hp9, rfl, rp⟩ | ⟨rfl, np⟩⟩
            · skip
              exact zv_lret (bX0_placeBare (3 * f + 6)) rfl rfl (Nat.zero_le _) (Nat.zero_le _) ⟨rfl, _, rfl, Or.inl ⟨p, by rw [hwi]; exact hp9, rfl, Or.inr (Or.inr (Or.inr (Or.inr (Or.inl ⟨rfl, q96.symm, x, Nat.zero_le _, hx, h2, h3, rp⟩))))⟩⟩
            · skip
              exact zv_lret (bX0_placeBare (3 * f + 6)) rfl rfl (Nat.zero_le _) (Nat.zero_le _) ⟨rfl, _, rfl, Or.inr ⟨rfl, fun q hq gq => by
                obtain ⟨x', _, _, g2, _, rx⟩ := Gk_9 gq rfl
                have ex : x' = x := (nI_eq (by omega) (by omega)).mp (g2.symm.trans h2)
                subst ex
                rw [hwi] at hq
                exact np q hq rx⟩⟩
          · have q96 : ¬ nI (E a) = A 1 n := h96
            iterate 1 (refine zv_step (bX0_placeBare (3 * f + 6)) rfl rfl trivial ?_)
            exact zv_lret (bX0_placeBare (3 * f + 6)) rfl rfl (Nat.zero_le _) (Nat.zero_le _) ⟨rfl, _, rfl, Or.inr ⟨rfl, fun q _ gq => q96 (Gk_9v gq rfl).symm⟩⟩
        · have q35 : ¬ keV E G a b = 9 := fun e => h35 (show keI (keV E G a b) = nI 9 by rw [e]; rfl)
          have hwi := keV_c hab L 9 (by decide) (E := E) (G := G)
          rw [if_neg q35] at hwi
          iterate 1 (refine zv_step (bX0_placeBare (3 * f + 6)) rfl rfl trivial ?_)
          exact zv_lret (bX0_placeBare (3 * f + 6)) rfl rfl (Nat.zero_le _) (Nat.zero_le _) ⟨rfl, _, rfl, Or.inr ⟨rfl, fun q hq => absurd hq (by rw [hwi]; omega)⟩⟩
set_option maxHeartbeats 2000000 in
set_option maxRecDepth 20000 in
theorem hPIX {O : Nat → Int32} {P : Nat → Nat → Int32} {Y : Nat → Nat → Int64} {g : Nat → zC} {N : Nat} {E : Nat → Nat} (hE : eaR N P E) (hN0 : N ≤ 20) {G : Nat → Int32} (hG : gfR (O 12) G) {lt : Nat → Nat → Bool} (hb0 : btR (O 10) (fun k => lt k 0)) (hb1 : btR (O 11) (fun k => lt k 1)) {L : Nat → Nat → Nat} (hY : ∀ c d, c < d → d ≤ N → Y (34 + c) d = lN (L c d)) (hB : ∀ c d, c < d → d ≤ N → L c d ≤ 5 ^ (d - c - 1)) (hL : ∀ c d, c < d → d ≤ N → L c d = tS E G lt L c d) {u : Nat} (hu : u ≤ 120) (hO1 : O 1 = nI u) {A : Nat → Nat → Int32} (hT : tbI 0 u A) (hNR : NR u P A) : ∀ (f a b n : Nat) (x y : Int32), x = nI a → y = nI b → a < b → b ≤ N → b - a ≤ f → n < u → zK (3 * f + 4) zX0_placeIn [.ref 31, .ref 1, .int (nI n), .int x, .int y] (wX O P Y g) (fun r w' => w' = (wX O P Y g) ∧ ∃ v : Int64, r = some (.long v) ∧ ansR v (L (a) (b)) (fun p => Rg E (mG E G lt L) L A (f) (a) (b) p (n))) := by
  intro f
  induction f with
  | zero =>
    intro a b n x y _ _ hab _ hf
    omega
  | succ f ih =>
    intro a b n x y ex ey hab hb hf hn
    subst ex ey
    obtain ⟨k, hk, h0⟩ := rN_kd (hT n (Nat.zero_le _) hn)
    refine zK_of qX0_placeIn (by decide +kernel) rfl ?_
    iterate 3 (refine zv_step (bX0_placeIn (3 * (f + 1) + 4)) rfl rfl trivial ?_)
    refine zv_iff (fun h => absurd ((nI_leI (by omega) (by omega)).mp h) (by omega)) ?_
    iterate 2 (refine zv_step (bX0_placeIn (3 * (f + 1) + 4)) rfl rfl trivial ?_)
    refine zv_V1 (bX0_placeIn (3 * (f + 1) + 4)) rfl rfl rfl rfl rfl rfl rfl ⟨rfl, rfl, rfl⟩ ⟨by show 0 + 1 ≤ 3 * (f + 1) + 4; omega, by show 8 + (2 + 11) + 64 * (0) ≤ 64 * (3 * (f + 1) + 4); omega⟩ ⟨Nat.zero_le _, Nat.zero_le _⟩ (pHas1 O P Y g _) ?_
    rintro _ _ ⟨rfl, ⟨hh, rfl⟩ | ⟨hh, rfl⟩⟩
    · skip
      iterate 1 (refine zv_step (bX0_placeIn (3 * (f + 1) + 4)) rfl rfl trivial ?_)
      refine zv_ift (by decide) ?_
      iterate 4 (refine zv_step (bX0_placeIn (3 * (f + 1) + 4)) rfl rfl trivial ?_)
      refine zv_iale (bX0_placeIn (3 * (f + 1) + 4)) rfl rfl (show vp_in (nI n) 120 from vp_in_nI (by omega) (by decide)) (show P 2 (nI n).toNatClampNeg = nI k by rw [nI_clamp (by omega)]; exact (hNR n hn).1.trans h0) ?_
      iterate 8 (refine zv_step (bX0_placeIn (3 * (f + 1) + 4)) rfl rfl trivial ?_)
      refine zv_V3 (bX0_placeIn (3 * (f + 1) + 4)) rfl rfl rfl rfl rfl rfl rfl ⟨rfl, rfl, rfl⟩ ⟨by show 3 + 1 ≤ 3 * (f + 1) + 4; omega, by show 8 + (6 + 11) + 64 * (3) ≤ 64 * (3 * (f + 1) + 4); omega⟩ ⟨Nat.zero_le _, Nat.zero_le _⟩ (hWaysX O P Y g hE hG hab hb hN0 (fun c d _ h2 h3 _ => hY c d h2 (by omega)) (fun c d _ h2 h3 _ => hB c d h2 (by omega)) (btR_kd (btR_lo hb0 hk)) (btR_kd (btR_lo hb1 hk)) rfl rfl) ?_
      rintro _ _ ⟨rfl, rfl⟩
      rw [ah_sW hk]
      iterate 6 (refine zv_step (bX0_placeIn (3 * (f + 1) + 4)) rfl rfl trivial ?_)
      refine zv_ifb (fun h48 => ?_) (fun h48 => ?_)
      · have q48 : lt k 0 = false := (btR_z hb0 hk).mp h48
        iterate 5 (refine zv_step (bX0_placeIn (3 * (f + 1) + 4)) rfl rfl trivial ?_)
        refine zv_ifb (fun h96 => ?_) (fun h96 => ?_)
        · have q96 : lt k 1 = false := (btR_z hb1 hk).mp h96
          iterate 1 (refine zv_step (bX0_placeIn (3 * (f + 1) + 4)) rfl rfl trivial ?_)
          exact zv_lret (bX0_placeIn (3 * (f + 1) + 4)) rfl rfl (Nat.zero_le _) (Nat.zero_le _) ⟨rfl, _, rfl, Or.inr ⟨rfl, fun p _ g => by
            obtain ⟨c', q, hc', _, hq, h0', g⟩ := g
            have ek : c' / 2 = k := (nI_eq (by omega) (by omega)).mp (h0'.symm.trans h0)
            rcases (show c' = 2 * k ∨ c' = 2 * k + 1 by omega) with e | e
            · subst e
              rw [mG_e, if_neg (by rw [q48]; decide)] at hq
              omega
            · subst e
              rw [mG_o, if_neg (show ¬ lt k 1 = true by rw [q96]; decide)] at hq
              split at hq <;> omega⟩⟩
        · have q96 : lt k 1 = true := by
            cases e : lt k 1 with
            | true => rfl
            | false => exact absurd ((btR_z hb1 hk).mpr e) h96
          iterate 3 (refine zv_step (bX0_placeIn (3 * (f + 1) + 4)) rfl rfl trivial ?_)
          refine zv_V2 (bX0_placeIn (3 * (f + 1) + 4)) rfl rfl rfl rfl rfl rfl rfl ⟨rfl, rfl, rfl⟩ ⟨by show 0 + 1 ≤ 3 * (f + 1) + 4; omega, by show 8 + (3 + 11) + 64 * (0) ≤ 64 * (3 * (f + 1) + 4); omega⟩ ⟨Nat.zero_le _, Nat.zero_le _⟩ (hBr O P Y g hab (by omega)) ?_
          rintro _ _ ⟨rfl, ⟨hz, rfl⟩ | ⟨hz, rfl⟩⟩
          · have hz2 := (br_E hE hab hb).mp hz
            have hz3 := hz2.1
            iterate 1 (refine zv_step (bX0_placeIn (3 * (f + 1) + 4)) rfl rfl trivial ?_)
            refine zv_ift (by decide) ?_
            iterate 9 (refine zv_step (bX0_placeIn (3 * (f + 1) + 4)) rfl rfl trivial ?_)
            refine zv_V4 (bX0_placeIn (3 * (f + 1) + 4)) rfl rfl rfl rfl rfl rfl rfl ⟨rfl, rfl, rfl⟩ ⟨by show 3 * f + 6 + 1 ≤ 3 * (f + 1) + 4; omega, by show 8 + (6 + 11) + 64 * (3 * f + 6) ≤ 64 * (3 * (f + 1) + 4); omega⟩ ⟨Nat.zero_le _, Nat.zero_le _⟩ (hPBX hE hN0 hG hb0 hb1 hY hB hL hu hO1 hT hNR ih (a := a + 1) (b := b - 1) (by omega) (by omega) (by omega) hn hk h0 (nI_1 a) (sub_1 (by omega))) ?_
            rintro _ _ ⟨rfl, _, rfl, ⟨q, hq, rfl, gq⟩ | ⟨rfl, nk⟩⟩
            · have hq2 : q < (mG E G lt L a b) (2 * k + 1) := by rw [mG_o, if_pos hz2.2, if_pos q96]; exact hq
              iterate 5 (refine zv_step (bX0_placeIn (3 * (f + 1) + 4)) rfl rfl trivial ?_)
              refine zv_ift ((lg_cmp_ge _ _).mpr (by show lN 0 ≤ lN q; rw [lN_leJ (by decide) (show q < 2 ^ 62 by have := wi_62 (E := E) (G := G) hB hab hb (k := k) (a' := a + 1) (b' := b - 1) (by omega) (by omega) (by omega) hN0; omega)]; exact Nat.zero_le _)) ?_
              iterate 3 (refine zv_step (bX0_placeIn (3 * (f + 1) + 4)) rfl rfl trivial ?_)
              exact zv_lret (bX0_placeIn (3 * (f + 1) + 4)) rfl rfl (Nat.zero_le _) (Nat.zero_le _) ⟨rfl, _, rfl, Or.inl ⟨sW (mG E G lt L a b) (2 * k + 1) + q, (by rw [hL a b hab hb]; exact sW_lt (by omega) hq2), by show lN (sW (mG E G lt L a b) (2 * k)) + lN q = _; rw [lN_add, show sW (mG E G lt L a b) (2 * k + 1) = sW (mG E G lt L a b) (2 * k) + (if lt k 0 = true then wi E G L k a b else 0) by rw [← mG_e]; rfl, if_neg (by rw [q48]; decide), Nat.add_zero], 2 * k + 1, q, by omega, rfl, hq2, by rw [show (2 * k + 1) / 2 = k by omega]; exact h0, by rw [show (2 * k + 1) / 2 = k by omega, show (2 * k + 1) % 2 = 1 by omega]; exact gq⟩⟩
            · skip
              iterate 5 (refine zv_step (bX0_placeIn (3 * (f + 1) + 4)) rfl rfl trivial ?_)
              refine zv_iff (fun e => absurd ((lg_cmp_ge _ _).mp e) (by decide)) ?_
              iterate 2 (refine zv_step (bX0_placeIn (3 * (f + 1) + 4)) rfl rfl trivial ?_)
              exact zv_lret (bX0_placeIn (3 * (f + 1) + 4)) rfl rfl (Nat.zero_le _) (Nat.zero_le _) ⟨rfl, _, rfl, Or.inr ⟨rfl, fun p _ g => by
                obtain ⟨c', q, hc', _, hq, h0', g⟩ := g
                have ek : c' / 2 = k := (nI_eq (by omega) (by omega)).mp (h0'.symm.trans h0)
                rcases (show c' = 2 * k ∨ c' = 2 * k + 1 by omega) with e | e
                · subst e
                  rw [mG_e, if_neg (by rw [q48]; decide)] at hq
                  omega
                · subst e
                  obtain ⟨hw9, _, _⟩ := mG_pos hq
                  rw [show (2 * k + 1) / 2 = k by omega, show (2 * k + 1) % 2 = 1 by omega] at hw9 g
                  exact nk q hw9 g⟩⟩
          · skip
            iterate 1 (refine zv_step (bX0_placeIn (3 * (f + 1) + 4)) rfl rfl trivial ?_)
            refine zv_iff (by decide) ?_
            iterate 1 (refine zv_step (bX0_placeIn (3 * (f + 1) + 4)) rfl rfl trivial ?_)
            exact zv_lret (bX0_placeIn (3 * (f + 1) + 4)) rfl rfl (Nat.zero_le _) (Nat.zero_le _) ⟨rfl, _, rfl, Or.inr ⟨rfl, fun p _ g => by
              obtain ⟨c', q, hc', _, hq, h0', g⟩ := g
              have ek : c' / 2 = k := (nI_eq (by omega) (by omega)).mp (h0'.symm.trans h0)
              rcases (show c' = 2 * k ∨ c' = 2 * k + 1 by omega) with e | e
              · subst e
                rw [mG_e, if_neg (by rw [q48]; decide)] at hq
                omega
              · subst e
                obtain ⟨hw9, _, hbr9⟩ := mG_pos hq
                have hab9 := (wi_pos hw9).1
                rw [show (2 * k + 1) % 2 = 1 by omega] at hab9 hbr9
                exact hz (by rw [br_E hE hab hb]; exact ⟨by omega, hbr9.resolve_left (by decide)⟩)⟩⟩
      · have q48 : lt k 0 = true := by
          cases e : lt k 0 with
          | true => rfl
          | false => exact absurd ((btR_z hb0 hk).mpr e) h48
        iterate 5 (refine zv_step (bX0_placeIn (3 * (f + 1) + 4)) rfl rfl trivial ?_)
        refine zv_V4 (bX0_placeIn (3 * (f + 1) + 4)) rfl rfl rfl rfl rfl rfl rfl ⟨rfl, rfl, rfl⟩ ⟨by show 3 * f + 6 + 1 ≤ 3 * (f + 1) + 4; omega, by show 8 + (6 + 11) + 64 * (3 * f + 6) ≤ 64 * (3 * (f + 1) + 4); omega⟩ ⟨Nat.zero_le _, Nat.zero_le _⟩ (hPBX hE hN0 hG hb0 hb1 hY hB hL hu hO1 hT hNR ih hab hb hf hn hk h0 rfl rfl) ?_
        rintro _ _ ⟨rfl, _, rfl, ⟨q, hq, rfl, gq⟩ | ⟨rfl, nb⟩⟩
        · have hq2 : q < (mG E G lt L a b) (2 * k) := by rw [mG_e, if_pos q48]; exact hq
          iterate 5 (refine zv_step (bX0_placeIn (3 * (f + 1) + 4)) rfl rfl trivial ?_)
          refine zv_iff (fun e => (lN_p (show q < 2 ^ 62 by have := wi_62 (E := E) (G := G) hB hab hb (k := k) (a' := a) (b' := b) (by omega) (by omega) (by omega) hN0; omega)) ((lg_cmp_lt _ _).mp e)) ?_
          iterate 3 (refine zv_step (bX0_placeIn (3 * (f + 1) + 4)) rfl rfl trivial ?_)
          exact zv_lret (bX0_placeIn (3 * (f + 1) + 4)) rfl rfl (Nat.zero_le _) (Nat.zero_le _) ⟨rfl, _, rfl, Or.inl ⟨sW (mG E G lt L a b) (2 * k) + q, (by rw [hL a b hab hb]; exact sW_lt (by omega) hq2), by show lN (sW (mG E G lt L a b) (2 * k)) + lN q = _; rw [lN_add], 2 * k, q, by omega, rfl, hq2, by rw [show 2 * k / 2 = k by omega]; exact h0, by rw [show 2 * k / 2 = k by omega, show 2 * k % 2 = 0 by omega]; exact gq⟩⟩
        · skip
          iterate 5 (refine zv_step (bX0_placeIn (3 * (f + 1) + 4)) rfl rfl trivial ?_)
          refine zv_ift ((lg_cmp_lt _ _).mpr (by decide)) ?_
          iterate 5 (refine zv_step (bX0_placeIn (3 * (f + 1) + 4)) rfl rfl trivial ?_)
          refine zv_V3 (bX0_placeIn (3 * (f + 1) + 4)) rfl rfl rfl rfl rfl rfl rfl ⟨rfl, rfl, rfl⟩ ⟨by show 2 + 1 ≤ 3 * (f + 1) + 4; omega, by show 8 + (8 + 11) + 64 * (2) ≤ 64 * (3 * (f + 1) + 4); omega⟩ ⟨Nat.zero_le _, Nat.zero_le _⟩ (hBareX O P Y g hE hG hab hb hN0 (fun c d _ h2 h3 _ => hY c d h2 (by omega)) (fun c d _ h2 h3 _ => hB c d h2 (by omega)) (btR_kd (btR_one hk)) rfl rfl) ?_
          rintro _ _ ⟨rfl, rfl⟩
          rw [bS_one hk, if_pos rfl]
          iterate 7 (refine zv_step (bX0_placeIn (3 * (f + 1) + 4)) rfl rfl trivial ?_)
          refine zv_ifb (fun h96 => ?_) (fun h96 => ?_)
          · have q96 : lt k 1 = false := (btR_z hb1 hk).mp h96
            iterate 1 (refine zv_step (bX0_placeIn (3 * (f + 1) + 4)) rfl rfl trivial ?_)
            exact zv_lret (bX0_placeIn (3 * (f + 1) + 4)) rfl rfl (Nat.zero_le _) (Nat.zero_le _) ⟨rfl, _, rfl, Or.inr ⟨rfl, fun p _ g => by
              obtain ⟨c', q, hc', _, hq, h0', g⟩ := g
              have ek : c' / 2 = k := (nI_eq (by omega) (by omega)).mp (h0'.symm.trans h0)
              rcases (show c' = 2 * k ∨ c' = 2 * k + 1 by omega) with e | e
              · subst e
                rw [mG_e, if_pos q48] at hq
                rw [show 2 * k / 2 = k by omega, show 2 * k % 2 = 0 by omega] at g
                exact nb q hq g
              · subst e
                rw [mG_o, if_neg (show ¬ lt k 1 = true by rw [q96]; decide)] at hq
                split at hq <;> omega⟩⟩
          · have q96 : lt k 1 = true := by
              cases e : lt k 1 with
              | true => rfl
              | false => exact absurd ((btR_z hb1 hk).mpr e) h96
            iterate 3 (refine zv_step (bX0_placeIn (3 * (f + 1) + 4)) rfl rfl trivial ?_)
            refine zv_V2 (bX0_placeIn (3 * (f + 1) + 4)) rfl rfl rfl rfl rfl rfl rfl ⟨rfl, rfl, rfl⟩ ⟨by show 0 + 1 ≤ 3 * (f + 1) + 4; omega, by show 8 + (3 + 11) + 64 * (0) ≤ 64 * (3 * (f + 1) + 4); omega⟩ ⟨Nat.zero_le _, Nat.zero_le _⟩ (hBr O P Y g hab (by omega)) ?_
            rintro _ _ ⟨rfl, ⟨hz, rfl⟩ | ⟨hz, rfl⟩⟩
            · have hz2 := (br_E hE hab hb).mp hz
              have hz3 := hz2.1
              iterate 1 (refine zv_step (bX0_placeIn (3 * (f + 1) + 4)) rfl rfl trivial ?_)
              refine zv_ift (by decide) ?_
              iterate 9 (refine zv_step (bX0_placeIn (3 * (f + 1) + 4)) rfl rfl trivial ?_)
              refine zv_V4 (bX0_placeIn (3 * (f + 1) + 4)) rfl rfl rfl rfl rfl rfl rfl ⟨rfl, rfl, rfl⟩ ⟨by show 3 * f + 6 + 1 ≤ 3 * (f + 1) + 4; omega, by show 8 + (6 + 11) + 64 * (3 * f + 6) ≤ 64 * (3 * (f + 1) + 4); omega⟩ ⟨Nat.zero_le _, Nat.zero_le _⟩ (hPBX hE hN0 hG hb0 hb1 hY hB hL hu hO1 hT hNR ih (a := a + 1) (b := b - 1) (by omega) (by omega) (by omega) hn hk h0 (nI_1 a) (sub_1 (by omega))) ?_
              rintro _ _ ⟨rfl, _, rfl, ⟨q, hq, rfl, gq⟩ | ⟨rfl, nk⟩⟩
              · have hq2 : q < (mG E G lt L a b) (2 * k + 1) := by rw [mG_o, if_pos hz2.2, if_pos q96]; exact hq
                iterate 5 (refine zv_step (bX0_placeIn (3 * (f + 1) + 4)) rfl rfl trivial ?_)
                refine zv_ift ((lg_cmp_ge _ _).mpr (by show lN 0 ≤ lN q; rw [lN_leJ (by decide) (show q < 2 ^ 62 by have := wi_62 (E := E) (G := G) hB hab hb (k := k) (a' := a + 1) (b' := b - 1) (by omega) (by omega) (by omega) hN0; omega)]; exact Nat.zero_le _)) ?_
                iterate 3 (refine zv_step (bX0_placeIn (3 * (f + 1) + 4)) rfl rfl trivial ?_)
                exact zv_lret (bX0_placeIn (3 * (f + 1) + 4)) rfl rfl (Nat.zero_le _) (Nat.zero_le _) ⟨rfl, _, rfl, Or.inl ⟨sW (mG E G lt L a b) (2 * k + 1) + q, (by rw [hL a b hab hb]; exact sW_lt (by omega) hq2), by show lN (sW (mG E G lt L a b) (2 * k)) + lN (wi E G L k a b) + lN q = _; rw [lN_add, lN_add, show sW (mG E G lt L a b) (2 * k + 1) = sW (mG E G lt L a b) (2 * k) + (if lt k 0 = true then wi E G L k a b else 0) by rw [← mG_e]; rfl, if_pos q48], 2 * k + 1, q, by omega, rfl, hq2, by rw [show (2 * k + 1) / 2 = k by omega]; exact h0, by rw [show (2 * k + 1) / 2 = k by omega, show (2 * k + 1) % 2 = 1 by omega]; exact gq⟩⟩
              · skip
                iterate 5 (refine zv_step (bX0_placeIn (3 * (f + 1) + 4)) rfl rfl trivial ?_)
                refine zv_iff (fun e => absurd ((lg_cmp_ge _ _).mp e) (by decide)) ?_
                iterate 2 (refine zv_step (bX0_placeIn (3 * (f + 1) + 4)) rfl rfl trivial ?_)
                exact zv_lret (bX0_placeIn (3 * (f + 1) + 4)) rfl rfl (Nat.zero_le _) (Nat.zero_le _) ⟨rfl, _, rfl, Or.inr ⟨rfl, fun p _ g => by
                  obtain ⟨c', q, hc', _, hq, h0', g⟩ := g
                  have ek : c' / 2 = k := (nI_eq (by omega) (by omega)).mp (h0'.symm.trans h0)
                  rcases (show c' = 2 * k ∨ c' = 2 * k + 1 by omega) with e | e
                  · subst e
                    rw [mG_e, if_pos q48] at hq
                    rw [show 2 * k / 2 = k by omega, show 2 * k % 2 = 0 by omega] at g
                    exact nb q hq g
                  · subst e
                    obtain ⟨hw9, _, _⟩ := mG_pos hq
                    rw [show (2 * k + 1) / 2 = k by omega, show (2 * k + 1) % 2 = 1 by omega] at hw9 g
                    exact nk q hw9 g⟩⟩
            · skip
              iterate 1 (refine zv_step (bX0_placeIn (3 * (f + 1) + 4)) rfl rfl trivial ?_)
              refine zv_iff (by decide) ?_
              iterate 1 (refine zv_step (bX0_placeIn (3 * (f + 1) + 4)) rfl rfl trivial ?_)
              exact zv_lret (bX0_placeIn (3 * (f + 1) + 4)) rfl rfl (Nat.zero_le _) (Nat.zero_le _) ⟨rfl, _, rfl, Or.inr ⟨rfl, fun p _ g => by
                obtain ⟨c', q, hc', _, hq, h0', g⟩ := g
                have ek : c' / 2 = k := (nI_eq (by omega) (by omega)).mp (h0'.symm.trans h0)
                rcases (show c' = 2 * k ∨ c' = 2 * k + 1 by omega) with e | e
                · subst e
                  rw [mG_e, if_pos q48] at hq
                  rw [show 2 * k / 2 = k by omega, show 2 * k % 2 = 0 by omega] at g
                  exact nb q hq g
                · subst e
                  obtain ⟨hw9, _, hbr9⟩ := mG_pos hq
                  have hab9 := (wi_pos hw9).1
                  rw [show (2 * k + 1) % 2 = 1 by omega] at hab9 hbr9
                  exact hz (by rw [br_E hE hab hb]; exact ⟨by omega, hbr9.resolve_left (by decide)⟩)⟩⟩
    · skip
      exact absurd ⟨by rw [nI_toInt (by omega)]; omega, by rw [hO1, nI_toInt (by omega), nI_toInt (by omega)]; omega⟩ hh
set_option maxHeartbeats 1000000 in
set_option maxRecDepth 20000 in
theorem hPlaceX {O : Nat → Int32} {P : Nat → Nat → Int32} {Y : Nat → Nat → Int64} {g : Nat → zC} {N : Nat} {E : Nat → Nat} (hE : eaR N P E) (hN0 : N ≤ 20) {G : Nat → Int32} (hG : gfR (O 12) G) {lt : Nat → Nat → Bool} (hb0 : btR (O 10) (fun k => lt k 0)) (hb1 : btR (O 11) (fun k => lt k 1)) {L : Nat → Nat → Nat} (hY : ∀ c d, c < d → d ≤ N → Y (34 + c) d = lN (L c d)) (hB : ∀ c d, c < d → d ≤ N → L c d ≤ 5 ^ (d - c - 1)) (hL : ∀ c d, c < d → d ≤ N → L c d = tS E G lt L c d) {u : Nat} (hu : u ≤ 120) (hO1 : O 1 = nI u) {A : Nat → Nat → Int32} (hT : tbI 0 u A) (hNR : NR u P A) (hO9 : O 9 = nI N) (h0N : 0 < N) {n : Nat} (hn : n < u) : zK 65 zX0_placeOf [.ref 31, .ref 1, .int (nI n)] (wX O P Y g) (fun r w' => w' = (wX O P Y g) ∧ ∃ v : Int64, r = some (.long v) ∧ ansR v (L (0) (N)) (fun p => Rg E (mG E G lt L) L A (20) (0) (N) p (n))) := by
  refine zK_of qX0_placeOf (by decide +kernel) rfl ?_
  iterate 6 (refine zv_step (bX0_placeOf 65) rfl rfl trivial ?_)
  refine zv_V4 (bX0_placeOf 65) rfl rfl rfl rfl rfl rfl rfl ⟨rfl, rfl, rfl⟩ ⟨by decide, by decide⟩ ⟨Nat.zero_le _, Nat.zero_le _⟩ (hPIX hE hN0 hG hb0 hb1 hY hB hL hu hO1 hT hNR 20 0 N n _ _ rfl hO9 h0N (Nat.le_refl _) (by omega) hn) ?_
  rintro _ _ ⟨rfl, v, rfl, gv⟩
  exact zv_lret (bX0_placeOf 65) rfl rfl (Nat.zero_le _) (Nat.zero_le _) ⟨rfl, v, rfl, gv⟩
set_option maxHeartbeats 1000000 in
set_option maxRecDepth 20000 in
theorem hPI0 {O : Nat → Int32} {P : Nat → Nat → Int32} {Y : Nat → Nat → Int64} {g : Nat → zC} (n : Int32) : zK 4 zX0_placeIn [.ref 31, .ref 1, .int n, .int (nI 0), .int (nI 0)] (wX O P Y g) (fun r w' => w' = (wX O P Y g) ∧ r = some (.long (Int64.ofInt (-1)))) := by
  refine zK_of qX0_placeIn (by decide +kernel) rfl ?_
  iterate 3 (refine zv_step (bX0_placeIn 4) rfl rfl trivial ?_)
  refine zv_ift (by decide) ?_
  iterate 1 (refine zv_step (bX0_placeIn 4) rfl rfl trivial ?_)
  exact zv_lret (bX0_placeIn 4) rfl rfl (Nat.zero_le _) (Nat.zero_le _) ⟨rfl, rfl⟩
set_option maxHeartbeats 1000000 in
set_option maxRecDepth 20000 in
theorem hPlace0 {O : Nat → Int32} {P : Nat → Nat → Int32} {Y : Nat → Nat → Int64} {g : Nat → zC} {u : Nat} (hO9 : O 9 = nI 0) (hu : u ≤ 120) (hO1 : O 1 = nI u) (n : Nat) : zK 65 zX0_placeOf [.ref 31, .ref 1, .int (nI n)] (wX O P Y g) (fun r w' => w' = (wX O P Y g) ∧ r = some (.long (Int64.ofInt (-1)))) := by
  refine zK_of qX0_placeOf (by decide +kernel) rfl ?_
  iterate 6 (refine zv_step (bX0_placeOf 65) rfl rfl trivial ?_)
  rw [hO9]
  refine zv_V4 (bX0_placeOf 65) rfl rfl rfl rfl rfl rfl rfl ⟨rfl, rfl, rfl⟩ ⟨by decide, by decide⟩ ⟨Nat.zero_le _, Nat.zero_le _⟩ (hPI0 (nI n)) ?_
  rintro _ _ ⟨rfl, rfl⟩
  exact zv_lret (bX0_placeOf 65) rfl rfl (Nat.zero_le _) (Nat.zero_le _) ⟨rfl, rfl⟩
set_option maxHeartbeats 1000000 in
set_option maxRecDepth 20000 in
theorem cPlaceX (O : Nat → Int32) (P : Nat → Nat → Int32) (Y : Nat → Nat → Int64) (g : Nat → zC) {u : Nat} (hu : u ≤ 120) (hO1 : O 1 = nI u) {N : Nat} {E : Nat → Nat} (hE : eaR N P E) (hO : O 9 = nI N) (hN0 : N ≤ 20) {G : Nat → Int32} (hG : gfR (O 0) G) {lt : Nat → Nat → Nat → Bool} (hy : ∀ s, s ≤ 8 → syR P s (lt s)) {A : Nat → Nat → Int32} (hT : tbI 0 u A) (hNR : NR u P A) (hf : fnR O A) (x y : Int32) : zK 66 zX6_place [.ref 0, .int x, .int y] (wX O P Y g) (fun r w' => ∃ (O' : Nat → Int32) (Y' : Nat → Nat → Int64) (R : Int64), r = some (.long R) ∧ w' = wX O' P Y' g ∧ (wyI Y → wyI Y') ∧ (∀ j, j ≠ 10 → j ≠ 11 → j ≠ 12 → O' j = O j) ∧ plR u x y (fun s n R => (¬ rtW A 40 (nI n) ∧ R = Int64.ofInt (-2)) ∨ ∃ Y1, okZ Y N E G (lt s) Y1 (N + 1) 0 ∧ ansP R (ctY N Y1) (fun p => Rg E (mG E G (lt s) (lY Y1)) (lY Y1) A 20 0 N p n)) R) := by
  refine zK_of qX6_place (by decide +kernel) rfl ?_
  iterate 1 (refine zv_step (bX6_place 66) rfl rfl trivial ?_)
  refine zv_S1 (bX6_place 66) rfl rfl rfl rfl ⟨rfl, rfl, rfl⟩ ⟨by decide, by decide⟩ ⟨Nat.zero_le _, Nat.zero_le _⟩ (hX6_isStyleOrFree _ _) ?_
  rintro _ _ ⟨rfl, ⟨g1, rfl⟩ | ⟨g1, rfl⟩⟩
  · obtain ⟨s, hs, rfl⟩ := in_nat (x := x) (b := 8) (by decide) g1
    iterate 1 (refine zv_step (bX6_place 66) rfl rfl trivial ?_)
    refine zv_iff (by decide) ?_
    iterate 3 (refine zv_step (bX6_place 66) rfl rfl trivial ?_)
    refine zv_V1 (bX6_place 66) rfl rfl rfl rfl rfl rfl rfl ⟨rfl, rfl, rfl⟩ ⟨by decide, by decide⟩ ⟨Nat.zero_le _, Nat.zero_le _⟩ (pHas1 O P Y g _) ?_
    rintro _ _ ⟨rfl, ⟨hh, rfl⟩ | ⟨hh, rfl⟩⟩
    · have hh1 : isN u y := by
        have h9 := hh
        rw [hO1, nI_toInt (by omega)] at h9
        exact h9
      obtain ⟨n, hn, rfl⟩ := has_j hu hO1 hh
      iterate 1 (refine zv_step (bX6_place 66) rfl rfl trivial ?_)
      refine zv_ift (by decide) ?_
      iterate 5 (refine zv_step (bX6_place 66) rfl rfl trivial ?_)
      refine zv_V2 (bX6_place 66) rfl rfl rfl rfl rfl rfl rfl ⟨rfl, rfl, rfl⟩ ⟨by decide, by decide⟩ ⟨Nat.zero_le _, Nat.zero_le _⟩ (pRight1 O P Y g _ (show vp_in (nI n) 120 from vp_in_nI (by omega) (by decide))) ?_
      rintro _ _ ⟨rfl, ⟨g3, rfl⟩ | ⟨g3, rfl⟩⟩
      · obtain ⟨m9, hm9, em9, hb9⟩ := hf
        have hr := rt_bits hu hT hNR hm9 hb9 40 (nI n) (pt_of hT (Nat.zero_le _) hn)
        rw [cvI_nI (by omega), pvI_nI _ (by omega), pvI_nI _ (by omega), ← em9] at hr
        rw [nI_clamp (show n < 2 ^ 31 by omega)] at g3
        iterate 1 (refine zv_step (bX6_place 66) rfl rfl trivial ?_)
        refine zv_ift (by decide) ?_
        iterate 2 (refine zv_step (bX6_place 66) rfl rfl trivial ?_)
        refine zv_V1 (bX6_place 66) rfl rfl rfl rfl rfl rfl rfl ⟨rfl, rfl, rfl⟩ ⟨by decide, by decide⟩ ⟨Nat.zero_le _, Nat.zero_le _⟩ (cTallyInX O P Y g hE hO hN0 hG hs (hy s hs)) ?_
        rintro _ _ ⟨a, b, Y1, rfl, rfl, hZ, hba, hbb⟩
        have hL : ∀ c d, c < d → d ≤ N → Y1 (34 + c) d = lN (lY Y1 c d) ∧ lY Y1 c d = tS E G (lt s) (lY Y1) c d ∧ lY Y1 c d ≤ 5 ^ (d - c - 1) := fun c d h1 h2 => hZ.1 c d h1 h2 (Or.inl (by omega))
        rcases Nat.eq_zero_or_pos N with h0N | h0N
        · skip
          iterate 6 (refine zv_step (bX6_place 66) rfl rfl trivial ?_)
          refine zv_V2 (bX6_place 66) rfl rfl rfl rfl rfl rfl rfl ⟨rfl, rfl, rfl⟩ ⟨by decide, by decide⟩ ⟨Nat.zero_le _, Nat.zero_le _⟩ (hPlace0 (O := (upd (upd (upd O 10 a) 11 b) 12 (O 0))) (P := P) (Y := Y1) (g := g) (by show O 9 = nI 0; rw [hO, h0N]) hu hO1 n) ?_
          rintro _ _ ⟨rfl, rfl⟩
          iterate 5 (refine zv_step (bX6_place 66) rfl rfl trivial ?_)
          refine zv_iff (fun e => absurd ((lg_cmp_ge _ _).mp e) (by decide)) ?_
          iterate 2 (refine zv_step (bX6_place 66) rfl rfl trivial ?_)
          exact zv_lret (bX6_place 66) rfl rfl (Nat.zero_le _) (Nat.zero_le _) ⟨(upd (upd (upd O 10 a) 11 b) 12 (O 0)), Y1, _, rfl, rfl, hZ.2, fun j a1 b1 c1 => by rw [upd_ne _ _ c1, upd_ne _ _ b1, upd_ne _ _ a1], Or.inr ⟨s, n, by omega, hn, rfl, rfl, Or.inr ⟨Y1, hZ, Or.inr ⟨rfl, fun p hp => absurd hp (by rw [show ctY N Y1 = 0 from if_pos h0N]; omega)⟩⟩⟩⟩
        · skip
          iterate 6 (refine zv_step (bX6_place 66) rfl rfl trivial ?_)
          refine zv_V2 (bX6_place 66) rfl rfl rfl rfl rfl rfl rfl ⟨rfl, rfl, rfl⟩ ⟨by decide, by decide⟩ ⟨Nat.zero_le _, Nat.zero_le _⟩ (hPlaceX (O := (upd (upd (upd O 10 a) 11 b) 12 (O 0))) hE hN0 hG hba hbb (fun c d h1 h2 => (hL c d h1 h2).1) (fun c d h1 h2 => (hL c d h1 h2).2.2) (fun c d h1 h2 => (hL c d h1 h2).2.1) hu hO1 hT hNR hO h0N hn) ?_
          rintro _ _ ⟨rfl, _, rfl, ⟨p, hp, rfl, rp⟩ | ⟨rfl, np⟩⟩
          · have ec : ctY N Y1 = lY Y1 0 N := if_neg (by omega)
            iterate 5 (refine zv_step (bX6_place 66) rfl rfl trivial ?_)
            refine zv_ift ((lg_cmp_ge _ _).mpr (by show lN 0 ≤ lN p; rw [lN_leJ (by decide) (show p < 2 ^ 62 by have := p62 (Nat.le_trans (hL 0 N h0N (Nat.le_refl _)).2.2 (pow5 (by omega))); omega)]; exact Nat.zero_le _)) ?_
            iterate 1 (refine zv_step (bX6_place 66) rfl rfl trivial ?_)
            exact zv_lret (bX6_place 66) rfl rfl (Nat.zero_le _) (Nat.zero_le _) ⟨(upd (upd (upd O 10 a) 11 b) 12 (O 0)), Y1, _, rfl, rfl, hZ.2, fun j a1 b1 c1 => by rw [upd_ne _ _ c1, upd_ne _ _ b1, upd_ne _ _ a1], Or.inr ⟨s, n, by omega, hn, rfl, rfl, Or.inr ⟨Y1, hZ, Or.inl ⟨p, by rw [ec]; exact hp, rfl, rp⟩⟩⟩⟩
          · have ec : ctY N Y1 = lY Y1 0 N := if_neg (by omega)
            iterate 5 (refine zv_step (bX6_place 66) rfl rfl trivial ?_)
            refine zv_iff (fun e => absurd ((lg_cmp_ge _ _).mp e) (by decide)) ?_
            iterate 2 (refine zv_step (bX6_place 66) rfl rfl trivial ?_)
            exact zv_lret (bX6_place 66) rfl rfl (Nat.zero_le _) (Nat.zero_le _) ⟨(upd (upd (upd O 10 a) 11 b) 12 (O 0)), Y1, _, rfl, rfl, hZ.2, fun j a1 b1 c1 => by rw [upd_ne _ _ c1, upd_ne _ _ b1, upd_ne _ _ a1], Or.inr ⟨s, n, by omega, hn, rfl, rfl, Or.inr ⟨Y1, hZ, Or.inr ⟨rfl, fun p hp => np p (by rw [← ec]; exact hp)⟩⟩⟩⟩
      · obtain ⟨m9, hm9, em9, hb9⟩ := hf
        have hr := rt_bits hu hT hNR hm9 hb9 40 (nI n) (pt_of hT (Nat.zero_le _) hn)
        rw [cvI_nI (by omega), pvI_nI _ (by omega), pvI_nI _ (by omega), ← em9] at hr
        rw [nI_clamp (show n < 2 ^ 31 by omega)] at g3
        iterate 1 (refine zv_step (bX6_place 66) rfl rfl trivial ?_)
        refine zv_iff (by decide) ?_
        iterate 1 (refine zv_step (bX6_place 66) rfl rfl trivial ?_)
        exact zv_lret (bX6_place 66) rfl rfl (Nat.zero_le _) (Nat.zero_le _) ⟨O, Y, _, rfl, rfl, fun h => h, fun _ _ _ _ => rfl, Or.inr ⟨s, n, by omega, hn, rfl, rfl, Or.inl ⟨fun w => g3 (hr.mpr w), rfl⟩⟩⟩
    · skip
      iterate 1 (refine zv_step (bX6_place 66) rfl rfl trivial ?_)
      refine zv_iff (by decide) ?_
      iterate 1 (refine zv_step (bX6_place 66) rfl rfl trivial ?_)
      exact zv_lret (bX6_place 66) rfl rfl (Nat.zero_le _) (Nat.zero_le _) ⟨O, Y, _, rfl, rfl, fun h => h, fun _ _ _ _ => rfl, Or.inl ⟨rfl, fun q => hh (by rw [hO1, nI_toInt (by omega)]; exact q.2)⟩⟩
  · skip
    iterate 1 (refine zv_step (bX6_place 66) rfl rfl trivial ?_)
    refine zv_ift (by decide) ?_
    iterate 1 (refine zv_step (bX6_place 66) rfl rfl trivial ?_)
    exact zv_lret (bX6_place 66) rfl rfl (Nat.zero_le _) (Nat.zero_le _) ⟨O, Y, _, rfl, rfl, fun h => h, fun _ _ _ _ => rfl, Or.inl ⟨rfl, fun q => g1 q.1⟩⟩
theorem pl_same {u h : Nat} (hu : u ≤ 120) (hh : h ≤ 20) {A : Nat → Nat → Int32} (hT : tbI 0 u A) {Y : Nat → Nat → Int64} {x y : Int32} {R R' : Int64} (g : plR u x y (fun s n R => (¬ rtW A 40 (nI n) ∧ R = Int64.ofInt (-2)) ∨ ∃ Y1, okZ Y h (eW A) (A 6) (ltW A s) Y1 (h + 1) 0 ∧ ansP R (ctY h Y1) (fun p => Rg (eW A) (mG (eW A) (A 6) (ltW A s) (lY Y1)) (lY Y1) A 20 0 h p n)) R) (g' : plR u x y (fun s n R => ∃ J1, okJ h A s J1 ∧ ansP R (ctW h J1) (fun p => RJ A s J1 40 0 h p n)) R') : R = R' := by
  rcases g with ⟨r, q⟩ | ⟨s, n, hs, hn, ex, ey, g⟩ <;> rcases g' with ⟨r', q'⟩ | ⟨s', n', hs', hn', ex', ey', g'⟩
  · rw [r, r']
  · exact absurd ⟨by rw [ex', nI_toInt (by omega)]; omega, by rw [ey']; exact isN_nI hu hn'⟩ q
  · exact absurd ⟨by rw [ex, nI_toInt (by omega)]; omega, by rw [ey]; exact isN_nI hu hn⟩ q'
  · have es : s = s' := (nI_eq (by omega) (by omega)).mp (ex.symm.trans ex')
    have en : n = n' := (nI_eq (by omega) (by omega)).mp (ey.symm.trans ey')
    subst es en
    obtain ⟨J1, hJ, g'⟩ := g'
    rcases g with ⟨nr, r⟩ | ⟨Y1, hZ, g⟩
    · rcases g' with ⟨p, _, _, rp⟩ | ⟨r', _⟩
      · exact absurd (Rg_rt (by omega) hT 40 0 h p n (Nat.zero_le _) hn rp) nr
      · rw [r, r']
    · have eL := L_same hh hZ hJ
      have ec := ct_same hh hZ hJ
      have fw : ∀ p, Rg (eW A) (mG (eW A) (A 6) (ltW A s) (lY Y1)) (lY Y1) A 20 0 h p n → RJ A s J1 40 0 h p n := fun p w => Rg_fu 20 0 h p n (Rg_cg eL 20 0 h p n (Nat.le_refl _) w) 40 (by omega)
      have bk : ∀ p, RJ A s J1 40 0 h p n → Rg (eW A) (mG (eW A) (A 6) (ltW A s) (lY Y1)) (lY Y1) A 20 0 h p n := fun p w => Rg_cg (fun a b h1 h2 => (eL a b h1 h2).symm) 20 0 h p n (Nat.le_refl _) (Rg_fu 40 0 h p n w 20 (by omega))
      rcases g with ⟨p, hp, e, r⟩ | ⟨e, no⟩ <;> rcases g' with ⟨p', hp', e', r'⟩ | ⟨e', no'⟩
      · rw [e, e', Rg_inj 40 0 h p p' n n 40 (by omega) (by omega) (fw p r) r' (alk_rf (by omega) hT 40 n (Nat.zero_le _) hn (rN_sz (hT n (Nat.zero_le _) hn)).2.1)]
      · exact absurd (fw p r) (no' p (by rw [← ec]; exact hp))
      · exact absurd (bk p' r') (no p' (by rw [ec]; exact hp'))
      · rw [e, e']
end
section
/-! rows of trees: one way to read them; where two of them are first unlike -/
def w1 (k : Nat) : Int := if k < 2 then 1 else if k ≤ 6 then -1 else 0
end
