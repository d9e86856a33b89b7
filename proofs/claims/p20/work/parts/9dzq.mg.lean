section
abbrev RJ (A : Nat → Nat → Int32) (s : Nat) (J : Nat → Nat → Int64) : Nat → Nat → Nat → Nat → Nat → Prop := Rg (eW A) (mG (eW A) (A 6) (ltW A s) (lW J)) (lW J) A
theorem J_tS {h : Nat} (hh : h ≤ 20) {A : Nat → Nat → Int32} {s : Nat} {J : Nat → Nat → Int64} (hJ : okJ h A s J) {i j : Nat} (h1 : i < j) (h2 : j ≤ h) : lW J i j ≤ 5 ^ (j - i - 1) ∧ lW J i j = tS (eW A) (A 6) (ltW A s) (lW J) i j :=
  L_le hh (fun i k q1 q2 => (okS_l (hJ i k q1 q2)).1) (j - i) i j h1 h2 (Nat.le_refl _)
theorem J_BD {h : Nat} (hh : h ≤ 20) {A : Nat → Nat → Int32} {s : Nat} {J : Nat → Nat → Int64} (hJ : okJ h A s J) {a b : Nat} (h2 : b ≤ h) : BD (lW J) a b := fun c d _ q2 q3 _ => (J_tS hh hJ q2 (by omega)).1
theorem mG_wi {E : Nat → Nat} {G : Nat → Int32} {lt : Nat → Nat → Bool} {L : Nat → Nat → Nat} {i j c : Nat} (h : 0 < mG E G lt L i j c) : mG E G lt L i j c = wi E G L (c / 2) (i + c % 2) (j - c % 2) := by
  unfold mG at h ⊢
  split
  · rfl
  · rename_i e
    rw [if_neg e] at h
    omega
theorem p62 {x : Nat} (h : x ≤ 5 ^ 19) : x < 2 ^ 62 := Nat.lt_of_le_of_lt h (by decide)
theorem J_62 {h : Nat} (hh : h ≤ 20) {A : Nat → Nat → Int32} {s : Nat} {J : Nat → Nat → Int64} (hJ : okJ h A s J) {i j : Nat} (h1 : i < j) (h2 : j ≤ h) : lW J i j < 2 ^ 62 := p62 (Nat.le_trans (J_tS hh hJ h1 h2).1 (pow5 (by omega)))
theorem lN_p {p : Nat} (h : p < 2 ^ 62) : ¬ lN p < Int64.ofInt 0 := fun e => by
  rw [show Int64.ofInt 0 = lN 0 from rfl, lN_ltJ h (by decide)] at e
  omega
theorem lN_0 {p : Nat} (h : p < 2 ^ 62) : lN p ≤ Int64.ofInt 0 ↔ p = 0 := by
  rw [show Int64.ofInt 0 = lN 0 from rfl, lN_leJ h (by decide)]
  omega
theorem pfS_no {E : Nat → Nat} {L : Nat → Nat → Nat} {k a b c : Nat} (h : ¬ E (a + 1 + c) = 18 + k) : pfS E L k a b (c + 1) = pfS E L k a b c := by
  show pfS E L k a b c + _ = _
  rw [if_neg h, Nat.add_zero]
theorem sW_lt {E : Nat → Nat} {G : Nat → Int32} {lt : Nat → Nat → Bool} {L : Nat → Nat → Nat} {i j c q : Nat} (hc : c < 20) (hq : q < mG E G lt L i j c) : sW (mG E G lt L i j) c + q < tS E G lt L i j := by
  rw [← sW_tS]
  have m1 := sW_mono (mG E G lt L i j) (c + 1) (20 - (c + 1))
  rw [show c + 1 + (20 - (c + 1)) = 20 by omega] at m1
  have h2 : sW (mG E G lt L i j) (c + 1) = sW (mG E G lt L i j) c + mG E G lt L i j c := rfl
  omega
set_option maxHeartbeats 1000000 in
set_option maxRecDepth 20000 in
theorem inn2X (f : Nat → zC) (o : Nat → Int32) (A : Nat → Nat → Int32) (J : Nat → Nat → Int64) {lo hi : Nat} (hh0 : hi ≤ 450) (hT : tbI lo hi A) {h : Nat} (hh : h ≤ 20) (hw : nnW h (A 8)) {s : Nat} (hJ : okJ h A s J) {z : Nat} (ih : ∀ (n i j : Nat) (y z' : Int32), y = nI i → z' = nI j → lo ≤ n → n < hi → szN A n ≤ z → i < j → j ≤ h → zK (3 * z + 3) zX7_rank [.ref 76, .int (nI n), .int y, .int z'] (wR f o A J) (fun r w' => w' = (wR f o A J) ∧ ∃ v : Int64, r = some (.long v) ∧ ansR v (lW J (i) (j)) (fun p => RJ A s J (z) (i) (j) p (n)))) {n a b : Nat} (hlo : lo ≤ n) (hn : n < hi) (hz : szN A n ≤ z + 1) (hab : a < b) (hb : b ≤ h) {k x y : Nat} (k2 : 2 ≤ k) (k6 : k ≤ 6) (h0 : A 0 n = nI k) (h2 : A 2 n = nI x) (h3 : A 3 n = nI y) (lx : lo ≤ x) (hx : x < n) (ly : lo ≤ y) (hy : y < n) (hsx : szN A x ≤ z) (hsy : szN A y ≤ z) {n0 : Nat} : ∀ (w d : Nat), b - 1 - (a + 1 + d) = w → a + 1 + d ≤ b → (∀ c, c < d → ¬ cutO (eW A) (lW J) (RJ A s J z) k a b x y c) → ∀ {x6 : Int32}, x6 = nI (a + 1 + d) → zV (zMo (3 * z + 4) zX7_innerTwo) false n0 0 0 8 [(6, .int x6), (4, .long (lN (pfS (eW A) (lW J) k a b d))), (0, .ref 76), (1, .int (nI n)), (2, .int (nI a)), (3, .int (nI b))] [] (wR f o A J) (fun r w' => w' = (wR f o A J) ∧ ∃ v : Int64, r = some (.long v) ∧ ansR v (wi (eW A) (A 6) (lW J) (k) (a) (b)) (fun q => Gk (eW A) (lW J) A (RJ A s J z) (k) (a) (b) q (n))) := by
  intro w
  induction w with
  | zero =>
    intro d hm hdb hno x6 e6
    subst e6
    by_cases hd : b ≤ a + 1 + d + 1
    · iterate 5 (refine zv_step (bX7_innerTwo (3 * z + 4)) rfl rfl trivial ?_)
      refine zv_ift (show nI b - Int32.ofInt 1 ≤ nI (a + 1 + d) by rw [sub_1 (by omega)]; exact nI_le (by omega) (by omega)) ?_
      iterate 1 (refine zv_step (bX7_innerTwo (3 * z + 4)) rfl rfl trivial ?_)
      exact zv_lret (bX7_innerTwo (3 * z + 4)) rfl rfl (Nat.zero_le _) (Nat.zero_le _) ⟨rfl, _, rfl, Or.inr ⟨rfl, fun q _ => G2_no (by omega) k2 k6 hx hy h2 h3 (fun c g => hno c (by have := g.1; omega) g) q⟩⟩
    · omega
  | succ w ih2 =>
    intro d hm hdb hno x6 e6
    subst e6
    iterate 5 (refine zv_step (bX7_innerTwo (3 * z + 4)) rfl rfl trivial ?_)
    refine zv_iff (show ¬ nI b - Int32.ofInt 1 ≤ nI (a + 1 + d) by rw [sub_1 (by omega)]; exact fun h => absurd ((nI_leI (by omega) (by omega)).mp h) (by omega)) ?_
    iterate 3 (refine zv_step (bX7_innerTwo (3 * z + 4)) rfl rfl trivial ?_)
    refine zv_iale (bX7_innerTwo (3 * z + 4)) rfl rfl (vp_in_nI (by omega) (by decide)) (show A 8 (nI (a + 1 + d)).toNatClampNeg = nI (eW A (a + 1 + d)) by rw [nI_clamp (by omega)]; exact (eW_of hw (by omega)).1) ?_
    iterate 4 (refine zv_step (bX7_innerTwo (3 * z + 4)) rfl rfl trivial ?_)
    refine zv_iale (bX7_innerTwo (3 * z + 4)) rfl rfl (vp_in_nI (by omega) (by decide)) (show A 0 (nI n).toNatClampNeg = nI k by rw [nI_clamp (by omega)]; exact h0) ?_
    iterate 2 (refine zv_step (bX7_innerTwo (3 * z + 4)) rfl rfl trivial ?_)
    refine zv_ifb (fun h32 => ?_) (fun h32 => ?_)
    · have q32 : ¬ eW A (a + 1 + d) = 18 + k := fun e => h32 (show nI (eW A (a + 1 + d)) = nI 18 + nI k by rw [nI_add, e])
      iterate 2 (refine zv_step (bX7_innerTwo (3 * z + 4)) rfl rfl trivial ?_)
      have hno2 : ∀ c, c < d + 1 → ¬ cutO (eW A) (lW J) (RJ A s J z) k a b x y c := fun c hc g => by
        by_cases e : c = d
        · subst e
          exact q32 g.2.1
        · exact hno c (by omega) g
      rw [← pfS_no (L := lW J) (b := b) q32]
      refine zv_locals (l := [(6, .int (nI (a + 1 + d) + Int32.ofInt 1)), (4, .long (lN (pfS (eW A) (lW J) k a b (d + 1)))), (0, .ref 76), (1, .int (nI n)), (2, .int (nI a)), (3, .int (nI b))]) (l' := [(6, .int (nI (a + 1 + d) + Int32.ofInt 1)), (4, .long (lN (pfS (eW A) (lW J) k a b (d + 1)))), (0, .ref 76), (1, .int (nI n)), (2, .int (nI a)), (3, .int (nI b))]) (fun q h => h) (ih2 (d + 1) (by omega) (by omega) hno2 (show nI (a + 1 + d) + Int32.ofInt 1 = nI (a + 1 + (d + 1)) from nI_1 _))
    · have q32 : eW A (a + 1 + d) = 18 + k := by
        have h9 : nI (eW A (a + 1 + d)) = nI 18 + nI k := Decidable.not_not.mp h32
        rwa [nI_add, nI_eq (by have := (eW_of hw (show a + 1 + d < h by omega)).2; omega) (by omega)] at h9
      have l1 := J_62 hh hJ (i := a) (j := a + 1 + d) (by omega) (by omega)
      have l2 := J_62 hh hJ (i := a + 1 + d + 1) (j := b) (by omega) (by omega)
      iterate 9 (refine zv_step (bX7_innerTwo (3 * z + 4)) rfl rfl trivial ?_)
      refine zv_lale (bX7_innerTwo (3 * z + 4)) rfl rfl (show vp_in (c8 21 * (nI (a + 1 + d) + Int32.ofInt 1) + nI b) 441 by rw [show nI (a + 1 + d) + Int32.ofInt 1 = nI (a + 1 + d + 1) from nI_1 _, ix21]; exact vp_in_nI (by omega) (by decide)) (show J 1 (c8 21 * (nI (a + 1 + d) + Int32.ofInt 1) + nI b).toNatClampNeg = lN (lW J (a + 1 + d + 1) (b)) by rw [show nI (a + 1 + d) + Int32.ofInt 1 = nI (a + 1 + d + 1) from nI_1 _, ix21, nI_clamp (by omega)]; exact (okS_l (hJ (a + 1 + d + 1) (b) (by omega) (by omega))).2.2) ?_
      iterate 5 (refine zv_step (bX7_innerTwo (3 * z + 4)) rfl rfl trivial ?_)
      refine zv_ifb (fun h55 => ?_) (fun h55 => ?_)
      · have q55 : lW J (a + 1 + d + 1) b = 0 := (lN_0 l2).mp ((lg_cmp_le _ _).mp h55)
        iterate 6 (refine zv_step (bX7_innerTwo (3 * z + 4)) rfl rfl trivial ?_)
        refine zv_ift ((lg_cmp_lt _ _).mpr (by decide)) ?_
        iterate 6 (refine zv_step (bX7_innerTwo (3 * z + 4)) rfl rfl trivial ?_)
        refine zv_ift ((lg_cmp_lt _ _).mpr (by decide)) ?_
        iterate 8 (refine zv_step (bX7_innerTwo (3 * z + 4)) rfl rfl trivial ?_)
        refine zv_lale (bX7_innerTwo (3 * z + 4)) rfl rfl (show vp_in (c8 21 * nI a + nI (a + 1 + d)) 441 by rw [ix21]; exact vp_in_nI (by omega) (by decide)) (show J 1 (c8 21 * nI a + nI (a + 1 + d)).toNatClampNeg = lN (lW J (a) (a + 1 + d)) by rw [ix21, nI_clamp (by omega)]; exact (okS_l (hJ (a) (a + 1 + d) (by omega) (by omega))).2.2) ?_
        iterate 1 (refine zv_step (bX7_innerTwo (3 * z + 4)) rfl rfl trivial ?_)
        refine zv_S2 (bX7_innerTwo (3 * z + 4)) rfl rfl rfl rfl ⟨rfl, rfl, rfl⟩ ⟨by show 0 + 1 ≤ 3 * z + 4; omega, by show 8 + (4 + 11) + 64 * (0) ≤ 64 * (3 * z + 4); omega⟩ ⟨Nat.zero_le _, Nat.zero_le _⟩ (mMul _ (okS_l (hJ a (a + 1 + d) (by omega) (by omega))).2.1 (okS_l (hJ (a + 1 + d + 1) b (by omega) (by omega))).2.1) ?_
        rintro _ _ ⟨rfl, rfl⟩
        iterate 4 (refine zv_step (bX7_innerTwo (3 * z + 4)) rfl rfl trivial ?_)
        have hno2 : ∀ c, c < d + 1 → ¬ cutO (eW A) (lW J) (RJ A s J z) k a b x y c := fun c hc g => by
          by_cases e : c = d
          · subst e
            obtain ⟨_, _, p9, q9, _, hq9, _⟩ := g
            omega
          · exact hno c (by omega) g
        have e9 : (lN (pfS (eW A) (lW J) k a b d) + lN (tmW (lW J a (a + 1 + d)) (lW J (a + 1 + d + 1) b))) = (lN (pfS (eW A) (lW J) k a b (d + 1))) := by rw [lN_add, pfS_at q32]
        refine zv_locals (l := [(6, .int (nI (a + 1 + d) + Int32.ofInt 1)), (4, .long (lN (pfS (eW A) (lW J) k a b d) + lN (tmW (lW J a (a + 1 + d)) (lW J (a + 1 + d + 1) b)))), (11, .long (Int64.ofInt (-1))), (9, .long (Int64.ofInt (-1))), (7, .long (lN (lW J (a + 1 + d + 1) b))), (0, .ref 76), (1, .int (nI n)), (2, .int (nI a)), (3, .int (nI b))]) (l' := [(6, .int (nI (a + 1 + d) + Int32.ofInt 1)), (4, .long (lN (pfS (eW A) (lW J) k a b (d + 1)))), (0, .ref 76), (1, .int (nI n)), (2, .int (nI a)), (3, .int (nI b))]) ?_ (ih2 (d + 1) (by omega) (by omega) hno2 (show nI (a + 1 + d) + Int32.ofInt 1 = nI (a + 1 + (d + 1)) from nI_1 _))
        rw [e9]
        simp
      · have q55 : ¬ lW J (a + 1 + d + 1) b = 0 := fun e => h55 ((lg_cmp_le _ _).mpr ((lN_0 l2).mpr e))
        iterate 7 (refine zv_step (bX7_innerTwo (3 * z + 4)) rfl rfl trivial ?_)
        refine zv_lale (bX7_innerTwo (3 * z + 4)) rfl rfl (show vp_in (c8 21 * nI a + nI (a + 1 + d)) 441 by rw [ix21]; exact vp_in_nI (by omega) (by decide)) (show J 1 (c8 21 * nI a + nI (a + 1 + d)).toNatClampNeg = lN (lW J (a) (a + 1 + d)) by rw [ix21, nI_clamp (by omega)]; exact (okS_l (hJ (a) (a + 1 + d) (by omega) (by omega))).2.2) ?_
        iterate 3 (refine zv_step (bX7_innerTwo (3 * z + 4)) rfl rfl trivial ?_)
        refine zv_ifb (fun h72 => ?_) (fun h72 => ?_)
        · have q72 : lW J a (a + 1 + d) = 0 := (lN_0 l1).mp ((lg_cmp_le _ _).mp h72)
          iterate 6 (refine zv_step (bX7_innerTwo (3 * z + 4)) rfl rfl trivial ?_)
          refine zv_ift ((lg_cmp_lt _ _).mpr (by decide)) ?_
          iterate 6 (refine zv_step (bX7_innerTwo (3 * z + 4)) rfl rfl trivial ?_)
          refine zv_ift ((lg_cmp_lt _ _).mpr (by decide)) ?_
          iterate 8 (refine zv_step (bX7_innerTwo (3 * z + 4)) rfl rfl trivial ?_)
          refine zv_lale (bX7_innerTwo (3 * z + 4)) rfl rfl (show vp_in (c8 21 * nI a + nI (a + 1 + d)) 441 by rw [ix21]; exact vp_in_nI (by omega) (by decide)) (show J 1 (c8 21 * nI a + nI (a + 1 + d)).toNatClampNeg = lN (lW J (a) (a + 1 + d)) by rw [ix21, nI_clamp (by omega)]; exact (okS_l (hJ (a) (a + 1 + d) (by omega) (by omega))).2.2) ?_
          iterate 1 (refine zv_step (bX7_innerTwo (3 * z + 4)) rfl rfl trivial ?_)
          refine zv_S2 (bX7_innerTwo (3 * z + 4)) rfl rfl rfl rfl ⟨rfl, rfl, rfl⟩ ⟨by show 0 + 1 ≤ 3 * z + 4; omega, by show 8 + (4 + 11) + 64 * (0) ≤ 64 * (3 * z + 4); omega⟩ ⟨Nat.zero_le _, Nat.zero_le _⟩ (mMul _ (okS_l (hJ a (a + 1 + d) (by omega) (by omega))).2.1 (okS_l (hJ (a + 1 + d + 1) b (by omega) (by omega))).2.1) ?_
          rintro _ _ ⟨rfl, rfl⟩
          iterate 4 (refine zv_step (bX7_innerTwo (3 * z + 4)) rfl rfl trivial ?_)
          have hno2 : ∀ c, c < d + 1 → ¬ cutO (eW A) (lW J) (RJ A s J z) k a b x y c := fun c hc g => by
            by_cases e : c = d
            · subst e
              obtain ⟨_, _, p9, q9, hp9, _⟩ := g
              omega
            · exact hno c (by omega) g
          have e9 : (lN (pfS (eW A) (lW J) k a b d) + lN (tmW (lW J a (a + 1 + d)) (lW J (a + 1 + d + 1) b))) = (lN (pfS (eW A) (lW J) k a b (d + 1))) := by rw [lN_add, pfS_at q32]
          refine zv_locals (l := [(6, .int (nI (a + 1 + d) + Int32.ofInt 1)), (4, .long (lN (pfS (eW A) (lW J) k a b d) + lN (tmW (lW J a (a + 1 + d)) (lW J (a + 1 + d + 1) b)))), (11, .long (Int64.ofInt (-1))), (9, .long (Int64.ofInt (-1))), (7, .long (lN (lW J (a + 1 + d + 1) b))), (0, .ref 76), (1, .int (nI n)), (2, .int (nI a)), (3, .int (nI b))]) (l' := [(6, .int (nI (a + 1 + d) + Int32.ofInt 1)), (4, .long (lN (pfS (eW A) (lW J) k a b (d + 1)))), (0, .ref 76), (1, .int (nI n)), (2, .int (nI a)), (3, .int (nI b))]) ?_ (ih2 (d + 1) (by omega) (by omega) hno2 (show nI (a + 1 + d) + Int32.ofInt 1 = nI (a + 1 + (d + 1)) from nI_1 _))
          rw [e9]
          simp
        · have q72 : ¬ lW J a (a + 1 + d) = 0 := fun e => h72 ((lg_cmp_le _ _).mpr ((lN_0 l1).mpr e))
          iterate 4 (refine zv_step (bX7_innerTwo (3 * z + 4)) rfl rfl trivial ?_)
          refine zv_iale (bX7_innerTwo (3 * z + 4)) rfl rfl (vp_in_nI (by omega) (by decide)) (show A 2 (nI n).toNatClampNeg = nI x by rw [nI_clamp (by omega)]; exact h2) ?_
          iterate 2 (refine zv_step (bX7_innerTwo (3 * z + 4)) rfl rfl trivial ?_)
          refine zv_V3 (bX7_innerTwo (3 * z + 4)) rfl rfl rfl rfl rfl rfl rfl ⟨rfl, rfl, rfl⟩ ⟨by show 3 * z + 3 + 1 ≤ 3 * z + 4; omega, by show 8 + (8 + 11) + 64 * (3 * z + 3) ≤ 64 * (3 * z + 4); omega⟩ ⟨Nat.zero_le _, Nat.zero_le _⟩ (ih x a (a + 1 + d) _ _ rfl rfl lx (by omega) hsx (by omega) (by omega)) ?_
          rintro _ _ ⟨rfl, _, rfl, ⟨p, hp, rfl, rp⟩ | ⟨rfl, nx⟩⟩
          · skip
            iterate 6 (refine zv_step (bX7_innerTwo (3 * z + 4)) rfl rfl trivial ?_)
            refine zv_iff (fun e => lN_p (show p < 2 ^ 62 by omega) ((lg_cmp_lt _ _).mp e)) ?_
            iterate 4 (refine zv_step (bX7_innerTwo (3 * z + 4)) rfl rfl trivial ?_)
            refine zv_iale (bX7_innerTwo (3 * z + 4)) rfl rfl (vp_in_nI (by omega) (by decide)) (show A 3 (nI n).toNatClampNeg = nI y by rw [nI_clamp (by omega)]; exact h3) ?_
            iterate 4 (refine zv_step (bX7_innerTwo (3 * z + 4)) rfl rfl trivial ?_)
            refine zv_V3 (bX7_innerTwo (3 * z + 4)) rfl rfl rfl rfl rfl rfl rfl ⟨rfl, rfl, rfl⟩ ⟨by show 3 * z + 3 + 1 ≤ 3 * z + 4; omega, by show 8 + (8 + 11) + 64 * (3 * z + 3) ≤ 64 * (3 * z + 4); omega⟩ ⟨Nat.zero_le _, Nat.zero_le _⟩ (ih y (a + 1 + d + 1) b _ _ (nI_1 _) rfl ly (by omega) hsy (by omega) (by omega)) ?_
            rintro _ _ ⟨rfl, _, rfl, ⟨q, hq, rfl, rq⟩ | ⟨rfl, ny⟩⟩
            · skip
              iterate 6 (refine zv_step (bX7_innerTwo (3 * z + 4)) rfl rfl trivial ?_)
              refine zv_iff (fun e => lN_p (show q < 2 ^ 62 by omega) ((lg_cmp_lt _ _).mp e)) ?_
              iterate 7 (refine zv_step (bX7_innerTwo (3 * z + 4)) rfl rfl trivial ?_)
              exact zv_lret (bX7_innerTwo (3 * z + 4)) rfl rfl (Nat.zero_le _) (Nat.zero_le _) ⟨rfl, _, rfl, Or.inl ⟨_, (G2_of (A := A) (n := n) (G := A 6) (J_BD hh hJ hb) (by omega) k2 k6 (by omega) q32 hp hq hx hy h2 h3 rp rq).1, by show lN (pfS (eW A) (lW J) k a b d) + lN p * lN (lW J (a + 1 + d + 1) b) + lN q = _; rw [lN_mul, lN_add, lN_add, Nat.add_assoc], (G2_of (A := A) (n := n) (G := A 6) (J_BD hh hJ hb) (by omega) k2 k6 (by omega) q32 hp hq hx hy h2 h3 rp rq).2⟩⟩
            · skip
              iterate 6 (refine zv_step (bX7_innerTwo (3 * z + 4)) rfl rfl trivial ?_)
              refine zv_ift ((lg_cmp_lt _ _).mpr (by decide)) ?_
              iterate 8 (refine zv_step (bX7_innerTwo (3 * z + 4)) rfl rfl trivial ?_)
              refine zv_lale (bX7_innerTwo (3 * z + 4)) rfl rfl (show vp_in (c8 21 * nI a + nI (a + 1 + d)) 441 by rw [ix21]; exact vp_in_nI (by omega) (by decide)) (show J 1 (c8 21 * nI a + nI (a + 1 + d)).toNatClampNeg = lN (lW J (a) (a + 1 + d)) by rw [ix21, nI_clamp (by omega)]; exact (okS_l (hJ (a) (a + 1 + d) (by omega) (by omega))).2.2) ?_
              iterate 1 (refine zv_step (bX7_innerTwo (3 * z + 4)) rfl rfl trivial ?_)
              refine zv_S2 (bX7_innerTwo (3 * z + 4)) rfl rfl rfl rfl ⟨rfl, rfl, rfl⟩ ⟨by show 0 + 1 ≤ 3 * z + 4; omega, by show 8 + (4 + 11) + 64 * (0) ≤ 64 * (3 * z + 4); omega⟩ ⟨Nat.zero_le _, Nat.zero_le _⟩ (mMul _ (okS_l (hJ a (a + 1 + d) (by omega) (by omega))).2.1 (okS_l (hJ (a + 1 + d + 1) b (by omega) (by omega))).2.1) ?_
              rintro _ _ ⟨rfl, rfl⟩
              iterate 4 (refine zv_step (bX7_innerTwo (3 * z + 4)) rfl rfl trivial ?_)
              have hno2 : ∀ c, c < d + 1 → ¬ cutO (eW A) (lW J) (RJ A s J z) k a b x y c := fun c hc g => by
                by_cases e : c = d
                · subst e
                  obtain ⟨_, _, p9, q9, _, hq9, _, ry9⟩ := g
                  exact ny q9 hq9 ry9
                · exact hno c (by omega) g
              have e9 : (lN (pfS (eW A) (lW J) k a b d) + lN (tmW (lW J a (a + 1 + d)) (lW J (a + 1 + d + 1) b))) = (lN (pfS (eW A) (lW J) k a b (d + 1))) := by rw [lN_add, pfS_at q32]
              refine zv_locals (l := [(6, .int (nI (a + 1 + d) + Int32.ofInt 1)), (4, .long (lN (pfS (eW A) (lW J) k a b d) + lN (tmW (lW J a (a + 1 + d)) (lW J (a + 1 + d + 1) b)))), (11, .long (Int64.ofInt (-1))), (9, .long (lN p)), (7, .long (lN (lW J (a + 1 + d + 1) b))), (0, .ref 76), (1, .int (nI n)), (2, .int (nI a)), (3, .int (nI b))]) (l' := [(6, .int (nI (a + 1 + d) + Int32.ofInt 1)), (4, .long (lN (pfS (eW A) (lW J) k a b (d + 1)))), (0, .ref 76), (1, .int (nI n)), (2, .int (nI a)), (3, .int (nI b))]) ?_ (ih2 (d + 1) (by omega) (by omega) hno2 (show nI (a + 1 + d) + Int32.ofInt 1 = nI (a + 1 + (d + 1)) from nI_1 _))
              rw [e9]
              simp
          · skip
            iterate 6 (refine zv_step (bX7_innerTwo (3 * z + 4)) rfl rfl trivial ?_)
            refine zv_ift ((lg_cmp_lt _ _).mpr (by decide)) ?_
            iterate 6 (refine zv_step (bX7_innerTwo (3 * z + 4)) rfl rfl trivial ?_)
            refine zv_ift ((lg_cmp_lt _ _).mpr (by decide)) ?_
            iterate 8 (refine zv_step (bX7_innerTwo (3 * z + 4)) rfl rfl trivial ?_)
            refine zv_lale (bX7_innerTwo (3 * z + 4)) rfl rfl (show vp_in (c8 21 * nI a + nI (a + 1 + d)) 441 by rw [ix21]; exact vp_in_nI (by omega) (by decide)) (show J 1 (c8 21 * nI a + nI (a + 1 + d)).toNatClampNeg = lN (lW J (a) (a + 1 + d)) by rw [ix21, nI_clamp (by omega)]; exact (okS_l (hJ (a) (a + 1 + d) (by omega) (by omega))).2.2) ?_
            iterate 1 (refine zv_step (bX7_innerTwo (3 * z + 4)) rfl rfl trivial ?_)
            refine zv_S2 (bX7_innerTwo (3 * z + 4)) rfl rfl rfl rfl ⟨rfl, rfl, rfl⟩ ⟨by show 0 + 1 ≤ 3 * z + 4; omega, by show 8 + (4 + 11) + 64 * (0) ≤ 64 * (3 * z + 4); omega⟩ ⟨Nat.zero_le _, Nat.zero_le _⟩ (mMul _ (okS_l (hJ a (a + 1 + d) (by omega) (by omega))).2.1 (okS_l (hJ (a + 1 + d + 1) b (by omega) (by omega))).2.1) ?_
            rintro _ _ ⟨rfl, rfl⟩
            iterate 4 (refine zv_step (bX7_innerTwo (3 * z + 4)) rfl rfl trivial ?_)
            have hno2 : ∀ c, c < d + 1 → ¬ cutO (eW A) (lW J) (RJ A s J z) k a b x y c := fun c hc g => by
              by_cases e : c = d
              · subst e
                obtain ⟨_, _, p9, q9, hp9, _, rx9, _⟩ := g
                exact nx p9 hp9 rx9
              · exact hno c (by omega) g
            have e9 : (lN (pfS (eW A) (lW J) k a b d) + lN (tmW (lW J a (a + 1 + d)) (lW J (a + 1 + d + 1) b))) = (lN (pfS (eW A) (lW J) k a b (d + 1))) := by rw [lN_add, pfS_at q32]
            refine zv_locals (l := [(6, .int (nI (a + 1 + d) + Int32.ofInt 1)), (4, .long (lN (pfS (eW A) (lW J) k a b d) + lN (tmW (lW J a (a + 1 + d)) (lW J (a + 1 + d + 1) b)))), (11, .long (Int64.ofInt (-1))), (9, .long (Int64.ofInt (-1))), (7, .long (lN (lW J (a + 1 + d + 1) b))), (0, .ref 76), (1, .int (nI n)), (2, .int (nI a)), (3, .int (nI b))]) (l' := [(6, .int (nI (a + 1 + d) + Int32.ofInt 1)), (4, .long (lN (pfS (eW A) (lW J) k a b (d + 1)))), (0, .ref 76), (1, .int (nI n)), (2, .int (nI a)), (3, .int (nI b))]) ?_ (ih2 (d + 1) (by omega) (by omega) hno2 (show nI (a + 1 + d) + Int32.ofInt 1 = nI (a + 1 + (d + 1)) from nI_1 _))
            rw [e9]
            simp
set_option maxHeartbeats 1000000 in
set_option maxRecDepth 20000 in
theorem mInn2X (f : Nat → zC) (o : Nat → Int32) (A : Nat → Nat → Int32) (J : Nat → Nat → Int64) {lo hi : Nat} (hh0 : hi ≤ 450) (hT : tbI lo hi A) {h : Nat} (hh : h ≤ 20) (hw : nnW h (A 8)) {s : Nat} (hJ : okJ h A s J) {z : Nat} (ih : ∀ (n i j : Nat) (y z' : Int32), y = nI i → z' = nI j → lo ≤ n → n < hi → szN A n ≤ z → i < j → j ≤ h → zK (3 * z + 3) zX7_rank [.ref 76, .int (nI n), .int y, .int z'] (wR f o A J) (fun r w' => w' = (wR f o A J) ∧ ∃ v : Int64, r = some (.long v) ∧ ansR v (lW J (i) (j)) (fun p => RJ A s J (z) (i) (j) p (n)))) {n a b : Nat} (hlo : lo ≤ n) (hn : n < hi) (hz : szN A n ≤ z + 1) (hab : a < b) (hb : b ≤ h) {k x y : Nat} (k2 : 2 ≤ k) (k6 : k ≤ 6) (h0 : A 0 n = nI k) (h2 : A 2 n = nI x) (h3 : A 3 n = nI y) (lx : lo ≤ x) (hx : x < n) (ly : lo ≤ y) (hy : y < n) (hsx : szN A x ≤ z) (hsy : szN A y ≤ z) : zK (3 * z + 4) zX7_innerTwo [.ref 76, .int (nI n), .int (nI a), .int (nI b)] (wR f o A J) (fun r w' => w' = (wR f o A J) ∧ ∃ v : Int64, r = some (.long v) ∧ ansR v (wi (eW A) (A 6) (lW J) (k) (a) (b)) (fun q => Gk (eW A) (lW J) A (RJ A s J z) (k) (a) (b) q (n))) := by
  refine zK_of qX7_innerTwo (by decide +kernel) rfl ?_
  iterate 6 (refine zv_step (bX7_innerTwo (3 * z + 4)) rfl rfl trivial ?_)
  refine zv_locals (l := [(6, .int (nI a + Int32.ofInt 1)), (4, .long (lN 0)), (0, .ref 76), (1, .int (nI n)), (2, .int (nI a)), (3, .int (nI b))]) (l' := [(6, .int (nI a + Int32.ofInt 1)), (4, .long (lN 0)), (0, .ref 76), (1, .int (nI n)), (2, .int (nI a)), (3, .int (nI b))]) (fun q h => h) (inn2X f o A J hh0 hT hh hw hJ ih hlo hn hz hab hb k2 k6 h0 h2 h3 lx hx ly hy hsx hsy (b - 1 - (a + 1)) 0 rfl (by omega) (fun c hc => absurd hc (Nat.not_lt_zero _)) (nI_1 a))
set_option maxHeartbeats 1000000 in
set_option maxRecDepth 20000 in
theorem innNX (f : Nat → zC) (o : Nat → Int32) (A : Nat → Nat → Int32) (J : Nat → Nat → Int64) {s n a b h z : Nat} (hn : n < 450) (hh : h ≤ 20) (hw : nnW h (A 8)) (hab : a < b) (hb : b ≤ h) (h2 : A 2 n = m2) (h3 : A 3 n = m2) (hpos : 0 < wi (eW A) (A 6) (lW J) 1 a b) (hnum : isNumB (eW A) a b = true) (hd : ∀ x, a ≤ x → x < b → 10 ≤ eW A x ∧ eW A x ≤ 19) {n0 : Nat} : ∀ (w m t : Nat), m + w = b → a ≤ m → nvN (eW A) w m t = nvN (eW A) (b - a) a 0 → ∀ {x5 : Int32}, x5 = nI m → zV (zMo (3 * z + 5) zX7_inner) false n0 0 0 36 [(5, .int x5), (4, .int (nI t)), (0, .ref 76), (1, .int (nI n)), (2, .int (nI a)), (3, .int (nI b))] [] (wR f o A J) (fun r w' => w' = (wR f o A J) ∧ ∃ v : Int64, r = some (.long v) ∧ ansR v (wi (eW A) (A 6) (lW J) (1) (a) (b)) (fun q => Gk (eW A) (lW J) A (RJ A s J z) (1) (a) (b) q (n))) := by
  intro w
  induction w with
  | zero =>
    intro m t hm hma et x5 e5
    subst e5
    replace et : nI t = nI (nvN (eW A) (b - a) a 0) := by rw [← et]; rfl
    iterate 3 (refine zv_step (bX7_inner (3 * z + 5)) rfl rfl trivial ?_)
    refine zv_ift (nI_le (by omega) (by omega)) ?_
    iterate 4 (refine zv_step (bX7_inner (3 * z + 5)) rfl rfl trivial ?_)
    refine zv_iale (bX7_inner (3 * z + 5)) rfl rfl (vp_in_nI (by omega) (by decide)) (show A 1 (nI n).toNatClampNeg = A 1 n by rw [nI_clamp (by omega)]) ?_
    iterate 1 (refine zv_step (bX7_inner (3 * z + 5)) rfl rfl trivial ?_)
    refine zv_ifb (fun h74 => ?_) (fun h74 => ?_)
    · have q74 : ¬ nI (nvN (eW A) (b - a) a 0) = A 1 n := by rw [← et]; exact h74
      iterate 1 (refine zv_step (bX7_inner (3 * z + 5)) rfl rfl trivial ?_)
      exact zv_lret (bX7_inner (3 * z + 5)) rfl rfl (Nat.zero_le _) (Nat.zero_le _) ⟨rfl, _, rfl, Or.inr ⟨rfl, fun q _ g => q74 (Gk_1v g rfl).symm⟩⟩
    · have q74 : nI (nvN (eW A) (b - a) a 0) = A 1 n := by rw [← et]; exact Decidable.not_not.mp h74
      iterate 2 (refine zv_step (bX7_inner (3 * z + 5)) rfl rfl trivial ?_)
      exact zv_lret (bX7_inner (3 * z + 5)) rfl rfl (Nat.zero_le _) (Nat.zero_le _) ⟨rfl, _, rfl, Or.inl ⟨0, hpos, rfl, Or.inr (Or.inl ⟨rfl, q74.symm, h2, h3, by rw [← q74]; exact num_dg hab hnum⟩)⟩⟩
  | succ w ih2 =>
    intro m t hm hma et x5 e5
    subst e5
    iterate 3 (refine zv_step (bX7_inner (3 * z + 5)) rfl rfl trivial ?_)
    refine zv_iff (fun h => absurd ((nI_leI (by omega) (by omega)).mp h) (by omega)) ?_
    iterate 6 (refine zv_step (bX7_inner (3 * z + 5)) rfl rfl trivial ?_)
    refine zv_iale (bX7_inner (3 * z + 5)) rfl rfl (vp_in_nI (by omega) (by decide)) (show A 8 (nI (m)).toNatClampNeg = nI (eW A (m)) by rw [nI_clamp (by omega)]; exact (eW_of hw (by omega)).1) ?_
    iterate 6 (refine zv_step (bX7_inner (3 * z + 5)) rfl rfl trivial ?_)
    have e9 : (c8 10 * nI t + nI (eW A m) - c8 10) = nI (10 * t + eW A m - 10) := by
      rw [show c8 10 * nI t = nI (10 * t) from nI_mul 10 t, nI_add]
      exact nI_sub (a := 10 * t + eW A m) (b := 10) (by have := hd m (by omega) (by omega); omega)
    refine zv_locals (l := [(5, .int (nI m + Int32.ofInt 1)), (4, .int (c8 10 * nI t + nI (eW A m) - c8 10)), (0, .ref 76), (1, .int (nI n)), (2, .int (nI a)), (3, .int (nI b))]) (l' := [(5, .int (nI m + Int32.ofInt 1)), (4, .int (nI (10 * t + eW A m - 10))), (0, .ref 76), (1, .int (nI n)), (2, .int (nI a)), (3, .int (nI b))]) ?_ (ih2 (m + 1) (10 * t + eW A m - 10) (by omega) (by omega) et (nI_1 m))
    rw [e9]
    simp
set_option maxHeartbeats 1000000 in
set_option maxRecDepth 20000 in
theorem mInnerX (f : Nat → zC) (o : Nat → Int32) (A : Nat → Nat → Int32) (J : Nat → Nat → Int64) {lo hi : Nat} (hh0 : hi ≤ 450) (hT : tbI lo hi A) {h : Nat} (hh : h ≤ 20) (hw : nnW h (A 8)) {s : Nat} (hJ : okJ h A s J) {z : Nat} (ih : ∀ (n i j : Nat) (y z' : Int32), y = nI i → z' = nI j → lo ≤ n → n < hi → szN A n ≤ z → i < j → j ≤ h → zK (3 * z + 3) zX7_rank [.ref 76, .int (nI n), .int y, .int z'] (wR f o A J) (fun r w' => w' = (wR f o A J) ∧ ∃ v : Int64, r = some (.long v) ∧ ansR v (lW J (i) (j)) (fun p => RJ A s J (z) (i) (j) p (n)))) {n a b : Nat} (hlo : lo ≤ n) (hn : n < hi) (hz : szN A n ≤ z + 1) (hab : a < b) (hb : b ≤ h) {k : Nat} (hk : k < 10) (h0 : A 0 n = nI k) (hpos : 0 < wi (eW A) (A 6) (lW J) k a b) {y z' : Int32} (ey : y = nI a) (ez : z' = nI b) : zK (3 * z + 5) zX7_inner [.ref 76, .int (nI n), .int y, .int z'] (wR f o A J) (fun r w' => w' = (wR f o A J) ∧ ∃ v : Int64, r = some (.long v) ∧ ansR v (wi (eW A) (A 6) (lW J) (k) (a) (b)) (fun q => Gk (eW A) (lW J) A (RJ A s J z) (k) (a) (b) q (n))) := by
  subst ey ez
  obtain ⟨k', h0', _, hs, h40, hv⟩ := rN_val (hT n hlo hn)
  have ek : k' = k := (nI_eq (by omega) (by omega)).mp (h0'.symm.trans h0)
  subst ek
  obtain ⟨_, w0, w1, w7, w8, w9⟩ := wi_pos hpos
  refine zK_of qX7_inner (by decide +kernel) rfl ?_
  rcases hs with ⟨k1, h2, h3, es⟩ | ⟨k1, k6, x, y2, h2, la, ha, h3, lb, hb2, es⟩ | ⟨k1, x, h2, lx, hx, h3, es⟩
  · rcases (show k' = 0 ∨ k' = 1 by omega) with rfl | rfl
    · iterate 3 (refine zv_step (bX7_inner (3 * z + 5)) rfl rfl trivial ?_)
      refine zv_iale (bX7_inner (3 * z + 5)) rfl rfl (vp_in_nI (by omega) (by decide)) (show A 0 (nI n).toNatClampNeg = nI 0 by rw [nI_clamp (by omega)]; exact h0) ?_
      refine zv_S1 (bX7_inner (3 * z + 5)) rfl rfl rfl rfl ⟨rfl, rfl, rfl⟩ ⟨by show 0 + 1 ≤ 3 * z + 5; omega, by show 8 + (1 + 11) + 64 * (0) ≤ 64 * (3 * z + 5); omega⟩ ⟨Nat.zero_le _, Nat.zero_le _⟩ (mTwoL _ (k := 0) (by decide)) ?_
      rintro _ _ ⟨rfl, rfl⟩
      iterate 1 (refine zv_step (bX7_inner (3 * z + 5)) rfl rfl trivial ?_)
      refine zv_ift (by decide) ?_
      iterate 3 (refine zv_step (bX7_inner (3 * z + 5)) rfl rfl trivial ?_)
      refine zv_iale (bX7_inner (3 * z + 5)) rfl rfl (vp_in_nI (by omega) (by decide)) (show A 0 (nI n).toNatClampNeg = nI 0 by rw [nI_clamp (by omega)]; exact h0) ?_
      iterate 2 (refine zv_step (bX7_inner (3 * z + 5)) rfl rfl trivial ?_)
      refine zv_ift (by decide) ?_
      iterate 3 (refine zv_step (bX7_inner (3 * z + 5)) rfl rfl trivial ?_)
      refine zv_iale (bX7_inner (3 * z + 5)) rfl rfl (vp_in_nI (by omega) (by decide)) (show A 0 (nI n).toNatClampNeg = nI 0 by rw [nI_clamp (by omega)]; exact h0) ?_
      iterate 1 (refine zv_step (bX7_inner (3 * z + 5)) rfl rfl trivial ?_)
      refine zv_iff (by decide) ?_
      iterate 3 (refine zv_step (bX7_inner (3 * z + 5)) rfl rfl trivial ?_)
      refine zv_iale (bX7_inner (3 * z + 5)) rfl rfl (vp_in_nI (by omega) (by decide)) (show A 8 (nI (a)).toNatClampNeg = nI (eW A (a)) by rw [nI_clamp (by omega)]; exact (eW_of hw (by omega)).1) ?_
      iterate 3 (refine zv_step (bX7_inner (3 * z + 5)) rfl rfl trivial ?_)
      refine zv_iale (bX7_inner (3 * z + 5)) rfl rfl (vp_in_nI (by omega) (by decide)) (show A 1 (nI n).toNatClampNeg = A 1 n by rw [nI_clamp (by omega)]) ?_
      iterate 1 (refine zv_step (bX7_inner (3 * z + 5)) rfl rfl trivial ?_)
      refine zv_ifb (fun h106 => ?_) (fun h106 => ?_)
      · have q9 : ¬ nI (eW A a) = A 1 n := h106
        iterate 1 (refine zv_step (bX7_inner (3 * z + 5)) rfl rfl trivial ?_)
        exact zv_lret (bX7_inner (3 * z + 5)) rfl rfl (Nat.zero_le _) (Nat.zero_le _) ⟨rfl, _, rfl, Or.inr ⟨rfl, fun q _ g => q9 (Gk_0v g rfl).symm⟩⟩
      · have q9 : nI (eW A a) = A 1 n := Decidable.not_not.mp h106
        iterate 2 (refine zv_step (bX7_inner (3 * z + 5)) rfl rfl trivial ?_)
        exact zv_lret (bX7_inner (3 * z + 5)) rfl rfl (Nat.zero_le _) (Nat.zero_le _) ⟨rfl, _, rfl, Or.inl ⟨0, hpos, rfl, Or.inl ⟨rfl, q9.symm, h2, h3⟩⟩⟩
    · iterate 3 (refine zv_step (bX7_inner (3 * z + 5)) rfl rfl trivial ?_)
      refine zv_iale (bX7_inner (3 * z + 5)) rfl rfl (vp_in_nI (by omega) (by decide)) (show A 0 (nI n).toNatClampNeg = nI 1 by rw [nI_clamp (by omega)]; exact h0) ?_
      refine zv_S1 (bX7_inner (3 * z + 5)) rfl rfl rfl rfl ⟨rfl, rfl, rfl⟩ ⟨by show 0 + 1 ≤ 3 * z + 5; omega, by show 8 + (1 + 11) + 64 * (0) ≤ 64 * (3 * z + 5); omega⟩ ⟨Nat.zero_le _, Nat.zero_le _⟩ (mTwoL _ (k := 1) (by decide)) ?_
      rintro _ _ ⟨rfl, rfl⟩
      iterate 1 (refine zv_step (bX7_inner (3 * z + 5)) rfl rfl trivial ?_)
      refine zv_ift (by decide) ?_
      iterate 3 (refine zv_step (bX7_inner (3 * z + 5)) rfl rfl trivial ?_)
      refine zv_iale (bX7_inner (3 * z + 5)) rfl rfl (vp_in_nI (by omega) (by decide)) (show A 0 (nI n).toNatClampNeg = nI 1 by rw [nI_clamp (by omega)]; exact h0) ?_
      iterate 2 (refine zv_step (bX7_inner (3 * z + 5)) rfl rfl trivial ?_)
      refine zv_iff (by decide) ?_
      iterate 4 (refine zv_step (bX7_inner (3 * z + 5)) rfl rfl trivial ?_)
      refine zv_locals (l := [(5, .int (nI a)), (4, .int (Int32.ofInt 0)), (0, .ref 76), (1, .int (nI n)), (2, .int (nI a)), (3, .int (nI b))]) (l' := [(5, .int (nI a)), (4, .int (nI 0)), (0, .ref 76), (1, .int (nI n)), (2, .int (nI a)), (3, .int (nI b))]) (fun q h => h) (innNX (s := s) f o A J (by omega) hh hw hab hb h2 h3 hpos (w1 rfl).1 (isNumB_at (w1 rfl).1).2.2 (b - a) a 0 (by omega) (Nat.le_refl _) rfl rfl)
  · have sx := (rN_sz (hT x la (by omega))).1
    have sy := (rN_sz (hT y2 lb (by omega))).1
    iterate 3 (refine zv_step (bX7_inner (3 * z + 5)) rfl rfl trivial ?_)
    refine zv_iale (bX7_inner (3 * z + 5)) rfl rfl (vp_in_nI (by omega) (by decide)) (show A 0 (nI n).toNatClampNeg = nI k' by rw [nI_clamp (by omega)]; exact h0) ?_
    refine zv_S1 (bX7_inner (3 * z + 5)) rfl rfl rfl rfl ⟨rfl, rfl, rfl⟩ ⟨by show 0 + 1 ≤ 3 * z + 5; omega, by show 8 + (1 + 11) + 64 * (0) ≤ 64 * (3 * z + 5); omega⟩ ⟨Nat.zero_le _, Nat.zero_le _⟩ (mTwoY _ k1 k6) ?_
    rintro _ _ ⟨rfl, rfl⟩
    iterate 1 (refine zv_step (bX7_inner (3 * z + 5)) rfl rfl trivial ?_)
    refine zv_iff (by decide) ?_
    iterate 4 (refine zv_step (bX7_inner (3 * z + 5)) rfl rfl trivial ?_)
    refine zv_V3 (bX7_inner (3 * z + 5)) rfl rfl rfl rfl rfl rfl rfl ⟨rfl, rfl, rfl⟩ ⟨by show 3 * z + 4 + 1 ≤ 3 * z + 5; omega, by show 8 + (13 + 11) + 64 * (3 * z + 4) ≤ 64 * (3 * z + 5); omega⟩ ⟨Nat.zero_le _, Nat.zero_le _⟩ (mInn2X f o A J hh0 hT hh hw hJ ih hlo hn hz hab hb k1 k6 h0 h2 h3 la ha lb hb2 (by omega) (by omega)) ?_
    rintro _ _ ⟨rfl, v, rfl, gv⟩
    exact zv_lret (bX7_inner (3 * z + 5)) rfl rfl (Nat.zero_le _) (Nat.zero_le _) ⟨rfl, v, rfl, gv⟩
  · rcases (show k' = 7 ∨ k' = 8 ∨ k' = 9 by omega) with rfl | rfl | rfl
    · have hwi := wi_unL (k := 7) (by decide) (by decide) hpos
      have w9 := wi_un (k := 7) (by decide) (by decide) hpos
      rw [show pfN 7 a = a + 1 from rfl, show ptN 7 b = b from rfl] at hwi w9
      iterate 3 (refine zv_step (bX7_inner (3 * z + 5)) rfl rfl trivial ?_)
      refine zv_iale (bX7_inner (3 * z + 5)) rfl rfl (vp_in_nI (by omega) (by decide)) (show A 0 (nI n).toNatClampNeg = nI 7 by rw [nI_clamp (by omega)]; exact h0) ?_
      refine zv_S1 (bX7_inner (3 * z + 5)) rfl rfl rfl rfl ⟨rfl, rfl, rfl⟩ ⟨by show 0 + 1 ≤ 3 * z + 5; omega, by show 8 + (1 + 11) + 64 * (0) ≤ 64 * (3 * z + 5); omega⟩ ⟨Nat.zero_le _, Nat.zero_le _⟩ (mTwoN _ (k := 7) (by decide) (by decide)) ?_
      rintro _ _ ⟨rfl, rfl⟩
      iterate 1 (refine zv_step (bX7_inner (3 * z + 5)) rfl rfl trivial ?_)
      refine zv_ift (by decide) ?_
      iterate 3 (refine zv_step (bX7_inner (3 * z + 5)) rfl rfl trivial ?_)
      refine zv_iale (bX7_inner (3 * z + 5)) rfl rfl (vp_in_nI (by omega) (by decide)) (show A 0 (nI n).toNatClampNeg = nI 7 by rw [nI_clamp (by omega)]; exact h0) ?_
      iterate 2 (refine zv_step (bX7_inner (3 * z + 5)) rfl rfl trivial ?_)
      refine zv_ift (by decide) ?_
      iterate 3 (refine zv_step (bX7_inner (3 * z + 5)) rfl rfl trivial ?_)
      refine zv_iale (bX7_inner (3 * z + 5)) rfl rfl (vp_in_nI (by omega) (by decide)) (show A 0 (nI n).toNatClampNeg = nI 7 by rw [nI_clamp (by omega)]; exact h0) ?_
      iterate 1 (refine zv_step (bX7_inner (3 * z + 5)) rfl rfl trivial ?_)
      refine zv_ift (by decide) ?_
      iterate 3 (refine zv_step (bX7_inner (3 * z + 5)) rfl rfl trivial ?_)
      refine zv_iale (bX7_inner (3 * z + 5)) rfl rfl (vp_in_nI (by omega) (by decide)) (show A 0 (nI n).toNatClampNeg = nI 7 by rw [nI_clamp (by omega)]; exact h0) ?_
      iterate 2 (refine zv_step (bX7_inner (3 * z + 5)) rfl rfl trivial ?_)
      refine zv_ift (by decide) ?_
      iterate 4 (refine zv_step (bX7_inner (3 * z + 5)) rfl rfl trivial ?_)
      refine zv_iale (bX7_inner (3 * z + 5)) rfl rfl (vp_in_nI (by omega) (by decide)) (show A 2 (nI n).toNatClampNeg = nI x by rw [nI_clamp (by omega)]; exact h2) ?_
      iterate 6 (refine zv_step (bX7_inner (3 * z + 5)) rfl rfl trivial ?_)
      refine zv_iale (bX7_inner (3 * z + 5)) rfl rfl (vp_in_nI (by omega) (by decide)) (show A 0 (nI n).toNatClampNeg = nI 7 by rw [nI_clamp (by omega)]; exact h0) ?_
      iterate 2 (refine zv_step (bX7_inner (3 * z + 5)) rfl rfl trivial ?_)
      refine zv_ift (by decide) ?_
      iterate 1 (refine zv_step (bX7_inner (3 * z + 5)) rfl rfl trivial ?_)
      refine zv_V3 (bX7_inner (3 * z + 5)) rfl rfl rfl rfl rfl rfl rfl ⟨rfl, rfl, rfl⟩ ⟨by show 3 * z + 3 + 1 ≤ 3 * z + 5; omega, by show 8 + (8 + 11) + 64 * (3 * z + 3) ≤ 64 * (3 * z + 5); omega⟩ ⟨Nat.zero_le _, Nat.zero_le _⟩ (ih x (a + 1) (b) _ _ (nI_1 a) rfl lx (by omega) (by omega) (by omega) (by omega)) ?_
      rintro _ _ ⟨rfl, _, rfl, ⟨p, hp, rfl, rp⟩ | ⟨rfl, np⟩⟩
      · skip
        exact zv_lret (bX7_inner (3 * z + 5)) rfl rfl (Nat.zero_le _) (Nat.zero_le _) ⟨rfl, _, rfl, Or.inl ⟨p, by rw [hwi]; exact hp, rfl, Or.inr (Or.inr (Or.inl ⟨rfl, x, Nat.zero_le _, hx, h2, h3, rp⟩))⟩⟩
      · skip
        exact zv_lret (bX7_inner (3 * z + 5)) rfl rfl (Nat.zero_le _) (Nat.zero_le _) ⟨rfl, _, rfl, Or.inr ⟨rfl, fun q hq g => by
          obtain ⟨x', _, _, g2, _, rx⟩ := Gk_7 g rfl
          have ex : x' = x := (nI_eq (by omega) (by omega)).mp (g2.symm.trans h2)
          subst ex
          rw [hwi] at hq
          exact np q hq rx⟩⟩
    · have hwi := wi_unL (k := 8) (by decide) (by decide) hpos
      have w9 := wi_un (k := 8) (by decide) (by decide) hpos
      rw [show pfN 8 a = a + 1 from rfl, show ptN 8 b = b - 1 from rfl] at hwi w9
      iterate 3 (refine zv_step (bX7_inner (3 * z + 5)) rfl rfl trivial ?_)
      refine zv_iale (bX7_inner (3 * z + 5)) rfl rfl (vp_in_nI (by omega) (by decide)) (show A 0 (nI n).toNatClampNeg = nI 8 by rw [nI_clamp (by omega)]; exact h0) ?_
      refine zv_S1 (bX7_inner (3 * z + 5)) rfl rfl rfl rfl ⟨rfl, rfl, rfl⟩ ⟨by show 0 + 1 ≤ 3 * z + 5; omega, by show 8 + (1 + 11) + 64 * (0) ≤ 64 * (3 * z + 5); omega⟩ ⟨Nat.zero_le _, Nat.zero_le _⟩ (mTwoN _ (k := 8) (by decide) (by decide)) ?_
      rintro _ _ ⟨rfl, rfl⟩
      iterate 1 (refine zv_step (bX7_inner (3 * z + 5)) rfl rfl trivial ?_)
      refine zv_ift (by decide) ?_
      iterate 3 (refine zv_step (bX7_inner (3 * z + 5)) rfl rfl trivial ?_)
      refine zv_iale (bX7_inner (3 * z + 5)) rfl rfl (vp_in_nI (by omega) (by decide)) (show A 0 (nI n).toNatClampNeg = nI 8 by rw [nI_clamp (by omega)]; exact h0) ?_
      iterate 2 (refine zv_step (bX7_inner (3 * z + 5)) rfl rfl trivial ?_)
      refine zv_ift (by decide) ?_
      iterate 3 (refine zv_step (bX7_inner (3 * z + 5)) rfl rfl trivial ?_)
      refine zv_iale (bX7_inner (3 * z + 5)) rfl rfl (vp_in_nI (by omega) (by decide)) (show A 0 (nI n).toNatClampNeg = nI 8 by rw [nI_clamp (by omega)]; exact h0) ?_
      iterate 1 (refine zv_step (bX7_inner (3 * z + 5)) rfl rfl trivial ?_)
      refine zv_ift (by decide) ?_
      iterate 3 (refine zv_step (bX7_inner (3 * z + 5)) rfl rfl trivial ?_)
      refine zv_iale (bX7_inner (3 * z + 5)) rfl rfl (vp_in_nI (by omega) (by decide)) (show A 0 (nI n).toNatClampNeg = nI 8 by rw [nI_clamp (by omega)]; exact h0) ?_
      iterate 2 (refine zv_step (bX7_inner (3 * z + 5)) rfl rfl trivial ?_)
      refine zv_ift (by decide) ?_
      iterate 4 (refine zv_step (bX7_inner (3 * z + 5)) rfl rfl trivial ?_)
      refine zv_iale (bX7_inner (3 * z + 5)) rfl rfl (vp_in_nI (by omega) (by decide)) (show A 2 (nI n).toNatClampNeg = nI x by rw [nI_clamp (by omega)]; exact h2) ?_
      iterate 6 (refine zv_step (bX7_inner (3 * z + 5)) rfl rfl trivial ?_)
      refine zv_iale (bX7_inner (3 * z + 5)) rfl rfl (vp_in_nI (by omega) (by decide)) (show A 0 (nI n).toNatClampNeg = nI 8 by rw [nI_clamp (by omega)]; exact h0) ?_
      iterate 2 (refine zv_step (bX7_inner (3 * z + 5)) rfl rfl trivial ?_)
      refine zv_iff (by decide) ?_
      iterate 4 (refine zv_step (bX7_inner (3 * z + 5)) rfl rfl trivial ?_)
      refine zv_V3 (bX7_inner (3 * z + 5)) rfl rfl rfl rfl rfl rfl rfl ⟨rfl, rfl, rfl⟩ ⟨by show 3 * z + 3 + 1 ≤ 3 * z + 5; omega, by show 8 + (8 + 11) + 64 * (3 * z + 3) ≤ 64 * (3 * z + 5); omega⟩ ⟨Nat.zero_le _, Nat.zero_le _⟩ (ih x (a + 1) (b - 1) _ _ (nI_1 a) (sub_1 (by omega)) lx (by omega) (by omega) (by omega) (by omega)) ?_
      rintro _ _ ⟨rfl, _, rfl, ⟨p, hp, rfl, rp⟩ | ⟨rfl, np⟩⟩
      · skip
        exact zv_lret (bX7_inner (3 * z + 5)) rfl rfl (Nat.zero_le _) (Nat.zero_le _) ⟨rfl, _, rfl, Or.inl ⟨p, by rw [hwi]; exact hp, rfl, Or.inr (Or.inr (Or.inr (Or.inl ⟨rfl, x, Nat.zero_le _, hx, h2, h3, rp⟩)))⟩⟩
      · skip
        exact zv_lret (bX7_inner (3 * z + 5)) rfl rfl (Nat.zero_le _) (Nat.zero_le _) ⟨rfl, _, rfl, Or.inr ⟨rfl, fun q hq g => by
          obtain ⟨x', _, _, g2, _, rx⟩ := Gk_8 g rfl
          have ex : x' = x := (nI_eq (by omega) (by omega)).mp (g2.symm.trans h2)
          subst ex
          rw [hwi] at hq
          exact np q hq rx⟩⟩
    · have hwi := wi_unL (k := 9) (by decide) (by decide) hpos
      have w9 := wi_un (k := 9) (by decide) (by decide) hpos
      rw [show pfN 9 a = a + 2 from rfl, show ptN 9 b = b from rfl] at hwi w9
      iterate 3 (refine zv_step (bX7_inner (3 * z + 5)) rfl rfl trivial ?_)
      refine zv_iale (bX7_inner (3 * z + 5)) rfl rfl (vp_in_nI (by omega) (by decide)) (show A 0 (nI n).toNatClampNeg = nI 9 by rw [nI_clamp (by omega)]; exact h0) ?_
      refine zv_S1 (bX7_inner (3 * z + 5)) rfl rfl rfl rfl ⟨rfl, rfl, rfl⟩ ⟨by show 0 + 1 ≤ 3 * z + 5; omega, by show 8 + (1 + 11) + 64 * (0) ≤ 64 * (3 * z + 5); omega⟩ ⟨Nat.zero_le _, Nat.zero_le _⟩ (mTwoN _ (k := 9) (by decide) (by decide)) ?_
      rintro _ _ ⟨rfl, rfl⟩
      iterate 1 (refine zv_step (bX7_inner (3 * z + 5)) rfl rfl trivial ?_)
      refine zv_ift (by decide) ?_
      iterate 3 (refine zv_step (bX7_inner (3 * z + 5)) rfl rfl trivial ?_)
      refine zv_iale (bX7_inner (3 * z + 5)) rfl rfl (vp_in_nI (by omega) (by decide)) (show A 0 (nI n).toNatClampNeg = nI 9 by rw [nI_clamp (by omega)]; exact h0) ?_
      iterate 2 (refine zv_step (bX7_inner (3 * z + 5)) rfl rfl trivial ?_)
      refine zv_ift (by decide) ?_
      iterate 3 (refine zv_step (bX7_inner (3 * z + 5)) rfl rfl trivial ?_)
      refine zv_iale (bX7_inner (3 * z + 5)) rfl rfl (vp_in_nI (by omega) (by decide)) (show A 0 (nI n).toNatClampNeg = nI 9 by rw [nI_clamp (by omega)]; exact h0) ?_
      iterate 1 (refine zv_step (bX7_inner (3 * z + 5)) rfl rfl trivial ?_)
      refine zv_ift (by decide) ?_
      iterate 3 (refine zv_step (bX7_inner (3 * z + 5)) rfl rfl trivial ?_)
      refine zv_iale (bX7_inner (3 * z + 5)) rfl rfl (vp_in_nI (by omega) (by decide)) (show A 0 (nI n).toNatClampNeg = nI 9 by rw [nI_clamp (by omega)]; exact h0) ?_
      iterate 2 (refine zv_step (bX7_inner (3 * z + 5)) rfl rfl trivial ?_)
      refine zv_iff (by decide) ?_
      iterate 3 (refine zv_step (bX7_inner (3 * z + 5)) rfl rfl trivial ?_)
      refine zv_iale (bX7_inner (3 * z + 5)) rfl rfl (vp_in_nI (by omega) (by decide)) (show A 8 (nI (a)).toNatClampNeg = nI (eW A (a)) by rw [nI_clamp (by omega)]; exact (eW_of hw (by omega)).1) ?_
      iterate 3 (refine zv_step (bX7_inner (3 * z + 5)) rfl rfl trivial ?_)
      refine zv_iale (bX7_inner (3 * z + 5)) rfl rfl (vp_in_nI (by omega) (by decide)) (show A 1 (nI n).toNatClampNeg = A 1 n by rw [nI_clamp (by omega)]) ?_
      iterate 1 (refine zv_step (bX7_inner (3 * z + 5)) rfl rfl trivial ?_)
      refine zv_ifb (fun h140 => ?_) (fun h140 => ?_)
      · have q9 : ¬ nI (eW A a) = A 1 n := h140
        iterate 1 (refine zv_step (bX7_inner (3 * z + 5)) rfl rfl trivial ?_)
        exact zv_lret (bX7_inner (3 * z + 5)) rfl rfl (Nat.zero_le _) (Nat.zero_le _) ⟨rfl, _, rfl, Or.inr ⟨rfl, fun q _ g => q9 (Gk_9v g rfl).symm⟩⟩
      · have q9 : nI (eW A a) = A 1 n := Decidable.not_not.mp h140
        iterate 4 (refine zv_step (bX7_inner (3 * z + 5)) rfl rfl trivial ?_)
        refine zv_iale (bX7_inner (3 * z + 5)) rfl rfl (vp_in_nI (by omega) (by decide)) (show A 2 (nI n).toNatClampNeg = nI x by rw [nI_clamp (by omega)]; exact h2) ?_
        iterate 4 (refine zv_step (bX7_inner (3 * z + 5)) rfl rfl trivial ?_)
        refine zv_V3 (bX7_inner (3 * z + 5)) rfl rfl rfl rfl rfl rfl rfl ⟨rfl, rfl, rfl⟩ ⟨by show 3 * z + 3 + 1 ≤ 3 * z + 5; omega, by show 8 + (8 + 11) + 64 * (3 * z + 3) ≤ 64 * (3 * z + 5); omega⟩ ⟨Nat.zero_le _, Nat.zero_le _⟩ (ih x (a + 2) b _ _ (nI_2 a) rfl lx (by omega) (by omega) (by omega) (by omega)) ?_
        rintro _ _ ⟨rfl, _, rfl, ⟨p, hp, rfl, rp⟩ | ⟨rfl, np⟩⟩
        · skip
          iterate 1 (refine zv_step (bX7_inner (3 * z + 5)) rfl rfl trivial ?_)
          exact zv_lret (bX7_inner (3 * z + 5)) rfl rfl (Nat.zero_le _) (Nat.zero_le _) ⟨rfl, _, rfl, Or.inl ⟨p, by rw [hwi]; exact hp, rfl, Or.inr (Or.inr (Or.inr (Or.inr (Or.inl ⟨rfl, q9.symm, x, Nat.zero_le _, hx, h2, h3, rp⟩))))⟩⟩
        · skip
          iterate 1 (refine zv_step (bX7_inner (3 * z + 5)) rfl rfl trivial ?_)
          exact zv_lret (bX7_inner (3 * z + 5)) rfl rfl (Nat.zero_le _) (Nat.zero_le _) ⟨rfl, _, rfl, Or.inr ⟨rfl, fun q hq g => by
            obtain ⟨x', _, _, g2, _, rx⟩ := Gk_9 g rfl
            have ex : x' = x := (nI_eq (by omega) (by omega)).mp (g2.symm.trans h2)
            subst ex
            rw [hwi] at hq
            exact np q hq rx⟩⟩
set_option maxHeartbeats 1000000 in
set_option maxRecDepth 20000 in
theorem rnkDX (f : Nat → zC) (o : Nat → Int32) (A : Nat → Nat → Int32) (J : Nat → Nat → Int64) {h : Nat} (hh : h ≤ 20) (hw : nnW h (A 8)) {s : Nat} (hJ : okJ h A s J) {n i j c q z : Nat} (hij : i < j) (hj : j ≤ h) (hc : c < 20) (hq : q + sW (mG (eW A) (A 6) (ltW A s) (lW J) i j) c < 2 ^ 62) {n0 : Nat} {Q : Option Value → zW → Prop} (kk : zV (zMo (3 * (z + 1) + 3) zX7_rank) false n0 0 0 139 [(5, .long (lN (q + sW (mG (eW A) (A 6) (ltW A s) (lW J) i j) c))), (4, .int (nI c)), (0, .ref 76), (1, .int (nI n)), (2, .int (nI i)), (3, .int (nI j))] [] (wR f o A J) Q) : ∀ (w d : Nat), d + w = c → ∀ {x7 : Int32}, x7 = nI d → zV (zMo (3 * (z + 1) + 3) zX7_rank) false n0 0 0 97 [(7, .int x7), (5, .long (lN (q + sW (mG (eW A) (A 6) (ltW A s) (lW J) i j) d))), (4, .int (nI c)), (0, .ref 76), (1, .int (nI n)), (2, .int (nI i)), (3, .int (nI j))] [] (wR f o A J) Q := by
  intro w
  induction w with
  | zero =>
    intro d hd x7 e7
    subst e7
    iterate 3 (refine zv_step (bX7_rank (3 * (z + 1) + 3)) rfl rfl trivial ?_)
    refine zv_ift (nI_le (by omega) (by omega)) ?_
    have ed : d = c := by omega
    subst ed
    refine zv_locals (l := [(7, .int (nI d)), (5, .long (lN (q + sW (mG (eW A) (A 6) (ltW A s) (lW J) i j) d))), (4, .int (nI d)), (0, .ref 76), (1, .int (nI n)), (2, .int (nI i)), (3, .int (nI j))]) (l' := [(5, .long (lN (q + sW (mG (eW A) (A 6) (ltW A s) (lW J) i j) d))), (4, .int (nI d)), (0, .ref 76), (1, .int (nI n)), (2, .int (nI i)), (3, .int (nI j))]) ?_ kk
    simp
  | succ w ih2 =>
    intro d hd x7 e7
    subst e7
    iterate 3 (refine zv_step (bX7_rank (3 * (z + 1) + 3)) rfl rfl trivial ?_)
    refine zv_iff (fun h => absurd ((nI_leI (by omega) (by omega)).mp h) (by omega)) ?_
    iterate 4 (refine zv_step (bX7_rank (3 * (z + 1) + 3)) rfl rfl trivial ?_)
    refine zv_iff (fun e => lN_p (show q + sW (mG (eW A) (A 6) (ltW A s) (lW J) i j) d < 2 ^ 62 by have := sW_mono (mG (eW A) (A 6) (ltW A s) (lW J) i j) d (c - d); rw [show d + (c - d) = c by omega] at this; omega) ((lg_cmp_lt _ _).mp e)) ?_
    iterate 12 (refine zv_step (bX7_rank (3 * (z + 1) + 3)) rfl rfl trivial ?_)
    refine zv_lale (bX7_rank (3 * (z + 1) + 3)) rfl rfl (show vp_in (c8 20 * (c8 21 * nI i + nI j) + nI d) 8820 by rw [show c8 20 * (c8 21 * nI i + nI j) + nI d = nI (20 * (21 * i + j) + d) by rw [ix21, ix20m]]; exact vp_in_nI (by omega) (by decide)) (show J 0 (c8 20 * (c8 21 * nI i + nI j) + nI d).toNatClampNeg = lN ((mG (eW A) (A 6) (ltW A s) (lW J) i j) d) by rw [show c8 20 * (c8 21 * nI i + nI j) + nI d = nI (20 * (21 * i + j) + d) by rw [ix21, ix20m], nI_clamp (by omega)]; exact (hJ i j hij hj).1 d (by omega)) ?_
    iterate 4 (refine zv_step (bX7_rank (3 * (z + 1) + 3)) rfl rfl trivial ?_)
    have e9 : (lN (q + sW (mG (eW A) (A 6) (ltW A s) (lW J) i j) d)) + lN ((mG (eW A) (A 6) (ltW A s) (lW J) i j) d) = (lN (q + sW (mG (eW A) (A 6) (ltW A s) (lW J) i j) (d + 1))) := by
      rw [lN_add, Nat.add_assoc]
      rfl
    refine zv_locals (l := [(7, .int (nI d + Int32.ofInt 1)), (5, .long ((lN (q + sW (mG (eW A) (A 6) (ltW A s) (lW J) i j) d)) + lN ((mG (eW A) (A 6) (ltW A s) (lW J) i j) d))), (4, .int (nI c)), (0, .ref 76), (1, .int (nI n)), (2, .int (nI i)), (3, .int (nI j))]) (l' := [(7, .int (nI d + Int32.ofInt 1)), (5, .long (lN (q + sW (mG (eW A) (A 6) (ltW A s) (lW J) i j) (d + 1)))), (4, .int (nI c)), (0, .ref 76), (1, .int (nI n)), (2, .int (nI i)), (3, .int (nI j))]) ?_ (ih2 (d + 1) (by omega) (nI_1 d))
    rw [e9]
    exact fun q h => h
set_option maxHeartbeats 1000000 in
set_option maxRecDepth 20000 in
theorem rnkCX (f : Nat → zC) (o : Nat → Int32) (A : Nat → Nat → Int32) (J : Nat → Nat → Int64) {lo hi : Nat} (hh0 : hi ≤ 450) (hT : tbI lo hi A) {h : Nat} (hh : h ≤ 20) (hw : nnW h (A 8)) {s : Nat} (hJ : okJ h A s J) {z : Nat} (ih : ∀ (n i j : Nat) (y z' : Int32), y = nI i → z' = nI j → lo ≤ n → n < hi → szN A n ≤ z → i < j → j ≤ h → zK (3 * z + 3) zX7_rank [.ref 76, .int (nI n), .int y, .int z'] (wR f o A J) (fun r w' => w' = (wR f o A J) ∧ ∃ v : Int64, r = some (.long v) ∧ ansR v (lW J (i) (j)) (fun p => RJ A s J (z) (i) (j) p (n)))) {n i j k : Nat} (hlo : lo ≤ n) (hn : n < hi) (hz : szN A n ≤ z + 1) (hij : i < j) (hj : j ≤ h) (hk : k < 10) (h0 : A 0 n = nI k) {n0 : Nat} : ∀ (w c : Nat), c + w = 2 * k + 2 → 2 * k ≤ c → (∀ c', 2 * k ≤ c' → c' < c → ∀ q, q < (mG (eW A) (A 6) (ltW A s) (lW J) i j) c' → ¬ Gk (eW A) (lW J) A (RJ A s J z) (c' / 2) (i + c' % 2) (j - c' % 2) q n) → ∀ {x4 : Int32}, x4 = nI c → zV (zMo (3 * (z + 1) + 3) zX7_rank) false n0 0 0 26 [(4, .int x4), (0, .ref 76), (1, .int (nI n)), (2, .int (nI i)), (3, .int (nI j))] [] (wR f o A J) (fun r w' => w' = (wR f o A J) ∧ ∃ v : Int64, r = some (.long v) ∧ ansR v (lW J (i) (j)) (fun p => RJ A s J (z + 1) (i) (j) p (n))) := by
  intro w
  induction w with
  | zero =>
    intro c hc hc2 hno x4 e4
    subst e4
    iterate 5 (refine zv_step (bX7_rank (3 * (z + 1) + 3)) rfl rfl trivial ?_)
    refine zv_iale (bX7_rank (3 * (z + 1) + 3)) rfl rfl (vp_in_nI (by omega) (by decide)) (show A 0 (nI n).toNatClampNeg = nI k by rw [nI_clamp (by omega)]; exact h0) ?_
    iterate 4 (refine zv_step (bX7_rank (3 * (z + 1) + 3)) rfl rfl trivial ?_)
    refine zv_ift (show Int32.ofInt 2 * nI k + Int32.ofInt 2 ≤ nI c by rw [show Int32.ofInt 2 * nI k + Int32.ofInt 2 = nI (2 * k + 2) by rw [show Int32.ofInt 2 * nI k = nI (2 * k) from nI_mul 2 k]; exact nI_2 _]; exact nI_le (by omega) (by omega)) ?_
    iterate 1 (refine zv_step (bX7_rank (3 * (z + 1) + 3)) rfl rfl trivial ?_)
    exact zv_lret (bX7_rank (3 * (z + 1) + 3)) rfl rfl (Nat.zero_le _) (Nat.zero_le _) ⟨rfl, _, rfl, Or.inr ⟨rfl, fun p _ g => by
      obtain ⟨c', q, hc', _, hq, h0', g⟩ := g
      have ek : c' / 2 = k := (nI_eq (by omega) (by omega)).mp (h0'.symm.trans h0)
      exact hno c' (by omega) (by omega) q hq g⟩⟩
  | succ w ih2 =>
    intro c hc hc2 hno x4 e4
    subst e4
    iterate 5 (refine zv_step (bX7_rank (3 * (z + 1) + 3)) rfl rfl trivial ?_)
    refine zv_iale (bX7_rank (3 * (z + 1) + 3)) rfl rfl (vp_in_nI (by omega) (by decide)) (show A 0 (nI n).toNatClampNeg = nI k by rw [nI_clamp (by omega)]; exact h0) ?_
    iterate 4 (refine zv_step (bX7_rank (3 * (z + 1) + 3)) rfl rfl trivial ?_)
    refine zv_iff (show ¬ Int32.ofInt 2 * nI k + Int32.ofInt 2 ≤ nI c by rw [show Int32.ofInt 2 * nI k + Int32.ofInt 2 = nI (2 * k + 2) by rw [show Int32.ofInt 2 * nI k = nI (2 * k) from nI_mul 2 k]; exact nI_2 _]; exact fun h => absurd ((nI_leI (by omega) (by omega)).mp h) (by omega)) ?_
    iterate 11 (refine zv_step (bX7_rank (3 * (z + 1) + 3)) rfl rfl trivial ?_)
    refine zv_lale (bX7_rank (3 * (z + 1) + 3)) rfl rfl (show vp_in (c8 20 * (c8 21 * nI i + nI j) + nI c) 8820 by rw [show c8 20 * (c8 21 * nI i + nI j) + nI c = nI (20 * (21 * i + j) + c) by rw [ix21, ix20m]]; exact vp_in_nI (by omega) (by decide)) (show J 0 (c8 20 * (c8 21 * nI i + nI j) + nI c).toNatClampNeg = lN ((mG (eW A) (A 6) (ltW A s) (lW J) i j) c) by rw [show c8 20 * (c8 21 * nI i + nI j) + nI c = nI (20 * (21 * i + j) + c) by rw [ix21, ix20m], nI_clamp (by omega)]; exact (hJ i j hij hj).1 c (by omega)) ?_
    iterate 3 (refine zv_step (bX7_rank (3 * (z + 1) + 3)) rfl rfl trivial ?_)
    refine zv_ifb (fun h60 => ?_) (fun h60 => ?_)
    · have q60 : (mG (eW A) (A 6) (ltW A s) (lW J) i j) c = 0 := (lN_0 (Nat.lt_of_le_of_lt (mW_le hJ (i := i) (j := j) hj c) (by decide))).mp ((lg_cmp_le _ _).mp h60)
      iterate 2 (refine zv_step (bX7_rank (3 * (z + 1) + 3)) rfl rfl trivial ?_)
      have hno2 : (∀ c', 2 * k ≤ c' → c' < c + 1 → ∀ q, q < (mG (eW A) (A 6) (ltW A s) (lW J) i j) c' → ¬ Gk (eW A) (lW J) A (RJ A s J z) (c' / 2) (i + c' % 2) (j - c' % 2) q n) := fun c' h1 h2 q hq g => by
        by_cases e : c' = c
        · subst e
          rw [q60] at hq
          omega
        · exact hno c' h1 (by omega) q hq g
      refine zv_locals (l := [(4, .int (nI c + Int32.ofInt 1)), (0, .ref 76), (1, .int (nI n)), (2, .int (nI i)), (3, .int (nI j))]) (l' := [(4, .int (nI c + Int32.ofInt 1)), (0, .ref 76), (1, .int (nI n)), (2, .int (nI i)), (3, .int (nI j))]) (fun q h => h) (ih2 (c + 1) (by omega) (by omega) hno2 (nI_1 c))
    · have hp : 0 < (mG (eW A) (A 6) (ltW A s) (lW J) i j) c := by
        rcases Nat.eq_zero_or_pos ((mG (eW A) (A 6) (ltW A s) (lW J) i j) c) with e | e
        · exact absurd ((lg_cmp_le _ _).mpr (by rw [e]; decide)) h60
        · exact e
      have hw2 := (mG_pos hp).1
      have hab : i + c % 2 < j - c % 2 := (wi_pos hw2).1
      have ec2 : c / 2 = k := by omega
      iterate 2 (refine zv_step (bX7_rank (3 * (z + 1) + 3)) rfl rfl trivial ?_)
      refine zv_step (bX7_rank (3 * (z + 1) + 3)) rfl rfl (show ¬ Int32.ofInt 2 = 0 by decide) ?_
      iterate 2 (refine zv_step (bX7_rank (3 * (z + 1) + 3)) rfl rfl trivial ?_)
      refine zv_ifb (fun h68 => ?_) (fun h68 => ?_)
      · have q68 : c % 2 = 0 := by
          have h9 : ¬ nI c - nI c / Int32.ofInt 2 * Int32.ofInt 2 = nI 1 := h68
          rw [rem2 (by omega), nI_eq (by omega) (by decide)] at h9
          omega
        rw [ec2, q68] at hw2
        rw [q68] at hab
        iterate 4 (refine zv_step (bX7_rank (3 * (z + 1) + 3)) rfl rfl trivial ?_)
        refine zv_V3 (bX7_rank (3 * (z + 1) + 3)) rfl rfl rfl rfl rfl rfl rfl ⟨rfl, rfl, rfl⟩ ⟨by show 3 * z + 5 + 1 ≤ 3 * (z + 1) + 3; omega, by show 8 + (6 + 11) + 64 * (3 * z + 5) ≤ 64 * (3 * (z + 1) + 3); omega⟩ ⟨Nat.zero_le _, Nat.zero_le _⟩ (mInnerX f o A J hh0 hT hh hw hJ ih hlo hn hz (a := i) (b := j) hab (by omega) hk h0 hw2 rfl rfl) ?_
        rintro _ _ ⟨rfl, _, rfl, ⟨q, hq, rfl, gq⟩ | ⟨rfl, nq⟩⟩
        · skip
          iterate 3 (refine zv_step (bX7_rank (3 * (z + 1) + 3)) rfl rfl trivial ?_)
          have hqm : q < (mG (eW A) (A 6) (ltW A s) (lW J) i j) c := by
            rw [mG_wi hp, ec2, q68]
            exact hq
          have gq' : Gk (eW A) (lW J) A (RJ A s J z) (c / 2) (i + c % 2) (j - c % 2) q n := by
            rw [ec2, q68]
            exact gq
          have h0c : A 0 n = nI (c / 2) := by rw [ec2]; exact h0
          have hs62 : q + sW (mG (eW A) (A 6) (ltW A s) (lW J) i j) c < 2 ^ 62 := by
            have := sW_lt (E := eW A) (G := A 6) (lt := ltW A s) (L := lW J) (i := i) (j := j) (show c < 20 by omega) hqm
            have := (J_tS hh hJ hij hj).2
            have := J_62 hh hJ hij hj
            omega
          refine zv_locals (l := [(7, .int (Int32.ofInt 0)), (5, .long (lN q)), (4, .int (nI c)), (0, .ref 76), (1, .int (nI n)), (2, .int (nI i)), (3, .int (nI j))]) (l' := [(7, .int (nI 0)), (5, .long (lN (q + sW (mG (eW A) (A 6) (ltW A s) (lW J) i j) 0))), (4, .int (nI c)), (0, .ref 76), (1, .int (nI n)), (2, .int (nI i)), (3, .int (nI j))]) (fun q h => h) (rnkDX f o A J hh hw hJ hij hj (by omega) hs62 ?_ c 0 (by omega) rfl)
          iterate 4 (refine zv_step (bX7_rank (3 * (z + 1) + 3)) rfl rfl trivial ?_)
          refine zv_iff (fun e => lN_p hs62 ((lg_cmp_lt _ _).mp e)) ?_
          iterate 1 (refine zv_step (bX7_rank (3 * (z + 1) + 3)) rfl rfl trivial ?_)
          exact zv_lret (bX7_rank (3 * (z + 1) + 3)) rfl rfl (Nat.zero_le _) (Nat.zero_le _) ⟨rfl, _, rfl, Or.inl ⟨sW (mG (eW A) (A 6) (ltW A s) (lW J) i j) c + q, by rw [(J_tS hh hJ hij hj).2]; exact sW_lt (by omega) hqm, by rw [Nat.add_comm], c, q, by omega, rfl, hqm, h0c, gq'⟩⟩
        · skip
          iterate 3 (refine zv_step (bX7_rank (3 * (z + 1) + 3)) rfl rfl trivial ?_)
          iterate 3 (refine zv_step (bX7_rank (3 * (z + 1) + 3)) rfl rfl trivial ?_)
          refine zv_ifb (fun h101 => ?_) (fun h101 => ?_)
          · iterate 4 (refine zv_step (bX7_rank (3 * (z + 1) + 3)) rfl rfl trivial ?_)
            refine zv_ift ((lg_cmp_lt _ _).mpr (by decide)) ?_
            iterate 2 (refine zv_step (bX7_rank (3 * (z + 1) + 3)) rfl rfl trivial ?_)
            have hno2 : (∀ c', 2 * k ≤ c' → c' < c + 1 → ∀ q, q < (mG (eW A) (A 6) (ltW A s) (lW J) i j) c' → ¬ Gk (eW A) (lW J) A (RJ A s J z) (c' / 2) (i + c' % 2) (j - c' % 2) q n) := fun c' h1 h2 q hq g => by
              by_cases e : c' = c
              · subst e
                rw [mG_wi hp, ec2, q68] at hq
                rw [ec2, q68] at g
                exact nq q hq g
              · exact hno c' h1 (by omega) q hq g
            refine zv_locals (l := [(4, .int (nI c + Int32.ofInt 1)), (7, .int (Int32.ofInt 0)), (5, .long (Int64.ofInt (-1))), (0, .ref 76), (1, .int (nI n)), (2, .int (nI i)), (3, .int (nI j))]) (l' := [(4, .int (nI c + Int32.ofInt 1)), (0, .ref 76), (1, .int (nI n)), (2, .int (nI i)), (3, .int (nI j))]) ?_ (ih2 (c + 1) (by omega) (by omega) hno2 (nI_1 c))
            simp
          · iterate 4 (refine zv_step (bX7_rank (3 * (z + 1) + 3)) rfl rfl trivial ?_)
            refine zv_ift ((lg_cmp_lt _ _).mpr (by decide)) ?_
            iterate 4 (refine zv_step (bX7_rank (3 * (z + 1) + 3)) rfl rfl trivial ?_)
            refine zv_ift ((lg_cmp_lt _ _).mpr (by decide)) ?_
            iterate 2 (refine zv_step (bX7_rank (3 * (z + 1) + 3)) rfl rfl trivial ?_)
            have hno2 : (∀ c', 2 * k ≤ c' → c' < c + 1 → ∀ q, q < (mG (eW A) (A 6) (ltW A s) (lW J) i j) c' → ¬ Gk (eW A) (lW J) A (RJ A s J z) (c' / 2) (i + c' % 2) (j - c' % 2) q n) := fun c' h1 h2 q hq g => by
              by_cases e : c' = c
              · subst e
                rw [mG_wi hp, ec2, q68] at hq
                rw [ec2, q68] at g
                exact nq q hq g
              · exact hno c' h1 (by omega) q hq g
            refine zv_locals (l := [(4, .int (nI c + Int32.ofInt 1)), (7, .int (Int32.ofInt 0)), (5, .long (Int64.ofInt (-1))), (0, .ref 76), (1, .int (nI n)), (2, .int (nI i)), (3, .int (nI j))]) (l' := [(4, .int (nI c + Int32.ofInt 1)), (0, .ref 76), (1, .int (nI n)), (2, .int (nI i)), (3, .int (nI j))]) ?_ (ih2 (c + 1) (by omega) (by omega) hno2 (nI_1 c))
            simp
      · have q68 : c % 2 = 1 := by
          have h9 : nI c - nI c / Int32.ofInt 2 * Int32.ofInt 2 = nI 1 := Decidable.not_not.mp h68
          rwa [rem2 (by omega), nI_eq (by omega) (by decide)] at h9
        rw [ec2, q68] at hw2
        rw [q68] at hab
        iterate 8 (refine zv_step (bX7_rank (3 * (z + 1) + 3)) rfl rfl trivial ?_)
        refine zv_V3 (bX7_rank (3 * (z + 1) + 3)) rfl rfl rfl rfl rfl rfl rfl ⟨rfl, rfl, rfl⟩ ⟨by show 3 * z + 5 + 1 ≤ 3 * (z + 1) + 3; omega, by show 8 + (6 + 11) + 64 * (3 * z + 5) ≤ 64 * (3 * (z + 1) + 3); omega⟩ ⟨Nat.zero_le _, Nat.zero_le _⟩ (mInnerX f o A J hh0 hT hh hw hJ ih hlo hn hz (a := i + 1) (b := j - 1) hab (by omega) hk h0 hw2 (nI_1 i) (sub_1 (by omega))) ?_
        rintro _ _ ⟨rfl, _, rfl, ⟨q, hq, rfl, gq⟩ | ⟨rfl, nq⟩⟩
        · skip
          iterate 4 (refine zv_step (bX7_rank (3 * (z + 1) + 3)) rfl rfl trivial ?_)
          have hqm : q < (mG (eW A) (A 6) (ltW A s) (lW J) i j) c := by
            rw [mG_wi hp, ec2, q68]
            exact hq
          have gq' : Gk (eW A) (lW J) A (RJ A s J z) (c / 2) (i + c % 2) (j - c % 2) q n := by
            rw [ec2, q68]
            exact gq
          have h0c : A 0 n = nI (c / 2) := by rw [ec2]; exact h0
          have hs62 : q + sW (mG (eW A) (A 6) (ltW A s) (lW J) i j) c < 2 ^ 62 := by
            have := sW_lt (E := eW A) (G := A 6) (lt := ltW A s) (L := lW J) (i := i) (j := j) (show c < 20 by omega) hqm
            have := (J_tS hh hJ hij hj).2
            have := J_62 hh hJ hij hj
            omega
          refine zv_locals (l := [(7, .int (Int32.ofInt 0)), (5, .long (lN q)), (4, .int (nI c)), (0, .ref 76), (1, .int (nI n)), (2, .int (nI i)), (3, .int (nI j))]) (l' := [(7, .int (nI 0)), (5, .long (lN (q + sW (mG (eW A) (A 6) (ltW A s) (lW J) i j) 0))), (4, .int (nI c)), (0, .ref 76), (1, .int (nI n)), (2, .int (nI i)), (3, .int (nI j))]) (fun q h => h) (rnkDX f o A J hh hw hJ hij hj (by omega) hs62 ?_ c 0 (by omega) rfl)
          iterate 4 (refine zv_step (bX7_rank (3 * (z + 1) + 3)) rfl rfl trivial ?_)
          refine zv_iff (fun e => lN_p hs62 ((lg_cmp_lt _ _).mp e)) ?_
          iterate 1 (refine zv_step (bX7_rank (3 * (z + 1) + 3)) rfl rfl trivial ?_)
          exact zv_lret (bX7_rank (3 * (z + 1) + 3)) rfl rfl (Nat.zero_le _) (Nat.zero_le _) ⟨rfl, _, rfl, Or.inl ⟨sW (mG (eW A) (A 6) (ltW A s) (lW J) i j) c + q, by rw [(J_tS hh hJ hij hj).2]; exact sW_lt (by omega) hqm, by rw [Nat.add_comm], c, q, by omega, rfl, hqm, h0c, gq'⟩⟩
        · skip
          iterate 4 (refine zv_step (bX7_rank (3 * (z + 1) + 3)) rfl rfl trivial ?_)
          iterate 3 (refine zv_step (bX7_rank (3 * (z + 1) + 3)) rfl rfl trivial ?_)
          refine zv_ifb (fun h101 => ?_) (fun h101 => ?_)
          · iterate 4 (refine zv_step (bX7_rank (3 * (z + 1) + 3)) rfl rfl trivial ?_)
            refine zv_ift ((lg_cmp_lt _ _).mpr (by decide)) ?_
            iterate 2 (refine zv_step (bX7_rank (3 * (z + 1) + 3)) rfl rfl trivial ?_)
            have hno2 : (∀ c', 2 * k ≤ c' → c' < c + 1 → ∀ q, q < (mG (eW A) (A 6) (ltW A s) (lW J) i j) c' → ¬ Gk (eW A) (lW J) A (RJ A s J z) (c' / 2) (i + c' % 2) (j - c' % 2) q n) := fun c' h1 h2 q hq g => by
              by_cases e : c' = c
              · subst e
                rw [mG_wi hp, ec2, q68] at hq
                rw [ec2, q68] at g
                exact nq q hq g
              · exact hno c' h1 (by omega) q hq g
            refine zv_locals (l := [(4, .int (nI c + Int32.ofInt 1)), (7, .int (Int32.ofInt 0)), (5, .long (Int64.ofInt (-1))), (0, .ref 76), (1, .int (nI n)), (2, .int (nI i)), (3, .int (nI j))]) (l' := [(4, .int (nI c + Int32.ofInt 1)), (0, .ref 76), (1, .int (nI n)), (2, .int (nI i)), (3, .int (nI j))]) ?_ (ih2 (c + 1) (by omega) (by omega) hno2 (nI_1 c))
            simp
          · iterate 4 (refine zv_step (bX7_rank (3 * (z + 1) + 3)) rfl rfl trivial ?_)
            refine zv_ift ((lg_cmp_lt _ _).mpr (by decide)) ?_
            iterate 4 (refine zv_step (bX7_rank (3 * (z + 1) + 3)) rfl rfl trivial ?_)
            refine zv_ift ((lg_cmp_lt _ _).mpr (by decide)) ?_
            iterate 2 (refine zv_step (bX7_rank (3 * (z + 1) + 3)) rfl rfl trivial ?_)
            have hno2 : (∀ c', 2 * k ≤ c' → c' < c + 1 → ∀ q, q < (mG (eW A) (A 6) (ltW A s) (lW J) i j) c' → ¬ Gk (eW A) (lW J) A (RJ A s J z) (c' / 2) (i + c' % 2) (j - c' % 2) q n) := fun c' h1 h2 q hq g => by
              by_cases e : c' = c
              · subst e
                rw [mG_wi hp, ec2, q68] at hq
                rw [ec2, q68] at g
                exact nq q hq g
              · exact hno c' h1 (by omega) q hq g
            refine zv_locals (l := [(4, .int (nI c + Int32.ofInt 1)), (7, .int (Int32.ofInt 0)), (5, .long (Int64.ofInt (-1))), (0, .ref 76), (1, .int (nI n)), (2, .int (nI i)), (3, .int (nI j))]) (l' := [(4, .int (nI c + Int32.ofInt 1)), (0, .ref 76), (1, .int (nI n)), (2, .int (nI i)), (3, .int (nI j))]) ?_ (ih2 (c + 1) (by omega) (by omega) hno2 (nI_1 c))
            simp
set_option maxHeartbeats 1000000 in
set_option maxRecDepth 20000 in
theorem mRankX (f : Nat → zC) (o : Nat → Int32) (A : Nat → Nat → Int32) (J : Nat → Nat → Int64) {lo hi : Nat} (hh0 : hi ≤ 450) (hT : tbI lo hi A) {h : Nat} (hh : h ≤ 20) (hw : nnW h (A 8)) {s : Nat} (hJ : okJ h A s J) : ∀ (z n i j : Nat) (y z' : Int32), y = nI i → z' = nI j → lo ≤ n → n < hi → szN A n ≤ z → i < j → j ≤ h → zK (3 * z + 3) zX7_rank [.ref 76, .int (nI n), .int y, .int z'] (wR f o A J) (fun r w' => w' = (wR f o A J) ∧ ∃ v : Int64, r = some (.long v) ∧ ansR v (lW J (i) (j)) (fun p => RJ A s J (z) (i) (j) p (n))) := by
  intro z
  induction z with
  | zero =>
    intro n i j y z' _ _ hlo hn hz
    have := (rN_sz (hT n hlo hn)).1
    omega
  | succ z ih =>
    intro n i j y z' ey ez hlo hn hz hij hj
    subst ey ez
    obtain ⟨k, hk, h0⟩ := rN_kd (hT n hlo hn)
    refine zK_of qX7_rank (by decide +kernel) rfl ?_
    iterate 3 (refine zv_step (bX7_rank (3 * (z + 1) + 3)) rfl rfl trivial ?_)
    refine zv_iale (bX7_rank (3 * (z + 1) + 3)) rfl rfl (vp_in_nI (by omega) (by decide)) (show A 4 (nI n).toNatClampNeg = nI (szN A n) by rw [nI_clamp (by omega)]; exact (rN_sz (hT n hlo hn)).2.2) ?_
    iterate 4 (refine zv_step (bX7_rank (3 * (z + 1) + 3)) rfl rfl trivial ?_)
    refine zv_ifb (fun h9 => ?_) (fun h9 => ?_)
    · iterate 4 (refine zv_step (bX7_rank (3 * (z + 1) + 3)) rfl rfl trivial ?_)
      refine zv_iale (bX7_rank (3 * (z + 1) + 3)) rfl rfl (vp_in_nI (by omega) (by decide)) (show A 0 (nI n).toNatClampNeg = nI k by rw [nI_clamp (by omega)]; exact h0) ?_
      iterate 2 (refine zv_step (bX7_rank (3 * (z + 1) + 3)) rfl rfl trivial ?_)
      refine zv_locals (l := [(4, .int (Int32.ofInt 2 * nI k)), (0, .ref 76), (1, .int (nI n)), (2, .int (nI i)), (3, .int (nI j))]) (l' := [(4, .int (Int32.ofInt 2 * nI k)), (0, .ref 76), (1, .int (nI n)), (2, .int (nI i)), (3, .int (nI j))]) (fun q h => h) (rnkCX f o A J hh0 hT hh hw hJ ih hlo hn hz hij hj hk h0 2 (2 * k) (by omega) (Nat.le_refl _) (fun c' h1 h2 => absurd h2 (by omega)) (nI_mul 2 k))
    · have q9 : j - i < szN A n := by
        have h99 : ¬ nI (szN A n) ≤ nI j - nI i := h9
        rw [nI_sub (by omega), nI_leI (by have := (rN_sz (hT n hlo hn)).2.1; omega) (by omega)] at h99
        omega
      iterate 1 (refine zv_step (bX7_rank (3 * (z + 1) + 3)) rfl rfl trivial ?_)
      exact zv_lret (bX7_rank (3 * (z + 1) + 3)) rfl rfl (Nat.zero_le _) (Nat.zero_le _) ⟨rfl, _, rfl, Or.inr ⟨rfl, fun p _ g => by
        have := (Rg_sz hh0 hT _ _ _ _ n hlo hn g).2
        omega⟩⟩
/-- place's answer: a PLACE among b, or -2 -/
def ansP (R : Int64) (b : Nat) (Q : Nat → Prop) : Prop := (∃ p, p < b ∧ R = lN p ∧ Q p) ∨ (R = Int64.ofInt (-2) ∧ ∀ p, p < b → ¬ Q p)
def plR (u : Nat) (x y : Int32) (F : Nat → Nat → Int64 → Prop) (R : Int64) : Prop := (R = Int64.ofInt (-1) ∧ ¬ ((0 ≤ x.toInt ∧ x.toInt ≤ 8) ∧ isN u y)) ∨ ∃ s n, s < 9 ∧ n < u ∧ x = nI s ∧ y = nI n ∧ F s n R
set_option maxHeartbeats 1000000 in
set_option maxRecDepth 20000 in
theorem mPlaceX (f : Nat → zC) (o : Nat → Int32) (A : Nat → Nat → Int32) (J : Nat → Nat → Int64) {u : Nat} (hu : u ≤ 120) (ho : o 0 = nI u) (hT : tbI 0 u A) {h : Nat} (hh : h ≤ 20) (hw : nnW h (A 8)) (ho10 : o 10 = nI h) (x y : Int32) : zK 124 zX7_place [.ref 76, .int x, .int y] (wR f o A J) (fun r w' => ∃ (o' : Nat → Int32) (J' : Nat → Nat → Int64) (R : Int64), r = some (.long R) ∧ w' = wR f o' A J' ∧ (∀ j, j ≠ 28 → o' j = o j) ∧ plR u x y (fun s n R => ∃ J1, okJ h A s J1 ∧ ansP R (ctW h J1) (fun p => RJ A s J1 40 0 h p n)) R) := by
  refine zK_of qX7_place (by decide +kernel) rfl ?_
  iterate 4 (refine zv_step (bX7_place 124) rfl rfl trivial ?_)
  refine zv_S3 (bX7_place 124) rfl rfl rfl rfl ⟨rfl, rfl, rfl⟩ ⟨by decide, by decide⟩ ⟨Nat.zero_le _, Nat.zero_le _⟩ (mIn _ _ _ _ (a := 0) (b := 8) (by decide) (by decide)) ?_
  rintro _ _ ⟨rfl, ⟨g1, rfl⟩ | ⟨g1, rfl⟩⟩
  · try rw [Int32.toInt_toInt64] at g1
    obtain ⟨s, hs, rfl⟩ := in_nat (x := x) (b := 8) (by decide) g1
    iterate 1 (refine zv_step (bX7_place 124) rfl rfl trivial ?_)
    refine zv_iff (by decide) ?_
    iterate 2 (refine zv_step (bX7_place 124) rfl rfl trivial ?_)
    refine zv_V1 (bX7_place 124) rfl rfl rfl rfl rfl rfl rfl ⟨rfl, rfl, rfl⟩ ⟨by decide, by decide⟩ ⟨Nat.zero_le _, Nat.zero_le _⟩ (mIsNode f o A J hu ho _) ?_
    rintro _ _ ⟨rfl, ⟨g2, rfl⟩ | ⟨g2, rfl⟩⟩
    · obtain ⟨n, hn, rfl⟩ := nd_of (by omega) g2
      iterate 1 (refine zv_step (bX7_place 124) rfl rfl trivial ?_)
      refine zv_ift (by decide) ?_
      iterate 2 (refine zv_step (bX7_place 124) rfl rfl trivial ?_)
      refine zv_V1 (bX7_place 124) rfl rfl rfl rfl rfl rfl rfl ⟨rfl, rfl, rfl⟩ ⟨by decide, by decide⟩ ⟨Nat.zero_le _, Nat.zero_le _⟩ (mCounted f o A J hh hw ho10 hs rfl) ?_
      rintro _ _ ⟨J1, rfl, rfl, hJ⟩
      iterate 3 (refine zv_step (bX7_place 124) rfl rfl trivial ?_)
      refine zv_ifb (fun h31 => ?_) (fun h31 => ?_)
      · have q31 : ¬ ctW h J1 = 0 := fun e => h31 ((lg_cmp_eq _ _).mpr (by rw [e]; rfl))
        have h0 : 0 < h := by
          unfold ctW at q31
          split at q31
          · exact absurd rfl q31
          · omega
        have ec : ctW h J1 = lW J1 0 h := if_neg (by omega)
        iterate 5 (refine zv_step (bX7_place 124) rfl rfl trivial ?_)
        refine zv_V3 (bX7_place 124) rfl rfl rfl rfl rfl rfl rfl ⟨rfl, rfl, rfl⟩ ⟨by decide, by decide⟩ ⟨Nat.zero_le _, Nat.zero_le _⟩ (mRankX f (upd o 28 (nI s)) A J1 (by omega) hT hh hw hJ 40 n 0 h _ _ rfl ho10 (Nat.zero_le _) hn (rN_sz (hT n (Nat.zero_le _) hn)).2.1 h0 (Nat.le_refl _)) ?_
        rintro _ _ ⟨rfl, _, rfl, ⟨p, hp, rfl, rp⟩ | ⟨rfl, np⟩⟩
        · skip
          iterate 5 (refine zv_step (bX7_place 124) rfl rfl trivial ?_)
          refine zv_ift ((lg_cmp_ge _ _).mpr (by show lN 0 ≤ lN p; rw [lN_leJ (by decide) (by have := J_62 hh hJ h0 (Nat.le_refl _); omega)]; exact Nat.zero_le _)) ?_
          iterate 1 (refine zv_step (bX7_place 124) rfl rfl trivial ?_)
          exact zv_lret (bX7_place 124) rfl rfl (Nat.zero_le _) (Nat.zero_le _) ⟨(upd o 28 (nI s)), J1, _, rfl, rfl, fun j a => upd_ne _ _ a, Or.inr ⟨s, n, by omega, hn, rfl, rfl, J1, hJ, Or.inl ⟨p, by rw [ec]; exact hp, rfl, rp⟩⟩⟩
        · skip
          iterate 5 (refine zv_step (bX7_place 124) rfl rfl trivial ?_)
          refine zv_iff (fun e => absurd ((lg_cmp_ge _ _).mp e) (by decide)) ?_
          iterate 2 (refine zv_step (bX7_place 124) rfl rfl trivial ?_)
          exact zv_lret (bX7_place 124) rfl rfl (Nat.zero_le _) (Nat.zero_le _) ⟨(upd o 28 (nI s)), J1, _, rfl, rfl, fun j a => upd_ne _ _ a, Or.inr ⟨s, n, by omega, hn, rfl, rfl, J1, hJ, Or.inr ⟨rfl, fun p hp => np p (by rw [← ec]; exact hp)⟩⟩⟩
      · have q31 : ctW h J1 = 0 := by
          have h9 := (lg_cmp_eq _ _).mp (Decidable.not_not.mp h31)
          exact (lN_eqJ (Nat.lt_of_le_of_lt (ctW_le hJ) (by decide)) (by decide)).mp h9
        iterate 1 (refine zv_step (bX7_place 124) rfl rfl trivial ?_)
        exact zv_lret (bX7_place 124) rfl rfl (Nat.zero_le _) (Nat.zero_le _) ⟨(upd o 28 (nI s)), J1, _, rfl, rfl, fun j a => upd_ne _ _ a, Or.inr ⟨s, n, by omega, hn, rfl, rfl, J1, hJ, Or.inr ⟨rfl, fun p hp => by rw [q31] at hp; omega⟩⟩⟩
    · skip
      iterate 1 (refine zv_step (bX7_place 124) rfl rfl trivial ?_)
      refine zv_iff (by decide) ?_
      iterate 1 (refine zv_step (bX7_place 124) rfl rfl trivial ?_)
      exact zv_lret (bX7_place 124) rfl rfl (Nat.zero_le _) (Nat.zero_le _) ⟨o, J, _, rfl, rfl, fun _ _ => rfl, Or.inl ⟨rfl, fun q => g2 (by have := q.2.1; have := q.2.2; omega)⟩⟩
  · try rw [Int32.toInt_toInt64] at g1
    iterate 1 (refine zv_step (bX7_place 124) rfl rfl trivial ?_)
    refine zv_ift (by decide) ?_
    iterate 1 (refine zv_step (bX7_place 124) rfl rfl trivial ?_)
    exact zv_lret (bX7_place 124) rfl rfl (Nat.zero_le _) (Nat.zero_le _) ⟨o, J, _, rfl, rfl, fun _ _ => rfl, Or.inl ⟨rfl, fun q => g1 q.1⟩⟩
end
section
/-! place: what both sides need of READINGS -/
theorem Rg_fu {E : Nat → Nat} {G : Nat → Int32} {lt : Nat → Nat → Bool} {L : Nat → Nat → Nat} {A : Nat → Nat → Int32} : ∀ (f i j p n : Nat), Rg E (mG E G lt L) L A f i j p n → ∀ f', j - i ≤ f' → Rg E (mG E G lt L) L A f' i j p n
  | 0, _, _, _, _, h => h.elim
  | f + 1, i, j, p, n, ⟨c, q, h1, h2, h3, h0, h4⟩ => fun f' hf => by
    obtain ⟨hw, _, _⟩ := mG_pos h3
    obtain ⟨hab, w0, w1, w7, w8, w9⟩ := wi_pos hw
    obtain ⟨g, rfl⟩ : ∃ g, f' = g + 1 := ⟨f' - 1, by omega⟩
    refine ⟨c, q, h1, h2, h3, h0, ?_⟩
    rcases h4 with h4 | h4 | ⟨k7, x, x1, x2, g2, g3, hr⟩ | ⟨k7, x, x1, x2, g2, g3, hr⟩ | ⟨k7, g1, x, x1, x2, g2, g3, hr⟩ | ⟨k1, k6, d, r, x, y, hc, hE, hq, hr, x1, x2, y1, y2, g2, g3, rx, ry⟩
    · exact Or.inl h4
    · exact Or.inr (Or.inl h4)
    · exact Or.inr (Or.inr (Or.inl ⟨k7, x, x1, x2, g2, g3, Rg_fu f _ _ _ x hr g (by omega)⟩))
    · exact Or.inr (Or.inr (Or.inr (Or.inl ⟨k7, x, x1, x2, g2, g3, Rg_fu f _ _ _ x hr g (by omega)⟩)))
    · exact Or.inr (Or.inr (Or.inr (Or.inr (Or.inl ⟨k7, g1, x, x1, x2, g2, g3, Rg_fu f _ _ _ x hr g (by omega)⟩))))
    · exact Or.inr (Or.inr (Or.inr (Or.inr (Or.inr ⟨k1, k6, d, r, x, y, hc, hE, hq, hr, x1, x2, y1, y2, g2, g3, Rg_fu f _ _ _ x rx g (by omega), Rg_fu f _ _ _ y ry g (by omega)⟩))))
/-- a READING begins with no pair's word -/
theorem Rg_first {E : Nat → Nat} {G : Nat → Int32} {lt : Nat → Nat → Bool} {L : Nat → Nat → Nat} {A : Nat → Nat → Int32} : ∀ (f i j p n : Nat), Rg E (mG E G lt L) L A f i j p n → E i < 20 ∨ 25 ≤ E i
  | 0, _, _, _, _, h => h.elim
  | f + 1, i, j, p, n, ⟨c, q, h1, h2, h3, h0, h4⟩ => by
    obtain ⟨hw, _, hb⟩ := mG_pos h3
    obtain ⟨hab, w0, w1, w7, w8, w9⟩ := wi_pos hw
    rcases hb with e | e
    · rw [e, Nat.add_zero] at w0 w1 w7 w8 w9 hab h4
      rcases (show c / 2 = 0 ∨ c / 2 = 1 ∨ (2 ≤ c / 2 ∧ c / 2 ≤ 6) ∨ c / 2 = 7 ∨ c / 2 = 8 ∨ c / 2 = 9 by omega) with k | k | ⟨k2, k6⟩ | k | k | k
      · have := (w0 k).2.1
        omega
      · have := (isNumB_at (w1 k).1).2.2 i (Nat.le_refl _) (by omega)
        omega
      · obtain ⟨d, r, x, y, _, _, _, _, _, _, _, _, _, _, rx, _⟩ := Gk_P h4 k2 k6
        exact Rg_first f _ _ _ x rx
      · have := (w7 k).1
        omega
      · have := (w8 k).1
        omega
      · have := (w9 k).1
        omega
    · omega
theorem ow_N {A : Nat → Nat → Int32} {n k : Nat} {v : Int32} (h0 : A 0 n = nI k) (hk : k < 10) (hv : k = 1 → cvI (A 1 n) = A 1 n) : owW (nI k) (cvI (A 1 n)) = nI (ownW A n) := by
  unfold owW ownW
  rw [h0, show Int32.ofInt 1 = nI 1 from rfl]
  by_cases e : k = 1
  · subst e
    rw [if_pos rfl, if_pos rfl, hv rfl]
    unfold dgN
    repeat' split
    all_goals rfl
  · rw [if_neg (fun q => e ((nI_eq (by omega) (by decide)).mp q)), if_neg (fun q => e ((nI_eq (by omega) (by decide)).mp q))]
    split <;> rfl
/-- the class's row of bare words -/
theorem bw_P8 {u : Nat} (hu : u ≤ 120) {P A : Nat → Nat → Int32} (hT : tbI 0 u A) (hN : NR u P A) : ∀ (z n : Nat), n < u → szN A n ≤ z → P 8 n = nI (bwW A z (nI n)) ∧ bwW A z (nI n) ≤ 4 * szN A n ∧ 1 ≤ bwW A z (nI n)
  | 0, n, hn, hz => by
    have := (rN_sz (hT n (Nat.zero_le _) hn)).1
    omega
  | z + 1, n, hn, hz => by
    obtain ⟨n1, n2, n3, n4, n5, _, _, c8', _⟩ := hN n hn
    obtain ⟨k, h0, hk, hs, h40, hv⟩ := rN_val (hT n (Nat.zero_le _) hn)
    have ho := ownW_le A n
    have e8 : owW (P 2 n) (P 3 n) = nI (ownW A n) := by
      rw [n1, n2, h0]
      refine ow_N (v := 0) h0 hk (fun e => ?_)
      obtain ⟨v, hv9, ev⟩ := hv.2.1 e
      rw [ev, cvI_nI (by omega)]
    rw [bwW_nI (by omega), c8', e8, n3, n4]
    rcases hs with ⟨k1, h2, h3, es⟩ | ⟨k1, k6, c, d, h2, la, hc, h3, lb, hd, es⟩ | ⟨k1, c, h2, la, hc, h3, es⟩
    · rw [h2, h3, cvI_m2, bwW_m2]
      refine ⟨?_, by omega, by omega⟩
      show nI _ + nI 0 + nI 0 = _
      rw [nI_add, nI_add]
    · obtain ⟨p1, p2, _⟩ := bw_P8 hu hT hN z c (by omega) (by omega)
      obtain ⟨q1, q2, _⟩ := bw_P8 hu hT hN z d (by omega) (by omega)
      rw [h2, h3, cvI_nI (by omega), cvI_nI (by omega), pvI_nI _ (by omega), pvI_nI _ (by omega), p1, q1, nI_add, nI_add]
      exact ⟨rfl, by omega, by omega⟩
    · obtain ⟨p1, p2, _⟩ := bw_P8 hu hT hN z c (by omega) (by omega)
      rw [h2, h3, cvI_m2, bwW_m2, cvI_nI (by omega), pvI_nI _ (by omega), p1]
      refine ⟨?_, by omega, by omega⟩
      show nI _ + nI _ + nI 0 = _
      rw [nI_add, nI_add]
theorem btR_lo {x : Int32} {K : Nat → Bool} (h : btR x K) {q : Nat} (hq : q < 10) : btR ((Int32.ofInt 1 <<< (nI q &&& 31) - Int32.ofInt 1) &&& x) (fun k => K k && decide (k < q)) := by
  obtain ⟨m, hm, rfl, hb⟩ := h
  refine ⟨(2 ^ q - 1) &&& m, Nat.lt_of_le_of_lt Nat.and_le_right hm, by rw [shl_k q hq, show Int32.ofInt 1 = nI 1 from rfl, nI_sub (Nat.one_le_two_pow), nI_and], fun k hk => ?_⟩
  rw [Nat.testBit_and, Nat.testBit_two_pow_sub_one, hb k hk, Bool.and_comm]
theorem btR_one {q : Nat} (hq : q < 10) : btR (Int32.ofInt 1 <<< (nI q &&& 31)) (fun k => true && decide (k = q)) := by
  refine ⟨2 ^ q, Nat.lt_of_lt_of_le (Nat.pow_lt_pow_right (by decide) hq) (by decide), shl_k q hq, fun k _ => ?_⟩
  rw [Nat.testBit_two_pow]
  show decide (q = k) = decide (k = q)
  by_cases e : k = q
  · subst e
    rfl
  · rw [decide_eq_false e, decide_eq_false (fun h => e h.symm)]
theorem btR_z {x : Int32} {K : Nat → Bool} (h : btR x K) {q : Nat} (hq : q < 10) : x &&& (Int32.ofInt 1 <<< (nI q &&& 31)) = 0 ↔ K q = false := by
  obtain ⟨m, hm, rfl, hb⟩ := h
  rw [shl_k q hq, nI_and, show (0 : Int32) = nI 0 from rfl, nI_eq (by have := @Nat.and_le_left m (2 ^ q); omega) (by decide), ← hb q hq]
  constructor
  · intro e
    have := congrArg (fun t => Nat.testBit t q) e
    rw [Nat.testBit_and, Nat.testBit_two_pow, decide_eq_true rfl, Bool.and_true] at this
    rw [this]
    exact Nat.zero_testBit q
  · intro e
    refine Nat.eq_of_testBit_eq (fun k => ?_)
    rw [Nat.testBit_and, Nat.testBit_two_pow, Nat.zero_testBit]
    by_cases w : q = k
    · subst w
      rw [e]
      rfl
    · rw [decide_eq_false w, Bool.and_false]
theorem kS_lo {K : Nat → Bool} {w : Nat → Nat} {q : Nat} : ∀ c, kS (fun k => K k && decide (k < q)) w c = kS K w (if c ≤ q then c else q)
  | 0 => by rw [if_pos (Nat.zero_le _)]; rfl
  | c + 1 => by
    show kS (fun k => K k && decide (k < q)) w c + (if (K c && decide (c < q)) = true then w c else 0) = _
    rw [kS_lo c]
    by_cases e : c < q
    · rw [if_pos (show c ≤ q by omega), if_pos (show c + 1 ≤ q by omega), decide_eq_true e, Bool.and_true]
      rfl
    · rw [decide_eq_false e, Bool.and_false, if_neg (show ¬ (false = true) by decide), Nat.add_zero, if_neg (show ¬ c + 1 ≤ q by omega)]
      by_cases e2 : c ≤ q
      · rw [if_pos e2, show c = q by omega]
      · rw [if_neg e2]
/-- what stands ahead of a KIND -/
theorem ah_sW {E : Nat → Nat} {G : Nat → Int32} {lt : Nat → Nat → Bool} {L : Nat → Nat → Nat} {a b k : Nat} (hk : k < 10) : bS E G L (fun j => lt j 0 && decide (j < k)) a b + (if brE E a b then bS E G L (fun j => lt j 1 && decide (j < k)) (a + 1) (b - 1) else 0) = sW (mG E G lt L a b) (2 * k) := by
  rw [sW_mG]
  unfold bS
  rw [kS_lo, kS_lo, if_neg (show ¬ 10 ≤ k by omega)]
theorem spn_s (g : Nat → Nat) {a m : Nat} (h : a ≤ m) : spn g a (m + 1) = spn g a m + g m := by
  rw [spn_split g h (Nat.le_succ m), spn_one]
theorem gO_le (E : Nat → Nat) (m : Nat) : gO E m ≤ 1 := by
  unfold gO
  split <;> omega
theorem spn_le {g : Nat → Nat} (h : ∀ m, g m ≤ 1) {a : Nat} : ∀ c, spn g a (a + c) ≤ c
  | 0 => by rw [Nat.add_zero, spn_0]; exact Nat.le_refl _
  | c + 1 => by
    rw [show a + (c + 1) = a + c + 1 by omega, spn_s g (by omega)]
    have := spn_le h (a := a) c
    have := h (a + c)
    omega
/-- where a pair's cut stands, its first PART's bare words have passed -/
theorem cut_bw {E : Nat → Nat} {G : Nat → Int32} {lt : Nat → Nat → Bool} {L : Nat → Nat → Nat} {A : Nat → Nat → Int32} {f a m p x : Nat} (hx : x < 450) (hm : m - a ≤ 40) (h : Rg E (mG E G lt L) L A f a m p x) : spn (gO E) a m = bwW A 40 (nI x) := (Rg_cnt 40 a m p x hx (Rg_fu f a m p x h 40 hm)).2
end
