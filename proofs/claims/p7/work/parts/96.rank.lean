set_option maxHeartbeats 1000000 in
set_option maxRecDepth 20000 in
theorem inn2 (f : Nat → zC) (o : Nat → Int32) (A : Nat → Nat → Int32) (J : Nat → Nat → Int64) {lo hi : Nat} (hh0 : hi ≤ 450) (hT : tbI lo hi A) {h : Nat} (hh : h ≤ 20) (hw : nnW h (A 8)) {s : Nat} (hJ : okJ h A s J) {z : Nat} (ih : ∀ (n i j : Nat) (y z' : Int32), y = nI i → z' = nI j → lo ≤ n → n < hi → szN A n ≤ z → i ≤ 30 → j ≤ h → zK (3 * z + 3) zX7_rank [.ref 76, .int (nI n), .int y, .int z'] (wR f o A J) (fun r w' => w' = (wR f o A J) ∧ ∃ v : Int64, r = some (.long v))) {n a b : Nat} (hlo : lo ≤ n) (hn : n < hi) (hz : szN A n ≤ z + 1) (hab : a < b) (hb : b ≤ h) {x y : Nat} (h2 : A 2 n = nI x) (h3 : A 3 n = nI y) (lx : lo ≤ x) (hx : x < n) (ly : lo ≤ y) (hy : y < n) (hsx : szN A x ≤ z) (hsy : szN A y ≤ z) {n0 : Nat} : ∀ (w m : Nat), b - 1 - m = w → a + 1 ≤ m → m ≤ 21 → ∀ {x6 : Int32} {v4 : Int64}, x6 = nI m → zV (zMo (3 * z + 4) zX7_innerTwo) false n0 0 0 8 [(6, .int x6), (4, .long v4), (0, .ref 76), (1, .int (nI n)), (2, .int (nI a)), (3, .int (nI b))] [] (wR f o A J) (fun r w' => w' = (wR f o A J) ∧ ∃ v : Int64, r = some (.long v)) := by
  intro w
  induction w with
  | zero =>
    intro m hm hm1 hm2 x6 v4 e6
    subst e6
    iterate 5 (refine zv_step (bX7_innerTwo (3 * z + 4)) rfl rfl trivial ?_)
    refine zv_ift (show nI b - Int32.ofInt 1 ≤ nI m by rw [sub_1 (by omega)]; exact nI_le (by omega) (by omega)) ?_
    iterate 1 (refine zv_step (bX7_innerTwo (3 * z + 4)) rfl rfl trivial ?_)
    exact zv_lret (bX7_innerTwo (3 * z + 4)) rfl rfl (Nat.zero_le _) (Nat.zero_le _) ⟨rfl, _, rfl⟩
  | succ w ih2 =>
    intro m hm hm1 hm2 x6 v4 e6
    subst e6
    iterate 5 (refine zv_step (bX7_innerTwo (3 * z + 4)) rfl rfl trivial ?_)
    refine zv_iff (show ¬ nI b - Int32.ofInt 1 ≤ nI m by rw [sub_1 (by omega)]; exact fun h => absurd ((nI_leI (by omega) (by omega)).mp h) (by omega)) ?_
    iterate 3 (refine zv_step (bX7_innerTwo (3 * z + 4)) rfl rfl trivial ?_)
    refine zv_step (bX7_innerTwo (3 * z + 4)) rfl rfl (vp_in_nI (by omega) (by decide)) ?_
    iterate 4 (refine zv_step (bX7_innerTwo (3 * z + 4)) rfl rfl trivial ?_)
    refine zv_step (bX7_innerTwo (3 * z + 4)) rfl rfl (vp_in_nI (by omega) (by decide)) ?_
    iterate 2 (refine zv_step (bX7_innerTwo (3 * z + 4)) rfl rfl trivial ?_)
    refine zv_ifb (fun h32 => ?_) (fun h32 => ?_)
    · iterate 2 (refine zv_step (bX7_innerTwo (3 * z + 4)) rfl rfl trivial ?_)
      refine zv_locals (l := [(6, .int (nI m + Int32.ofInt 1)), (4, .long v4), (0, .ref 76), (1, .int (nI n)), (2, .int (nI a)), (3, .int (nI b))]) (l' := [(6, .int (nI m + Int32.ofInt 1)), (4, .long v4), (0, .ref 76), (1, .int (nI n)), (2, .int (nI a)), (3, .int (nI b))]) (fun q h => h) (ih2 (m + 1) (by omega) (by omega) (by omega) (nI_1 m))
    · iterate 9 (refine zv_step (bX7_innerTwo (3 * z + 4)) rfl rfl trivial ?_)
      refine zv_lale (bX7_innerTwo (3 * z + 4)) rfl rfl (show vp_in (c8 21 * (nI m + Int32.ofInt 1) + nI b) 441 by rw [show nI m + Int32.ofInt 1 = nI (m + 1) from nI_1 m, ix21]; exact vp_in_nI (by omega) (by decide)) (show J 1 (c8 21 * (nI m + Int32.ofInt 1) + nI b).toNatClampNeg = lN (lW J (m + 1) (b)) by rw [show nI m + Int32.ofInt 1 = nI (m + 1) from nI_1 m, ix21, nI_clamp (by omega)]; exact (okS_l (hJ (m + 1) (b) (by omega) (by omega))).2.2) ?_
      iterate 5 (refine zv_step (bX7_innerTwo (3 * z + 4)) rfl rfl trivial ?_)
      refine zv_ifb (fun h55 => ?_) (fun h55 => ?_)
      · iterate 6 (refine zv_step (bX7_innerTwo (3 * z + 4)) rfl rfl trivial ?_)
        refine zv_ifb (fun h100 => ?_) (fun h100 => ?_)
        · iterate 6 (refine zv_step (bX7_innerTwo (3 * z + 4)) rfl rfl trivial ?_)
          refine zv_ifb (fun h130 => ?_) (fun h130 => ?_)
          · iterate 8 (refine zv_step (bX7_innerTwo (3 * z + 4)) rfl rfl trivial ?_)
            refine zv_lale (bX7_innerTwo (3 * z + 4)) rfl rfl (show vp_in (c8 21 * nI a + nI m) 441 by rw [ix21]; exact vp_in_nI (by omega) (by decide)) (show J 1 (c8 21 * nI a + nI m).toNatClampNeg = lN (lW J (a) (m)) by rw [ix21, nI_clamp (by omega)]; exact (okS_l (hJ (a) (m) (by omega) (by omega))).2.2) ?_
            iterate 1 (refine zv_step (bX7_innerTwo (3 * z + 4)) rfl rfl trivial ?_)
            refine zv_S2 (bX7_innerTwo (3 * z + 4)) rfl rfl rfl rfl ⟨rfl, rfl, rfl⟩ ⟨by show 0 + 1 ≤ 3 * z + 4; omega, by show 8 + (4 + 11) + 64 * (0) ≤ 64 * (3 * z + 4); omega⟩ ⟨Nat.zero_le _, Nat.zero_le _⟩ (mMul _ (okS_l (hJ a m (by omega) (by omega))).2.1 (okS_l (hJ (m + 1) b (by omega) (by omega))).2.1) ?_
            rintro _ _ ⟨rfl, rfl⟩
            iterate 4 (refine zv_step (bX7_innerTwo (3 * z + 4)) rfl rfl trivial ?_)
            refine zv_locals (l := [(6, .int (nI m + Int32.ofInt 1)), (4, .long (v4 + lN (tmW (lW J a m) (lW J (m + 1) b)))), (11, .long (Int64.ofInt (-1))), (9, .long (Int64.ofInt (-1))), (7, .long (lN (lW J (m + 1) b))), (0, .ref 76), (1, .int (nI n)), (2, .int (nI a)), (3, .int (nI b))]) (l' := [(6, .int (nI m + Int32.ofInt 1)), (4, .long (v4 + lN (tmW (lW J a m) (lW J (m + 1) b)))), (0, .ref 76), (1, .int (nI n)), (2, .int (nI a)), (3, .int (nI b))]) ?_ (ih2 (m + 1) (by omega) (by omega) (by omega) (nI_1 m))
            simp
          · iterate 7 (refine zv_step (bX7_innerTwo (3 * z + 4)) rfl rfl trivial ?_)
            exact zv_lret (bX7_innerTwo (3 * z + 4)) rfl rfl (Nat.zero_le _) (Nat.zero_le _) ⟨rfl, _, rfl⟩
        · iterate 4 (refine zv_step (bX7_innerTwo (3 * z + 4)) rfl rfl trivial ?_)
          refine zv_iale (bX7_innerTwo (3 * z + 4)) rfl rfl (vp_in_nI (by omega) (by decide)) (show A 3 (nI n).toNatClampNeg = nI y by rw [nI_clamp (by omega)]; exact h3) ?_
          iterate 4 (refine zv_step (bX7_innerTwo (3 * z + 4)) rfl rfl trivial ?_)
          refine zv_V3 (bX7_innerTwo (3 * z + 4)) rfl rfl rfl rfl rfl rfl rfl ⟨rfl, rfl, rfl⟩ ⟨by show 3 * z + 3 + 1 ≤ 3 * z + 4; omega, by show 8 + (8 + 11) + 64 * (3 * z + 3) ≤ 64 * (3 * z + 4); omega⟩ ⟨Nat.zero_le _, Nat.zero_le _⟩ (ih y (m + 1) b _ _ (nI_1 m) rfl ly (by omega) hsy (by omega) (by omega)) ?_
          rintro _ _ ⟨rfl, v115, rfl⟩
          iterate 6 (refine zv_step (bX7_innerTwo (3 * z + 4)) rfl rfl trivial ?_)
          refine zv_ifb (fun h130 => ?_) (fun h130 => ?_)
          · iterate 8 (refine zv_step (bX7_innerTwo (3 * z + 4)) rfl rfl trivial ?_)
            refine zv_lale (bX7_innerTwo (3 * z + 4)) rfl rfl (show vp_in (c8 21 * nI a + nI m) 441 by rw [ix21]; exact vp_in_nI (by omega) (by decide)) (show J 1 (c8 21 * nI a + nI m).toNatClampNeg = lN (lW J (a) (m)) by rw [ix21, nI_clamp (by omega)]; exact (okS_l (hJ (a) (m) (by omega) (by omega))).2.2) ?_
            iterate 1 (refine zv_step (bX7_innerTwo (3 * z + 4)) rfl rfl trivial ?_)
            refine zv_S2 (bX7_innerTwo (3 * z + 4)) rfl rfl rfl rfl ⟨rfl, rfl, rfl⟩ ⟨by show 0 + 1 ≤ 3 * z + 4; omega, by show 8 + (4 + 11) + 64 * (0) ≤ 64 * (3 * z + 4); omega⟩ ⟨Nat.zero_le _, Nat.zero_le _⟩ (mMul _ (okS_l (hJ a m (by omega) (by omega))).2.1 (okS_l (hJ (m + 1) b (by omega) (by omega))).2.1) ?_
            rintro _ _ ⟨rfl, rfl⟩
            iterate 4 (refine zv_step (bX7_innerTwo (3 * z + 4)) rfl rfl trivial ?_)
            refine zv_locals (l := [(6, .int (nI m + Int32.ofInt 1)), (4, .long (v4 + lN (tmW (lW J a m) (lW J (m + 1) b)))), (11, .long (v115)), (9, .long (Int64.ofInt (-1))), (7, .long (lN (lW J (m + 1) b))), (0, .ref 76), (1, .int (nI n)), (2, .int (nI a)), (3, .int (nI b))]) (l' := [(6, .int (nI m + Int32.ofInt 1)), (4, .long (v4 + lN (tmW (lW J a m) (lW J (m + 1) b)))), (0, .ref 76), (1, .int (nI n)), (2, .int (nI a)), (3, .int (nI b))]) ?_ (ih2 (m + 1) (by omega) (by omega) (by omega) (nI_1 m))
            simp
          · iterate 7 (refine zv_step (bX7_innerTwo (3 * z + 4)) rfl rfl trivial ?_)
            exact zv_lret (bX7_innerTwo (3 * z + 4)) rfl rfl (Nat.zero_le _) (Nat.zero_le _) ⟨rfl, _, rfl⟩
      · iterate 7 (refine zv_step (bX7_innerTwo (3 * z + 4)) rfl rfl trivial ?_)
        refine zv_lale (bX7_innerTwo (3 * z + 4)) rfl rfl (show vp_in (c8 21 * nI a + nI m) 441 by rw [ix21]; exact vp_in_nI (by omega) (by decide)) (show J 1 (c8 21 * nI a + nI m).toNatClampNeg = lN (lW J (a) (m)) by rw [ix21, nI_clamp (by omega)]; exact (okS_l (hJ (a) (m) (by omega) (by omega))).2.2) ?_
        iterate 3 (refine zv_step (bX7_innerTwo (3 * z + 4)) rfl rfl trivial ?_)
        refine zv_ifb (fun h72 => ?_) (fun h72 => ?_)
        · iterate 6 (refine zv_step (bX7_innerTwo (3 * z + 4)) rfl rfl trivial ?_)
          refine zv_ifb (fun h100 => ?_) (fun h100 => ?_)
          · iterate 6 (refine zv_step (bX7_innerTwo (3 * z + 4)) rfl rfl trivial ?_)
            refine zv_ifb (fun h130 => ?_) (fun h130 => ?_)
            · iterate 8 (refine zv_step (bX7_innerTwo (3 * z + 4)) rfl rfl trivial ?_)
              refine zv_lale (bX7_innerTwo (3 * z + 4)) rfl rfl (show vp_in (c8 21 * nI a + nI m) 441 by rw [ix21]; exact vp_in_nI (by omega) (by decide)) (show J 1 (c8 21 * nI a + nI m).toNatClampNeg = lN (lW J (a) (m)) by rw [ix21, nI_clamp (by omega)]; exact (okS_l (hJ (a) (m) (by omega) (by omega))).2.2) ?_
              iterate 1 (refine zv_step (bX7_innerTwo (3 * z + 4)) rfl rfl trivial ?_)
              refine zv_S2 (bX7_innerTwo (3 * z + 4)) rfl rfl rfl rfl ⟨rfl, rfl, rfl⟩ ⟨by show 0 + 1 ≤ 3 * z + 4; omega, by show 8 + (4 + 11) + 64 * (0) ≤ 64 * (3 * z + 4); omega⟩ ⟨Nat.zero_le _, Nat.zero_le _⟩ (mMul _ (okS_l (hJ a m (by omega) (by omega))).2.1 (okS_l (hJ (m + 1) b (by omega) (by omega))).2.1) ?_
              rintro _ _ ⟨rfl, rfl⟩
              iterate 4 (refine zv_step (bX7_innerTwo (3 * z + 4)) rfl rfl trivial ?_)
              refine zv_locals (l := [(6, .int (nI m + Int32.ofInt 1)), (4, .long (v4 + lN (tmW (lW J a m) (lW J (m + 1) b)))), (11, .long (Int64.ofInt (-1))), (9, .long (Int64.ofInt (-1))), (7, .long (lN (lW J (m + 1) b))), (0, .ref 76), (1, .int (nI n)), (2, .int (nI a)), (3, .int (nI b))]) (l' := [(6, .int (nI m + Int32.ofInt 1)), (4, .long (v4 + lN (tmW (lW J a m) (lW J (m + 1) b)))), (0, .ref 76), (1, .int (nI n)), (2, .int (nI a)), (3, .int (nI b))]) ?_ (ih2 (m + 1) (by omega) (by omega) (by omega) (nI_1 m))
              simp
            · iterate 7 (refine zv_step (bX7_innerTwo (3 * z + 4)) rfl rfl trivial ?_)
              exact zv_lret (bX7_innerTwo (3 * z + 4)) rfl rfl (Nat.zero_le _) (Nat.zero_le _) ⟨rfl, _, rfl⟩
          · iterate 4 (refine zv_step (bX7_innerTwo (3 * z + 4)) rfl rfl trivial ?_)
            refine zv_iale (bX7_innerTwo (3 * z + 4)) rfl rfl (vp_in_nI (by omega) (by decide)) (show A 3 (nI n).toNatClampNeg = nI y by rw [nI_clamp (by omega)]; exact h3) ?_
            iterate 4 (refine zv_step (bX7_innerTwo (3 * z + 4)) rfl rfl trivial ?_)
            refine zv_V3 (bX7_innerTwo (3 * z + 4)) rfl rfl rfl rfl rfl rfl rfl ⟨rfl, rfl, rfl⟩ ⟨by show 3 * z + 3 + 1 ≤ 3 * z + 4; omega, by show 8 + (8 + 11) + 64 * (3 * z + 3) ≤ 64 * (3 * z + 4); omega⟩ ⟨Nat.zero_le _, Nat.zero_le _⟩ (ih y (m + 1) b _ _ (nI_1 m) rfl ly (by omega) hsy (by omega) (by omega)) ?_
            rintro _ _ ⟨rfl, v115, rfl⟩
            iterate 6 (refine zv_step (bX7_innerTwo (3 * z + 4)) rfl rfl trivial ?_)
            refine zv_ifb (fun h130 => ?_) (fun h130 => ?_)
            · iterate 8 (refine zv_step (bX7_innerTwo (3 * z + 4)) rfl rfl trivial ?_)
              refine zv_lale (bX7_innerTwo (3 * z + 4)) rfl rfl (show vp_in (c8 21 * nI a + nI m) 441 by rw [ix21]; exact vp_in_nI (by omega) (by decide)) (show J 1 (c8 21 * nI a + nI m).toNatClampNeg = lN (lW J (a) (m)) by rw [ix21, nI_clamp (by omega)]; exact (okS_l (hJ (a) (m) (by omega) (by omega))).2.2) ?_
              iterate 1 (refine zv_step (bX7_innerTwo (3 * z + 4)) rfl rfl trivial ?_)
              refine zv_S2 (bX7_innerTwo (3 * z + 4)) rfl rfl rfl rfl ⟨rfl, rfl, rfl⟩ ⟨by show 0 + 1 ≤ 3 * z + 4; omega, by show 8 + (4 + 11) + 64 * (0) ≤ 64 * (3 * z + 4); omega⟩ ⟨Nat.zero_le _, Nat.zero_le _⟩ (mMul _ (okS_l (hJ a m (by omega) (by omega))).2.1 (okS_l (hJ (m + 1) b (by omega) (by omega))).2.1) ?_
              rintro _ _ ⟨rfl, rfl⟩
              iterate 4 (refine zv_step (bX7_innerTwo (3 * z + 4)) rfl rfl trivial ?_)
              refine zv_locals (l := [(6, .int (nI m + Int32.ofInt 1)), (4, .long (v4 + lN (tmW (lW J a m) (lW J (m + 1) b)))), (11, .long (v115)), (9, .long (Int64.ofInt (-1))), (7, .long (lN (lW J (m + 1) b))), (0, .ref 76), (1, .int (nI n)), (2, .int (nI a)), (3, .int (nI b))]) (l' := [(6, .int (nI m + Int32.ofInt 1)), (4, .long (v4 + lN (tmW (lW J a m) (lW J (m + 1) b)))), (0, .ref 76), (1, .int (nI n)), (2, .int (nI a)), (3, .int (nI b))]) ?_ (ih2 (m + 1) (by omega) (by omega) (by omega) (nI_1 m))
              simp
            · iterate 7 (refine zv_step (bX7_innerTwo (3 * z + 4)) rfl rfl trivial ?_)
              exact zv_lret (bX7_innerTwo (3 * z + 4)) rfl rfl (Nat.zero_le _) (Nat.zero_le _) ⟨rfl, _, rfl⟩
        · iterate 4 (refine zv_step (bX7_innerTwo (3 * z + 4)) rfl rfl trivial ?_)
          refine zv_iale (bX7_innerTwo (3 * z + 4)) rfl rfl (vp_in_nI (by omega) (by decide)) (show A 2 (nI n).toNatClampNeg = nI x by rw [nI_clamp (by omega)]; exact h2) ?_
          iterate 2 (refine zv_step (bX7_innerTwo (3 * z + 4)) rfl rfl trivial ?_)
          refine zv_V3 (bX7_innerTwo (3 * z + 4)) rfl rfl rfl rfl rfl rfl rfl ⟨rfl, rfl, rfl⟩ ⟨by show 3 * z + 3 + 1 ≤ 3 * z + 4; omega, by show 8 + (8 + 11) + 64 * (3 * z + 3) ≤ 64 * (3 * z + 4); omega⟩ ⟨Nat.zero_le _, Nat.zero_le _⟩ (ih x a m _ _ rfl rfl lx (by omega) hsx (by omega) (by omega)) ?_
          rintro _ _ ⟨rfl, v85, rfl⟩
          iterate 6 (refine zv_step (bX7_innerTwo (3 * z + 4)) rfl rfl trivial ?_)
          refine zv_ifb (fun h100 => ?_) (fun h100 => ?_)
          · iterate 6 (refine zv_step (bX7_innerTwo (3 * z + 4)) rfl rfl trivial ?_)
            refine zv_ifb (fun h130 => ?_) (fun h130 => ?_)
            · iterate 8 (refine zv_step (bX7_innerTwo (3 * z + 4)) rfl rfl trivial ?_)
              refine zv_lale (bX7_innerTwo (3 * z + 4)) rfl rfl (show vp_in (c8 21 * nI a + nI m) 441 by rw [ix21]; exact vp_in_nI (by omega) (by decide)) (show J 1 (c8 21 * nI a + nI m).toNatClampNeg = lN (lW J (a) (m)) by rw [ix21, nI_clamp (by omega)]; exact (okS_l (hJ (a) (m) (by omega) (by omega))).2.2) ?_
              iterate 1 (refine zv_step (bX7_innerTwo (3 * z + 4)) rfl rfl trivial ?_)
              refine zv_S2 (bX7_innerTwo (3 * z + 4)) rfl rfl rfl rfl ⟨rfl, rfl, rfl⟩ ⟨by show 0 + 1 ≤ 3 * z + 4; omega, by show 8 + (4 + 11) + 64 * (0) ≤ 64 * (3 * z + 4); omega⟩ ⟨Nat.zero_le _, Nat.zero_le _⟩ (mMul _ (okS_l (hJ a m (by omega) (by omega))).2.1 (okS_l (hJ (m + 1) b (by omega) (by omega))).2.1) ?_
              rintro _ _ ⟨rfl, rfl⟩
              iterate 4 (refine zv_step (bX7_innerTwo (3 * z + 4)) rfl rfl trivial ?_)
              refine zv_locals (l := [(6, .int (nI m + Int32.ofInt 1)), (4, .long (v4 + lN (tmW (lW J a m) (lW J (m + 1) b)))), (11, .long (Int64.ofInt (-1))), (9, .long (v85)), (7, .long (lN (lW J (m + 1) b))), (0, .ref 76), (1, .int (nI n)), (2, .int (nI a)), (3, .int (nI b))]) (l' := [(6, .int (nI m + Int32.ofInt 1)), (4, .long (v4 + lN (tmW (lW J a m) (lW J (m + 1) b)))), (0, .ref 76), (1, .int (nI n)), (2, .int (nI a)), (3, .int (nI b))]) ?_ (ih2 (m + 1) (by omega) (by omega) (by omega) (nI_1 m))
              simp
            · iterate 7 (refine zv_step (bX7_innerTwo (3 * z + 4)) rfl rfl trivial ?_)
              exact zv_lret (bX7_innerTwo (3 * z + 4)) rfl rfl (Nat.zero_le _) (Nat.zero_le _) ⟨rfl, _, rfl⟩
          · iterate 4 (refine zv_step (bX7_innerTwo (3 * z + 4)) rfl rfl trivial ?_)
            refine zv_iale (bX7_innerTwo (3 * z + 4)) rfl rfl (vp_in_nI (by omega) (by decide)) (show A 3 (nI n).toNatClampNeg = nI y by rw [nI_clamp (by omega)]; exact h3) ?_
            iterate 4 (refine zv_step (bX7_innerTwo (3 * z + 4)) rfl rfl trivial ?_)
            refine zv_V3 (bX7_innerTwo (3 * z + 4)) rfl rfl rfl rfl rfl rfl rfl ⟨rfl, rfl, rfl⟩ ⟨by show 3 * z + 3 + 1 ≤ 3 * z + 4; omega, by show 8 + (8 + 11) + 64 * (3 * z + 3) ≤ 64 * (3 * z + 4); omega⟩ ⟨Nat.zero_le _, Nat.zero_le _⟩ (ih y (m + 1) b _ _ (nI_1 m) rfl ly (by omega) hsy (by omega) (by omega)) ?_
            rintro _ _ ⟨rfl, v115, rfl⟩
            iterate 6 (refine zv_step (bX7_innerTwo (3 * z + 4)) rfl rfl trivial ?_)
            refine zv_ifb (fun h130 => ?_) (fun h130 => ?_)
            · iterate 8 (refine zv_step (bX7_innerTwo (3 * z + 4)) rfl rfl trivial ?_)
              refine zv_lale (bX7_innerTwo (3 * z + 4)) rfl rfl (show vp_in (c8 21 * nI a + nI m) 441 by rw [ix21]; exact vp_in_nI (by omega) (by decide)) (show J 1 (c8 21 * nI a + nI m).toNatClampNeg = lN (lW J (a) (m)) by rw [ix21, nI_clamp (by omega)]; exact (okS_l (hJ (a) (m) (by omega) (by omega))).2.2) ?_
              iterate 1 (refine zv_step (bX7_innerTwo (3 * z + 4)) rfl rfl trivial ?_)
              refine zv_S2 (bX7_innerTwo (3 * z + 4)) rfl rfl rfl rfl ⟨rfl, rfl, rfl⟩ ⟨by show 0 + 1 ≤ 3 * z + 4; omega, by show 8 + (4 + 11) + 64 * (0) ≤ 64 * (3 * z + 4); omega⟩ ⟨Nat.zero_le _, Nat.zero_le _⟩ (mMul _ (okS_l (hJ a m (by omega) (by omega))).2.1 (okS_l (hJ (m + 1) b (by omega) (by omega))).2.1) ?_
              rintro _ _ ⟨rfl, rfl⟩
              iterate 4 (refine zv_step (bX7_innerTwo (3 * z + 4)) rfl rfl trivial ?_)
              refine zv_locals (l := [(6, .int (nI m + Int32.ofInt 1)), (4, .long (v4 + lN (tmW (lW J a m) (lW J (m + 1) b)))), (11, .long (v115)), (9, .long (v85)), (7, .long (lN (lW J (m + 1) b))), (0, .ref 76), (1, .int (nI n)), (2, .int (nI a)), (3, .int (nI b))]) (l' := [(6, .int (nI m + Int32.ofInt 1)), (4, .long (v4 + lN (tmW (lW J a m) (lW J (m + 1) b)))), (0, .ref 76), (1, .int (nI n)), (2, .int (nI a)), (3, .int (nI b))]) ?_ (ih2 (m + 1) (by omega) (by omega) (by omega) (nI_1 m))
              simp
            · iterate 7 (refine zv_step (bX7_innerTwo (3 * z + 4)) rfl rfl trivial ?_)
              exact zv_lret (bX7_innerTwo (3 * z + 4)) rfl rfl (Nat.zero_le _) (Nat.zero_le _) ⟨rfl, _, rfl⟩
set_option maxHeartbeats 1000000 in
set_option maxRecDepth 20000 in
theorem mInn2 (f : Nat → zC) (o : Nat → Int32) (A : Nat → Nat → Int32) (J : Nat → Nat → Int64) {lo hi : Nat} (hh0 : hi ≤ 450) (hT : tbI lo hi A) {h : Nat} (hh : h ≤ 20) (hw : nnW h (A 8)) {s : Nat} (hJ : okJ h A s J) {z : Nat} (ih : ∀ (n i j : Nat) (y z' : Int32), y = nI i → z' = nI j → lo ≤ n → n < hi → szN A n ≤ z → i ≤ 30 → j ≤ h → zK (3 * z + 3) zX7_rank [.ref 76, .int (nI n), .int y, .int z'] (wR f o A J) (fun r w' => w' = (wR f o A J) ∧ ∃ v : Int64, r = some (.long v))) {n a b : Nat} (hlo : lo ≤ n) (hn : n < hi) (hz : szN A n ≤ z + 1) (hab : a < b) (hb : b ≤ h) {x y : Nat} (h2 : A 2 n = nI x) (h3 : A 3 n = nI y) (lx : lo ≤ x) (hx : x < n) (ly : lo ≤ y) (hy : y < n) (hsx : szN A x ≤ z) (hsy : szN A y ≤ z) : zK (3 * z + 4) zX7_innerTwo [.ref 76, .int (nI n), .int (nI a), .int (nI b)] (wR f o A J) (fun r w' => w' = (wR f o A J) ∧ ∃ v : Int64, r = some (.long v)) := by
  refine zK_of qX7_innerTwo (by decide +kernel) rfl ?_
  iterate 6 (refine zv_step (bX7_innerTwo (3 * z + 4)) rfl rfl trivial ?_)
  refine zv_locals (l := [(6, .int (nI a + Int32.ofInt 1)), (4, .long (lN 0)), (0, .ref 76), (1, .int (nI n)), (2, .int (nI a)), (3, .int (nI b))]) (l' := [(6, .int (nI a + Int32.ofInt 1)), (4, .long (lN 0)), (0, .ref 76), (1, .int (nI n)), (2, .int (nI a)), (3, .int (nI b))]) (fun q h => h) (inn2 f o A J hh0 hT hh hw hJ ih hlo hn hz hab hb h2 h3 lx hx ly hy hsx hsy (b - 1 - (a + 1)) (a + 1) rfl (Nat.le_refl _) (by omega) (nI_1 a))
set_option maxHeartbeats 1000000 in
set_option maxRecDepth 20000 in
theorem innN (f : Nat → zC) (o : Nat → Int32) (A : Nat → Nat → Int32) (J : Nat → Nat → Int64) {n a b h z : Nat} (hn : n < 450) (hh : h ≤ 20) (hb : b ≤ h) {n0 : Nat} : ∀ (w m : Nat), m + w = b → ∀ {x5 v : Int32}, x5 = nI m → zV (zMo (3 * z + 5) zX7_inner) false n0 0 0 36 [(5, .int x5), (4, .int v), (0, .ref 76), (1, .int (nI n)), (2, .int (nI a)), (3, .int (nI b))] [] (wR f o A J) (fun r w' => w' = (wR f o A J) ∧ ∃ v : Int64, r = some (.long v)) := by
  intro w
  induction w with
  | zero =>
    intro m hm x5 v e5
    subst e5
    iterate 3 (refine zv_step (bX7_inner (3 * z + 5)) rfl rfl trivial ?_)
    refine zv_ift (nI_le (by omega) (by omega)) ?_
    iterate 4 (refine zv_step (bX7_inner (3 * z + 5)) rfl rfl trivial ?_)
    refine zv_step (bX7_inner (3 * z + 5)) rfl rfl (vp_in_nI (by omega) (by decide)) ?_
    iterate 1 (refine zv_step (bX7_inner (3 * z + 5)) rfl rfl trivial ?_)
    refine zv_ifb (fun h74 => ?_) (fun h74 => ?_)
    · iterate 1 (refine zv_step (bX7_inner (3 * z + 5)) rfl rfl trivial ?_)
      exact zv_lret (bX7_inner (3 * z + 5)) rfl rfl (Nat.zero_le _) (Nat.zero_le _) ⟨rfl, _, rfl⟩
    · iterate 2 (refine zv_step (bX7_inner (3 * z + 5)) rfl rfl trivial ?_)
      exact zv_lret (bX7_inner (3 * z + 5)) rfl rfl (Nat.zero_le _) (Nat.zero_le _) ⟨rfl, _, rfl⟩
  | succ w ih2 =>
    intro m hm x5 v e5
    subst e5
    iterate 3 (refine zv_step (bX7_inner (3 * z + 5)) rfl rfl trivial ?_)
    refine zv_iff (fun h => absurd ((nI_leI (by omega) (by omega)).mp h) (by omega)) ?_
    iterate 6 (refine zv_step (bX7_inner (3 * z + 5)) rfl rfl trivial ?_)
    refine zv_step (bX7_inner (3 * z + 5)) rfl rfl (vp_in_nI (by omega) (by decide)) ?_
    iterate 6 (refine zv_step (bX7_inner (3 * z + 5)) rfl rfl trivial ?_)
    refine zv_locals (l := [(5, .int (nI m + Int32.ofInt 1)), (4, .int (c8 10 * v + A 8 (nI m).toNatClampNeg - c8 10)), (0, .ref 76), (1, .int (nI n)), (2, .int (nI a)), (3, .int (nI b))]) (l' := [(5, .int (nI m + Int32.ofInt 1)), (4, .int (c8 10 * v + A 8 (nI m).toNatClampNeg - c8 10)), (0, .ref 76), (1, .int (nI n)), (2, .int (nI a)), (3, .int (nI b))]) (fun q h => h) (ih2 (m + 1) (by omega) (nI_1 m))
set_option maxHeartbeats 1000000 in
set_option maxRecDepth 20000 in
theorem mTwoL (w : zW) {k : Nat} (h1 : k < 2) : zK 0 zX7_isTwo [.int (nI k)] w (fun r w' => w' = w ∧ r = some (.int 0)) := by
  refine zK_of qX7_isTwo (by decide +kernel) rfl ?_
  iterate 3 (refine zv_step (bX7_isTwo 0) rfl rfl trivial ?_)
  refine zv_ift (show nI k < nI 2 from nI_lt h1 (by decide)) ?_
  iterate 1 (refine zv_step (bX7_isTwo 0) rfl rfl trivial ?_)
  exact zv_iret (bX7_isTwo 0) rfl (Or.inr ⟨rfl, Or.inl rfl⟩) (Nat.zero_le _) (Nat.zero_le _) ⟨rfl, rfl⟩
set_option maxHeartbeats 1000000 in
set_option maxRecDepth 20000 in
theorem mInner (f : Nat → zC) (o : Nat → Int32) (A : Nat → Nat → Int32) (J : Nat → Nat → Int64) {lo hi : Nat} (hh0 : hi ≤ 450) (hT : tbI lo hi A) {h : Nat} (hh : h ≤ 20) (hw : nnW h (A 8)) {s : Nat} (hJ : okJ h A s J) {z : Nat} (ih : ∀ (n i j : Nat) (y z' : Int32), y = nI i → z' = nI j → lo ≤ n → n < hi → szN A n ≤ z → i ≤ 30 → j ≤ h → zK (3 * z + 3) zX7_rank [.ref 76, .int (nI n), .int y, .int z'] (wR f o A J) (fun r w' => w' = (wR f o A J) ∧ ∃ v : Int64, r = some (.long v))) {n a b : Nat} (hlo : lo ≤ n) (hn : n < hi) (hz : szN A n ≤ z + 1) (hab : a < b) (hb : b ≤ h) {y z' : Int32} (ey : y = nI a) (ez : z' = nI b) : zK (3 * z + 5) zX7_inner [.ref 76, .int (nI n), .int y, .int z'] (wR f o A J) (fun r w' => w' = (wR f o A J) ∧ ∃ v : Int64, r = some (.long v)) := by
  subst ey ez
  obtain ⟨k, h0, hk, hs, h40, hv⟩ := rN_val (hT n hlo hn)
  refine zK_of qX7_inner (by decide +kernel) rfl ?_
  rcases hs with ⟨k1, h2, h3, es⟩ | ⟨k1, k6, x, y2, h2, la, ha, h3, lb, hb2, es⟩ | ⟨k1, x, h2, lx, hx, h3, es⟩
  · rcases (show k = 0 ∨ k = 1 by omega) with rfl | rfl
    · iterate 3 (refine zv_step (bX7_inner (3 * z + 5)) rfl rfl trivial ?_)
      refine zv_iale (bX7_inner (3 * z + 5)) rfl rfl (vp_in_nI (by omega) (by decide)) (show A 0 (nI n).toNatClampNeg = nI 0 by rw [nI_clamp (by omega)]; exact h0) ?_
      refine zv_S1 (bX7_inner (3 * z + 5)) rfl rfl rfl rfl ⟨rfl, rfl, rfl⟩ ⟨by show 0 + 1 ≤ 3 * z + 5; omega, by show 8 + (1 + 11) + 64 * (0) ≤ 64 * (3 * z + 5); omega⟩ ⟨Nat.zero_le _, Nat.zero_le _⟩ (mTwoL _ (k := 0) (by decide)) ?_
      rintro _ _ ⟨rfl, rfl⟩
      iterate 1 (refine zv_step (bX7_inner (3 * z + 5)) rfl rfl trivial ?_)
      refine zv_ift (by decide) ?_
      iterate 3 (refine zv_step (bX7_inner (3 * z + 5)) rfl rfl trivial ?_)
      refine zv_iale (bX7_inner (3 * z + 5)) rfl rfl (vp_in_nI (by omega) (by decide)) (show A 0 (nI n).toNatClampNeg = nI 0 by rw [nI_clamp (by omega)]; exact h0) ?_
      iterate 2 (refine zv_step (bX7_inner (3 * z + 5)) rfl rfl trivial ?_)
      refine zv_ift (by decide) ?_
      iterate 3 (refine zv_step (bX7_inner (3 * z + 5)) rfl rfl trivial ?_)
      refine zv_iale (bX7_inner (3 * z + 5)) rfl rfl (vp_in_nI (by omega) (by decide)) (show A 0 (nI n).toNatClampNeg = nI 0 by rw [nI_clamp (by omega)]; exact h0) ?_
      iterate 1 (refine zv_step (bX7_inner (3 * z + 5)) rfl rfl trivial ?_)
      refine zv_iff (by decide) ?_
      iterate 3 (refine zv_step (bX7_inner (3 * z + 5)) rfl rfl trivial ?_)
      refine zv_step (bX7_inner (3 * z + 5)) rfl rfl (vp_in_nI (by omega) (by decide)) ?_
      iterate 3 (refine zv_step (bX7_inner (3 * z + 5)) rfl rfl trivial ?_)
      refine zv_step (bX7_inner (3 * z + 5)) rfl rfl (vp_in_nI (by omega) (by decide)) ?_
      iterate 1 (refine zv_step (bX7_inner (3 * z + 5)) rfl rfl trivial ?_)
      refine zv_ifb (fun h106 => ?_) (fun h106 => ?_)
      · iterate 1 (refine zv_step (bX7_inner (3 * z + 5)) rfl rfl trivial ?_)
        exact zv_lret (bX7_inner (3 * z + 5)) rfl rfl (Nat.zero_le _) (Nat.zero_le _) ⟨rfl, _, rfl⟩
      · iterate 2 (refine zv_step (bX7_inner (3 * z + 5)) rfl rfl trivial ?_)
        exact zv_lret (bX7_inner (3 * z + 5)) rfl rfl (Nat.zero_le _) (Nat.zero_le _) ⟨rfl, _, rfl⟩
    · iterate 3 (refine zv_step (bX7_inner (3 * z + 5)) rfl rfl trivial ?_)
      refine zv_iale (bX7_inner (3 * z + 5)) rfl rfl (vp_in_nI (by omega) (by decide)) (show A 0 (nI n).toNatClampNeg = nI 1 by rw [nI_clamp (by omega)]; exact h0) ?_
      refine zv_S1 (bX7_inner (3 * z + 5)) rfl rfl rfl rfl ⟨rfl, rfl, rfl⟩ ⟨by show 0 + 1 ≤ 3 * z + 5; omega, by show 8 + (1 + 11) + 64 * (0) ≤ 64 * (3 * z + 5); omega⟩ ⟨Nat.zero_le _, Nat.zero_le _⟩ (mTwoL _ (k := 1) (by decide)) ?_
      rintro _ _ ⟨rfl, rfl⟩
      iterate 1 (refine zv_step (bX7_inner (3 * z + 5)) rfl rfl trivial ?_)
      refine zv_ift (by decide) ?_
      iterate 3 (refine zv_step (bX7_inner (3 * z + 5)) rfl rfl trivial ?_)
      refine zv_iale (bX7_inner (3 * z + 5)) rfl rfl (vp_in_nI (by omega) (by decide)) (show A 0 (nI n).toNatClampNeg = nI 1 by rw [nI_clamp (by omega)]; exact h0) ?_
      iterate 2 (refine zv_step (bX7_inner (3 * z + 5)) rfl rfl trivial ?_)
      refine zv_iff (by decide) ?_
      iterate 4 (refine zv_step (bX7_inner (3 * z + 5)) rfl rfl trivial ?_)
      refine zv_locals (l := [(5, .int (nI a)), (4, .int (Int32.ofInt 0)), (0, .ref 76), (1, .int (nI n)), (2, .int (nI a)), (3, .int (nI b))]) (l' := [(5, .int (nI a)), (4, .int (Int32.ofInt 0)), (0, .ref 76), (1, .int (nI n)), (2, .int (nI a)), (3, .int (nI b))]) (fun q h => h) (innN f o A J (by omega) hh hb (b - a) a (by omega) rfl)
  · have sx := (rN_sz (hT x la (by omega))).1
    have sy := (rN_sz (hT y2 lb (by omega))).1
    iterate 3 (refine zv_step (bX7_inner (3 * z + 5)) rfl rfl trivial ?_)
    refine zv_iale (bX7_inner (3 * z + 5)) rfl rfl (vp_in_nI (by omega) (by decide)) (show A 0 (nI n).toNatClampNeg = nI k by rw [nI_clamp (by omega)]; exact h0) ?_
    refine zv_S1 (bX7_inner (3 * z + 5)) rfl rfl rfl rfl ⟨rfl, rfl, rfl⟩ ⟨by show 0 + 1 ≤ 3 * z + 5; omega, by show 8 + (1 + 11) + 64 * (0) ≤ 64 * (3 * z + 5); omega⟩ ⟨Nat.zero_le _, Nat.zero_le _⟩ (mTwoY _ k1 k6) ?_
    rintro _ _ ⟨rfl, rfl⟩
    iterate 1 (refine zv_step (bX7_inner (3 * z + 5)) rfl rfl trivial ?_)
    refine zv_iff (by decide) ?_
    iterate 4 (refine zv_step (bX7_inner (3 * z + 5)) rfl rfl trivial ?_)
    refine zv_V3 (bX7_inner (3 * z + 5)) rfl rfl rfl rfl rfl rfl rfl ⟨rfl, rfl, rfl⟩ ⟨by show 3 * z + 4 + 1 ≤ 3 * z + 5; omega, by show 8 + (13 + 11) + 64 * (3 * z + 4) ≤ 64 * (3 * z + 5); omega⟩ ⟨Nat.zero_le _, Nat.zero_le _⟩ (mInn2 f o A J hh0 hT hh hw hJ ih hlo hn hz hab hb h2 h3 la ha lb hb2 (by omega) (by omega)) ?_
    rintro _ _ ⟨rfl, v, rfl⟩
    exact zv_lret (bX7_inner (3 * z + 5)) rfl rfl (Nat.zero_le _) (Nat.zero_le _) ⟨rfl, _, rfl⟩
  · rcases (show k = 7 ∨ k = 8 ∨ k = 9 by omega) with rfl | rfl | rfl
    · iterate 3 (refine zv_step (bX7_inner (3 * z + 5)) rfl rfl trivial ?_)
      refine zv_iale (bX7_inner (3 * z + 5)) rfl rfl (vp_in_nI (by omega) (by decide)) (show A 0 (nI n).toNatClampNeg = nI 7 by rw [nI_clamp (by omega)]; exact h0) ?_
      refine zv_S1 (bX7_inner (3 * z + 5)) rfl rfl rfl rfl ⟨rfl, rfl, rfl⟩ ⟨by show 0 + 1 ≤ 3 * z + 5; omega, by show 8 + (1 + 11) + 64 * (0) ≤ 64 * (3 * z + 5); omega⟩ ⟨Nat.zero_le _, Nat.zero_le _⟩ (mTwoN _ (k := 7) (by decide) (by decide)) ?_
      rintro _ _ ⟨rfl, rfl⟩
      iterate 1 (refine zv_step (bX7_inner (3 * z + 5)) rfl rfl trivial ?_)
      refine zv_ift (by decide) ?_
      iterate 3 (refine zv_step (bX7_inner (3 * z + 5)) rfl rfl trivial ?_)
      refine zv_iale (bX7_inner (3 * z + 5)) rfl rfl (vp_in_nI (by omega) (by decide)) (show A 0 (nI n).toNatClampNeg = nI 7 by rw [nI_clamp (by omega)]; exact h0) ?_
      iterate 2 (refine zv_step (bX7_inner (3 * z + 5)) rfl rfl trivial ?_)
      refine zv_ift (by decide) ?_
      iterate 3 (refine zv_step (bX7_inner (3 * z + 5)) rfl rfl trivial ?_)
      refine zv_iale (bX7_inner (3 * z + 5)) rfl rfl (vp_in_nI (by omega) (by decide)) (show A 0 (nI n).toNatClampNeg = nI 7 by rw [nI_clamp (by omega)]; exact h0) ?_
      iterate 1 (refine zv_step (bX7_inner (3 * z + 5)) rfl rfl trivial ?_)
      refine zv_ift (by decide) ?_
      iterate 3 (refine zv_step (bX7_inner (3 * z + 5)) rfl rfl trivial ?_)
      refine zv_iale (bX7_inner (3 * z + 5)) rfl rfl (vp_in_nI (by omega) (by decide)) (show A 0 (nI n).toNatClampNeg = nI 7 by rw [nI_clamp (by omega)]; exact h0) ?_
      iterate 2 (refine zv_step (bX7_inner (3 * z + 5)) rfl rfl trivial ?_)
      refine zv_ift (by decide) ?_
      iterate 4 (refine zv_step (bX7_inner (3 * z + 5)) rfl rfl trivial ?_)
      refine zv_iale (bX7_inner (3 * z + 5)) rfl rfl (vp_in_nI (by omega) (by decide)) (show A 2 (nI n).toNatClampNeg = nI x by rw [nI_clamp (by omega)]; exact h2) ?_
      iterate 6 (refine zv_step (bX7_inner (3 * z + 5)) rfl rfl trivial ?_)
      refine zv_iale (bX7_inner (3 * z + 5)) rfl rfl (vp_in_nI (by omega) (by decide)) (show A 0 (nI n).toNatClampNeg = nI 7 by rw [nI_clamp (by omega)]; exact h0) ?_
      iterate 2 (refine zv_step (bX7_inner (3 * z + 5)) rfl rfl trivial ?_)
      refine zv_ift (by decide) ?_
      iterate 1 (refine zv_step (bX7_inner (3 * z + 5)) rfl rfl trivial ?_)
      refine zv_V3 (bX7_inner (3 * z + 5)) rfl rfl rfl rfl rfl rfl rfl ⟨rfl, rfl, rfl⟩ ⟨by show 3 * z + 3 + 1 ≤ 3 * z + 5; omega, by show 8 + (8 + 11) + 64 * (3 * z + 3) ≤ 64 * (3 * z + 5); omega⟩ ⟨Nat.zero_le _, Nat.zero_le _⟩ (ih x (a + 1) (b) _ _ (nI_1 a) rfl lx (by omega) (by omega) (by omega) (by omega)) ?_
      rintro _ _ ⟨rfl, v, rfl⟩
      exact zv_lret (bX7_inner (3 * z + 5)) rfl rfl (Nat.zero_le _) (Nat.zero_le _) ⟨rfl, _, rfl⟩
    · iterate 3 (refine zv_step (bX7_inner (3 * z + 5)) rfl rfl trivial ?_)
      refine zv_iale (bX7_inner (3 * z + 5)) rfl rfl (vp_in_nI (by omega) (by decide)) (show A 0 (nI n).toNatClampNeg = nI 8 by rw [nI_clamp (by omega)]; exact h0) ?_
      refine zv_S1 (bX7_inner (3 * z + 5)) rfl rfl rfl rfl ⟨rfl, rfl, rfl⟩ ⟨by show 0 + 1 ≤ 3 * z + 5; omega, by show 8 + (1 + 11) + 64 * (0) ≤ 64 * (3 * z + 5); omega⟩ ⟨Nat.zero_le _, Nat.zero_le _⟩ (mTwoN _ (k := 8) (by decide) (by decide)) ?_
      rintro _ _ ⟨rfl, rfl⟩
      iterate 1 (refine zv_step (bX7_inner (3 * z + 5)) rfl rfl trivial ?_)
      refine zv_ift (by decide) ?_
      iterate 3 (refine zv_step (bX7_inner (3 * z + 5)) rfl rfl trivial ?_)
      refine zv_iale (bX7_inner (3 * z + 5)) rfl rfl (vp_in_nI (by omega) (by decide)) (show A 0 (nI n).toNatClampNeg = nI 8 by rw [nI_clamp (by omega)]; exact h0) ?_
      iterate 2 (refine zv_step (bX7_inner (3 * z + 5)) rfl rfl trivial ?_)
      refine zv_ift (by decide) ?_
      iterate 3 (refine zv_step (bX7_inner (3 * z + 5)) rfl rfl trivial ?_)
      refine zv_iale (bX7_inner (3 * z + 5)) rfl rfl (vp_in_nI (by omega) (by decide)) (show A 0 (nI n).toNatClampNeg = nI 8 by rw [nI_clamp (by omega)]; exact h0) ?_
      iterate 1 (refine zv_step (bX7_inner (3 * z + 5)) rfl rfl trivial ?_)
      refine zv_ift (by decide) ?_
      iterate 3 (refine zv_step (bX7_inner (3 * z + 5)) rfl rfl trivial ?_)
      refine zv_iale (bX7_inner (3 * z + 5)) rfl rfl (vp_in_nI (by omega) (by decide)) (show A 0 (nI n).toNatClampNeg = nI 8 by rw [nI_clamp (by omega)]; exact h0) ?_
      iterate 2 (refine zv_step (bX7_inner (3 * z + 5)) rfl rfl trivial ?_)
      refine zv_ift (by decide) ?_
      iterate 4 (refine zv_step (bX7_inner (3 * z + 5)) rfl rfl trivial ?_)
      refine zv_iale (bX7_inner (3 * z + 5)) rfl rfl (vp_in_nI (by omega) (by decide)) (show A 2 (nI n).toNatClampNeg = nI x by rw [nI_clamp (by omega)]; exact h2) ?_
      iterate 6 (refine zv_step (bX7_inner (3 * z + 5)) rfl rfl trivial ?_)
      refine zv_iale (bX7_inner (3 * z + 5)) rfl rfl (vp_in_nI (by omega) (by decide)) (show A 0 (nI n).toNatClampNeg = nI 8 by rw [nI_clamp (by omega)]; exact h0) ?_
      iterate 2 (refine zv_step (bX7_inner (3 * z + 5)) rfl rfl trivial ?_)
      refine zv_iff (by decide) ?_
      iterate 4 (refine zv_step (bX7_inner (3 * z + 5)) rfl rfl trivial ?_)
      refine zv_V3 (bX7_inner (3 * z + 5)) rfl rfl rfl rfl rfl rfl rfl ⟨rfl, rfl, rfl⟩ ⟨by show 3 * z + 3 + 1 ≤ 3 * z + 5; omega, by show 8 + (8 + 11) + 64 * (3 * z + 3) ≤ 64 * (3 * z + 5); omega⟩ ⟨Nat.zero_le _, Nat.zero_le _⟩ (ih x (a + 1) (b - 1) _ _ (nI_1 a) (sub_1 (by omega)) lx (by omega) (by omega) (by omega) (by omega)) ?_
      rintro _ _ ⟨rfl, v, rfl⟩
      exact zv_lret (bX7_inner (3 * z + 5)) rfl rfl (Nat.zero_le _) (Nat.zero_le _) ⟨rfl, _, rfl⟩
    · iterate 3 (refine zv_step (bX7_inner (3 * z + 5)) rfl rfl trivial ?_)
      refine zv_iale (bX7_inner (3 * z + 5)) rfl rfl (vp_in_nI (by omega) (by decide)) (show A 0 (nI n).toNatClampNeg = nI 9 by rw [nI_clamp (by omega)]; exact h0) ?_
      refine zv_S1 (bX7_inner (3 * z + 5)) rfl rfl rfl rfl ⟨rfl, rfl, rfl⟩ ⟨by show 0 + 1 ≤ 3 * z + 5; omega, by show 8 + (1 + 11) + 64 * (0) ≤ 64 * (3 * z + 5); omega⟩ ⟨Nat.zero_le _, Nat.zero_le _⟩ (mTwoN _ (k := 9) (by decide) (by decide)) ?_
      rintro _ _ ⟨rfl, rfl⟩
      iterate 1 (refine zv_step (bX7_inner (3 * z + 5)) rfl rfl trivial ?_)
      refine zv_ift (by decide) ?_
      iterate 3 (refine zv_step (bX7_inner (3 * z + 5)) rfl rfl trivial ?_)
      refine zv_iale (bX7_inner (3 * z + 5)) rfl rfl (vp_in_nI (by omega) (by decide)) (show A 0 (nI n).toNatClampNeg = nI 9 by rw [nI_clamp (by omega)]; exact h0) ?_
      iterate 2 (refine zv_step (bX7_inner (3 * z + 5)) rfl rfl trivial ?_)
      refine zv_ift (by decide) ?_
      iterate 3 (refine zv_step (bX7_inner (3 * z + 5)) rfl rfl trivial ?_)
      refine zv_iale (bX7_inner (3 * z + 5)) rfl rfl (vp_in_nI (by omega) (by decide)) (show A 0 (nI n).toNatClampNeg = nI 9 by rw [nI_clamp (by omega)]; exact h0) ?_
      iterate 1 (refine zv_step (bX7_inner (3 * z + 5)) rfl rfl trivial ?_)
      refine zv_ift (by decide) ?_
      iterate 3 (refine zv_step (bX7_inner (3 * z + 5)) rfl rfl trivial ?_)
      refine zv_iale (bX7_inner (3 * z + 5)) rfl rfl (vp_in_nI (by omega) (by decide)) (show A 0 (nI n).toNatClampNeg = nI 9 by rw [nI_clamp (by omega)]; exact h0) ?_
      iterate 2 (refine zv_step (bX7_inner (3 * z + 5)) rfl rfl trivial ?_)
      refine zv_iff (by decide) ?_
      iterate 3 (refine zv_step (bX7_inner (3 * z + 5)) rfl rfl trivial ?_)
      refine zv_step (bX7_inner (3 * z + 5)) rfl rfl (vp_in_nI (by omega) (by decide)) ?_
      iterate 3 (refine zv_step (bX7_inner (3 * z + 5)) rfl rfl trivial ?_)
      refine zv_step (bX7_inner (3 * z + 5)) rfl rfl (vp_in_nI (by omega) (by decide)) ?_
      iterate 1 (refine zv_step (bX7_inner (3 * z + 5)) rfl rfl trivial ?_)
      refine zv_ifb (fun h140 => ?_) (fun h140 => ?_)
      · iterate 1 (refine zv_step (bX7_inner (3 * z + 5)) rfl rfl trivial ?_)
        exact zv_lret (bX7_inner (3 * z + 5)) rfl rfl (Nat.zero_le _) (Nat.zero_le _) ⟨rfl, _, rfl⟩
      · iterate 4 (refine zv_step (bX7_inner (3 * z + 5)) rfl rfl trivial ?_)
        refine zv_iale (bX7_inner (3 * z + 5)) rfl rfl (vp_in_nI (by omega) (by decide)) (show A 2 (nI n).toNatClampNeg = nI x by rw [nI_clamp (by omega)]; exact h2) ?_
        iterate 4 (refine zv_step (bX7_inner (3 * z + 5)) rfl rfl trivial ?_)
        refine zv_V3 (bX7_inner (3 * z + 5)) rfl rfl rfl rfl rfl rfl rfl ⟨rfl, rfl, rfl⟩ ⟨by show 3 * z + 3 + 1 ≤ 3 * z + 5; omega, by show 8 + (8 + 11) + 64 * (3 * z + 3) ≤ 64 * (3 * z + 5); omega⟩ ⟨Nat.zero_le _, Nat.zero_le _⟩ (ih x (a + 2) b _ _ (nI_2 a) rfl lx (by omega) (by omega) (by omega) (by omega)) ?_
        rintro _ _ ⟨rfl, v, rfl⟩
        iterate 1 (refine zv_step (bX7_inner (3 * z + 5)) rfl rfl trivial ?_)
        exact zv_lret (bX7_inner (3 * z + 5)) rfl rfl (Nat.zero_le _) (Nat.zero_le _) ⟨rfl, _, rfl⟩
set_option maxHeartbeats 1000000 in
set_option maxRecDepth 20000 in
theorem rnkD (f : Nat → zC) (o : Nat → Int32) (A : Nat → Nat → Int32) (J : Nat → Nat → Int64) {n i j c z : Nat} (hij : i < j) (hj : j ≤ 20) (hc : c < 20) {n0 : Nat} {Q : Option Value → zW → Prop} (kk : ∀ v : Int64, zV (zMo (3 * (z + 1) + 3) zX7_rank) false n0 0 0 139 [(5, .long v), (4, .int (nI c)), (0, .ref 76), (1, .int (nI n)), (2, .int (nI i)), (3, .int (nI j))] [] (wR f o A J) Q) : ∀ (w d : Nat), d + w = c → ∀ {x7 : Int32} {v : Int64}, x7 = nI d → zV (zMo (3 * (z + 1) + 3) zX7_rank) false n0 0 0 97 [(7, .int x7), (5, .long v), (4, .int (nI c)), (0, .ref 76), (1, .int (nI n)), (2, .int (nI i)), (3, .int (nI j))] [] (wR f o A J) Q := by
  intro w
  induction w with
  | zero =>
    intro d hd x7 v e7
    subst e7
    iterate 3 (refine zv_step (bX7_rank (3 * (z + 1) + 3)) rfl rfl trivial ?_)
    refine zv_ift (nI_le (by omega) (by omega)) ?_
    refine zv_locals (l := [(7, .int (nI d)), (5, .long v), (4, .int (nI c)), (0, .ref 76), (1, .int (nI n)), (2, .int (nI i)), (3, .int (nI j))]) (l' := [(5, .long v), (4, .int (nI c)), (0, .ref 76), (1, .int (nI n)), (2, .int (nI i)), (3, .int (nI j))]) ?_ (kk v)
    simp
  | succ w ih2 =>
    intro d hd x7 v e7
    subst e7
    iterate 3 (refine zv_step (bX7_rank (3 * (z + 1) + 3)) rfl rfl trivial ?_)
    refine zv_iff (fun h => absurd ((nI_leI (by omega) (by omega)).mp h) (by omega)) ?_
    iterate 4 (refine zv_step (bX7_rank (3 * (z + 1) + 3)) rfl rfl trivial ?_)
    refine zv_ifb (fun h108 => ?_) (fun h108 => ?_)
    · refine zv_locals (l := [(7, .int (nI d)), (5, .long v), (4, .int (nI c)), (0, .ref 76), (1, .int (nI n)), (2, .int (nI i)), (3, .int (nI j))]) (l' := [(5, .long v), (4, .int (nI c)), (0, .ref 76), (1, .int (nI n)), (2, .int (nI i)), (3, .int (nI j))]) ?_ (kk v)
      simp
    · iterate 12 (refine zv_step (bX7_rank (3 * (z + 1) + 3)) rfl rfl trivial ?_)
      refine zv_step (bX7_rank (3 * (z + 1) + 3)) rfl rfl (show vp_in (c8 20 * (c8 21 * nI i + nI j) + nI d) 8820 by rw [show c8 20 * (c8 21 * nI i + nI j) + nI d = nI (20 * (21 * i + j) + d) by rw [ix21, ix20m]]; exact vp_in_nI (by omega) (by decide)) ?_
      iterate 4 (refine zv_step (bX7_rank (3 * (z + 1) + 3)) rfl rfl trivial ?_)
      refine zv_locals (l := [(7, .int (nI d + Int32.ofInt 1)), (5, .long (v + J 0 (c8 20 * (c8 21 * nI i + nI j) + nI d).toNatClampNeg)), (4, .int (nI c)), (0, .ref 76), (1, .int (nI n)), (2, .int (nI i)), (3, .int (nI j))]) (l' := [(7, .int (nI d + Int32.ofInt 1)), (5, .long (v + J 0 (c8 20 * (c8 21 * nI i + nI j) + nI d).toNatClampNeg)), (4, .int (nI c)), (0, .ref 76), (1, .int (nI n)), (2, .int (nI i)), (3, .int (nI j))]) (fun q h => h) (ih2 (d + 1) (by omega) (nI_1 d))
set_option maxHeartbeats 1000000 in
set_option maxRecDepth 20000 in
theorem rnkC (f : Nat → zC) (o : Nat → Int32) (A : Nat → Nat → Int32) (J : Nat → Nat → Int64) {lo hi : Nat} (hh0 : hi ≤ 450) (hT : tbI lo hi A) {h : Nat} (hh : h ≤ 20) (hw : nnW h (A 8)) {s : Nat} (hJ : okJ h A s J) {z : Nat} (ih : ∀ (n i j : Nat) (y z' : Int32), y = nI i → z' = nI j → lo ≤ n → n < hi → szN A n ≤ z → i ≤ 30 → j ≤ h → zK (3 * z + 3) zX7_rank [.ref 76, .int (nI n), .int y, .int z'] (wR f o A J) (fun r w' => w' = (wR f o A J) ∧ ∃ v : Int64, r = some (.long v))) {n i j k : Nat} (hlo : lo ≤ n) (hn : n < hi) (hz : szN A n ≤ z + 1) (hij : i < j) (hj : j ≤ h) (hk : k < 10) (h0 : A 0 n = nI k) {n0 : Nat} : ∀ (w c : Nat), c + w = 2 * k + 2 → ∀ {x4 : Int32}, x4 = nI c → zV (zMo (3 * (z + 1) + 3) zX7_rank) false n0 0 0 26 [(4, .int x4), (0, .ref 76), (1, .int (nI n)), (2, .int (nI i)), (3, .int (nI j))] [] (wR f o A J) (fun r w' => w' = (wR f o A J) ∧ ∃ v : Int64, r = some (.long v)) := by
  intro w
  induction w with
  | zero =>
    intro c hc x4 e4
    subst e4
    iterate 5 (refine zv_step (bX7_rank (3 * (z + 1) + 3)) rfl rfl trivial ?_)
    refine zv_iale (bX7_rank (3 * (z + 1) + 3)) rfl rfl (vp_in_nI (by omega) (by decide)) (show A 0 (nI n).toNatClampNeg = nI k by rw [nI_clamp (by omega)]; exact h0) ?_
    iterate 4 (refine zv_step (bX7_rank (3 * (z + 1) + 3)) rfl rfl trivial ?_)
    refine zv_ift (show Int32.ofInt 2 * nI k + Int32.ofInt 2 ≤ nI c by rw [show Int32.ofInt 2 * nI k + Int32.ofInt 2 = nI (2 * k + 2) by rw [show Int32.ofInt 2 * nI k = nI (2 * k) from nI_mul 2 k]; exact nI_2 _]; exact nI_le (by omega) (by omega)) ?_
    iterate 1 (refine zv_step (bX7_rank (3 * (z + 1) + 3)) rfl rfl trivial ?_)
    exact zv_lret (bX7_rank (3 * (z + 1) + 3)) rfl rfl (Nat.zero_le _) (Nat.zero_le _) ⟨rfl, _, rfl⟩
  | succ w ih2 =>
    intro c hc x4 e4
    subst e4
    iterate 5 (refine zv_step (bX7_rank (3 * (z + 1) + 3)) rfl rfl trivial ?_)
    refine zv_iale (bX7_rank (3 * (z + 1) + 3)) rfl rfl (vp_in_nI (by omega) (by decide)) (show A 0 (nI n).toNatClampNeg = nI k by rw [nI_clamp (by omega)]; exact h0) ?_
    iterate 4 (refine zv_step (bX7_rank (3 * (z + 1) + 3)) rfl rfl trivial ?_)
    refine zv_iff (show ¬ Int32.ofInt 2 * nI k + Int32.ofInt 2 ≤ nI c by rw [show Int32.ofInt 2 * nI k + Int32.ofInt 2 = nI (2 * k + 2) by rw [show Int32.ofInt 2 * nI k = nI (2 * k) from nI_mul 2 k]; exact nI_2 _]; exact fun h => absurd ((nI_leI (by omega) (by omega)).mp h) (by omega)) ?_
    iterate 11 (refine zv_step (bX7_rank (3 * (z + 1) + 3)) rfl rfl trivial ?_)
    refine zv_lale (bX7_rank (3 * (z + 1) + 3)) rfl rfl (show vp_in (c8 20 * (c8 21 * nI i + nI j) + nI c) 8820 by rw [show c8 20 * (c8 21 * nI i + nI j) + nI c = nI (20 * (21 * i + j) + c) by rw [ix21, ix20m]]; exact vp_in_nI (by omega) (by decide)) (show J 0 (c8 20 * (c8 21 * nI i + nI j) + nI c).toNatClampNeg = lN (mW A s (lW J) i j c) by rw [show c8 20 * (c8 21 * nI i + nI j) + nI c = nI (20 * (21 * i + j) + c) by rw [ix21, ix20m], nI_clamp (by omega)]; exact (hJ i j hij hj).1 c (by omega)) ?_
    iterate 3 (refine zv_step (bX7_rank (3 * (z + 1) + 3)) rfl rfl trivial ?_)
    refine zv_ifb (fun h60 => ?_) (fun h60 => ?_)
    · iterate 2 (refine zv_step (bX7_rank (3 * (z + 1) + 3)) rfl rfl trivial ?_)
      refine zv_locals (l := [(4, .int (nI c + Int32.ofInt 1)), (0, .ref 76), (1, .int (nI n)), (2, .int (nI i)), (3, .int (nI j))]) (l' := [(4, .int (nI c + Int32.ofInt 1)), (0, .ref 76), (1, .int (nI n)), (2, .int (nI i)), (3, .int (nI j))]) (fun q h => h) (ih2 (c + 1) (by omega) (nI_1 c))
    · have hp : 0 < mW A s (lW J) i j c := by
        have h9 : ¬ lN (mW A s (lW J) i j c) ≤ lN 0 := fun e => h60 ((lg_cmp_le _ _).mpr e)
        have hcap := mW_le hJ (i := i) (j := j) hj c
        rw [lN_leJ (by unfold cap at hcap; omega) (by decide)] at h9
        omega
      have hw2 := (mW_pos hp).1
      have hab : i + c % 2 < j - c % 2 := by
        rcases Nat.lt_or_ge (i + c % 2) (j - c % 2) with e | e
        · exact e
        · rw [wi_n e] at hw2
          omega
      iterate 2 (refine zv_step (bX7_rank (3 * (z + 1) + 3)) rfl rfl trivial ?_)
      refine zv_step (bX7_rank (3 * (z + 1) + 3)) rfl rfl (show ¬ Int32.ofInt 2 = 0 by decide) ?_
      iterate 2 (refine zv_step (bX7_rank (3 * (z + 1) + 3)) rfl rfl trivial ?_)
      refine zv_ifb (fun h68 => ?_) (fun h68 => ?_)
      · have q68 : c % 2 = 0 := by
          have h9 : ¬ nI c - nI c / Int32.ofInt 2 * Int32.ofInt 2 = nI 1 := h68
          rw [rem2 (by omega), nI_eq (by omega) (by decide)] at h9
          omega
        rw [q68] at hab
        iterate 4 (refine zv_step (bX7_rank (3 * (z + 1) + 3)) rfl rfl trivial ?_)
        refine zv_V3 (bX7_rank (3 * (z + 1) + 3)) rfl rfl rfl rfl rfl rfl rfl ⟨rfl, rfl, rfl⟩ ⟨by show 3 * z + 5 + 1 ≤ 3 * (z + 1) + 3; omega, by show 8 + (6 + 11) + 64 * (3 * z + 5) ≤ 64 * (3 * (z + 1) + 3); omega⟩ ⟨Nat.zero_le _, Nat.zero_le _⟩ (mInner f o A J hh0 hT hh hw hJ ih hlo hn hz (a := i) (b := j) hab (by omega) rfl rfl) ?_
        rintro _ _ ⟨rfl, v9, rfl⟩
        iterate 3 (refine zv_step (bX7_rank (3 * (z + 1) + 3)) rfl rfl trivial ?_)
        refine zv_locals (l := [(7, .int (Int32.ofInt 0)), (5, .long v9), (4, .int (nI c)), (0, .ref 76), (1, .int (nI n)), (2, .int (nI i)), (3, .int (nI j))]) (l' := [(7, .int (Int32.ofInt 0)), (5, .long v9), (4, .int (nI c)), (0, .ref 76), (1, .int (nI n)), (2, .int (nI i)), (3, .int (nI j))]) (fun q h => h) (rnkD f o A J hij (by omega) (by omega) (fun v => ?_) c 0 (by omega) rfl)
        iterate 4 (refine zv_step (bX7_rank (3 * (z + 1) + 3)) rfl rfl trivial ?_)
        refine zv_ifb (fun h143 => ?_) (fun h143 => ?_)
        · iterate 2 (refine zv_step (bX7_rank (3 * (z + 1) + 3)) rfl rfl trivial ?_)
          refine zv_locals (l := [(4, .int (nI c + Int32.ofInt 1)), (5, .long v), (0, .ref 76), (1, .int (nI n)), (2, .int (nI i)), (3, .int (nI j))]) (l' := [(4, .int (nI c + Int32.ofInt 1)), (0, .ref 76), (1, .int (nI n)), (2, .int (nI i)), (3, .int (nI j))]) ?_ (ih2 (c + 1) (by omega) (nI_1 c))
          simp
        · iterate 1 (refine zv_step (bX7_rank (3 * (z + 1) + 3)) rfl rfl trivial ?_)
          exact zv_lret (bX7_rank (3 * (z + 1) + 3)) rfl rfl (Nat.zero_le _) (Nat.zero_le _) ⟨rfl, _, rfl⟩
      · have q68 : c % 2 = 1 := by
          have h9 : nI c - nI c / Int32.ofInt 2 * Int32.ofInt 2 = nI 1 := Decidable.not_not.mp h68
          rwa [rem2 (by omega), nI_eq (by omega) (by decide)] at h9
        rw [q68] at hab
        iterate 8 (refine zv_step (bX7_rank (3 * (z + 1) + 3)) rfl rfl trivial ?_)
        refine zv_V3 (bX7_rank (3 * (z + 1) + 3)) rfl rfl rfl rfl rfl rfl rfl ⟨rfl, rfl, rfl⟩ ⟨by show 3 * z + 5 + 1 ≤ 3 * (z + 1) + 3; omega, by show 8 + (6 + 11) + 64 * (3 * z + 5) ≤ 64 * (3 * (z + 1) + 3); omega⟩ ⟨Nat.zero_le _, Nat.zero_le _⟩ (mInner f o A J hh0 hT hh hw hJ ih hlo hn hz (a := i + 1) (b := j - 1) hab (by omega) (nI_1 i) (sub_1 (by omega))) ?_
        rintro _ _ ⟨rfl, v9, rfl⟩
        iterate 4 (refine zv_step (bX7_rank (3 * (z + 1) + 3)) rfl rfl trivial ?_)
        refine zv_locals (l := [(7, .int (Int32.ofInt 0)), (5, .long v9), (4, .int (nI c)), (0, .ref 76), (1, .int (nI n)), (2, .int (nI i)), (3, .int (nI j))]) (l' := [(7, .int (Int32.ofInt 0)), (5, .long v9), (4, .int (nI c)), (0, .ref 76), (1, .int (nI n)), (2, .int (nI i)), (3, .int (nI j))]) (fun q h => h) (rnkD f o A J hij (by omega) (by omega) (fun v => ?_) c 0 (by omega) rfl)
        iterate 4 (refine zv_step (bX7_rank (3 * (z + 1) + 3)) rfl rfl trivial ?_)
        refine zv_ifb (fun h143 => ?_) (fun h143 => ?_)
        · iterate 2 (refine zv_step (bX7_rank (3 * (z + 1) + 3)) rfl rfl trivial ?_)
          refine zv_locals (l := [(4, .int (nI c + Int32.ofInt 1)), (5, .long v), (0, .ref 76), (1, .int (nI n)), (2, .int (nI i)), (3, .int (nI j))]) (l' := [(4, .int (nI c + Int32.ofInt 1)), (0, .ref 76), (1, .int (nI n)), (2, .int (nI i)), (3, .int (nI j))]) ?_ (ih2 (c + 1) (by omega) (nI_1 c))
          simp
        · iterate 1 (refine zv_step (bX7_rank (3 * (z + 1) + 3)) rfl rfl trivial ?_)
          exact zv_lret (bX7_rank (3 * (z + 1) + 3)) rfl rfl (Nat.zero_le _) (Nat.zero_le _) ⟨rfl, _, rfl⟩
set_option maxHeartbeats 1000000 in
set_option maxRecDepth 20000 in
theorem mRank (f : Nat → zC) (o : Nat → Int32) (A : Nat → Nat → Int32) (J : Nat → Nat → Int64) {lo hi : Nat} (hh0 : hi ≤ 450) (hT : tbI lo hi A) {h : Nat} (hh : h ≤ 20) (hw : nnW h (A 8)) {s : Nat} (hJ : okJ h A s J) : ∀ (z n i j : Nat) (y z' : Int32), y = nI i → z' = nI j → lo ≤ n → n < hi → szN A n ≤ z → i ≤ 30 → j ≤ h → zK (3 * z + 3) zX7_rank [.ref 76, .int (nI n), .int y, .int z'] (wR f o A J) (fun r w' => w' = (wR f o A J) ∧ ∃ v : Int64, r = some (.long v)) := by
  intro z
  induction z with
  | zero =>
    intro n i j y z' _ _ hlo hn hz
    have := (rN_sz (hT n hlo hn)).1
    omega
  | succ z ih =>
    intro n i j y z' ey ez hlo hn hz hi0 hj
    subst ey ez
    obtain ⟨k, hk, h0⟩ := rN_kd (hT n hlo hn)
    refine zK_of qX7_rank (by decide +kernel) rfl ?_
    iterate 3 (refine zv_step (bX7_rank (3 * (z + 1) + 3)) rfl rfl trivial ?_)
    refine zv_iale (bX7_rank (3 * (z + 1) + 3)) rfl rfl (vp_in_nI (by omega) (by decide)) (show A 4 (nI n).toNatClampNeg = nI (szN A n) by rw [nI_clamp (by omega)]; exact (rN_sz (hT n hlo hn)).2.2) ?_
    iterate 4 (refine zv_step (bX7_rank (3 * (z + 1) + 3)) rfl rfl trivial ?_)
    refine zv_ifb (fun h9 => ?_) (fun h9 => ?_)
    · have hij : i < j := by
        rcases Nat.lt_or_ge i j with e | e
        · exact e
        · exfalso
          have h9 : nI (szN A n) ≤ nI j - nI i := h9
          have s1 := (rN_sz (hT n hlo hn)).1
          have s2 := (rN_sz (hT n hlo hn)).2.1
          rw [Int32.le_iff_toInt_le, Int32.toInt_sub, nI_toInt (by omega), nI_toInt (by omega), nI_toInt (by omega), Int.bmod_eq_of_le (by omega) (by omega)] at h9
          omega
      iterate 4 (refine zv_step (bX7_rank (3 * (z + 1) + 3)) rfl rfl trivial ?_)
      refine zv_iale (bX7_rank (3 * (z + 1) + 3)) rfl rfl (vp_in_nI (by omega) (by decide)) (show A 0 (nI n).toNatClampNeg = nI k by rw [nI_clamp (by omega)]; exact h0) ?_
      iterate 2 (refine zv_step (bX7_rank (3 * (z + 1) + 3)) rfl rfl trivial ?_)
      refine zv_locals (l := [(4, .int (Int32.ofInt 2 * nI k)), (0, .ref 76), (1, .int (nI n)), (2, .int (nI i)), (3, .int (nI j))]) (l' := [(4, .int (Int32.ofInt 2 * nI k)), (0, .ref 76), (1, .int (nI n)), (2, .int (nI i)), (3, .int (nI j))]) (fun q h => h) (rnkC f o A J hh0 hT hh hw hJ ih hlo hn hz hij hj hk h0 2 (2 * k) (by omega) (nI_mul 2 k))
    · iterate 1 (refine zv_step (bX7_rank (3 * (z + 1) + 3)) rfl rfl trivial ?_)
      exact zv_lret (bX7_rank (3 * (z + 1) + 3)) rfl rfl (Nat.zero_le _) (Nat.zero_le _) ⟨rfl, _, rfl⟩
set_option maxHeartbeats 1000000 in
set_option maxRecDepth 20000 in
theorem mPlace (f : Nat → zC) (o : Nat → Int32) (A : Nat → Nat → Int32) (J : Nat → Nat → Int64) {u : Nat} (hu : u ≤ 120) (ho : o 0 = nI u) (hT : tbI 0 u A) {h : Nat} (hh : h ≤ 20) (hw : nnW h (A 8)) (ho10 : o 10 = nI h) (x y : Int32) : zK 124 zX7_place [.ref 76, .int x, .int y] (wR f o A J) (fun r w' => ∃ (o' : Nat → Int32) (J' : Nat → Nat → Int64) (R : Int64), r = some (.long R) ∧ w' = wR f o' A J' ∧ ∀ j, j ≠ 28 → o' j = o j) := by
  refine zK_of qX7_place (by decide +kernel) rfl ?_
  iterate 4 (refine zv_step (bX7_place 124) rfl rfl trivial ?_)
  refine zv_S3 (bX7_place 124) rfl rfl rfl rfl ⟨rfl, rfl, rfl⟩ ⟨by decide, by decide⟩ ⟨Nat.zero_le _, Nat.zero_le _⟩ (mIn _ _ _ _ (a := 0) (b := 8) (by decide) (by decide)) ?_
  rintro _ _ ⟨rfl, ⟨g1, rfl⟩ | ⟨g1, rfl⟩⟩
  · obtain ⟨s, hs, rfl⟩ := in_nat (x := x) (b := 8) (by decide) g1
    iterate 1 (refine zv_step (bX7_place 124) rfl rfl trivial ?_)
    refine zv_iff (by decide) ?_
    iterate 2 (refine zv_step (bX7_place 124) rfl rfl trivial ?_)
    refine zv_V1 (bX7_place 124) rfl rfl rfl rfl rfl rfl rfl ⟨rfl, rfl, rfl⟩ ⟨by decide, by decide⟩ ⟨Nat.zero_le _, Nat.zero_le _⟩ (mIsNode f o A J hu ho _) ?_
    rintro _ _ ⟨rfl, ⟨g2, rfl⟩ | ⟨g2, rfl⟩⟩
    · obtain ⟨n, hn, rfl⟩ := nd_of (by omega) g2
      iterate 1 (refine zv_step (bX7_place 124) rfl rfl trivial ?_)
      refine zv_ift (by decide) ?_
      iterate 2 (refine zv_step (bX7_place 124) rfl rfl trivial ?_)
      refine zv_V1 (bX7_place 124) rfl rfl rfl rfl rfl rfl rfl ⟨rfl, rfl, rfl⟩ ⟨by decide, by decide⟩ ⟨Nat.zero_le _, Nat.zero_le _⟩ (mCounted f o A J hh hw ho10 hs rfl) ?_
      rintro _ _ ⟨J1, rfl, rfl, hJ⟩
      iterate 3 (refine zv_step (bX7_place 124) rfl rfl trivial ?_)
      refine zv_ifb (fun h31 => ?_) (fun h31 => ?_)
      · iterate 5 (refine zv_step (bX7_place 124) rfl rfl trivial ?_)
        refine zv_V3 (bX7_place 124) rfl rfl rfl rfl rfl rfl rfl ⟨rfl, rfl, rfl⟩ ⟨by decide, by decide⟩ ⟨Nat.zero_le _, Nat.zero_le _⟩ (mRank f (upd o 28 (nI s)) A J1 (by omega) hT hh hw hJ 40 n 0 h _ _ rfl ho10 (Nat.zero_le _) hn (rN_sz (hT n (Nat.zero_le _) hn)).2.1 (by omega) (Nat.le_refl _)) ?_
        rintro _ _ ⟨rfl, v, rfl⟩
        iterate 5 (refine zv_step (bX7_place 124) rfl rfl trivial ?_)
        refine zv_ifb (fun h52 => ?_) (fun h52 => ?_)
        · iterate 1 (refine zv_step (bX7_place 124) rfl rfl trivial ?_)
          exact zv_lret (bX7_place 124) rfl rfl (Nat.zero_le _) (Nat.zero_le _) ⟨(upd o 28 (nI s)), J1, _, rfl, rfl, fun j a => upd_ne _ _ a⟩
        · iterate 2 (refine zv_step (bX7_place 124) rfl rfl trivial ?_)
          exact zv_lret (bX7_place 124) rfl rfl (Nat.zero_le _) (Nat.zero_le _) ⟨(upd o 28 (nI s)), J1, _, rfl, rfl, fun j a => upd_ne _ _ a⟩
      · iterate 1 (refine zv_step (bX7_place 124) rfl rfl trivial ?_)
        exact zv_lret (bX7_place 124) rfl rfl (Nat.zero_le _) (Nat.zero_le _) ⟨(upd o 28 (nI s)), J1, _, rfl, rfl, fun j a => upd_ne _ _ a⟩
    · skip
      iterate 1 (refine zv_step (bX7_place 124) rfl rfl trivial ?_)
      refine zv_iff (by decide) ?_
      iterate 1 (refine zv_step (bX7_place 124) rfl rfl trivial ?_)
      exact zv_lret (bX7_place 124) rfl rfl (Nat.zero_le _) (Nat.zero_le _) ⟨o, J, _, rfl, rfl, fun _ _ => rfl⟩
  · skip
    iterate 1 (refine zv_step (bX7_place 124) rfl rfl trivial ?_)
    refine zv_ift (by decide) ?_
    iterate 1 (refine zv_step (bX7_place 124) rfl rfl trivial ?_)
    exact zv_lret (bX7_place 124) rfl rfl (Nat.zero_le _) (Nat.zero_le _) ⟨o, J, _, rfl, rfl, fun _ _ => rfl⟩
