set_option maxHeartbeats 1000000 in
set_option maxRecDepth 20000 in
theorem pAdd14 (O : Nat → Int32) (P : Nat → Nat → Int32) (Y : Nat → Nat → Int64) (g : Nat → zC) (hu : (O 2).toInt ≤ 120) {n x : Int32} (hn : vp_in n 120) : zK 1 zX2_addPart [.ref 14, .int n, .int x] (wX O P Y g) (fun r w' => r = none ∧ w' = wX O (adI 14 (O 2) P (nC n) x) Y g) := by
  refine zK_of qX2_addPart (by decide +kernel) rfl ?_
  iterate 2 (refine zv_step (bX2_addPart 1) rfl rfl trivial ?_)
  refine zv_V1 (bX2_addPart 1) rfl rfl rfl rfl rfl rfl rfl ⟨rfl, rfl, rfl⟩ ⟨by decide, by decide⟩ ⟨Nat.zero_le _, Nat.zero_le _⟩ (pHas14 O P Y g _) ?_
  rintro _ _ ⟨rfl, ⟨hh, rfl⟩ | ⟨hh, rfl⟩⟩
  · iterate 1 (refine zv_step (bX2_addPart 1) rfl rfl trivial ?_)
    refine zv_ift (by decide) ?_
    iterate 4 (refine zv_step (bX2_addPart 1) rfl rfl trivial ?_)
    refine zv_step (bX2_addPart 1) rfl rfl (hn) ?_
    iterate 3 (refine zv_step (bX2_addPart 1) rfl rfl trivial ?_)
    refine zv_step (bX2_addPart 1) rfl rfl (vp_in_iff.mpr ⟨hh.1, Int.lt_of_lt_of_le hh.2 hu⟩) ?_
    iterate 1 (refine zv_step (bX2_addPart 1) rfl rfl trivial ?_)
    refine zv_step (bX2_addPart 1) rfl rfl (hn) ?_
    iterate 6 (refine zv_step (bX2_addPart 1) rfl rfl trivial ?_)
    refine zv_step (bX2_addPart 1) rfl rfl (hn) ?_
    iterate 4 (refine zv_step (bX2_addPart 1) rfl rfl trivial ?_)
    refine zv_step (bX2_addPart 1) rfl rfl (vp_in_iff.mpr ⟨hh.1, Int.lt_of_lt_of_le hh.2 hu⟩) ?_
    iterate 1 (refine zv_step (bX2_addPart 1) rfl rfl trivial ?_)
    refine zv_maxI (bX2_addPart 1) rfl zMaxI rfl ⟨by decide, by decide⟩ ⟨Nat.zero_le _, Nat.zero_le _⟩ ?_
    refine zv_step (bX2_addPart 1) rfl rfl (hn) ?_
    iterate 4 (refine zv_step (bX2_addPart 1) rfl rfl trivial ?_)
    refine zv_step (bX2_addPart 1) rfl rfl (hn) ?_
    iterate 3 (refine zv_step (bX2_addPart 1) rfl rfl trivial ?_)
    refine zv_step (bX2_addPart 1) rfl rfl (vp_in_iff.mpr ⟨hh.1, Int.lt_of_lt_of_le hh.2 hu⟩) ?_
    iterate 1 (refine zv_step (bX2_addPart 1) rfl rfl trivial ?_)
    refine zv_step (bX2_addPart 1) rfl rfl (hn) ?_
    iterate 4 (refine zv_step (bX2_addPart 1) rfl rfl trivial ?_)
    refine zv_step (bX2_addPart 1) rfl rfl (hn) ?_
    iterate 3 (refine zv_step (bX2_addPart 1) rfl rfl trivial ?_)
    refine zv_step (bX2_addPart 1) rfl rfl (vp_in_iff.mpr ⟨hh.1, Int.lt_of_lt_of_le hh.2 hu⟩) ?_
    iterate 1 (refine zv_step (bX2_addPart 1) rfl rfl trivial ?_)
    refine zv_step (bX2_addPart 1) rfl rfl (hn) ?_
    iterate 4 (refine zv_step (bX2_addPart 1) rfl rfl trivial ?_)
    refine zv_step (bX2_addPart 1) rfl rfl (hn) ?_
    iterate 3 (refine zv_step (bX2_addPart 1) rfl rfl trivial ?_)
    refine zv_step (bX2_addPart 1) rfl rfl (vp_in_iff.mpr ⟨hh.1, Int.lt_of_lt_of_le hh.2 hu⟩) ?_
    iterate 1 (refine zv_step (bX2_addPart 1) rfl rfl trivial ?_)
    refine zv_step (bX2_addPart 1) rfl rfl (hn) ?_
    iterate 4 (refine zv_step (bX2_addPart 1) rfl rfl trivial ?_)
    refine zv_step (bX2_addPart 1) rfl rfl (hn) ?_
    iterate 3 (refine zv_step (bX2_addPart 1) rfl rfl trivial ?_)
    refine zv_step (bX2_addPart 1) rfl rfl (vp_in_iff.mpr ⟨hh.1, Int.lt_of_lt_of_le hh.2 hu⟩) ?_
    iterate 1 (refine zv_step (bX2_addPart 1) rfl rfl trivial ?_)
    refine zv_step (bX2_addPart 1) rfl rfl (hn) ?_
    exact zv_ret (bX2_addPart 1) rfl rfl (Nat.zero_le _) (Nat.zero_le _) ⟨rfl, by unfold adI; rw [if_pos hh]; rfl⟩
  · iterate 1 (refine zv_step (bX2_addPart 1) rfl rfl trivial ?_)
    refine zv_iff (by decide) ?_
    exact zv_ret (bX2_addPart 1) rfl rfl (Nat.zero_le _) (Nat.zero_le _) ⟨rfl, by unfold adI; rw [if_neg hh]⟩
set_option maxHeartbeats 1000000 in
set_option maxRecDepth 20000 in
theorem pFirstL14 (O : Nat → Int32) (P : Nat → Nat → Int32) (Y : Nat → Nat → Int64) (g : Nat → zC) (hu : (O 2).toInt ≤ 120) {n : Nat} (hn : n < 120) {n0 : Nat} : ∀ (c m : Nat), m + c = n → ∀ {x2 : Int32}, x2 = nI m → zV (zMo 1 zX2_firstAlike) false n0 0 0 2 [(2, .int x2), (0, .ref 14), (1, .int (nI n))] [] (wX O P Y g) (fun r w' => w' = wX O P Y g ∧ r = some (.int (faW 14 (O 2) P n c m))) := by
  intro c
  induction c with
  | zero =>
    intro m hm x2 e2
    subst e2
    iterate 3 (refine zv_step (bX2_firstAlike 1) rfl rfl trivial ?_)
    refine zv_ift (nI_le (by omega) (by omega)) ?_
    iterate 1 (refine zv_step (bX2_firstAlike 1) rfl rfl trivial ?_)
    exact zv_iret (bX2_firstAlike 1) rfl (Or.inl rfl) (Nat.zero_le _) (Nat.zero_le _) ⟨rfl, rfl⟩
  | succ c ih =>
    intro m hm x2 e2
    subst e2
    iterate 3 (refine zv_step (bX2_firstAlike 1) rfl rfl trivial ?_)
    refine zv_iff (nI_ge (by omega) (by omega)) ?_
    iterate 3 (refine zv_step (bX2_firstAlike 1) rfl rfl trivial ?_)
    refine zv_V2 (bX2_firstAlike 1) rfl rfl rfl rfl rfl rfl rfl ⟨rfl, rfl, rfl⟩ ⟨by decide, by decide⟩ ⟨Nat.zero_le _, Nat.zero_le _⟩ (pTop14 O P Y g (vp_in_nI (n := m) (by omega) (by decide)) (vp_in_nI (n := n) (by omega) (by decide))) ?_
    rintro _ _ ⟨rfl, ⟨ht, rfl⟩ | ⟨ht, rfl⟩⟩
    · iterate 1 (refine zv_step (bX2_firstAlike 1) rfl rfl trivial ?_)
      refine zv_iff (by decide) ?_
      iterate 4 (refine zv_step (bX2_firstAlike 1) rfl rfl trivial ?_)
      refine zv_step (bX2_firstAlike 1) rfl rfl (vp_in_nI (n := m) (by omega) (by decide)) ?_
      refine zv_V1 (bX2_firstAlike 1) rfl rfl rfl rfl rfl rfl rfl ⟨rfl, rfl, rfl⟩ ⟨by decide, by decide⟩ ⟨Nat.zero_le _, Nat.zero_le _⟩ (pShape14 O P Y g hu _) ?_
      intro r1 w1 hq1
      obtain ⟨rfl, h1⟩ := hq1
      obtain rfl := shq_of h1
      iterate 4 (refine zv_step (bX2_firstAlike 1) rfl rfl trivial ?_)
      refine zv_step (bX2_firstAlike 1) rfl rfl (vp_in_nI (n := n) (by omega) (by decide)) ?_
      refine zv_V1 (bX2_firstAlike 1) rfl rfl rfl rfl rfl rfl rfl ⟨rfl, rfl, rfl⟩ ⟨by decide, by decide⟩ ⟨Nat.zero_le _, Nat.zero_le _⟩ (pShape14 O P Y g hu _) ?_
      intro r2 w2 hq2
      obtain ⟨rfl, h2⟩ := hq2
      obtain rfl := shq_of h2
      iterate 1 (refine zv_step (bX2_firstAlike 1) rfl rfl trivial ?_)
      refine zv_ifb (fun hs => ?_) (fun hs => ?_)
      · iterate 2 (refine zv_step (bX2_firstAlike 1) rfl rfl trivial ?_)
        rw [faW_no (fun q => hs q.2.1)]
        exact ih (m + 1) (by omega) (nI_1 m)
      · iterate 4 (refine zv_step (bX2_firstAlike 1) rfl rfl trivial ?_)
        refine zv_step (bX2_firstAlike 1) rfl rfl (vp_in_nI (n := m) (by omega) (by decide)) ?_
        refine zv_V1 (bX2_firstAlike 1) rfl rfl rfl rfl rfl rfl rfl ⟨rfl, rfl, rfl⟩ ⟨by decide, by decide⟩ ⟨Nat.zero_le _, Nat.zero_le _⟩ (pShape14 O P Y g hu _) ?_
        intro r3 w3 hq3
        obtain ⟨rfl, h3⟩ := hq3
        obtain rfl := shq_of h3
        iterate 4 (refine zv_step (bX2_firstAlike 1) rfl rfl trivial ?_)
        refine zv_step (bX2_firstAlike 1) rfl rfl (vp_in_nI (n := n) (by omega) (by decide)) ?_
        refine zv_V1 (bX2_firstAlike 1) rfl rfl rfl rfl rfl rfl rfl ⟨rfl, rfl, rfl⟩ ⟨by decide, by decide⟩ ⟨Nat.zero_le _, Nat.zero_le _⟩ (pShape14 O P Y g hu _) ?_
        intro r4 w4 hq4
        obtain ⟨rfl, h4⟩ := hq4
        obtain rfl := shq_of h4
        iterate 1 (refine zv_step (bX2_firstAlike 1) rfl rfl trivial ?_)
        refine zv_ifb (fun hs2 => ?_) (fun hs2 => ?_)
        · iterate 2 (refine zv_step (bX2_firstAlike 1) rfl rfl trivial ?_)
          rw [faW_no (fun q => hs2 q.2.2)]
          exact ih (m + 1) (by omega) (nI_1 m)
        · iterate 3 (refine zv_step (bX2_firstAlike 1) rfl rfl trivial ?_)
          refine zv_step (bX2_firstAlike 1) rfl rfl (vp_in_nI (n := m) (by omega) (by decide)) ?_
          exact zv_iret (bX2_firstAlike 1) rfl (Or.inl rfl) (Nat.zero_le _) (Nat.zero_le _) ⟨rfl, congrArg (fun v => some (Value.int v)) (faW_yes ⟨ht, Decidable.not_not.mp hs, Decidable.not_not.mp hs2⟩).symm⟩
    · iterate 1 (refine zv_step (bX2_firstAlike 1) rfl rfl trivial ?_)
      refine zv_ift (by decide) ?_
      iterate 2 (refine zv_step (bX2_firstAlike 1) rfl rfl trivial ?_)
      rw [faW_no (fun q => ht q.1)]
      exact ih (m + 1) (by omega) (nI_1 m)
set_option maxHeartbeats 1000000 in
set_option maxRecDepth 20000 in
theorem pFirst14 (O : Nat → Int32) (P : Nat → Nat → Int32) (Y : Nat → Nat → Int64) (g : Nat → zC) (hu : (O 2).toInt ≤ 120) {n : Nat} (hn : n < 120) {x : Int32} (e : x = nI n) : zK 1 zX2_firstAlike [.ref 14, .int x] (wX O P Y g) (fun r w' => w' = wX O P Y g ∧ r = some (.int (faW 14 (O 2) P n n 0))) := by
  subst e
  refine zK_of qX2_firstAlike (by decide +kernel) rfl ?_
  iterate 2 (refine zv_step (bX2_firstAlike 1) rfl rfl trivial ?_)
  exact pFirstL14 O P Y g hu hn n 0 (by omega) rfl
set_option maxHeartbeats 1000000 in
set_option maxRecDepth 20000 in
theorem pPutL14 (O : Nat → Int32) (P : Nat → Nat → Int32) (Y : Nat → Nat → Int64) (g : Nat → zC) (hu : (O 2).toInt ≤ 120) {m : Nat} (hm : m < 120) (hmu : O 2 = nI m) (k v x y ow ch le ca : Int32) {n0 : Nat} {Q : Option Value → zW → Prop} (kk : ∀ sh, sh = faW 14 (O 2) (adI 14 (O 2) (adI 14 (O 2) (putV 14 P (nC (O 2)) k v x y ow ch le ca) (nC (O 2)) x) (nC (O 2)) y) m m 0 → Q (some (.int (O 2))) (wX (upd O 2 (O 2 + Int32.ofInt 1)) (updA (adI 14 (O 2) (adI 14 (O 2) (putV 14 P (nC (O 2)) k v x y ow ch le ca) (nC (O 2)) x) (nC (O 2)) y) 25 (upd ((adI 14 (O 2) (adI 14 (O 2) (putV 14 P (nC (O 2)) k v x y ow ch le ca) (nC (O 2)) x) (nC (O 2)) y) 25) (nC (O 2)) sh)) Y g)) : zV (zMo 2 zX2_put) false n0 0 0 136 [(5, .int (O 2)), (0, .ref 14), (1, .int k), (2, .int v), (3, .int x), (4, .int y)] [] (wX O (putV 14 P (nC (O 2)) k v x y ow ch le ca) Y g) Q := by
  have hv : vp_in (O 2) 120 := by rw [hmu]; exact vp_in_nI hm (by decide)
  iterate 3 (refine zv_step (bX2_put 2) rfl rfl trivial ?_)
  refine zv_V2 (bX2_put 2) rfl rfl rfl rfl rfl rfl rfl ⟨rfl, rfl, rfl⟩ ⟨by decide, by decide⟩ ⟨Nat.zero_le _, Nat.zero_le _⟩ (pAdd14 O (putV 14 P (nC (O 2)) k v x y ow ch le ca) Y g hu hv) ?_
  rintro _ _ ⟨rfl, rfl⟩
  iterate 3 (refine zv_step (bX2_put 2) rfl rfl trivial ?_)
  refine zv_V2 (bX2_put 2) rfl rfl rfl rfl rfl rfl rfl ⟨rfl, rfl, rfl⟩ ⟨by decide, by decide⟩ ⟨Nat.zero_le _, Nat.zero_le _⟩ (pAdd14 O (adI 14 (O 2) (putV 14 P (nC (O 2)) k v x y ow ch le ca) (nC (O 2)) x) Y g hu hv) ?_
  rintro _ _ ⟨rfl, rfl⟩
  iterate 5 (refine zv_step (bX2_put 2) rfl rfl trivial ?_)
  refine zv_V1 (bX2_put 2) rfl rfl rfl rfl rfl rfl rfl ⟨rfl, rfl, rfl⟩ ⟨by decide, by decide⟩ ⟨Nat.zero_le _, Nat.zero_le _⟩ (pFirst14 O (adI 14 (O 2) (adI 14 (O 2) (putV 14 P (nC (O 2)) k v x y ow ch le ca) (nC (O 2)) x) (nC (O 2)) y) Y g hu hm hmu) ?_
  rintro _ _ ⟨rfl, rfl⟩
  refine zv_step (bX2_put 2) rfl rfl (hv) ?_
  iterate 7 (refine zv_step (bX2_put 2) rfl rfl trivial ?_)
  exact zv_iret (bX2_put 2) rfl (Or.inl rfl) (Nat.zero_le _) (Nat.zero_le _) (kk _ rfl)
set_option maxHeartbeats 4000000 in
set_option maxRecDepth 20000 in
theorem pPut14 (O : Nat → Int32) (P : Nat → Nat → Int32) (Y : Nat → Nat → Int64) (g : Nat → zC) (hu : (O 2).toInt ≤ 120) {m : Nat} (hm : m < 120) (hmu : O 2 = nI m) (k v x y : Int32) : zK 2 zX2_put [.ref 14, .int k, .int v, .int x, .int y] (wX O P Y g) (fun r w' => r = some (.int (O 2)) ∧ ∃ sh ch le ca, ch = hbW (Int16.ofInt 764).toInt32 k ∧ le = (if k = 0 then Int32.ofInt 1 <<< (v &&& 31) else Int32.ofInt 0) ∧ ca = (if k = c8 9 then Int32.ofInt 1 <<< (v &&& 31) else Int32.ofInt 0) ∧ sh = faW 14 (O 2) (adI 14 (O 2) (adI 14 (O 2) (putV 14 P (nC (O 2)) k v x y (owW k v) ch le ca) (nC (O 2)) x) (nC (O 2)) y) m m 0 ∧ w' = wX (upd O 2 (O 2 + Int32.ofInt 1)) (updA (adI 14 (O 2) (adI 14 (O 2) (putV 14 P (nC (O 2)) k v x y (owW k v) ch le ca) (nC (O 2)) x) (nC (O 2)) y) 25 (upd ((adI 14 (O 2) (adI 14 (O 2) (putV 14 P (nC (O 2)) k v x y (owW k v) ch le ca) (nC (O 2)) x) (nC (O 2)) y) 25) (nC (O 2)) sh)) Y g) := by
  have hv : vp_in (O 2) 120 := by rw [hmu]; exact vp_in_nI hm (by decide)
  refine zK_of qX2_put (by decide +kernel) rfl ?_
  iterate 1 (refine zv_step (bX2_put 2) rfl rfl trivial ?_)
  refine zv_V0 (bX2_put 2) rfl rfl rfl rfl rfl rfl rfl ⟨rfl, rfl, rfl⟩ ⟨by decide, by decide⟩ ⟨Nat.zero_le _, Nat.zero_le _⟩ (pFull14 O P Y g) ?_
  rintro _ _ ⟨rfl, ⟨hf, rfl⟩ | ⟨hf, rfl⟩⟩
  · rw [hmu, nI_toInt (by omega)] at hf
    omega
  · iterate 1 (refine zv_step (bX2_put 2) rfl rfl trivial ?_)
    refine zv_ift (by decide) ?_
    iterate 7 (refine zv_step (bX2_put 2) rfl rfl trivial ?_)
    refine zv_step (bX2_put 2) rfl rfl (hv) ?_
    iterate 4 (refine zv_step (bX2_put 2) rfl rfl trivial ?_)
    refine zv_step (bX2_put 2) rfl rfl (hv) ?_
    iterate 4 (refine zv_step (bX2_put 2) rfl rfl trivial ?_)
    refine zv_step (bX2_put 2) rfl rfl (hv) ?_
    iterate 4 (refine zv_step (bX2_put 2) rfl rfl trivial ?_)
    refine zv_step (bX2_put 2) rfl rfl (hv) ?_
    iterate 4 (refine zv_step (bX2_put 2) rfl rfl trivial ?_)
    refine zv_step (bX2_put 2) rfl rfl (hv) ?_
    iterate 4 (refine zv_step (bX2_put 2) rfl rfl trivial ?_)
    refine zv_step (bX2_put 2) rfl rfl (hv) ?_
    iterate 5 (refine zv_step (bX2_put 2) rfl rfl trivial ?_)
    refine zv_S2 (bX2_put 2) rfl rfl rfl rfl ⟨rfl, rfl, rfl⟩ ⟨by decide, by decide⟩ ⟨Nat.zero_le _, Nat.zero_le _⟩ (pOwn _ _ _) ?_
    rintro _ _ ⟨rfl, rfl⟩
    refine zv_step (bX2_put 2) rfl rfl (hv) ?_
    iterate 5 (refine zv_step (bX2_put 2) rfl rfl trivial ?_)
    refine zv_S2 (bX2_put 2) rfl rfl rfl rfl ⟨rfl, rfl, rfl⟩ ⟨by decide, by decide⟩ ⟨Nat.zero_le _, Nat.zero_le _⟩ (pHasBit _ _ _) ?_
    rintro _ _ ⟨rfl, ⟨hB, rfl⟩ | ⟨hB, rfl⟩⟩
    · iterate 1 (refine zv_step (bX2_put 2) rfl rfl trivial ?_)
      refine zv_ift (by decide) ?_
      iterate 1 (refine zv_step (bX2_put 2) rfl rfl trivial ?_)
      refine zv_step (bX2_put 2) rfl rfl (hv) ?_
      iterate 5 (refine zv_step (bX2_put 2) rfl rfl trivial ?_)
      refine zv_ifb (fun h0 => ?_) (fun h0 => ?_)
      · iterate 1 (refine zv_step (bX2_put 2) rfl rfl trivial ?_)
        refine zv_step (bX2_put 2) rfl rfl (hv) ?_
        iterate 6 (refine zv_step (bX2_put 2) rfl rfl trivial ?_)
        refine zv_ifb (fun h9 => ?_) (fun h9 => ?_)
        · iterate 1 (refine zv_step (bX2_put 2) rfl rfl trivial ?_)
          refine zv_step (bX2_put 2) rfl rfl (hv) ?_
          exact pPutL14 O P Y g hu hm hmu k v x y (owW k v) (Int32.ofInt 0) (Int32.ofInt 0) (Int32.ofInt 0) (fun sh hsh => ⟨rfl, sh, _, _, _, by unfold hbW; rw [if_pos hB], by rw [if_neg h0], by rw [if_neg h9], hsh, rfl⟩)
        · iterate 4 (refine zv_step (bX2_put 2) rfl rfl trivial ?_)
          refine zv_step (bX2_put 2) rfl rfl (hv) ?_
          exact pPutL14 O P Y g hu hm hmu k v x y (owW k v) (Int32.ofInt 0) (Int32.ofInt 0) (Int32.ofInt 1 <<< (v &&& 31)) (fun sh hsh => ⟨rfl, sh, _, _, _, by unfold hbW; rw [if_pos hB], by rw [if_neg h0], by rw [if_pos (Decidable.not_not.mp h9)], hsh, rfl⟩)
      · iterate 4 (refine zv_step (bX2_put 2) rfl rfl trivial ?_)
        refine zv_step (bX2_put 2) rfl rfl (hv) ?_
        iterate 6 (refine zv_step (bX2_put 2) rfl rfl trivial ?_)
        refine zv_ifb (fun h9 => ?_) (fun h9 => ?_)
        · iterate 1 (refine zv_step (bX2_put 2) rfl rfl trivial ?_)
          refine zv_step (bX2_put 2) rfl rfl (hv) ?_
          exact pPutL14 O P Y g hu hm hmu k v x y (owW k v) (Int32.ofInt 0) (Int32.ofInt 1 <<< (v &&& 31)) (Int32.ofInt 0) (fun sh hsh => ⟨rfl, sh, _, _, _, by unfold hbW; rw [if_pos hB], by rw [if_pos (Decidable.not_not.mp h0)], by rw [if_neg h9], hsh, rfl⟩)
        · iterate 4 (refine zv_step (bX2_put 2) rfl rfl trivial ?_)
          refine zv_step (bX2_put 2) rfl rfl (hv) ?_
          exact pPutL14 O P Y g hu hm hmu k v x y (owW k v) (Int32.ofInt 0) (Int32.ofInt 1 <<< (v &&& 31)) (Int32.ofInt 1 <<< (v &&& 31)) (fun sh hsh => ⟨rfl, sh, _, _, _, by unfold hbW; rw [if_pos hB], by rw [if_pos (Decidable.not_not.mp h0)], by rw [if_pos (Decidable.not_not.mp h9)], hsh, rfl⟩)
    · iterate 1 (refine zv_step (bX2_put 2) rfl rfl trivial ?_)
      refine zv_iff (by decide) ?_
      iterate 2 (refine zv_step (bX2_put 2) rfl rfl trivial ?_)
      refine zv_step (bX2_put 2) rfl rfl (hv) ?_
      iterate 5 (refine zv_step (bX2_put 2) rfl rfl trivial ?_)
      refine zv_ifb (fun h0 => ?_) (fun h0 => ?_)
      · iterate 1 (refine zv_step (bX2_put 2) rfl rfl trivial ?_)
        refine zv_step (bX2_put 2) rfl rfl (hv) ?_
        iterate 6 (refine zv_step (bX2_put 2) rfl rfl trivial ?_)
        refine zv_ifb (fun h9 => ?_) (fun h9 => ?_)
        · iterate 1 (refine zv_step (bX2_put 2) rfl rfl trivial ?_)
          refine zv_step (bX2_put 2) rfl rfl (hv) ?_
          exact pPutL14 O P Y g hu hm hmu k v x y (owW k v) (Int32.ofInt 1) (Int32.ofInt 0) (Int32.ofInt 0) (fun sh hsh => ⟨rfl, sh, _, _, _, by unfold hbW; rw [if_neg hB], by rw [if_neg h0], by rw [if_neg h9], hsh, rfl⟩)
        · iterate 4 (refine zv_step (bX2_put 2) rfl rfl trivial ?_)
          refine zv_step (bX2_put 2) rfl rfl (hv) ?_
          exact pPutL14 O P Y g hu hm hmu k v x y (owW k v) (Int32.ofInt 1) (Int32.ofInt 0) (Int32.ofInt 1 <<< (v &&& 31)) (fun sh hsh => ⟨rfl, sh, _, _, _, by unfold hbW; rw [if_neg hB], by rw [if_neg h0], by rw [if_pos (Decidable.not_not.mp h9)], hsh, rfl⟩)
      · iterate 4 (refine zv_step (bX2_put 2) rfl rfl trivial ?_)
        refine zv_step (bX2_put 2) rfl rfl (hv) ?_
        iterate 6 (refine zv_step (bX2_put 2) rfl rfl trivial ?_)
        refine zv_ifb (fun h9 => ?_) (fun h9 => ?_)
        · iterate 1 (refine zv_step (bX2_put 2) rfl rfl trivial ?_)
          refine zv_step (bX2_put 2) rfl rfl (hv) ?_
          exact pPutL14 O P Y g hu hm hmu k v x y (owW k v) (Int32.ofInt 1) (Int32.ofInt 1 <<< (v &&& 31)) (Int32.ofInt 0) (fun sh hsh => ⟨rfl, sh, _, _, _, by unfold hbW; rw [if_neg hB], by rw [if_pos (Decidable.not_not.mp h0)], by rw [if_neg h9], hsh, rfl⟩)
        · iterate 4 (refine zv_step (bX2_put 2) rfl rfl trivial ?_)
          refine zv_step (bX2_put 2) rfl rfl (hv) ?_
          exact pPutL14 O P Y g hu hm hmu k v x y (owW k v) (Int32.ofInt 1) (Int32.ofInt 1 <<< (v &&& 31)) (Int32.ofInt 1 <<< (v &&& 31)) (fun sh hsh => ⟨rfl, sh, _, _, _, by unfold hbW; rw [if_neg hB], by rw [if_pos (Decidable.not_not.mp h0)], by rw [if_pos (Decidable.not_not.mp h9)], hsh, rfl⟩)
set_option maxHeartbeats 1000000 in
set_option maxRecDepth 20000 in
theorem pPutNo14 (O : Nat → Int32) (P : Nat → Nat → Int32) (Y : Nat → Nat → Int64) (g : Nat → zC) (hu : 120 ≤ (O 2).toInt) (k v x y : Int32) : zK 2 zX2_put [.ref 14, .int k, .int v, .int x, .int y] (wX O P Y g) (fun r w' => r = some (.int (Int32.ofInt (-1))) ∧ w' = wX O P Y g) := by
  refine zK_of qX2_put (by decide +kernel) rfl ?_
  iterate 1 (refine zv_step (bX2_put 2) rfl rfl trivial ?_)
  refine zv_V0 (bX2_put 2) rfl rfl rfl rfl rfl rfl rfl ⟨rfl, rfl, rfl⟩ ⟨by decide, by decide⟩ ⟨Nat.zero_le _, Nat.zero_le _⟩ (pFull14 O P Y g) ?_
  rintro _ _ ⟨rfl, ⟨hf, rfl⟩ | ⟨hf, rfl⟩⟩
  · iterate 1 (refine zv_step (bX2_put 2) rfl rfl trivial ?_)
    refine zv_iff (by decide) ?_
    iterate 1 (refine zv_step (bX2_put 2) rfl rfl trivial ?_)
    exact zv_iret (bX2_put 2) rfl (Or.inl rfl) (Nat.zero_le _) (Nat.zero_le _) ⟨rfl, rfl⟩
  · exact absurd hu hf
