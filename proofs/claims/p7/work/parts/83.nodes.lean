theorem mIn (w : zW) (x : Int32) (l u : Int64) {a b : Int} (hl : l.toInt = a) (hu : u.toInt = b) : zK 0 zX7_in [.long x.toInt64, .long l, .long u] w (fun r w' => w' = w ∧ (((a ≤ x.toInt ∧ x.toInt ≤ b) ∧ r = some (.int 1)) ∨ (¬ (a ≤ x.toInt ∧ x.toInt ≤ b) ∧ r = some (.int 0)))) := by
  have h := hX7_in w x.toInt64 l u
  rw [Int32.toInt_toInt64, hl, hu] at h
  exact h
theorem in_nat {x : Int32} {b : Nat} (hb : b < 2 ^ 31) (h : (0 : Int) ≤ x.toInt ∧ x.toInt ≤ b) : ∃ n : Nat, n ≤ b ∧ x = nI n := by
  refine ⟨x.toInt.toNat, by omega, ?_⟩
  rw [← Int32.toInt_inj, nI_toInt (by omega)]
  omega
theorem pred_toInt {u : Nat} (h : u ≤ 450) : (nI u - Int32.ofInt 1).toInt = (u : Int) - 1 := by
  cases u with
  | zero => decide
  | succ u =>
    rw [show nI (u + 1) - Int32.ofInt 1 = nI u from nI_m1 u, nI_toInt (by omega)]
    omega
theorem mSetsE (f : Nat → zC) (o : Nat → Int32) (A : Nat → Nat → Int32) (J : Nat → Nat → Int64) {n : Nat} {x0 k v x y : Int32} (e : x0 = nI n) (hn : n < 450) (hx : 0 ≤ x → vp_in x 450) (hy : 0 ≤ y → vp_in y 450) : zK 0 zX7_sets [.ref 76, .int x0, .int k, .int v, .int x, .int y] (wR f o A J) (fun r w' => r = none ∧ w' = wR f o (setsA A n k v x y) J) := by
  subst e
  have h := mSets f o A J (n := nI n) (k := k) (v := v) (vp_in_nI hn (by decide)) hx hy
  rw [nI_clamp (by omega)] at h
  exact h
set_option maxHeartbeats 1000000 in
set_option maxRecDepth 20000 in
theorem mIsNode0 (f : Nat → zC) (o : Nat → Int32) (A : Nat → Nat → Int32) (J : Nat → Nat → Int64) (x : Int32) : zK 1 zX7_isNode [.ref 76, .int x] (wR f o A J) (fun r w' => w' = (wR f o A J) ∧ (((0 ≤ x.toInt ∧ x.toInt ≤ (o 0 - Int32.ofInt 1).toInt) ∧ r = some (.int 1)) ∨ (¬ (0 ≤ x.toInt ∧ x.toInt ≤ (o 0 - Int32.ofInt 1).toInt) ∧ r = some (.int 0)))) := by
  refine zK_of qX7_isNode (by decide +kernel) rfl ?_
  iterate 8 (refine zv_step (bX7_isNode 1) rfl rfl trivial ?_)
  refine zv_S3 (bX7_isNode 1) rfl rfl rfl rfl ⟨rfl, rfl, rfl⟩ ⟨by decide, by decide⟩ ⟨Nat.zero_le _, Nat.zero_le _⟩ (mIn _ _ _ _ (a := 0) (by decide) (Int32.toInt_toInt64 _)) ?_
  rintro _ _ ⟨rfl, ⟨g1, rfl⟩ | ⟨g1, rfl⟩⟩
  · skip
    exact zv_iret (bX7_isNode 1) rfl (Or.inr ⟨rfl, Or.inr rfl⟩) (Nat.zero_le _) (Nat.zero_le _) ⟨rfl, Or.inl ⟨g1, rfl⟩⟩
  · skip
    exact zv_iret (bX7_isNode 1) rfl (Or.inr ⟨rfl, Or.inl rfl⟩) (Nat.zero_le _) (Nat.zero_le _) ⟨rfl, Or.inr ⟨g1, rfl⟩⟩
theorem mIsNode (f : Nat → zC) (o : Nat → Int32) (A : Nat → Nat → Int32) (J : Nat → Nat → Int64) {u : Nat} (hu : u ≤ 120) (ho : o 0 = nI u) (x : Int32) : zK 1 zX7_isNode [.ref 76, .int x] (wR f o A J) (fun r w' => w' = (wR f o A J) ∧ (((0 ≤ x.toInt ∧ x.toInt ≤ (u : Int) - 1) ∧ r = some (.int 1)) ∨ (¬ (0 ≤ x.toInt ∧ x.toInt ≤ (u : Int) - 1) ∧ r = some (.int 0)))) := by
  have h := mIsNode0 f o A J x
  rw [ho, pred_toInt (by omega)] at h
  exact h
theorem nd_of {x : Int32} {u : Nat} (hu : u ≤ 450) (h : (0 : Int) ≤ x.toInt ∧ x.toInt ≤ (u : Int) - 1) : ∃ n : Nat, n < u ∧ x = nI n := by
  obtain ⟨n, hn, e⟩ := in_nat (b := u - 1) (by omega) ⟨h.1, by omega⟩
  subst e
  rw [nI_toInt (by omega)] at h
  exact ⟨n, by omega, rfl⟩
/-- NODES may have come -/
def ndX (u : Nat) (A : Nat → Nat → Int32) (u' : Nat) (A' : Nat → Nat → Int32) : Prop := u ≤ u' ∧ u' ≤ 120 ∧ tbI 0 u' A' ∧ (∀ r, 6 ≤ r → A' r = A r) ∧ (∀ r i, i < u → A' r i = A r i)
theorem ndX_refl {u : Nat} {A : Nat → Nat → Int32} (hu : u ≤ 120) (hT : tbI 0 u A) : ndX u A u A := ⟨Nat.le_refl _, hu, hT, fun _ _ => rfl, fun _ _ _ => rfl⟩
theorem ndX_sets {u : Nat} {A : Nat → Nat → Int32} (hu : u < 120) {k v x y : Int32} (h : tbI 0 (u + 1) (setsA A u k v x y)) : ndX u A (u + 1) (setsA A u k v x y) := ⟨by omega, by omega, h, fun r hr => setsA_r hr, fun r i hi => setsA_o (by omega)⟩
set_option maxHeartbeats 1000000 in
set_option maxRecDepth 20000 in
theorem mLeaf (f : Nat → zC) (o : Nat → Int32) (A : Nat → Nat → Int32) (J : Nat → Nat → Int64) {u : Nat} (hu : u ≤ 120) (hT : tbI 0 u A) (x y : Int32) : zK 1 zX7_leaf [.ref 76, .int x, .int y] (wR f (upd o 0 (nI u)) A J) (fun r w' => ∃ (u' : Nat) (A' : Nat → Nat → Int32) (R : Int32), r = some (.int R) ∧ w' = wR f (upd o 0 (nI u')) A' J ∧ ndX u A u' A') := by
  refine zK_of qX7_leaf (by decide +kernel) rfl ?_
  iterate 4 (refine zv_step (bX7_leaf 1) rfl rfl trivial ?_)
  refine zv_S3 (bX7_leaf 1) rfl rfl rfl rfl ⟨rfl, rfl, rfl⟩ ⟨by decide, by decide⟩ ⟨Nat.zero_le _, Nat.zero_le _⟩ (mIn _ _ _ _ (a := 0) (b := 1) (by decide) (by decide)) ?_
  rintro _ _ ⟨rfl, ⟨g1, rfl⟩ | ⟨g1, rfl⟩⟩
  · obtain ⟨k, hk, rfl⟩ := in_nat (b := 1) (by decide) g1
    iterate 1 (refine zv_step (bX7_leaf 1) rfl rfl trivial ?_)
    refine zv_iff (by decide) ?_
    iterate 5 (refine zv_step (bX7_leaf 1) rfl rfl trivial ?_)
    refine zv_ifb (fun h14 => ?_) (fun h14 => ?_)
    · iterate 1 (refine zv_step (bX7_leaf 1) rfl rfl trivial ?_)
      refine zv_S3 (bX7_leaf 1) rfl rfl rfl rfl ⟨rfl, rfl, rfl⟩ ⟨by decide, by decide⟩ ⟨Nat.zero_le _, Nat.zero_le _⟩ (mIn _ _ _ _ (a := 0) (b := 9999) (by decide) (by decide)) ?_
      rintro _ _ ⟨rfl, ⟨g2, rfl⟩ | ⟨g2, rfl⟩⟩
      · obtain ⟨v, hv, rfl⟩ := in_nat (b := 9999) (by decide) g2
        iterate 1 (refine zv_step (bX7_leaf 1) rfl rfl trivial ?_)
        refine zv_ift (by decide) ?_
        iterate 4 (refine zv_step (bX7_leaf 1) rfl rfl trivial ?_)
        refine zv_ifb (fun h40 => ?_) (fun h40 => ?_)
        · have hlt : u < 120 := by
            rcases Nat.lt_or_ge u 120 with h | h
            · exact h
            · exact absurd (show nI u = c8 120 by rw [show u = 120 by omega]; rfl) h40
          iterate 7 (refine zv_step (bX7_leaf 1) rfl rfl trivial ?_)
          refine zv_V5 (bX7_leaf 1) rfl rfl rfl rfl rfl rfl rfl ⟨rfl, rfl, rfl⟩ ⟨by decide, by decide⟩ ⟨Nat.zero_le _, Nat.zero_le _⟩ (mSetsE f (upd o 0 (nI u)) A J (show upd o 0 (nI u) 0 = nI u from rfl) (by omega) vpm2 vpm2) ?_
          rintro _ _ ⟨rfl, rfl⟩
          iterate 10 (refine zv_step (bX7_leaf 1) rfl rfl trivial ?_)
          exact zv_iret (bX7_leaf 1) rfl (Or.inl rfl) (Nat.zero_le _) (Nat.zero_le _) ⟨u + 1, _, _, rfl, by rw [show nI (u + 1) = nI u + Int32.ofInt 1 from (nI_1 u).symm]; rfl, ndX_sets hlt (tbI_sets hT (Nat.zero_le _) (by omega) (k := k) (by omega) (Or.inl ⟨by omega, rfl, rfl⟩) ⟨fun h => absurd (show nI k = 0 by rw [h.resolve_right (by omega)]; rfl) h14, fun h => ⟨v, by omega, rfl⟩, fun h => absurd h (by omega)⟩)⟩
        · iterate 1 (refine zv_step (bX7_leaf 1) rfl rfl trivial ?_)
          exact zv_iret (bX7_leaf 1) rfl (Or.inl rfl) (Nat.zero_le _) (Nat.zero_le _) ⟨u, A, _, rfl, rfl, ndX_refl hu hT⟩
      · skip
        iterate 1 (refine zv_step (bX7_leaf 1) rfl rfl trivial ?_)
        refine zv_iff (by decide) ?_
        iterate 1 (refine zv_step (bX7_leaf 1) rfl rfl trivial ?_)
        exact zv_iret (bX7_leaf 1) rfl (Or.inl rfl) (Nat.zero_le _) (Nat.zero_le _) ⟨u, A, _, rfl, rfl, ndX_refl hu hT⟩
    · iterate 2 (refine zv_step (bX7_leaf 1) rfl rfl trivial ?_)
      refine zv_S3 (bX7_leaf 1) rfl rfl rfl rfl ⟨rfl, rfl, rfl⟩ ⟨by decide, by decide⟩ ⟨Nat.zero_le _, Nat.zero_le _⟩ (mIn _ _ _ _ (a := 0) (b := 9) (by decide) (by decide)) ?_
      rintro _ _ ⟨rfl, ⟨g2, rfl⟩ | ⟨g2, rfl⟩⟩
      · obtain ⟨v, hv, rfl⟩ := in_nat (b := 9) (by decide) g2
        iterate 1 (refine zv_step (bX7_leaf 1) rfl rfl trivial ?_)
        refine zv_ift (by decide) ?_
        iterate 4 (refine zv_step (bX7_leaf 1) rfl rfl trivial ?_)
        refine zv_ifb (fun h40 => ?_) (fun h40 => ?_)
        · have hlt : u < 120 := by
            rcases Nat.lt_or_ge u 120 with h | h
            · exact h
            · exact absurd (show nI u = c8 120 by rw [show u = 120 by omega]; rfl) h40
          iterate 7 (refine zv_step (bX7_leaf 1) rfl rfl trivial ?_)
          refine zv_V5 (bX7_leaf 1) rfl rfl rfl rfl rfl rfl rfl ⟨rfl, rfl, rfl⟩ ⟨by decide, by decide⟩ ⟨Nat.zero_le _, Nat.zero_le _⟩ (mSetsE f (upd o 0 (nI u)) A J (show upd o 0 (nI u) 0 = nI u from rfl) (by omega) vpm2 vpm2) ?_
          rintro _ _ ⟨rfl, rfl⟩
          iterate 10 (refine zv_step (bX7_leaf 1) rfl rfl trivial ?_)
          exact zv_iret (bX7_leaf 1) rfl (Or.inl rfl) (Nat.zero_le _) (Nat.zero_le _) ⟨u + 1, _, _, rfl, by rw [show nI (u + 1) = nI u + Int32.ofInt 1 from (nI_1 u).symm]; rfl, ndX_sets hlt (tbI_sets hT (Nat.zero_le _) (by omega) (k := k) (by omega) (Or.inl ⟨by omega, rfl, rfl⟩) ⟨fun h => ⟨v, hv, rfl⟩, fun h => ⟨v, by omega, rfl⟩, fun h => absurd h (by omega)⟩)⟩
        · iterate 1 (refine zv_step (bX7_leaf 1) rfl rfl trivial ?_)
          exact zv_iret (bX7_leaf 1) rfl (Or.inl rfl) (Nat.zero_le _) (Nat.zero_le _) ⟨u, A, _, rfl, rfl, ndX_refl hu hT⟩
      · skip
        iterate 1 (refine zv_step (bX7_leaf 1) rfl rfl trivial ?_)
        refine zv_iff (by decide) ?_
        iterate 1 (refine zv_step (bX7_leaf 1) rfl rfl trivial ?_)
        exact zv_iret (bX7_leaf 1) rfl (Or.inl rfl) (Nat.zero_le _) (Nat.zero_le _) ⟨u, A, _, rfl, rfl, ndX_refl hu hT⟩
  · skip
    iterate 1 (refine zv_step (bX7_leaf 1) rfl rfl trivial ?_)
    refine zv_ift (by decide) ?_
    iterate 1 (refine zv_step (bX7_leaf 1) rfl rfl trivial ?_)
    exact zv_iret (bX7_leaf 1) rfl (Or.inl rfl) (Nat.zero_le _) (Nat.zero_le _) ⟨u, A, _, rfl, rfl, ndX_refl hu hT⟩
set_option maxHeartbeats 1000000 in
set_option maxRecDepth 20000 in
theorem mTwoY (w : zW) {k : Nat} (h1 : 2 ≤ k) (h2 : k ≤ 6) : zK 0 zX7_isTwo [.int (nI k)] w (fun r w' => w' = w ∧ r = some (.int 1)) := by
  refine zK_of qX7_isTwo (by decide +kernel) rfl ?_
  iterate 3 (refine zv_step (bX7_isTwo 0) rfl rfl trivial ?_)
  refine zv_iff (show ¬ nI k < nI 2 from nI_nlt h1 (by omega)) ?_
  iterate 3 (refine zv_step (bX7_isTwo 0) rfl rfl trivial ?_)
  refine zv_iff (show ¬ nI 6 < nI k from nI_nlt h2 (by omega)) ?_
  iterate 2 (refine zv_step (bX7_isTwo 0) rfl rfl trivial ?_)
  exact zv_iret (bX7_isTwo 0) rfl (Or.inr ⟨rfl, Or.inr rfl⟩) (Nat.zero_le _) (Nat.zero_le _) ⟨rfl, rfl⟩
set_option maxHeartbeats 1000000 in
set_option maxRecDepth 20000 in
theorem mTwoN (w : zW) {k : Nat} (h1 : 7 ≤ k) (h2 : k < 10) : zK 0 zX7_isTwo [.int (nI k)] w (fun r w' => w' = w ∧ r = some (.int 0)) := by
  refine zK_of qX7_isTwo (by decide +kernel) rfl ?_
  iterate 3 (refine zv_step (bX7_isTwo 0) rfl rfl trivial ?_)
  refine zv_iff (show ¬ nI k < nI 2 from nI_nlt (by omega) (by omega)) ?_
  iterate 3 (refine zv_step (bX7_isTwo 0) rfl rfl trivial ?_)
  refine zv_ift (show nI 6 < nI k from nI_lt (by omega) (by omega)) ?_
  iterate 1 (refine zv_step (bX7_isTwo 0) rfl rfl trivial ?_)
  exact zv_iret (bX7_isTwo 0) rfl (Or.inr ⟨rfl, Or.inl rfl⟩) (Nat.zero_le _) (Nat.zero_le _) ⟨rfl, rfl⟩
set_option maxHeartbeats 1000000 in
set_option maxRecDepth 20000 in
theorem mNode (f : Nat → zC) (o : Nat → Int32) (A : Nat → Nat → Int32) (J : Nat → Nat → Int64) {u : Nat} (hu : u ≤ 120) (hT : tbI 0 u A) (x y' y : Int32) : zK 2 zX7_node [.ref 76, .int x, .int y', .int y] (wR f (upd o 0 (nI u)) A J) (fun r w' => ∃ (u' : Nat) (A' : Nat → Nat → Int32) (R : Int32), r = some (.int R) ∧ w' = wR f (upd o 0 (nI u')) A' J ∧ ndX u A u' A') := by
  refine zK_of qX7_node (by decide +kernel) rfl ?_
  iterate 4 (refine zv_step (bX7_node 2) rfl rfl trivial ?_)
  refine zv_S3 (bX7_node 2) rfl rfl rfl rfl ⟨rfl, rfl, rfl⟩ ⟨by decide, by decide⟩ ⟨Nat.zero_le _, Nat.zero_le _⟩ (mIn _ _ _ _ (a := 2) (b := 9) (by decide) (by decide)) ?_
  rintro _ _ ⟨rfl, ⟨g1, rfl⟩ | ⟨g1, rfl⟩⟩
  · obtain ⟨k, hk9, rfl⟩ := in_nat (x := x) (b := 9) (by decide) ⟨by omega, by omega⟩
    rw [nI_toInt (by omega)] at g1
    iterate 1 (refine zv_step (bX7_node 2) rfl rfl trivial ?_)
    refine zv_iff (by decide) ?_
    iterate 2 (refine zv_step (bX7_node 2) rfl rfl trivial ?_)
    refine zv_V1 (bX7_node 2) rfl rfl rfl rfl rfl rfl rfl ⟨rfl, rfl, rfl⟩ ⟨by decide, by decide⟩ ⟨Nat.zero_le _, Nat.zero_le _⟩ (mIsNode f (upd o 0 (nI u)) A J hu rfl _) ?_
    rintro _ _ ⟨rfl, ⟨g2, rfl⟩ | ⟨g2, rfl⟩⟩
    · obtain ⟨n, hn, rfl⟩ := nd_of (by omega) g2
      iterate 1 (refine zv_step (bX7_node 2) rfl rfl trivial ?_)
      refine zv_iff (by decide) ?_
      iterate 3 (refine zv_step (bX7_node 2) rfl rfl trivial ?_)
      refine zv_ifb (fun h25 => ?_) (fun h25 => ?_)
      · have k9 : k ≠ 9 := fun e => h25 (by rw [e]; rfl)
        iterate 1 (refine zv_step (bX7_node 2) rfl rfl trivial ?_)
        refine zv_S1 (bX7_node 2) rfl rfl rfl rfl ⟨rfl, rfl, rfl⟩ ⟨by decide, by decide⟩ ⟨Nat.zero_le _, Nat.zero_le _⟩ (hX7_isTwo _ _) ?_
        rintro _ _ ⟨rfl, ⟨g4, rfl⟩ | ⟨g4, rfl⟩⟩
        · have k2 : 2 ≤ k ∧ k ≤ 6 := by rw [nI_toInt (by omega)] at g4; omega
          iterate 1 (refine zv_step (bX7_node 2) rfl rfl trivial ?_)
          refine zv_iff (by decide) ?_
          iterate 2 (refine zv_step (bX7_node 2) rfl rfl trivial ?_)
          refine zv_V1 (bX7_node 2) rfl rfl rfl rfl rfl rfl rfl ⟨rfl, rfl, rfl⟩ ⟨by decide, by decide⟩ ⟨Nat.zero_le _, Nat.zero_le _⟩ (mIsNode f (upd o 0 (nI u)) A J hu rfl _) ?_
          rintro _ _ ⟨rfl, ⟨g5, rfl⟩ | ⟨g5, rfl⟩⟩
          · obtain ⟨m, hm, rfl⟩ := nd_of (by omega) g5
            iterate 1 (refine zv_step (bX7_node 2) rfl rfl trivial ?_)
            refine zv_iff (by decide) ?_
            iterate 5 (refine zv_step (bX7_node 2) rfl rfl trivial ?_)
            refine zv_ift (by decide) ?_
            iterate 4 (refine zv_step (bX7_node 2) rfl rfl trivial ?_)
            refine zv_ifb (fun h78 => ?_) (fun h78 => ?_)
            · have hlt : u < 120 := by
                rcases Nat.lt_or_ge u 120 with h | h
                · exact h
                · exact absurd (show nI u = c8 120 by rw [show u = 120 by omega]; rfl) h78
              have sn := (rN_sz (hT n (Nat.zero_le _) hn)).2.1
              have sm := (rN_sz (hT m (Nat.zero_le _) hm)).2.1
              iterate 4 (refine zv_step (bX7_node 2) rfl rfl trivial ?_)
              refine zv_iale (bX7_node 2) rfl rfl (vp_in_nI (by omega) (by decide)) (show A 4 (nI n).toNatClampNeg = nI (szN A n) by rw [nI_clamp (by omega)]; exact (rN_sz (hT n (Nat.zero_le _) (by omega))).2.2) ?_
              iterate 2 (refine zv_step (bX7_node 2) rfl rfl trivial ?_)
              refine zv_S1 (bX7_node 2) rfl rfl rfl rfl ⟨rfl, rfl, rfl⟩ ⟨by decide, by decide⟩ ⟨Nat.zero_le _, Nat.zero_le _⟩ (mTwoY _ k2.1 k2.2) ?_
              rintro _ _ ⟨rfl, rfl⟩
              iterate 1 (refine zv_step (bX7_node 2) rfl rfl trivial ?_)
              refine zv_iff (by decide) ?_
              iterate 3 (refine zv_step (bX7_node 2) rfl rfl trivial ?_)
              refine zv_iale (bX7_node 2) rfl rfl (vp_in_nI (by omega) (by decide)) (show A 4 (nI m).toNatClampNeg = nI (szN A m) by rw [nI_clamp (by omega)]; exact (rN_sz (hT m (Nat.zero_le _) (by omega))).2.2) ?_
              iterate 4 (refine zv_step (bX7_node 2) rfl rfl trivial ?_)
              refine zv_ifb (fun h112 => ?_) (fun h112 => ?_)
              · have hz : 1 + szN A n + szN A m ≤ 40 := by
                  have h8 : nI 1 + nI (szN A n) + nI (szN A m) ≤ nI 40 := h112
                  rw [nI_add, nI_add, nI_leI (by omega) (by decide)] at h8
                  omega
                iterate 7 (refine zv_step (bX7_node 2) rfl rfl trivial ?_)
                refine zv_ift (fun h => k9 ((nI_eq (by omega) (by decide)).mp h)) ?_
                iterate 3 (refine zv_step (bX7_node 2) rfl rfl trivial ?_)
                refine zv_S1 (bX7_node 2) rfl rfl rfl rfl ⟨rfl, rfl, rfl⟩ ⟨by decide, by decide⟩ ⟨Nat.zero_le _, Nat.zero_le _⟩ (mTwoY _ k2.1 k2.2) ?_
                rintro _ _ ⟨rfl, rfl⟩
                iterate 1 (refine zv_step (bX7_node 2) rfl rfl trivial ?_)
                refine zv_iff (by decide) ?_
                iterate 2 (refine zv_step (bX7_node 2) rfl rfl trivial ?_)
                refine zv_V5 (bX7_node 2) rfl rfl rfl rfl rfl rfl rfl ⟨rfl, rfl, rfl⟩ ⟨by decide, by decide⟩ ⟨Nat.zero_le _, Nat.zero_le _⟩ (mSetsE f (upd o 0 (nI u)) A J (show upd o 0 (nI u) 0 = nI u from rfl) (by omega) (fun _ => vp_in_nI (by omega) (by decide)) (fun _ => vp_in_nI (by omega) (by decide))) ?_
                rintro _ _ ⟨rfl, rfl⟩
                iterate 10 (refine zv_step (bX7_node 2) rfl rfl trivial ?_)
                exact zv_iret (bX7_node 2) rfl (Or.inl rfl) (Nat.zero_le _) (Nat.zero_le _) ⟨u + 1, _, _, rfl, by rw [show nI (u + 1) = nI u + Int32.ofInt 1 from (nI_1 u).symm]; rfl, ndX_sets hlt (tbI_sets hT (Nat.zero_le _) (by omega) (k := k) (by omega) (Or.inr (Or.inl ⟨by omega, by omega, n, m, rfl, Nat.zero_le _, hn, rfl, Nat.zero_le _, hm, hz⟩)) ⟨fun h => absurd h (by omega), fun h => absurd h (by omega), fun _ _ => rfl⟩)⟩
              · iterate 1 (refine zv_step (bX7_node 2) rfl rfl trivial ?_)
                exact zv_iret (bX7_node 2) rfl (Or.inl rfl) (Nat.zero_le _) (Nat.zero_le _) ⟨u, A, _, rfl, rfl, ndX_refl hu hT⟩
            · iterate 1 (refine zv_step (bX7_node 2) rfl rfl trivial ?_)
              exact zv_iret (bX7_node 2) rfl (Or.inl rfl) (Nat.zero_le _) (Nat.zero_le _) ⟨u, A, _, rfl, rfl, ndX_refl hu hT⟩
          · skip
            iterate 1 (refine zv_step (bX7_node 2) rfl rfl trivial ?_)
            refine zv_ift (by decide) ?_
            iterate 4 (refine zv_step (bX7_node 2) rfl rfl trivial ?_)
            refine zv_iff (by decide) ?_
            iterate 1 (refine zv_step (bX7_node 2) rfl rfl trivial ?_)
            exact zv_iret (bX7_node 2) rfl (Or.inl rfl) (Nat.zero_le _) (Nat.zero_le _) ⟨u, A, _, rfl, rfl, ndX_refl hu hT⟩
        · have k7 : 7 ≤ k := by rw [nI_toInt (by omega)] at g4; omega
          iterate 1 (refine zv_step (bX7_node 2) rfl rfl trivial ?_)
          refine zv_ift (by decide) ?_
          iterate 5 (refine zv_step (bX7_node 2) rfl rfl trivial ?_)
          refine zv_ift (by decide) ?_
          iterate 4 (refine zv_step (bX7_node 2) rfl rfl trivial ?_)
          refine zv_ifb (fun h78 => ?_) (fun h78 => ?_)
          · have hlt : u < 120 := by
              rcases Nat.lt_or_ge u 120 with h | h
              · exact h
              · exact absurd (show nI u = c8 120 by rw [show u = 120 by omega]; rfl) h78
            have sn := (rN_sz (hT n (Nat.zero_le _) hn)).2.1
            iterate 4 (refine zv_step (bX7_node 2) rfl rfl trivial ?_)
            refine zv_iale (bX7_node 2) rfl rfl (vp_in_nI (by omega) (by decide)) (show A 4 (nI n).toNatClampNeg = nI (szN A n) by rw [nI_clamp (by omega)]; exact (rN_sz (hT n (Nat.zero_le _) (by omega))).2.2) ?_
            iterate 2 (refine zv_step (bX7_node 2) rfl rfl trivial ?_)
            refine zv_S1 (bX7_node 2) rfl rfl rfl rfl ⟨rfl, rfl, rfl⟩ ⟨by decide, by decide⟩ ⟨Nat.zero_le _, Nat.zero_le _⟩ (mTwoN _ (by omega) (by omega)) ?_
            rintro _ _ ⟨rfl, rfl⟩
            iterate 1 (refine zv_step (bX7_node 2) rfl rfl trivial ?_)
            refine zv_ift (by decide) ?_
            iterate 4 (refine zv_step (bX7_node 2) rfl rfl trivial ?_)
            refine zv_ifb (fun h112 => ?_) (fun h112 => ?_)
            · have hz : 1 + szN A n ≤ 40 := by
                have h8 : nI 1 + nI (szN A n) + nI 0 ≤ nI 40 := h112
                rw [nI_add, nI_add, nI_leI (by omega) (by decide)] at h8
                omega
              iterate 7 (refine zv_step (bX7_node 2) rfl rfl trivial ?_)
              refine zv_ift (fun h => k9 ((nI_eq (by omega) (by decide)).mp h)) ?_
              iterate 3 (refine zv_step (bX7_node 2) rfl rfl trivial ?_)
              refine zv_S1 (bX7_node 2) rfl rfl rfl rfl ⟨rfl, rfl, rfl⟩ ⟨by decide, by decide⟩ ⟨Nat.zero_le _, Nat.zero_le _⟩ (mTwoN _ (by omega) (by omega)) ?_
              rintro _ _ ⟨rfl, rfl⟩
              iterate 1 (refine zv_step (bX7_node 2) rfl rfl trivial ?_)
              refine zv_ift (by decide) ?_
              iterate 1 (refine zv_step (bX7_node 2) rfl rfl trivial ?_)
              refine zv_V5 (bX7_node 2) rfl rfl rfl rfl rfl rfl rfl ⟨rfl, rfl, rfl⟩ ⟨by decide, by decide⟩ ⟨Nat.zero_le _, Nat.zero_le _⟩ (mSetsE f (upd o 0 (nI u)) A J (show upd o 0 (nI u) 0 = nI u from rfl) (by omega) (fun _ => vp_in_nI (by omega) (by decide)) vpm2) ?_
              rintro _ _ ⟨rfl, rfl⟩
              iterate 10 (refine zv_step (bX7_node 2) rfl rfl trivial ?_)
              exact zv_iret (bX7_node 2) rfl (Or.inl rfl) (Nat.zero_le _) (Nat.zero_le _) ⟨u + 1, _, _, rfl, by rw [show nI (u + 1) = nI u + Int32.ofInt 1 from (nI_1 u).symm]; rfl, ndX_sets hlt (tbI_sets hT (Nat.zero_le _) (by omega) (k := k) (by omega) (Or.inr (Or.inr ⟨k7, n, rfl, Nat.zero_le _, hn, rfl, hz⟩)) ⟨fun h => absurd h (by omega), fun h => absurd h (by omega), fun _ _ => rfl⟩)⟩
            · iterate 1 (refine zv_step (bX7_node 2) rfl rfl trivial ?_)
              exact zv_iret (bX7_node 2) rfl (Or.inl rfl) (Nat.zero_le _) (Nat.zero_le _) ⟨u, A, _, rfl, rfl, ndX_refl hu hT⟩
          · iterate 1 (refine zv_step (bX7_node 2) rfl rfl trivial ?_)
            exact zv_iret (bX7_node 2) rfl (Or.inl rfl) (Nat.zero_le _) (Nat.zero_le _) ⟨u, A, _, rfl, rfl, ndX_refl hu hT⟩
      · have k9 : k = 9 := (nI_eq (by omega) (by decide)).mp (Decidable.not_not.mp h25)
        iterate 4 (refine zv_step (bX7_node 2) rfl rfl trivial ?_)
        refine zv_S3 (bX7_node 2) rfl rfl rfl rfl ⟨rfl, rfl, rfl⟩ ⟨by decide, by decide⟩ ⟨Nat.zero_le _, Nat.zero_le _⟩ (mIn _ _ _ _ (a := 0) (b := 9) (by decide) (by decide)) ?_
        rintro _ _ ⟨rfl, ⟨g3, rfl⟩ | ⟨g3, rfl⟩⟩
        · obtain ⟨v, hv, rfl⟩ := in_nat (x := y) (b := 9) (by decide) g3
          iterate 1 (refine zv_step (bX7_node 2) rfl rfl trivial ?_)
          refine zv_iff (by decide) ?_
          iterate 6 (refine zv_step (bX7_node 2) rfl rfl trivial ?_)
          refine zv_ift (by decide) ?_
          iterate 4 (refine zv_step (bX7_node 2) rfl rfl trivial ?_)
          refine zv_ifb (fun h78 => ?_) (fun h78 => ?_)
          · have hlt : u < 120 := by
              rcases Nat.lt_or_ge u 120 with h | h
              · exact h
              · exact absurd (show nI u = c8 120 by rw [show u = 120 by omega]; rfl) h78
            have sn := (rN_sz (hT n (Nat.zero_le _) hn)).2.1
            iterate 4 (refine zv_step (bX7_node 2) rfl rfl trivial ?_)
            refine zv_iale (bX7_node 2) rfl rfl (vp_in_nI (by omega) (by decide)) (show A 4 (nI n).toNatClampNeg = nI (szN A n) by rw [nI_clamp (by omega)]; exact (rN_sz (hT n (Nat.zero_le _) (by omega))).2.2) ?_
            iterate 2 (refine zv_step (bX7_node 2) rfl rfl trivial ?_)
            refine zv_S1 (bX7_node 2) rfl rfl rfl rfl ⟨rfl, rfl, rfl⟩ ⟨by decide, by decide⟩ ⟨Nat.zero_le _, Nat.zero_le _⟩ (mTwoN _ (by omega) (by omega)) ?_
            rintro _ _ ⟨rfl, rfl⟩
            iterate 1 (refine zv_step (bX7_node 2) rfl rfl trivial ?_)
            refine zv_ift (by decide) ?_
            iterate 4 (refine zv_step (bX7_node 2) rfl rfl trivial ?_)
            refine zv_ifb (fun h112 => ?_) (fun h112 => ?_)
            · have hz : 1 + szN A n ≤ 40 := by
                have h8 : nI 1 + nI (szN A n) + nI 0 ≤ nI 40 := h112
                rw [nI_add, nI_add, nI_leI (by omega) (by decide)] at h8
                omega
              iterate 7 (refine zv_step (bX7_node 2) rfl rfl trivial ?_)
              refine zv_iff (fun h => h (by rw [k9]; rfl)) ?_
              iterate 4 (refine zv_step (bX7_node 2) rfl rfl trivial ?_)
              refine zv_S1 (bX7_node 2) rfl rfl rfl rfl ⟨rfl, rfl, rfl⟩ ⟨by decide, by decide⟩ ⟨Nat.zero_le _, Nat.zero_le _⟩ (mTwoN _ (by omega) (by omega)) ?_
              rintro _ _ ⟨rfl, rfl⟩
              iterate 1 (refine zv_step (bX7_node 2) rfl rfl trivial ?_)
              refine zv_ift (by decide) ?_
              iterate 1 (refine zv_step (bX7_node 2) rfl rfl trivial ?_)
              refine zv_V5 (bX7_node 2) rfl rfl rfl rfl rfl rfl rfl ⟨rfl, rfl, rfl⟩ ⟨by decide, by decide⟩ ⟨Nat.zero_le _, Nat.zero_le _⟩ (mSetsE f (upd o 0 (nI u)) A J (show upd o 0 (nI u) 0 = nI u from rfl) (by omega) (fun _ => vp_in_nI (by omega) (by decide)) vpm2) ?_
              rintro _ _ ⟨rfl, rfl⟩
              iterate 10 (refine zv_step (bX7_node 2) rfl rfl trivial ?_)
              exact zv_iret (bX7_node 2) rfl (Or.inl rfl) (Nat.zero_le _) (Nat.zero_le _) ⟨u + 1, _, _, rfl, by rw [show nI (u + 1) = nI u + Int32.ofInt 1 from (nI_1 u).symm]; rfl, ndX_sets hlt (tbI_sets hT (Nat.zero_le _) (by omega) (k := k) (by omega) (Or.inr (Or.inr ⟨by omega, n, rfl, Nat.zero_le _, hn, rfl, hz⟩)) ⟨fun _ => ⟨v, hv, rfl⟩, fun h => absurd h (by omega), fun _ h => absurd h (by omega)⟩)⟩
            · iterate 1 (refine zv_step (bX7_node 2) rfl rfl trivial ?_)
              exact zv_iret (bX7_node 2) rfl (Or.inl rfl) (Nat.zero_le _) (Nat.zero_le _) ⟨u, A, _, rfl, rfl, ndX_refl hu hT⟩
          · iterate 1 (refine zv_step (bX7_node 2) rfl rfl trivial ?_)
            exact zv_iret (bX7_node 2) rfl (Or.inl rfl) (Nat.zero_le _) (Nat.zero_le _) ⟨u, A, _, rfl, rfl, ndX_refl hu hT⟩
        · skip
          iterate 1 (refine zv_step (bX7_node 2) rfl rfl trivial ?_)
          refine zv_ift (by decide) ?_
          iterate 4 (refine zv_step (bX7_node 2) rfl rfl trivial ?_)
          refine zv_iff (by decide) ?_
          iterate 1 (refine zv_step (bX7_node 2) rfl rfl trivial ?_)
          exact zv_iret (bX7_node 2) rfl (Or.inl rfl) (Nat.zero_le _) (Nat.zero_le _) ⟨u, A, _, rfl, rfl, ndX_refl hu hT⟩
    · skip
      iterate 1 (refine zv_step (bX7_node 2) rfl rfl trivial ?_)
      refine zv_ift (by decide) ?_
      iterate 4 (refine zv_step (bX7_node 2) rfl rfl trivial ?_)
      refine zv_iff (by decide) ?_
      iterate 1 (refine zv_step (bX7_node 2) rfl rfl trivial ?_)
      exact zv_iret (bX7_node 2) rfl (Or.inl rfl) (Nat.zero_le _) (Nat.zero_le _) ⟨u, A, _, rfl, rfl, ndX_refl hu hT⟩
  · skip
    iterate 1 (refine zv_step (bX7_node 2) rfl rfl trivial ?_)
    refine zv_ift (by decide) ?_
    iterate 4 (refine zv_step (bX7_node 2) rfl rfl trivial ?_)
    refine zv_iff (by decide) ?_
    iterate 1 (refine zv_step (bX7_node 2) rfl rfl trivial ?_)
    exact zv_iret (bX7_node 2) rfl (Or.inl rfl) (Nat.zero_le _) (Nat.zero_le _) ⟨u, A, _, rfl, rfl, ndX_refl hu hT⟩
set_option maxHeartbeats 1000000 in
set_option maxRecDepth 20000 in
theorem mUndo (f : Nat → zC) (o : Nat → Int32) (A : Nat → Nat → Int32) (J : Nat → Nat → Int64) {u : Nat} (hu : u ≤ 120) : zK 0 zX7_undo [.ref 76] (wR f (upd o 0 (nI u)) A J) (fun r w' => ∃ R : Int32, r = some (.int R) ∧ (w' = (wR f (upd o 0 (nI u)) A J) ∨ (0 < u ∧ w' = wR f (upd o 0 (nI (u - 1))) A J ∧ (o 30 = 1 → ¬ A 20 0 = nI (u - 1))))) := by
  refine zK_of qX7_undo (by decide +kernel) rfl ?_
  iterate 3 (refine zv_step (bX7_undo 0) rfl rfl trivial ?_)
  refine zv_ifb (fun h4 => ?_) (fun h4 => ?_)
  · have h0 : u ≠ 0 := fun e => h4 (by rw [e]; rfl)
    iterate 3 (refine zv_step (bX7_undo 0) rfl rfl trivial ?_)
    refine zv_ifb (fun h13 => ?_) (fun h13 => ?_)
    · iterate 8 (refine zv_step (bX7_undo 0) rfl rfl trivial ?_)
      exact zv_iret (bX7_undo 0) rfl (Or.inl rfl) (Nat.zero_le _) (Nat.zero_le _) ⟨_, rfl, Or.inr ⟨by omega, by rw [← show nI u - Int32.ofInt 1 = nI (u - 1) from sub_1 (by omega)]; rfl, fun h => absurd (show o 30 = 0 from h13) (by rw [h]; decide)⟩⟩
    · iterate 3 (refine zv_step (bX7_undo 0) rfl rfl trivial ?_)
      refine zv_step (bX7_undo 0) rfl rfl (show vp_in (nI 0) 41 from vp_in_nI (by decide) (by decide)) ?_
      iterate 5 (refine zv_step (bX7_undo 0) rfl rfl trivial ?_)
      refine zv_ifb (fun h28 => ?_) (fun h28 => ?_)
      · iterate 8 (refine zv_step (bX7_undo 0) rfl rfl trivial ?_)
        exact zv_iret (bX7_undo 0) rfl (Or.inl rfl) (Nat.zero_le _) (Nat.zero_le _) ⟨_, rfl, Or.inr ⟨by omega, by rw [← show nI u - Int32.ofInt 1 = nI (u - 1) from sub_1 (by omega)]; rfl, fun h => fun e => h28 (show A 20 0 = nI u - Int32.ofInt 1 by rw [sub_1 (by omega)]; exact e)⟩⟩
      · iterate 1 (refine zv_step (bX7_undo 0) rfl rfl trivial ?_)
        exact zv_iret (bX7_undo 0) rfl (Or.inl rfl) (Nat.zero_le _) (Nat.zero_le _) ⟨_, rfl, Or.inl rfl⟩
  · iterate 1 (refine zv_step (bX7_undo 0) rfl rfl trivial ?_)
    exact zv_iret (bX7_undo 0) rfl (Or.inl rfl) (Nat.zero_le _) (Nat.zero_le _) ⟨_, rfl, Or.inl rfl⟩
theorem nar_b {x : Int32} (h : x = 0 ∨ x = 1) : vp_nar .boolean x = x := by
  rcases h with rfl | rfl <;> decide
set_option maxHeartbeats 1000000 in
set_option maxRecDepth 20000 in
theorem mMeans (f : Nat → zC) (o : Nat → Int32) (A : Nat → Nat → Int32) (J : Nat → Nat → Int64) (x on : Int32) (hon : on = 0 ∨ on = 1) : zK 1 zX7_means [.ref 76, .int x, .int on] (wR f o A J) (fun r w' => (∃ v : Nat, v ≤ 9 ∧ x = nI v ∧ w' = wR f o (updA A 6 (upd (A 6) v on)) J ∧ ((A 6 v = on ∧ r = some (.int (Int32.ofInt 0))) ∨ (¬ A 6 v = on ∧ r = some (.int (Int32.ofInt 1))))) ∨ (¬ (0 ≤ x.toInt ∧ x.toInt ≤ 9) ∧ w' = (wR f o A J) ∧ r = some (.int (Int32.ofInt (-1))))) := by
  refine zK_of qX7_means (by decide +kernel) rfl ?_
  iterate 4 (refine zv_step (bX7_means 1) rfl rfl trivial ?_)
  refine zv_S3 (bX7_means 1) rfl rfl rfl rfl ⟨rfl, rfl, rfl⟩ ⟨by decide, by decide⟩ ⟨Nat.zero_le _, Nat.zero_le _⟩ (mIn _ _ _ _ (a := 0) (b := 9) (by decide) (by decide)) ?_
  rintro _ _ ⟨rfl, ⟨g1, rfl⟩ | ⟨g1, rfl⟩⟩
  · obtain ⟨v, hv, rfl⟩ := in_nat (x := x) (b := 9) (by decide) g1
    iterate 1 (refine zv_step (bX7_means 1) rfl rfl trivial ?_)
    refine zv_ift (by decide) ?_
    iterate 3 (refine zv_step (bX7_means 1) rfl rfl trivial ?_)
    refine zv_zale (bX7_means 1) rfl rfl (vp_in_nI (by omega) (by decide)) (show A 6 (nI v).toNatClampNeg = A 6 v by rw [nI_clamp (by omega)]) ?_
    iterate 2 (refine zv_step (bX7_means 1) rfl rfl trivial ?_)
    refine zv_ifb (fun h21 => ?_) (fun h21 => ?_)
    · iterate 6 (refine zv_step (bX7_means 1) rfl rfl trivial ?_)
      refine zv_step (bX7_means 1) rfl rfl (vp_in_nI (by omega) (by decide)) ?_
      iterate 1 (refine zv_step (bX7_means 1) rfl rfl trivial ?_)
      exact zv_iret (bX7_means 1) rfl (Or.inl rfl) (Nat.zero_le _) (Nat.zero_le _) (Or.inl ⟨v, hv, rfl, by show wR f o (updA A 6 (upd (A 6) (nI v).toNatClampNeg (vp_nar .boolean on))) J = _; rw [nI_clamp (by omega), nar_b hon], Or.inl ⟨h21, rfl⟩⟩)
    · iterate 7 (refine zv_step (bX7_means 1) rfl rfl trivial ?_)
      refine zv_step (bX7_means 1) rfl rfl (vp_in_nI (by omega) (by decide)) ?_
      iterate 1 (refine zv_step (bX7_means 1) rfl rfl trivial ?_)
      exact zv_iret (bX7_means 1) rfl (Or.inl rfl) (Nat.zero_le _) (Nat.zero_le _) (Or.inl ⟨v, hv, rfl, by show wR f o (updA A 6 (upd (A 6) (nI v).toNatClampNeg (vp_nar .boolean on))) J = _; rw [nI_clamp (by omega), nar_b hon], Or.inr ⟨h21, rfl⟩⟩)
  · skip
    iterate 1 (refine zv_step (bX7_means 1) rfl rfl trivial ?_)
    refine zv_iff (by decide) ?_
    iterate 1 (refine zv_step (bX7_means 1) rfl rfl trivial ?_)
    exact zv_iret (bX7_means 1) rfl (Or.inl rfl) (Nat.zero_le _) (Nat.zero_le _) (Or.inr ⟨g1, rfl, rfl⟩)
set_option maxHeartbeats 1000000 in
set_option maxRecDepth 20000 in
theorem mKeeps (f : Nat → zC) (o : Nat → Int32) (A : Nat → Nat → Int32) (J : Nat → Nat → Int64) (x y on : Int32) (hon : on = 0 ∨ on = 1) : zK 2 zX7_keeps [.ref 76, .int x, .int y, .int on] (wR f o A J) (fun r w' => (∃ s k : Nat, s < 8 ∧ (2 ≤ k ∧ k ≤ 9) ∧ k ≠ 8 ∧ x = nI s ∧ y = nI k ∧ w' = wR f o (updA A 7 (upd (A 7) (10 * s + k) on)) J ∧ ((A 7 (10 * s + k) = on ∧ r = some (.int (Int32.ofInt 0))) ∨ (¬ A 7 (10 * s + k) = on ∧ r = some (.int (Int32.ofInt 1))))) ∨ (¬ ((0 ≤ x.toInt ∧ x.toInt ≤ 7) ∧ (2 ≤ y.toInt ∧ y.toInt ≤ 9 ∧ y.toInt ≠ 8)) ∧ w' = (wR f o A J) ∧ r = some (.int (Int32.ofInt (-1))))) := by
  refine zK_of qX7_keeps (by decide +kernel) rfl ?_
  iterate 1 (refine zv_step (bX7_keeps 2) rfl rfl trivial ?_)
  refine zv_S1 (bX7_keeps 2) rfl rfl rfl rfl ⟨rfl, rfl, rfl⟩ ⟨by decide, by decide⟩ ⟨Nat.zero_le _, Nat.zero_le _⟩ (hX7_isStyle _ _) ?_
  rintro _ _ ⟨rfl, ⟨g1, rfl⟩ | ⟨g1, rfl⟩⟩
  · obtain ⟨s, hs, rfl⟩ := in_nat (x := x) (b := 7) (by decide) g1
    iterate 1 (refine zv_step (bX7_keeps 2) rfl rfl trivial ?_)
    refine zv_iff (by decide) ?_
    iterate 1 (refine zv_step (bX7_keeps 2) rfl rfl trivial ?_)
    refine zv_S1 (bX7_keeps 2) rfl rfl rfl rfl ⟨rfl, rfl, rfl⟩ ⟨by decide, by decide⟩ ⟨Nat.zero_le _, Nat.zero_le _⟩ (hX7_mayKeep _ _) ?_
    rintro _ _ ⟨rfl, ⟨g2, rfl⟩ | ⟨g2, rfl⟩⟩
    · obtain ⟨k, hk, rfl⟩ := in_nat (x := y) (b := 9) (by decide) ⟨by omega, by omega⟩
      rw [nI_toInt (by omega)] at g2
      iterate 1 (refine zv_step (bX7_keeps 2) rfl rfl trivial ?_)
      refine zv_ift (by decide) ?_
      iterate 7 (refine zv_step (bX7_keeps 2) rfl rfl trivial ?_)
      refine zv_zale (bX7_keeps 2) rfl rfl (show vp_in (c8 10 * nI s + nI k) 90 by rw [ix10]; exact vp_in_nI (by omega) (by decide)) (show A 7 (c8 10 * nI s + nI k).toNatClampNeg = A 7 (10 * s + k) by rw [ix10, nI_clamp (by omega)]) ?_
      iterate 2 (refine zv_step (bX7_keeps 2) rfl rfl trivial ?_)
      refine zv_ifb (fun h28 => ?_) (fun h28 => ?_)
      · iterate 10 (refine zv_step (bX7_keeps 2) rfl rfl trivial ?_)
        refine zv_step (bX7_keeps 2) rfl rfl (show vp_in (c8 10 * nI s + nI k) 90 by rw [ix10]; exact vp_in_nI (by omega) (by decide)) ?_
        iterate 1 (refine zv_step (bX7_keeps 2) rfl rfl trivial ?_)
        exact zv_iret (bX7_keeps 2) rfl (Or.inl rfl) (Nat.zero_le _) (Nat.zero_le _) (Or.inl ⟨s, k, by omega, by omega, by omega, rfl, rfl, by show wR f o (updA A 7 (upd (A 7) (c8 10 * nI s + nI k).toNatClampNeg (vp_nar .boolean on))) J = _; rw [ix10, nI_clamp (by omega), nar_b hon], Or.inl ⟨h28, rfl⟩⟩)
      · iterate 11 (refine zv_step (bX7_keeps 2) rfl rfl trivial ?_)
        refine zv_step (bX7_keeps 2) rfl rfl (show vp_in (c8 10 * nI s + nI k) 90 by rw [ix10]; exact vp_in_nI (by omega) (by decide)) ?_
        iterate 1 (refine zv_step (bX7_keeps 2) rfl rfl trivial ?_)
        exact zv_iret (bX7_keeps 2) rfl (Or.inl rfl) (Nat.zero_le _) (Nat.zero_le _) (Or.inl ⟨s, k, by omega, by omega, by omega, rfl, rfl, by show wR f o (updA A 7 (upd (A 7) (c8 10 * nI s + nI k).toNatClampNeg (vp_nar .boolean on))) J = _; rw [ix10, nI_clamp (by omega), nar_b hon], Or.inr ⟨h28, rfl⟩⟩)
    · skip
      iterate 1 (refine zv_step (bX7_keeps 2) rfl rfl trivial ?_)
      refine zv_iff (by decide) ?_
      iterate 1 (refine zv_step (bX7_keeps 2) rfl rfl trivial ?_)
      exact zv_iret (bX7_keeps 2) rfl (Or.inl rfl) (Nat.zero_le _) (Nat.zero_le _) (Or.inr ⟨fun q => g2 q.2, rfl, rfl⟩)
  · skip
    iterate 1 (refine zv_step (bX7_keeps 2) rfl rfl trivial ?_)
    refine zv_ift (by decide) ?_
    iterate 1 (refine zv_step (bX7_keeps 2) rfl rfl trivial ?_)
    exact zv_iret (bX7_keeps 2) rfl (Or.inl rfl) (Nat.zero_le _) (Nat.zero_le _) (Or.inr ⟨fun q => g1 q.1, rfl, rfl⟩)
set_option maxHeartbeats 1000000 in
set_option maxRecDepth 20000 in
theorem mLook (f : Nat → zC) (o : Nat → Int32) (A : Nat → Nat → Int32) (J : Nat → Nat → Int64) {u : Nat} (hu : u ≤ 120) (ho : o 0 = nI u) (hT : tbI 0 u A) (x y : Int32) : zK 42 zX7_look [.ref 76, .int x, .int y] (wR f o A J) (fun r w' => w' = (wR f o A J) ∧ ∃ v : Int32, r = some (.int v)) := by
  refine zK_of qX7_look (by decide +kernel) rfl ?_
  iterate 2 (refine zv_step (bX7_look 42) rfl rfl trivial ?_)
  refine zv_V1 (bX7_look 42) rfl rfl rfl rfl rfl rfl rfl ⟨rfl, rfl, rfl⟩ ⟨by decide, by decide⟩ ⟨Nat.zero_le _, Nat.zero_le _⟩ (mIsNode f o A J hu ho _) ?_
  rintro _ _ ⟨rfl, ⟨g1, rfl⟩ | ⟨g1, rfl⟩⟩
  · obtain ⟨n, hn, rfl⟩ := nd_of (by omega) g1
    iterate 1 (refine zv_step (bX7_look 42) rfl rfl trivial ?_)
    refine zv_iff (by decide) ?_
    iterate 4 (refine zv_step (bX7_look 42) rfl rfl trivial ?_)
    refine zv_S3 (bX7_look 42) rfl rfl rfl rfl ⟨rfl, rfl, rfl⟩ ⟨by decide, by decide⟩ ⟨Nat.zero_le _, Nat.zero_le _⟩ (mIn _ _ _ _ (a := 0) (b := 6) (by decide) (by decide)) ?_
    rintro _ _ ⟨rfl, ⟨g2, rfl⟩ | ⟨g2, rfl⟩⟩
    · skip
      iterate 1 (refine zv_step (bX7_look 42) rfl rfl trivial ?_)
      refine zv_ift (by decide) ?_
      have e1 : (nI n).toNatClampNeg = n := nI_clamp (by omega)
      have hv : vp_in (nI n) 450 := vp_in_nI (by omega) (by decide)
      obtain ⟨c, hc, rfl⟩ := in_nat (x := y) (b := 6) (by decide) g2
      refine zv_step (bX7_look 42) rfl rfl trivial ?_
      match c, hc with
      | 0, _ =>
        refine zv_step (bX7_look 42) rfl rfl (by decide) ?_
        iterate 3 (refine zv_step (bX7_look 42) rfl rfl trivial ?_)
        refine zv_iale (bX7_look 42) rfl rfl hv (show A 0 (nI n).toNatClampNeg = A 0 n by rw [e1]) ?_
        exact zv_iret (bX7_look 42) rfl (Or.inl rfl) (Nat.zero_le _) (Nat.zero_le _) ⟨rfl, _, rfl⟩
      | 1, _ =>
        refine zv_step (bX7_look 42) rfl rfl (by decide) ?_
        iterate 3 (refine zv_step (bX7_look 42) rfl rfl trivial ?_)
        refine zv_iale (bX7_look 42) rfl rfl hv (show A 1 (nI n).toNatClampNeg = A 1 n by rw [e1]) ?_
        exact zv_iret (bX7_look 42) rfl (Or.inl rfl) (Nat.zero_le _) (Nat.zero_le _) ⟨rfl, _, rfl⟩
      | 2, _ =>
        refine zv_step (bX7_look 42) rfl rfl (by decide) ?_
        iterate 3 (refine zv_step (bX7_look 42) rfl rfl trivial ?_)
        refine zv_iale (bX7_look 42) rfl rfl hv (show A 2 (nI n).toNatClampNeg = A 2 n by rw [e1]) ?_
        exact zv_iret (bX7_look 42) rfl (Or.inl rfl) (Nat.zero_le _) (Nat.zero_le _) ⟨rfl, _, rfl⟩
      | 3, _ =>
        refine zv_step (bX7_look 42) rfl rfl (by decide) ?_
        iterate 3 (refine zv_step (bX7_look 42) rfl rfl trivial ?_)
        refine zv_iale (bX7_look 42) rfl rfl hv (show A 3 (nI n).toNatClampNeg = A 3 n by rw [e1]) ?_
        exact zv_iret (bX7_look 42) rfl (Or.inl rfl) (Nat.zero_le _) (Nat.zero_le _) ⟨rfl, _, rfl⟩
      | 4, _ =>
        refine zv_step (bX7_look 42) rfl rfl (by decide) ?_
        iterate 3 (refine zv_step (bX7_look 42) rfl rfl trivial ?_)
        refine zv_iale (bX7_look 42) rfl rfl hv (show A 4 (nI n).toNatClampNeg = A 4 n by rw [e1]) ?_
        exact zv_iret (bX7_look 42) rfl (Or.inl rfl) (Nat.zero_le _) (Nat.zero_le _) ⟨rfl, _, rfl⟩
      | 5, _ =>
        refine zv_step (bX7_look 42) rfl rfl (by decide) ?_
        iterate 3 (refine zv_step (bX7_look 42) rfl rfl trivial ?_)
        refine zv_iale (bX7_look 42) rfl rfl hv (show A 5 (nI n).toNatClampNeg = A 5 n by rw [e1]) ?_
        exact zv_iret (bX7_look 42) rfl (Or.inl rfl) (Nat.zero_le _) (Nat.zero_le _) ⟨rfl, _, rfl⟩
      | 6, _ =>
        refine zv_step (bX7_look 42) rfl rfl (by decide) ?_
        iterate 2 (refine zv_step (bX7_look 42) rfl rfl trivial ?_)
        refine zv_V1 (bX7_look 42) rfl rfl rfl rfl rfl rfl rfl ⟨rfl, rfl, rfl⟩ ⟨by decide, by decide⟩ ⟨Nat.zero_le _, Nat.zero_le _⟩ (mRight f o A J (by omega) hT 40 _ (pt_of hT (Nat.zero_le _) hn)) ?_
        rintro _ _ ⟨rfl, rfl | rfl⟩
        · skip
          iterate 1 (refine zv_step (bX7_look 42) rfl rfl trivial ?_)
          refine zv_iff (by decide) ?_
          iterate 2 (refine zv_step (bX7_look 42) rfl rfl trivial ?_)
          exact zv_iret (bX7_look 42) rfl (Or.inl rfl) (Nat.zero_le _) (Nat.zero_le _) ⟨rfl, _, rfl⟩
        · skip
          iterate 1 (refine zv_step (bX7_look 42) rfl rfl trivial ?_)
          refine zv_ift (by decide) ?_
          iterate 1 (refine zv_step (bX7_look 42) rfl rfl trivial ?_)
          exact zv_iret (bX7_look 42) rfl (Or.inl rfl) (Nat.zero_le _) (Nat.zero_le _) ⟨rfl, _, rfl⟩
      | c + 7, h => exact absurd h (by omega)
    · skip
      iterate 1 (refine zv_step (bX7_look 42) rfl rfl trivial ?_)
      refine zv_iff (by decide) ?_
      iterate 1 (refine zv_step (bX7_look 42) rfl rfl trivial ?_)
      exact zv_iret (bX7_look 42) rfl (Or.inl rfl) (Nat.zero_le _) (Nat.zero_le _) ⟨rfl, _, rfl⟩
  · skip
    iterate 1 (refine zv_step (bX7_look 42) rfl rfl trivial ?_)
    refine zv_ift (by decide) ?_
    iterate 1 (refine zv_step (bX7_look 42) rfl rfl trivial ?_)
    exact zv_iret (bX7_look 42) rfl (Or.inl rfl) (Nat.zero_le _) (Nat.zero_le _) ⟨rfl, _, rfl⟩
set_option maxHeartbeats 1000000 in
set_option maxRecDepth 20000 in
theorem mAlikeP (f : Nat → zC) (o : Nat → Int32) (A : Nat → Nat → Int32) (J : Nat → Nat → Int64) {u : Nat} (hu : u ≤ 120) (ho : o 0 = nI u) (hT : tbI 0 u A) (x y : Int32) : zK 42 zX7_alike [.ref 76, .int x, .int y] (wR f o A J) (fun r w' => w' = (wR f o A J) ∧ ∃ v : Int32, r = some (.int v)) := by
  refine zK_of qX7_alike (by decide +kernel) rfl ?_
  iterate 2 (refine zv_step (bX7_alike 42) rfl rfl trivial ?_)
  refine zv_V1 (bX7_alike 42) rfl rfl rfl rfl rfl rfl rfl ⟨rfl, rfl, rfl⟩ ⟨by decide, by decide⟩ ⟨Nat.zero_le _, Nat.zero_le _⟩ (mIsNode f o A J hu ho _) ?_
  rintro _ _ ⟨rfl, ⟨g1, rfl⟩ | ⟨g1, rfl⟩⟩
  · obtain ⟨n, hn, rfl⟩ := nd_of (by omega) g1
    iterate 1 (refine zv_step (bX7_alike 42) rfl rfl trivial ?_)
    refine zv_iff (by decide) ?_
    iterate 2 (refine zv_step (bX7_alike 42) rfl rfl trivial ?_)
    refine zv_V1 (bX7_alike 42) rfl rfl rfl rfl rfl rfl rfl ⟨rfl, rfl, rfl⟩ ⟨by decide, by decide⟩ ⟨Nat.zero_le _, Nat.zero_le _⟩ (mIsNode f o A J hu ho _) ?_
    rintro _ _ ⟨rfl, ⟨g2, rfl⟩ | ⟨g2, rfl⟩⟩
    · obtain ⟨m, hm, rfl⟩ := nd_of (by omega) g2
      iterate 1 (refine zv_step (bX7_alike 42) rfl rfl trivial ?_)
      refine zv_ift (by decide) ?_
      iterate 3 (refine zv_step (bX7_alike 42) rfl rfl trivial ?_)
      refine zv_V2 (bX7_alike 42) rfl rfl rfl rfl rfl rfl rfl ⟨rfl, rfl, rfl⟩ ⟨by decide, by decide⟩ ⟨Nat.zero_le _, Nat.zero_le _⟩ (mAlike f o A J (by omega) hT 40 _ _ (pt_of hT (Nat.zero_le _) hn) (pt_of hT (Nat.zero_le _) hm)) ?_
      rintro _ _ ⟨rfl, ⟨g3, rfl⟩ | ⟨g3, rfl⟩⟩
      · skip
        iterate 1 (refine zv_step (bX7_alike 42) rfl rfl trivial ?_)
        refine zv_iff (by decide) ?_
        iterate 2 (refine zv_step (bX7_alike 42) rfl rfl trivial ?_)
        exact zv_iret (bX7_alike 42) rfl (Or.inl rfl) (Nat.zero_le _) (Nat.zero_le _) ⟨rfl, _, rfl⟩
      · skip
        iterate 1 (refine zv_step (bX7_alike 42) rfl rfl trivial ?_)
        refine zv_ift (by decide) ?_
        iterate 1 (refine zv_step (bX7_alike 42) rfl rfl trivial ?_)
        exact zv_iret (bX7_alike 42) rfl (Or.inl rfl) (Nat.zero_le _) (Nat.zero_le _) ⟨rfl, _, rfl⟩
    · skip
      iterate 1 (refine zv_step (bX7_alike 42) rfl rfl trivial ?_)
      refine zv_iff (by decide) ?_
      iterate 2 (refine zv_step (bX7_alike 42) rfl rfl trivial ?_)
      exact zv_iret (bX7_alike 42) rfl (Or.inl rfl) (Nat.zero_le _) (Nat.zero_le _) ⟨rfl, _, rfl⟩
  · skip
    iterate 1 (refine zv_step (bX7_alike 42) rfl rfl trivial ?_)
    refine zv_ift (by decide) ?_
    iterate 2 (refine zv_step (bX7_alike 42) rfl rfl trivial ?_)
    exact zv_iret (bX7_alike 42) rfl (Or.inl rfl) (Nat.zero_le _) (Nat.zero_le _) ⟨rfl, _, rfl⟩
set_option maxHeartbeats 1000000 in
set_option maxRecDepth 20000 in
theorem mTimes (f : Nat → zC) (o : Nat → Int32) (A : Nat → Nat → Int32) (J : Nat → Nat → Int64) {u : Nat} (hu : u ≤ 120) (ho : o 0 = nI u) (hT : tbI 0 u A) (x y : Int32) : zK 83 zX7_times [.ref 76, .int x, .int y] (wR f o A J) (fun r w' => w' = (wR f o A J) ∧ ∃ v : Int32, r = some (.int v)) := by
  refine zK_of qX7_times (by decide +kernel) rfl ?_
  iterate 2 (refine zv_step (bX7_times 83) rfl rfl trivial ?_)
  refine zv_V1 (bX7_times 83) rfl rfl rfl rfl rfl rfl rfl ⟨rfl, rfl, rfl⟩ ⟨by decide, by decide⟩ ⟨Nat.zero_le _, Nat.zero_le _⟩ (mIsNode f o A J hu ho _) ?_
  rintro _ _ ⟨rfl, ⟨g1, rfl⟩ | ⟨g1, rfl⟩⟩
  · obtain ⟨n, hn, rfl⟩ := nd_of (by omega) g1
    iterate 1 (refine zv_step (bX7_times 83) rfl rfl trivial ?_)
    refine zv_iff (by decide) ?_
    iterate 2 (refine zv_step (bX7_times 83) rfl rfl trivial ?_)
    refine zv_V1 (bX7_times 83) rfl rfl rfl rfl rfl rfl rfl ⟨rfl, rfl, rfl⟩ ⟨by decide, by decide⟩ ⟨Nat.zero_le _, Nat.zero_le _⟩ (mIsNode f o A J hu ho _) ?_
    rintro _ _ ⟨rfl, ⟨g2, rfl⟩ | ⟨g2, rfl⟩⟩
    · obtain ⟨m, hm, rfl⟩ := nd_of (by omega) g2
      iterate 1 (refine zv_step (bX7_times 83) rfl rfl trivial ?_)
      refine zv_iff (by decide) ?_
      iterate 3 (refine zv_step (bX7_times 83) rfl rfl trivial ?_)
      refine zv_V2 (bX7_times 83) rfl rfl rfl rfl rfl rfl rfl ⟨rfl, rfl, rfl⟩ ⟨by decide, by decide⟩ ⟨Nat.zero_le _, Nat.zero_le _⟩ (mHas f o A J (by omega) hT (pt_of hT (Nat.zero_le _) hm) 40 _ (pt_of hT (Nat.zero_le _) hn)) ?_
      rintro _ _ ⟨rfl, v, rfl⟩
      iterate 1 (refine zv_step (bX7_times 83) rfl rfl trivial ?_)
      exact zv_iret (bX7_times 83) rfl (Or.inl rfl) (Nat.zero_le _) (Nat.zero_le _) ⟨rfl, _, rfl⟩
    · skip
      iterate 1 (refine zv_step (bX7_times 83) rfl rfl trivial ?_)
      refine zv_ift (by decide) ?_
      iterate 1 (refine zv_step (bX7_times 83) rfl rfl trivial ?_)
      exact zv_iret (bX7_times 83) rfl (Or.inl rfl) (Nat.zero_le _) (Nat.zero_le _) ⟨rfl, _, rfl⟩
  · skip
    iterate 1 (refine zv_step (bX7_times 83) rfl rfl trivial ?_)
    refine zv_ift (by decide) ?_
    iterate 1 (refine zv_step (bX7_times 83) rfl rfl trivial ?_)
    exact zv_iret (bX7_times 83) rfl (Or.inl rfl) (Nat.zero_le _) (Nat.zero_le _) ⟨rfl, _, rfl⟩
