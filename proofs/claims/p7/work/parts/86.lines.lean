/-- NODES of one KIND have PARTS alike -/
theorem rN_same {lo n m : Nat} {A : Nat → Nat → Int32} (h : rN lo A n) (k : rN lo A m) (e : A 0 n = A 0 m) : ((A 2 n = m2 ∧ A 2 m = m2) ∨ ∃ a b : Nat, A 2 n = nI a ∧ A 2 m = nI b ∧ lo ≤ a ∧ a < n ∧ lo ≤ b ∧ b < m ∧ szN A a + 1 ≤ szN A n) ∧ ((A 3 n = m2 ∧ A 3 m = m2) ∨ ∃ a b : Nat, A 3 n = nI a ∧ A 3 m = nI b ∧ lo ≤ a ∧ a < n ∧ lo ≤ b ∧ b < m ∧ szN A a + 1 ≤ szN A n) := by
  obtain ⟨k1, y1, f0, l1, h4, hy, hs, _⟩ := h
  obtain ⟨k2, y2, g0, l2, i4, iy, is, _⟩ := k
  rw [f0, g0, nI_eq (by omega) (by omega)] at e
  subst e
  rw [szN_of h4 hy]
  rcases hs with ⟨c1, h2, h3, e1⟩ | ⟨c1, c2, a, b, h2, la, ha, h3, lb, hb, e1⟩ | ⟨c1, a, h2, la, ha, h3, e1⟩ <;> rcases is with ⟨d1, i2, i3, e2⟩ | ⟨d1, d2, a', b', i2, la', ha', i3, lb', hb', e2⟩ | ⟨d1, a', i2, la', ha', i3, e2⟩
  · exact ⟨Or.inl ⟨h2, i2⟩, Or.inl ⟨h3, i3⟩⟩
  · omega
  · omega
  · omega
  · exact ⟨Or.inr ⟨a, a', h2, i2, la, ha, la', ha', by omega⟩, Or.inr ⟨b, b', h3, i3, lb, hb, lb', hb', by omega⟩⟩
  · omega
  · omega
  · omega
  · exact ⟨Or.inr ⟨a, a', h2, i2, la, ha, la', ha', by omega⟩, Or.inl ⟨h3, i3⟩⟩
set_option maxHeartbeats 1000000 in
set_option maxRecDepth 20000 in
theorem mInside (f : Nat → zC) (o : Nat → Int32) (A : Nat → Nat → Int32) (J : Nat → Nat → Int64) {lo hi : Nat} (hh : hi ≤ 450) (hT : tbI lo hi A) {z : Nat} (ih : ∀ (n m : Nat), lo ≤ n → n < hi → lo ≤ m → m < hi → szN A n ≤ z → zK (2 * z + 1) zX7_difference [.ref 76, .int (nI n), .int (nI m)] (wR f o A J) (fun r w' => w' = (wR f o A J) ∧ ∃ v : Int32, r = some (.int v))) {n m : Nat} (hlo : lo ≤ n) (hn : n < hi) (hlo2 : lo ≤ m) (hm : m < hi) (hz : szN A n ≤ z + 1) (hk : A 0 n = A 0 m) : zK (2 * z + 2) zX7_inside [.ref 76, .int (nI n), .int (nI m)] (wR f o A J) (fun r w' => w' = (wR f o A J) ∧ ∃ v : Int32, r = some (.int v)) := by
  obtain ⟨s2, s3⟩ := rN_same (hT n hlo hn) (hT m hlo2 hm) hk
  refine zK_of qX7_inside (by decide +kernel) rfl ?_
  iterate 3 (refine zv_step (bX7_inside (2 * z + 2)) rfl rfl trivial ?_)
  refine zv_iale (bX7_inside (2 * z + 2)) rfl rfl (vp_in_nI (by omega) (by decide)) (show A 1 (nI n).toNatClampNeg = A 1 n by rw [nI_clamp (by omega)]) ?_
  iterate 3 (refine zv_step (bX7_inside (2 * z + 2)) rfl rfl trivial ?_)
  refine zv_iale (bX7_inside (2 * z + 2)) rfl rfl (vp_in_nI (by omega) (by decide)) (show A 1 (nI m).toNatClampNeg = A 1 m by rw [nI_clamp (by omega)]) ?_
  iterate 1 (refine zv_step (bX7_inside (2 * z + 2)) rfl rfl trivial ?_)
  refine zv_ifb (fun h12 => ?_) (fun h12 => ?_)
  · iterate 3 (refine zv_step (bX7_inside (2 * z + 2)) rfl rfl trivial ?_)
    rcases s2 with ⟨e2, f2⟩ | ⟨a, b, e2, f2, la, ha, lb, hb, hza⟩
    · skip
      iterate 3 (refine zv_step (bX7_inside (2 * z + 2)) rfl rfl trivial ?_)
      refine zv_iale (bX7_inside (2 * z + 2)) rfl rfl (vp_in_nI (by omega) (by decide)) (show A 2 (nI n).toNatClampNeg = m2 by rw [nI_clamp (by omega)]; exact e2) ?_
      iterate 1 (refine zv_step (bX7_inside (2 * z + 2)) rfl rfl trivial ?_)
      refine zv_iff (by decide) ?_
      iterate 3 (refine zv_step (bX7_inside (2 * z + 2)) rfl rfl trivial ?_)
      rcases s3 with ⟨e2, f2⟩ | ⟨a, b, e2, f2, la, ha, lb, hb, hza⟩
      · skip
        iterate 3 (refine zv_step (bX7_inside (2 * z + 2)) rfl rfl trivial ?_)
        refine zv_iale (bX7_inside (2 * z + 2)) rfl rfl (vp_in_nI (by omega) (by decide)) (show A 3 (nI n).toNatClampNeg = m2 by rw [nI_clamp (by omega)]; exact e2) ?_
        iterate 1 (refine zv_step (bX7_inside (2 * z + 2)) rfl rfl trivial ?_)
        refine zv_iff (by decide) ?_
        iterate 3 (refine zv_step (bX7_inside (2 * z + 2)) rfl rfl trivial ?_)
        exact zv_iret (bX7_inside (2 * z + 2)) rfl (Or.inl rfl) (Nat.zero_le _) (Nat.zero_le _) ⟨rfl, _, rfl⟩
      · skip
        iterate 3 (refine zv_step (bX7_inside (2 * z + 2)) rfl rfl trivial ?_)
        refine zv_iale (bX7_inside (2 * z + 2)) rfl rfl (vp_in_nI (by omega) (by decide)) (show A 3 (nI n).toNatClampNeg = nI a by rw [nI_clamp (by omega)]; exact e2) ?_
        iterate 1 (refine zv_step (bX7_inside (2 * z + 2)) rfl rfl trivial ?_)
        refine zv_ift (nI_pos' (by omega)) ?_
        iterate 4 (refine zv_step (bX7_inside (2 * z + 2)) rfl rfl trivial ?_)
        refine zv_iale (bX7_inside (2 * z + 2)) rfl rfl (vp_in_nI (by omega) (by decide)) (show A 3 (nI n).toNatClampNeg = nI a by rw [nI_clamp (by omega)]; exact e2) ?_
        iterate 3 (refine zv_step (bX7_inside (2 * z + 2)) rfl rfl trivial ?_)
        refine zv_iale (bX7_inside (2 * z + 2)) rfl rfl (vp_in_nI (by omega) (by decide)) (show A 3 (nI m).toNatClampNeg = nI b by rw [nI_clamp (by omega)]; exact f2) ?_
        refine zv_V2 (bX7_inside (2 * z + 2)) rfl rfl rfl rfl rfl rfl rfl ⟨rfl, rfl, rfl⟩ ⟨by show 2 * z + 1 + 1 ≤ 2 * z + 2; omega, by show 8 + (5 + 11) + 64 * (2 * z + 1) ≤ 64 * (2 * z + 2); omega⟩ ⟨Nat.zero_le _, Nat.zero_le _⟩ (ih a b (by omega) (by omega) (by omega) (by omega) (by omega)) ?_
        rintro _ _ ⟨rfl, v78, rfl⟩
        iterate 1 (refine zv_step (bX7_inside (2 * z + 2)) rfl rfl trivial ?_)
        exact zv_iret (bX7_inside (2 * z + 2)) rfl (Or.inl rfl) (Nat.zero_le _) (Nat.zero_le _) ⟨rfl, _, rfl⟩
    · skip
      iterate 3 (refine zv_step (bX7_inside (2 * z + 2)) rfl rfl trivial ?_)
      refine zv_iale (bX7_inside (2 * z + 2)) rfl rfl (vp_in_nI (by omega) (by decide)) (show A 2 (nI n).toNatClampNeg = nI a by rw [nI_clamp (by omega)]; exact e2) ?_
      iterate 1 (refine zv_step (bX7_inside (2 * z + 2)) rfl rfl trivial ?_)
      refine zv_ift (nI_pos' (by omega)) ?_
      iterate 4 (refine zv_step (bX7_inside (2 * z + 2)) rfl rfl trivial ?_)
      refine zv_iale (bX7_inside (2 * z + 2)) rfl rfl (vp_in_nI (by omega) (by decide)) (show A 2 (nI n).toNatClampNeg = nI a by rw [nI_clamp (by omega)]; exact e2) ?_
      iterate 3 (refine zv_step (bX7_inside (2 * z + 2)) rfl rfl trivial ?_)
      refine zv_iale (bX7_inside (2 * z + 2)) rfl rfl (vp_in_nI (by omega) (by decide)) (show A 2 (nI m).toNatClampNeg = nI b by rw [nI_clamp (by omega)]; exact f2) ?_
      refine zv_V2 (bX7_inside (2 * z + 2)) rfl rfl rfl rfl rfl rfl rfl ⟨rfl, rfl, rfl⟩ ⟨by show 2 * z + 1 + 1 ≤ 2 * z + 2; omega, by show 8 + (5 + 11) + 64 * (2 * z + 1) ≤ 64 * (2 * z + 2); omega⟩ ⟨Nat.zero_le _, Nat.zero_le _⟩ (ih a b (by omega) (by omega) (by omega) (by omega) (by omega)) ?_
      rintro _ _ ⟨rfl, v48, rfl⟩
      iterate 1 (refine zv_step (bX7_inside (2 * z + 2)) rfl rfl trivial ?_)
      rcases s3 with ⟨e2, f2⟩ | ⟨a, b, e2, f2, la, ha, lb, hb, hza⟩
      · skip
        iterate 3 (refine zv_step (bX7_inside (2 * z + 2)) rfl rfl trivial ?_)
        refine zv_iale (bX7_inside (2 * z + 2)) rfl rfl (vp_in_nI (by omega) (by decide)) (show A 3 (nI n).toNatClampNeg = m2 by rw [nI_clamp (by omega)]; exact e2) ?_
        iterate 1 (refine zv_step (bX7_inside (2 * z + 2)) rfl rfl trivial ?_)
        refine zv_iff (by decide) ?_
        iterate 3 (refine zv_step (bX7_inside (2 * z + 2)) rfl rfl trivial ?_)
        exact zv_iret (bX7_inside (2 * z + 2)) rfl (Or.inl rfl) (Nat.zero_le _) (Nat.zero_le _) ⟨rfl, _, rfl⟩
      · skip
        iterate 3 (refine zv_step (bX7_inside (2 * z + 2)) rfl rfl trivial ?_)
        refine zv_iale (bX7_inside (2 * z + 2)) rfl rfl (vp_in_nI (by omega) (by decide)) (show A 3 (nI n).toNatClampNeg = nI a by rw [nI_clamp (by omega)]; exact e2) ?_
        iterate 1 (refine zv_step (bX7_inside (2 * z + 2)) rfl rfl trivial ?_)
        refine zv_ift (nI_pos' (by omega)) ?_
        iterate 4 (refine zv_step (bX7_inside (2 * z + 2)) rfl rfl trivial ?_)
        refine zv_iale (bX7_inside (2 * z + 2)) rfl rfl (vp_in_nI (by omega) (by decide)) (show A 3 (nI n).toNatClampNeg = nI a by rw [nI_clamp (by omega)]; exact e2) ?_
        iterate 3 (refine zv_step (bX7_inside (2 * z + 2)) rfl rfl trivial ?_)
        refine zv_iale (bX7_inside (2 * z + 2)) rfl rfl (vp_in_nI (by omega) (by decide)) (show A 3 (nI m).toNatClampNeg = nI b by rw [nI_clamp (by omega)]; exact f2) ?_
        refine zv_V2 (bX7_inside (2 * z + 2)) rfl rfl rfl rfl rfl rfl rfl ⟨rfl, rfl, rfl⟩ ⟨by show 2 * z + 1 + 1 ≤ 2 * z + 2; omega, by show 8 + (5 + 11) + 64 * (2 * z + 1) ≤ 64 * (2 * z + 2); omega⟩ ⟨Nat.zero_le _, Nat.zero_le _⟩ (ih a b (by omega) (by omega) (by omega) (by omega) (by omega)) ?_
        rintro _ _ ⟨rfl, v78, rfl⟩
        iterate 1 (refine zv_step (bX7_inside (2 * z + 2)) rfl rfl trivial ?_)
        exact zv_iret (bX7_inside (2 * z + 2)) rfl (Or.inl rfl) (Nat.zero_le _) (Nat.zero_le _) ⟨rfl, _, rfl⟩
  · iterate 4 (refine zv_step (bX7_inside (2 * z + 2)) rfl rfl trivial ?_)
    rcases s2 with ⟨e2, f2⟩ | ⟨a, b, e2, f2, la, ha, lb, hb, hza⟩
    · skip
      iterate 3 (refine zv_step (bX7_inside (2 * z + 2)) rfl rfl trivial ?_)
      refine zv_iale (bX7_inside (2 * z + 2)) rfl rfl (vp_in_nI (by omega) (by decide)) (show A 2 (nI n).toNatClampNeg = m2 by rw [nI_clamp (by omega)]; exact e2) ?_
      iterate 1 (refine zv_step (bX7_inside (2 * z + 2)) rfl rfl trivial ?_)
      refine zv_iff (by decide) ?_
      iterate 3 (refine zv_step (bX7_inside (2 * z + 2)) rfl rfl trivial ?_)
      rcases s3 with ⟨e2, f2⟩ | ⟨a, b, e2, f2, la, ha, lb, hb, hza⟩
      · skip
        iterate 3 (refine zv_step (bX7_inside (2 * z + 2)) rfl rfl trivial ?_)
        refine zv_iale (bX7_inside (2 * z + 2)) rfl rfl (vp_in_nI (by omega) (by decide)) (show A 3 (nI n).toNatClampNeg = m2 by rw [nI_clamp (by omega)]; exact e2) ?_
        iterate 1 (refine zv_step (bX7_inside (2 * z + 2)) rfl rfl trivial ?_)
        refine zv_iff (by decide) ?_
        iterate 3 (refine zv_step (bX7_inside (2 * z + 2)) rfl rfl trivial ?_)
        exact zv_iret (bX7_inside (2 * z + 2)) rfl (Or.inl rfl) (Nat.zero_le _) (Nat.zero_le _) ⟨rfl, _, rfl⟩
      · skip
        iterate 3 (refine zv_step (bX7_inside (2 * z + 2)) rfl rfl trivial ?_)
        refine zv_iale (bX7_inside (2 * z + 2)) rfl rfl (vp_in_nI (by omega) (by decide)) (show A 3 (nI n).toNatClampNeg = nI a by rw [nI_clamp (by omega)]; exact e2) ?_
        iterate 1 (refine zv_step (bX7_inside (2 * z + 2)) rfl rfl trivial ?_)
        refine zv_ift (nI_pos' (by omega)) ?_
        iterate 4 (refine zv_step (bX7_inside (2 * z + 2)) rfl rfl trivial ?_)
        refine zv_iale (bX7_inside (2 * z + 2)) rfl rfl (vp_in_nI (by omega) (by decide)) (show A 3 (nI n).toNatClampNeg = nI a by rw [nI_clamp (by omega)]; exact e2) ?_
        iterate 3 (refine zv_step (bX7_inside (2 * z + 2)) rfl rfl trivial ?_)
        refine zv_iale (bX7_inside (2 * z + 2)) rfl rfl (vp_in_nI (by omega) (by decide)) (show A 3 (nI m).toNatClampNeg = nI b by rw [nI_clamp (by omega)]; exact f2) ?_
        refine zv_V2 (bX7_inside (2 * z + 2)) rfl rfl rfl rfl rfl rfl rfl ⟨rfl, rfl, rfl⟩ ⟨by show 2 * z + 1 + 1 ≤ 2 * z + 2; omega, by show 8 + (5 + 11) + 64 * (2 * z + 1) ≤ 64 * (2 * z + 2); omega⟩ ⟨Nat.zero_le _, Nat.zero_le _⟩ (ih a b (by omega) (by omega) (by omega) (by omega) (by omega)) ?_
        rintro _ _ ⟨rfl, v78, rfl⟩
        iterate 1 (refine zv_step (bX7_inside (2 * z + 2)) rfl rfl trivial ?_)
        exact zv_iret (bX7_inside (2 * z + 2)) rfl (Or.inl rfl) (Nat.zero_le _) (Nat.zero_le _) ⟨rfl, _, rfl⟩
    · skip
      iterate 3 (refine zv_step (bX7_inside (2 * z + 2)) rfl rfl trivial ?_)
      refine zv_iale (bX7_inside (2 * z + 2)) rfl rfl (vp_in_nI (by omega) (by decide)) (show A 2 (nI n).toNatClampNeg = nI a by rw [nI_clamp (by omega)]; exact e2) ?_
      iterate 1 (refine zv_step (bX7_inside (2 * z + 2)) rfl rfl trivial ?_)
      refine zv_ift (nI_pos' (by omega)) ?_
      iterate 4 (refine zv_step (bX7_inside (2 * z + 2)) rfl rfl trivial ?_)
      refine zv_iale (bX7_inside (2 * z + 2)) rfl rfl (vp_in_nI (by omega) (by decide)) (show A 2 (nI n).toNatClampNeg = nI a by rw [nI_clamp (by omega)]; exact e2) ?_
      iterate 3 (refine zv_step (bX7_inside (2 * z + 2)) rfl rfl trivial ?_)
      refine zv_iale (bX7_inside (2 * z + 2)) rfl rfl (vp_in_nI (by omega) (by decide)) (show A 2 (nI m).toNatClampNeg = nI b by rw [nI_clamp (by omega)]; exact f2) ?_
      refine zv_V2 (bX7_inside (2 * z + 2)) rfl rfl rfl rfl rfl rfl rfl ⟨rfl, rfl, rfl⟩ ⟨by show 2 * z + 1 + 1 ≤ 2 * z + 2; omega, by show 8 + (5 + 11) + 64 * (2 * z + 1) ≤ 64 * (2 * z + 2); omega⟩ ⟨Nat.zero_le _, Nat.zero_le _⟩ (ih a b (by omega) (by omega) (by omega) (by omega) (by omega)) ?_
      rintro _ _ ⟨rfl, v48, rfl⟩
      iterate 1 (refine zv_step (bX7_inside (2 * z + 2)) rfl rfl trivial ?_)
      rcases s3 with ⟨e2, f2⟩ | ⟨a, b, e2, f2, la, ha, lb, hb, hza⟩
      · skip
        iterate 3 (refine zv_step (bX7_inside (2 * z + 2)) rfl rfl trivial ?_)
        refine zv_iale (bX7_inside (2 * z + 2)) rfl rfl (vp_in_nI (by omega) (by decide)) (show A 3 (nI n).toNatClampNeg = m2 by rw [nI_clamp (by omega)]; exact e2) ?_
        iterate 1 (refine zv_step (bX7_inside (2 * z + 2)) rfl rfl trivial ?_)
        refine zv_iff (by decide) ?_
        iterate 3 (refine zv_step (bX7_inside (2 * z + 2)) rfl rfl trivial ?_)
        exact zv_iret (bX7_inside (2 * z + 2)) rfl (Or.inl rfl) (Nat.zero_le _) (Nat.zero_le _) ⟨rfl, _, rfl⟩
      · skip
        iterate 3 (refine zv_step (bX7_inside (2 * z + 2)) rfl rfl trivial ?_)
        refine zv_iale (bX7_inside (2 * z + 2)) rfl rfl (vp_in_nI (by omega) (by decide)) (show A 3 (nI n).toNatClampNeg = nI a by rw [nI_clamp (by omega)]; exact e2) ?_
        iterate 1 (refine zv_step (bX7_inside (2 * z + 2)) rfl rfl trivial ?_)
        refine zv_ift (nI_pos' (by omega)) ?_
        iterate 4 (refine zv_step (bX7_inside (2 * z + 2)) rfl rfl trivial ?_)
        refine zv_iale (bX7_inside (2 * z + 2)) rfl rfl (vp_in_nI (by omega) (by decide)) (show A 3 (nI n).toNatClampNeg = nI a by rw [nI_clamp (by omega)]; exact e2) ?_
        iterate 3 (refine zv_step (bX7_inside (2 * z + 2)) rfl rfl trivial ?_)
        refine zv_iale (bX7_inside (2 * z + 2)) rfl rfl (vp_in_nI (by omega) (by decide)) (show A 3 (nI m).toNatClampNeg = nI b by rw [nI_clamp (by omega)]; exact f2) ?_
        refine zv_V2 (bX7_inside (2 * z + 2)) rfl rfl rfl rfl rfl rfl rfl ⟨rfl, rfl, rfl⟩ ⟨by show 2 * z + 1 + 1 ≤ 2 * z + 2; omega, by show 8 + (5 + 11) + 64 * (2 * z + 1) ≤ 64 * (2 * z + 2); omega⟩ ⟨Nat.zero_le _, Nat.zero_le _⟩ (ih a b (by omega) (by omega) (by omega) (by omega) (by omega)) ?_
        rintro _ _ ⟨rfl, v78, rfl⟩
        iterate 1 (refine zv_step (bX7_inside (2 * z + 2)) rfl rfl trivial ?_)
        exact zv_iret (bX7_inside (2 * z + 2)) rfl (Or.inl rfl) (Nat.zero_le _) (Nat.zero_le _) ⟨rfl, _, rfl⟩
set_option maxHeartbeats 1000000 in
set_option maxRecDepth 20000 in
theorem mDiff (f : Nat → zC) (o : Nat → Int32) (A : Nat → Nat → Int32) (J : Nat → Nat → Int64) {lo hi : Nat} (hh : hi ≤ 450) (hT : tbI lo hi A) : ∀ (z n m : Nat), lo ≤ n → n < hi → lo ≤ m → m < hi → szN A n ≤ z → zK (2 * z + 1) zX7_difference [.ref 76, .int (nI n), .int (nI m)] (wR f o A J) (fun r w' => w' = (wR f o A J) ∧ ∃ v : Int32, r = some (.int v)) := by
  intro z
  induction z with
  | zero =>
    intro n m hlo hn _ _ hz
    have := (rN_sz (hT n hlo hn)).1
    omega
  | succ z ih =>
    intro n m hlo hn hlo2 hm hz
    refine zK_of qX7_difference (by decide +kernel) rfl ?_
    iterate 3 (refine zv_step (bX7_difference (2 * (z + 1) + 1)) rfl rfl trivial ?_)
    refine zv_iale (bX7_difference (2 * (z + 1) + 1)) rfl rfl (vp_in_nI (by omega) (by decide)) (show A 4 (nI n).toNatClampNeg = A 4 n by rw [nI_clamp (by omega)]) ?_
    iterate 3 (refine zv_step (bX7_difference (2 * (z + 1) + 1)) rfl rfl trivial ?_)
    refine zv_iale (bX7_difference (2 * (z + 1) + 1)) rfl rfl (vp_in_nI (by omega) (by decide)) (show A 4 (nI m).toNatClampNeg = A 4 m by rw [nI_clamp (by omega)]) ?_
    iterate 5 (refine zv_step (bX7_difference (2 * (z + 1) + 1)) rfl rfl trivial ?_)
    refine zv_iale (bX7_difference (2 * (z + 1) + 1)) rfl rfl (vp_in_nI (by omega) (by decide)) (show A 0 (nI n).toNatClampNeg = A 0 n by rw [nI_clamp (by omega)]) ?_
    iterate 3 (refine zv_step (bX7_difference (2 * (z + 1) + 1)) rfl rfl trivial ?_)
    refine zv_iale (bX7_difference (2 * (z + 1) + 1)) rfl rfl (vp_in_nI (by omega) (by decide)) (show A 0 (nI m).toNatClampNeg = A 0 m by rw [nI_clamp (by omega)]) ?_
    iterate 1 (refine zv_step (bX7_difference (2 * (z + 1) + 1)) rfl rfl trivial ?_)
    refine zv_ifb (fun h26 => ?_) (fun h26 => ?_)
    · iterate 5 (refine zv_step (bX7_difference (2 * (z + 1) + 1)) rfl rfl trivial ?_)
      refine zv_ifb (fun h44 => ?_) (fun h44 => ?_)
      · iterate 1 (refine zv_step (bX7_difference (2 * (z + 1) + 1)) rfl rfl trivial ?_)
        exact zv_iret (bX7_difference (2 * (z + 1) + 1)) rfl (Or.inl rfl) (Nat.zero_le _) (Nat.zero_le _) ⟨rfl, _, rfl⟩
      · iterate 2 (refine zv_step (bX7_difference (2 * (z + 1) + 1)) rfl rfl trivial ?_)
        exact zv_iret (bX7_difference (2 * (z + 1) + 1)) rfl (Or.inl rfl) (Nat.zero_le _) (Nat.zero_le _) ⟨rfl, _, rfl⟩
    · iterate 3 (refine zv_step (bX7_difference (2 * (z + 1) + 1)) rfl rfl trivial ?_)
      refine zv_V2 (bX7_difference (2 * (z + 1) + 1)) rfl rfl rfl rfl rfl rfl rfl ⟨rfl, rfl, rfl⟩ ⟨by show 2 * z + 2 + 1 ≤ 2 * (z + 1) + 1; omega, by show 8 + (4 + 11) + 64 * (2 * z + 2) ≤ 64 * (2 * (z + 1) + 1); omega⟩ ⟨Nat.zero_le _, Nat.zero_le _⟩ (mInside f o A J hh hT ih hlo hn hlo2 hm hz (Decidable.not_not.mp h26)) ?_
      rintro _ _ ⟨rfl, v, rfl⟩
      iterate 5 (refine zv_step (bX7_difference (2 * (z + 1) + 1)) rfl rfl trivial ?_)
      refine zv_ifb (fun h44 => ?_) (fun h44 => ?_)
      · iterate 1 (refine zv_step (bX7_difference (2 * (z + 1) + 1)) rfl rfl trivial ?_)
        exact zv_iret (bX7_difference (2 * (z + 1) + 1)) rfl (Or.inl rfl) (Nat.zero_le _) (Nat.zero_le _) ⟨rfl, _, rfl⟩
      · iterate 2 (refine zv_step (bX7_difference (2 * (z + 1) + 1)) rfl rfl trivial ?_)
        exact zv_iret (bX7_difference (2 * (z + 1) + 1)) rfl (Or.inl rfl) (Nat.zero_le _) (Nat.zero_le _) ⟨rfl, _, rfl⟩
set_option maxHeartbeats 1000000 in
set_option maxRecDepth 20000 in
theorem mWholes (f : Nat → zC) (o : Nat → Int32) (A : Nat → Nat → Int32) (J : Nat → Nat → Int64) {lo hi : Nat} (hh : hi ≤ 450) (hT : tbI lo hi A) : ∀ (z n m : Nat), lo ≤ n → n < hi → lo ≤ m → m < hi → szN A n ≤ z → zK (z + 84) zX7_wholes [.ref 76, .int (nI n), .int (nI m)] (wR f o A J) (fun r w' => w' = (wR f o A J) ∧ ∃ v : Int32, r = some (.int v)) := by
  intro z
  induction z with
  | zero =>
    intro n m hlo hn _ _ hz
    have := (rN_sz (hT n hlo hn)).1
    omega
  | succ z ih =>
    intro n m hlo hn hlo2 hm hz
    refine zK_of qX7_wholes (by decide +kernel) rfl ?_
    iterate 3 (refine zv_step (bX7_wholes (z + 1 + 84)) rfl rfl trivial ?_)
    refine zv_iale (bX7_wholes (z + 1 + 84)) rfl rfl (vp_in_nI (by omega) (by decide)) (show A 0 (nI n).toNatClampNeg = A 0 n by rw [nI_clamp (by omega)]) ?_
    iterate 3 (refine zv_step (bX7_wholes (z + 1 + 84)) rfl rfl trivial ?_)
    refine zv_iale (bX7_wholes (z + 1 + 84)) rfl rfl (vp_in_nI (by omega) (by decide)) (show A 0 (nI m).toNatClampNeg = A 0 m by rw [nI_clamp (by omega)]) ?_
    iterate 1 (refine zv_step (bX7_wholes (z + 1 + 84)) rfl rfl trivial ?_)
    refine zv_ifb (fun h12 => ?_) (fun h12 => ?_)
    · iterate 1 (refine zv_step (bX7_wholes (z + 1 + 84)) rfl rfl trivial ?_)
      exact zv_iret (bX7_wholes (z + 1 + 84)) rfl (Or.inl rfl) (Nat.zero_le _) (Nat.zero_le _) ⟨rfl, _, rfl⟩
    · iterate 3 (refine zv_step (bX7_wholes (z + 1 + 84)) rfl rfl trivial ?_)
      refine zv_V2 (bX7_wholes (z + 1 + 84)) rfl rfl rfl rfl rfl rfl rfl ⟨rfl, rfl, rfl⟩ ⟨by show 2 * 40 + 2 + 1 ≤ z + 1 + 84; omega, by show 8 + (4 + 11) + 64 * (2 * 40 + 2) ≤ 64 * (z + 1 + 84); omega⟩ ⟨Nat.zero_le _, Nat.zero_le _⟩ (mInside f o A J hh hT (z := 40) (mDiff f o A J hh hT 40) hlo hn hlo2 hm (by have := (rN_sz (hT n hlo hn)).2.1; omega) (Decidable.not_not.mp h12)) ?_
      rintro _ _ ⟨rfl, v, rfl⟩
      iterate 3 (refine zv_step (bX7_wholes (z + 1 + 84)) rfl rfl trivial ?_)
      refine zv_iale (bX7_wholes (z + 1 + 84)) rfl rfl (vp_in_nI (by omega) (by decide)) (show A 4 (nI n).toNatClampNeg = A 4 n by rw [nI_clamp (by omega)]) ?_
      iterate 3 (refine zv_step (bX7_wholes (z + 1 + 84)) rfl rfl trivial ?_)
      refine zv_iale (bX7_wholes (z + 1 + 84)) rfl rfl (vp_in_nI (by omega) (by decide)) (show A 4 (nI m).toNatClampNeg = A 4 m by rw [nI_clamp (by omega)]) ?_
      iterate 2 (refine zv_step (bX7_wholes (z + 1 + 84)) rfl rfl trivial ?_)
      refine zv_ifb (fun h34 => ?_) (fun h34 => ?_)
      · obtain ⟨s2, s3⟩ := rN_same (hT n hlo hn) (hT m hlo2 hm) (Decidable.not_not.mp h12)
        rcases s2 with ⟨e2, f2⟩ | ⟨a, b, e2, f2, la, ha, lb, hb, hza⟩
        · skip
          iterate 3 (refine zv_step (bX7_wholes (z + 1 + 84)) rfl rfl trivial ?_)
          refine zv_iale (bX7_wholes (z + 1 + 84)) rfl rfl (vp_in_nI (by omega) (by decide)) (show A 2 (nI n).toNatClampNeg = m2 by rw [nI_clamp (by omega)]; exact e2) ?_
          iterate 1 (refine zv_step (bX7_wholes (z + 1 + 84)) rfl rfl trivial ?_)
          refine zv_iff (by decide) ?_
          iterate 2 (refine zv_step (bX7_wholes (z + 1 + 84)) rfl rfl trivial ?_)
          rcases s3 with ⟨e2, f2⟩ | ⟨a, b, e2, f2, la, ha, lb, hb, hza⟩
          · skip
            iterate 3 (refine zv_step (bX7_wholes (z + 1 + 84)) rfl rfl trivial ?_)
            refine zv_iale (bX7_wholes (z + 1 + 84)) rfl rfl (vp_in_nI (by omega) (by decide)) (show A 3 (nI n).toNatClampNeg = m2 by rw [nI_clamp (by omega)]; exact e2) ?_
            iterate 1 (refine zv_step (bX7_wholes (z + 1 + 84)) rfl rfl trivial ?_)
            refine zv_iff (by decide) ?_
            iterate 3 (refine zv_step (bX7_wholes (z + 1 + 84)) rfl rfl trivial ?_)
            exact zv_iret (bX7_wholes (z + 1 + 84)) rfl (Or.inl rfl) (Nat.zero_le _) (Nat.zero_le _) ⟨rfl, _, rfl⟩
          · skip
            iterate 3 (refine zv_step (bX7_wholes (z + 1 + 84)) rfl rfl trivial ?_)
            refine zv_iale (bX7_wholes (z + 1 + 84)) rfl rfl (vp_in_nI (by omega) (by decide)) (show A 3 (nI n).toNatClampNeg = nI a by rw [nI_clamp (by omega)]; exact e2) ?_
            iterate 1 (refine zv_step (bX7_wholes (z + 1 + 84)) rfl rfl trivial ?_)
            refine zv_ift (nI_pos' (by omega)) ?_
            iterate 4 (refine zv_step (bX7_wholes (z + 1 + 84)) rfl rfl trivial ?_)
            refine zv_iale (bX7_wholes (z + 1 + 84)) rfl rfl (vp_in_nI (by omega) (by decide)) (show A 3 (nI n).toNatClampNeg = nI a by rw [nI_clamp (by omega)]; exact e2) ?_
            iterate 3 (refine zv_step (bX7_wholes (z + 1 + 84)) rfl rfl trivial ?_)
            refine zv_iale (bX7_wholes (z + 1 + 84)) rfl rfl (vp_in_nI (by omega) (by decide)) (show A 3 (nI m).toNatClampNeg = nI b by rw [nI_clamp (by omega)]; exact f2) ?_
            refine zv_V2 (bX7_wholes (z + 1 + 84)) rfl rfl rfl rfl rfl rfl rfl ⟨rfl, rfl, rfl⟩ ⟨by show z + 84 + 1 ≤ z + 1 + 84; omega, by show 8 + (3 + 11) + 64 * (z + 84) ≤ 64 * (z + 1 + 84); omega⟩ ⟨Nat.zero_le _, Nat.zero_le _⟩ (ih a b (by omega) (by omega) (by omega) (by omega) (by omega)) ?_
            rintro _ _ ⟨rfl, v94, rfl⟩
            iterate 1 (refine zv_step (bX7_wholes (z + 1 + 84)) rfl rfl trivial ?_)
            exact zv_iret (bX7_wholes (z + 1 + 84)) rfl (Or.inl rfl) (Nat.zero_le _) (Nat.zero_le _) ⟨rfl, _, rfl⟩
        · skip
          iterate 3 (refine zv_step (bX7_wholes (z + 1 + 84)) rfl rfl trivial ?_)
          refine zv_iale (bX7_wholes (z + 1 + 84)) rfl rfl (vp_in_nI (by omega) (by decide)) (show A 2 (nI n).toNatClampNeg = nI a by rw [nI_clamp (by omega)]; exact e2) ?_
          iterate 1 (refine zv_step (bX7_wholes (z + 1 + 84)) rfl rfl trivial ?_)
          refine zv_ift (nI_pos' (by omega)) ?_
          iterate 4 (refine zv_step (bX7_wholes (z + 1 + 84)) rfl rfl trivial ?_)
          refine zv_iale (bX7_wholes (z + 1 + 84)) rfl rfl (vp_in_nI (by omega) (by decide)) (show A 2 (nI n).toNatClampNeg = nI a by rw [nI_clamp (by omega)]; exact e2) ?_
          iterate 3 (refine zv_step (bX7_wholes (z + 1 + 84)) rfl rfl trivial ?_)
          refine zv_iale (bX7_wholes (z + 1 + 84)) rfl rfl (vp_in_nI (by omega) (by decide)) (show A 2 (nI m).toNatClampNeg = nI b by rw [nI_clamp (by omega)]; exact f2) ?_
          refine zv_V2 (bX7_wholes (z + 1 + 84)) rfl rfl rfl rfl rfl rfl rfl ⟨rfl, rfl, rfl⟩ ⟨by show z + 84 + 1 ≤ z + 1 + 84; omega, by show 8 + (3 + 11) + 64 * (z + 84) ≤ 64 * (z + 1 + 84); omega⟩ ⟨Nat.zero_le _, Nat.zero_le _⟩ (ih a b (by omega) (by omega) (by omega) (by omega) (by omega)) ?_
          rintro _ _ ⟨rfl, v65, rfl⟩
          rcases s3 with ⟨e2, f2⟩ | ⟨a, b, e2, f2, la, ha, lb, hb, hza⟩
          · skip
            iterate 3 (refine zv_step (bX7_wholes (z + 1 + 84)) rfl rfl trivial ?_)
            refine zv_iale (bX7_wholes (z + 1 + 84)) rfl rfl (vp_in_nI (by omega) (by decide)) (show A 3 (nI n).toNatClampNeg = m2 by rw [nI_clamp (by omega)]; exact e2) ?_
            iterate 1 (refine zv_step (bX7_wholes (z + 1 + 84)) rfl rfl trivial ?_)
            refine zv_iff (by decide) ?_
            iterate 3 (refine zv_step (bX7_wholes (z + 1 + 84)) rfl rfl trivial ?_)
            exact zv_iret (bX7_wholes (z + 1 + 84)) rfl (Or.inl rfl) (Nat.zero_le _) (Nat.zero_le _) ⟨rfl, _, rfl⟩
          · skip
            iterate 3 (refine zv_step (bX7_wholes (z + 1 + 84)) rfl rfl trivial ?_)
            refine zv_iale (bX7_wholes (z + 1 + 84)) rfl rfl (vp_in_nI (by omega) (by decide)) (show A 3 (nI n).toNatClampNeg = nI a by rw [nI_clamp (by omega)]; exact e2) ?_
            iterate 1 (refine zv_step (bX7_wholes (z + 1 + 84)) rfl rfl trivial ?_)
            refine zv_ift (nI_pos' (by omega)) ?_
            iterate 4 (refine zv_step (bX7_wholes (z + 1 + 84)) rfl rfl trivial ?_)
            refine zv_iale (bX7_wholes (z + 1 + 84)) rfl rfl (vp_in_nI (by omega) (by decide)) (show A 3 (nI n).toNatClampNeg = nI a by rw [nI_clamp (by omega)]; exact e2) ?_
            iterate 3 (refine zv_step (bX7_wholes (z + 1 + 84)) rfl rfl trivial ?_)
            refine zv_iale (bX7_wholes (z + 1 + 84)) rfl rfl (vp_in_nI (by omega) (by decide)) (show A 3 (nI m).toNatClampNeg = nI b by rw [nI_clamp (by omega)]; exact f2) ?_
            refine zv_V2 (bX7_wholes (z + 1 + 84)) rfl rfl rfl rfl rfl rfl rfl ⟨rfl, rfl, rfl⟩ ⟨by show z + 84 + 1 ≤ z + 1 + 84; omega, by show 8 + (3 + 11) + 64 * (z + 84) ≤ 64 * (z + 1 + 84); omega⟩ ⟨Nat.zero_le _, Nat.zero_le _⟩ (ih a b (by omega) (by omega) (by omega) (by omega) (by omega)) ?_
            rintro _ _ ⟨rfl, v94, rfl⟩
            iterate 1 (refine zv_step (bX7_wholes (z + 1 + 84)) rfl rfl trivial ?_)
            exact zv_iret (bX7_wholes (z + 1 + 84)) rfl (Or.inl rfl) (Nat.zero_le _) (Nat.zero_le _) ⟨rfl, _, rfl⟩
      · iterate 1 (refine zv_step (bX7_wholes (z + 1 + 84)) rfl rfl trivial ?_)
        exact zv_iret (bX7_wholes (z + 1 + 84)) rfl (Or.inl rfl) (Nat.zero_le _) (Nat.zero_le _) ⟨rfl, _, rfl⟩
set_option maxHeartbeats 1000000 in
set_option maxRecDepth 20000 in
theorem mChanged (f : Nat → zC) (o : Nat → Int32) (A : Nat → Nat → Int32) (J : Nat → Nat → Int64) {u : Nat} (hu : u ≤ 120) (ho : o 0 = nI u) (hT : tbI 0 u A) (x y : Int32) : zK 82 zX7_changed [.ref 76, .int x, .int y] (wR f o A J) (fun r w' => w' = (wR f o A J) ∧ ∃ v : Int32, r = some (.int v)) := by
  refine zK_of qX7_changed (by decide +kernel) rfl ?_
  iterate 2 (refine zv_step (bX7_changed 82) rfl rfl trivial ?_)
  refine zv_V1 (bX7_changed 82) rfl rfl rfl rfl rfl rfl rfl ⟨rfl, rfl, rfl⟩ ⟨by decide, by decide⟩ ⟨Nat.zero_le _, Nat.zero_le _⟩ (mIsNode f o A J hu ho _) ?_
  rintro _ _ ⟨rfl, ⟨g1, rfl⟩ | ⟨g1, rfl⟩⟩
  · obtain ⟨n, hn, rfl⟩ := nd_of (by omega) g1
    iterate 1 (refine zv_step (bX7_changed 82) rfl rfl trivial ?_)
    refine zv_iff (by decide) ?_
    iterate 2 (refine zv_step (bX7_changed 82) rfl rfl trivial ?_)
    refine zv_V1 (bX7_changed 82) rfl rfl rfl rfl rfl rfl rfl ⟨rfl, rfl, rfl⟩ ⟨by decide, by decide⟩ ⟨Nat.zero_le _, Nat.zero_le _⟩ (mIsNode f o A J hu ho _) ?_
    rintro _ _ ⟨rfl, ⟨g2, rfl⟩ | ⟨g2, rfl⟩⟩
    · obtain ⟨m, hm, rfl⟩ := nd_of (by omega) g2
      iterate 1 (refine zv_step (bX7_changed 82) rfl rfl trivial ?_)
      refine zv_iff (by decide) ?_
      iterate 3 (refine zv_step (bX7_changed 82) rfl rfl trivial ?_)
      refine zv_V2 (bX7_changed 82) rfl rfl rfl rfl rfl rfl rfl ⟨rfl, rfl, rfl⟩ ⟨by decide, by decide⟩ ⟨Nat.zero_le _, Nat.zero_le _⟩ (mDiff f o A J (by omega) hT 40 n m (Nat.zero_le _) hn (Nat.zero_le _) hm (rN_sz (hT n (Nat.zero_le _) hn)).2.1) ?_
      rintro _ _ ⟨rfl, v, rfl⟩
      iterate 1 (refine zv_step (bX7_changed 82) rfl rfl trivial ?_)
      exact zv_iret (bX7_changed 82) rfl (Or.inl rfl) (Nat.zero_le _) (Nat.zero_le _) ⟨rfl, _, rfl⟩
    · skip
      iterate 1 (refine zv_step (bX7_changed 82) rfl rfl trivial ?_)
      refine zv_ift (by decide) ?_
      iterate 1 (refine zv_step (bX7_changed 82) rfl rfl trivial ?_)
      exact zv_iret (bX7_changed 82) rfl (Or.inl rfl) (Nat.zero_le _) (Nat.zero_le _) ⟨rfl, _, rfl⟩
  · skip
    iterate 1 (refine zv_step (bX7_changed 82) rfl rfl trivial ?_)
    refine zv_ift (by decide) ?_
    iterate 1 (refine zv_step (bX7_changed 82) rfl rfl trivial ?_)
    exact zv_iret (bX7_changed 82) rfl (Or.inl rfl) (Nat.zero_le _) (Nat.zero_le _) ⟨rfl, _, rfl⟩
set_option maxHeartbeats 1000000 in
set_option maxRecDepth 20000 in
theorem mExchanged (f : Nat → zC) (o : Nat → Int32) (A : Nat → Nat → Int32) (J : Nat → Nat → Int64) {u : Nat} (hu : u ≤ 120) (ho : o 0 = nI u) (hT : tbI 0 u A) (x y : Int32) : zK 125 zX7_exchanged [.ref 76, .int x, .int y] (wR f o A J) (fun r w' => w' = (wR f o A J) ∧ ∃ v : Int32, r = some (.int v)) := by
  refine zK_of qX7_exchanged (by decide +kernel) rfl ?_
  iterate 2 (refine zv_step (bX7_exchanged 125) rfl rfl trivial ?_)
  refine zv_V1 (bX7_exchanged 125) rfl rfl rfl rfl rfl rfl rfl ⟨rfl, rfl, rfl⟩ ⟨by decide, by decide⟩ ⟨Nat.zero_le _, Nat.zero_le _⟩ (mIsNode f o A J hu ho _) ?_
  rintro _ _ ⟨rfl, ⟨g1, rfl⟩ | ⟨g1, rfl⟩⟩
  · obtain ⟨n, hn, rfl⟩ := nd_of (by omega) g1
    iterate 1 (refine zv_step (bX7_exchanged 125) rfl rfl trivial ?_)
    refine zv_iff (by decide) ?_
    iterate 2 (refine zv_step (bX7_exchanged 125) rfl rfl trivial ?_)
    refine zv_V1 (bX7_exchanged 125) rfl rfl rfl rfl rfl rfl rfl ⟨rfl, rfl, rfl⟩ ⟨by decide, by decide⟩ ⟨Nat.zero_le _, Nat.zero_le _⟩ (mIsNode f o A J hu ho _) ?_
    rintro _ _ ⟨rfl, ⟨g2, rfl⟩ | ⟨g2, rfl⟩⟩
    · obtain ⟨m, hm, rfl⟩ := nd_of (by omega) g2
      iterate 1 (refine zv_step (bX7_exchanged 125) rfl rfl trivial ?_)
      refine zv_iff (by decide) ?_
      iterate 3 (refine zv_step (bX7_exchanged 125) rfl rfl trivial ?_)
      refine zv_V2 (bX7_exchanged 125) rfl rfl rfl rfl rfl rfl rfl ⟨rfl, rfl, rfl⟩ ⟨by decide, by decide⟩ ⟨Nat.zero_le _, Nat.zero_le _⟩ (mWholes f o A J (by omega) hT 40 n m (Nat.zero_le _) hn (Nat.zero_le _) hm (rN_sz (hT n (Nat.zero_le _) hn)).2.1) ?_
      rintro _ _ ⟨rfl, v, rfl⟩
      iterate 1 (refine zv_step (bX7_exchanged 125) rfl rfl trivial ?_)
      exact zv_iret (bX7_exchanged 125) rfl (Or.inl rfl) (Nat.zero_le _) (Nat.zero_le _) ⟨rfl, _, rfl⟩
    · skip
      iterate 1 (refine zv_step (bX7_exchanged 125) rfl rfl trivial ?_)
      refine zv_ift (by decide) ?_
      iterate 1 (refine zv_step (bX7_exchanged 125) rfl rfl trivial ?_)
      exact zv_iret (bX7_exchanged 125) rfl (Or.inl rfl) (Nat.zero_le _) (Nat.zero_le _) ⟨rfl, _, rfl⟩
  · skip
    iterate 1 (refine zv_step (bX7_exchanged 125) rfl rfl trivial ?_)
    refine zv_ift (by decide) ?_
    iterate 1 (refine zv_step (bX7_exchanged 125) rfl rfl trivial ?_)
    exact zv_iret (bX7_exchanged 125) rfl (Or.inl rfl) (Nat.zero_le _) (Nat.zero_le _) ⟨rfl, _, rfl⟩
set_option maxHeartbeats 1000000 in
set_option maxRecDepth 20000 in
theorem funL (f : Nat → zC) (o : Nat → Int32) (A : Nat → Nat → Int32) (J : Nat → Nat → Int64) {n0 : Nat} : ∀ (c k : Nat), k + c = 10 → ∀ {x2 v : Int32}, x2 = nI k → zV (zMo 0 zX7_functions) false n0 0 0 4 [(2, .int x2), (1, .int v), (0, .ref 76)] [] (wR f o A J) (fun r w' => w' = (wR f o A J) ∧ ∃ v : Int32, r = some (.int v)) := by
  intro c
  induction c with
  | zero =>
    intro k hc x2 v e2
    subst e2
    iterate 3 (refine zv_step (bX7_functions 0) rfl rfl trivial ?_)
    refine zv_ift (show nI 10 ≤ nI k from nI_le (by omega) (by omega)) ?_
    iterate 1 (refine zv_step (bX7_functions 0) rfl rfl trivial ?_)
    exact zv_iret (bX7_functions 0) rfl (Or.inl rfl) (Nat.zero_le _) (Nat.zero_le _) ⟨rfl, _, rfl⟩
  | succ c ih =>
    intro k hc x2 v e2
    subst e2
    iterate 3 (refine zv_step (bX7_functions 0) rfl rfl trivial ?_)
    refine zv_iff (show ¬ nI 10 ≤ nI k from fun h => absurd ((nI_leI (by omega) (by omega)).mp h) (by omega)) ?_
    iterate 4 (refine zv_step (bX7_functions 0) rfl rfl trivial ?_)
    refine zv_step (bX7_functions 0) rfl rfl (vp_in_nI (by omega) (by decide)) ?_
    iterate 1 (refine zv_step (bX7_functions 0) rfl rfl trivial ?_)
    refine zv_ifb (fun h17 => ?_) (fun h17 => ?_)
    · iterate 5 (refine zv_step (bX7_functions 0) rfl rfl trivial ?_)
      refine zv_locals (l := [(2, .int (nI k + Int32.ofInt 1)), (1, .int (v + Int32.ofInt 0)), (0, .ref 76)]) (l' := [(2, .int (nI k + Int32.ofInt 1)), (1, .int (v + Int32.ofInt 0)), (0, .ref 76)]) (fun q h => h) (ih (k + 1) (by omega) (nI_1 k))
    · iterate 6 (refine zv_step (bX7_functions 0) rfl rfl trivial ?_)
      refine zv_locals (l := [(2, .int (nI k + Int32.ofInt 1)), (1, .int (v + Int32.ofInt 1)), (0, .ref 76)]) (l' := [(2, .int (nI k + Int32.ofInt 1)), (1, .int (v + Int32.ofInt 1)), (0, .ref 76)]) (fun q h => h) (ih (k + 1) (by omega) (nI_1 k))
set_option maxHeartbeats 1000000 in
set_option maxRecDepth 20000 in
theorem mFunctions (f : Nat → zC) (o : Nat → Int32) (A : Nat → Nat → Int32) (J : Nat → Nat → Int64) : zK 0 zX7_functions [.ref 76] (wR f o A J) (fun r w' => w' = (wR f o A J) ∧ ∃ v : Int32, r = some (.int v)) := by
  refine zK_of qX7_functions (by decide +kernel) rfl ?_
  iterate 4 (refine zv_step (bX7_functions 0) rfl rfl trivial ?_)
  refine zv_locals (l := [(2, .int (Int32.ofInt 0)), (1, .int (Int32.ofInt 0)), (0, .ref 76)]) (l' := [(2, .int (Int32.ofInt 0)), (1, .int (Int32.ofInt 0)), (0, .ref 76)]) (fun q h => h) (funL f o A J 10 0 rfl rfl)
set_option maxHeartbeats 1000000 in
set_option maxRecDepth 20000 in
theorem mCount (f : Nat → zC) (o : Nat → Int32) (A : Nat → Nat → Int32) (J : Nat → Nat → Int64) (x : Int32) : zK 1 zX7_count [.ref 76, .int x] (wR f o A J) (fun r w' => w' = (wR f o A J) ∧ ∃ v : Int32, r = some (.int v)) := by
  refine zK_of qX7_count (by decide +kernel) rfl ?_
  iterate 2 (refine zv_step (bX7_count 1) rfl rfl trivial ?_)
  refine zv_ifb (fun h1 => ?_) (fun h1 => ?_)
  · iterate 3 (refine zv_step (bX7_count 1) rfl rfl trivial ?_)
    refine zv_ifb (fun h13 => ?_) (fun h13 => ?_)
    · iterate 3 (refine zv_step (bX7_count 1) rfl rfl trivial ?_)
      refine zv_ifb (fun h25 => ?_) (fun h25 => ?_)
      · iterate 1 (refine zv_step (bX7_count 1) rfl rfl trivial ?_)
        exact zv_iret (bX7_count 1) rfl (Or.inl rfl) (Nat.zero_le _) (Nat.zero_le _) ⟨rfl, _, rfl⟩
      · iterate 1 (refine zv_step (bX7_count 1) rfl rfl trivial ?_)
        refine zv_V0 (bX7_count 1) rfl rfl rfl rfl rfl rfl rfl ⟨rfl, rfl, rfl⟩ ⟨by decide, by decide⟩ ⟨Nat.zero_le _, Nat.zero_le _⟩ (mFunctions f o A J) ?_
        rintro _ _ ⟨rfl, v, rfl⟩
        iterate 1 (refine zv_step (bX7_count 1) rfl rfl trivial ?_)
        exact zv_iret (bX7_count 1) rfl (Or.inl rfl) (Nat.zero_le _) (Nat.zero_le _) ⟨rfl, _, rfl⟩
    · iterate 3 (refine zv_step (bX7_count 1) rfl rfl trivial ?_)
      exact zv_iret (bX7_count 1) rfl (Or.inl rfl) (Nat.zero_le _) (Nat.zero_le _) ⟨rfl, _, rfl⟩
  · iterate 3 (refine zv_step (bX7_count 1) rfl rfl trivial ?_)
    exact zv_iret (bX7_count 1) rfl (Or.inl rfl) (Nat.zero_le _) (Nat.zero_le _) ⟨rfl, _, rfl⟩
