theorem alk_sz {lo hi : Nat} {A : Nat → Nat → Int32} (hh : hi ≤ 450) {z a b : Nat} (ha : a < hi) (hb : b < hi) (h : alk A z (nI a) (nI b)) : szN A a = szN A b := by
  cases z with
  | zero => exact absurd h.1.symm (m2_nI (by omega))
  | succ z =>
    have := ((alk_nn (show a < 450 by omega) (show b < 450 by omega)).mp h).2.2.1
    unfold szN
    rw [this]
/-- two unlike NODES of one KIND and v: the first PARTS are unlike, or the second ones -/
theorem dn_un {lo hi : Nat} {A : Nat → Nat → Int32} (hh : hi ≤ 450) (hT : tbI lo hi A) {z n m : Nat} (hlo : lo ≤ n) (hn : n < hi) (hlo2 : lo ≤ m) (hm : m < hi) (hz : szN A n ≤ z + 1) (hu : ¬ alk A (z + 1) (nI n) (nI m)) (e0 : A 0 n = A 0 m) (e1 : A 1 n = A 1 m) : (¬ alk A z (A 2 n) (A 2 m) → ∃ a b : Nat, A 2 n = nI a ∧ A 2 m = nI b ∧ lo ≤ a ∧ a < hi ∧ lo ≤ b ∧ b < hi ∧ szN A a ≤ z ∧ ¬ alk A z (nI a) (nI b)) ∧ (alk A z (A 2 n) (A 2 m) → ∃ a b : Nat, A 3 n = nI a ∧ A 3 m = nI b ∧ lo ≤ a ∧ a < hi ∧ lo ≤ b ∧ b < hi ∧ szN A a ≤ z ∧ ¬ alk A z (nI a) (nI b)) := by
  obtain ⟨s2, s3⟩ := rN_same (hT n hlo hn) (hT m hlo2 hm) e0
  constructor
  · intro h
    rcases s2 with ⟨p, q⟩ | ⟨a, b, p, q, la, ha, lb, hb, hs⟩
    · rw [p, q] at h
      exact absurd (alk_mm A z) h
    · rw [p, q] at h
      exact ⟨a, b, p, q, la, by omega, lb, by omega, by omega, h⟩
  · intro h
    have h3 : ¬ alk A z (A 3 n) (A 3 m) := by
      intro h3
      refine hu ((alk_nn (by omega) (by omega)).mpr ⟨e0, e1, ?_, h, h3⟩)
      have hs : szN A n = szN A m := by
        have v1 := rN_sum (hT n hlo hn)
        have v2 := rN_sum (hT m hlo2 hm)
        rcases v1 with ⟨a1, a2, a3⟩ | ⟨x, a1, a2, lx, hx, a3⟩ | ⟨x, y, a1, a2, lx, hx, ly, hy, a3⟩ <;> rcases v2 with ⟨b1, b2, b3⟩ | ⟨x', b1, b2, lx', hx', b3⟩ | ⟨x', y', b1, b2, lx', hx', ly', hy', b3⟩
        · omega
        · rw [a1, b1] at h
          exact absurd h (alk_mn A z (by omega))
        · rw [a1, b1] at h
          exact absurd h (alk_mn A z (by omega))
        · rw [a1, b1] at h
          exact absurd h (alk_nm A z (by omega))
        · rw [a1, b1] at h
          have := alk_sz (lo := lo) hh (by omega) (by omega) h
          omega
        · rw [a2, b2] at h3
          exact absurd h3 (alk_mn A z (by omega))
        · rw [a1, b1] at h
          exact absurd h (alk_nm A z (by omega))
        · rw [a2, b2] at h3
          exact absurd h3 (alk_nm A z (by omega))
        · rw [a1, b1] at h
          rw [a2, b2] at h3
          have := alk_sz (lo := lo) hh (by omega) (by omega) h
          have := alk_sz (lo := lo) hh (by omega) (by omega) h3
          omega
      rw [(rN_sz (hT n hlo hn)).2.2, (rN_sz (hT m hlo2 hm)).2.2, hs]
    rcases s3 with ⟨p, q⟩ | ⟨a, b, p, q, la, ha, lb, hb, hs⟩
    · rw [p, q] at h3
      exact absurd (alk_mm A z) h3
    · rw [p, q] at h3
      exact ⟨a, b, p, q, la, by omega, lb, by omega, by omega, h3⟩
set_option maxHeartbeats 1000000 in
set_option maxRecDepth 20000 in
theorem dbtL (f : Nat → zC) (o : Nat → Int32) (A : Nat → Nat → Int32) (J : Nat → Nat → Int64) {lo hi : Nat} (hh : hi ≤ 450) (hT : tbI lo hi A) {x : Int32} {z1 z2 : Int64} {n0 : Nat} {Q : Option Value → zW → Prop} (hQ : ∀ v : Int32, Q (some (.int v)) (wR f o A J)) : ∀ (z n m : Nat), z ≤ 50 → lo ≤ n → n < hi → lo ≤ m → m < hi → szN A n ≤ z → ¬ alk A z (nI n) (nI m) → ∀ {st t : Int32}, zV (zMo 60 zX7_doubt) false n0 0 0 107 [(9, .int st), (8, .int t), (7, .int (nI m)), (6, .int (nI n)), (0, .ref 76), (1, .int x), (2, .long z1), (4, .long z2)] [] (wR f o A J) Q := by
  intro z
  induction z with
  | zero =>
    intro n m _ hlo hn _ _ hz
    have := (rN_sz (hT n hlo hn)).1
    omega
  | succ z ih0 =>
    intro n m hz50 hlo hn hlo2 hm hz hu st t
    have ih := fun n m => ih0 n m (by omega)
    iterate 3 (refine zv_step (bX7_doubt 60) rfl rfl trivial ?_)
    refine zv_iale (bX7_doubt 60) rfl rfl (vp_in_nI (by omega) (by decide)) (show A 0 (nI n).toNatClampNeg = A 0 n by rw [nI_clamp (by omega)]) ?_
    iterate 3 (refine zv_step (bX7_doubt 60) rfl rfl trivial ?_)
    refine zv_iale (bX7_doubt 60) rfl rfl (vp_in_nI (by omega) (by decide)) (show A 0 (nI m).toNatClampNeg = A 0 m by rw [nI_clamp (by omega)]) ?_
    iterate 1 (refine zv_step (bX7_doubt 60) rfl rfl trivial ?_)
    refine zv_ifb (fun h121 => ?_) (fun h121 => ?_)
    · iterate 1 (refine zv_step (bX7_doubt 60) rfl rfl trivial ?_)
      exact zv_iret (bX7_doubt 60) rfl (Or.inl rfl) (Nat.zero_le _) (Nat.zero_le _) (hQ _)
    · iterate 3 (refine zv_step (bX7_doubt 60) rfl rfl trivial ?_)
      refine zv_iale (bX7_doubt 60) rfl rfl (vp_in_nI (by omega) (by decide)) (show A 1 (nI n).toNatClampNeg = A 1 n by rw [nI_clamp (by omega)]) ?_
      iterate 3 (refine zv_step (bX7_doubt 60) rfl rfl trivial ?_)
      refine zv_iale (bX7_doubt 60) rfl rfl (vp_in_nI (by omega) (by decide)) (show A 1 (nI m).toNatClampNeg = A 1 m by rw [nI_clamp (by omega)]) ?_
      iterate 1 (refine zv_step (bX7_doubt 60) rfl rfl trivial ?_)
      refine zv_ifb (fun h138 => ?_) (fun h138 => ?_)
      · iterate 1 (refine zv_step (bX7_doubt 60) rfl rfl trivial ?_)
        exact zv_iret (bX7_doubt 60) rfl (Or.inl rfl) (Nat.zero_le _) (Nat.zero_le _) (hQ _)
      · obtain ⟨d1, d2⟩ := dn_un hh hT hlo hn hlo2 hm hz hu (Decidable.not_not.mp h121) (Decidable.not_not.mp h138)
        obtain ⟨hp2, hp3⟩ := rN_parts hT hlo hn hz
        obtain ⟨hq2, hq3⟩ := rN_parts (z := 40) hT hlo2 hm (by have := (rN_sz (hT m hlo2 hm)).2.1; omega)
        iterate 4 (refine zv_step (bX7_doubt 60) rfl rfl trivial ?_)
        refine zv_iale (bX7_doubt 60) rfl rfl (vp_in_nI (by omega) (by decide)) (show A 2 (nI n).toNatClampNeg = A 2 n by rw [nI_clamp (by omega)]) ?_
        iterate 3 (refine zv_step (bX7_doubt 60) rfl rfl trivial ?_)
        refine zv_iale (bX7_doubt 60) rfl rfl (vp_in_nI (by omega) (by decide)) (show A 2 (nI m).toNatClampNeg = A 2 m by rw [nI_clamp (by omega)]) ?_
        refine zv_V2 (bX7_doubt 60) rfl rfl rfl rfl rfl rfl rfl ⟨rfl, rfl, rfl⟩ ⟨by show z + 1 + 1 ≤ 60; omega, by show 8 + (3 + 11) + 64 * (z + 1) ≤ 64 * (60); omega⟩ ⟨Nat.zero_le _, Nat.zero_le _⟩ (mAlike f o A J hh hT z _ _ hp2 hq2) ?_
        rintro _ _ ⟨rfl, ⟨g1, rfl⟩ | ⟨g1, rfl⟩⟩
        · obtain ⟨a, b, ea, eb, la, ha, lb, hb, hsa, hab⟩ := d2 g1
          iterate 1 (refine zv_step (bX7_doubt 60) rfl rfl trivial ?_)
          refine zv_ift (by decide) ?_
          iterate 5 (refine zv_step (bX7_doubt 60) rfl rfl trivial ?_)
          refine zv_ift (by decide) ?_
          iterate 11 (refine zv_step (bX7_doubt 60) rfl rfl trivial ?_)
          refine zv_ift (by decide) ?_
          iterate 3 (refine zv_step (bX7_doubt 60) rfl rfl trivial ?_)
          refine zv_iale (bX7_doubt 60) rfl rfl (vp_in_nI (by omega) (by decide)) (show A 3 (nI n).toNatClampNeg = nI a by rw [nI_clamp (by omega)]; exact ea) ?_
          iterate 3 (refine zv_step (bX7_doubt 60) rfl rfl trivial ?_)
          refine zv_ift (by decide) ?_
          iterate 3 (refine zv_step (bX7_doubt 60) rfl rfl trivial ?_)
          refine zv_iale (bX7_doubt 60) rfl rfl (vp_in_nI (by omega) (by decide)) (show A 3 (nI m).toNatClampNeg = nI b by rw [nI_clamp (by omega)]; exact eb) ?_
          iterate 2 (refine zv_step (bX7_doubt 60) rfl rfl trivial ?_)
          refine zv_locals (l := [(7, .int (nI b)), (6, .int (nI a)), (9, .int (st * Int32.ofInt 3)), (8, .int (t + Int32.ofInt 2 * st)), (10, .int (Int32.ofInt 0)), (0, .ref 76), (1, .int x), (2, .long z1), (4, .long z2)]) (l' := [(9, .int (st * Int32.ofInt 3)), (8, .int (t + Int32.ofInt 2 * st)), (7, .int (nI b)), (6, .int (nI a)), (0, .ref 76), (1, .int x), (2, .long z1), (4, .long z2)]) ?_ (ih a b la ha lb hb hsa hab)
          simp
        · obtain ⟨a, b, ea, eb, la, ha, lb, hb, hsa, hab⟩ := d1 g1
          iterate 1 (refine zv_step (bX7_doubt 60) rfl rfl trivial ?_)
          refine zv_iff (by decide) ?_
          iterate 6 (refine zv_step (bX7_doubt 60) rfl rfl trivial ?_)
          refine zv_iff (by decide) ?_
          iterate 10 (refine zv_step (bX7_doubt 60) rfl rfl trivial ?_)
          refine zv_iff (by decide) ?_
          iterate 3 (refine zv_step (bX7_doubt 60) rfl rfl trivial ?_)
          refine zv_iale (bX7_doubt 60) rfl rfl (vp_in_nI (by omega) (by decide)) (show A 2 (nI n).toNatClampNeg = nI a by rw [nI_clamp (by omega)]; exact ea) ?_
          iterate 4 (refine zv_step (bX7_doubt 60) rfl rfl trivial ?_)
          refine zv_iff (by decide) ?_
          iterate 3 (refine zv_step (bX7_doubt 60) rfl rfl trivial ?_)
          refine zv_iale (bX7_doubt 60) rfl rfl (vp_in_nI (by omega) (by decide)) (show A 2 (nI m).toNatClampNeg = nI b by rw [nI_clamp (by omega)]; exact eb) ?_
          iterate 3 (refine zv_step (bX7_doubt 60) rfl rfl trivial ?_)
          refine zv_locals (l := [(7, .int (nI b)), (6, .int (nI a)), (9, .int (st * Int32.ofInt 3)), (8, .int (t + st)), (10, .int (Int32.ofInt 1)), (0, .ref 76), (1, .int x), (2, .long z1), (4, .long z2)]) (l' := [(9, .int (st * Int32.ofInt 3)), (8, .int (t + st)), (7, .int (nI b)), (6, .int (nI a)), (0, .ref 76), (1, .int x), (2, .long z1), (4, .long z2)]) ?_ (ih a b la ha lb hb hsa hab)
          simp