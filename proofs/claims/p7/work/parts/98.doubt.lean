theorem alk_sz {lo hi : Nat} {A : Nat → Nat → Int32} (hh : hi ≤ 450) {z a b : Nat} (ha : a < hi) (hb : b < hi) (h : alk A z (nI a) (nI b)) : szN A a = szN A b := by
  cases z with
  | zero => exact absurd h.1.symm (m2_nI (by omega))
  | succ z =>
    have := ((alk_nn (show a < 450 by omega) (show b < 450 by omega)).mp h).2.2.1
    unfold szN
    rw [this]
/-- two unlike NODES of one KIND and v: the first PARTS are unlike, or the second ones -/
theorem dn_un {lo hi : Nat} {A : Nat → Nat → Int32} (hh : hi ≤ 450) (hT : tbI lo hi A) {z n m : Nat} (hlo : lo ≤ n) (hn : n < hi) (hlo2 : lo ≤ m) (hm : m < hi) (hz : szN A n ≤ z + 1) (hu : ¬ alk A (z + 1) (nI n) (nI m)) (e0 : A 0 n = A 0 m) (e1 : A 1 n = A 1 m) : (¬ alk A z (A 2 n) (A 2 m) → ∃ a b : Nat, A 2 n = nI a ∧ A 2 m = nI b ∧ lo ≤ a ∧ a < hi ∧ lo ≤ b ∧ b < hi ∧ szN A a ≤ z ∧ ¬ alk A z (nI a) (nI b)) ∧ (alk A z (A 2 n) (A 2 m) → ∃ a b : Nat, A 3 n = nI a ∧ A 3 m = nI b ∧ lo ≤ a ∧ a < hi ∧ lo ≤ b ∧ b < hi ∧ szN A a ≤ z ∧ ¬ alk A z (nI a) (nI b)) := by
  obtain ⟨s2, s3⟩ := rN_same (hT n hlo hn) (hT m hlo2 hm) e0
  constructor
  · intro h
    rcases s2 with ⟨p, q⟩ | ⟨a, b, p, q, la, ha, lb, hb, hs⟩
    · rw [p, q] at h
      exact absurd (alk_mm A z) h
    · rw [p, q] at h
      exact ⟨a, b, p, q, la, by omega, lb, by omega, by omega, h⟩
  · intro h
    have h3 : ¬ alk A z (A 3 n) (A 3 m) := by
      intro h3
      refine hu ((alk_nn (by omega) (by omega)).mpr ⟨e0, e1, ?_, h, h3⟩)
      have hs : szN A n = szN A m := by
        have v1 := rN_sum (hT n hlo hn)
        have v2 := rN_sum (hT m hlo2 hm)
        rcases v1 with ⟨a1, a2, a3⟩ | ⟨x, a1, a2, lx, hx, a3⟩ | ⟨x, y, a1, a2, lx, hx, ly, hy, a3⟩ <;> rcases v2 with ⟨b1, b2, b3⟩ | ⟨x', b1, b2, lx', hx', b3⟩ | ⟨x', y', b1, b2, lx', hx', ly', hy', b3⟩
        · omega
        · rw [a1, b1] at h
          exact absurd h (alk_mn A z (by omega))
        · rw [a1, b1] at h
          exact absurd h (alk_mn A z (by omega))
        · rw [a1, b1] at h
          exact absurd h (alk_nm A z (by omega))
        · rw [a1, b1] at h
          have := alk_sz (lo := lo) hh (by omega) (by omega) h
          omega
        · rw [a2, b2] at h3
          exact absurd h3 (alk_mn A z (by omega))
        · rw [a1, b1] at h
          exact absurd h (alk_nm A z (by omega))
        · rw [a2, b2] at h3
          exact absurd h3 (alk_nm A z (by omega))
        · rw [a1, b1] at h
          rw [a2, b2] at h3
          have := alk_sz (lo := lo) hh (by omega) (by omega) h
          have := alk_sz (lo := lo) hh (by omega) (by omega) h3
          omega
      rw [(rN_sz (hT n hlo hn)).2.2, (rN_sz (hT m hlo2 hm)).2.2, hs]
    rcases s3 with ⟨p, q⟩ | ⟨a, b, p, q, la, ha, lb, hb, hs⟩
    · rw [p, q] at h3
      exact absurd (alk_mm A z) h3
    · rw [p, q] at h3
      exact ⟨a, b, p, q, la, by omega, lb, by omega, by omega, h3⟩
set_option maxHeartbeats 1000000 in
set_option maxRecDepth 20000 in
theorem dbtL (f : Nat → zC) (o : Nat → Int32) (A : Nat → Nat → Int32) (J : Nat → Nat → Int64) {lo hi : Nat} (hh : hi ≤ 450) (hT : tbI lo hi A) {x : Int32} {z1 z2 : Int64} {n0 : Nat} {Q : Option Value → zW → Prop} (hQ : ∀ v : Int32, Q (some (.int v)) (wR f o A J)) : ∀ (z n m : Nat), z ≤ 50 → lo ≤ n → n < hi → lo ≤ m → m < hi → szN A n ≤ z → ¬ alk A z (nI n) (nI m) → ∀ {st t : Int32}, zV (zMo 60 zX7_doubt) false n0 0 0 107 [(9, .int st), (8, .int t), (7, .int (nI m)), (6, .int (nI n)), (0, .ref 76), (1, .int x), (2, .long z1), (4, .long z2)] [] (wR f o A J) Q := by
  intro z
  induction z with
  | zero =>
    intro n m _ hlo hn _ _ hz
    have := (rN_sz (hT n hlo hn)).1
    omega
  | succ z ih0 =>
    intro n m hz50 hlo hn hlo2 hm hz hu st t
    have ih := fun n m => ih0 n m (by omega)
    iterate 3 (refine zv_step (bX7_doubt 60) rfl rfl trivial ?_)
    refine zv_iale (bX7_doubt 60) rfl rfl (vp_in_nI (by omega) (by decide)) (show A 0 (nI n).toNatClampNeg = A 0 n by rw [nI_clamp (by omega)]) ?_
    iterate 3 (refine zv_step (bX7_doubt 60) rfl rfl trivial ?_)
    refine zv_iale (bX7_doubt 60) rfl rfl (vp_in_nI (by omega) (by decide)) (show A 0 (nI m).toNatClampNeg = A 0 m by rw [nI_clamp (by omega)]) ?_
    iterate 1 (refine zv_step (bX7_doubt 60) rfl rfl trivial ?_)
    refine zv_ifb (fun h121 => ?_) (fun h121 => ?_)
    · iterate 1 (refine zv_step (bX7_doubt 60) rfl rfl trivial ?_)
      exact zv_iret (bX7_doubt 60) rfl (Or.inl rfl) (Nat.zero_le _) (Nat.zero_le _) (hQ _)
    · iterate 3 (refine zv_step (bX7_doubt 60) rfl rfl trivial ?_)
      refine zv_iale (bX7_doubt 60) rfl rfl (vp_in_nI (by omega) (by decide)) (show A 1 (nI n).toNatClampNeg = A 1 n by rw [nI_clamp (by omega)]) ?_
      iterate 3 (refine zv_step (bX7_doubt 60) rfl rfl trivial ?_)
      refine zv_iale (bX7_doubt 60) rfl rfl (vp_in_nI (by omega) (by decide)) (show A 1 (nI m).toNatClampNeg = A 1 m by rw [nI_clamp (by omega)]) ?_
      iterate 1 (refine zv_step (bX7_doubt 60) rfl rfl trivial ?_)
      refine zv_ifb (fun h138 => ?_) (fun h138 => ?_)
      · iterate 1 (refine zv_step (bX7_doubt 60) rfl rfl trivial ?_)
        exact zv_iret (bX7_doubt 60) rfl (Or.inl rfl) (Nat.zero_le _) (Nat.zero_le _) (hQ _)
      · obtain ⟨d1, d2⟩ := dn_un hh hT hlo hn hlo2 hm hz hu (Decidable.not_not.mp h121) (Decidable.not_not.mp h138)
        obtain ⟨hp2, hp3⟩ := rN_parts hT hlo hn hz
        obtain ⟨hq2, hq3⟩ := rN_parts (z := 40) hT hlo2 hm (by have := (rN_sz (hT m hlo2 hm)).2.1; omega)
        iterate 4 (refine zv_step (bX7_doubt 60) rfl rfl trivial ?_)
        refine zv_iale (bX7_doubt 60) rfl rfl (vp_in_nI (by omega) (by decide)) (show A 2 (nI n).toNatClampNeg = A 2 n by rw [nI_clamp (by omega)]) ?_
        iterate 3 (refine zv_step (bX7_doubt 60) rfl rfl trivial ?_)
        refine zv_iale (bX7_doubt 60) rfl rfl (vp_in_nI (by omega) (by decide)) (show A 2 (nI m).toNatClampNeg = A 2 m by rw [nI_clamp (by omega)]) ?_
        refine zv_V2 (bX7_doubt 60) rfl rfl rfl rfl rfl rfl rfl ⟨rfl, rfl, rfl⟩ ⟨by show z + 1 + 1 ≤ 60; omega, by show 8 + (3 + 11) + 64 * (z + 1) ≤ 64 * (60); omega⟩ ⟨Nat.zero_le _, Nat.zero_le _⟩ (mAlike f o A J hh hT z _ _ hp2 hq2) ?_
        rintro _ _ ⟨rfl, ⟨g1, rfl⟩ | ⟨g1, rfl⟩⟩
        · obtain ⟨a, b, ea, eb, la, ha, lb, hb, hsa, hab⟩ := d2 g1
          iterate 1 (refine zv_step (bX7_doubt 60) rfl rfl trivial ?_)
          refine zv_ift (by decide) ?_
          iterate 5 (refine zv_step (bX7_doubt 60) rfl rfl trivial ?_)
          refine zv_ift (by decide) ?_
          iterate 11 (refine zv_step (bX7_doubt 60) rfl rfl trivial ?_)
          refine zv_ift (by decide) ?_
          iterate 3 (refine zv_step (bX7_doubt 60) rfl rfl trivial ?_)
          refine zv_iale (bX7_doubt 60) rfl rfl (vp_in_nI (by omega) (by decide)) (show A 3 (nI n).toNatClampNeg = nI a by rw [nI_clamp (by omega)]; exact ea) ?_
          iterate 3 (refine zv_step (bX7_doubt 60) rfl rfl trivial ?_)
          refine zv_ift (by decide) ?_
          iterate 3 (refine zv_step (bX7_doubt 60) rfl rfl trivial ?_)
          refine zv_iale (bX7_doubt 60) rfl rfl (vp_in_nI (by omega) (by decide)) (show A 3 (nI m).toNatClampNeg = nI b by rw [nI_clamp (by omega)]; exact eb) ?_
          iterate 2 (refine zv_step (bX7_doubt 60) rfl rfl trivial ?_)
          refine zv_locals (l := [(7, .int (nI b)), (6, .int (nI a)), (9, .int (st * Int32.ofInt 3)), (8, .int (t + Int32.ofInt 2 * st)), (10, .int (Int32.ofInt 0)), (0, .ref 76), (1, .int x), (2, .long z1), (4, .long z2)]) (l' := [(9, .int (st * Int32.ofInt 3)), (8, .int (t + Int32.ofInt 2 * st)), (7, .int (nI b)), (6, .int (nI a)), (0, .ref 76), (1, .int x), (2, .long z1), (4, .long z2)]) ?_ (ih a b la ha lb hb hsa hab)
          simp
        · obtain ⟨a, b, ea, eb, la, ha, lb, hb, hsa, hab⟩ := d1 g1
          iterate 1 (refine zv_step (bX7_doubt 60) rfl rfl trivial ?_)
          refine zv_iff (by decide) ?_
          iterate 6 (refine zv_step (bX7_doubt 60) rfl rfl trivial ?_)
          refine zv_iff (by decide) ?_
          iterate 10 (refine zv_step (bX7_doubt 60) rfl rfl trivial ?_)
          refine zv_iff (by decide) ?_
          iterate 3 (refine zv_step (bX7_doubt 60) rfl rfl trivial ?_)
          refine zv_iale (bX7_doubt 60) rfl rfl (vp_in_nI (by omega) (by decide)) (show A 2 (nI n).toNatClampNeg = nI a by rw [nI_clamp (by omega)]; exact ea) ?_
          iterate 4 (refine zv_step (bX7_doubt 60) rfl rfl trivial ?_)
          refine zv_iff (by decide) ?_
          iterate 3 (refine zv_step (bX7_doubt 60) rfl rfl trivial ?_)
          refine zv_iale (bX7_doubt 60) rfl rfl (vp_in_nI (by omega) (by decide)) (show A 2 (nI m).toNatClampNeg = nI b by rw [nI_clamp (by omega)]; exact eb) ?_
          iterate 3 (refine zv_step (bX7_doubt 60) rfl rfl trivial ?_)
          refine zv_locals (l := [(7, .int (nI b)), (6, .int (nI a)), (9, .int (st * Int32.ofInt 3)), (8, .int (t + st)), (10, .int (Int32.ofInt 1)), (0, .ref 76), (1, .int x), (2, .long z1), (4, .long z2)]) (l' := [(9, .int (st * Int32.ofInt 3)), (8, .int (t + st)), (7, .int (nI b)), (6, .int (nI a)), (0, .ref 76), (1, .int x), (2, .long z1), (4, .long z2)]) ?_ (ih a b la ha lb hb hsa hab)
          simp
set_option maxHeartbeats 1000000 in
set_option maxRecDepth 20000 in
theorem mDoubt (f : Nat → zC) (o : Nat → Int32) (A : Nat → Nat → Int32) (J : Nat → Nat → Int64) {u : Nat} (hu : u ≤ 120) (ho : o 0 = nI u) (hT : tbI 0 u A) {h : Nat} (hh : h ≤ 20) (hw : nnW h (A 8)) (ho10 : o 10 = nI h) (x : Int32) (z1 z2 : Int64) : zK 60 zX7_doubt [.ref 76, .int x, .long z1, .long z2] (wR f o A J) (fun r w' => ∃ (o' : Nat → Int32) (A' : Nat → Nat → Int32) (J' : Nat → Nat → Int64) (R : Int32), r = some (.int R) ∧ w' = wR f o' A' J' ∧ ndY o u A o' A') := by
  refine zK_of qX7_doubt (by decide +kernel) rfl ?_
  iterate 4 (refine zv_step (bX7_doubt 60) rfl rfl trivial ?_)
  refine zv_S3 (bX7_doubt 60) rfl rfl rfl rfl ⟨rfl, rfl, rfl⟩ ⟨by decide, by decide⟩ ⟨Nat.zero_le _, Nat.zero_le _⟩ (mIn _ _ _ _ (a := 0) (b := 8) (by decide) (by decide)) ?_
  rintro _ _ ⟨rfl, ⟨g1, rfl⟩ | ⟨g1, rfl⟩⟩
  · obtain ⟨s, hs, rfl⟩ := in_nat (x := x) (b := 8) (by decide) g1
    iterate 1 (refine zv_step (bX7_doubt 60) rfl rfl trivial ?_)
    refine zv_iff (by decide) ?_
    iterate 4 (refine zv_step (bX7_doubt 60) rfl rfl trivial ?_)
    refine zv_ifb (fun h15 => ?_) (fun h15 => ?_)
    · iterate 1 (refine zv_step (bX7_doubt 60) rfl rfl trivial ?_)
      exact zv_iret (bX7_doubt 60) rfl (Or.inl rfl) (Nat.zero_le _) (Nat.zero_le _) ⟨o, A, J, _, rfl, rfl, ⟨u, Nat.le_refl _, hu, ho, hT⟩, fun _ _ _ _ => rfl, fun _ _ => rfl, fun _ _ _ => rfl⟩
    · have z10 : 0 ≤ z1.toInt := by
        rw [lg_cmp_lt, Int64.lt_iff_toInt_lt] at h15
        exact Int.not_lt.mp h15
      iterate 4 (refine zv_step (bX7_doubt 60) rfl rfl trivial ?_)
      refine zv_ifb (fun h22 => ?_) (fun h22 => ?_)
      · have z20 : 0 ≤ z2.toInt := by
          rw [lg_cmp_ge, Int64.le_iff_toInt_le] at h22
          exact h22
        iterate 4 (refine zv_step (bX7_doubt 60) rfl rfl trivial ?_)
        refine zv_ifb (fun h31 => ?_) (fun h31 => ?_)
        · iterate 3 (refine zv_step (bX7_doubt 60) rfl rfl trivial ?_)
          refine zv_V1 (bX7_doubt 60) rfl rfl rfl rfl rfl rfl rfl ⟨rfl, rfl, rfl⟩ ⟨by decide, by decide⟩ ⟨Nat.zero_le _, Nat.zero_le _⟩ (mCounted f o A J hh hw ho10 hs rfl) ?_
          rintro _ _ ⟨J2, rfl, rfl, hJ2⟩
          refine zv_world (show _ = wR f (upd o 28 (nI s)) A J2 from rfl) ?_
          iterate 2 (refine zv_step (bX7_doubt 60) rfl rfl trivial ?_)
          refine zv_ifb (fun h54 => ?_) (fun h54 => ?_)
          · iterate 1 (refine zv_step (bX7_doubt 60) rfl rfl trivial ?_)
            exact zv_iret (bX7_doubt 60) rfl (Or.inl rfl) (Nat.zero_le _) (Nat.zero_le _) ⟨(upd o 28 (nI s)), A, J2, _, rfl, rfl, ⟨u, Nat.le_refl _, hu, ho, hT⟩, fun j a b c => upd_ne _ _ b, fun _ _ => rfl, fun _ _ _ => rfl⟩
          · iterate 3 (refine zv_step (bX7_doubt 60) rfl rfl trivial ?_)
            refine zv_V1 (bX7_doubt 60) rfl rfl rfl rfl rfl rfl rfl ⟨rfl, rfl, rfl⟩ ⟨by decide, by decide⟩ ⟨Nat.zero_le _, Nat.zero_le _⟩ (mCounted f (upd o 28 (nI s)) A J2 hh hw ho10 hs rfl) ?_
            rintro _ _ ⟨J3, rfl, rfl, hJ3⟩
            refine zv_world (show _ = wR f (upd o 28 (nI s)) A J3 from rfl) ?_
            iterate 2 (refine zv_step (bX7_doubt 60) rfl rfl trivial ?_)
            refine zv_ifb (fun h65 => ?_) (fun h65 => ?_)
            · obtain ⟨p1, hp1, rfl⟩ := l_nat z10 (ctW_le hJ3) (by rw [← ctW_u hJ2 hJ3]; exact Int64.not_le.mp (fun e => h54 ((lg_cmp_ge _ _).mpr e)))
              obtain ⟨p2, hp2, rfl⟩ := l_nat z20 (ctW_le hJ3) ((lg_cmp_lt _ _).mp h65)
              obtain ⟨h0, hp1⟩ := ctW_lt hp1
              obtain ⟨_, hp2⟩ := ctW_lt hp2
              iterate 3 (refine zv_step (bX7_doubt 60) rfl rfl trivial ?_)
              refine zv_world (show _ = wR f (upd (upd o 28 (nI s)) 29 (nI 0)) A J3 from rfl) ?_
              iterate 5 (refine zv_step (bX7_doubt 60) rfl rfl trivial ?_)
              refine zv_V3 (bX7_doubt 60) rfl rfl rfl rfl rfl rfl rfl ⟨rfl, rfl, rfl⟩ ⟨by show 2 * h + 3 + 1 ≤ 60; omega, by show 8 + (12 + 11) + 64 * (2 * h + 3) ≤ 64 * 60; omega⟩ ⟨Nat.zero_le _, Nat.zero_le _⟩ (mTakes f (upd o 28 (nI s)) A J3 hh hw hJ3 h 0 h p1 _ _ _ rfl ho10 rfl h0 (Nat.le_refl _) (by omega) hp1 0 A (fun _ _ => rfl) (fun n h1 h2 => absurd h2 (by omega)) (by omega)) ?_
              rintro _ _ ⟨q1, A1, rfl, rfl, k1, r1⟩
              iterate 6 (refine zv_step (bX7_doubt 60) rfl rfl trivial ?_)
              refine zv_V3 (bX7_doubt 60) rfl rfl rfl rfl rfl rfl rfl ⟨rfl, rfl, rfl⟩ ⟨by show 2 * h + 3 + 1 ≤ 60; omega, by show 8 + (12 + 11) + 64 * (2 * h + 3) ≤ 64 * 60; omega⟩ ⟨Nat.zero_le _, Nat.zero_le _⟩ (mTakes f (upd o 28 (nI s)) A J3 hh hw hJ3 h 0 h p2 _ _ _ rfl ho10 rfl h0 (Nat.le_refl _) (by omega) hp2 (q1 + 1) A1 k1.1 k1.2.1 (by have := k1.2.2.2.2.1; omega)) ?_
              rintro _ _ ⟨q2, A2, rfl, rfl, k2, r2⟩
              iterate 5 (refine zv_step (bX7_doubt 60) rfl rfl trivial ?_)
              have l1 := k1.2.2.2.2.1
              have l2 := k2.2.2.2.2.1
              have m1 := k1.2.2.2.1
              have m2' := k2.2.2.2.1
              have hne : p1 ≠ p2 := fun e => h31 ((lg_cmp_eq _ _).mpr (by rw [e]))
              have hR1 : Rd (eW A) (mW A s (lW J3)) (lW J3) A2 h 0 h p1 (400 + q1) := Rd_fr h 0 h p1 (400 + q1) (by omega) (fun r _ x _ hx => k2.2.2.1 r x (by omega)) r1
              have hun : ¬ alk A2 40 (nI (400 + q1)) (nI (400 + q2)) := fun e => hne (Rd_inj h 0 h p1 p2 (400 + q1) (400 + q2) 40 (by omega) (by omega) hR1 r2 e)
              have hs1 : szN A2 (400 + q1) ≤ 40 := (rN_sz (k2.2.1 (400 + q1) (by omega) (by omega))).2.1
              refine zv_locals (l := [(9, .int (Int32.ofInt 1)), (8, .int (Int32.ofInt 0)), (7, .int (nI (400 + q2))), (6, .int (nI (400 + q1))), (0, .ref 76), (1, .int (nI s)), (2, .long (lN p1)), (4, .long (lN p2))]) (l' := [(9, .int (Int32.ofInt 1)), (8, .int (Int32.ofInt 0)), (7, .int (nI (400 + q2))), (6, .int (nI (400 + q1))), (0, .ref 76), (1, .int (nI s)), (2, .long (lN p1)), (4, .long (lN p2))]) (fun q h => h) (dbtL f _ A2 J3 (lo := 400) (hi := 400 + (q2 + 1)) (by omega) k2.2.1 (fun v => ⟨_, A2, J3, v, rfl, rfl, ⟨u, Nat.le_refl _, hu, ho, tbI_fr hT (fun r _ i _ hi => (k2.2.2.1 r i (by omega)).trans (k1.2.2.1 r i (by omega)))⟩, fun j a b c => by rw [upd_ne _ _ c, upd_ne _ _ b], fun r hr => (k2.1 r hr).trans (k1.1 r hr), fun r i hi => (k2.2.2.1 r i (by omega)).trans (k1.2.2.1 r i (by omega))⟩) 40 (400 + q1) (400 + q2) (by decide) (by omega) (by omega) (by omega) (by omega) hs1 hun)
            · iterate 1 (refine zv_step (bX7_doubt 60) rfl rfl trivial ?_)
              exact zv_iret (bX7_doubt 60) rfl (Or.inl rfl) (Nat.zero_le _) (Nat.zero_le _) ⟨(upd o 28 (nI s)), A, J3, _, rfl, rfl, ⟨u, Nat.le_refl _, hu, ho, hT⟩, fun j a b c => upd_ne _ _ b, fun _ _ => rfl, fun _ _ _ => rfl⟩
        · iterate 3 (refine zv_step (bX7_doubt 60) rfl rfl trivial ?_)
          refine zv_V1 (bX7_doubt 60) rfl rfl rfl rfl rfl rfl rfl ⟨rfl, rfl, rfl⟩ ⟨by decide, by decide⟩ ⟨Nat.zero_le _, Nat.zero_le _⟩ (mCounted f o A J hh hw ho10 hs rfl) ?_
          rintro _ _ ⟨J1, rfl, rfl, hJ1⟩
          iterate 2 (refine zv_step (bX7_doubt 60) rfl rfl trivial ?_)
          refine zv_ifb (fun h41 => ?_) (fun h41 => ?_)
          · iterate 3 (refine zv_step (bX7_doubt 60) rfl rfl trivial ?_)
            refine zv_V1 (bX7_doubt 60) rfl rfl rfl rfl rfl rfl rfl ⟨rfl, rfl, rfl⟩ ⟨by decide, by decide⟩ ⟨Nat.zero_le _, Nat.zero_le _⟩ (mCounted f (upd o 28 (nI s)) A J1 hh hw ho10 hs rfl) ?_
            rintro _ _ ⟨J2, rfl, rfl, hJ2⟩
            refine zv_world (show _ = wR f (upd o 28 (nI s)) A J2 from rfl) ?_
            iterate 2 (refine zv_step (bX7_doubt 60) rfl rfl trivial ?_)
            refine zv_ift (by rw [ctW_u hJ2 hJ1]; exact h41) ?_
            iterate 1 (refine zv_step (bX7_doubt 60) rfl rfl trivial ?_)
            exact zv_iret (bX7_doubt 60) rfl (Or.inl rfl) (Nat.zero_le _) (Nat.zero_le _) ⟨(upd o 28 (nI s)), A, J2, _, rfl, rfl, ⟨u, Nat.le_refl _, hu, ho, hT⟩, fun j a b c => upd_ne _ _ b, fun _ _ => rfl, fun _ _ _ => rfl⟩
          · iterate 1 (refine zv_step (bX7_doubt 60) rfl rfl trivial ?_)
            exact zv_iret (bX7_doubt 60) rfl (Or.inl rfl) (Nat.zero_le _) (Nat.zero_le _) ⟨(upd o 28 (nI s)), A, J1, _, rfl, rfl, ⟨u, Nat.le_refl _, hu, ho, hT⟩, fun j a b c => upd_ne _ _ b, fun _ _ => rfl, fun _ _ _ => rfl⟩
      · iterate 1 (refine zv_step (bX7_doubt 60) rfl rfl trivial ?_)
        exact zv_iret (bX7_doubt 60) rfl (Or.inl rfl) (Nat.zero_le _) (Nat.zero_le _) ⟨o, A, J, _, rfl, rfl, ⟨u, Nat.le_refl _, hu, ho, hT⟩, fun _ _ _ _ => rfl, fun _ _ => rfl, fun _ _ _ => rfl⟩
  · skip
    iterate 1 (refine zv_step (bX7_doubt 60) rfl rfl trivial ?_)
    refine zv_ift (by decide) ?_
    iterate 1 (refine zv_step (bX7_doubt 60) rfl rfl trivial ?_)
    exact zv_iret (bX7_doubt 60) rfl (Or.inl rfl) (Nat.zero_le _) (Nat.zero_le _) ⟨o, A, J, _, rfl, rfl, ⟨u, Nat.le_refl _, hu, ho, hT⟩, fun _ _ _ _ => rfl, fun _ _ => rfl, fun _ _ _ => rfl⟩
