theorem rtW_m2 (A : Nat → Nat → Int32) (z : Nat) : rtW A z m2 := by
  cases z with
  | zero => trivial
  | succ z => exact fun h => absurd (show m2 < 0 by decide) h
theorem rtW_i {A : Nat → Nat → Int32} {z n : Nat} (hn : n < 450) : rtW A (z + 1) (nI n) ↔ (rtO A n ∧ rtW A z (A 2 n) ∧ rtW A z (A 3 n)) := ⟨rtW_n hn, fun h _ => by rw [nI_clamp (by omega)]; exact h⟩
set_option maxHeartbeats 1000000 in
set_option maxRecDepth 20000 in
theorem mRightX (f : Nat → zC) (o : Nat → Int32) (A : Nat → Nat → Int32) (J : Nat → Nat → Int64) {lo hi : Nat} (hh : hi ≤ 450) (hT : tbI lo hi A) : ∀ (z : Nat) (x : Int32), pt lo hi A z x → zK (z + 1) zX7_isRight [.ref 76, .int x] (wR f o A J) (fun r w' => w' = (wR f o A J) ∧ ((rtW A z x ∧ r = some (.int 1)) ∨ (¬ rtW A z x ∧ r = some (.int 0)))) := by
  intro z
  induction z with
  | zero =>
    intro x hx
    obtain rfl := pt_zero hT hx
    refine zK_of qX7_isRight (by decide +kernel) rfl ?_
    iterate 2 (refine zv_step (bX7_isRight (0 + 1)) rfl rfl trivial ?_)
    refine zv_iff (by decide) ?_
    iterate 1 (refine zv_step (bX7_isRight (0 + 1)) rfl rfl trivial ?_)
    exact zv_iret (bX7_isRight (0 + 1)) rfl (Or.inr ⟨rfl, Or.inr rfl⟩) (Nat.zero_le _) (Nat.zero_le _) ⟨rfl, Or.inl ⟨rtW_m2 A _, rfl⟩⟩
  | succ z ih =>
    intro x hx
    rcases hx with rfl | ⟨n, rfl, hlo, hn, hz⟩
    · refine zK_of qX7_isRight (by decide +kernel) rfl ?_
      iterate 2 (refine zv_step (bX7_isRight ((z + 1) + 1)) rfl rfl trivial ?_)
      refine zv_iff (by decide) ?_
      iterate 1 (refine zv_step (bX7_isRight ((z + 1) + 1)) rfl rfl trivial ?_)
      exact zv_iret (bX7_isRight ((z + 1) + 1)) rfl (Or.inr ⟨rfl, Or.inr rfl⟩) (Nat.zero_le _) (Nat.zero_le _) ⟨rfl, Or.inl ⟨rtW_m2 A _, rfl⟩⟩
    · have hN := hT n hlo hn
      have e1 : (nI n).toNatClampNeg = n := nI_clamp (by omega)
      have hv : vp_in (nI n) 450 := vp_in_nI (by omega) (by decide)
      obtain ⟨hp2, hp3⟩ := rN_parts hT hlo hn hz
      refine zK_of qX7_isRight (by decide +kernel) rfl ?_
      iterate 2 (refine zv_step (bX7_isRight ((z + 1) + 1)) rfl rfl trivial ?_)
      refine zv_ift (nI_pos' (by omega)) ?_
      iterate 3 (refine zv_step (bX7_isRight ((z + 1) + 1)) rfl rfl trivial ?_)
      refine zv_iale (bX7_isRight ((z + 1) + 1)) rfl rfl hv (show A 0 (nI n).toNatClampNeg = A 0 n by rw [e1]) ?_
      iterate 1 (refine zv_step (bX7_isRight ((z + 1) + 1)) rfl rfl trivial ?_)
      refine zv_ifb (fun h12 => ?_) (fun h12 => ?_)
      · iterate 3 (refine zv_step (bX7_isRight ((z + 1) + 1)) rfl rfl trivial ?_)
        refine zv_iale (bX7_isRight ((z + 1) + 1)) rfl rfl hv (show A 0 (nI n).toNatClampNeg = A 0 n by rw [e1]) ?_
        iterate 2 (refine zv_step (bX7_isRight ((z + 1) + 1)) rfl rfl trivial ?_)
        refine zv_ifb (fun h45 => ?_) (fun h45 => ?_)
        · iterate 5 (refine zv_step (bX7_isRight ((z + 1) + 1)) rfl rfl trivial ?_)
          refine zv_iff (by decide) ?_
          iterate 4 (refine zv_step (bX7_isRight ((z + 1) + 1)) rfl rfl trivial ?_)
          refine zv_iale (bX7_isRight ((z + 1) + 1)) rfl rfl hv (show A 2 (nI n).toNatClampNeg = A 2 n by rw [e1]) ?_
          refine zv_V1 (bX7_isRight ((z + 1) + 1)) rfl rfl rfl rfl rfl rfl rfl ⟨rfl, rfl, rfl⟩ ⟨by show z + 1 + 1 ≤ z + 1 + 1; omega, by show 8 + (3 + 11) + 64 * (z + 1) ≤ 64 * (z + 1 + 1); omega⟩ ⟨Nat.zero_le _, Nat.zero_le _⟩ (ih _ hp2) ?_
          rintro _ _ ⟨rfl, ⟨g2, rfl⟩ | ⟨g2, rfl⟩⟩
          · skip
            iterate 1 (refine zv_step (bX7_isRight ((z + 1) + 1)) rfl rfl trivial ?_)
            refine zv_iff (by decide) ?_
            iterate 4 (refine zv_step (bX7_isRight ((z + 1) + 1)) rfl rfl trivial ?_)
            refine zv_iale (bX7_isRight ((z + 1) + 1)) rfl rfl hv (show A 3 (nI n).toNatClampNeg = A 3 n by rw [e1]) ?_
            refine zv_V1 (bX7_isRight ((z + 1) + 1)) rfl rfl rfl rfl rfl rfl rfl ⟨rfl, rfl, rfl⟩ ⟨by show z + 1 + 1 ≤ z + 1 + 1; omega, by show 8 + (3 + 11) + 64 * (z + 1) ≤ 64 * (z + 1 + 1); omega⟩ ⟨Nat.zero_le _, Nat.zero_le _⟩ (ih _ hp3) ?_
            rintro _ _ ⟨rfl, ⟨g3, rfl⟩ | ⟨g3, rfl⟩⟩
            · skip
              iterate 1 (refine zv_step (bX7_isRight ((z + 1) + 1)) rfl rfl trivial ?_)
              refine zv_iff (by decide) ?_
              iterate 2 (refine zv_step (bX7_isRight ((z + 1) + 1)) rfl rfl trivial ?_)
              have hown : rtO A n := ⟨fun e => absurd e h12, fun e => absurd e h45⟩
              exact zv_iret (bX7_isRight (z + 1 + 1)) rfl (Or.inr ⟨rfl, Or.inr rfl⟩) (Nat.zero_le _) (Nat.zero_le _) ⟨rfl, Or.inl ⟨(rtW_i (by omega)).mpr ⟨hown, g2, g3⟩, rfl⟩⟩
            · skip
              iterate 1 (refine zv_step (bX7_isRight ((z + 1) + 1)) rfl rfl trivial ?_)
              refine zv_ift (by decide) ?_
              iterate 1 (refine zv_step (bX7_isRight ((z + 1) + 1)) rfl rfl trivial ?_)
              exact zv_iret (bX7_isRight (z + 1 + 1)) rfl (Or.inr ⟨rfl, Or.inl rfl⟩) (Nat.zero_le _) (Nat.zero_le _) ⟨rfl, Or.inr ⟨fun w => by
                have q := (rtW_i (by omega)).mp w
                exact g3 q.2.2, rfl⟩⟩
          · skip
            iterate 1 (refine zv_step (bX7_isRight ((z + 1) + 1)) rfl rfl trivial ?_)
            refine zv_ift (by decide) ?_
            iterate 1 (refine zv_step (bX7_isRight ((z + 1) + 1)) rfl rfl trivial ?_)
            exact zv_iret (bX7_isRight (z + 1 + 1)) rfl (Or.inr ⟨rfl, Or.inl rfl⟩) (Nat.zero_le _) (Nat.zero_le _) ⟨rfl, Or.inr ⟨fun w => by
              have q := (rtW_i (by omega)).mp w
              exact g2 q.2.1, rfl⟩⟩
        · iterate 5 (refine zv_step (bX7_isRight ((z + 1) + 1)) rfl rfl trivial ?_)
          refine zv_iale (bX7_isRight ((z + 1) + 1)) rfl rfl hv (show A 1 (nI n).toNatClampNeg = A 1 n by rw [e1]) ?_
          obtain ⟨v, hv9, ev⟩ := rN_let hN (Or.inr (Decidable.not_not.mp h45))
          refine zv_step (bX7_isRight ((z + 1) + 1)) rfl rfl (show vp_in (A 1 n) 10 by rw [ev]; exact vp_in_nI (by omega) (by decide)) ?_
          iterate 1 (refine zv_step (bX7_isRight ((z + 1) + 1)) rfl rfl trivial ?_)
          refine zv_ifb (fun h59 => ?_) (fun h59 => ?_)
          · iterate 4 (refine zv_step (bX7_isRight ((z + 1) + 1)) rfl rfl trivial ?_)
            refine zv_ift (by decide) ?_
            iterate 1 (refine zv_step (bX7_isRight ((z + 1) + 1)) rfl rfl trivial ?_)
            exact zv_iret (bX7_isRight (z + 1 + 1)) rfl (Or.inr ⟨rfl, Or.inl rfl⟩) (Nat.zero_le _) (Nat.zero_le _) ⟨rfl, Or.inr ⟨fun w => by
              have q := (rtW_i (by omega)).mp w
              exact q.1.2 (Decidable.not_not.mp h45) h59, rfl⟩⟩
          · iterate 5 (refine zv_step (bX7_isRight ((z + 1) + 1)) rfl rfl trivial ?_)
            refine zv_iff (by decide) ?_
            iterate 4 (refine zv_step (bX7_isRight ((z + 1) + 1)) rfl rfl trivial ?_)
            refine zv_iale (bX7_isRight ((z + 1) + 1)) rfl rfl hv (show A 2 (nI n).toNatClampNeg = A 2 n by rw [e1]) ?_
            refine zv_V1 (bX7_isRight ((z + 1) + 1)) rfl rfl rfl rfl rfl rfl rfl ⟨rfl, rfl, rfl⟩ ⟨by show z + 1 + 1 ≤ z + 1 + 1; omega, by show 8 + (3 + 11) + 64 * (z + 1) ≤ 64 * (z + 1 + 1); omega⟩ ⟨Nat.zero_le _, Nat.zero_le _⟩ (ih _ hp2) ?_
            rintro _ _ ⟨rfl, ⟨g2, rfl⟩ | ⟨g2, rfl⟩⟩
            · skip
              iterate 1 (refine zv_step (bX7_isRight ((z + 1) + 1)) rfl rfl trivial ?_)
              refine zv_iff (by decide) ?_
              iterate 4 (refine zv_step (bX7_isRight ((z + 1) + 1)) rfl rfl trivial ?_)
              refine zv_iale (bX7_isRight ((z + 1) + 1)) rfl rfl hv (show A 3 (nI n).toNatClampNeg = A 3 n by rw [e1]) ?_
              refine zv_V1 (bX7_isRight ((z + 1) + 1)) rfl rfl rfl rfl rfl rfl rfl ⟨rfl, rfl, rfl⟩ ⟨by show z + 1 + 1 ≤ z + 1 + 1; omega, by show 8 + (3 + 11) + 64 * (z + 1) ≤ 64 * (z + 1 + 1); omega⟩ ⟨Nat.zero_le _, Nat.zero_le _⟩ (ih _ hp3) ?_
              rintro _ _ ⟨rfl, ⟨g3, rfl⟩ | ⟨g3, rfl⟩⟩
              · skip
                iterate 1 (refine zv_step (bX7_isRight ((z + 1) + 1)) rfl rfl trivial ?_)
                refine zv_iff (by decide) ?_
                iterate 2 (refine zv_step (bX7_isRight ((z + 1) + 1)) rfl rfl trivial ?_)
                have hown : rtO A n := ⟨fun e => absurd e h12, fun _ => h59⟩
                exact zv_iret (bX7_isRight (z + 1 + 1)) rfl (Or.inr ⟨rfl, Or.inr rfl⟩) (Nat.zero_le _) (Nat.zero_le _) ⟨rfl, Or.inl ⟨(rtW_i (by omega)).mpr ⟨hown, g2, g3⟩, rfl⟩⟩
              · skip
                iterate 1 (refine zv_step (bX7_isRight ((z + 1) + 1)) rfl rfl trivial ?_)
                refine zv_ift (by decide) ?_
                iterate 1 (refine zv_step (bX7_isRight ((z + 1) + 1)) rfl rfl trivial ?_)
                exact zv_iret (bX7_isRight (z + 1 + 1)) rfl (Or.inr ⟨rfl, Or.inl rfl⟩) (Nat.zero_le _) (Nat.zero_le _) ⟨rfl, Or.inr ⟨fun w => by
                  have q := (rtW_i (by omega)).mp w
                  exact g3 q.2.2, rfl⟩⟩
            · skip
              iterate 1 (refine zv_step (bX7_isRight ((z + 1) + 1)) rfl rfl trivial ?_)
              refine zv_ift (by decide) ?_
              iterate 1 (refine zv_step (bX7_isRight ((z + 1) + 1)) rfl rfl trivial ?_)
              exact zv_iret (bX7_isRight (z + 1 + 1)) rfl (Or.inr ⟨rfl, Or.inl rfl⟩) (Nat.zero_le _) (Nat.zero_le _) ⟨rfl, Or.inr ⟨fun w => by
                have q := (rtW_i (by omega)).mp w
                exact g2 q.2.1, rfl⟩⟩
      · iterate 5 (refine zv_step (bX7_isRight ((z + 1) + 1)) rfl rfl trivial ?_)
        refine zv_iale (bX7_isRight ((z + 1) + 1)) rfl rfl hv (show A 1 (nI n).toNatClampNeg = A 1 n by rw [e1]) ?_
        obtain ⟨v, hv9, ev⟩ := rN_let hN (Or.inl (Decidable.not_not.mp h12))
        refine zv_step (bX7_isRight ((z + 1) + 1)) rfl rfl (show vp_in (A 1 n) 10 by rw [ev]; exact vp_in_nI (by omega) (by decide)) ?_
        iterate 1 (refine zv_step (bX7_isRight ((z + 1) + 1)) rfl rfl trivial ?_)
        refine zv_ifb (fun h26 => ?_) (fun h26 => ?_)
        · iterate 5 (refine zv_step (bX7_isRight ((z + 1) + 1)) rfl rfl trivial ?_)
          refine zv_ift (by decide) ?_
          iterate 1 (refine zv_step (bX7_isRight ((z + 1) + 1)) rfl rfl trivial ?_)
          exact zv_iret (bX7_isRight (z + 1 + 1)) rfl (Or.inr ⟨rfl, Or.inl rfl⟩) (Nat.zero_le _) (Nat.zero_le _) ⟨rfl, Or.inr ⟨fun w => by
            have q := (rtW_i (by omega)).mp w
            exact h26 (q.1.1 (Decidable.not_not.mp h12)), rfl⟩⟩
        · iterate 5 (refine zv_step (bX7_isRight ((z + 1) + 1)) rfl rfl trivial ?_)
          refine zv_iff (by decide) ?_
          iterate 4 (refine zv_step (bX7_isRight ((z + 1) + 1)) rfl rfl trivial ?_)
          refine zv_iale (bX7_isRight ((z + 1) + 1)) rfl rfl hv (show A 2 (nI n).toNatClampNeg = A 2 n by rw [e1]) ?_
          refine zv_V1 (bX7_isRight ((z + 1) + 1)) rfl rfl rfl rfl rfl rfl rfl ⟨rfl, rfl, rfl⟩ ⟨by show z + 1 + 1 ≤ z + 1 + 1; omega, by show 8 + (3 + 11) + 64 * (z + 1) ≤ 64 * (z + 1 + 1); omega⟩ ⟨Nat.zero_le _, Nat.zero_le _⟩ (ih _ hp2) ?_
          rintro _ _ ⟨rfl, ⟨g2, rfl⟩ | ⟨g2, rfl⟩⟩
          · skip
            iterate 1 (refine zv_step (bX7_isRight ((z + 1) + 1)) rfl rfl trivial ?_)
            refine zv_iff (by decide) ?_
            iterate 4 (refine zv_step (bX7_isRight ((z + 1) + 1)) rfl rfl trivial ?_)
            refine zv_iale (bX7_isRight ((z + 1) + 1)) rfl rfl hv (show A 3 (nI n).toNatClampNeg = A 3 n by rw [e1]) ?_
            refine zv_V1 (bX7_isRight ((z + 1) + 1)) rfl rfl rfl rfl rfl rfl rfl ⟨rfl, rfl, rfl⟩ ⟨by show z + 1 + 1 ≤ z + 1 + 1; omega, by show 8 + (3 + 11) + 64 * (z + 1) ≤ 64 * (z + 1 + 1); omega⟩ ⟨Nat.zero_le _, Nat.zero_le _⟩ (ih _ hp3) ?_
            rintro _ _ ⟨rfl, ⟨g3, rfl⟩ | ⟨g3, rfl⟩⟩
            · skip
              iterate 1 (refine zv_step (bX7_isRight ((z + 1) + 1)) rfl rfl trivial ?_)
              refine zv_iff (by decide) ?_
              iterate 2 (refine zv_step (bX7_isRight ((z + 1) + 1)) rfl rfl trivial ?_)
              have hown : rtO A n := ⟨fun _ => Decidable.not_not.mp h26, fun e => absurd ((Decidable.not_not.mp h12).symm.trans e) (by decide)⟩
              exact zv_iret (bX7_isRight (z + 1 + 1)) rfl (Or.inr ⟨rfl, Or.inr rfl⟩) (Nat.zero_le _) (Nat.zero_le _) ⟨rfl, Or.inl ⟨(rtW_i (by omega)).mpr ⟨hown, g2, g3⟩, rfl⟩⟩
            · skip
              iterate 1 (refine zv_step (bX7_isRight ((z + 1) + 1)) rfl rfl trivial ?_)
              refine zv_ift (by decide) ?_
              iterate 1 (refine zv_step (bX7_isRight ((z + 1) + 1)) rfl rfl trivial ?_)
              exact zv_iret (bX7_isRight (z + 1 + 1)) rfl (Or.inr ⟨rfl, Or.inl rfl⟩) (Nat.zero_le _) (Nat.zero_le _) ⟨rfl, Or.inr ⟨fun w => by
                have q := (rtW_i (by omega)).mp w
                exact g3 q.2.2, rfl⟩⟩
          · skip
            iterate 1 (refine zv_step (bX7_isRight ((z + 1) + 1)) rfl rfl trivial ?_)
            refine zv_ift (by decide) ?_
            iterate 1 (refine zv_step (bX7_isRight ((z + 1) + 1)) rfl rfl trivial ?_)
            exact zv_iret (bX7_isRight (z + 1 + 1)) rfl (Or.inr ⟨rfl, Or.inl rfl⟩) (Nat.zero_le _) (Nat.zero_le _) ⟨rfl, Or.inr ⟨fun w => by
              have q := (rtW_i (by omega)).mp w
              exact g2 q.2.1, rfl⟩⟩
set_option maxHeartbeats 1000000 in
set_option maxRecDepth 20000 in
theorem mKeepableX (f : Nat → zC) (o : Nat → Int32) (A : Nat → Nat → Int32) (J : Nat → Nat → Int64) {lo hi : Nat} (hh : hi ≤ 450) (hT : tbI lo hi A) : ∀ (z : Nat) (x : Int32), pt lo hi A z x → zK (z + 1) zX7_keepable [.ref 76, .int x] (wR f o A J) (fun r w' => w' = (wR f o A J) ∧ r = some (.int (nI (kbW A z x)))) := by
  intro z
  induction z with
  | zero =>
    intro x hx
    obtain rfl := pt_zero hT hx
    refine zK_of qX7_keepable (by decide +kernel) rfl ?_
    iterate 2 (refine zv_step (bX7_keepable (0 + 1)) rfl rfl trivial ?_)
    refine zv_iff (by decide) ?_
    iterate 2 (refine zv_step (bX7_keepable (0 + 1)) rfl rfl trivial ?_)
    exact zv_iret (bX7_keepable (0 + 1)) rfl (Or.inl rfl) (Nat.zero_le _) (Nat.zero_le _) ⟨rfl, by rw [kbW_m2]; rfl⟩
  | succ z ih =>
    intro x hx
    rcases hx with rfl | ⟨n, rfl, hlo, hn, hz⟩
    · refine zK_of qX7_keepable (by decide +kernel) rfl ?_
      iterate 2 (refine zv_step (bX7_keepable ((z + 1) + 1)) rfl rfl trivial ?_)
      refine zv_iff (by decide) ?_
      iterate 2 (refine zv_step (bX7_keepable ((z + 1) + 1)) rfl rfl trivial ?_)
      exact zv_iret (bX7_keepable ((z + 1) + 1)) rfl (Or.inl rfl) (Nat.zero_le _) (Nat.zero_le _) ⟨rfl, by rw [kbW_m2]; rfl⟩
    · have hN := hT n hlo hn
      have e1 : (nI n).toNatClampNeg = n := nI_clamp (by omega)
      have hv : vp_in (nI n) 450 := vp_in_nI (by omega) (by decide)
      obtain ⟨hp2, hp3⟩ := rN_parts hT hlo hn hz
      refine zK_of qX7_keepable (by decide +kernel) rfl ?_
      iterate 2 (refine zv_step (bX7_keepable ((z + 1) + 1)) rfl rfl trivial ?_)
      refine zv_ift (nI_pos' (by omega)) ?_
      iterate 3 (refine zv_step (bX7_keepable ((z + 1) + 1)) rfl rfl trivial ?_)
      obtain ⟨kd, hkd, h0⟩ := rN_kd hN
      refine zv_iale (bX7_keepable ((z + 1) + 1)) rfl rfl hv (show A 0 (nI n).toNatClampNeg = nI kd by rw [e1]; exact h0) ?_
      refine zv_S1 (bX7_keepable ((z + 1) + 1)) rfl rfl rfl rfl ⟨rfl, rfl, rfl⟩ ⟨by show 0 + 1 ≤ z + 1 + 1; omega, by show 8 + (1 + 11) + 64 * (0) ≤ 64 * (z + 1 + 1); omega⟩ ⟨Nat.zero_le _, Nat.zero_le _⟩ (hX7_mayKeep _ _) ?_
      rintro _ _ ⟨rfl, ⟨g1, rfl⟩ | ⟨g1, rfl⟩⟩
      · rw [nI_toInt (by omega)] at g1
        have hmk : mayN kd = true := may_iff.mpr ⟨by omega, by omega, by omega⟩
        iterate 1 (refine zv_step (bX7_keepable ((z + 1) + 1)) rfl rfl trivial ?_)
        refine zv_iff (by decide) ?_
        iterate 6 (refine zv_step (bX7_keepable ((z + 1) + 1)) rfl rfl trivial ?_)
        refine zv_iale (bX7_keepable ((z + 1) + 1)) rfl rfl hv (show A 2 (nI n).toNatClampNeg = A 2 n by rw [e1]) ?_
        refine zv_V1 (bX7_keepable ((z + 1) + 1)) rfl rfl rfl rfl rfl rfl rfl ⟨rfl, rfl, rfl⟩ ⟨by show z + 1 + 1 ≤ z + 1 + 1; omega, by show 8 + (2 + 11) + 64 * (z + 1) ≤ 64 * (z + 1 + 1); omega⟩ ⟨Nat.zero_le _, Nat.zero_le _⟩ (ih _ hp2) ?_
        rintro _ _ ⟨rfl, rfl⟩
        iterate 5 (refine zv_step (bX7_keepable ((z + 1) + 1)) rfl rfl trivial ?_)
        refine zv_iale (bX7_keepable ((z + 1) + 1)) rfl rfl hv (show A 3 (nI n).toNatClampNeg = A 3 n by rw [e1]) ?_
        refine zv_V1 (bX7_keepable ((z + 1) + 1)) rfl rfl rfl rfl rfl rfl rfl ⟨rfl, rfl, rfl⟩ ⟨by show z + 1 + 1 ≤ z + 1 + 1; omega, by show 8 + (2 + 11) + 64 * (z + 1) ≤ 64 * (z + 1 + 1); omega⟩ ⟨Nat.zero_le _, Nat.zero_le _⟩ (ih _ hp3) ?_
        rintro _ _ ⟨rfl, rfl⟩
        iterate 1 (refine zv_step (bX7_keepable ((z + 1) + 1)) rfl rfl trivial ?_)
        have ek : kbW A (z + 1) (nI n) = 1 + kbW A z (A 2 n) + kbW A z (A 3 n) := by
          rw [kbW_nI (by omega) hkd h0, if_pos hmk]
        exact zv_iret (bX7_keepable (z + 1 + 1)) rfl (Or.inl rfl) (Nat.zero_le _) (Nat.zero_le _) ⟨rfl, by
          show some (Value.int (nI 1 + nI (kbW A z (A 2 n)) + nI (kbW A z (A 3 n)))) = _
          rw [nI_add, nI_add, ek]⟩
      · have hmk : ¬ mayN kd = true := fun q => g1 (by have := may_iff.mp q; rw [nI_toInt (by omega)]; omega)
        iterate 1 (refine zv_step (bX7_keepable ((z + 1) + 1)) rfl rfl trivial ?_)
        refine zv_ift (by decide) ?_
        iterate 5 (refine zv_step (bX7_keepable ((z + 1) + 1)) rfl rfl trivial ?_)
        refine zv_iale (bX7_keepable ((z + 1) + 1)) rfl rfl hv (show A 2 (nI n).toNatClampNeg = A 2 n by rw [e1]) ?_
        refine zv_V1 (bX7_keepable ((z + 1) + 1)) rfl rfl rfl rfl rfl rfl rfl ⟨rfl, rfl, rfl⟩ ⟨by show z + 1 + 1 ≤ z + 1 + 1; omega, by show 8 + (2 + 11) + 64 * (z + 1) ≤ 64 * (z + 1 + 1); omega⟩ ⟨Nat.zero_le _, Nat.zero_le _⟩ (ih _ hp2) ?_
        rintro _ _ ⟨rfl, rfl⟩
        iterate 5 (refine zv_step (bX7_keepable ((z + 1) + 1)) rfl rfl trivial ?_)
        refine zv_iale (bX7_keepable ((z + 1) + 1)) rfl rfl hv (show A 3 (nI n).toNatClampNeg = A 3 n by rw [e1]) ?_
        refine zv_V1 (bX7_keepable ((z + 1) + 1)) rfl rfl rfl rfl rfl rfl rfl ⟨rfl, rfl, rfl⟩ ⟨by show z + 1 + 1 ≤ z + 1 + 1; omega, by show 8 + (2 + 11) + 64 * (z + 1) ≤ 64 * (z + 1 + 1); omega⟩ ⟨Nat.zero_le _, Nat.zero_le _⟩ (ih _ hp3) ?_
        rintro _ _ ⟨rfl, rfl⟩
        iterate 1 (refine zv_step (bX7_keepable ((z + 1) + 1)) rfl rfl trivial ?_)
        have ek : kbW A (z + 1) (nI n) = 0 + kbW A z (A 2 n) + kbW A z (A 3 n) := by
          rw [kbW_nI (by omega) hkd h0, if_neg hmk]
        exact zv_iret (bX7_keepable (z + 1 + 1)) rfl (Or.inl rfl) (Nat.zero_le _) (Nat.zero_le _) ⟨rfl, by
          show some (Value.int (nI 0 + nI (kbW A z (A 2 n)) + nI (kbW A z (A 3 n)))) = _
          rw [nI_add, nI_add, ek]⟩
/-- a row of words stands in THE EAR from place p on -/
def mat (E : Nat → Nat) (p : Nat) (L : List Int32) : Prop := ∀ t v, L[t]? = some v → v = nI (E (p + t)) ∧ E (p + t) ≤ 31
theorem mat_cons {E : Nat → Nat} {p : Nat} {v : Int32} {L : List Int32} (h : mat E p (v :: L)) : (v = nI (E p) ∧ E p ≤ 31) ∧ mat E (p + 1) L := ⟨h 0 v rfl, fun t w e => by
  have := h (t + 1) w (by simpa using e)
  rwa [show p + (t + 1) = p + 1 + t by omega] at this⟩
theorem mat_app {E : Nat → Nat} : ∀ {X Y : List Int32} {p : Nat}, mat E p (X ++ Y) → mat E p X ∧ mat E (p + X.length) Y
  | [], Y, p, h => ⟨fun t v e => by simp at e, h⟩
  | x :: X, Y, p, h => by
    obtain ⟨h1, h2⟩ := mat_cons (show mat E p (x :: (X ++ Y)) from h)
    obtain ⟨h3, h4⟩ := mat_app h2
    refine ⟨fun t v e => ?_, by rw [List.length_cons, show p + (X.length + 1) = p + 1 + X.length by omega]; exact h4⟩
    cases t with
    | zero =>
      have : x = v := by simpa using e
      rw [← this]
      exact h1
    | succ t =>
      have := h3 t v (by simpa using e)
      rwa [show p + 1 + t = p + (t + 1) by omega] at this
theorem w_e {E : Nat → Nat} {p c : Nat} (h : nI c = nI (E p) ∧ E p ≤ 31) (hc : c ≤ 31) : E p = c := ((nI_eq (by omega) (by omega)).mp h.1).symm
/-- the digits of a NUMBER -/
theorem dgL_mat {E : Nat → Nat} {v : Nat} (hv : v ≤ 9999) : ∀ (d p : Nat), d ≤ 4 → mat E p (dgL (nI v) d) → ∀ t, t < d → E (p + t) = 10 + v / 10 ^ (d - 1 - t) % 10
  | 0, p, _, _, t, ht => absurd ht (Nat.not_lt_zero _)
  | d + 1, p, hd, h, t, ht => by
    obtain ⟨h1, h2⟩ := mat_cons (show mat E p (_ :: dgL (nI v) d) from h)
    have hp : 10 ^ d ≤ 10 ^ 3 := Nat.pow_le_pow_right (by decide) (by omega)
    have e : c8 10 + (nI v / nI (10 ^ d) - nI v / nI (10 ^ d) / c8 10 * c8 10) = nI (10 + v / 10 ^ d % 10) := by
      have h9 : v / 10 ^ d ≤ v := Nat.div_le_self _ _
      rw [nI_div (by omega) (by omega) (Nat.pow_pos (by decide)), nI_rem (by omega), show c8 10 = nI 10 from rfl, nI_add]
    cases t with
    | zero =>
      rw [e] at h1
      have := w_e h1 (by omega)
      rw [Nat.add_zero, this]
      rfl
    | succ t =>
      have := dgL_mat hv d (p + 1) (by omega) h2 t (by omega)
      rw [show p + (t + 1) = p + 1 + t by omega, this, show d + 1 - 1 - (t + 1) = d - 1 - t by omega]
theorem numAll_i {E : Nat → Nat} : ∀ (c k : Nat), (∀ t, t < c → 10 ≤ E (k + t) ∧ E (k + t) ≤ 19) → numAll E c k = true
  | 0, _, _ => rfl
  | c + 1, k, h => by
    show ((decide (10 ≤ E k) && decide (E k ≤ 19)) && numAll E c (k + 1)) = true
    have h0 := h 0 (by omega)
    rw [Nat.add_zero] at h0
    rw [decide_eq_true h0.1, decide_eq_true h0.2, numAll_i c (k + 1) (fun t ht => by have := h (t + 1) (by omega); rwa [show k + (t + 1) = k + 1 + t by omega] at this)]
    rfl
theorem dgN_b {v : Nat} (hv : v ≤ 9999) : 1 ≤ dgN (nI v) ∧ dgN (nI v) ≤ 4 ∧ v < 10 ^ dgN (nI v) ∧ (dgN (nI v) = 1 ∨ 10 ^ (dgN (nI v) - 1) ≤ v) := by
  have c10 : nI v < c8 10 ↔ v < 10 := nI_ltI (b := 10) (by omega) (by decide)
  have c100 : nI v < c8 100 ↔ v < 100 := nI_ltI (b := 100) (by omega) (by decide)
  have c1000 : nI v < (Int16.ofInt 1000).toInt32 ↔ v < 1000 := nI_ltI (b := 1000) (by omega) (by decide)
  unfold dgN
  simp only [c10, c100, c1000]
  by_cases h1 : v < 10
  · rw [if_pos h1]
    exact ⟨by decide, by decide, h1, Or.inl rfl⟩
  · rw [if_neg h1]
    by_cases h2 : v < 100
    · rw [if_pos h2]
      exact ⟨by decide, by decide, h2, Or.inr (by show 10 ≤ v; omega)⟩
    · rw [if_neg h2]
      by_cases h3 : v < 1000
      · rw [if_pos h3]
        exact ⟨by decide, by decide, h3, Or.inr (by show 100 ≤ v; omega)⟩
      · rw [if_neg h3]
        exact ⟨by decide, by decide, by show v < 10000; omega, Or.inr (by show 1000 ≤ v; omega)⟩
theorem num_B {E : Nat → Nat} {v p : Nat} (hv : v ≤ 9999) (h : mat E p (dgL (nI v) (dgN (nI v)))) : isNumB E p (p + dgN (nI v)) = true := by
  obtain ⟨d1, d4, dv, dl⟩ := dgN_b hv
  have hd := dgL_mat hv _ p d4 h
  unfold isNumB
  rw [show p + dgN (nI v) - p = dgN (nI v) by omega, decide_eq_true d4, numAll_i _ p (fun t ht => by rw [hd t ht]; omega)]
  rcases dl with e | e
  · rw [decide_eq_true e, Bool.or_true]
    rfl
  · have h0 := hd 0 (by omega)
    rw [Nat.add_zero, Nat.sub_zero] at h0
    have h5 : v / 10 ^ (dgN (nI v) - 1) < 10 := by
      rw [Nat.div_lt_iff_lt_mul (Nat.pow_pos (by decide)), ← Nat.pow_succ', show (dgN (nI v) - 1).succ = dgN (nI v) by omega]
      exact dv
    have h6 : 1 ≤ v / 10 ^ (dgN (nI v) - 1) := (Nat.one_le_div_iff (Nat.pow_pos (by decide))).mpr e
    rw [decide_eq_true (show E p ≠ 10 by omega)]
    rfl
set_option maxHeartbeats 1000000 in
/-- the words that are said stand as spans -/
theorem wd_SD {u : Nat} (hu : u ≤ 450) {A : Nat → Nat → Int32} (hT : tbI 0 u A) {E : Nat → Nat} {b : Nat → Bool} : ∀ (z n i p : Nat), n < u → szN A n ≤ z → mat E p (wdF A b z (nI n) i) → SD A E b z (nI n) i p (p + (wdF A b z (nI n) i).length)
  | 0, n, i, p, hn, hz, _ => by have := (rN_sz (hT n (Nat.zero_le _) hn)).1; omega
  | z + 1, n, i, p, hn, hz, hm => by
    obtain ⟨k, h0, hk, hs, h40, hv⟩ := rN_val (hT n (Nat.zero_le _) hn)
    have core : ∀ a, mat E a (coF A (wdF A b z (A 2 n) (i1W k i)) (wdF A b z (A 3 n) (i1W k i + kbW A z (A 2 n))) n) → SB A E (SD A E b z) (kbW A z) k n i a (a + (coF A (wdF A b z (A 2 n) (i1W k i)) (wdF A b z (A 3 n) (i1W k i + kbW A z (A 2 n))) n).length) := by
      intro a ha
      rcases hs with ⟨k1, h2, h3, es⟩ | ⟨k1, k6, c, d, h2, la, hc, h3, lb, hd, es⟩ | ⟨k1, c, h2, la, hc, h3, es⟩
      · rcases (show k = 0 ∨ k = 1 by omega) with rfl | rfl
        · rw [coF_0 h0] at ha ⊢
          have q := (mat_cons ha).1
          obtain ⟨v, hv9, e⟩ := hv.1 (Or.inl rfl)
          refine Or.inl ⟨rfl, rfl, q.1, ?_⟩
          have := (nI_eq (by omega) (by omega)).mp (e.symm.trans q.1)
          omega
        · rw [coF_1 h0] at ha ⊢
          obtain ⟨v, hv9, e⟩ := hv.2.1 rfl
          rw [e] at ha ⊢
          have := (dgN_b hv9).1
          rw [dgL_len]
          exact Or.inr (Or.inl ⟨rfl, by omega, num_B hv9 ha⟩)
      · rw [coF_2 k1 k6 h0] at ha ⊢
        obtain ⟨m1', m2'⟩ := mat_app ha
        obtain ⟨m3, m4⟩ := mat_cons m2'
        have ei : i1W k i = i + 1 := by unfold i1W; rw [if_pos (may_i (Or.inl ⟨k1, k6⟩))]
        rw [ei] at m1' m3 m4 ⊢
        rw [h2] at m1' m3 m4
        rw [h3] at m4
        have x := wd_SD hu hT z c (i + 1) a (by omega) (by omega) m1'
        have y := wd_SD hu hT z d (i + 1 + kbW A z (nI c)) _ (by omega) (by omega) m4
        refine Or.inr (Or.inr (Or.inr (Or.inr (Or.inr ⟨k1, k6, a + (wdF A b z (nI c) (i + 1)).length, ?_, by rw [h2]; exact x, ?_⟩))))
        · exact w_e (c := 18 + k) ⟨by rw [← nI_add]; exact m3.1, m3.2⟩ (by omega)
        · rw [h2, h3, List.length_append, List.length_cons, show a + ((wdF A b z (nI c) (i + 1)).length + ((wdF A b z (nI d) (i + 1 + kbW A z (nI c))).length + 1)) = a + (wdF A b z (nI c) (i + 1)).length + 1 + (wdF A b z (nI d) (i + 1 + kbW A z (nI c))).length by omega]
          exact y
      · rcases (show k = 7 ∨ k = 8 ∨ k = 9 by omega) with rfl | rfl | rfl
        · rw [coF_7 h0, h2] at ha ⊢
          obtain ⟨m3, m4⟩ := mat_cons ha
          have x := wd_SD hu hT z c (i + 1) _ (by omega) (by omega) m4
          refine Or.inr (Or.inr (Or.inl ⟨rfl, w_e (c := 25) m3 (by decide), ?_⟩))
          rw [h2, List.length_cons, show a + ((wdF A b z (nI c) (i1W 7 i)).length + 1) = a + 1 + (wdF A b z (nI c) (i1W 7 i)).length by omega]
          exact x
        · rw [coF_8 h0, h2] at ha ⊢
          obtain ⟨m3, m4⟩ := mat_cons ha
          obtain ⟨m5, m6⟩ := mat_app m4
          obtain ⟨m7, _⟩ := mat_cons m6
          have x := wd_SD hu hT z c i _ (by omega) (by omega) m5
          have el : a + (c8 26 :: (wdF A b z (nI c) (i1W 8 i) ++ [c8 27])).length = a + 1 + (wdF A b z (nI c) (i1W 8 i)).length + 1 := by
            rw [List.length_cons, List.length_append]
            show a + ((wdF A b z (nI c) (i1W 8 i)).length + 1 + 1) = _
            omega
          refine Or.inr (Or.inr (Or.inr (Or.inl ⟨rfl, w_e (c := 26) m3 (by decide), ?_, ?_⟩)))
          · rw [el]
            exact w_e (c := 27) m7 (by decide)
          · rw [h2, el]
            exact x
        · rw [coF_9 h0, h2] at ha ⊢
          obtain ⟨m3, m4⟩ := mat_cons ha
          obtain ⟨m5, m6⟩ := mat_cons m4
          have x := wd_SD hu hT z c (i + 1) _ (by omega) (by omega) m6
          obtain ⟨v, hv9, e⟩ := hv.1 (Or.inr rfl)
          have := (nI_eq (by omega) (by omega)).mp (e.symm.trans m3.1)
          refine Or.inr (Or.inr (Or.inr (Or.inr (Or.inl ⟨rfl, m3.1, by omega, w_e (c := 28) m5 (by decide), ?_⟩))))
          rw [h2, List.length_cons, List.length_cons, show a + ((wdF A b z (nI c) (i1W 9 i)).length + 1 + 1) = a + 1 + 1 + (wdF A b z (nI c) (i1W 9 i)).length by omega]
          exact x
    refine ⟨n, k, rfl, by omega, hk, h0, ?_⟩
    rw [wdF_nI (by omega) hk h0] at hm ⊢
    unfold brL kpB at hm ⊢
    by_cases q : mayN k = true ∧ b i = true
    · rw [if_pos q, if_neg (by decide)] at hm ⊢
      obtain ⟨m3, m4⟩ := mat_cons hm
      obtain ⟨m5, m6⟩ := mat_app m4
      obtain ⟨m7, _⟩ := mat_cons m6
      have el : p + (c8 29 :: (coF A (wdF A b z (A 2 n) (i1W k i)) (wdF A b z (A 3 n) (i1W k i + kbW A z (A 2 n))) n ++ [c8 30])).length = p + 1 + (coF A (wdF A b z (A 2 n) (i1W k i)) (wdF A b z (A 3 n) (i1W k i + kbW A z (A 2 n))) n).length + 1 := by
        rw [List.length_cons, List.length_append]
        show p + (_ + 1 + 1) = _
        omega
      refine Or.inr ⟨q.1, q.2, w_e (c := 29) m3 (by decide), ?_, ?_⟩
      · rw [el]
        exact w_e (c := 30) m7 (by decide)
      · rw [el]
        exact core _ m5
    · rw [if_neg q, if_pos rfl] at hm ⊢
      exact Or.inl ⟨q, core _ hm⟩
