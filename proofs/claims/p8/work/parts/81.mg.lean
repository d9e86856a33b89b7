section
set_option maxHeartbeats 1000000 in
set_option maxRecDepth 20000 in
theorem mRight (f : Nat → zC) (o : Nat → Int32) (A : Nat → Nat → Int32) (J : Nat → Nat → Int64) {lo hi : Nat} (hh : hi ≤ 450) (hT : tbI lo hi A) : ∀ (z : Nat) (x : Int32), pt lo hi A z x → zK (z + 1) zX7_isRight [.ref 76, .int x] (wR f o A J) (fun r w' => w' = (wR f o A J) ∧ (r = some (.int 1) ∨ r = some (.int 0))) := by
  intro z
  induction z with
  | zero =>
    intro x hx
    obtain rfl := pt_zero hT hx
    refine zK_of qX7_isRight (by decide +kernel) rfl ?_
    iterate 2 (refine zv_step (bX7_isRight (0 + 1)) rfl rfl trivial ?_)
    refine zv_iff (by decide) ?_
    iterate 1 (refine zv_step (bX7_isRight (0 + 1)) rfl rfl trivial ?_)
    exact zv_iret (bX7_isRight (0 + 1)) rfl (Or.inr ⟨rfl, Or.inr rfl⟩) (Nat.zero_le _) (Nat.zero_le _) ⟨rfl, Or.inl rfl⟩
  | succ z ih =>
    intro x hx
    rcases hx with rfl | ⟨n, rfl, hlo, hn, hz⟩
    · refine zK_of qX7_isRight (by decide +kernel) rfl ?_
      iterate 2 (refine zv_step (bX7_isRight ((z + 1) + 1)) rfl rfl trivial ?_)
      refine zv_iff (by decide) ?_
      iterate 1 (refine zv_step (bX7_isRight ((z + 1) + 1)) rfl rfl trivial ?_)
      exact zv_iret (bX7_isRight ((z + 1) + 1)) rfl (Or.inr ⟨rfl, Or.inr rfl⟩) (Nat.zero_le _) (Nat.zero_le _) ⟨rfl, Or.inl rfl⟩
    · have hN := hT n hlo hn
      have e1 : (nI n).toNatClampNeg = n := nI_clamp (by omega)
      have hv : vp_in (nI n) 450 := vp_in_nI (by omega) (by decide)
      obtain ⟨hp2, hp3⟩ := rN_parts hT hlo hn hz
      refine zK_of qX7_isRight (by decide +kernel) rfl ?_
      iterate 2 (refine zv_step (bX7_isRight ((z + 1) + 1)) rfl rfl trivial ?_)
      refine zv_ift (nI_pos' (by omega)) ?_
      iterate 3 (refine zv_step (bX7_isRight ((z + 1) + 1)) rfl rfl trivial ?_)
      refine zv_iale (bX7_isRight ((z + 1) + 1)) rfl rfl hv (show A 0 (nI n).toNatClampNeg = A 0 n by rw [e1]) ?_
      iterate 1 (refine zv_step (bX7_isRight ((z + 1) + 1)) rfl rfl trivial ?_)
      refine zv_ifb (fun h12 => ?_) (fun h12 => ?_)
      · iterate 3 (refine zv_step (bX7_isRight ((z + 1) + 1)) rfl rfl trivial ?_)
        refine zv_iale (bX7_isRight ((z + 1) + 1)) rfl rfl hv (show A 0 (nI n).toNatClampNeg = A 0 n by rw [e1]) ?_
        iterate 2 (refine zv_step (bX7_isRight ((z + 1) + 1)) rfl rfl trivial ?_)
        refine zv_ifb (fun h45 => ?_) (fun h45 => ?_)
        · iterate 5 (refine zv_step (bX7_isRight ((z + 1) + 1)) rfl rfl trivial ?_)
          refine zv_iff (by decide) ?_
          iterate 4 (refine zv_step (bX7_isRight ((z + 1) + 1)) rfl rfl trivial ?_)
          refine zv_iale (bX7_isRight ((z + 1) + 1)) rfl rfl hv (show A 2 (nI n).toNatClampNeg = A 2 n by rw [e1]) ?_
          refine zv_V1 (bX7_isRight ((z + 1) + 1)) rfl rfl rfl rfl rfl rfl rfl ⟨rfl, rfl, rfl⟩ ⟨by show z + 1 + 1 ≤ z + 1 + 1; omega, by show 8 + (3 + 11) + 64 * (z + 1) ≤ 64 * (z + 1 + 1); omega⟩ ⟨Nat.zero_le _, Nat.zero_le _⟩ (ih _ hp2) ?_
          rintro _ _ ⟨rfl, rfl | rfl⟩
          · skip
            iterate 1 (refine zv_step (bX7_isRight ((z + 1) + 1)) rfl rfl trivial ?_)
            refine zv_iff (by decide) ?_
            iterate 4 (refine zv_step (bX7_isRight ((z + 1) + 1)) rfl rfl trivial ?_)
            refine zv_iale (bX7_isRight ((z + 1) + 1)) rfl rfl hv (show A 3 (nI n).toNatClampNeg = A 3 n by rw [e1]) ?_
            refine zv_V1 (bX7_isRight ((z + 1) + 1)) rfl rfl rfl rfl rfl rfl rfl ⟨rfl, rfl, rfl⟩ ⟨by show z + 1 + 1 ≤ z + 1 + 1; omega, by show 8 + (3 + 11) + 64 * (z + 1) ≤ 64 * (z + 1 + 1); omega⟩ ⟨Nat.zero_le _, Nat.zero_le _⟩ (ih _ hp3) ?_
            rintro _ _ ⟨rfl, rfl | rfl⟩
            · skip
              iterate 1 (refine zv_step (bX7_isRight ((z + 1) + 1)) rfl rfl trivial ?_)
              refine zv_iff (by decide) ?_
              iterate 2 (refine zv_step (bX7_isRight ((z + 1) + 1)) rfl rfl trivial ?_)
              exact zv_iret (bX7_isRight ((z + 1) + 1)) rfl (Or.inr ⟨rfl, Or.inr rfl⟩) (Nat.zero_le _) (Nat.zero_le _) ⟨rfl, Or.inl rfl⟩
            · skip
              iterate 1 (refine zv_step (bX7_isRight ((z + 1) + 1)) rfl rfl trivial ?_)
              refine zv_ift (by decide) ?_
              iterate 1 (refine zv_step (bX7_isRight ((z + 1) + 1)) rfl rfl trivial ?_)
              exact zv_iret (bX7_isRight ((z + 1) + 1)) rfl (Or.inr ⟨rfl, Or.inl rfl⟩) (Nat.zero_le _) (Nat.zero_le _) ⟨rfl, Or.inr rfl⟩
          · skip
            iterate 1 (refine zv_step (bX7_isRight ((z + 1) + 1)) rfl rfl trivial ?_)
            refine zv_ift (by decide) ?_
            iterate 1 (refine zv_step (bX7_isRight ((z + 1) + 1)) rfl rfl trivial ?_)
            exact zv_iret (bX7_isRight ((z + 1) + 1)) rfl (Or.inr ⟨rfl, Or.inl rfl⟩) (Nat.zero_le _) (Nat.zero_le _) ⟨rfl, Or.inr rfl⟩
        · iterate 5 (refine zv_step (bX7_isRight ((z + 1) + 1)) rfl rfl trivial ?_)
          refine zv_iale (bX7_isRight ((z + 1) + 1)) rfl rfl hv (show A 1 (nI n).toNatClampNeg = A 1 n by rw [e1]) ?_
          obtain ⟨v, hv9, ev⟩ := rN_let hN (Or.inr (Decidable.not_not.mp h45))
          refine zv_step (bX7_isRight ((z + 1) + 1)) rfl rfl (show vp_in (A 1 n) 10 by rw [ev]; exact vp_in_nI (by omega) (by decide)) ?_
          iterate 1 (refine zv_step (bX7_isRight ((z + 1) + 1)) rfl rfl trivial ?_)
          refine zv_ifb (fun h59 => ?_) (fun h59 => ?_)
          · iterate 4 (refine zv_step (bX7_isRight ((z + 1) + 1)) rfl rfl trivial ?_)
            refine zv_ift (by decide) ?_
            iterate 1 (refine zv_step (bX7_isRight ((z + 1) + 1)) rfl rfl trivial ?_)
            exact zv_iret (bX7_isRight ((z + 1) + 1)) rfl (Or.inr ⟨rfl, Or.inl rfl⟩) (Nat.zero_le _) (Nat.zero_le _) ⟨rfl, Or.inr rfl⟩
          · iterate 5 (refine zv_step (bX7_isRight ((z + 1) + 1)) rfl rfl trivial ?_)
            refine zv_iff (by decide) ?_
            iterate 4 (refine zv_step (bX7_isRight ((z + 1) + 1)) rfl rfl trivial ?_)
            refine zv_iale (bX7_isRight ((z + 1) + 1)) rfl rfl hv (show A 2 (nI n).toNatClampNeg = A 2 n by rw [e1]) ?_
            refine zv_V1 (bX7_isRight ((z + 1) + 1)) rfl rfl rfl rfl rfl rfl rfl ⟨rfl, rfl, rfl⟩ ⟨by show z + 1 + 1 ≤ z + 1 + 1; omega, by show 8 + (3 + 11) + 64 * (z + 1) ≤ 64 * (z + 1 + 1); omega⟩ ⟨Nat.zero_le _, Nat.zero_le _⟩ (ih _ hp2) ?_
            rintro _ _ ⟨rfl, rfl | rfl⟩
            · skip
              iterate 1 (refine zv_step (bX7_isRight ((z + 1) + 1)) rfl rfl trivial ?_)
              refine zv_iff (by decide) ?_
              iterate 4 (refine zv_step (bX7_isRight ((z + 1) + 1)) rfl rfl trivial ?_)
              refine zv_iale (bX7_isRight ((z + 1) + 1)) rfl rfl hv (show A 3 (nI n).toNatClampNeg = A 3 n by rw [e1]) ?_
              refine zv_V1 (bX7_isRight ((z + 1) + 1)) rfl rfl rfl rfl rfl rfl rfl ⟨rfl, rfl, rfl⟩ ⟨by show z + 1 + 1 ≤ z + 1 + 1; omega, by show 8 + (3 + 11) + 64 * (z + 1) ≤ 64 * (z + 1 + 1); omega⟩ ⟨Nat.zero_le _, Nat.zero_le _⟩ (ih _ hp3) ?_
              rintro _ _ ⟨rfl, rfl | rfl⟩
              · skip
                iterate 1 (refine zv_step (bX7_isRight ((z + 1) + 1)) rfl rfl trivial ?_)
                refine zv_iff (by decide) ?_
                iterate 2 (refine zv_step (bX7_isRight ((z + 1) + 1)) rfl rfl trivial ?_)
                exact zv_iret (bX7_isRight ((z + 1) + 1)) rfl (Or.inr ⟨rfl, Or.inr rfl⟩) (Nat.zero_le _) (Nat.zero_le _) ⟨rfl, Or.inl rfl⟩
              · skip
                iterate 1 (refine zv_step (bX7_isRight ((z + 1) + 1)) rfl rfl trivial ?_)
                refine zv_ift (by decide) ?_
                iterate 1 (refine zv_step (bX7_isRight ((z + 1) + 1)) rfl rfl trivial ?_)
                exact zv_iret (bX7_isRight ((z + 1) + 1)) rfl (Or.inr ⟨rfl, Or.inl rfl⟩) (Nat.zero_le _) (Nat.zero_le _) ⟨rfl, Or.inr rfl⟩
            · skip
              iterate 1 (refine zv_step (bX7_isRight ((z + 1) + 1)) rfl rfl trivial ?_)
              refine zv_ift (by decide) ?_
              iterate 1 (refine zv_step (bX7_isRight ((z + 1) + 1)) rfl rfl trivial ?_)
              exact zv_iret (bX7_isRight ((z + 1) + 1)) rfl (Or.inr ⟨rfl, Or.inl rfl⟩) (Nat.zero_le _) (Nat.zero_le _) ⟨rfl, Or.inr rfl⟩
      · iterate 5 (refine zv_step (bX7_isRight ((z + 1) + 1)) rfl rfl trivial ?_)
        refine zv_iale (bX7_isRight ((z + 1) + 1)) rfl rfl hv (show A 1 (nI n).toNatClampNeg = A 1 n by rw [e1]) ?_
        obtain ⟨v, hv9, ev⟩ := rN_let hN (Or.inl (Decidable.not_not.mp h12))
        refine zv_step (bX7_isRight ((z + 1) + 1)) rfl rfl (show vp_in (A 1 n) 10 by rw [ev]; exact vp_in_nI (by omega) (by decide)) ?_
        iterate 1 (refine zv_step (bX7_isRight ((z + 1) + 1)) rfl rfl trivial ?_)
        refine zv_ifb (fun h26 => ?_) (fun h26 => ?_)
        · iterate 5 (refine zv_step (bX7_isRight ((z + 1) + 1)) rfl rfl trivial ?_)
          refine zv_ift (by decide) ?_
          iterate 1 (refine zv_step (bX7_isRight ((z + 1) + 1)) rfl rfl trivial ?_)
          exact zv_iret (bX7_isRight ((z + 1) + 1)) rfl (Or.inr ⟨rfl, Or.inl rfl⟩) (Nat.zero_le _) (Nat.zero_le _) ⟨rfl, Or.inr rfl⟩
        · iterate 5 (refine zv_step (bX7_isRight ((z + 1) + 1)) rfl rfl trivial ?_)
          refine zv_iff (by decide) ?_
          iterate 4 (refine zv_step (bX7_isRight ((z + 1) + 1)) rfl rfl trivial ?_)
          refine zv_iale (bX7_isRight ((z + 1) + 1)) rfl rfl hv (show A 2 (nI n).toNatClampNeg = A 2 n by rw [e1]) ?_
          refine zv_V1 (bX7_isRight ((z + 1) + 1)) rfl rfl rfl rfl rfl rfl rfl ⟨rfl, rfl, rfl⟩ ⟨by show z + 1 + 1 ≤ z + 1 + 1; omega, by show 8 + (3 + 11) + 64 * (z + 1) ≤ 64 * (z + 1 + 1); omega⟩ ⟨Nat.zero_le _, Nat.zero_le _⟩ (ih _ hp2) ?_
          rintro _ _ ⟨rfl, rfl | rfl⟩
          · skip
            iterate 1 (refine zv_step (bX7_isRight ((z + 1) + 1)) rfl rfl trivial ?_)
            refine zv_iff (by decide) ?_
            iterate 4 (refine zv_step (bX7_isRight ((z + 1) + 1)) rfl rfl trivial ?_)
            refine zv_iale (bX7_isRight ((z + 1) + 1)) rfl rfl hv (show A 3 (nI n).toNatClampNeg = A 3 n by rw [e1]) ?_
            refine zv_V1 (bX7_isRight ((z + 1) + 1)) rfl rfl rfl rfl rfl rfl rfl ⟨rfl, rfl, rfl⟩ ⟨by show z + 1 + 1 ≤ z + 1 + 1; omega, by show 8 + (3 + 11) + 64 * (z + 1) ≤ 64 * (z + 1 + 1); omega⟩ ⟨Nat.zero_le _, Nat.zero_le _⟩ (ih _ hp3) ?_
            rintro _ _ ⟨rfl, rfl | rfl⟩
            · skip
              iterate 1 (refine zv_step (bX7_isRight ((z + 1) + 1)) rfl rfl trivial ?_)
              refine zv_iff (by decide) ?_
              iterate 2 (refine zv_step (bX7_isRight ((z + 1) + 1)) rfl rfl trivial ?_)
              exact zv_iret (bX7_isRight ((z + 1) + 1)) rfl (Or.inr ⟨rfl, Or.inr rfl⟩) (Nat.zero_le _) (Nat.zero_le _) ⟨rfl, Or.inl rfl⟩
            · skip
              iterate 1 (refine zv_step (bX7_isRight ((z + 1) + 1)) rfl rfl trivial ?_)
              refine zv_ift (by decide) ?_
              iterate 1 (refine zv_step (bX7_isRight ((z + 1) + 1)) rfl rfl trivial ?_)
              exact zv_iret (bX7_isRight ((z + 1) + 1)) rfl (Or.inr ⟨rfl, Or.inl rfl⟩) (Nat.zero_le _) (Nat.zero_le _) ⟨rfl, Or.inr rfl⟩
          · skip
            iterate 1 (refine zv_step (bX7_isRight ((z + 1) + 1)) rfl rfl trivial ?_)
            refine zv_ift (by decide) ?_
            iterate 1 (refine zv_step (bX7_isRight ((z + 1) + 1)) rfl rfl trivial ?_)
            exact zv_iret (bX7_isRight ((z + 1) + 1)) rfl (Or.inr ⟨rfl, Or.inl rfl⟩) (Nat.zero_le _) (Nat.zero_le _) ⟨rfl, Or.inr rfl⟩
/-- what areAlike answers -/
def alk (A : Nat → Nat → Int32) : Nat → Int32 → Int32 → Prop
  | 0, a, b => a = m2 ∧ b = m2
  | z + 1, a, b => (a = m2 ∧ b = m2) ∨ ∃ i j : Nat, i < 450 ∧ j < 450 ∧ a = nI i ∧ b = nI j ∧ A 0 i = A 0 j ∧ A 1 i = A 1 j ∧ A 4 i = A 4 j ∧ alk A z (A 2 i) (A 2 j) ∧ alk A z (A 3 i) (A 3 j)
theorem m2_nI {n : Nat} (h : n < 450) : ¬ m2 = nI n := fun e => absurd (e ▸ nI_pos' (show n < 2 ^ 31 by omega) : (0 : Int32) ≤ m2) (by decide)
theorem alk_mm (A : Nat → Nat → Int32) (z : Nat) : alk A z m2 m2 := by
  cases z with
  | zero => exact ⟨rfl, rfl⟩
  | succ z => exact Or.inl ⟨rfl, rfl⟩
theorem alk_mn (A : Nat → Nat → Int32) (z : Nat) {n : Nat} (h : n < 450) : ¬ alk A z m2 (nI n) := by
  cases z with
  | zero => exact fun q => m2_nI h q.2.symm
  | succ z =>
    rintro (q | ⟨i, j, hi, hj, e, _⟩)
    · exact m2_nI h q.2.symm
    · exact m2_nI hi e
theorem alk_nm (A : Nat → Nat → Int32) (z : Nat) {n : Nat} (h : n < 450) : ¬ alk A z (nI n) m2 := by
  cases z with
  | zero => exact fun q => m2_nI h q.1.symm
  | succ z =>
    rintro (q | ⟨i, j, hi, hj, _, e, _⟩)
    · exact m2_nI h q.1.symm
    · exact m2_nI hj e
theorem alk_nn {A : Nat → Nat → Int32} {z n m : Nat} (h : n < 450) (hm : m < 450) : alk A (z + 1) (nI n) (nI m) ↔ (A 0 n = A 0 m ∧ A 1 n = A 1 m ∧ A 4 n = A 4 m ∧ alk A z (A 2 n) (A 2 m) ∧ alk A z (A 3 n) (A 3 m)) := by
  constructor
  · rintro (q | ⟨i, j, hi, hj, ei, ej, q⟩)
    · exact absurd q.1.symm (m2_nI h)
    · rw [nI_eq (by omega) (by omega)] at ei ej
      subst ei ej
      exact q
  · exact fun q => Or.inr ⟨n, m, h, hm, rfl, rfl, q⟩
set_option maxHeartbeats 1000000 in
set_option maxRecDepth 20000 in
theorem mAlike (f : Nat → zC) (o : Nat → Int32) (A : Nat → Nat → Int32) (J : Nat → Nat → Int64) {lo hi : Nat} (hh : hi ≤ 450) (hT : tbI lo hi A) : ∀ (z : Nat) (a b : Int32), pt lo hi A z a → pt lo hi A 40 b → zK (z + 1) zX7_areAlike [.ref 76, .int a, .int b] (wR f o A J) (fun r w' => w' = (wR f o A J) ∧ ((alk A z a b ∧ r = some (.int 1)) ∨ (¬ alk A z a b ∧ r = some (.int 0)))) := by
  intro z
  induction z with
  | zero =>
    intro a b ha hb
    obtain rfl := pt_zero hT ha
    rcases hb with rfl | ⟨m, rfl, hlo2, hm, hz2⟩
    · refine zK_of qX7_areAlike (by decide +kernel) rfl ?_
      iterate 2 (refine zv_step (bX7_areAlike (0 + 1)) rfl rfl trivial ?_)
      refine zv_ift (by decide) ?_
      iterate 2 (refine zv_step (bX7_areAlike (0 + 1)) rfl rfl trivial ?_)
      refine zv_iff (by decide) ?_
      iterate 2 (refine zv_step (bX7_areAlike (0 + 1)) rfl rfl trivial ?_)
      refine zv_iff (by decide) ?_
      iterate 2 (refine zv_step (bX7_areAlike (0 + 1)) rfl rfl trivial ?_)
      exact zv_iret (bX7_areAlike (0 + 1)) rfl (Or.inr ⟨rfl, Or.inr rfl⟩) (Nat.zero_le _) (Nat.zero_le _) ⟨rfl, Or.inl ⟨alk_mm A _, rfl⟩⟩
    · refine zK_of qX7_areAlike (by decide +kernel) rfl ?_
      iterate 2 (refine zv_step (bX7_areAlike (0 + 1)) rfl rfl trivial ?_)
      refine zv_ift (by decide) ?_
      iterate 2 (refine zv_step (bX7_areAlike (0 + 1)) rfl rfl trivial ?_)
      refine zv_iff (by decide) ?_
      iterate 2 (refine zv_step (bX7_areAlike (0 + 1)) rfl rfl trivial ?_)
      refine zv_ift (nI_pos' (by omega)) ?_
      iterate 1 (refine zv_step (bX7_areAlike (0 + 1)) rfl rfl trivial ?_)
      exact zv_iret (bX7_areAlike (0 + 1)) rfl (Or.inr ⟨rfl, Or.inl rfl⟩) (Nat.zero_le _) (Nat.zero_le _) ⟨rfl, Or.inr ⟨alk_mn A _ (by omega), rfl⟩⟩
  | succ z ih =>
    intro a b ha hb
    rcases ha with rfl | ⟨n, rfl, hlo, hn, hz⟩
    · rcases hb with rfl | ⟨m, rfl, hlo2, hm, hz2⟩
      · refine zK_of qX7_areAlike (by decide +kernel) rfl ?_
        iterate 2 (refine zv_step (bX7_areAlike (z + 1 + 1)) rfl rfl trivial ?_)
        refine zv_ift (by decide) ?_
        iterate 2 (refine zv_step (bX7_areAlike (z + 1 + 1)) rfl rfl trivial ?_)
        refine zv_iff (by decide) ?_
        iterate 2 (refine zv_step (bX7_areAlike (z + 1 + 1)) rfl rfl trivial ?_)
        refine zv_iff (by decide) ?_
        iterate 2 (refine zv_step (bX7_areAlike (z + 1 + 1)) rfl rfl trivial ?_)
        exact zv_iret (bX7_areAlike (z + 1 + 1)) rfl (Or.inr ⟨rfl, Or.inr rfl⟩) (Nat.zero_le _) (Nat.zero_le _) ⟨rfl, Or.inl ⟨alk_mm A _, rfl⟩⟩
      · refine zK_of qX7_areAlike (by decide +kernel) rfl ?_
        iterate 2 (refine zv_step (bX7_areAlike (z + 1 + 1)) rfl rfl trivial ?_)
        refine zv_ift (by decide) ?_
        iterate 2 (refine zv_step (bX7_areAlike (z + 1 + 1)) rfl rfl trivial ?_)
        refine zv_iff (by decide) ?_
        iterate 2 (refine zv_step (bX7_areAlike (z + 1 + 1)) rfl rfl trivial ?_)
        refine zv_ift (nI_pos' (by omega)) ?_
        iterate 1 (refine zv_step (bX7_areAlike (z + 1 + 1)) rfl rfl trivial ?_)
        exact zv_iret (bX7_areAlike (z + 1 + 1)) rfl (Or.inr ⟨rfl, Or.inl rfl⟩) (Nat.zero_le _) (Nat.zero_le _) ⟨rfl, Or.inr ⟨alk_mn A _ (by omega), rfl⟩⟩
    · obtain ⟨hp2, hp3⟩ := rN_parts hT hlo hn hz
      rcases hb with rfl | ⟨m, rfl, hlo2, hm, hz2⟩
      · refine zK_of qX7_areAlike (by decide +kernel) rfl ?_
        iterate 2 (refine zv_step (bX7_areAlike (z + 1 + 1)) rfl rfl trivial ?_)
        refine zv_iff (nI_pos (by omega)) ?_
        iterate 2 (refine zv_step (bX7_areAlike (z + 1 + 1)) rfl rfl trivial ?_)
        refine zv_iff (by decide) ?_
        iterate 2 (refine zv_step (bX7_areAlike (z + 1 + 1)) rfl rfl trivial ?_)
        refine zv_ift (nI_pos' (by omega)) ?_
        iterate 1 (refine zv_step (bX7_areAlike (z + 1 + 1)) rfl rfl trivial ?_)
        exact zv_iret (bX7_areAlike (z + 1 + 1)) rfl (Or.inr ⟨rfl, Or.inl rfl⟩) (Nat.zero_le _) (Nat.zero_le _) ⟨rfl, Or.inr ⟨alk_nm A _ (by omega), rfl⟩⟩
      · obtain ⟨hq2, hq3⟩ := rN_parts (z := 40) hT hlo2 hm (by omega)
        refine zK_of qX7_areAlike (by decide +kernel) rfl ?_
        iterate 2 (refine zv_step (bX7_areAlike (z + 1 + 1)) rfl rfl trivial ?_)
        refine zv_iff (nI_pos (by omega)) ?_
        iterate 2 (refine zv_step (bX7_areAlike (z + 1 + 1)) rfl rfl trivial ?_)
        refine zv_ift (nI_pos' (by omega)) ?_
        iterate 3 (refine zv_step (bX7_areAlike (z + 1 + 1)) rfl rfl trivial ?_)
        refine zv_iale (bX7_areAlike (z + 1 + 1)) rfl rfl (vp_in_nI (by omega) (by decide)) (show A 0 (nI n).toNatClampNeg = A 0 n by rw [nI_clamp (by omega)]) ?_
        iterate 3 (refine zv_step (bX7_areAlike (z + 1 + 1)) rfl rfl trivial ?_)
        refine zv_iale (bX7_areAlike (z + 1 + 1)) rfl rfl (vp_in_nI (by omega) (by decide)) (show A 0 (nI m).toNatClampNeg = A 0 m by rw [nI_clamp (by omega)]) ?_
        iterate 1 (refine zv_step (bX7_areAlike (z + 1 + 1)) rfl rfl trivial ?_)
        refine zv_ifb (fun h34 => ?_) (fun h34 => ?_)
        · iterate 1 (refine zv_step (bX7_areAlike (z + 1 + 1)) rfl rfl trivial ?_)
          exact zv_iret (bX7_areAlike (z + 1 + 1)) rfl (Or.inr ⟨rfl, Or.inl rfl⟩) (Nat.zero_le _) (Nat.zero_le _) ⟨rfl, Or.inr ⟨fun q => (fun t => h34 t.1) ((alk_nn (by omega) (by omega)).mp q), rfl⟩⟩
        · iterate 3 (refine zv_step (bX7_areAlike (z + 1 + 1)) rfl rfl trivial ?_)
          refine zv_iale (bX7_areAlike (z + 1 + 1)) rfl rfl (vp_in_nI (by omega) (by decide)) (show A 1 (nI n).toNatClampNeg = A 1 n by rw [nI_clamp (by omega)]) ?_
          iterate 3 (refine zv_step (bX7_areAlike (z + 1 + 1)) rfl rfl trivial ?_)
          refine zv_iale (bX7_areAlike (z + 1 + 1)) rfl rfl (vp_in_nI (by omega) (by decide)) (show A 1 (nI m).toNatClampNeg = A 1 m by rw [nI_clamp (by omega)]) ?_
          iterate 1 (refine zv_step (bX7_areAlike (z + 1 + 1)) rfl rfl trivial ?_)
          refine zv_ifb (fun h49 => ?_) (fun h49 => ?_)
          · iterate 1 (refine zv_step (bX7_areAlike (z + 1 + 1)) rfl rfl trivial ?_)
            exact zv_iret (bX7_areAlike (z + 1 + 1)) rfl (Or.inr ⟨rfl, Or.inl rfl⟩) (Nat.zero_le _) (Nat.zero_le _) ⟨rfl, Or.inr ⟨fun q => (fun t => h49 t.2.1) ((alk_nn (by omega) (by omega)).mp q), rfl⟩⟩
          · iterate 3 (refine zv_step (bX7_areAlike (z + 1 + 1)) rfl rfl trivial ?_)
            refine zv_iale (bX7_areAlike (z + 1 + 1)) rfl rfl (vp_in_nI (by omega) (by decide)) (show A 4 (nI n).toNatClampNeg = A 4 n by rw [nI_clamp (by omega)]) ?_
            iterate 3 (refine zv_step (bX7_areAlike (z + 1 + 1)) rfl rfl trivial ?_)
            refine zv_iale (bX7_areAlike (z + 1 + 1)) rfl rfl (vp_in_nI (by omega) (by decide)) (show A 4 (nI m).toNatClampNeg = A 4 m by rw [nI_clamp (by omega)]) ?_
            iterate 1 (refine zv_step (bX7_areAlike (z + 1 + 1)) rfl rfl trivial ?_)
            refine zv_ifb (fun h64 => ?_) (fun h64 => ?_)
            · iterate 1 (refine zv_step (bX7_areAlike (z + 1 + 1)) rfl rfl trivial ?_)
              exact zv_iret (bX7_areAlike (z + 1 + 1)) rfl (Or.inr ⟨rfl, Or.inl rfl⟩) (Nat.zero_le _) (Nat.zero_le _) ⟨rfl, Or.inr ⟨fun q => (fun t => h64 t.2.2.1) ((alk_nn (by omega) (by omega)).mp q), rfl⟩⟩
            · iterate 4 (refine zv_step (bX7_areAlike (z + 1 + 1)) rfl rfl trivial ?_)
              refine zv_iale (bX7_areAlike (z + 1 + 1)) rfl rfl (vp_in_nI (by omega) (by decide)) (show A 2 (nI n).toNatClampNeg = A 2 n by rw [nI_clamp (by omega)]) ?_
              iterate 3 (refine zv_step (bX7_areAlike (z + 1 + 1)) rfl rfl trivial ?_)
              refine zv_iale (bX7_areAlike (z + 1 + 1)) rfl rfl (vp_in_nI (by omega) (by decide)) (show A 2 (nI m).toNatClampNeg = A 2 m by rw [nI_clamp (by omega)]) ?_
              refine zv_V2 (bX7_areAlike (z + 1 + 1)) rfl rfl rfl rfl rfl rfl rfl ⟨rfl, rfl, rfl⟩ ⟨by show z + 1 + 1 ≤ z + 1 + 1; omega, by show 8 + (3 + 11) + 64 * (z + 1) ≤ 64 * (z + 1 + 1); omega⟩ ⟨Nat.zero_le _, Nat.zero_le _⟩ (ih _ _ hp2 hq2) ?_
              rintro _ _ ⟨rfl, ⟨g1, rfl⟩ | ⟨g1, rfl⟩⟩
              · skip
                iterate 1 (refine zv_step (bX7_areAlike (z + 1 + 1)) rfl rfl trivial ?_)
                refine zv_iff (by decide) ?_
                iterate 4 (refine zv_step (bX7_areAlike (z + 1 + 1)) rfl rfl trivial ?_)
                refine zv_iale (bX7_areAlike (z + 1 + 1)) rfl rfl (vp_in_nI (by omega) (by decide)) (show A 3 (nI n).toNatClampNeg = A 3 n by rw [nI_clamp (by omega)]) ?_
                iterate 3 (refine zv_step (bX7_areAlike (z + 1 + 1)) rfl rfl trivial ?_)
                refine zv_iale (bX7_areAlike (z + 1 + 1)) rfl rfl (vp_in_nI (by omega) (by decide)) (show A 3 (nI m).toNatClampNeg = A 3 m by rw [nI_clamp (by omega)]) ?_
                refine zv_V2 (bX7_areAlike (z + 1 + 1)) rfl rfl rfl rfl rfl rfl rfl ⟨rfl, rfl, rfl⟩ ⟨by show z + 1 + 1 ≤ z + 1 + 1; omega, by show 8 + (3 + 11) + 64 * (z + 1) ≤ 64 * (z + 1 + 1); omega⟩ ⟨Nat.zero_le _, Nat.zero_le _⟩ (ih _ _ hp3 hq3) ?_
                rintro _ _ ⟨rfl, ⟨g2, rfl⟩ | ⟨g2, rfl⟩⟩
                · skip
                  iterate 1 (refine zv_step (bX7_areAlike (z + 1 + 1)) rfl rfl trivial ?_)
                  refine zv_iff (by decide) ?_
                  iterate 2 (refine zv_step (bX7_areAlike (z + 1 + 1)) rfl rfl trivial ?_)
                  exact zv_iret (bX7_areAlike (z + 1 + 1)) rfl (Or.inr ⟨rfl, Or.inr rfl⟩) (Nat.zero_le _) (Nat.zero_le _) ⟨rfl, Or.inl ⟨(alk_nn (by omega) (by omega)).mpr ⟨Decidable.not_not.mp h34, Decidable.not_not.mp h49, Decidable.not_not.mp h64, g1, g2⟩, rfl⟩⟩
                · skip
                  iterate 1 (refine zv_step (bX7_areAlike (z + 1 + 1)) rfl rfl trivial ?_)
                  refine zv_ift (by decide) ?_
                  iterate 1 (refine zv_step (bX7_areAlike (z + 1 + 1)) rfl rfl trivial ?_)
                  exact zv_iret (bX7_areAlike (z + 1 + 1)) rfl (Or.inr ⟨rfl, Or.inl rfl⟩) (Nat.zero_le _) (Nat.zero_le _) ⟨rfl, Or.inr ⟨fun q => (fun t => g2 t.2.2.2.2) ((alk_nn (by omega) (by omega)).mp q), rfl⟩⟩
              · skip
                iterate 1 (refine zv_step (bX7_areAlike (z + 1 + 1)) rfl rfl trivial ?_)
                refine zv_ift (by decide) ?_
                iterate 1 (refine zv_step (bX7_areAlike (z + 1 + 1)) rfl rfl trivial ?_)
                exact zv_iret (bX7_areAlike (z + 1 + 1)) rfl (Or.inr ⟨rfl, Or.inl rfl⟩) (Nat.zero_le _) (Nat.zero_le _) ⟨rfl, Or.inr ⟨fun q => (fun t => g1 t.2.2.2.1) ((alk_nn (by omega) (by omega)).mp q), rfl⟩⟩
def dgN (v : Int32) : Nat := if v < c8 10 then 1 else if v < c8 100 then 2 else if v < (Int16.ofInt 1000).toInt32 then 3 else 4
theorem dgN_le (v : Int32) : 1 ≤ dgN v ∧ dgN v ≤ 4 := by
  unfold dgN
  repeat' split
  all_goals decide
theorem nlt_of {a b : Int32} (h : b ≤ a) : ¬ a < b := Int32.not_lt.mpr h
theorem lt_of_n {a b : Int32} (h : ¬ b ≤ a) : a < b := Int32.not_le.mp h
set_option maxHeartbeats 1000000 in
set_option maxRecDepth 20000 in
theorem mDigits (w : zW) (x : Int32) : zK 0 zX7_digits [.int x] w (fun r w' => w' = w ∧ r = some (.int (nI (dgN x)))) := by
  refine zK_of qX7_digits (by decide +kernel) rfl ?_
  iterate 3 (refine zv_step (bX7_digits 0) rfl rfl trivial ?_)
  refine zv_ifb (fun h3 => ?_) (fun h3 => ?_)
  · have k3 := nlt_of h3
    iterate 3 (refine zv_step (bX7_digits 0) rfl rfl trivial ?_)
    refine zv_ifb (fun h13 => ?_) (fun h13 => ?_)
    · have k13 := nlt_of h13
      iterate 3 (refine zv_step (bX7_digits 0) rfl rfl trivial ?_)
      refine zv_ifb (fun h24 => ?_) (fun h24 => ?_)
      · have k24 := nlt_of h24
        iterate 1 (refine zv_step (bX7_digits 0) rfl rfl trivial ?_)
        exact zv_iret (bX7_digits 0) rfl (Or.inl rfl) (Nat.zero_le _) (Nat.zero_le _) ⟨rfl, by unfold dgN; rw [if_neg k3, if_neg k13, if_neg k24]; rfl⟩
      · have k24 := lt_of_n h24
        iterate 2 (refine zv_step (bX7_digits 0) rfl rfl trivial ?_)
        exact zv_iret (bX7_digits 0) rfl (Or.inl rfl) (Nat.zero_le _) (Nat.zero_le _) ⟨rfl, by unfold dgN; rw [if_neg k3, if_neg k13, if_pos k24]; rfl⟩
    · have k13 := lt_of_n h13
      iterate 2 (refine zv_step (bX7_digits 0) rfl rfl trivial ?_)
      exact zv_iret (bX7_digits 0) rfl (Or.inl rfl) (Nat.zero_le _) (Nat.zero_le _) ⟨rfl, by unfold dgN; rw [if_neg k3, if_pos k13]; rfl⟩
  · have k3 := lt_of_n h3
    iterate 2 (refine zv_step (bX7_digits 0) rfl rfl trivial ?_)
    exact zv_iret (bX7_digits 0) rfl (Or.inl rfl) (Nat.zero_le _) (Nat.zero_le _) ⟨rfl, by unfold dgN; rw [if_pos k3]; rfl⟩
def ownW (A : Nat → Nat → Int32) (n : Nat) : Nat := if A 0 n = Int32.ofInt 1 then dgN (A 1 n) else if A 0 n = c8 8 ∨ A 0 n = c8 9 then 2 else 1
theorem ownW_le (A : Nat → Nat → Int32) (n : Nat) : 1 ≤ ownW A n ∧ ownW A n ≤ 4 := by
  unfold ownW
  split
  · exact dgN_le _
  · split <;> decide
set_option maxHeartbeats 1000000 in
set_option maxRecDepth 20000 in
theorem mOwn (f : Nat → zC) (o : Nat → Int32) (A : Nat → Nat → Int32) (J : Nat → Nat → Int64) {n : Nat} (hn : n < 450) : zK 1 zX7_own [.ref 76, .int (nI n)] (wR f o A J) (fun r w' => w' = (wR f o A J) ∧ r = some (.int (nI (ownW A n)))) := by
  have e1 : (nI n).toNatClampNeg = n := nI_clamp (by omega)
  have hv : vp_in (nI n) 450 := vp_in_nI (by omega) (by decide)
  refine zK_of qX7_own (by decide +kernel) rfl ?_
  iterate 3 (refine zv_step (bX7_own 1) rfl rfl trivial ?_)
  refine zv_iale (bX7_own 1) rfl rfl hv (show A 0 (nI n).toNatClampNeg = A 0 n by rw [e1]) ?_
  iterate 2 (refine zv_step (bX7_own 1) rfl rfl trivial ?_)
  refine zv_ifb (fun h7 => ?_) (fun h7 => ?_)
  · iterate 3 (refine zv_step (bX7_own 1) rfl rfl trivial ?_)
    refine zv_iale (bX7_own 1) rfl rfl hv (show A 0 (nI n).toNatClampNeg = A 0 n by rw [e1]) ?_
    iterate 2 (refine zv_step (bX7_own 1) rfl rfl trivial ?_)
    refine zv_ifb (fun h30 => ?_) (fun h30 => ?_)
    · iterate 2 (refine zv_step (bX7_own 1) rfl rfl trivial ?_)
      exact zv_iret (bX7_own 1) rfl (Or.inl rfl) (Nat.zero_le _) (Nat.zero_le _) ⟨rfl, by unfold ownW; rw [if_neg h7, if_pos (Or.inl h30)]; rfl⟩
    · iterate 3 (refine zv_step (bX7_own 1) rfl rfl trivial ?_)
      refine zv_iale (bX7_own 1) rfl rfl hv (show A 0 (nI n).toNatClampNeg = A 0 n by rw [e1]) ?_
      iterate 2 (refine zv_step (bX7_own 1) rfl rfl trivial ?_)
      refine zv_ifb (fun h41 => ?_) (fun h41 => ?_)
      · iterate 1 (refine zv_step (bX7_own 1) rfl rfl trivial ?_)
        exact zv_iret (bX7_own 1) rfl (Or.inl rfl) (Nat.zero_le _) (Nat.zero_le _) ⟨rfl, by unfold ownW; rw [if_neg h7, if_neg (fun q => q.elim h30 h41)]; rfl⟩
      · iterate 2 (refine zv_step (bX7_own 1) rfl rfl trivial ?_)
        exact zv_iret (bX7_own 1) rfl (Or.inl rfl) (Nat.zero_le _) (Nat.zero_le _) ⟨rfl, by unfold ownW; rw [if_neg h7, if_pos (Or.inr (Decidable.not_not.mp h41))]; rfl⟩
  · iterate 3 (refine zv_step (bX7_own 1) rfl rfl trivial ?_)
    refine zv_iale (bX7_own 1) rfl rfl hv (show A 1 (nI n).toNatClampNeg = A 1 n by rw [e1]) ?_
    refine zv_S1 (bX7_own 1) rfl rfl rfl rfl ⟨rfl, rfl, rfl⟩ ⟨by decide, by decide⟩ ⟨Nat.zero_le _, Nat.zero_le _⟩ (mDigits _ _) ?_
    rintro _ _ ⟨rfl, rfl⟩
    iterate 1 (refine zv_step (bX7_own 1) rfl rfl trivial ?_)
    exact zv_iret (bX7_own 1) rfl (Or.inl rfl) (Nat.zero_le _) (Nat.zero_le _) ⟨rfl, by unfold ownW; rw [if_pos (Decidable.not_not.mp h7)]⟩
/-- what length answers -/
noncomputable def lnW (A : Nat → Nat → Int32) (s : Nat) : Nat → Int32 → Nat
  | 0, _ => 0
  | z + 1, x => if x < 0 then 0 else ownW A x.toNatClampNeg + (if A 7 (10 * s + (A 0 x.toNatClampNeg).toNatClampNeg) = 0 then 0 else 2) + lnW A s z (A 2 x.toNatClampNeg) + lnW A s z (A 3 x.toNatClampNeg)
theorem lnW_m2 (A : Nat → Nat → Int32) (s z : Nat) : lnW A s z m2 = 0 := by
  cases z with
  | zero => rfl
  | succ z => exact if_pos (by decide)
theorem lnW_nI {A : Nat → Nat → Int32} {s z n k : Nat} (hn : n < 450) (hk : k < 10) (h0 : A 0 n = nI k) : lnW A s (z + 1) (nI n) = ownW A n + (if A 7 (10 * s + k) = 0 then 0 else 2) + lnW A s z (A 2 n) + lnW A s z (A 3 n) := by
  show (if nI n < 0 then 0 else _) = _
  rw [if_neg (nI_pos (by omega)), nI_clamp (by omega), h0, nI_clamp (by omega)]
theorem lnW_le {lo hi : Nat} {A : Nat → Nat → Int32} (hh : hi ≤ 450) (hT : tbI lo hi A) (s : Nat) : ∀ (z : Nat) (x : Int32), pt lo hi A z x → lnW A s z x ≤ 6 * (if x < 0 then 0 else szN A x.toNatClampNeg) := by
  intro z
  induction z with
  | zero => exact fun x _ => Nat.zero_le _
  | succ z ih =>
    intro x hx
    rcases hx with rfl | ⟨n, rfl, hlo, hn, hz⟩
    · rw [lnW_m2]
      exact Nat.zero_le _
    · obtain ⟨k, hk, h0⟩ := rN_kd (hT n hlo hn)
      obtain ⟨hp2, hp3⟩ := rN_parts hT hlo hn hz
      have i2 := ih _ hp2
      have i3 := ih _ hp3
      rw [lnW_nI (by omega) hk h0, if_neg (nI_pos (by omega)), nI_clamp (by omega)]
      have ho := (ownW_le A n).2
      have hc : (if A 7 (10 * s + k) = 0 then 0 else 2) ≤ 2 := by split <;> decide
      obtain ⟨k, y, _, _, h4, hy, hs, _⟩ := hT n hlo hn
      rw [szN_of h4 hy]
      rcases hs with ⟨_, h2, h3, e⟩ | ⟨_, _, a, b, h2, la, ha, h3, lb, hb, e⟩ | ⟨_, a, h2, la, ha, h3, e⟩
      · rw [h2, if_pos (by decide)] at i2
        rw [h3, if_pos (by decide)] at i3
        rw [h2, h3]
        omega
      · rw [h2, if_neg (nI_pos (by omega)), nI_clamp (by omega)] at i2
        rw [h3, if_neg (nI_pos (by omega)), nI_clamp (by omega)] at i3
        rw [h2, h3]
        omega
      · rw [h2, if_neg (nI_pos (by omega)), nI_clamp (by omega)] at i2
        rw [h3, if_pos (by decide)] at i3
        rw [h2, h3]
        omega
theorem nI4 (a b c d : Nat) : nI a + nI b + nI c + nI d = nI (a + b + c + d) := by rw [nI_add, nI_add, nI_add]
theorem ix10 {s k : Nat} : c8 10 * nI s + nI k = nI (10 * s + k) := by
  show Int32.ofNat 10 * Int32.ofNat s + Int32.ofNat k = _
  rw [← Int32.ofNat_mul, ← Int32.ofNat_add]
  rfl
set_option maxHeartbeats 1000000 in
set_option maxRecDepth 20000 in
theorem mLength (f : Nat → zC) (o : Nat → Int32) (A : Nat → Nat → Int32) (J : Nat → Nat → Int64) {lo hi : Nat} (hh : hi ≤ 450) (hT : tbI lo hi A) {s : Nat} (hs : s < 8) : ∀ (z : Nat) (x : Int32), pt lo hi A z x → zK (z + 2) zX7_length [.ref 76, .int (nI s), .int x] (wR f o A J) (fun r w' => w' = (wR f o A J) ∧ r = some (.int (nI (lnW A s z x)))) := by
  intro z
  induction z with
  | zero =>
    intro x hx
    obtain rfl := pt_zero hT hx
    refine zK_of qX7_length (by decide +kernel) rfl ?_
    iterate 2 (refine zv_step (bX7_length (0 + 2)) rfl rfl trivial ?_)
    refine zv_iff (by decide) ?_
    iterate 1 (refine zv_step (bX7_length (0 + 2)) rfl rfl trivial ?_)
    exact zv_iret (bX7_length (0 + 2)) rfl (Or.inl rfl) (Nat.zero_le _) (Nat.zero_le _) ⟨rfl, by rw [lnW_m2]; rfl⟩
  | succ z ih =>
    intro x hx
    rcases hx with rfl | ⟨n, rfl, hlo, hn, hz⟩
    · refine zK_of qX7_length (by decide +kernel) rfl ?_
      iterate 2 (refine zv_step (bX7_length ((z + 1) + 2)) rfl rfl trivial ?_)
      refine zv_iff (by decide) ?_
      iterate 1 (refine zv_step (bX7_length ((z + 1) + 2)) rfl rfl trivial ?_)
      exact zv_iret (bX7_length ((z + 1) + 2)) rfl (Or.inl rfl) (Nat.zero_le _) (Nat.zero_le _) ⟨rfl, by rw [lnW_m2]; rfl⟩
    · have hN := hT n hlo hn
      have e1 : (nI n).toNatClampNeg = n := nI_clamp (by omega)
      have hv : vp_in (nI n) 450 := vp_in_nI (by omega) (by decide)
      obtain ⟨hp2, hp3⟩ := rN_parts hT hlo hn hz
      obtain ⟨kd, hkd, h0⟩ := rN_kd hN
      refine zK_of qX7_length (by decide +kernel) rfl ?_
      iterate 2 (refine zv_step (bX7_length ((z + 1) + 2)) rfl rfl trivial ?_)
      refine zv_ift (nI_pos' (by omega)) ?_
      iterate 2 (refine zv_step (bX7_length ((z + 1) + 2)) rfl rfl trivial ?_)
      refine zv_V1 (bX7_length ((z + 1) + 2)) rfl rfl rfl rfl rfl rfl rfl ⟨rfl, rfl, rfl⟩ ⟨by show 1 + 1 ≤ z + 1 + 2; omega, by show 8 + (2 + 11) + 64 * (1) ≤ 64 * (z + 1 + 2); omega⟩ ⟨Nat.zero_le _, Nat.zero_le _⟩ (mOwn f o A J (by omega)) ?_
      rintro _ _ ⟨rfl, rfl⟩
      iterate 8 (refine zv_step (bX7_length ((z + 1) + 2)) rfl rfl trivial ?_)
      refine zv_iale (bX7_length ((z + 1) + 2)) rfl rfl hv (show A 0 (nI n).toNatClampNeg = A 0 n by rw [e1]) ?_
      iterate 1 (refine zv_step (bX7_length ((z + 1) + 2)) rfl rfl trivial ?_)
      refine zv_zale (bX7_length ((z + 1) + 2)) rfl rfl (show vp_in (c8 10 * nI s + A 0 n) 90 by rw [h0, ix10]; exact vp_in_nI (by omega) (by decide)) (show A 7 (c8 10 * nI s + A 0 n).toNatClampNeg = A 7 (10 * s + kd) by rw [h0, ix10, nI_clamp (by omega)]) ?_
      iterate 1 (refine zv_step (bX7_length ((z + 1) + 2)) rfl rfl trivial ?_)
      refine zv_ifb (fun h27 => ?_) (fun h27 => ?_)
      · iterate 7 (refine zv_step (bX7_length ((z + 1) + 2)) rfl rfl trivial ?_)
        refine zv_iale (bX7_length ((z + 1) + 2)) rfl rfl hv (show A 2 (nI n).toNatClampNeg = A 2 n by rw [e1]) ?_
        refine zv_V2 (bX7_length ((z + 1) + 2)) rfl rfl rfl rfl rfl rfl rfl ⟨rfl, rfl, rfl⟩ ⟨by show z + 2 + 1 ≤ z + 1 + 2; omega, by show 8 + (3 + 11) + 64 * (z + 2) ≤ 64 * (z + 1 + 2); omega⟩ ⟨Nat.zero_le _, Nat.zero_le _⟩ (ih _ hp2) ?_
        rintro _ _ ⟨rfl, rfl⟩
        iterate 6 (refine zv_step (bX7_length ((z + 1) + 2)) rfl rfl trivial ?_)
        refine zv_iale (bX7_length ((z + 1) + 2)) rfl rfl hv (show A 3 (nI n).toNatClampNeg = A 3 n by rw [e1]) ?_
        refine zv_V2 (bX7_length ((z + 1) + 2)) rfl rfl rfl rfl rfl rfl rfl ⟨rfl, rfl, rfl⟩ ⟨by show z + 2 + 1 ≤ z + 1 + 2; omega, by show 8 + (3 + 11) + 64 * (z + 2) ≤ 64 * (z + 1 + 2); omega⟩ ⟨Nat.zero_le _, Nat.zero_le _⟩ (ih _ hp3) ?_
        rintro _ _ ⟨rfl, rfl⟩
        iterate 1 (refine zv_step (bX7_length ((z + 1) + 2)) rfl rfl trivial ?_)
        exact zv_iret (bX7_length ((z + 1) + 2)) rfl (Or.inl rfl) (Nat.zero_le _) (Nat.zero_le _) ⟨rfl, by rw [lnW_nI (by omega) hkd h0, if_pos h27]; exact congrArg (fun v => some (Value.int v)) (nI4 _ _ _ _)⟩
      · iterate 8 (refine zv_step (bX7_length ((z + 1) + 2)) rfl rfl trivial ?_)
        refine zv_iale (bX7_length ((z + 1) + 2)) rfl rfl hv (show A 2 (nI n).toNatClampNeg = A 2 n by rw [e1]) ?_
        refine zv_V2 (bX7_length ((z + 1) + 2)) rfl rfl rfl rfl rfl rfl rfl ⟨rfl, rfl, rfl⟩ ⟨by show z + 2 + 1 ≤ z + 1 + 2; omega, by show 8 + (3 + 11) + 64 * (z + 2) ≤ 64 * (z + 1 + 2); omega⟩ ⟨Nat.zero_le _, Nat.zero_le _⟩ (ih _ hp2) ?_
        rintro _ _ ⟨rfl, rfl⟩
        iterate 6 (refine zv_step (bX7_length ((z + 1) + 2)) rfl rfl trivial ?_)
        refine zv_iale (bX7_length ((z + 1) + 2)) rfl rfl hv (show A 3 (nI n).toNatClampNeg = A 3 n by rw [e1]) ?_
        refine zv_V2 (bX7_length ((z + 1) + 2)) rfl rfl rfl rfl rfl rfl rfl ⟨rfl, rfl, rfl⟩ ⟨by show z + 2 + 1 ≤ z + 1 + 2; omega, by show 8 + (3 + 11) + 64 * (z + 2) ≤ 64 * (z + 1 + 2); omega⟩ ⟨Nat.zero_le _, Nat.zero_le _⟩ (ih _ hp3) ?_
        rintro _ _ ⟨rfl, rfl⟩
        iterate 1 (refine zv_step (bX7_length ((z + 1) + 2)) rfl rfl trivial ?_)
        exact zv_iret (bX7_length ((z + 1) + 2)) rfl (Or.inl rfl) (Nat.zero_le _) (Nat.zero_le _) ⟨rfl, by rw [lnW_nI (by omega) hkd h0, if_neg h27]; exact congrArg (fun v => some (Value.int v)) (nI4 _ _ _ _)⟩
set_option maxHeartbeats 1000000 in
set_option maxRecDepth 20000 in
theorem mGlanced (f : Nat → zC) (o : Nat → Int32) (A : Nat → Nat → Int32) (J : Nat → Nat → Int64) {lo hi : Nat} (hh : hi ≤ 450) (hT : tbI lo hi A) {s : Nat} (hs : s < 8) : ∀ (z : Nat) (x b : Int32), pt lo hi A z x → zK (z + 2) zX7_glanced [.ref 76, .int (nI s), .int x, .int b] (wR f o A J) (fun r w' => w' = (wR f o A J) ∧ ∃ v : Int32, r = some (.int v)) := by
  intro z
  induction z with
  | zero =>
    intro x b hx
    obtain rfl := pt_zero hT hx
    refine zK_of qX7_glanced (by decide +kernel) rfl ?_
    iterate 2 (refine zv_step (bX7_glanced (0 + 2)) rfl rfl trivial ?_)
    refine zv_iff (by decide) ?_
    iterate 1 (refine zv_step (bX7_glanced (0 + 2)) rfl rfl trivial ?_)
    exact zv_iret (bX7_glanced (0 + 2)) rfl (Or.inl rfl) (Nat.zero_le _) (Nat.zero_le _) ⟨rfl, _, rfl⟩
  | succ z ih =>
    intro x b hx
    rcases hx with rfl | ⟨n, rfl, hlo, hn, hz⟩
    · refine zK_of qX7_glanced (by decide +kernel) rfl ?_
      iterate 2 (refine zv_step (bX7_glanced ((z + 1) + 2)) rfl rfl trivial ?_)
      refine zv_iff (by decide) ?_
      iterate 1 (refine zv_step (bX7_glanced ((z + 1) + 2)) rfl rfl trivial ?_)
      exact zv_iret (bX7_glanced ((z + 1) + 2)) rfl (Or.inl rfl) (Nat.zero_le _) (Nat.zero_le _) ⟨rfl, _, rfl⟩
    · have hN := hT n hlo hn
      have e1 : (nI n).toNatClampNeg = n := nI_clamp (by omega)
      have hv : vp_in (nI n) 450 := vp_in_nI (by omega) (by decide)
      obtain ⟨hp2, hp3⟩ := rN_parts hT hlo hn hz
      obtain ⟨kd, hkd, h0⟩ := rN_kd hN
      refine zK_of qX7_glanced (by decide +kernel) rfl ?_
      iterate 2 (refine zv_step (bX7_glanced ((z + 1) + 2)) rfl rfl trivial ?_)
      refine zv_ift (nI_pos' (by omega)) ?_
      iterate 2 (refine zv_step (bX7_glanced ((z + 1) + 2)) rfl rfl trivial ?_)
      refine zv_ifb (fun h7 => ?_) (fun h7 => ?_)
      · iterate 2 (refine zv_step (bX7_glanced ((z + 1) + 2)) rfl rfl trivial ?_)
        refine zv_V1 (bX7_glanced ((z + 1) + 2)) rfl rfl rfl rfl rfl rfl rfl ⟨rfl, rfl, rfl⟩ ⟨by show 1 + 1 ≤ z + 1 + 2; omega, by show 8 + (2 + 11) + 64 * (1) ≤ 64 * (z + 1 + 2); omega⟩ ⟨Nat.zero_le _, Nat.zero_le _⟩ (mOwn f o A J (by omega)) ?_
        rintro _ _ ⟨rfl, rfl⟩
        iterate 8 (refine zv_step (bX7_glanced ((z + 1) + 2)) rfl rfl trivial ?_)
        refine zv_iale (bX7_glanced ((z + 1) + 2)) rfl rfl hv (show A 0 (nI n).toNatClampNeg = A 0 n by rw [e1]) ?_
        iterate 1 (refine zv_step (bX7_glanced ((z + 1) + 2)) rfl rfl trivial ?_)
        refine zv_zale (bX7_glanced ((z + 1) + 2)) rfl rfl (show vp_in (c8 10 * nI s + A 0 n) 90 by rw [h0, ix10]; exact vp_in_nI (by omega) (by decide)) (show A 7 (c8 10 * nI s + A 0 n).toNatClampNeg = A 7 (10 * s + kd) by rw [h0, ix10, nI_clamp (by omega)]) ?_
        iterate 1 (refine zv_step (bX7_glanced ((z + 1) + 2)) rfl rfl trivial ?_)
        refine zv_ifb (fun h33 => ?_) (fun h33 => ?_)
        · iterate 7 (refine zv_step (bX7_glanced ((z + 1) + 2)) rfl rfl trivial ?_)
          refine zv_iale (bX7_glanced ((z + 1) + 2)) rfl rfl hv (show A 2 (nI n).toNatClampNeg = A 2 n by rw [e1]) ?_
          iterate 3 (refine zv_step (bX7_glanced ((z + 1) + 2)) rfl rfl trivial ?_)
          refine zv_V3 (bX7_glanced ((z + 1) + 2)) rfl rfl rfl rfl rfl rfl rfl ⟨rfl, rfl, rfl⟩ ⟨by show z + 2 + 1 ≤ z + 1 + 2; omega, by show 8 + (4 + 11) + 64 * (z + 2) ≤ 64 * (z + 1 + 2); omega⟩ ⟨Nat.zero_le _, Nat.zero_le _⟩ (ih _ _ hp2) ?_
          rintro _ _ ⟨rfl, m1, rfl⟩
          iterate 6 (refine zv_step (bX7_glanced ((z + 1) + 2)) rfl rfl trivial ?_)
          refine zv_iale (bX7_glanced ((z + 1) + 2)) rfl rfl hv (show A 3 (nI n).toNatClampNeg = A 3 n by rw [e1]) ?_
          iterate 3 (refine zv_step (bX7_glanced ((z + 1) + 2)) rfl rfl trivial ?_)
          refine zv_V3 (bX7_glanced ((z + 1) + 2)) rfl rfl rfl rfl rfl rfl rfl ⟨rfl, rfl, rfl⟩ ⟨by show z + 2 + 1 ≤ z + 1 + 2; omega, by show 8 + (4 + 11) + 64 * (z + 2) ≤ 64 * (z + 1 + 2); omega⟩ ⟨Nat.zero_le _, Nat.zero_le _⟩ (ih _ _ hp3) ?_
          rintro _ _ ⟨rfl, m3, rfl⟩
          iterate 1 (refine zv_step (bX7_glanced ((z + 1) + 2)) rfl rfl trivial ?_)
          exact zv_iret (bX7_glanced ((z + 1) + 2)) rfl (Or.inl rfl) (Nat.zero_le _) (Nat.zero_le _) ⟨rfl, _, rfl⟩
        · iterate 8 (refine zv_step (bX7_glanced ((z + 1) + 2)) rfl rfl trivial ?_)
          refine zv_iale (bX7_glanced ((z + 1) + 2)) rfl rfl hv (show A 2 (nI n).toNatClampNeg = A 2 n by rw [e1]) ?_
          iterate 3 (refine zv_step (bX7_glanced ((z + 1) + 2)) rfl rfl trivial ?_)
          refine zv_V3 (bX7_glanced ((z + 1) + 2)) rfl rfl rfl rfl rfl rfl rfl ⟨rfl, rfl, rfl⟩ ⟨by show z + 2 + 1 ≤ z + 1 + 2; omega, by show 8 + (4 + 11) + 64 * (z + 2) ≤ 64 * (z + 1 + 2); omega⟩ ⟨Nat.zero_le _, Nat.zero_le _⟩ (ih _ _ hp2) ?_
          rintro _ _ ⟨rfl, m1, rfl⟩
          iterate 6 (refine zv_step (bX7_glanced ((z + 1) + 2)) rfl rfl trivial ?_)
          refine zv_iale (bX7_glanced ((z + 1) + 2)) rfl rfl hv (show A 3 (nI n).toNatClampNeg = A 3 n by rw [e1]) ?_
          iterate 3 (refine zv_step (bX7_glanced ((z + 1) + 2)) rfl rfl trivial ?_)
          refine zv_V3 (bX7_glanced ((z + 1) + 2)) rfl rfl rfl rfl rfl rfl rfl ⟨rfl, rfl, rfl⟩ ⟨by show z + 2 + 1 ≤ z + 1 + 2; omega, by show 8 + (4 + 11) + 64 * (z + 2) ≤ 64 * (z + 1 + 2); omega⟩ ⟨Nat.zero_le _, Nat.zero_le _⟩ (ih _ _ hp3) ?_
          rintro _ _ ⟨rfl, m3, rfl⟩
          iterate 1 (refine zv_step (bX7_glanced ((z + 1) + 2)) rfl rfl trivial ?_)
          exact zv_iret (bX7_glanced ((z + 1) + 2)) rfl (Or.inl rfl) (Nat.zero_le _) (Nat.zero_le _) ⟨rfl, _, rfl⟩
      · iterate 1 (refine zv_step (bX7_glanced ((z + 1) + 2)) rfl rfl trivial ?_)
        exact zv_iret (bX7_glanced ((z + 1) + 2)) rfl (Or.inl rfl) (Nat.zero_le _) (Nat.zero_le _) ⟨rfl, _, rfl⟩
end
section
/-- the reference's world with q words said, m NODES asked, the words g -/
abbrev wZ (f : Nat → zC) (o : Nat → Int32) (A : Nat → Nat → Int32) (J : Nat → Nat → Int64) (q : Nat) (m : Int32) (g : Nat → Int32) : zW := wQ f (upd o 20 m) A J q g
theorem nI_dec (k : Nat) : nI (k + 1) + Int32.ofInt (-1) = nI k := by
  rw [nI_succ, Int32.add_assoc, show (1 : Int32) + Int32.ofInt (-1) = 0 from rfl, Int32.add_zero]
/-- all words so far are words -/
def nnW (q : Nat) (g : Nat → Int32) : Prop := ∀ i, i < q → ∃ e : Nat, e ≤ 31 ∧ g i = nI e
theorem nnW_s {q : Nat} {g : Nat → Int32} {v : Int32} (h : nnW q g) (hv : ∃ e : Nat, e ≤ 31 ∧ v = nI e) : nnW (q + 1) (upd g q v) := by
  intro i hi
  by_cases e : i = q
  · subst e
    rw [upd_self]
    exact hv
  · rw [upd_ne _ _ e]
    exact h i (by omega)
theorem nI_div {a b : Nat} (ha : a < 2 ^ 31) (hb : b < 2 ^ 31) (h0 : 0 < b) : nI a / nI b = nI (a / b) := by
  have hq : a / b ≤ a := Nat.div_le_self a b
  rw [← Int32.toInt_inj, nI_toInt (by omega), Int32.toInt_div, nI_toInt ha, nI_toInt hb, ← Int.ofNat_tdiv]
  generalize a / b = c at hq ⊢
  exact Int.bmod_eq_of_le (by omega) (by omega)
theorem nI_mul (a b : Nat) : nI a * nI b = nI (a * b) := (Int32.ofNat_mul a b).symm
theorem nI_sub {a b : Nat} (h : b ≤ a) : nI a - nI b = nI (a - b) := by
  have e : nI (a - b) + nI b = nI a := by rw [nI_add, Nat.sub_add_cancel h]
  rw [← e, Int32.add_sub_cancel]
theorem nI_rem {a : Nat} (ha : a < 2 ^ 31) : nI a - nI a / c8 10 * c8 10 = nI (a % 10) := by
  rw [show c8 10 = nI 10 from rfl, nI_div ha (by decide) (by decide), nI_mul, nI_sub (Nat.div_mul_le_self a 10)]
  congr 1
  have := Nat.div_add_mod a 10
  omega
theorem dig_w {x : Int32} {v k : Nat} (e : x = nI v) (hv : v ≤ 9999) (hk : k ≤ 3) : ∃ w : Nat, w ≤ 31 ∧ c8 10 + (x / nI (10 ^ k) - x / nI (10 ^ k) / c8 10 * c8 10) = nI w := by
  have hp : 0 < 10 ^ k := Nat.pow_pos (by decide)
  have hp2 : 10 ^ k ≤ 10 ^ 3 := Nat.pow_le_pow_right (by decide) hk
  have hq : v / 10 ^ k ≤ v := Nat.div_le_self v _
  subst e
  rw [nI_div (by omega) (by omega) hp, nI_rem (by omega)]
  exact ⟨10 + v / 10 ^ k % 10, by omega, (nI_add 10 _)⟩
theorem mDigitsE (w : zW) {x : Int32} {d : Nat} (h : dgN x = d) : zK 0 zX7_digits [.int x] w (fun r w' => w' = w ∧ r = some (.int (nI d))) := h ▸ mDigits w x
set_option maxHeartbeats 1000000 in
set_option maxRecDepth 20000 in
theorem mKeepsIt (f : Nat → zC) (o : Nat → Int32) (A : Nat → Nat → Int32) (J : Nat → Nat → Int64) (hB : blI A) {s n kd : Nat} (hs : s < 8) (hn : n < 450) (hkd : kd < 10) (h0 : A 0 n = nI kd) (q : Nat) (m : Int32) (g : Nat → Int32) : zK 1 zX7_keepsIt [.ref 76, .int (nI s), .int (nI n)] (wZ f o A J q m g) (fun r w' => ∃ (m' c : Int32), w' = wZ f o A J q m' g ∧ r = some (.int c) ∧ (c = 0 ∨ c = 1) ∧ (o 19 < 0 → c = A 7 (10 * s + kd))) := by
  have e1 : (nI n).toNatClampNeg = n := nI_clamp (by omega)
  have hv : vp_in (nI n) 450 := vp_in_nI (by omega) (by decide)
  refine zK_of qX7_keepsIt (by decide +kernel) rfl ?_
  iterate 3 (refine zv_step (bX7_keepsIt 1) rfl rfl trivial ?_)
  refine zv_ifb (fun h4 => ?_) (fun h4 => ?_)
  · iterate 8 (refine zv_step (bX7_keepsIt 1) rfl rfl trivial ?_)
    refine zv_iale (bX7_keepsIt 1) rfl rfl hv (show A 0 (nI n).toNatClampNeg = A 0 n by rw [e1]) ?_
    iterate 1 (refine zv_step (bX7_keepsIt 1) rfl rfl trivial ?_)
    refine zv_zale (bX7_keepsIt 1) rfl rfl (show vp_in (c8 10 * nI s + A 0 n) 90 by rw [h0, ix10]; exact vp_in_nI (by omega) (by decide)) (show A 7 (c8 10 * nI s + A 0 n).toNatClampNeg = A 7 (10 * s + kd) by rw [h0, ix10, nI_clamp (by omega)]) ?_
    exact zv_iret (bX7_keepsIt 1) rfl (Or.inr ⟨rfl, hB.2 _⟩) (Nat.zero_le _) (Nat.zero_le _) ⟨m, _, rfl, rfl, hB.2 _, fun _ => rfl⟩
  · iterate 3 (refine zv_step (bX7_keepsIt 1) rfl rfl trivial ?_)
    refine zv_iale (bX7_keepsIt 1) rfl rfl hv (show A 0 (nI n).toNatClampNeg = A 0 n by rw [e1]) ?_
    refine zv_S1 (bX7_keepsIt 1) rfl rfl rfl rfl ⟨rfl, rfl, rfl⟩ ⟨by show 0 + 1 ≤ 1; omega, by show 8 + (1 + 11) + 64 * (0) ≤ 64 * (1); omega⟩ ⟨Nat.zero_le _, Nat.zero_le _⟩ (hX7_mayKeep _ _) ?_
    rintro _ _ ⟨rfl, ⟨g1, rfl⟩ | ⟨g1, rfl⟩⟩
    · skip
      iterate 1 (refine zv_step (bX7_keepsIt 1) rfl rfl trivial ?_)
      refine zv_ift (by decide) ?_
      iterate 18 (refine zv_step (bX7_keepsIt 1) rfl rfl trivial ?_)
      refine zv_ifb (fun h63 => ?_) (fun h63 => ?_)
      · iterate 1 (refine zv_step (bX7_keepsIt 1) rfl rfl trivial ?_)
        exact zv_iret (bX7_keepsIt 1) rfl (Or.inr ⟨rfl, Or.inl rfl⟩) (Nat.zero_le _) (Nat.zero_le _) ⟨m + Int32.ofInt 1, _, rfl, rfl, Or.inl rfl, fun q => absurd q h4⟩
      · iterate 2 (refine zv_step (bX7_keepsIt 1) rfl rfl trivial ?_)
        exact zv_iret (bX7_keepsIt 1) rfl (Or.inr ⟨rfl, Or.inr rfl⟩) (Nat.zero_le _) (Nat.zero_le _) ⟨m + Int32.ofInt 1, _, rfl, rfl, Or.inr rfl, fun q => absurd q h4⟩
    · skip
      iterate 1 (refine zv_step (bX7_keepsIt 1) rfl rfl trivial ?_)
      refine zv_iff (by decide) ?_
      iterate 8 (refine zv_step (bX7_keepsIt 1) rfl rfl trivial ?_)
      refine zv_iale (bX7_keepsIt 1) rfl rfl hv (show A 0 (nI n).toNatClampNeg = A 0 n by rw [e1]) ?_
      iterate 1 (refine zv_step (bX7_keepsIt 1) rfl rfl trivial ?_)
      refine zv_zale (bX7_keepsIt 1) rfl rfl (show vp_in (c8 10 * nI s + A 0 n) 90 by rw [h0, ix10]; exact vp_in_nI (by omega) (by decide)) (show A 7 (c8 10 * nI s + A 0 n).toNatClampNeg = A 7 (10 * s + kd) by rw [h0, ix10, nI_clamp (by omega)]) ?_
      exact zv_iret (bX7_keepsIt 1) rfl (Or.inr ⟨rfl, hB.2 _⟩) (Nat.zero_le _) (Nat.zero_le _) ⟨m, _, rfl, rfl, hB.2 _, fun _ => rfl⟩
theorem pw : ∀ k, k + 1 ≤ 4 → 10 ^ (k + 1 - 1) ≤ 1000 := by
  intro k h
  match k, h with
  | 0, _ => decide
  | 1, _ => decide
  | 2, _ => decide
  | 3, _ => decide
  | k + 4, h => exact absurd h (by omega)
theorem pwd : ∀ k, 1 ≤ k → k + 1 ≤ 4 → nI (10 ^ (k + 1 - 1)) / c8 10 = nI (10 ^ (k - 1)) := by
  intro k h1 h2
  match k, h1, h2 with
  | 1, _, _ => decide +kernel
  | 2, _, _ => decide +kernel
  | 3, _, _ => decide +kernel
  | k + 4, _, h => exact absurd h (by omega)
theorem pwm : ∀ k, 1 ≤ k → k ≤ 3 → nI (10 ^ (k - 1)) * c8 10 = nI (10 ^ (k + 1 - 1)) := by
  intro k h1 h2
  match k, h1, h2 with
  | 1, _, _ => decide +kernel
  | 2, _, _ => decide +kernel
  | 3, _, _ => decide +kernel
  | k + 4, _, h => exact absurd h (by omega)
set_option maxHeartbeats 1000000 in
set_option maxRecDepth 20000 in
theorem sayN2 (f : Nat → zC) (o : Nat → Int32) (A : Nat → Nat → Int32) (J : Nat → Nat → Int64) {s n z : Nat} (hn : n < 450) {v : Nat} (hv9 : v ≤ 9999) (ev : A 1 n = nI v) {c m : Int32} {n0 : Nat} {Q : Option Value → zW → Prop} : ∀ (k q : Nat) (g : Nat → Int32), k ≤ 4 → q + k ≤ 256 → nnW q g → ∀ {x5 x4 : Int32}, x5 = nI k → (1 ≤ k → x4 = nI (10 ^ (k - 1))) → (∀ g', nnW (q + k) g' → zV (zMo (z + 1 + 2) zX7_say) false n0 0 0 270 [(3, .int c), (0, .ref 76), (1, .int (nI s)), (2, .int (nI n))] [] (wZ f o A J (q + k) m g') Q) → zV (zMo (z + 1 + 2) zX7_say) false n0 0 0 121 [(5, .int x5), (4, .int x4), (3, .int c), (0, .ref 76), (1, .int (nI s)), (2, .int (nI n))] [] (wZ f o A J q m g) Q := by
  have e1 : (nI n).toNatClampNeg = n := nI_clamp (by omega)
  have hv : vp_in (nI n) 450 := vp_in_nI (by omega) (by decide)
  intro k
  induction k with
  | zero =>
    intro q g hk hq hg x5 x4 e5 e4 kk
    subst e5
    iterate 2 (refine zv_step (bX7_say (z + 1 + 2)) rfl rfl trivial ?_)
    refine zv_ift (show nI 0 ≤ 0 by decide) ?_
    iterate 1 (refine zv_step (bX7_say (z + 1 + 2)) rfl rfl trivial ?_)
    refine zv_locals (l := [(5, .int (nI 0)), (4, .int x4), (3, .int c), (0, .ref 76), (1, .int (nI s)), (2, .int (nI n))]) (l' := [(3, .int c), (0, .ref 76), (1, .int (nI s)), (2, .int (nI n))]) ?_ (kk g hg)
    simp
  | succ k ih =>
    intro q g hk hq hg x5 x4 e5 e4 kk
    subst e5
    iterate 2 (refine zv_step (bX7_say (z + 1 + 2)) rfl rfl trivial ?_)
    refine zv_iff (nI_nle (by omega) (by omega)) ?_
    iterate 5 (refine zv_step (bX7_say (z + 1 + 2)) rfl rfl trivial ?_)
    refine zv_iale (bX7_say (z + 1 + 2)) rfl rfl hv (show A 1 (nI n).toNatClampNeg = A 1 n by rw [e1]) ?_
    iterate 1 (refine zv_step (bX7_say (z + 1 + 2)) rfl rfl trivial ?_)
    refine zv_step (bX7_say (z + 1 + 2)) rfl rfl (by rw [e4 (by omega)]; exact nI_ne0 (Nat.pow_pos (by decide)) (by have := pw k hk; omega)) ?_
    iterate 1 (refine zv_step (bX7_say (z + 1 + 2)) rfl rfl trivial ?_)
    refine zv_step (bX7_say (z + 1 + 2)) rfl rfl (show ¬ c8 10 = 0 by decide) ?_
    iterate 1 (refine zv_step (bX7_say (z + 1 + 2)) rfl rfl trivial ?_)
    refine zv_V1 (bX7_say (z + 1 + 2)) rfl rfl rfl rfl rfl rfl rfl ⟨rfl, rfl, rfl⟩ ⟨by show 0 + 1 ≤ z + 1 + 2; omega, by show 8 + (2 + 11) + 64 * (0) ≤ 64 * (z + 1 + 2); omega⟩ ⟨Nat.zero_le _, Nat.zero_le _⟩ (mSays f (upd o 20 m) A J _ _ (by omega) _) ?_
    rintro _ _ ⟨rfl, rfl⟩
    iterate 2 (refine zv_step (bX7_say (z + 1 + 2)) rfl rfl trivial ?_)
    refine zv_step (bX7_say (z + 1 + 2)) rfl rfl (show ¬ c8 10 = 0 by decide) ?_
    iterate 3 (refine zv_step (bX7_say (z + 1 + 2)) rfl rfl trivial ?_)
    exact ih _ _ (by omega) (by omega) (nnW_s hg (by rw [e4 (by omega)]; exact dig_w ev hv9 (show k ≤ 3 by omega))) (nI_dec k) (fun h => by rw [e4 (by omega)]; exact pwd k h hk) (fun g' hg' => (by rw [show q + 1 + k = q + (k + 1) by omega] at hg' ⊢; exact kk g' hg'))
set_option maxHeartbeats 1000000 in
set_option maxRecDepth 20000 in
theorem sayN1 (f : Nat → zC) (o : Nat → Int32) (A : Nat → Nat → Int32) (J : Nat → Nat → Int64) {s n z : Nat} (hn : n < 450) {v : Nat} (hv9 : v ≤ 9999) (ev : A 1 n = nI v) {c m : Int32} {d : Nat} (hd : dgN (A 1 n) = d) (hd4 : d ≤ 4) {q : Nat} {g : Nat → Int32} (hq : q + d ≤ 256) (hg : nnW q g) {n0 : Nat} {Q : Option Value → zW → Prop} (kk : ∀ g', nnW (q + d) g' → zV (zMo (z + 1 + 2) zX7_say) false n0 0 0 270 [(3, .int c), (0, .ref 76), (1, .int (nI s)), (2, .int (nI n))] [] (wZ f o A J (q + d) m g') Q) : ∀ (j k : Nat), k + j = d → 1 ≤ k → ∀ {x5 x4 : Int32}, x5 = nI k → x4 = nI (10 ^ (k - 1)) → zV (zMo (z + 1 + 2) zX7_say) false n0 0 0 83 [(5, .int x5), (4, .int x4), (3, .int c), (0, .ref 76), (1, .int (nI s)), (2, .int (nI n))] [] (wZ f o A J q m g) Q := by
  have e1 : (nI n).toNatClampNeg = n := nI_clamp (by omega)
  have hv : vp_in (nI n) 450 := vp_in_nI (by omega) (by decide)
  intro j
  induction j with
  | zero =>
    intro k hj h1 x5 x4 e5 e4
    subst e5
    iterate 4 (refine zv_step (bX7_say (z + 1 + 2)) rfl rfl trivial ?_)
    refine zv_iale (bX7_say (z + 1 + 2)) rfl rfl hv (show A 1 (nI n).toNatClampNeg = A 1 n by rw [e1]) ?_
    refine zv_S1 (bX7_say (z + 1 + 2)) rfl rfl rfl rfl ⟨rfl, rfl, rfl⟩ ⟨by show 0 + 1 ≤ z + 1 + 2; omega, by show 8 + (1 + 11) + 64 * (0) ≤ 64 * (z + 1 + 2); omega⟩ ⟨Nat.zero_le _, Nat.zero_le _⟩ (mDigitsE _ hd) ?_
    rintro _ _ ⟨rfl, rfl⟩
    iterate 1 (refine zv_step (bX7_say (z + 1 + 2)) rfl rfl trivial ?_)
    refine zv_ift (nI_le (by omega) (by omega)) ?_
    iterate 3 (refine zv_step (bX7_say (z + 1 + 2)) rfl rfl trivial ?_)
    refine zv_iale (bX7_say (z + 1 + 2)) rfl rfl hv (show A 1 (nI n).toNatClampNeg = A 1 n by rw [e1]) ?_
    refine zv_S1 (bX7_say (z + 1 + 2)) rfl rfl rfl rfl ⟨rfl, rfl, rfl⟩ ⟨by show 0 + 1 ≤ z + 1 + 2; omega, by show 8 + (1 + 11) + 64 * (0) ≤ 64 * (z + 1 + 2); omega⟩ ⟨Nat.zero_le _, Nat.zero_le _⟩ (mDigitsE _ hd) ?_
    rintro _ _ ⟨rfl, rfl⟩
    iterate 1 (refine zv_step (bX7_say (z + 1 + 2)) rfl rfl trivial ?_)
    refine zv_locals (l := [(5, .int (nI d)), (4, .int x4), (3, .int c), (0, .ref 76), (1, .int (nI s)), (2, .int (nI n))]) (l' := [(5, .int (nI d)), (4, .int x4), (3, .int c), (0, .ref 76), (1, .int (nI s)), (2, .int (nI n))]) ?_ (sayN2 f o A J hn hv9 ev d q g hd4 hq hg rfl (fun _ => by rw [e4, show k = d by omega]) kk)
    simp
  | succ j ih =>
    intro k hj h1 x5 x4 e5 e4
    subst e5
    iterate 4 (refine zv_step (bX7_say (z + 1 + 2)) rfl rfl trivial ?_)
    refine zv_iale (bX7_say (z + 1 + 2)) rfl rfl hv (show A 1 (nI n).toNatClampNeg = A 1 n by rw [e1]) ?_
    refine zv_S1 (bX7_say (z + 1 + 2)) rfl rfl rfl rfl ⟨rfl, rfl, rfl⟩ ⟨by show 0 + 1 ≤ z + 1 + 2; omega, by show 8 + (1 + 11) + 64 * (0) ≤ 64 * (z + 1 + 2); omega⟩ ⟨Nat.zero_le _, Nat.zero_le _⟩ (mDigitsE _ hd) ?_
    rintro _ _ ⟨rfl, rfl⟩
    iterate 1 (refine zv_step (bX7_say (z + 1 + 2)) rfl rfl trivial ?_)
    refine zv_iff (fun h => absurd ((nI_leI (by omega) (by omega)).mp h) (by omega)) ?_
    iterate 6 (refine zv_step (bX7_say (z + 1 + 2)) rfl rfl trivial ?_)
    refine zv_locals (l := [(5, .int (nI k + Int32.ofInt 1)), (4, .int (x4 * c8 10)), (3, .int c), (0, .ref 76), (1, .int (nI s)), (2, .int (nI n))]) (l' := [(5, .int (nI k + Int32.ofInt 1)), (4, .int (x4 * c8 10)), (3, .int c), (0, .ref 76), (1, .int (nI s)), (2, .int (nI n))]) ?_ (ih (k + 1) (by omega) (by omega) (nI_1 k) (by rw [e4]; exact pwm k h1 (by omega)))
    simp
theorem ownW_2 {A : Nat → Nat → Int32} {n k : Nat} (h1 : 2 ≤ k) (h2 : k ≤ 6) (h0 : A 0 n = nI k) : ownW A n = 1 := by
  unfold ownW
  rw [h0, if_neg (fun e => by rw [show Int32.ofInt 1 = nI 1 from rfl, nI_eq (by omega) (by omega)] at e; omega), if_neg]
  rintro (e | e)
  · rw [show c8 8 = nI 8 from rfl, nI_eq (by omega) (by omega)] at e; omega
  · rw [show c8 9 = nI 9 from rfl, nI_eq (by omega) (by omega)] at e; omega
theorem ownW_c {A : Nat → Nat → Int32} {n : Nat} (k : Nat) (h0 : A 0 n = nI k) : (k = 0 → ownW A n = 1) ∧ (k = 1 → ownW A n = dgN (A 1 n)) ∧ (k = 7 → ownW A n = 1) ∧ (k = 8 → ownW A n = 2) ∧ (k = 9 → ownW A n = 2) := by
  unfold ownW
  rw [h0]
  refine ⟨?_, ?_, ?_, ?_, ?_⟩ <;> rintro rfl
  · rw [if_neg (by decide), if_neg (by decide)]
  · rw [if_pos (by decide)]
  · rw [if_neg (by decide), if_neg (by decide)]
  · rw [if_neg (by decide), if_pos (by decide)]
  · rw [if_neg (by decide), if_pos (by decide)]
set_option maxHeartbeats 1000000 in
set_option maxRecDepth 20000 in
theorem sayM2 (f : Nat → zC) (o : Nat → Int32) (A : Nat → Nat → Int32) (J : Nat → Nat → Int64) {lo hi : Nat} (hh : hi ≤ 450) {s n z : Nat} (hn : n < 450) {c : Int32} (ih : ∀ (x : Nat), lo ≤ x → x < hi → szN A x ≤ z → ∀ (q : Nat) (m : Int32) (g : Nat → Int32), q + 6 * szN A x ≤ 256 → nnW q g → zK (z + 2) zX7_say [.ref 76, .int (nI s), .int (nI x)] (wZ f o A J q m g) (fun r w' => r = none ∧ ∃ (q' : Nat) (m' : Int32) (g' : Nat → Int32), w' = wZ f o A J q' m' g' ∧ q ≤ q' ∧ q' ≤ q + 6 * szN A x ∧ nnW q' g' ∧ (o 19 < 0 → q' = q + lnW A s z (nI x)))) {n0 : Nat} {Q : Option Value → zW → Prop} {q : Nat} {m : Int32} {g : Nat → Int32} (hq : q + 6 * szN A n ≤ 256 + 2) (hg : nnW q g) (kk : ∀ (q' : Nat) (m' : Int32) (g' : Nat → Int32), nnW q' g' → q + 1 ≤ q' → q' + 2 ≤ q + 6 * szN A n → (o 19 < 0 → q' = q + ownW A n + lnW A s z (A 2 n) + lnW A s z (A 3 n)) → zV (zMo (z + 1 + 2) zX7_say) false n0 0 0 270 [(3, .int c), (0, .ref 76), (1, .int (nI s)), (2, .int (nI n))] [] (wZ f o A J q' m' g') Q) {k a b : Nat} (hk1 : 2 ≤ k) (hk2 : k ≤ 6) (h0 : A 0 n = nI k) (h2 : A 2 n = nI a) (la : lo ≤ a) (ha : a < n) (h3 : A 3 n = nI b) (lb : lo ≤ b) (hb : b < n) (hnh : n < hi) (hsz : szN A n ≤ z + 1) (es : szN A n = 1 + szN A a + szN A b) : zV (zMo (z + 1 + 2) zX7_say) false n0 0 0 17 [(3, .int c), (0, .ref 76), (1, .int (nI s)), (2, .int (nI n))] [] (wZ f o A J q m g) Q := by
  have e1 : (nI n).toNatClampNeg = n := nI_clamp (by omega)
  have hv : vp_in (nI n) 450 := vp_in_nI (by omega) (by decide)
  iterate 3 (refine zv_step (bX7_say (z + 1 + 2)) rfl rfl trivial ?_)
  refine zv_iale (bX7_say (z + 1 + 2)) rfl rfl hv (show A 0 (nI n).toNatClampNeg = nI k by rw [e1]; exact h0) ?_
  refine zv_S1 (bX7_say (z + 1 + 2)) rfl rfl rfl rfl ⟨rfl, rfl, rfl⟩ ⟨by show 0 + 1 ≤ z + 1 + 2; omega, by show 8 + (1 + 11) + 64 * (0) ≤ 64 * (z + 1 + 2); omega⟩ ⟨Nat.zero_le _, Nat.zero_le _⟩ (hX7_isTwo _ _) ?_
  rintro _ _ ⟨rfl, ⟨g1, rfl⟩ | ⟨g1, rfl⟩⟩
  · skip
    iterate 1 (refine zv_step (bX7_say (z + 1 + 2)) rfl rfl trivial ?_)
    refine zv_iff (by decide) ?_
    iterate 5 (refine zv_step (bX7_say (z + 1 + 2)) rfl rfl trivial ?_)
    refine zv_iale (bX7_say (z + 1 + 2)) rfl rfl hv (show A 2 (nI n).toNatClampNeg = nI a by rw [e1]; exact h2) ?_
    refine zv_V2 (bX7_say (z + 1 + 2)) rfl rfl rfl rfl rfl rfl rfl ⟨rfl, rfl, rfl⟩ ⟨by show z + 2 + 1 ≤ z + 1 + 2; omega, by show 8 + (6 + 11) + 64 * (z + 2) ≤ 64 * (z + 1 + 2); omega⟩ ⟨Nat.zero_le _, Nat.zero_le _⟩ (ih a (by omega) (by omega) (by omega) _ _ _ (by omega) (hg)) ?_
    rintro _ _ ⟨rfl, q1, m1, g1, rfl, l1, u1, w1, n1⟩
    iterate 5 (refine zv_step (bX7_say (z + 1 + 2)) rfl rfl trivial ?_)
    refine zv_iale (bX7_say (z + 1 + 2)) rfl rfl hv (show A 0 (nI n).toNatClampNeg = nI k by rw [e1]; exact h0) ?_
    iterate 1 (refine zv_step (bX7_say (z + 1 + 2)) rfl rfl trivial ?_)
    refine zv_V1 (bX7_say (z + 1 + 2)) rfl rfl rfl rfl rfl rfl rfl ⟨rfl, rfl, rfl⟩ ⟨by show 0 + 1 ≤ z + 1 + 2; omega, by show 8 + (2 + 11) + 64 * (0) ≤ 64 * (z + 1 + 2); omega⟩ ⟨Nat.zero_le _, Nat.zero_le _⟩ (mSays f (upd o 20 _) A J _ _ (by omega) _) ?_
    rintro _ _ ⟨rfl, rfl⟩
    iterate 5 (refine zv_step (bX7_say (z + 1 + 2)) rfl rfl trivial ?_)
    refine zv_iale (bX7_say (z + 1 + 2)) rfl rfl hv (show A 3 (nI n).toNatClampNeg = nI b by rw [e1]; exact h3) ?_
    refine zv_V2 (bX7_say (z + 1 + 2)) rfl rfl rfl rfl rfl rfl rfl ⟨rfl, rfl, rfl⟩ ⟨by show z + 2 + 1 ≤ z + 1 + 2; omega, by show 8 + (6 + 11) + 64 * (z + 2) ≤ 64 * (z + 1 + 2); omega⟩ ⟨Nat.zero_le _, Nat.zero_le _⟩ (ih b (by omega) (by omega) (by omega) _ _ _ (by omega) (nnW_s w1 ⟨18 + k, by omega, nI_add 18 k⟩)) ?_
    rintro _ _ ⟨rfl, q2, m2, g2, rfl, l2, u2, w2, n2⟩
    iterate 1 (refine zv_step (bX7_say (z + 1 + 2)) rfl rfl trivial ?_)
    exact kk _ _ _ w2 (by omega) (by omega) (fun hm => by have e := ownW_2 hk1 hk2 h0; have a1 := n1 hm; have a2 := n2 hm; rw [h2, h3, e]; omega)
  · skip
    iterate 1 (refine zv_step (bX7_say (z + 1 + 2)) rfl rfl trivial ?_)
    refine zv_ift (by decide) ?_
    exact absurd ⟨by rw [nI_toInt (by omega)]; omega, by rw [nI_toInt (by omega)]; omega⟩ g1
set_option maxHeartbeats 1000000 in
set_option maxRecDepth 20000 in
theorem sayM0 (f : Nat → zC) (o : Nat → Int32) (A : Nat → Nat → Int32) (J : Nat → Nat → Int64) {lo hi : Nat} (hh : hi ≤ 450) {s n z : Nat} (hn : n < 450) {c : Int32} (ih : ∀ (x : Nat), lo ≤ x → x < hi → szN A x ≤ z → ∀ (q : Nat) (m : Int32) (g : Nat → Int32), q + 6 * szN A x ≤ 256 → nnW q g → zK (z + 2) zX7_say [.ref 76, .int (nI s), .int (nI x)] (wZ f o A J q m g) (fun r w' => r = none ∧ ∃ (q' : Nat) (m' : Int32) (g' : Nat → Int32), w' = wZ f o A J q' m' g' ∧ q ≤ q' ∧ q' ≤ q + 6 * szN A x ∧ nnW q' g' ∧ (o 19 < 0 → q' = q + lnW A s z (nI x)))) {n0 : Nat} {Q : Option Value → zW → Prop} {q : Nat} {m : Int32} {g : Nat → Int32} (hq : q + 6 * szN A n ≤ 256 + 2) (hg : nnW q g) (kk : ∀ (q' : Nat) (m' : Int32) (g' : Nat → Int32), nnW q' g' → q + 1 ≤ q' → q' + 2 ≤ q + 6 * szN A n → (o 19 < 0 → q' = q + ownW A n + lnW A s z (A 2 n) + lnW A s z (A 3 n)) → zV (zMo (z + 1 + 2) zX7_say) false n0 0 0 270 [(3, .int c), (0, .ref 76), (1, .int (nI s)), (2, .int (nI n))] [] (wZ f o A J q' m' g') Q) (hval : ∃ e : Nat, e ≤ 31 ∧ A 1 n = nI e) (h0 : A 0 n = nI 0) (h2 : A 2 n = m2) (h3 : A 3 n = m2) (es : szN A n = 1) : zV (zMo (z + 1 + 2) zX7_say) false n0 0 0 17 [(3, .int c), (0, .ref 76), (1, .int (nI s)), (2, .int (nI n))] [] (wZ f o A J q m g) Q := by
  have e1 : (nI n).toNatClampNeg = n := nI_clamp (by omega)
  have hv : vp_in (nI n) 450 := vp_in_nI (by omega) (by decide)
  iterate 3 (refine zv_step (bX7_say (z + 1 + 2)) rfl rfl trivial ?_)
  refine zv_iale (bX7_say (z + 1 + 2)) rfl rfl hv (show A 0 (nI n).toNatClampNeg = nI 0 by rw [e1]; exact h0) ?_
  refine zv_S1 (bX7_say (z + 1 + 2)) rfl rfl rfl rfl ⟨rfl, rfl, rfl⟩ ⟨by show 0 + 1 ≤ z + 1 + 2; omega, by show 8 + (1 + 11) + 64 * (0) ≤ 64 * (z + 1 + 2); omega⟩ ⟨Nat.zero_le _, Nat.zero_le _⟩ (hX7_isTwo _ _) ?_
  rintro _ _ ⟨rfl, ⟨g1, rfl⟩ | ⟨g1, rfl⟩⟩
  · skip
    iterate 1 (refine zv_step (bX7_say (z + 1 + 2)) rfl rfl trivial ?_)
    refine zv_iff (by decide) ?_
    exact absurd g1 (by decide)
  · skip
    iterate 1 (refine zv_step (bX7_say (z + 1 + 2)) rfl rfl trivial ?_)
    refine zv_ift (by decide) ?_
    iterate 3 (refine zv_step (bX7_say (z + 1 + 2)) rfl rfl trivial ?_)
    refine zv_iale (bX7_say (z + 1 + 2)) rfl rfl hv (show A 0 (nI n).toNatClampNeg = nI 0 by rw [e1]; exact h0) ?_
    iterate 2 (refine zv_step (bX7_say (z + 1 + 2)) rfl rfl trivial ?_)
    refine zv_ift (by decide) ?_
    iterate 3 (refine zv_step (bX7_say (z + 1 + 2)) rfl rfl trivial ?_)
    refine zv_iale (bX7_say (z + 1 + 2)) rfl rfl hv (show A 0 (nI n).toNatClampNeg = nI 0 by rw [e1]; exact h0) ?_
    iterate 1 (refine zv_step (bX7_say (z + 1 + 2)) rfl rfl trivial ?_)
    refine zv_iff (by decide) ?_
    iterate 4 (refine zv_step (bX7_say (z + 1 + 2)) rfl rfl trivial ?_)
    refine zv_iale (bX7_say (z + 1 + 2)) rfl rfl hv (show A 1 (nI n).toNatClampNeg = A 1 n by rw [e1]) ?_
    refine zv_V1 (bX7_say (z + 1 + 2)) rfl rfl rfl rfl rfl rfl rfl ⟨rfl, rfl, rfl⟩ ⟨by show 0 + 1 ≤ z + 1 + 2; omega, by show 8 + (2 + 11) + 64 * (0) ≤ 64 * (z + 1 + 2); omega⟩ ⟨Nat.zero_le _, Nat.zero_le _⟩ (mSays f (upd o 20 _) A J _ _ (by omega) _) ?_
    rintro _ _ ⟨rfl, rfl⟩
    iterate 1 (refine zv_step (bX7_say (z + 1 + 2)) rfl rfl trivial ?_)
    exact kk _ _ _ (nnW_s hg hval) (by omega) (by omega) (fun _ => by rw [(ownW_c 0 h0).1 rfl, h2, h3, lnW_m2])
set_option maxHeartbeats 1000000 in
set_option maxRecDepth 20000 in
theorem sayM1 (f : Nat → zC) (o : Nat → Int32) (A : Nat → Nat → Int32) (J : Nat → Nat → Int64) {lo hi : Nat} (hh : hi ≤ 450) {s n z : Nat} (hn : n < 450) {c : Int32} (ih : ∀ (x : Nat), lo ≤ x → x < hi → szN A x ≤ z → ∀ (q : Nat) (m : Int32) (g : Nat → Int32), q + 6 * szN A x ≤ 256 → nnW q g → zK (z + 2) zX7_say [.ref 76, .int (nI s), .int (nI x)] (wZ f o A J q m g) (fun r w' => r = none ∧ ∃ (q' : Nat) (m' : Int32) (g' : Nat → Int32), w' = wZ f o A J q' m' g' ∧ q ≤ q' ∧ q' ≤ q + 6 * szN A x ∧ nnW q' g' ∧ (o 19 < 0 → q' = q + lnW A s z (nI x)))) {n0 : Nat} {Q : Option Value → zW → Prop} {q : Nat} {m : Int32} {g : Nat → Int32} (hq : q + 6 * szN A n ≤ 256 + 2) (hg : nnW q g) (kk : ∀ (q' : Nat) (m' : Int32) (g' : Nat → Int32), nnW q' g' → q + 1 ≤ q' → q' + 2 ≤ q + 6 * szN A n → (o 19 < 0 → q' = q + ownW A n + lnW A s z (A 2 n) + lnW A s z (A 3 n)) → zV (zMo (z + 1 + 2) zX7_say) false n0 0 0 270 [(3, .int c), (0, .ref 76), (1, .int (nI s)), (2, .int (nI n))] [] (wZ f o A J q' m' g') Q) {v : Nat} (hv9 : v ≤ 9999) (ev : A 1 n = nI v) (h0 : A 0 n = nI 1) (h2 : A 2 n = m2) (h3 : A 3 n = m2) (es : szN A n = 1) : zV (zMo (z + 1 + 2) zX7_say) false n0 0 0 17 [(3, .int c), (0, .ref 76), (1, .int (nI s)), (2, .int (nI n))] [] (wZ f o A J q m g) Q := by
  have e1 : (nI n).toNatClampNeg = n := nI_clamp (by omega)
  have hv : vp_in (nI n) 450 := vp_in_nI (by omega) (by decide)
  iterate 3 (refine zv_step (bX7_say (z + 1 + 2)) rfl rfl trivial ?_)
  refine zv_iale (bX7_say (z + 1 + 2)) rfl rfl hv (show A 0 (nI n).toNatClampNeg = nI 1 by rw [e1]; exact h0) ?_
  refine zv_S1 (bX7_say (z + 1 + 2)) rfl rfl rfl rfl ⟨rfl, rfl, rfl⟩ ⟨by show 0 + 1 ≤ z + 1 + 2; omega, by show 8 + (1 + 11) + 64 * (0) ≤ 64 * (z + 1 + 2); omega⟩ ⟨Nat.zero_le _, Nat.zero_le _⟩ (hX7_isTwo _ _) ?_
  rintro _ _ ⟨rfl, ⟨g1, rfl⟩ | ⟨g1, rfl⟩⟩
  · skip
    iterate 1 (refine zv_step (bX7_say (z + 1 + 2)) rfl rfl trivial ?_)
    refine zv_iff (by decide) ?_
    exact absurd g1 (by decide)
  · skip
    iterate 1 (refine zv_step (bX7_say (z + 1 + 2)) rfl rfl trivial ?_)
    refine zv_ift (by decide) ?_
    iterate 3 (refine zv_step (bX7_say (z + 1 + 2)) rfl rfl trivial ?_)
    refine zv_iale (bX7_say (z + 1 + 2)) rfl rfl hv (show A 0 (nI n).toNatClampNeg = nI 1 by rw [e1]; exact h0) ?_
    iterate 2 (refine zv_step (bX7_say (z + 1 + 2)) rfl rfl trivial ?_)
    refine zv_iff (by decide) ?_
    iterate 4 (refine zv_step (bX7_say (z + 1 + 2)) rfl rfl trivial ?_)
    refine zv_locals (l := [(5, .int (Int32.ofInt 1)), (4, .int (Int32.ofInt 1)), (3, .int c), (0, .ref 76), (1, .int (nI s)), (2, .int (nI n))]) (l' := [(5, .int (Int32.ofInt 1)), (4, .int (Int32.ofInt 1)), (3, .int c), (0, .ref 76), (1, .int (nI s)), (2, .int (nI n))]) ?_ (sayN1 f o A J hn hv9 ev rfl (dgN_le _).2 (by have := (dgN_le (A 1 n)).2; omega) hg (fun g' hg' => kk _ _ g' hg' (by have := (dgN_le (A 1 n)).1; omega) (by have := (dgN_le (A 1 n)).2; omega) (fun _ => by rw [(ownW_c 1 h0).2.1 rfl, h2, h3, lnW_m2] <;> omega)) (dgN (A 1 n) - 1) 1 (by have := (dgN_le (A 1 n)).1; omega) (Nat.le_refl _) rfl rfl)
    simp
set_option maxHeartbeats 1000000 in
set_option maxRecDepth 20000 in
theorem sayM7 (f : Nat → zC) (o : Nat → Int32) (A : Nat → Nat → Int32) (J : Nat → Nat → Int64) {lo hi : Nat} (hh : hi ≤ 450) {s n z : Nat} (hn : n < 450) {c : Int32} (ih : ∀ (x : Nat), lo ≤ x → x < hi → szN A x ≤ z → ∀ (q : Nat) (m : Int32) (g : Nat → Int32), q + 6 * szN A x ≤ 256 → nnW q g → zK (z + 2) zX7_say [.ref 76, .int (nI s), .int (nI x)] (wZ f o A J q m g) (fun r w' => r = none ∧ ∃ (q' : Nat) (m' : Int32) (g' : Nat → Int32), w' = wZ f o A J q' m' g' ∧ q ≤ q' ∧ q' ≤ q + 6 * szN A x ∧ nnW q' g' ∧ (o 19 < 0 → q' = q + lnW A s z (nI x)))) {n0 : Nat} {Q : Option Value → zW → Prop} {q : Nat} {m : Int32} {g : Nat → Int32} (hq : q + 6 * szN A n ≤ 256 + 2) (hg : nnW q g) (kk : ∀ (q' : Nat) (m' : Int32) (g' : Nat → Int32), nnW q' g' → q + 1 ≤ q' → q' + 2 ≤ q + 6 * szN A n → (o 19 < 0 → q' = q + ownW A n + lnW A s z (A 2 n) + lnW A s z (A 3 n)) → zV (zMo (z + 1 + 2) zX7_say) false n0 0 0 270 [(3, .int c), (0, .ref 76), (1, .int (nI s)), (2, .int (nI n))] [] (wZ f o A J q' m' g') Q) {a : Nat} (hval : 7 = 9 → ∃ e : Nat, e ≤ 31 ∧ A 1 n = nI e) (h0 : A 0 n = nI 7) (h2 : A 2 n = nI a) (la : lo ≤ a) (ha : a < n) (h3 : A 3 n = m2) (hnh : n < hi) (hsz : szN A n ≤ z + 1) (es : szN A n = 1 + szN A a) : zV (zMo (z + 1 + 2) zX7_say) false n0 0 0 17 [(3, .int c), (0, .ref 76), (1, .int (nI s)), (2, .int (nI n))] [] (wZ f o A J q m g) Q := by
  have e1 : (nI n).toNatClampNeg = n := nI_clamp (by omega)
  have hv : vp_in (nI n) 450 := vp_in_nI (by omega) (by decide)
  iterate 3 (refine zv_step (bX7_say (z + 1 + 2)) rfl rfl trivial ?_)
  refine zv_iale (bX7_say (z + 1 + 2)) rfl rfl hv (show A 0 (nI n).toNatClampNeg = nI 7 by rw [e1]; exact h0) ?_
  refine zv_S1 (bX7_say (z + 1 + 2)) rfl rfl rfl rfl ⟨rfl, rfl, rfl⟩ ⟨by show 0 + 1 ≤ z + 1 + 2; omega, by show 8 + (1 + 11) + 64 * (0) ≤ 64 * (z + 1 + 2); omega⟩ ⟨Nat.zero_le _, Nat.zero_le _⟩ (hX7_isTwo _ _) ?_
  rintro _ _ ⟨rfl, ⟨g1, rfl⟩ | ⟨g1, rfl⟩⟩
  · skip
    iterate 1 (refine zv_step (bX7_say (z + 1 + 2)) rfl rfl trivial ?_)
    refine zv_iff (by decide) ?_
    exact absurd g1 (by decide)
  · skip
    iterate 1 (refine zv_step (bX7_say (z + 1 + 2)) rfl rfl trivial ?_)
    refine zv_ift (by decide) ?_
    iterate 3 (refine zv_step (bX7_say (z + 1 + 2)) rfl rfl trivial ?_)
    refine zv_iale (bX7_say (z + 1 + 2)) rfl rfl hv (show A 0 (nI n).toNatClampNeg = nI 7 by rw [e1]; exact h0) ?_
    iterate 2 (refine zv_step (bX7_say (z + 1 + 2)) rfl rfl trivial ?_)
    refine zv_ift (by decide) ?_
    iterate 3 (refine zv_step (bX7_say (z + 1 + 2)) rfl rfl trivial ?_)
    refine zv_iale (bX7_say (z + 1 + 2)) rfl rfl hv (show A 0 (nI n).toNatClampNeg = nI 7 by rw [e1]; exact h0) ?_
    iterate 1 (refine zv_step (bX7_say (z + 1 + 2)) rfl rfl trivial ?_)
    refine zv_ift (by decide) ?_
    iterate 4 (refine zv_step (bX7_say (z + 1 + 2)) rfl rfl trivial ?_)
    refine zv_iale (bX7_say (z + 1 + 2)) rfl rfl hv (show A 0 (nI n).toNatClampNeg = nI 7 by rw [e1]; exact h0) ?_
    iterate 2 (refine zv_step (bX7_say (z + 1 + 2)) rfl rfl trivial ?_)
    refine zv_iff (by decide) ?_
    iterate 2 (refine zv_step (bX7_say (z + 1 + 2)) rfl rfl trivial ?_)
    refine zv_V1 (bX7_say (z + 1 + 2)) rfl rfl rfl rfl rfl rfl rfl ⟨rfl, rfl, rfl⟩ ⟨by show 0 + 1 ≤ z + 1 + 2; omega, by show 8 + (2 + 11) + 64 * (0) ≤ 64 * (z + 1 + 2); omega⟩ ⟨Nat.zero_le _, Nat.zero_le _⟩ (mSays f (upd o 20 _) A J _ _ (by omega) _) ?_
    rintro _ _ ⟨rfl, rfl⟩
    iterate 3 (refine zv_step (bX7_say (z + 1 + 2)) rfl rfl trivial ?_)
    refine zv_iale (bX7_say (z + 1 + 2)) rfl rfl hv (show A 0 (nI n).toNatClampNeg = nI 7 by rw [e1]; exact h0) ?_
    iterate 2 (refine zv_step (bX7_say (z + 1 + 2)) rfl rfl trivial ?_)
    refine zv_ift (by decide) ?_
    iterate 5 (refine zv_step (bX7_say (z + 1 + 2)) rfl rfl trivial ?_)
    refine zv_iale (bX7_say (z + 1 + 2)) rfl rfl hv (show A 2 (nI n).toNatClampNeg = nI a by rw [e1]; exact h2) ?_
    refine zv_V2 (bX7_say (z + 1 + 2)) rfl rfl rfl rfl rfl rfl rfl ⟨rfl, rfl, rfl⟩ ⟨by show z + 2 + 1 ≤ z + 1 + 2; omega, by show 8 + (6 + 11) + 64 * (z + 2) ≤ 64 * (z + 1 + 2); omega⟩ ⟨Nat.zero_le _, Nat.zero_le _⟩ (ih a (by omega) (by omega) (by omega) _ _ _ (by omega) (nnW_s hg ⟨25, by decide, rfl⟩)) ?_
    rintro _ _ ⟨rfl, q1, m1, g1, rfl, l1, u1, w1, n1⟩
    iterate 3 (refine zv_step (bX7_say (z + 1 + 2)) rfl rfl trivial ?_)
    refine zv_iale (bX7_say (z + 1 + 2)) rfl rfl hv (show A 0 (nI n).toNatClampNeg = nI 7 by rw [e1]; exact h0) ?_
    iterate 2 (refine zv_step (bX7_say (z + 1 + 2)) rfl rfl trivial ?_)
    refine zv_ift (by decide) ?_
    exact kk _ _ _ w1 (by omega) (by omega) (fun hm => by have e := (ownW_c 7 h0).2.2.1 rfl; have a1 := n1 hm; rw [h2, h3, lnW_m2, e]; omega)
set_option maxHeartbeats 1000000 in
set_option maxRecDepth 20000 in
theorem sayM8 (f : Nat → zC) (o : Nat → Int32) (A : Nat → Nat → Int32) (J : Nat → Nat → Int64) {lo hi : Nat} (hh : hi ≤ 450) {s n z : Nat} (hn : n < 450) {c : Int32} (ih : ∀ (x : Nat), lo ≤ x → x < hi → szN A x ≤ z → ∀ (q : Nat) (m : Int32) (g : Nat → Int32), q + 6 * szN A x ≤ 256 → nnW q g → zK (z + 2) zX7_say [.ref 76, .int (nI s), .int (nI x)] (wZ f o A J q m g) (fun r w' => r = none ∧ ∃ (q' : Nat) (m' : Int32) (g' : Nat → Int32), w' = wZ f o A J q' m' g' ∧ q ≤ q' ∧ q' ≤ q + 6 * szN A x ∧ nnW q' g' ∧ (o 19 < 0 → q' = q + lnW A s z (nI x)))) {n0 : Nat} {Q : Option Value → zW → Prop} {q : Nat} {m : Int32} {g : Nat → Int32} (hq : q + 6 * szN A n ≤ 256 + 2) (hg : nnW q g) (kk : ∀ (q' : Nat) (m' : Int32) (g' : Nat → Int32), nnW q' g' → q + 1 ≤ q' → q' + 2 ≤ q + 6 * szN A n → (o 19 < 0 → q' = q + ownW A n + lnW A s z (A 2 n) + lnW A s z (A 3 n)) → zV (zMo (z + 1 + 2) zX7_say) false n0 0 0 270 [(3, .int c), (0, .ref 76), (1, .int (nI s)), (2, .int (nI n))] [] (wZ f o A J q' m' g') Q) {a : Nat} (hval : 8 = 9 → ∃ e : Nat, e ≤ 31 ∧ A 1 n = nI e) (h0 : A 0 n = nI 8) (h2 : A 2 n = nI a) (la : lo ≤ a) (ha : a < n) (h3 : A 3 n = m2) (hnh : n < hi) (hsz : szN A n ≤ z + 1) (es : szN A n = 1 + szN A a) : zV (zMo (z + 1 + 2) zX7_say) false n0 0 0 17 [(3, .int c), (0, .ref 76), (1, .int (nI s)), (2, .int (nI n))] [] (wZ f o A J q m g) Q := by
  have e1 : (nI n).toNatClampNeg = n := nI_clamp (by omega)
  have hv : vp_in (nI n) 450 := vp_in_nI (by omega) (by decide)
  iterate 3 (refine zv_step (bX7_say (z + 1 + 2)) rfl rfl trivial ?_)
  refine zv_iale (bX7_say (z + 1 + 2)) rfl rfl hv (show A 0 (nI n).toNatClampNeg = nI 8 by rw [e1]; exact h0) ?_
  refine zv_S1 (bX7_say (z + 1 + 2)) rfl rfl rfl rfl ⟨rfl, rfl, rfl⟩ ⟨by show 0 + 1 ≤ z + 1 + 2; omega, by show 8 + (1 + 11) + 64 * (0) ≤ 64 * (z + 1 + 2); omega⟩ ⟨Nat.zero_le _, Nat.zero_le _⟩ (hX7_isTwo _ _) ?_
  rintro _ _ ⟨rfl, ⟨g1, rfl⟩ | ⟨g1, rfl⟩⟩
  · skip
    iterate 1 (refine zv_step (bX7_say (z + 1 + 2)) rfl rfl trivial ?_)
    refine zv_iff (by decide) ?_
    exact absurd g1 (by decide)
  · skip
    iterate 1 (refine zv_step (bX7_say (z + 1 + 2)) rfl rfl trivial ?_)
    refine zv_ift (by decide) ?_
    iterate 3 (refine zv_step (bX7_say (z + 1 + 2)) rfl rfl trivial ?_)
    refine zv_iale (bX7_say (z + 1 + 2)) rfl rfl hv (show A 0 (nI n).toNatClampNeg = nI 8 by rw [e1]; exact h0) ?_
    iterate 2 (refine zv_step (bX7_say (z + 1 + 2)) rfl rfl trivial ?_)
    refine zv_ift (by decide) ?_
    iterate 3 (refine zv_step (bX7_say (z + 1 + 2)) rfl rfl trivial ?_)
    refine zv_iale (bX7_say (z + 1 + 2)) rfl rfl hv (show A 0 (nI n).toNatClampNeg = nI 8 by rw [e1]; exact h0) ?_
    iterate 1 (refine zv_step (bX7_say (z + 1 + 2)) rfl rfl trivial ?_)
    refine zv_ift (by decide) ?_
    iterate 4 (refine zv_step (bX7_say (z + 1 + 2)) rfl rfl trivial ?_)
    refine zv_iale (bX7_say (z + 1 + 2)) rfl rfl hv (show A 0 (nI n).toNatClampNeg = nI 8 by rw [e1]; exact h0) ?_
    iterate 2 (refine zv_step (bX7_say (z + 1 + 2)) rfl rfl trivial ?_)
    refine zv_ift (by decide) ?_
    iterate 3 (refine zv_step (bX7_say (z + 1 + 2)) rfl rfl trivial ?_)
    refine zv_iale (bX7_say (z + 1 + 2)) rfl rfl hv (show A 0 (nI n).toNatClampNeg = nI 8 by rw [e1]; exact h0) ?_
    iterate 2 (refine zv_step (bX7_say (z + 1 + 2)) rfl rfl trivial ?_)
    refine zv_iff (by decide) ?_
    iterate 2 (refine zv_step (bX7_say (z + 1 + 2)) rfl rfl trivial ?_)
    refine zv_V1 (bX7_say (z + 1 + 2)) rfl rfl rfl rfl rfl rfl rfl ⟨rfl, rfl, rfl⟩ ⟨by show 0 + 1 ≤ z + 1 + 2; omega, by show 8 + (2 + 11) + 64 * (0) ≤ 64 * (z + 1 + 2); omega⟩ ⟨Nat.zero_le _, Nat.zero_le _⟩ (mSays f (upd o 20 _) A J _ _ (by omega) _) ?_
    rintro _ _ ⟨rfl, rfl⟩
    iterate 3 (refine zv_step (bX7_say (z + 1 + 2)) rfl rfl trivial ?_)
    refine zv_iale (bX7_say (z + 1 + 2)) rfl rfl hv (show A 0 (nI n).toNatClampNeg = nI 8 by rw [e1]; exact h0) ?_
    iterate 2 (refine zv_step (bX7_say (z + 1 + 2)) rfl rfl trivial ?_)
    refine zv_ift (by decide) ?_
    iterate 5 (refine zv_step (bX7_say (z + 1 + 2)) rfl rfl trivial ?_)
    refine zv_iale (bX7_say (z + 1 + 2)) rfl rfl hv (show A 2 (nI n).toNatClampNeg = nI a by rw [e1]; exact h2) ?_
    refine zv_V2 (bX7_say (z + 1 + 2)) rfl rfl rfl rfl rfl rfl rfl ⟨rfl, rfl, rfl⟩ ⟨by show z + 2 + 1 ≤ z + 1 + 2; omega, by show 8 + (6 + 11) + 64 * (z + 2) ≤ 64 * (z + 1 + 2); omega⟩ ⟨Nat.zero_le _, Nat.zero_le _⟩ (ih a (by omega) (by omega) (by omega) _ _ _ (by omega) (nnW_s hg ⟨26, by decide, rfl⟩)) ?_
    rintro _ _ ⟨rfl, q1, m1, g1, rfl, l1, u1, w1, n1⟩
    iterate 3 (refine zv_step (bX7_say (z + 1 + 2)) rfl rfl trivial ?_)
    refine zv_iale (bX7_say (z + 1 + 2)) rfl rfl hv (show A 0 (nI n).toNatClampNeg = nI 8 by rw [e1]; exact h0) ?_
    iterate 2 (refine zv_step (bX7_say (z + 1 + 2)) rfl rfl trivial ?_)
    refine zv_iff (by decide) ?_
    iterate 2 (refine zv_step (bX7_say (z + 1 + 2)) rfl rfl trivial ?_)
    refine zv_V1 (bX7_say (z + 1 + 2)) rfl rfl rfl rfl rfl rfl rfl ⟨rfl, rfl, rfl⟩ ⟨by show 0 + 1 ≤ z + 1 + 2; omega, by show 8 + (2 + 11) + 64 * (0) ≤ 64 * (z + 1 + 2); omega⟩ ⟨Nat.zero_le _, Nat.zero_le _⟩ (mSays f (upd o 20 _) A J _ _ (by omega) _) ?_
    rintro _ _ ⟨rfl, rfl⟩
    exact kk _ _ _ (nnW_s w1 ⟨27, by decide, rfl⟩) (by omega) (by omega) (fun hm => by have e := (ownW_c 8 h0).2.2.2.1 rfl; have a1 := n1 hm; rw [h2, h3, lnW_m2, e]; omega)
set_option maxHeartbeats 1000000 in
set_option maxRecDepth 20000 in
theorem sayM9 (f : Nat → zC) (o : Nat → Int32) (A : Nat → Nat → Int32) (J : Nat → Nat → Int64) {lo hi : Nat} (hh : hi ≤ 450) {s n z : Nat} (hn : n < 450) {c : Int32} (ih : ∀ (x : Nat), lo ≤ x → x < hi → szN A x ≤ z → ∀ (q : Nat) (m : Int32) (g : Nat → Int32), q + 6 * szN A x ≤ 256 → nnW q g → zK (z + 2) zX7_say [.ref 76, .int (nI s), .int (nI x)] (wZ f o A J q m g) (fun r w' => r = none ∧ ∃ (q' : Nat) (m' : Int32) (g' : Nat → Int32), w' = wZ f o A J q' m' g' ∧ q ≤ q' ∧ q' ≤ q + 6 * szN A x ∧ nnW q' g' ∧ (o 19 < 0 → q' = q + lnW A s z (nI x)))) {n0 : Nat} {Q : Option Value → zW → Prop} {q : Nat} {m : Int32} {g : Nat → Int32} (hq : q + 6 * szN A n ≤ 256 + 2) (hg : nnW q g) (kk : ∀ (q' : Nat) (m' : Int32) (g' : Nat → Int32), nnW q' g' → q + 1 ≤ q' → q' + 2 ≤ q + 6 * szN A n → (o 19 < 0 → q' = q + ownW A n + lnW A s z (A 2 n) + lnW A s z (A 3 n)) → zV (zMo (z + 1 + 2) zX7_say) false n0 0 0 270 [(3, .int c), (0, .ref 76), (1, .int (nI s)), (2, .int (nI n))] [] (wZ f o A J q' m' g') Q) {a : Nat} (hval : 9 = 9 → ∃ e : Nat, e ≤ 31 ∧ A 1 n = nI e) (h0 : A 0 n = nI 9) (h2 : A 2 n = nI a) (la : lo ≤ a) (ha : a < n) (h3 : A 3 n = m2) (hnh : n < hi) (hsz : szN A n ≤ z + 1) (es : szN A n = 1 + szN A a) : zV (zMo (z + 1 + 2) zX7_say) false n0 0 0 17 [(3, .int c), (0, .ref 76), (1, .int (nI s)), (2, .int (nI n))] [] (wZ f o A J q m g) Q := by
  have e1 : (nI n).toNatClampNeg = n := nI_clamp (by omega)
  have hv : vp_in (nI n) 450 := vp_in_nI (by omega) (by decide)
  iterate 3 (refine zv_step (bX7_say (z + 1 + 2)) rfl rfl trivial ?_)
  refine zv_iale (bX7_say (z + 1 + 2)) rfl rfl hv (show A 0 (nI n).toNatClampNeg = nI 9 by rw [e1]; exact h0) ?_
  refine zv_S1 (bX7_say (z + 1 + 2)) rfl rfl rfl rfl ⟨rfl, rfl, rfl⟩ ⟨by show 0 + 1 ≤ z + 1 + 2; omega, by show 8 + (1 + 11) + 64 * (0) ≤ 64 * (z + 1 + 2); omega⟩ ⟨Nat.zero_le _, Nat.zero_le _⟩ (hX7_isTwo _ _) ?_
  rintro _ _ ⟨rfl, ⟨g1, rfl⟩ | ⟨g1, rfl⟩⟩
  · skip
    iterate 1 (refine zv_step (bX7_say (z + 1 + 2)) rfl rfl trivial ?_)
    refine zv_iff (by decide) ?_
    exact absurd g1 (by decide)
  · skip
    iterate 1 (refine zv_step (bX7_say (z + 1 + 2)) rfl rfl trivial ?_)
    refine zv_ift (by decide) ?_
    iterate 3 (refine zv_step (bX7_say (z + 1 + 2)) rfl rfl trivial ?_)
    refine zv_iale (bX7_say (z + 1 + 2)) rfl rfl hv (show A 0 (nI n).toNatClampNeg = nI 9 by rw [e1]; exact h0) ?_
    iterate 2 (refine zv_step (bX7_say (z + 1 + 2)) rfl rfl trivial ?_)
    refine zv_ift (by decide) ?_
    iterate 3 (refine zv_step (bX7_say (z + 1 + 2)) rfl rfl trivial ?_)
    refine zv_iale (bX7_say (z + 1 + 2)) rfl rfl hv (show A 0 (nI n).toNatClampNeg = nI 9 by rw [e1]; exact h0) ?_
    iterate 1 (refine zv_step (bX7_say (z + 1 + 2)) rfl rfl trivial ?_)
    refine zv_ift (by decide) ?_
    iterate 4 (refine zv_step (bX7_say (z + 1 + 2)) rfl rfl trivial ?_)
    refine zv_iale (bX7_say (z + 1 + 2)) rfl rfl hv (show A 0 (nI n).toNatClampNeg = nI 9 by rw [e1]; exact h0) ?_
    iterate 2 (refine zv_step (bX7_say (z + 1 + 2)) rfl rfl trivial ?_)
    refine zv_ift (by decide) ?_
    iterate 3 (refine zv_step (bX7_say (z + 1 + 2)) rfl rfl trivial ?_)
    refine zv_iale (bX7_say (z + 1 + 2)) rfl rfl hv (show A 0 (nI n).toNatClampNeg = nI 9 by rw [e1]; exact h0) ?_
    iterate 2 (refine zv_step (bX7_say (z + 1 + 2)) rfl rfl trivial ?_)
    refine zv_ift (by decide) ?_
    iterate 3 (refine zv_step (bX7_say (z + 1 + 2)) rfl rfl trivial ?_)
    refine zv_iale (bX7_say (z + 1 + 2)) rfl rfl hv (show A 1 (nI n).toNatClampNeg = A 1 n by rw [e1]) ?_
    refine zv_V1 (bX7_say (z + 1 + 2)) rfl rfl rfl rfl rfl rfl rfl ⟨rfl, rfl, rfl⟩ ⟨by show 0 + 1 ≤ z + 1 + 2; omega, by show 8 + (2 + 11) + 64 * (0) ≤ 64 * (z + 1 + 2); omega⟩ ⟨Nat.zero_le _, Nat.zero_le _⟩ (mSays f (upd o 20 _) A J _ _ (by omega) _) ?_
    rintro _ _ ⟨rfl, rfl⟩
    iterate 3 (refine zv_step (bX7_say (z + 1 + 2)) rfl rfl trivial ?_)
    refine zv_iale (bX7_say (z + 1 + 2)) rfl rfl hv (show A 0 (nI n).toNatClampNeg = nI 9 by rw [e1]; exact h0) ?_
    iterate 2 (refine zv_step (bX7_say (z + 1 + 2)) rfl rfl trivial ?_)
    refine zv_iff (by decide) ?_
    iterate 2 (refine zv_step (bX7_say (z + 1 + 2)) rfl rfl trivial ?_)
    refine zv_V1 (bX7_say (z + 1 + 2)) rfl rfl rfl rfl rfl rfl rfl ⟨rfl, rfl, rfl⟩ ⟨by show 0 + 1 ≤ z + 1 + 2; omega, by show 8 + (2 + 11) + 64 * (0) ≤ 64 * (z + 1 + 2); omega⟩ ⟨Nat.zero_le _, Nat.zero_le _⟩ (mSays f (upd o 20 _) A J _ _ (by omega) _) ?_
    rintro _ _ ⟨rfl, rfl⟩
    iterate 5 (refine zv_step (bX7_say (z + 1 + 2)) rfl rfl trivial ?_)
    refine zv_iale (bX7_say (z + 1 + 2)) rfl rfl hv (show A 2 (nI n).toNatClampNeg = nI a by rw [e1]; exact h2) ?_
    refine zv_V2 (bX7_say (z + 1 + 2)) rfl rfl rfl rfl rfl rfl rfl ⟨rfl, rfl, rfl⟩ ⟨by show z + 2 + 1 ≤ z + 1 + 2; omega, by show 8 + (6 + 11) + 64 * (z + 2) ≤ 64 * (z + 1 + 2); omega⟩ ⟨Nat.zero_le _, Nat.zero_le _⟩ (ih a (by omega) (by omega) (by omega) _ _ _ (by omega) (nnW_s (nnW_s hg (hval rfl)) ⟨28, by decide, rfl⟩)) ?_
    rintro _ _ ⟨rfl, q1, m1, g1, rfl, l1, u1, w1, n1⟩
    iterate 3 (refine zv_step (bX7_say (z + 1 + 2)) rfl rfl trivial ?_)
    refine zv_iale (bX7_say (z + 1 + 2)) rfl rfl hv (show A 0 (nI n).toNatClampNeg = nI 9 by rw [e1]; exact h0) ?_
    iterate 2 (refine zv_step (bX7_say (z + 1 + 2)) rfl rfl trivial ?_)
    refine zv_ift (by decide) ?_
    exact kk _ _ _ w1 (by omega) (by omega) (fun hm => by have e := (ownW_c 9 h0).2.2.2.2 rfl; have a1 := n1 hm; rw [h2, h3, lnW_m2, e]; omega)
set_option maxHeartbeats 1000000 in
set_option maxRecDepth 20000 in
theorem mSay (f : Nat → zC) (o : Nat → Int32) (A : Nat → Nat → Int32) (J : Nat → Nat → Int64) {lo hi : Nat} (hh : hi ≤ 450) (hT : tbI lo hi A) (hB : blI A) {s : Nat} (hs : s < 8) : ∀ (z n : Nat), lo ≤ n → n < hi → szN A n ≤ z → ∀ (q : Nat) (m : Int32) (g : Nat → Int32), q + 6 * szN A n ≤ 256 → nnW q g → zK (z + 2) zX7_say [.ref 76, .int (nI s), .int (nI n)] (wZ f o A J q m g) (fun r w' => r = none ∧ ∃ (q' : Nat) (m' : Int32) (g' : Nat → Int32), w' = wZ f o A J q' m' g' ∧ q ≤ q' ∧ q' ≤ q + 6 * szN A n ∧ nnW q' g' ∧ (o 19 < 0 → q' = q + lnW A s z (nI n))) := by
  intro z
  induction z with
  | zero =>
    intro n hlo hn hz
    have := (rN_sz (hT n hlo hn)).1
    omega
  | succ z ih =>
    intro n hlo hn hz q m g hq hg
    obtain ⟨kd, hkd, h0⟩ := rN_kd (hT n hlo hn)
    have hs1 := (rN_sz (hT n hlo hn)).1
    refine zK_of qX7_say (by decide +kernel) rfl ?_
    iterate 3 (refine zv_step (bX7_say (z + 1 + 2)) rfl rfl trivial ?_)
    refine zv_V2 (bX7_say (z + 1 + 2)) rfl rfl rfl rfl rfl rfl rfl ⟨rfl, rfl, rfl⟩ ⟨by show 1 + 1 ≤ z + 1 + 2; omega, by show 8 + (3 + 11) + 64 * (1) ≤ 64 * (z + 1 + 2); omega⟩ ⟨Nat.zero_le _, Nat.zero_le _⟩ (mKeepsIt f o A J hB hs (by omega) hkd h0 q m g) ?_
    rintro _ _ ⟨m1, c, rfl, rfl, rfl | rfl, hc⟩
    · skip
      iterate 3 (refine zv_step (bX7_say (z + 1 + 2)) rfl rfl trivial ?_)
      refine zv_ift (rfl) ?_
      have K : ∀ (n1 q' : Nat) (m' : Int32) (g' : Nat → Int32), nnW q' g' → q + 1 ≤ q' → q' + 2 ≤ q + 6 * szN A n → (o 19 < 0 → q' = q + ownW A n + lnW A s z (A 2 n) + lnW A s z (A 3 n)) → zV (zMo (z + 1 + 2) zX7_say) false n1 0 0 270 [(3, .int 0), (0, .ref 76), (1, .int (nI s)), (2, .int (nI n))] [] (wZ f o A J q' m' g') (fun r w' => r = none ∧ ∃ (q' : Nat) (m' : Int32) (g' : Nat → Int32), w' = wZ f o A J q' m' g' ∧ q ≤ q' ∧ q' ≤ q + 6 * szN A n ∧ nnW q' g' ∧ (o 19 < 0 → q' = q + lnW A s (z + 1) (nI n))) := by
        intro n1 q' m' g' hg' l1 u1 nn
        iterate 2 (refine zv_step (bX7_say (z + 1 + 2)) rfl rfl trivial ?_)
        refine zv_ift (rfl) ?_
        exact zv_ret (bX7_say (z + 1 + 2)) rfl rfl (Nat.zero_le _) (Nat.zero_le _) ⟨rfl, _, _, _, rfl, by omega, by omega, hg', (fun hm => by have e := hc hm; have a := nn hm; rw [lnW_nI (by omega) hkd h0, ← e, if_pos rfl]; omega)⟩
      obtain ⟨k9, y9, h0', hk9, h4, hy, hs9, hv0, hv1, _⟩ := hT n hlo hn
      have es := szN_of h4 hy
      have kd9 : k9 = kd := (nI_eq (by omega) (by omega)).mp (h0'.symm.trans h0)
      subst kd9
      rcases hs9 with ⟨k1, h2, h3, e⟩ | ⟨k1, k2, a, b, h2, la, ha, h3, lb, hb, e⟩ | ⟨k1, a, h2, la, ha, h3, e⟩
      · rcases (show k9 = 0 ∨ k9 = 1 by omega) with rfl | rfl
        · exact sayM0 f o A J hh (by omega) ih (by omega) hg (K _) (by obtain ⟨v, hv, e⟩ := hv0 (Or.inl rfl); exact ⟨v, by omega, e⟩) h0 h2 h3 (by omega)
        · obtain ⟨v, hv9, ev⟩ := hv1 rfl
          exact sayM1 f o A J hh (by omega) ih (by omega) hg (K _) hv9 ev h0 h2 h3 (by omega)
      · exact sayM2 f o A J hh (by omega) ih (by omega) hg (K _) k1 k2 h0 h2 la ha h3 lb hb hn hz (by omega)
      · rcases (show k9 = 7 ∨ k9 = 8 ∨ k9 = 9 by omega) with rfl | rfl | rfl
        · exact sayM7 f o A J hh (by omega) ih (by omega) hg (K _) (fun h => absurd h (by decide)) h0 h2 la ha h3 hn hz (by omega)
        · exact sayM8 f o A J hh (by omega) ih (by omega) hg (K _) (fun h => absurd h (by decide)) h0 h2 la ha h3 hn hz (by omega)
        · exact sayM9 f o A J hh (by omega) ih (by omega) hg (K _) (fun _ => by obtain ⟨v, hv, e⟩ := hv0 (Or.inr rfl); exact ⟨v, by omega, e⟩) h0 h2 la ha h3 hn hz (by omega)
    · skip
      iterate 3 (refine zv_step (bX7_say (z + 1 + 2)) rfl rfl trivial ?_)
      refine zv_iff (by decide) ?_
      iterate 2 (refine zv_step (bX7_say (z + 1 + 2)) rfl rfl trivial ?_)
      refine zv_V1 (bX7_say (z + 1 + 2)) rfl rfl rfl rfl rfl rfl rfl ⟨rfl, rfl, rfl⟩ ⟨by show 0 + 1 ≤ z + 1 + 2; omega, by show 8 + (2 + 11) + 64 * (0) ≤ 64 * (z + 1 + 2); omega⟩ ⟨Nat.zero_le _, Nat.zero_le _⟩ (mSays f (upd o 20 _) A J _ _ (by omega) _) ?_
      rintro _ _ ⟨rfl, rfl⟩
      have K : ∀ (n1 q' : Nat) (m' : Int32) (g' : Nat → Int32), nnW q' g' → (q + 1) + 1 ≤ q' → q' + 2 ≤ (q + 1) + 6 * szN A n → (o 19 < 0 → q' = (q + 1) + ownW A n + lnW A s z (A 2 n) + lnW A s z (A 3 n)) → zV (zMo (z + 1 + 2) zX7_say) false n1 0 0 270 [(3, .int 1), (0, .ref 76), (1, .int (nI s)), (2, .int (nI n))] [] (wZ f o A J q' m' g') (fun r w' => r = none ∧ ∃ (q' : Nat) (m' : Int32) (g' : Nat → Int32), w' = wZ f o A J q' m' g' ∧ q ≤ q' ∧ q' ≤ q + 6 * szN A n ∧ nnW q' g' ∧ (o 19 < 0 → q' = q + lnW A s (z + 1) (nI n))) := by
        intro n1 q' m' g' hg' l1 u1 nn
        iterate 2 (refine zv_step (bX7_say (z + 1 + 2)) rfl rfl trivial ?_)
        refine zv_iff (by decide) ?_
        iterate 2 (refine zv_step (bX7_say (z + 1 + 2)) rfl rfl trivial ?_)
        refine zv_V1 (bX7_say (z + 1 + 2)) rfl rfl rfl rfl rfl rfl rfl ⟨rfl, rfl, rfl⟩ ⟨by show 0 + 1 ≤ z + 1 + 2; omega, by show 8 + (2 + 11) + 64 * (0) ≤ 64 * (z + 1 + 2); omega⟩ ⟨Nat.zero_le _, Nat.zero_le _⟩ (mSays f (upd o 20 _) A J _ _ (by omega) _) ?_
        rintro _ _ ⟨rfl, rfl⟩
        exact zv_ret (bX7_say (z + 1 + 2)) rfl rfl (Nat.zero_le _) (Nat.zero_le _) ⟨rfl, _, _, _, rfl, by omega, by omega, nnW_s hg' ⟨30, by decide, rfl⟩, (fun hm => by have e := hc hm; have a := nn hm; rw [lnW_nI (by omega) hkd h0, ← e, if_neg (by decide)]; omega)⟩
      obtain ⟨k9, y9, h0', hk9, h4, hy, hs9, hv0, hv1, _⟩ := hT n hlo hn
      have es := szN_of h4 hy
      have kd9 : k9 = kd := (nI_eq (by omega) (by omega)).mp (h0'.symm.trans h0)
      subst kd9
      rcases hs9 with ⟨k1, h2, h3, e⟩ | ⟨k1, k2, a, b, h2, la, ha, h3, lb, hb, e⟩ | ⟨k1, a, h2, la, ha, h3, e⟩
      · rcases (show k9 = 0 ∨ k9 = 1 by omega) with rfl | rfl
        · exact sayM0 f o A J hh (by omega) ih (by omega) (nnW_s hg ⟨29, by decide, rfl⟩) (K _) (by obtain ⟨v, hv, e⟩ := hv0 (Or.inl rfl); exact ⟨v, by omega, e⟩) h0 h2 h3 (by omega)
        · obtain ⟨v, hv9, ev⟩ := hv1 rfl
          exact sayM1 f o A J hh (by omega) ih (by omega) (nnW_s hg ⟨29, by decide, rfl⟩) (K _) hv9 ev h0 h2 h3 (by omega)
      · exact sayM2 f o A J hh (by omega) ih (by omega) (nnW_s hg ⟨29, by decide, rfl⟩) (K _) k1 k2 h0 h2 la ha h3 lb hb hn hz (by omega)
      · rcases (show k9 = 7 ∨ k9 = 8 ∨ k9 = 9 by omega) with rfl | rfl | rfl
        · exact sayM7 f o A J hh (by omega) ih (by omega) (nnW_s hg ⟨29, by decide, rfl⟩) (K _) (fun h => absurd h (by decide)) h0 h2 la ha h3 hn hz (by omega)
        · exact sayM8 f o A J hh (by omega) ih (by omega) (nnW_s hg ⟨29, by decide, rfl⟩) (K _) (fun h => absurd h (by decide)) h0 h2 la ha h3 hn hz (by omega)
        · exact sayM9 f o A J hh (by omega) ih (by omega) (nnW_s hg ⟨29, by decide, rfl⟩) (K _) (fun _ => by obtain ⟨v, hv, e⟩ := hv0 (Or.inr rfl); exact ⟨v, by omega, e⟩) h0 h2 la ha h3 hn hz (by omega)
set_option maxHeartbeats 1000000 in
set_option maxRecDepth 20000 in
theorem mSayAll (f : Nat → zC) (o : Nat → Int32) (A : Nat → Nat → Int32) (J : Nat → Nat → Int64) {lo hi : Nat} (hh : hi ≤ 450) (hT : tbI lo hi A) (hB : blI A) {s n : Nat} (hs : s < 8) (hlo : lo ≤ n) (hn : n < hi) : zK 43 zX7_sayAll [.ref 76, .int (nI s), .int (nI n)] (wR f o A J) (fun r w' => r = none ∧ ∃ (m' : Int32) (g' : Nat → Int32), w' = wZ f (upd o 19 (Int32.ofInt (-1))) A J (lnW A s 40 (nI n)) m' g' ∧ nnW (lnW A s 40 (nI n)) g') := by
  refine zK_of qX7_sayAll (by decide +kernel) rfl ?_
  iterate 6 (refine zv_step (bX7_sayAll 43) rfl rfl trivial ?_)
  refine zv_world (show _ = wZ f (upd o 19 (Int32.ofInt (-1))) A J 0 (o 20) (A 14) from rfl) ?_
  iterate 3 (refine zv_step (bX7_sayAll 43) rfl rfl trivial ?_)
  refine zv_V2 (bX7_sayAll 43) rfl rfl rfl rfl rfl rfl rfl ⟨rfl, rfl, rfl⟩ ⟨by decide, by decide⟩ ⟨Nat.zero_le _, Nat.zero_le _⟩ (mSay f (upd o 19 (Int32.ofInt (-1))) A J hh hT hB hs 40 n hlo hn (rN_sz (hT n hlo hn)).2.1 0 _ _ (by have := (rN_sz (hT n hlo hn)).2.1; omega) (fun i hi => absurd hi (by omega))) ?_
  rintro _ _ ⟨rfl, q1, m1, g1, rfl, l1, u1, w1, n1⟩
  have e9 : q1 = lnW A s 40 (nI n) := by have := n1 (show upd o 19 (Int32.ofInt (-1)) 19 < 0 by rw [upd_self]; decide); omega
  subst e9
  exact zv_ret (bX7_sayAll 43) rfl rfl (Nat.zero_le _) (Nat.zero_le _) ⟨rfl, _, _, rfl, w1⟩
end
section
theorem mIn (w : zW) (x : Int32) (l u : Int64) {a b : Int} (hl : l.toInt = a) (hu : u.toInt = b) : zK 0 zX7_in [.long x.toInt64, .long l, .long u] w (fun r w' => w' = w ∧ (((a ≤ x.toInt ∧ x.toInt ≤ b) ∧ r = some (.int 1)) ∨ (¬ (a ≤ x.toInt ∧ x.toInt ≤ b) ∧ r = some (.int 0)))) := by
  have h := hX7_in w x.toInt64 l u
  rw [Int32.toInt_toInt64, hl, hu] at h
  exact h
theorem in_nat {x : Int32} {b : Nat} (hb : b < 2 ^ 31) (h : (0 : Int) ≤ x.toInt ∧ x.toInt ≤ b) : ∃ n : Nat, n ≤ b ∧ x = nI n := by
  refine ⟨x.toInt.toNat, by omega, ?_⟩
  rw [← Int32.toInt_inj, nI_toInt (by omega)]
  omega
theorem pred_toInt {u : Nat} (h : u ≤ 450) : (nI u - Int32.ofInt 1).toInt = (u : Int) - 1 := by
  cases u with
  | zero => decide
  | succ u =>
    rw [show nI (u + 1) - Int32.ofInt 1 = nI u from nI_m1 u, nI_toInt (by omega)]
    omega
theorem mSetsE (f : Nat → zC) (o : Nat → Int32) (A : Nat → Nat → Int32) (J : Nat → Nat → Int64) {n : Nat} {x0 k v x y : Int32} (e : x0 = nI n) (hn : n < 450) (hx : 0 ≤ x → vp_in x 450) (hy : 0 ≤ y → vp_in y 450) : zK 0 zX7_sets [.ref 76, .int x0, .int k, .int v, .int x, .int y] (wR f o A J) (fun r w' => r = none ∧ w' = wR f o (setsA A n k v x y) J) := by
  subst e
  have h := mSets f o A J (n := nI n) (k := k) (v := v) (vp_in_nI hn (by decide)) hx hy
  rw [nI_clamp (by omega)] at h
  exact h
set_option maxHeartbeats 1000000 in
set_option maxRecDepth 20000 in
theorem mIsNode0 (f : Nat → zC) (o : Nat → Int32) (A : Nat → Nat → Int32) (J : Nat → Nat → Int64) (x : Int32) : zK 1 zX7_isNode [.ref 76, .int x] (wR f o A J) (fun r w' => w' = (wR f o A J) ∧ (((0 ≤ x.toInt ∧ x.toInt ≤ (o 0 - Int32.ofInt 1).toInt) ∧ r = some (.int 1)) ∨ (¬ (0 ≤ x.toInt ∧ x.toInt ≤ (o 0 - Int32.ofInt 1).toInt) ∧ r = some (.int 0)))) := by
  refine zK_of qX7_isNode (by decide +kernel) rfl ?_
  iterate 8 (refine zv_step (bX7_isNode 1) rfl rfl trivial ?_)
  refine zv_S3 (bX7_isNode 1) rfl rfl rfl rfl ⟨rfl, rfl, rfl⟩ ⟨by decide, by decide⟩ ⟨Nat.zero_le _, Nat.zero_le _⟩ (mIn _ _ _ _ (a := 0) (by decide) (Int32.toInt_toInt64 _)) ?_
  rintro _ _ ⟨rfl, ⟨g1, rfl⟩ | ⟨g1, rfl⟩⟩
  · skip
    exact zv_iret (bX7_isNode 1) rfl (Or.inr ⟨rfl, Or.inr rfl⟩) (Nat.zero_le _) (Nat.zero_le _) ⟨rfl, Or.inl ⟨g1, rfl⟩⟩
  · skip
    exact zv_iret (bX7_isNode 1) rfl (Or.inr ⟨rfl, Or.inl rfl⟩) (Nat.zero_le _) (Nat.zero_le _) ⟨rfl, Or.inr ⟨g1, rfl⟩⟩
theorem mIsNode (f : Nat → zC) (o : Nat → Int32) (A : Nat → Nat → Int32) (J : Nat → Nat → Int64) {u : Nat} (hu : u ≤ 120) (ho : o 0 = nI u) (x : Int32) : zK 1 zX7_isNode [.ref 76, .int x] (wR f o A J) (fun r w' => w' = (wR f o A J) ∧ (((0 ≤ x.toInt ∧ x.toInt ≤ (u : Int) - 1) ∧ r = some (.int 1)) ∨ (¬ (0 ≤ x.toInt ∧ x.toInt ≤ (u : Int) - 1) ∧ r = some (.int 0)))) := by
  have h := mIsNode0 f o A J x
  rw [ho, pred_toInt (by omega)] at h
  exact h
theorem nd_of {x : Int32} {u : Nat} (hu : u ≤ 450) (h : (0 : Int) ≤ x.toInt ∧ x.toInt ≤ (u : Int) - 1) : ∃ n : Nat, n < u ∧ x = nI n := by
  obtain ⟨n, hn, e⟩ := in_nat (b := u - 1) (by omega) ⟨h.1, by omega⟩
  subst e
  rw [nI_toInt (by omega)] at h
  exact ⟨n, by omega, rfl⟩
/-- NODES may have come -/
def ndX (u : Nat) (A : Nat → Nat → Int32) (u' : Nat) (A' : Nat → Nat → Int32) : Prop := u ≤ u' ∧ u' ≤ 120 ∧ tbI 0 u' A' ∧ (∀ r, 6 ≤ r → A' r = A r) ∧ (∀ r i, i < u → A' r i = A r i)
set_option maxHeartbeats 1000000 in
set_option maxRecDepth 20000 in
theorem mTwoY (w : zW) {k : Nat} (h1 : 2 ≤ k) (h2 : k ≤ 6) : zK 0 zX7_isTwo [.int (nI k)] w (fun r w' => w' = w ∧ r = some (.int 1)) := by
  refine zK_of qX7_isTwo (by decide +kernel) rfl ?_
  iterate 3 (refine zv_step (bX7_isTwo 0) rfl rfl trivial ?_)
  refine zv_iff (show ¬ nI k < nI 2 from nI_nlt h1 (by omega)) ?_
  iterate 3 (refine zv_step (bX7_isTwo 0) rfl rfl trivial ?_)
  refine zv_iff (show ¬ nI 6 < nI k from nI_nlt h2 (by omega)) ?_
  iterate 2 (refine zv_step (bX7_isTwo 0) rfl rfl trivial ?_)
  exact zv_iret (bX7_isTwo 0) rfl (Or.inr ⟨rfl, Or.inr rfl⟩) (Nat.zero_le _) (Nat.zero_le _) ⟨rfl, rfl⟩
set_option maxHeartbeats 1000000 in
set_option maxRecDepth 20000 in
theorem mTwoN (w : zW) {k : Nat} (h1 : 7 ≤ k) (h2 : k < 10) : zK 0 zX7_isTwo [.int (nI k)] w (fun r w' => w' = w ∧ r = some (.int 0)) := by
  refine zK_of qX7_isTwo (by decide +kernel) rfl ?_
  iterate 3 (refine zv_step (bX7_isTwo 0) rfl rfl trivial ?_)
  refine zv_iff (show ¬ nI k < nI 2 from nI_nlt (by omega) (by omega)) ?_
  iterate 3 (refine zv_step (bX7_isTwo 0) rfl rfl trivial ?_)
  refine zv_ift (show nI 6 < nI k from nI_lt (by omega) (by omega)) ?_
  iterate 1 (refine zv_step (bX7_isTwo 0) rfl rfl trivial ?_)
  exact zv_iret (bX7_isTwo 0) rfl (Or.inr ⟨rfl, Or.inl rfl⟩) (Nat.zero_le _) (Nat.zero_le _) ⟨rfl, rfl⟩
theorem nar_b {x : Int32} (h : x = 0 ∨ x = 1) : vp_nar .boolean x = x := by
  rcases h with rfl | rfl <;> decide
set_option maxHeartbeats 1000000 in
set_option maxRecDepth 20000 in
theorem mMeans (f : Nat → zC) (o : Nat → Int32) (A : Nat → Nat → Int32) (J : Nat → Nat → Int64) (x on : Int32) (hon : on = 0 ∨ on = 1) : zK 1 zX7_means [.ref 76, .int x, .int on] (wR f o A J) (fun r w' => (∃ v : Nat, v ≤ 9 ∧ x = nI v ∧ w' = wR f o (updA A 6 (upd (A 6) v on)) J ∧ ((A 6 v = on ∧ r = some (.int (Int32.ofInt 0))) ∨ (¬ A 6 v = on ∧ r = some (.int (Int32.ofInt 1))))) ∨ (¬ (0 ≤ x.toInt ∧ x.toInt ≤ 9) ∧ w' = (wR f o A J) ∧ r = some (.int (Int32.ofInt (-1))))) := by
  refine zK_of qX7_means (by decide +kernel) rfl ?_
  iterate 4 (refine zv_step (bX7_means 1) rfl rfl trivial ?_)
  refine zv_S3 (bX7_means 1) rfl rfl rfl rfl ⟨rfl, rfl, rfl⟩ ⟨by decide, by decide⟩ ⟨Nat.zero_le _, Nat.zero_le _⟩ (mIn _ _ _ _ (a := 0) (b := 9) (by decide) (by decide)) ?_
  rintro _ _ ⟨rfl, ⟨g1, rfl⟩ | ⟨g1, rfl⟩⟩
  · obtain ⟨v, hv, rfl⟩ := in_nat (x := x) (b := 9) (by decide) g1
    iterate 1 (refine zv_step (bX7_means 1) rfl rfl trivial ?_)
    refine zv_ift (by decide) ?_
    iterate 3 (refine zv_step (bX7_means 1) rfl rfl trivial ?_)
    refine zv_zale (bX7_means 1) rfl rfl (vp_in_nI (by omega) (by decide)) (show A 6 (nI v).toNatClampNeg = A 6 v by rw [nI_clamp (by omega)]) ?_
    iterate 2 (refine zv_step (bX7_means 1) rfl rfl trivial ?_)
    refine zv_ifb (fun h21 => ?_) (fun h21 => ?_)
    · iterate 6 (refine zv_step (bX7_means 1) rfl rfl trivial ?_)
      refine zv_step (bX7_means 1) rfl rfl (vp_in_nI (by omega) (by decide)) ?_
      iterate 1 (refine zv_step (bX7_means 1) rfl rfl trivial ?_)
      exact zv_iret (bX7_means 1) rfl (Or.inl rfl) (Nat.zero_le _) (Nat.zero_le _) (Or.inl ⟨v, hv, rfl, by show wR f o (updA A 6 (upd (A 6) (nI v).toNatClampNeg (vp_nar .boolean on))) J = _; rw [nI_clamp (by omega), nar_b hon], Or.inl ⟨h21, rfl⟩⟩)
    · iterate 7 (refine zv_step (bX7_means 1) rfl rfl trivial ?_)
      refine zv_step (bX7_means 1) rfl rfl (vp_in_nI (by omega) (by decide)) ?_
      iterate 1 (refine zv_step (bX7_means 1) rfl rfl trivial ?_)
      exact zv_iret (bX7_means 1) rfl (Or.inl rfl) (Nat.zero_le _) (Nat.zero_le _) (Or.inl ⟨v, hv, rfl, by show wR f o (updA A 6 (upd (A 6) (nI v).toNatClampNeg (vp_nar .boolean on))) J = _; rw [nI_clamp (by omega), nar_b hon], Or.inr ⟨h21, rfl⟩⟩)
  · skip
    iterate 1 (refine zv_step (bX7_means 1) rfl rfl trivial ?_)
    refine zv_iff (by decide) ?_
    iterate 1 (refine zv_step (bX7_means 1) rfl rfl trivial ?_)
    exact zv_iret (bX7_means 1) rfl (Or.inl rfl) (Nat.zero_le _) (Nat.zero_le _) (Or.inr ⟨g1, rfl, rfl⟩)
set_option maxHeartbeats 1000000 in
set_option maxRecDepth 20000 in
theorem mKeeps (f : Nat → zC) (o : Nat → Int32) (A : Nat → Nat → Int32) (J : Nat → Nat → Int64) (x y on : Int32) (hon : on = 0 ∨ on = 1) : zK 2 zX7_keeps [.ref 76, .int x, .int y, .int on] (wR f o A J) (fun r w' => (∃ s k : Nat, s < 8 ∧ (2 ≤ k ∧ k ≤ 9) ∧ k ≠ 8 ∧ x = nI s ∧ y = nI k ∧ w' = wR f o (updA A 7 (upd (A 7) (10 * s + k) on)) J ∧ ((A 7 (10 * s + k) = on ∧ r = some (.int (Int32.ofInt 0))) ∨ (¬ A 7 (10 * s + k) = on ∧ r = some (.int (Int32.ofInt 1))))) ∨ (¬ ((0 ≤ x.toInt ∧ x.toInt ≤ 7) ∧ (2 ≤ y.toInt ∧ y.toInt ≤ 9 ∧ y.toInt ≠ 8)) ∧ w' = (wR f o A J) ∧ r = some (.int (Int32.ofInt (-1))))) := by
  refine zK_of qX7_keeps (by decide +kernel) rfl ?_
  iterate 1 (refine zv_step (bX7_keeps 2) rfl rfl trivial ?_)
  refine zv_S1 (bX7_keeps 2) rfl rfl rfl rfl ⟨rfl, rfl, rfl⟩ ⟨by decide, by decide⟩ ⟨Nat.zero_le _, Nat.zero_le _⟩ (hX7_isStyle _ _) ?_
  rintro _ _ ⟨rfl, ⟨g1, rfl⟩ | ⟨g1, rfl⟩⟩
  · obtain ⟨s, hs, rfl⟩ := in_nat (x := x) (b := 7) (by decide) g1
    iterate 1 (refine zv_step (bX7_keeps 2) rfl rfl trivial ?_)
    refine zv_iff (by decide) ?_
    iterate 1 (refine zv_step (bX7_keeps 2) rfl rfl trivial ?_)
    refine zv_S1 (bX7_keeps 2) rfl rfl rfl rfl ⟨rfl, rfl, rfl⟩ ⟨by decide, by decide⟩ ⟨Nat.zero_le _, Nat.zero_le _⟩ (hX7_mayKeep _ _) ?_
    rintro _ _ ⟨rfl, ⟨g2, rfl⟩ | ⟨g2, rfl⟩⟩
    · obtain ⟨k, hk, rfl⟩ := in_nat (x := y) (b := 9) (by decide) ⟨by omega, by omega⟩
      rw [nI_toInt (by omega)] at g2
      iterate 1 (refine zv_step (bX7_keeps 2) rfl rfl trivial ?_)
      refine zv_ift (by decide) ?_
      iterate 7 (refine zv_step (bX7_keeps 2) rfl rfl trivial ?_)
      refine zv_zale (bX7_keeps 2) rfl rfl (show vp_in (c8 10 * nI s + nI k) 90 by rw [ix10]; exact vp_in_nI (by omega) (by decide)) (show A 7 (c8 10 * nI s + nI k).toNatClampNeg = A 7 (10 * s + k) by rw [ix10, nI_clamp (by omega)]) ?_
      iterate 2 (refine zv_step (bX7_keeps 2) rfl rfl trivial ?_)
      refine zv_ifb (fun h28 => ?_) (fun h28 => ?_)
      · iterate 10 (refine zv_step (bX7_keeps 2) rfl rfl trivial ?_)
        refine zv_step (bX7_keeps 2) rfl rfl (show vp_in (c8 10 * nI s + nI k) 90 by rw [ix10]; exact vp_in_nI (by omega) (by decide)) ?_
        iterate 1 (refine zv_step (bX7_keeps 2) rfl rfl trivial ?_)
        exact zv_iret (bX7_keeps 2) rfl (Or.inl rfl) (Nat.zero_le _) (Nat.zero_le _) (Or.inl ⟨s, k, by omega, by omega, by omega, rfl, rfl, by show wR f o (updA A 7 (upd (A 7) (c8 10 * nI s + nI k).toNatClampNeg (vp_nar .boolean on))) J = _; rw [ix10, nI_clamp (by omega), nar_b hon], Or.inl ⟨h28, rfl⟩⟩)
      · iterate 11 (refine zv_step (bX7_keeps 2) rfl rfl trivial ?_)
        refine zv_step (bX7_keeps 2) rfl rfl (show vp_in (c8 10 * nI s + nI k) 90 by rw [ix10]; exact vp_in_nI (by omega) (by decide)) ?_
        iterate 1 (refine zv_step (bX7_keeps 2) rfl rfl trivial ?_)
        exact zv_iret (bX7_keeps 2) rfl (Or.inl rfl) (Nat.zero_le _) (Nat.zero_le _) (Or.inl ⟨s, k, by omega, by omega, by omega, rfl, rfl, by show wR f o (updA A 7 (upd (A 7) (c8 10 * nI s + nI k).toNatClampNeg (vp_nar .boolean on))) J = _; rw [ix10, nI_clamp (by omega), nar_b hon], Or.inr ⟨h28, rfl⟩⟩)
    · skip
      iterate 1 (refine zv_step (bX7_keeps 2) rfl rfl trivial ?_)
      refine zv_iff (by decide) ?_
      iterate 1 (refine zv_step (bX7_keeps 2) rfl rfl trivial ?_)
      exact zv_iret (bX7_keeps 2) rfl (Or.inl rfl) (Nat.zero_le _) (Nat.zero_le _) (Or.inr ⟨fun q => g2 q.2, rfl, rfl⟩)
  · skip
    iterate 1 (refine zv_step (bX7_keeps 2) rfl rfl trivial ?_)
    refine zv_ift (by decide) ?_
    iterate 1 (refine zv_step (bX7_keeps 2) rfl rfl trivial ?_)
    exact zv_iret (bX7_keeps 2) rfl (Or.inl rfl) (Nat.zero_le _) (Nat.zero_le _) (Or.inr ⟨fun q => g1 q.1, rfl, rfl⟩)
set_option maxHeartbeats 1000000 in
set_option maxRecDepth 20000 in
theorem mLook (f : Nat → zC) (o : Nat → Int32) (A : Nat → Nat → Int32) (J : Nat → Nat → Int64) {u : Nat} (hu : u ≤ 120) (ho : o 0 = nI u) (hT : tbI 0 u A) (x y : Int32) : zK 42 zX7_look [.ref 76, .int x, .int y] (wR f o A J) (fun r w' => w' = (wR f o A J) ∧ ∃ v : Int32, r = some (.int v)) := by
  refine zK_of qX7_look (by decide +kernel) rfl ?_
  iterate 2 (refine zv_step (bX7_look 42) rfl rfl trivial ?_)
  refine zv_V1 (bX7_look 42) rfl rfl rfl rfl rfl rfl rfl ⟨rfl, rfl, rfl⟩ ⟨by decide, by decide⟩ ⟨Nat.zero_le _, Nat.zero_le _⟩ (mIsNode f o A J hu ho _) ?_
  rintro _ _ ⟨rfl, ⟨g1, rfl⟩ | ⟨g1, rfl⟩⟩
  · obtain ⟨n, hn, rfl⟩ := nd_of (by omega) g1
    iterate 1 (refine zv_step (bX7_look 42) rfl rfl trivial ?_)
    refine zv_iff (by decide) ?_
    iterate 4 (refine zv_step (bX7_look 42) rfl rfl trivial ?_)
    refine zv_S3 (bX7_look 42) rfl rfl rfl rfl ⟨rfl, rfl, rfl⟩ ⟨by decide, by decide⟩ ⟨Nat.zero_le _, Nat.zero_le _⟩ (mIn _ _ _ _ (a := 0) (b := 6) (by decide) (by decide)) ?_
    rintro _ _ ⟨rfl, ⟨g2, rfl⟩ | ⟨g2, rfl⟩⟩
    · skip
      iterate 1 (refine zv_step (bX7_look 42) rfl rfl trivial ?_)
      refine zv_ift (by decide) ?_
      have e1 : (nI n).toNatClampNeg = n := nI_clamp (by omega)
      have hv : vp_in (nI n) 450 := vp_in_nI (by omega) (by decide)
      obtain ⟨c, hc, rfl⟩ := in_nat (x := y) (b := 6) (by decide) g2
      refine zv_step (bX7_look 42) rfl rfl trivial ?_
      match c, hc with
      | 0, _ =>
        refine zv_step (bX7_look 42) rfl rfl (by decide) ?_
        iterate 3 (refine zv_step (bX7_look 42) rfl rfl trivial ?_)
        refine zv_iale (bX7_look 42) rfl rfl hv (show A 0 (nI n).toNatClampNeg = A 0 n by rw [e1]) ?_
        exact zv_iret (bX7_look 42) rfl (Or.inl rfl) (Nat.zero_le _) (Nat.zero_le _) ⟨rfl, _, rfl⟩
      | 1, _ =>
        refine zv_step (bX7_look 42) rfl rfl (by decide) ?_
        iterate 3 (refine zv_step (bX7_look 42) rfl rfl trivial ?_)
        refine zv_iale (bX7_look 42) rfl rfl hv (show A 1 (nI n).toNatClampNeg = A 1 n by rw [e1]) ?_
        exact zv_iret (bX7_look 42) rfl (Or.inl rfl) (Nat.zero_le _) (Nat.zero_le _) ⟨rfl, _, rfl⟩
      | 2, _ =>
        refine zv_step (bX7_look 42) rfl rfl (by decide) ?_
        iterate 3 (refine zv_step (bX7_look 42) rfl rfl trivial ?_)
        refine zv_iale (bX7_look 42) rfl rfl hv (show A 2 (nI n).toNatClampNeg = A 2 n by rw [e1]) ?_
        exact zv_iret (bX7_look 42) rfl (Or.inl rfl) (Nat.zero_le _) (Nat.zero_le _) ⟨rfl, _, rfl⟩
      | 3, _ =>
        refine zv_step (bX7_look 42) rfl rfl (by decide) ?_
        iterate 3 (refine zv_step (bX7_look 42) rfl rfl trivial ?_)
        refine zv_iale (bX7_look 42) rfl rfl hv (show A 3 (nI n).toNatClampNeg = A 3 n by rw [e1]) ?_
        exact zv_iret (bX7_look 42) rfl (Or.inl rfl) (Nat.zero_le _) (Nat.zero_le _) ⟨rfl, _, rfl⟩
      | 4, _ =>
        refine zv_step (bX7_look 42) rfl rfl (by decide) ?_
        iterate 3 (refine zv_step (bX7_look 42) rfl rfl trivial ?_)
        refine zv_iale (bX7_look 42) rfl rfl hv (show A 4 (nI n).toNatClampNeg = A 4 n by rw [e1]) ?_
        exact zv_iret (bX7_look 42) rfl (Or.inl rfl) (Nat.zero_le _) (Nat.zero_le _) ⟨rfl, _, rfl⟩
      | 5, _ =>
        refine zv_step (bX7_look 42) rfl rfl (by decide) ?_
        iterate 3 (refine zv_step (bX7_look 42) rfl rfl trivial ?_)
        refine zv_iale (bX7_look 42) rfl rfl hv (show A 5 (nI n).toNatClampNeg = A 5 n by rw [e1]) ?_
        exact zv_iret (bX7_look 42) rfl (Or.inl rfl) (Nat.zero_le _) (Nat.zero_le _) ⟨rfl, _, rfl⟩
      | 6, _ =>
        refine zv_step (bX7_look 42) rfl rfl (by decide) ?_
        iterate 2 (refine zv_step (bX7_look 42) rfl rfl trivial ?_)
        refine zv_V1 (bX7_look 42) rfl rfl rfl rfl rfl rfl rfl ⟨rfl, rfl, rfl⟩ ⟨by decide, by decide⟩ ⟨Nat.zero_le _, Nat.zero_le _⟩ (mRight f o A J (by omega) hT 40 _ (pt_of hT (Nat.zero_le _) hn)) ?_
        rintro _ _ ⟨rfl, rfl | rfl⟩
        · skip
          iterate 1 (refine zv_step (bX7_look 42) rfl rfl trivial ?_)
          refine zv_iff (by decide) ?_
          iterate 2 (refine zv_step (bX7_look 42) rfl rfl trivial ?_)
          exact zv_iret (bX7_look 42) rfl (Or.inl rfl) (Nat.zero_le _) (Nat.zero_le _) ⟨rfl, _, rfl⟩
        · skip
          iterate 1 (refine zv_step (bX7_look 42) rfl rfl trivial ?_)
          refine zv_ift (by decide) ?_
          iterate 1 (refine zv_step (bX7_look 42) rfl rfl trivial ?_)
          exact zv_iret (bX7_look 42) rfl (Or.inl rfl) (Nat.zero_le _) (Nat.zero_le _) ⟨rfl, _, rfl⟩
      | c + 7, h => exact absurd h (by omega)
    · skip
      iterate 1 (refine zv_step (bX7_look 42) rfl rfl trivial ?_)
      refine zv_iff (by decide) ?_
      iterate 1 (refine zv_step (bX7_look 42) rfl rfl trivial ?_)
      exact zv_iret (bX7_look 42) rfl (Or.inl rfl) (Nat.zero_le _) (Nat.zero_le _) ⟨rfl, _, rfl⟩
  · skip
    iterate 1 (refine zv_step (bX7_look 42) rfl rfl trivial ?_)
    refine zv_ift (by decide) ?_
    iterate 1 (refine zv_step (bX7_look 42) rfl rfl trivial ?_)
    exact zv_iret (bX7_look 42) rfl (Or.inl rfl) (Nat.zero_le _) (Nat.zero_le _) ⟨rfl, _, rfl⟩
set_option maxHeartbeats 1000000 in
set_option maxRecDepth 20000 in
theorem mAlikeP (f : Nat → zC) (o : Nat → Int32) (A : Nat → Nat → Int32) (J : Nat → Nat → Int64) {u : Nat} (hu : u ≤ 120) (ho : o 0 = nI u) (hT : tbI 0 u A) (x y : Int32) : zK 42 zX7_alike [.ref 76, .int x, .int y] (wR f o A J) (fun r w' => w' = (wR f o A J) ∧ ∃ v : Int32, r = some (.int v)) := by
  refine zK_of qX7_alike (by decide +kernel) rfl ?_
  iterate 2 (refine zv_step (bX7_alike 42) rfl rfl trivial ?_)
  refine zv_V1 (bX7_alike 42) rfl rfl rfl rfl rfl rfl rfl ⟨rfl, rfl, rfl⟩ ⟨by decide, by decide⟩ ⟨Nat.zero_le _, Nat.zero_le _⟩ (mIsNode f o A J hu ho _) ?_
  rintro _ _ ⟨rfl, ⟨g1, rfl⟩ | ⟨g1, rfl⟩⟩
  · obtain ⟨n, hn, rfl⟩ := nd_of (by omega) g1
    iterate 1 (refine zv_step (bX7_alike 42) rfl rfl trivial ?_)
    refine zv_iff (by decide) ?_
    iterate 2 (refine zv_step (bX7_alike 42) rfl rfl trivial ?_)
    refine zv_V1 (bX7_alike 42) rfl rfl rfl rfl rfl rfl rfl ⟨rfl, rfl, rfl⟩ ⟨by decide, by decide⟩ ⟨Nat.zero_le _, Nat.zero_le _⟩ (mIsNode f o A J hu ho _) ?_
    rintro _ _ ⟨rfl, ⟨g2, rfl⟩ | ⟨g2, rfl⟩⟩
    · obtain ⟨m, hm, rfl⟩ := nd_of (by omega) g2
      iterate 1 (refine zv_step (bX7_alike 42) rfl rfl trivial ?_)
      refine zv_ift (by decide) ?_
      iterate 3 (refine zv_step (bX7_alike 42) rfl rfl trivial ?_)
      refine zv_V2 (bX7_alike 42) rfl rfl rfl rfl rfl rfl rfl ⟨rfl, rfl, rfl⟩ ⟨by decide, by decide⟩ ⟨Nat.zero_le _, Nat.zero_le _⟩ (mAlike f o A J (by omega) hT 40 _ _ (pt_of hT (Nat.zero_le _) hn) (pt_of hT (Nat.zero_le _) hm)) ?_
      rintro _ _ ⟨rfl, ⟨g3, rfl⟩ | ⟨g3, rfl⟩⟩
      · skip
        iterate 1 (refine zv_step (bX7_alike 42) rfl rfl trivial ?_)
        refine zv_iff (by decide) ?_
        iterate 2 (refine zv_step (bX7_alike 42) rfl rfl trivial ?_)
        exact zv_iret (bX7_alike 42) rfl (Or.inl rfl) (Nat.zero_le _) (Nat.zero_le _) ⟨rfl, _, rfl⟩
      · skip
        iterate 1 (refine zv_step (bX7_alike 42) rfl rfl trivial ?_)
        refine zv_ift (by decide) ?_
        iterate 1 (refine zv_step (bX7_alike 42) rfl rfl trivial ?_)
        exact zv_iret (bX7_alike 42) rfl (Or.inl rfl) (Nat.zero_le _) (Nat.zero_le _) ⟨rfl, _, rfl⟩
    · skip
      iterate 1 (refine zv_step (bX7_alike 42) rfl rfl trivial ?_)
      refine zv_iff (by decide) ?_
      iterate 2 (refine zv_step (bX7_alike 42) rfl rfl trivial ?_)
      exact zv_iret (bX7_alike 42) rfl (Or.inl rfl) (Nat.zero_le _) (Nat.zero_le _) ⟨rfl, _, rfl⟩
  · skip
    iterate 1 (refine zv_step (bX7_alike 42) rfl rfl trivial ?_)
    refine zv_ift (by decide) ?_
    iterate 2 (refine zv_step (bX7_alike 42) rfl rfl trivial ?_)
    exact zv_iret (bX7_alike 42) rfl (Or.inl rfl) (Nat.zero_le _) (Nat.zero_le _) ⟨rfl, _, rfl⟩
end
section
set_option maxHeartbeats 1000000 in
set_option maxRecDepth 20000 in
theorem mWords (f : Nat → zC) (o : Nat → Int32) (A : Nat → Nat → Int32) (J : Nat → Nat → Int64) {u : Nat} (hu : u ≤ 120) (ho : o 0 = nI u) (hT : tbI 0 u A) (x y : Int32) : zK 43 zX7_words [.ref 76, .int x, .int y] (wR f o A J) (fun r w' => w' = (wR f o A J) ∧ ∃ v : Int32, r = some (.int v)) := by
  refine zK_of qX7_words (by decide +kernel) rfl ?_
  iterate 1 (refine zv_step (bX7_words 43) rfl rfl trivial ?_)
  refine zv_S1 (bX7_words 43) rfl rfl rfl rfl ⟨rfl, rfl, rfl⟩ ⟨by decide, by decide⟩ ⟨Nat.zero_le _, Nat.zero_le _⟩ (hX7_isStyle _ _) ?_
  rintro _ _ ⟨rfl, ⟨g1, rfl⟩ | ⟨g1, rfl⟩⟩
  · obtain ⟨s, hs, rfl⟩ := in_nat (x := x) (b := 7) (by decide) g1
    iterate 1 (refine zv_step (bX7_words 43) rfl rfl trivial ?_)
    refine zv_iff (by decide) ?_
    iterate 2 (refine zv_step (bX7_words 43) rfl rfl trivial ?_)
    refine zv_V1 (bX7_words 43) rfl rfl rfl rfl rfl rfl rfl ⟨rfl, rfl, rfl⟩ ⟨by decide, by decide⟩ ⟨Nat.zero_le _, Nat.zero_le _⟩ (mIsNode f o A J hu ho _) ?_
    rintro _ _ ⟨rfl, ⟨g2, rfl⟩ | ⟨g2, rfl⟩⟩
    · obtain ⟨n, hn, rfl⟩ := nd_of (by omega) g2
      iterate 1 (refine zv_step (bX7_words 43) rfl rfl trivial ?_)
      refine zv_ift (by decide) ?_
      iterate 3 (refine zv_step (bX7_words 43) rfl rfl trivial ?_)
      refine zv_V2 (bX7_words 43) rfl rfl rfl rfl rfl rfl rfl ⟨rfl, rfl, rfl⟩ ⟨by decide, by decide⟩ ⟨Nat.zero_le _, Nat.zero_le _⟩ (mLength f o A J (by omega) hT (by omega) 40 _ (pt_of hT (Nat.zero_le _) hn)) ?_
      rintro _ _ ⟨rfl, rfl⟩
      iterate 4 (refine zv_step (bX7_words 43) rfl rfl trivial ?_)
      refine zv_ifb (fun h27 => ?_) (fun h27 => ?_)
      · iterate 1 (refine zv_step (bX7_words 43) rfl rfl trivial ?_)
        exact zv_iret (bX7_words 43) rfl (Or.inl rfl) (Nat.zero_le _) (Nat.zero_le _) ⟨rfl, _, rfl⟩
      · iterate 2 (refine zv_step (bX7_words 43) rfl rfl trivial ?_)
        exact zv_iret (bX7_words 43) rfl (Or.inl rfl) (Nat.zero_le _) (Nat.zero_le _) ⟨rfl, _, rfl⟩
    · skip
      iterate 1 (refine zv_step (bX7_words 43) rfl rfl trivial ?_)
      refine zv_iff (by decide) ?_
      iterate 1 (refine zv_step (bX7_words 43) rfl rfl trivial ?_)
      exact zv_iret (bX7_words 43) rfl (Or.inl rfl) (Nat.zero_le _) (Nat.zero_le _) ⟨rfl, _, rfl⟩
  · skip
    iterate 1 (refine zv_step (bX7_words 43) rfl rfl trivial ?_)
    refine zv_ift (by decide) ?_
    iterate 1 (refine zv_step (bX7_words 43) rfl rfl trivial ?_)
    exact zv_iret (bX7_words 43) rfl (Or.inl rfl) (Nat.zero_le _) (Nat.zero_le _) ⟨rfl, _, rfl⟩
theorem tbI_u {lo hi : Nat} {A : Nat → Nat → Int32} (h : tbI lo hi A) {k : Nat} (hk : 5 ≤ k) (g : Nat → Int32) : tbI lo hi (updA A k g) := tbI_fr h (fun r hr i _ _ => by rw [updA_ne _ _ (by omega)])
/-- only what is said has changed -/
def qX (o : Nat → Int32) (A : Nat → Nat → Int32) (o' : Nat → Int32) (A' : Nat → Nat → Int32) : Prop := (∀ j, ¬ (18 ≤ j ∧ j ≤ 20) → o' j = o j) ∧ (∀ r, r ≠ 14 → r ≠ 15 → A' r = A r)
theorem qX_refl (o : Nat → Int32) (A : Nat → Nat → Int32) : qX o A o A := ⟨fun _ _ => rfl, fun _ _ _ => rfl⟩
theorem qX_trans {o o1 o2 : Nat → Int32} {A A1 A2 : Nat → Nat → Int32} (h : qX o A o1 A1) (k : qX o1 A1 o2 A2) : qX o A o2 A2 := ⟨fun j hj => (k.1 j hj).trans (h.1 j hj), fun r a b => (k.2 r a b).trans (h.2 r a b)⟩
theorem qX_say (o : Nat → Int32) (A : Nat → Nat → Int32) (a m q : Int32) (g : Nat → Int32) : qX o A (upd (upd (upd o 19 a) 20 m) 18 q) (updA A 14 g) := ⟨fun j hj => by rw [upd_ne _ _ (by omega), upd_ne _ _ (by omega), upd_ne _ _ (by omega)], fun r a b => updA_ne _ _ a⟩
theorem qX_15 (o : Nat → Int32) (A : Nat → Nat → Int32) (g : Nat → Int32) : qX o A o (updA A 15 g) := ⟨fun _ _ => rfl, fun r a b => updA_ne _ _ b⟩
theorem blI_q {A A' : Nat → Nat → Int32} {o o' : Nat → Int32} (h : blI A) (q : qX o A o' A') : blI A' := ⟨fun i => by rw [q.2 6 (by decide) (by decide)]; exact h.1 i, fun i => by rw [q.2 7 (by decide) (by decide)]; exact h.2 i⟩
theorem tbI_q {A A' : Nat → Nat → Int32} {o o' : Nat → Int32} {lo hi : Nat} (h : tbI lo hi A) (q : qX o A o' A') : tbI lo hi A' := tbI_fr h (fun r hr i _ _ => by rw [q.2 r (by omega) (by omega)])
set_option maxHeartbeats 1000000 in
set_option maxRecDepth 20000 in
theorem mWord (f : Nat → zC) (o : Nat → Int32) (A : Nat → Nat → Int32) (J : Nat → Nat → Int64) {u : Nat} (hu : u ≤ 120) (ho : o 0 = nI u) (hT : tbI 0 u A) (hB : blI A) (x y k : Int32) : zK 44 zX7_word [.ref 76, .int x, .int y, .int k] (wR f o A J) (fun r w' => ∃ (o' : Nat → Int32) (A' : Nat → Nat → Int32) (R : Int32), r = some (.int R) ∧ w' = wR f o' A' J ∧ qX o A o' A') := by
  refine zK_of qX7_word (by decide +kernel) rfl ?_
  iterate 1 (refine zv_step (bX7_word 44) rfl rfl trivial ?_)
  refine zv_S1 (bX7_word 44) rfl rfl rfl rfl ⟨rfl, rfl, rfl⟩ ⟨by decide, by decide⟩ ⟨Nat.zero_le _, Nat.zero_le _⟩ (hX7_isStyle _ _) ?_
  rintro _ _ ⟨rfl, ⟨g1, rfl⟩ | ⟨g1, rfl⟩⟩
  · obtain ⟨s, hs, rfl⟩ := in_nat (x := x) (b := 7) (by decide) g1
    iterate 1 (refine zv_step (bX7_word 44) rfl rfl trivial ?_)
    refine zv_iff (by decide) ?_
    iterate 2 (refine zv_step (bX7_word 44) rfl rfl trivial ?_)
    refine zv_V1 (bX7_word 44) rfl rfl rfl rfl rfl rfl rfl ⟨rfl, rfl, rfl⟩ ⟨by decide, by decide⟩ ⟨Nat.zero_le _, Nat.zero_le _⟩ (mIsNode f o A J hu ho _) ?_
    rintro _ _ ⟨rfl, ⟨g2, rfl⟩ | ⟨g2, rfl⟩⟩
    · obtain ⟨n, hn, rfl⟩ := nd_of (by omega) g2
      iterate 1 (refine zv_step (bX7_word 44) rfl rfl trivial ?_)
      refine zv_iff (by decide) ?_
      iterate 2 (refine zv_step (bX7_word 44) rfl rfl trivial ?_)
      refine zv_ifb (fun h16 => ?_) (fun h16 => ?_)
      · iterate 3 (refine zv_step (bX7_word 44) rfl rfl trivial ?_)
        refine zv_V2 (bX7_word 44) rfl rfl rfl rfl rfl rfl rfl ⟨rfl, rfl, rfl⟩ ⟨by decide, by decide⟩ ⟨Nat.zero_le _, Nat.zero_le _⟩ (mLength f o A J (by omega) hT (by omega) 40 _ (pt_of hT (Nat.zero_le _) hn)) ?_
        rintro _ _ ⟨rfl, rfl⟩
        iterate 4 (refine zv_step (bX7_word 44) rfl rfl trivial ?_)
        refine zv_ifb (fun h33 => ?_) (fun h33 => ?_)
        · iterate 3 (refine zv_step (bX7_word 44) rfl rfl trivial ?_)
          refine zv_ifb (fun h42 => ?_) (fun h42 => ?_)
          · iterate 3 (refine zv_step (bX7_word 44) rfl rfl trivial ?_)
            refine zv_V2 (bX7_word 44) rfl rfl rfl rfl rfl rfl rfl ⟨rfl, rfl, rfl⟩ ⟨by decide, by decide⟩ ⟨Nat.zero_le _, Nat.zero_le _⟩ (mSayAll f o A J (by omega) hT hB (by omega) (Nat.zero_le _) hn) ?_
            rintro _ _ ⟨rfl, m1, g9, rfl, w9⟩
            iterate 3 (refine zv_step (bX7_word 44) rfl rfl trivial ?_)
            refine zv_step (bX7_word 44) rfl rfl (vp_in_iff.mpr (by have hl := lnW_le (by omega) hT s 40 (nI n) (pt_of hT (Nat.zero_le _) hn); have hz := (rN_sz (hT n (Nat.zero_le _) hn)).2.1; rw [if_neg (nI_pos (by omega)), nI_clamp (by omega)] at hl; have a1 : (0 : Int32) ≤ k := h16; have a2 : k < nI (lnW A s 40 (nI n)) := h42; rw [Int32.le_iff_toInt_le, Int32.toInt_zero] at a1; rw [Int32.lt_iff_toInt_lt, nI_toInt (by omega)] at a2; omega)) ?_
            exact zv_iret (bX7_word 44) rfl (Or.inl rfl) (Nat.zero_le _) (Nat.zero_le _) ⟨_, _, _, rfl, rfl, qX_say o A _ _ _ _⟩
          · iterate 1 (refine zv_step (bX7_word 44) rfl rfl trivial ?_)
            exact zv_iret (bX7_word 44) rfl (Or.inl rfl) (Nat.zero_le _) (Nat.zero_le _) ⟨o, A, _, rfl, rfl, qX_refl o A⟩
        · iterate 1 (refine zv_step (bX7_word 44) rfl rfl trivial ?_)
          exact zv_iret (bX7_word 44) rfl (Or.inl rfl) (Nat.zero_le _) (Nat.zero_le _) ⟨o, A, _, rfl, rfl, qX_refl o A⟩
      · iterate 1 (refine zv_step (bX7_word 44) rfl rfl trivial ?_)
        exact zv_iret (bX7_word 44) rfl (Or.inl rfl) (Nat.zero_le _) (Nat.zero_le _) ⟨o, A, _, rfl, rfl, qX_refl o A⟩
    · skip
      iterate 1 (refine zv_step (bX7_word 44) rfl rfl trivial ?_)
      refine zv_ift (by decide) ?_
      iterate 1 (refine zv_step (bX7_word 44) rfl rfl trivial ?_)
      exact zv_iret (bX7_word 44) rfl (Or.inl rfl) (Nat.zero_le _) (Nat.zero_le _) ⟨o, A, _, rfl, rfl, qX_refl o A⟩
  · skip
    iterate 1 (refine zv_step (bX7_word 44) rfl rfl trivial ?_)
    refine zv_ift (by decide) ?_
    iterate 1 (refine zv_step (bX7_word 44) rfl rfl trivial ?_)
    exact zv_iret (bX7_word 44) rfl (Or.inl rfl) (Nat.zero_le _) (Nat.zero_le _) ⟨o, A, _, rfl, rfl, qX_refl o A⟩
set_option maxHeartbeats 1000000 in
set_option maxRecDepth 20000 in
theorem sound1 (f : Nat → zC) (o : Nat → Int32) (A : Nat → Nat → Int32) (J : Nat → Nat → Int64) {n m : Nat} (hn : n ≤ 80) {x y z : Int32} {n0 : Nat} {Q : Option Value → zW → Prop} (kk : ∀ g, zV (zMo 44 zX7_sound) false n0 0 0 94 [(6, .int (nI n)), (5, .int (nI m)), (4, .int (nI n)), (0, .ref 76), (1, .int x), (2, .int y), (3, .int z)] [] (wR f o (updA A 15 g) J) Q) : ∀ (c k : Nat) (g : Nat → Int32), k + c = n → ∀ {x6 : Int32}, x6 = nI k → zV (zMo 44 zX7_sound) false n0 0 0 67 [(6, .int x6), (5, .int (nI m)), (4, .int (nI n)), (0, .ref 76), (1, .int x), (2, .int y), (3, .int z)] [] (wR f o (updA A 15 g) J) Q := by
  intro c
  induction c with
  | zero =>
    intro k g hc x6 e6
    subst e6
    obtain rfl : k = n := by omega
    iterate 3 (refine zv_step (bX7_sound 44) rfl rfl trivial ?_)
    refine zv_ift (nI_le (by omega) (by omega)) ?_
    exact kk g
  | succ c ih =>
    intro k g hc x6 e6
    subst e6
    iterate 3 (refine zv_step (bX7_sound 44) rfl rfl trivial ?_)
    refine zv_iff (fun h => absurd ((nI_leI (by omega) (by omega)).mp h) (by omega)) ?_
    iterate 6 (refine zv_step (bX7_sound 44) rfl rfl trivial ?_)
    refine zv_iale (bX7_sound 44) rfl rfl (vp_in_nI (by omega) (by decide)) (show A 14 (nI k).toNatClampNeg = A 14 k by rw [nI_clamp (by omega)]) ?_
    refine zv_step (bX7_sound 44) rfl rfl (vp_in_nI (by omega) (by decide)) ?_
    iterate 2 (refine zv_step (bX7_sound 44) rfl rfl trivial ?_)
    refine zv_world (show _ = wR f o (updA A 15 (upd g k (A 14 k))) J from by rw [show upd g k (A 14 k) = upd g (nI k).toNatClampNeg (A 14 k) by rw [nI_clamp (by omega)]]; rfl) ?_
    exact ih (k + 1) _ (by omega) (nI_1 k)
set_option maxHeartbeats 1000000 in
set_option maxRecDepth 20000 in
theorem sound2 (f : Nat → zC) (o : Nat → Int32) (A : Nat → Nat → Int32) (J : Nat → Nat → Int64) {n m : Nat} (hn : n ≤ 80) {x y z : Int32} {n0 : Nat} {Q : Option Value → zW → Prop} (hQ : ∀ v : Int32, Q (some (.int v)) (wR f o A J)) : ∀ (c k : Nat), k + c = n → ∀ {x7 b : Int32}, x7 = nI k → zV (zMo 44 zX7_sound) false n0 0 0 117 [(7, .int x7), (6, .int b), (5, .int (nI m)), (4, .int (nI n)), (0, .ref 76), (1, .int x), (2, .int y), (3, .int z)] [] (wR f o A J) Q := by
  intro c
  induction c with
  | zero =>
    intro k hc x7 b e7
    subst e7
    obtain rfl : k = n := by omega
    iterate 3 (refine zv_step (bX7_sound 44) rfl rfl trivial ?_)
    refine zv_ift (nI_le (by omega) (by omega)) ?_
    iterate 2 (refine zv_step (bX7_sound 44) rfl rfl trivial ?_)
    refine zv_ifb (fun h161 => ?_) (fun h161 => ?_)
    · iterate 1 (refine zv_step (bX7_sound 44) rfl rfl trivial ?_)
      exact zv_iret (bX7_sound 44) rfl (Or.inl rfl) (Nat.zero_le _) (Nat.zero_le _) (hQ _)
    · iterate 2 (refine zv_step (bX7_sound 44) rfl rfl trivial ?_)
      exact zv_iret (bX7_sound 44) rfl (Or.inl rfl) (Nat.zero_le _) (Nat.zero_le _) (hQ _)
  | succ c ih =>
    intro k hc x7 b e7
    subst e7
    iterate 3 (refine zv_step (bX7_sound 44) rfl rfl trivial ?_)
    refine zv_iff (fun h => absurd ((nI_leI (by omega) (by omega)).mp h) (by omega)) ?_
    iterate 2 (refine zv_step (bX7_sound 44) rfl rfl trivial ?_)
    refine zv_ifb (fun h126 => ?_) (fun h126 => ?_)
    · iterate 2 (refine zv_step (bX7_sound 44) rfl rfl trivial ?_)
      refine zv_ifb (fun h161 => ?_) (fun h161 => ?_)
      · iterate 1 (refine zv_step (bX7_sound 44) rfl rfl trivial ?_)
        exact zv_iret (bX7_sound 44) rfl (Or.inl rfl) (Nat.zero_le _) (Nat.zero_le _) (hQ _)
      · iterate 2 (refine zv_step (bX7_sound 44) rfl rfl trivial ?_)
        exact zv_iret (bX7_sound 44) rfl (Or.inl rfl) (Nat.zero_le _) (Nat.zero_le _) (hQ _)
    · iterate 3 (refine zv_step (bX7_sound 44) rfl rfl trivial ?_)
      refine zv_iale (bX7_sound 44) rfl rfl (vp_in_nI (by omega) (by decide)) (show A 15 (nI k).toNatClampNeg = A 15 k by rw [nI_clamp (by omega)]) ?_
      iterate 3 (refine zv_step (bX7_sound 44) rfl rfl trivial ?_)
      refine zv_iale (bX7_sound 44) rfl rfl (vp_in_nI (by omega) (by decide)) (show A 14 (nI k).toNatClampNeg = A 14 k by rw [nI_clamp (by omega)]) ?_
      iterate 1 (refine zv_step (bX7_sound 44) rfl rfl trivial ?_)
      refine zv_ifb (fun h143 => ?_) (fun h143 => ?_)
      · iterate 4 (refine zv_step (bX7_sound 44) rfl rfl trivial ?_)
        refine zv_locals (l := [(7, .int (nI k + Int32.ofInt 1)), (6, .int (Int32.ofInt 0)), (5, .int (nI m)), (4, .int (nI n)), (0, .ref 76), (1, .int x), (2, .int y), (3, .int z)]) (l' := [(7, .int (nI k + Int32.ofInt 1)), (6, .int (Int32.ofInt 0)), (5, .int (nI m)), (4, .int (nI n)), (0, .ref 76), (1, .int x), (2, .int y), (3, .int z)]) ?_ (ih (k + 1) (by omega) (nI_1 k))
        simp
      · iterate 5 (refine zv_step (bX7_sound 44) rfl rfl trivial ?_)
        refine zv_locals (l := [(7, .int (nI k + Int32.ofInt 1)), (6, .int (Int32.ofInt 1)), (5, .int (nI m)), (4, .int (nI n)), (0, .ref 76), (1, .int x), (2, .int y), (3, .int z)]) (l' := [(7, .int (nI k + Int32.ofInt 1)), (6, .int (Int32.ofInt 1)), (5, .int (nI m)), (4, .int (nI n)), (0, .ref 76), (1, .int x), (2, .int y), (3, .int z)]) ?_ (ih (k + 1) (by omega) (nI_1 k))
        simp
set_option maxHeartbeats 1000000 in
set_option maxRecDepth 20000 in
theorem mSound (f : Nat → zC) (o : Nat → Int32) (A : Nat → Nat → Int32) (J : Nat → Nat → Int64) {u : Nat} (hu : u ≤ 120) (ho : o 0 = nI u) (hT : tbI 0 u A) (hB : blI A) (x y z : Int32) : zK 44 zX7_sound [.ref 76, .int x, .int y, .int z] (wR f o A J) (fun r w' => ∃ (o' : Nat → Int32) (A' : Nat → Nat → Int32) (R : Int32), r = some (.int R) ∧ w' = wR f o' A' J ∧ qX o A o' A') := by
  refine zK_of qX7_sound (by decide +kernel) rfl ?_
  iterate 1 (refine zv_step (bX7_sound 44) rfl rfl trivial ?_)
  refine zv_S1 (bX7_sound 44) rfl rfl rfl rfl ⟨rfl, rfl, rfl⟩ ⟨by decide, by decide⟩ ⟨Nat.zero_le _, Nat.zero_le _⟩ (hX7_isStyle _ _) ?_
  rintro _ _ ⟨rfl, ⟨g1, rfl⟩ | ⟨g1, rfl⟩⟩
  · obtain ⟨s, hs, rfl⟩ := in_nat (x := x) (b := 7) (by decide) g1
    iterate 1 (refine zv_step (bX7_sound 44) rfl rfl trivial ?_)
    refine zv_iff (by decide) ?_
    iterate 2 (refine zv_step (bX7_sound 44) rfl rfl trivial ?_)
    refine zv_V1 (bX7_sound 44) rfl rfl rfl rfl rfl rfl rfl ⟨rfl, rfl, rfl⟩ ⟨by decide, by decide⟩ ⟨Nat.zero_le _, Nat.zero_le _⟩ (mIsNode f o A J hu ho _) ?_
    rintro _ _ ⟨rfl, ⟨g2, rfl⟩ | ⟨g2, rfl⟩⟩
    · obtain ⟨n, hn, rfl⟩ := nd_of (by omega) g2
      iterate 1 (refine zv_step (bX7_sound 44) rfl rfl trivial ?_)
      refine zv_iff (by decide) ?_
      iterate 2 (refine zv_step (bX7_sound 44) rfl rfl trivial ?_)
      refine zv_V1 (bX7_sound 44) rfl rfl rfl rfl rfl rfl rfl ⟨rfl, rfl, rfl⟩ ⟨by decide, by decide⟩ ⟨Nat.zero_le _, Nat.zero_le _⟩ (mIsNode f o A J hu ho _) ?_
      rintro _ _ ⟨rfl, ⟨g3, rfl⟩ | ⟨g3, rfl⟩⟩
      · obtain ⟨m, hm, rfl⟩ := nd_of (by omega) g3
        iterate 1 (refine zv_step (bX7_sound 44) rfl rfl trivial ?_)
        refine zv_ift (by decide) ?_
        iterate 3 (refine zv_step (bX7_sound 44) rfl rfl trivial ?_)
        refine zv_V2 (bX7_sound 44) rfl rfl rfl rfl rfl rfl rfl ⟨rfl, rfl, rfl⟩ ⟨by decide, by decide⟩ ⟨Nat.zero_le _, Nat.zero_le _⟩ (mLength f o A J (by omega) hT (by omega) 40 _ (pt_of hT (Nat.zero_le _) hn)) ?_
        rintro _ _ ⟨rfl, rfl⟩
        iterate 4 (refine zv_step (bX7_sound 44) rfl rfl trivial ?_)
        refine zv_V2 (bX7_sound 44) rfl rfl rfl rfl rfl rfl rfl ⟨rfl, rfl, rfl⟩ ⟨by decide, by decide⟩ ⟨Nat.zero_le _, Nat.zero_le _⟩ (mLength f o A J (by omega) hT (by omega) 40 _ (pt_of hT (Nat.zero_le _) hm)) ?_
        rintro _ _ ⟨rfl, rfl⟩
        iterate 4 (refine zv_step (bX7_sound 44) rfl rfl trivial ?_)
        refine zv_ifb (fun h45 => ?_) (fun h45 => ?_)
        · iterate 1 (refine zv_step (bX7_sound 44) rfl rfl trivial ?_)
          exact zv_iret (bX7_sound 44) rfl (Or.inl rfl) (Nat.zero_le _) (Nat.zero_le _) ⟨o, A, _, rfl, rfl, qX_refl o A⟩
        · have hl0 : nI (lnW A s 40 (nI n)) ≤ nI 80 := Int32.not_lt.mp h45
          iterate 3 (refine zv_step (bX7_sound 44) rfl rfl trivial ?_)
          refine zv_ifb (fun h52 => ?_) (fun h52 => ?_)
          · iterate 3 (refine zv_step (bX7_sound 44) rfl rfl trivial ?_)
            refine zv_V2 (bX7_sound 44) rfl rfl rfl rfl rfl rfl rfl ⟨rfl, rfl, rfl⟩ ⟨by decide, by decide⟩ ⟨Nat.zero_le _, Nat.zero_le _⟩ (mSayAll f o A J (by omega) hT hB (by omega) (Nat.zero_le _) hn) ?_
            rintro _ _ ⟨rfl, m1, g9, rfl, w9⟩
            iterate 2 (refine zv_step (bX7_sound 44) rfl rfl trivial ?_)
            have hl1 : nI (lnW A s 40 (nI n)) ≤ nI 80 := hl0
            have hl2 : lnW A s 40 (nI n) ≤ 80 := by
              have hl := lnW_le (by omega) hT s 40 (nI n) (pt_of hT (Nat.zero_le _) hn)
              have hz := (rN_sz (hT n (Nat.zero_le _) hn)).2.1
              rw [if_neg (nI_pos (by omega)), nI_clamp (by omega)] at hl
              rwa [nI_leI (by omega) (by decide)] at hl1
            refine zv_world (show _ = wR f (upd (upd (upd o 19 (Int32.ofInt (-1))) 20 m1) 18 (nI (lnW A s 40 (nI n)))) (updA (updA A 14 g9) 15 (A 15)) J from rfl) ?_
            refine zv_locals (l := [(6, .int (Int32.ofInt 0)), (5, .int (nI (lnW A s 40 (nI m)))), (4, .int (nI (lnW A s 40 (nI n)))), (0, .ref 76), (1, .int (nI s)), (2, .int (nI n)), (3, .int (nI m))]) (l' := [(6, .int (Int32.ofInt 0)), (5, .int (nI (lnW A s 40 (nI m)))), (4, .int (nI (lnW A s 40 (nI n)))), (0, .ref 76), (1, .int (nI s)), (2, .int (nI n)), (3, .int (nI m))]) (fun q h => h) (sound1 f (upd (upd (upd o 19 (Int32.ofInt (-1))) 20 m1) 18 (nI (lnW A s 40 (nI n)))) (updA A 14 g9) J hl2 (fun ga => ?_) (lnW A s 40 (nI n)) 0 (A 15) (by omega) rfl)
            have hq1 := qX_trans (qX_say o A (Int32.ofInt (-1)) m1 (nI (lnW A s 40 (nI n))) g9) (qX_15 _ _ ga)
            iterate 3 (refine zv_step (bX7_sound 44) rfl rfl trivial ?_)
            refine zv_V2 (bX7_sound 44) rfl rfl rfl rfl rfl rfl rfl ⟨rfl, rfl, rfl⟩ ⟨by decide, by decide⟩ ⟨Nat.zero_le _, Nat.zero_le _⟩ (mSayAll f (upd (upd (upd o 19 (Int32.ofInt (-1))) 20 m1) 18 (nI (lnW A s 40 (nI n)))) (updA (updA A 14 g9) 15 ga) J (by omega) (tbI_u (tbI_u hT (by decide) g9) (by decide) ga) (blI_q hB hq1) (by omega) (Nat.zero_le _) hm) ?_
            rintro _ _ ⟨rfl, m3, g8, rfl, w8⟩
            have hq2 := qX_trans hq1 (qX_say _ _ (Int32.ofInt (-1)) m3 (nI (lnW (updA (updA A 14 g9) 15 ga) s 40 (nI m))) g8)
            iterate 3 (refine zv_step (bX7_sound 44) rfl rfl trivial ?_)
            refine zv_ifb (fun h104 => ?_) (fun h104 => ?_)
            · iterate 4 (refine zv_step (bX7_sound 44) rfl rfl trivial ?_)
              refine zv_locals (l := [(7, .int (Int32.ofInt 0)), (6, .int (Int32.ofInt 0)), (5, .int (nI (lnW A s 40 (nI m)))), (4, .int (nI (lnW A s 40 (nI n)))), (0, .ref 76), (1, .int (nI s)), (2, .int (nI n)), (3, .int (nI m))]) (l' := [(7, .int (Int32.ofInt 0)), (6, .int (Int32.ofInt 0)), (5, .int (nI (lnW A s 40 (nI m)))), (4, .int (nI (lnW A s 40 (nI n)))), (0, .ref 76), (1, .int (nI s)), (2, .int (nI n)), (3, .int (nI m))]) ?_ (sound2 f _ _ J hl2 (fun v => ⟨_, _, _, rfl, rfl, hq2⟩) (lnW A s 40 (nI n)) 0 (by omega) rfl)
              simp
            · iterate 5 (refine zv_step (bX7_sound 44) rfl rfl trivial ?_)
              refine zv_locals (l := [(7, .int (Int32.ofInt 0)), (6, .int (Int32.ofInt 1)), (5, .int (nI (lnW A s 40 (nI m)))), (4, .int (nI (lnW A s 40 (nI n)))), (0, .ref 76), (1, .int (nI s)), (2, .int (nI n)), (3, .int (nI m))]) (l' := [(7, .int (Int32.ofInt 0)), (6, .int (Int32.ofInt 1)), (5, .int (nI (lnW A s 40 (nI m)))), (4, .int (nI (lnW A s 40 (nI n)))), (0, .ref 76), (1, .int (nI s)), (2, .int (nI n)), (3, .int (nI m))]) ?_ (sound2 f _ _ J hl2 (fun v => ⟨_, _, _, rfl, rfl, hq2⟩) (lnW A s 40 (nI n)) 0 (by omega) rfl)
              simp
          · iterate 1 (refine zv_step (bX7_sound 44) rfl rfl trivial ?_)
            exact zv_iret (bX7_sound 44) rfl (Or.inl rfl) (Nat.zero_le _) (Nat.zero_le _) ⟨o, A, _, rfl, rfl, qX_refl o A⟩
      · skip
        iterate 1 (refine zv_step (bX7_sound 44) rfl rfl trivial ?_)
        refine zv_iff (by decide) ?_
        iterate 1 (refine zv_step (bX7_sound 44) rfl rfl trivial ?_)
        exact zv_iret (bX7_sound 44) rfl (Or.inl rfl) (Nat.zero_le _) (Nat.zero_le _) ⟨o, A, _, rfl, rfl, qX_refl o A⟩
    · skip
      iterate 1 (refine zv_step (bX7_sound 44) rfl rfl trivial ?_)
      refine zv_ift (by decide) ?_
      iterate 1 (refine zv_step (bX7_sound 44) rfl rfl trivial ?_)
      exact zv_iret (bX7_sound 44) rfl (Or.inl rfl) (Nat.zero_le _) (Nat.zero_le _) ⟨o, A, _, rfl, rfl, qX_refl o A⟩
  · skip
    iterate 1 (refine zv_step (bX7_sound 44) rfl rfl trivial ?_)
    refine zv_ift (by decide) ?_
    iterate 1 (refine zv_step (bX7_sound 44) rfl rfl trivial ?_)
    exact zv_iret (bX7_sound 44) rfl (Or.inl rfl) (Nat.zero_le _) (Nat.zero_le _) ⟨o, A, _, rfl, rfl, qX_refl o A⟩
/-- the ear may have changed, and what is said -/
def eX (o : Nat → Int32) (A : Nat → Nat → Int32) (o' : Nat → Int32) (A' : Nat → Nat → Int32) : Prop := (∃ h : Nat, h ≤ 20 ∧ o' 10 = nI h ∧ nnW h (A' 8)) ∧ (∀ j, j ≠ 10 → ¬ (18 ≤ j ∧ j ≤ 20) → o' j = o j) ∧ (∀ r, r ≠ 8 → r ≠ 14 → r ≠ 15 → A' r = A r)
theorem eX_q {o o' : Nat → Int32} {A A' : Nat → Nat → Int32} {h : Nat} (hh : h ≤ 20) (e : o 10 = nI h) (hw : nnW h (A 8)) (q : qX o A o' A') : eX o A o' A' := ⟨⟨h, hh, (q.1 10 (by decide)).trans e, by rw [q.2 8 (by decide) (by decide)]; exact hw⟩, fun j _ a => q.1 j a, fun r _ a b => q.2 r a b⟩
set_option maxHeartbeats 1000000 in
set_option maxRecDepth 20000 in
theorem mEar (f : Nat → zC) (o : Nat → Int32) (A : Nat → Nat → Int32) (J : Nat → Nat → Int64) {h : Nat} (hh : h ≤ 20) (ho10 : o 10 = nI h) (x : Int32) : zK 1 zX7_ear [.ref 76, .int x] (wR f o A J) (fun r w' => w' = (wR f o A J) ∧ ∃ v : Int32, r = some (.int v)) := by
  refine zK_of qX7_ear (by decide +kernel) rfl ?_
  iterate 8 (refine zv_step (bX7_ear 1) rfl rfl trivial ?_)
  refine zv_S3 (bX7_ear 1) rfl rfl rfl rfl ⟨rfl, rfl, rfl⟩ ⟨by decide, by decide⟩ ⟨Nat.zero_le _, Nat.zero_le _⟩ (mIn _ _ _ _ (a := 0) (b := (h : Int) - 1) (by decide) (by rw [Int32.toInt_toInt64]; show (o 10 - Int32.ofInt 1).toInt = _; rw [ho10, pred_toInt (by omega)])) ?_
  rintro _ _ ⟨rfl, ⟨g1, rfl⟩ | ⟨g1, rfl⟩⟩
  · skip
    iterate 1 (refine zv_step (bX7_ear 1) rfl rfl trivial ?_)
    refine zv_iff (by decide) ?_
    iterate 3 (refine zv_step (bX7_ear 1) rfl rfl trivial ?_)
    refine zv_step (bX7_ear 1) rfl rfl (vp_in_iff.mpr (by omega)) ?_
    iterate 1 (refine zv_step (bX7_ear 1) rfl rfl trivial ?_)
    exact zv_iret (bX7_ear 1) rfl (Or.inl rfl) (Nat.zero_le _) (Nat.zero_le _) ⟨rfl, _, rfl⟩
  · skip
    iterate 1 (refine zv_step (bX7_ear 1) rfl rfl trivial ?_)
    refine zv_ift (by decide) ?_
    iterate 1 (refine zv_step (bX7_ear 1) rfl rfl trivial ?_)
    exact zv_iret (bX7_ear 1) rfl (Or.inl rfl) (Nat.zero_le _) (Nat.zero_le _) ⟨rfl, _, rfl⟩
theorem and31 (x : Int32) : ∃ e : Nat, e ≤ 31 ∧ x &&& c8 31 = nI e := by
  refine ⟨(x &&& c8 31).toBitVec.toNat, ?_, ?_⟩
  · rw [Int32.toBitVec_and, BitVec.toNat_and]
    exact Nat.and_le_right
  · rw [← Int32.toBitVec_inj]
    show _ = BitVec.ofNat 32 _
    rw [BitVec.ofNat_toNat, BitVec.setWidth_eq]
theorem nI_dec2 (k : Nat) : nI k + Int32.ofInt (-1) = nI k - Int32.ofInt 1 := by
  rw [Int32.sub_eq_add_neg]
  rfl
end
