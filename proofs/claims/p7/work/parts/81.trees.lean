set_option maxHeartbeats 1000000 in
set_option maxRecDepth 20000 in
theorem mRight (f : Nat → zC) (o : Nat → Int32) (A : Nat → Nat → Int32) (J : Nat → Nat → Int64) {lo hi : Nat} (hh : hi ≤ 450) (hT : tbI lo hi A) : ∀ (z : Nat) (x : Int32), pt lo hi A z x → zK (z + 1) zX7_isRight [.ref 76, .int x] (wR f o A J) (fun r w' => w' = (wR f o A J) ∧ (r = some (.int 1) ∨ r = some (.int 0))) := by
  intro z
  induction z with
  | zero =>
    intro x hx
    obtain rfl := pt_zero hT hx
    refine zK_of qX7_isRight (by decide +kernel) rfl ?_
    iterate 2 (refine zv_step (bX7_isRight (0 + 1)) rfl rfl trivial ?_)
    refine zv_iff (by decide) ?_
    iterate 1 (refine zv_step (bX7_isRight (0 + 1)) rfl rfl trivial ?_)
    exact zv_iret (bX7_isRight (0 + 1)) rfl (Or.inr ⟨rfl, Or.inr rfl⟩) (Nat.zero_le _) (Nat.zero_le _) ⟨rfl, Or.inl rfl⟩
  | succ z ih =>
    intro x hx
    rcases hx with rfl | ⟨n, rfl, hlo, hn, hz⟩
    · refine zK_of qX7_isRight (by decide +kernel) rfl ?_
      iterate 2 (refine zv_step (bX7_isRight ((z + 1) + 1)) rfl rfl trivial ?_)
      refine zv_iff (by decide) ?_
      iterate 1 (refine zv_step (bX7_isRight ((z + 1) + 1)) rfl rfl trivial ?_)
      exact zv_iret (bX7_isRight ((z + 1) + 1)) rfl (Or.inr ⟨rfl, Or.inr rfl⟩) (Nat.zero_le _) (Nat.zero_le _) ⟨rfl, Or.inl rfl⟩
    · have hN := hT n hlo hn
      have e1 : (nI n).toNatClampNeg = n := nI_clamp (by omega)
      have hv : vp_in (nI n) 450 := vp_in_nI (by omega) (by decide)
      obtain ⟨hp2, hp3⟩ := rN_parts hT hlo hn hz
      refine zK_of qX7_isRight (by decide +kernel) rfl ?_
      iterate 2 (refine zv_step (bX7_isRight ((z + 1) + 1)) rfl rfl trivial ?_)
      refine zv_ift (nI_pos' (by omega)) ?_
      iterate 3 (refine zv_step (bX7_isRight ((z + 1) + 1)) rfl rfl trivial ?_)
      refine zv_iale (bX7_isRight ((z + 1) + 1)) rfl rfl hv (show A 0 (nI n).toNatClampNeg = A 0 n by rw [e1]) ?_
      iterate 1 (refine zv_step (bX7_isRight ((z + 1) + 1)) rfl rfl trivial ?_)
      refine zv_ifb (fun h12 => ?_) (fun h12 => ?_)
      · iterate 3 (refine zv_step (bX7_isRight ((z + 1) + 1)) rfl rfl trivial ?_)
        refine zv_iale (bX7_isRight ((z + 1) + 1)) rfl rfl hv (show A 0 (nI n).toNatClampNeg = A 0 n by rw [e1]) ?_
        iterate 2 (refine zv_step (bX7_isRight ((z + 1) + 1)) rfl rfl trivial ?_)
        refine zv_ifb (fun h45 => ?_) (fun h45 => ?_)
        · iterate 5 (refine zv_step (bX7_isRight ((z + 1) + 1)) rfl rfl trivial ?_)
          refine zv_iff (by decide) ?_
          iterate 4 (refine zv_step (bX7_isRight ((z + 1) + 1)) rfl rfl trivial ?_)
          refine zv_iale (bX7_isRight ((z + 1) + 1)) rfl rfl hv (show A 2 (nI n).toNatClampNeg = A 2 n by rw [e1]) ?_
          refine zv_V1 (bX7_isRight ((z + 1) + 1)) rfl rfl rfl rfl rfl rfl rfl ⟨rfl, rfl, rfl⟩ ⟨by show z + 1 + 1 ≤ z + 1 + 1; omega, by show 8 + (3 + 11) + 64 * (z + 1) ≤ 64 * (z + 1 + 1); omega⟩ ⟨Nat.zero_le _, Nat.zero_le _⟩ (ih _ hp2) ?_
          rintro _ _ ⟨rfl, rfl | rfl⟩
          · skip
            iterate 1 (refine zv_step (bX7_isRight ((z + 1) + 1)) rfl rfl trivial ?_)
            refine zv_iff (by decide) ?_
            iterate 4 (refine zv_step (bX7_isRight ((z + 1) + 1)) rfl rfl trivial ?_)
            refine zv_iale (bX7_isRight ((z + 1) + 1)) rfl rfl hv (show A 3 (nI n).toNatClampNeg = A 3 n by rw [e1]) ?_
            refine zv_V1 (bX7_isRight ((z + 1) + 1)) rfl rfl rfl rfl rfl rfl rfl ⟨rfl, rfl, rfl⟩ ⟨by show z + 1 + 1 ≤ z + 1 + 1; omega, by show 8 + (3 + 11) + 64 * (z + 1) ≤ 64 * (z + 1 + 1); omega⟩ ⟨Nat.zero_le _, Nat.zero_le _⟩ (ih _ hp3) ?_
            rintro _ _ ⟨rfl, rfl | rfl⟩
            · skip
              iterate 1 (refine zv_step (bX7_isRight ((z + 1) + 1)) rfl rfl trivial ?_)
              refine zv_iff (by decide) ?_
              iterate 2 (refine zv_step (bX7_isRight ((z + 1) + 1)) rfl rfl trivial ?_)
              exact zv_iret (bX7_isRight ((z + 1) + 1)) rfl (Or.inr ⟨rfl, Or.inr rfl⟩) (Nat.zero_le _) (Nat.zero_le _) ⟨rfl, Or.inl rfl⟩
            · skip
              iterate 1 (refine zv_step (bX7_isRight ((z + 1) + 1)) rfl rfl trivial ?_)
              refine zv_ift (by decide) ?_
              iterate 1 (refine zv_step (bX7_isRight ((z + 1) + 1)) rfl rfl trivial ?_)
              exact zv_iret (bX7_isRight ((z + 1) + 1)) rfl (Or.inr ⟨rfl, Or.inl rfl⟩) (Nat.zero_le _) (Nat.zero_le _) ⟨rfl, Or.inr rfl⟩
          · skip
            iterate 1 (refine zv_step (bX7_isRight ((z + 1) + 1)) rfl rfl trivial ?_)
            refine zv_ift (by decide) ?_
            iterate 1 (refine zv_step (bX7_isRight ((z + 1) + 1)) rfl rfl trivial ?_)
            exact zv_iret (bX7_isRight ((z + 1) + 1)) rfl (Or.inr ⟨rfl, Or.inl rfl⟩) (Nat.zero_le _) (Nat.zero_le _) ⟨rfl, Or.inr rfl⟩
        · iterate 5 (refine zv_step (bX7_isRight ((z + 1) + 1)) rfl rfl trivial ?_)
          refine zv_iale (bX7_isRight ((z + 1) + 1)) rfl rfl hv (show A 1 (nI n).toNatClampNeg = A 1 n by rw [e1]) ?_
          obtain ⟨v, hv9, ev⟩ := rN_let hN (Or.inr (Decidable.not_not.mp h45))
          refine zv_step (bX7_isRight ((z + 1) + 1)) rfl rfl (show vp_in (A 1 n) 10 by rw [ev]; exact vp_in_nI (by omega) (by decide)) ?_
          iterate 1 (refine zv_step (bX7_isRight ((z + 1) + 1)) rfl rfl trivial ?_)
          refine zv_ifb (fun h59 => ?_) (fun h59 => ?_)
          · iterate 4 (refine zv_step (bX7_isRight ((z + 1) + 1)) rfl rfl trivial ?_)
            refine zv_ift (by decide) ?_
            iterate 1 (refine zv_step (bX7_isRight ((z + 1) + 1)) rfl rfl trivial ?_)
            exact zv_iret (bX7_isRight ((z + 1) + 1)) rfl (Or.inr ⟨rfl, Or.inl rfl⟩) (Nat.zero_le _) (Nat.zero_le _) ⟨rfl, Or.inr rfl⟩
          · iterate 5 (refine zv_step (bX7_isRight ((z + 1) + 1)) rfl rfl trivial ?_)
            refine zv_iff (by decide) ?_
            iterate 4 (refine zv_step (bX7_isRight ((z + 1) + 1)) rfl rfl trivial ?_)
            refine zv_iale (bX7_isRight ((z + 1) + 1)) rfl rfl hv (show A 2 (nI n).toNatClampNeg = A 2 n by rw [e1]) ?_
            refine zv_V1 (bX7_isRight ((z + 1) + 1)) rfl rfl rfl rfl rfl rfl rfl ⟨rfl, rfl, rfl⟩ ⟨by show z + 1 + 1 ≤ z + 1 + 1; omega, by show 8 + (3 + 11) + 64 * (z + 1) ≤ 64 * (z + 1 + 1); omega⟩ ⟨Nat.zero_le _, Nat.zero_le _⟩ (ih _ hp2) ?_
            rintro _ _ ⟨rfl, rfl | rfl⟩
            · skip
              iterate 1 (refine zv_step (bX7_isRight ((z + 1) + 1)) rfl rfl trivial ?_)
              refine zv_iff (by decide) ?_
              iterate 4 (refine zv_step (bX7_isRight ((z + 1) + 1)) rfl rfl trivial ?_)
              refine zv_iale (bX7_isRight ((z + 1) + 1)) rfl rfl hv (show A 3 (nI n).toNatClampNeg = A 3 n by rw [e1]) ?_
              refine zv_V1 (bX7_isRight ((z + 1) + 1)) rfl rfl rfl rfl rfl rfl rfl ⟨rfl, rfl, rfl⟩ ⟨by show z + 1 + 1 ≤ z + 1 + 1; omega, by show 8 + (3 + 11) + 64 * (z + 1) ≤ 64 * (z + 1 + 1); omega⟩ ⟨Nat.zero_le _, Nat.zero_le _⟩ (ih _ hp3) ?_
              rintro _ _ ⟨rfl, rfl | rfl⟩
              · skip
                iterate 1 (refine zv_step (bX7_isRight ((z + 1) + 1)) rfl rfl trivial ?_)
                refine zv_iff (by decide) ?_
                iterate 2 (refine zv_step (bX7_isRight ((z + 1) + 1)) rfl rfl trivial ?_)
                exact zv_iret (bX7_isRight ((z + 1) + 1)) rfl (Or.inr ⟨rfl, Or.inr rfl⟩) (Nat.zero_le _) (Nat.zero_le _) ⟨rfl, Or.inl rfl⟩
              · skip
                iterate 1 (refine zv_step (bX7_isRight ((z + 1) + 1)) rfl rfl trivial ?_)
                refine zv_ift (by decide) ?_
                iterate 1 (refine zv_step (bX7_isRight ((z + 1) + 1)) rfl rfl trivial ?_)
                exact zv_iret (bX7_isRight ((z + 1) + 1)) rfl (Or.inr ⟨rfl, Or.inl rfl⟩) (Nat.zero_le _) (Nat.zero_le _) ⟨rfl, Or.inr rfl⟩
            · skip
              iterate 1 (refine zv_step (bX7_isRight ((z + 1) + 1)) rfl rfl trivial ?_)
              refine zv_ift (by decide) ?_
              iterate 1 (refine zv_step (bX7_isRight ((z + 1) + 1)) rfl rfl trivial ?_)
              exact zv_iret (bX7_isRight ((z + 1) + 1)) rfl (Or.inr ⟨rfl, Or.inl rfl⟩) (Nat.zero_le _) (Nat.zero_le _) ⟨rfl, Or.inr rfl⟩
      · iterate 5 (refine zv_step (bX7_isRight ((z + 1) + 1)) rfl rfl trivial ?_)
        refine zv_iale (bX7_isRight ((z + 1) + 1)) rfl rfl hv (show A 1 (nI n).toNatClampNeg = A 1 n by rw [e1]) ?_
        obtain ⟨v, hv9, ev⟩ := rN_let hN (Or.inl (Decidable.not_not.mp h12))
        refine zv_step (bX7_isRight ((z + 1) + 1)) rfl rfl (show vp_in (A 1 n) 10 by rw [ev]; exact vp_in_nI (by omega) (by decide)) ?_
        iterate 1 (refine zv_step (bX7_isRight ((z + 1) + 1)) rfl rfl trivial ?_)
        refine zv_ifb (fun h26 => ?_) (fun h26 => ?_)
        · iterate 5 (refine zv_step (bX7_isRight ((z + 1) + 1)) rfl rfl trivial ?_)
          refine zv_ift (by decide) ?_
          iterate 1 (refine zv_step (bX7_isRight ((z + 1) + 1)) rfl rfl trivial ?_)
          exact zv_iret (bX7_isRight ((z + 1) + 1)) rfl (Or.inr ⟨rfl, Or.inl rfl⟩) (Nat.zero_le _) (Nat.zero_le _) ⟨rfl, Or.inr rfl⟩
        · iterate 5 (refine zv_step (bX7_isRight ((z + 1) + 1)) rfl rfl trivial ?_)
          refine zv_iff (by decide) ?_
          iterate 4 (refine zv_step (bX7_isRight ((z + 1) + 1)) rfl rfl trivial ?_)
          refine zv_iale (bX7_isRight ((z + 1) + 1)) rfl rfl hv (show A 2 (nI n).toNatClampNeg = A 2 n by rw [e1]) ?_
          refine zv_V1 (bX7_isRight ((z + 1) + 1)) rfl rfl rfl rfl rfl rfl rfl ⟨rfl, rfl, rfl⟩ ⟨by show z + 1 + 1 ≤ z + 1 + 1; omega, by show 8 + (3 + 11) + 64 * (z + 1) ≤ 64 * (z + 1 + 1); omega⟩ ⟨Nat.zero_le _, Nat.zero_le _⟩ (ih _ hp2) ?_
          rintro _ _ ⟨rfl, rfl | rfl⟩
          · skip
            iterate 1 (refine zv_step (bX7_isRight ((z + 1) + 1)) rfl rfl trivial ?_)
            refine zv_iff (by decide) ?_
            iterate 4 (refine zv_step (bX7_isRight ((z + 1) + 1)) rfl rfl trivial ?_)
            refine zv_iale (bX7_isRight ((z + 1) + 1)) rfl rfl hv (show A 3 (nI n).toNatClampNeg = A 3 n by rw [e1]) ?_
            refine zv_V1 (bX7_isRight ((z + 1) + 1)) rfl rfl rfl rfl rfl rfl rfl ⟨rfl, rfl, rfl⟩ ⟨by show z + 1 + 1 ≤ z + 1 + 1; omega, by show 8 + (3 + 11) + 64 * (z + 1) ≤ 64 * (z + 1 + 1); omega⟩ ⟨Nat.zero_le _, Nat.zero_le _⟩ (ih _ hp3) ?_
            rintro _ _ ⟨rfl, rfl | rfl⟩
            · skip
              iterate 1 (refine zv_step (bX7_isRight ((z + 1) + 1)) rfl rfl trivial ?_)
              refine zv_iff (by decide) ?_
              iterate 2 (refine zv_step (bX7_isRight ((z + 1) + 1)) rfl rfl trivial ?_)
              exact zv_iret (bX7_isRight ((z + 1) + 1)) rfl (Or.inr ⟨rfl, Or.inr rfl⟩) (Nat.zero_le _) (Nat.zero_le _) ⟨rfl, Or.inl rfl⟩
            · skip
              iterate 1 (refine zv_step (bX7_isRight ((z + 1) + 1)) rfl rfl trivial ?_)
              refine zv_ift (by decide) ?_
              iterate 1 (refine zv_step (bX7_isRight ((z + 1) + 1)) rfl rfl trivial ?_)
              exact zv_iret (bX7_isRight ((z + 1) + 1)) rfl (Or.inr ⟨rfl, Or.inl rfl⟩) (Nat.zero_le _) (Nat.zero_le _) ⟨rfl, Or.inr rfl⟩
          · skip
            iterate 1 (refine zv_step (bX7_isRight ((z + 1) + 1)) rfl rfl trivial ?_)
            refine zv_ift (by decide) ?_
            iterate 1 (refine zv_step (bX7_isRight ((z + 1) + 1)) rfl rfl trivial ?_)
            exact zv_iret (bX7_isRight ((z + 1) + 1)) rfl (Or.inr ⟨rfl, Or.inl rfl⟩) (Nat.zero_le _) (Nat.zero_le _) ⟨rfl, Or.inr rfl⟩
/-- what areAlike answers -/
def alk (A : Nat → Nat → Int32) : Nat → Int32 → Int32 → Prop
  | 0, a, b => a = m2 ∧ b = m2
  | z + 1, a, b => (a = m2 ∧ b = m2) ∨ ∃ i j : Nat, i < 450 ∧ j < 450 ∧ a = nI i ∧ b = nI j ∧ A 0 i = A 0 j ∧ A 1 i = A 1 j ∧ A 4 i = A 4 j ∧ alk A z (A 2 i) (A 2 j) ∧ alk A z (A 3 i) (A 3 j)
theorem m2_nI {n : Nat} (h : n < 450) : ¬ m2 = nI n := fun e => absurd (e ▸ nI_pos' (show n < 2 ^ 31 by omega) : (0 : Int32) ≤ m2) (by decide)
theorem alk_mm (A : Nat → Nat → Int32) (z : Nat) : alk A z m2 m2 := by
  cases z with
  | zero => exact ⟨rfl, rfl⟩
  | succ z => exact Or.inl ⟨rfl, rfl⟩
theorem alk_mn (A : Nat → Nat → Int32) (z : Nat) {n : Nat} (h : n < 450) : ¬ alk A z m2 (nI n) := by
  cases z with
  | zero => exact fun q => m2_nI h q.2.symm
  | succ z =>
    rintro (q | ⟨i, j, hi, hj, e, _⟩)
    · exact m2_nI h q.2.symm
    · exact m2_nI hi e
theorem alk_nm (A : Nat → Nat → Int32) (z : Nat) {n : Nat} (h : n < 450) : ¬ alk A z (nI n) m2 := by
  cases z with
  | zero => exact fun q => m2_nI h q.1.symm
  | succ z =>
    rintro (q | ⟨i, j, hi, hj, _, e, _⟩)
    · exact m2_nI h q.1.symm
    · exact m2_nI hj e
theorem alk_nn {A : Nat → Nat → Int32} {z n m : Nat} (h : n < 450) (hm : m < 450) : alk A (z + 1) (nI n) (nI m) ↔ (A 0 n = A 0 m ∧ A 1 n = A 1 m ∧ A 4 n = A 4 m ∧ alk A z (A 2 n) (A 2 m) ∧ alk A z (A 3 n) (A 3 m)) := by
  constructor
  · rintro (q | ⟨i, j, hi, hj, ei, ej, q⟩)
    · exact absurd q.1.symm (m2_nI h)
    · rw [nI_eq (by omega) (by omega)] at ei ej
      subst ei ej
      exact q
  · exact fun q => Or.inr ⟨n, m, h, hm, rfl, rfl, q⟩
set_option maxHeartbeats 1000000 in
set_option maxRecDepth 20000 in
theorem mAlike (f : Nat → zC) (o : Nat → Int32) (A : Nat → Nat → Int32) (J : Nat → Nat → Int64) {lo hi : Nat} (hh : hi ≤ 450) (hT : tbI lo hi A) : ∀ (z : Nat) (a b : Int32), pt lo hi A z a → pt lo hi A 40 b → zK (z + 1) zX7_areAlike [.ref 76, .int a, .int b] (wR f o A J) (fun r w' => w' = (wR f o A J) ∧ ((alk A z a b ∧ r = some (.int 1)) ∨ (¬ alk A z a b ∧ r = some (.int 0)))) := by
  intro z
  induction z with
  | zero =>
    intro a b ha hb
    obtain rfl := pt_zero hT ha
    rcases hb with rfl | ⟨m, rfl, hlo2, hm, hz2⟩
    · refine zK_of qX7_areAlike (by decide +kernel) rfl ?_
      iterate 2 (refine zv_step (bX7_areAlike (0 + 1)) rfl rfl trivial ?_)
      refine zv_ift (by decide) ?_
      iterate 2 (refine zv_step (bX7_areAlike (0 + 1)) rfl rfl trivial ?_)
      refine zv_iff (by decide) ?_
      iterate 2 (refine zv_step (bX7_areAlike (0 + 1)) rfl rfl trivial ?_)
      refine zv_iff (by decide) ?_
      iterate 2 (refine zv_step (bX7_areAlike (0 + 1)) rfl rfl trivial ?_)
      exact zv_iret (bX7_areAlike (0 + 1)) rfl (Or.inr ⟨rfl, Or.inr rfl⟩) (Nat.zero_le _) (Nat.zero_le _) ⟨rfl, Or.inl ⟨alk_mm A _, rfl⟩⟩
    · refine zK_of qX7_areAlike (by decide +kernel) rfl ?_
      iterate 2 (refine zv_step (bX7_areAlike (0 + 1)) rfl rfl trivial ?_)
      refine zv_ift (by decide) ?_
      iterate 2 (refine zv_step (bX7_areAlike (0 + 1)) rfl rfl trivial ?_)
      refine zv_iff (by decide) ?_
      iterate 2 (refine zv_step (bX7_areAlike (0 + 1)) rfl rfl trivial ?_)
      refine zv_ift (nI_pos' (by omega)) ?_
      iterate 1 (refine zv_step (bX7_areAlike (0 + 1)) rfl rfl trivial ?_)
      exact zv_iret (bX7_areAlike (0 + 1)) rfl (Or.inr ⟨rfl, Or.inl rfl⟩) (Nat.zero_le _) (Nat.zero_le _) ⟨rfl, Or.inr ⟨alk_mn A _ (by omega), rfl⟩⟩
  | succ z ih =>
    intro a b ha hb
    rcases ha with rfl | ⟨n, rfl, hlo, hn, hz⟩
    · rcases hb with rfl | ⟨m, rfl, hlo2, hm, hz2⟩
      · refine zK_of qX7_areAlike (by decide +kernel) rfl ?_
        iterate 2 (refine zv_step (bX7_areAlike (z + 1 + 1)) rfl rfl trivial ?_)
        refine zv_ift (by decide) ?_
        iterate 2 (refine zv_step (bX7_areAlike (z + 1 + 1)) rfl rfl trivial ?_)
        refine zv_iff (by decide) ?_
        iterate 2 (refine zv_step (bX7_areAlike (z + 1 + 1)) rfl rfl trivial ?_)
        refine zv_iff (by decide) ?_
        iterate 2 (refine zv_step (bX7_areAlike (z + 1 + 1)) rfl rfl trivial ?_)
        exact zv_iret (bX7_areAlike (z + 1 + 1)) rfl (Or.inr ⟨rfl, Or.inr rfl⟩) (Nat.zero_le _) (Nat.zero_le _) ⟨rfl, Or.inl ⟨alk_mm A _, rfl⟩⟩
      · refine zK_of qX7_areAlike (by decide +kernel) rfl ?_
        iterate 2 (refine zv_step (bX7_areAlike (z + 1 + 1)) rfl rfl trivial ?_)
        refine zv_ift (by decide) ?_
        iterate 2 (refine zv_step (bX7_areAlike (z + 1 + 1)) rfl rfl trivial ?_)
        refine zv_iff (by decide) ?_
        iterate 2 (refine zv_step (bX7_areAlike (z + 1 + 1)) rfl rfl trivial ?_)
        refine zv_ift (nI_pos' (by omega)) ?_
        iterate 1 (refine zv_step (bX7_areAlike (z + 1 + 1)) rfl rfl trivial ?_)
        exact zv_iret (bX7_areAlike (z + 1 + 1)) rfl (Or.inr ⟨rfl, Or.inl rfl⟩) (Nat.zero_le _) (Nat.zero_le _) ⟨rfl, Or.inr ⟨alk_mn A _ (by omega), rfl⟩⟩
    · obtain ⟨hp2, hp3⟩ := rN_parts hT hlo hn hz
      rcases hb with rfl | ⟨m, rfl, hlo2, hm, hz2⟩
      · refine zK_of qX7_areAlike (by decide +kernel) rfl ?_
        iterate 2 (refine zv_step (bX7_areAlike (z + 1 + 1)) rfl rfl trivial ?_)
        refine zv_iff (nI_pos (by omega)) ?_
        iterate 2 (refine zv_step (bX7_areAlike (z + 1 + 1)) rfl rfl trivial ?_)
        refine zv_iff (by decide) ?_
        iterate 2 (refine zv_step (bX7_areAlike (z + 1 + 1)) rfl rfl trivial ?_)
        refine zv_ift (nI_pos' (by omega)) ?_
        iterate 1 (refine zv_step (bX7_areAlike (z + 1 + 1)) rfl rfl trivial ?_)
        exact zv_iret (bX7_areAlike (z + 1 + 1)) rfl (Or.inr ⟨rfl, Or.inl rfl⟩) (Nat.zero_le _) (Nat.zero_le _) ⟨rfl, Or.inr ⟨alk_nm A _ (by omega), rfl⟩⟩
      · obtain ⟨hq2, hq3⟩ := rN_parts (z := 40) hT hlo2 hm (by omega)
        refine zK_of qX7_areAlike (by decide +kernel) rfl ?_
        iterate 2 (refine zv_step (bX7_areAlike (z + 1 + 1)) rfl rfl trivial ?_)
        refine zv_iff (nI_pos (by omega)) ?_
        iterate 2 (refine zv_step (bX7_areAlike (z + 1 + 1)) rfl rfl trivial ?_)
        refine zv_ift (nI_pos' (by omega)) ?_
        iterate 3 (refine zv_step (bX7_areAlike (z + 1 + 1)) rfl rfl trivial ?_)
        refine zv_iale (bX7_areAlike (z + 1 + 1)) rfl rfl (vp_in_nI (by omega) (by decide)) (show A 0 (nI n).toNatClampNeg = A 0 n by rw [nI_clamp (by omega)]) ?_
        iterate 3 (refine zv_step (bX7_areAlike (z + 1 + 1)) rfl rfl trivial ?_)
        refine zv_iale (bX7_areAlike (z + 1 + 1)) rfl rfl (vp_in_nI (by omega) (by decide)) (show A 0 (nI m).toNatClampNeg = A 0 m by rw [nI_clamp (by omega)]) ?_
        iterate 1 (refine zv_step (bX7_areAlike (z + 1 + 1)) rfl rfl trivial ?_)
        refine zv_ifb (fun h34 => ?_) (fun h34 => ?_)
        · iterate 1 (refine zv_step (bX7_areAlike (z + 1 + 1)) rfl rfl trivial ?_)
          exact zv_iret (bX7_areAlike (z + 1 + 1)) rfl (Or.inr ⟨rfl, Or.inl rfl⟩) (Nat.zero_le _) (Nat.zero_le _) ⟨rfl, Or.inr ⟨fun q => (fun t => h34 t.1) ((alk_nn (by omega) (by omega)).mp q), rfl⟩⟩
        · iterate 3 (refine zv_step (bX7_areAlike (z + 1 + 1)) rfl rfl trivial ?_)
          refine zv_iale (bX7_areAlike (z + 1 + 1)) rfl rfl (vp_in_nI (by omega) (by decide)) (show A 1 (nI n).toNatClampNeg = A 1 n by rw [nI_clamp (by omega)]) ?_
          iterate 3 (refine zv_step (bX7_areAlike (z + 1 + 1)) rfl rfl trivial ?_)
          refine zv_iale (bX7_areAlike (z + 1 + 1)) rfl rfl (vp_in_nI (by omega) (by decide)) (show A 1 (nI m).toNatClampNeg = A 1 m by rw [nI_clamp (by omega)]) ?_
          iterate 1 (refine zv_step (bX7_areAlike (z + 1 + 1)) rfl rfl trivial ?_)
          refine zv_ifb (fun h49 => ?_) (fun h49 => ?_)
          · iterate 1 (refine zv_step (bX7_areAlike (z + 1 + 1)) rfl rfl trivial ?_)
            exact zv_iret (bX7_areAlike (z + 1 + 1)) rfl (Or.inr ⟨rfl, Or.inl rfl⟩) (Nat.zero_le _) (Nat.zero_le _) ⟨rfl, Or.inr ⟨fun q => (fun t => h49 t.2.1) ((alk_nn (by omega) (by omega)).mp q), rfl⟩⟩
          · iterate 3 (refine zv_step (bX7_areAlike (z + 1 + 1)) rfl rfl trivial ?_)
            refine zv_iale (bX7_areAlike (z + 1 + 1)) rfl rfl (vp_in_nI (by omega) (by decide)) (show A 4 (nI n).toNatClampNeg = A 4 n by rw [nI_clamp (by omega)]) ?_
            iterate 3 (refine zv_step (bX7_areAlike (z + 1 + 1)) rfl rfl trivial ?_)
            refine zv_iale (bX7_areAlike (z + 1 + 1)) rfl rfl (vp_in_nI (by omega) (by decide)) (show A 4 (nI m).toNatClampNeg = A 4 m by rw [nI_clamp (by omega)]) ?_
            iterate 1 (refine zv_step (bX7_areAlike (z + 1 + 1)) rfl rfl trivial ?_)
            refine zv_ifb (fun h64 => ?_) (fun h64 => ?_)
            · iterate 1 (refine zv_step (bX7_areAlike (z + 1 + 1)) rfl rfl trivial ?_)
              exact zv_iret (bX7_areAlike (z + 1 + 1)) rfl (Or.inr ⟨rfl, Or.inl rfl⟩) (Nat.zero_le _) (Nat.zero_le _) ⟨rfl, Or.inr ⟨fun q => (fun t => h64 t.2.2.1) ((alk_nn (by omega) (by omega)).mp q), rfl⟩⟩
            · iterate 4 (refine zv_step (bX7_areAlike (z + 1 + 1)) rfl rfl trivial ?_)
              refine zv_iale (bX7_areAlike (z + 1 + 1)) rfl rfl (vp_in_nI (by omega) (by decide)) (show A 2 (nI n).toNatClampNeg = A 2 n by rw [nI_clamp (by omega)]) ?_
              iterate 3 (refine zv_step (bX7_areAlike (z + 1 + 1)) rfl rfl trivial ?_)
              refine zv_iale (bX7_areAlike (z + 1 + 1)) rfl rfl (vp_in_nI (by omega) (by decide)) (show A 2 (nI m).toNatClampNeg = A 2 m by rw [nI_clamp (by omega)]) ?_
              refine zv_V2 (bX7_areAlike (z + 1 + 1)) rfl rfl rfl rfl rfl rfl rfl ⟨rfl, rfl, rfl⟩ ⟨by show z + 1 + 1 ≤ z + 1 + 1; omega, by show 8 + (3 + 11) + 64 * (z + 1) ≤ 64 * (z + 1 + 1); omega⟩ ⟨Nat.zero_le _, Nat.zero_le _⟩ (ih _ _ hp2 hq2) ?_
              rintro _ _ ⟨rfl, ⟨g1, rfl⟩ | ⟨g1, rfl⟩⟩
              · skip
                iterate 1 (refine zv_step (bX7_areAlike (z + 1 + 1)) rfl rfl trivial ?_)
                refine zv_iff (by decide) ?_
                iterate 4 (refine zv_step (bX7_areAlike (z + 1 + 1)) rfl rfl trivial ?_)
                refine zv_iale (bX7_areAlike (z + 1 + 1)) rfl rfl (vp_in_nI (by omega) (by decide)) (show A 3 (nI n).toNatClampNeg = A 3 n by rw [nI_clamp (by omega)]) ?_
                iterate 3 (refine zv_step (bX7_areAlike (z + 1 + 1)) rfl rfl trivial ?_)
                refine zv_iale (bX7_areAlike (z + 1 + 1)) rfl rfl (vp_in_nI (by omega) (by decide)) (show A 3 (nI m).toNatClampNeg = A 3 m by rw [nI_clamp (by omega)]) ?_
                refine zv_V2 (bX7_areAlike (z + 1 + 1)) rfl rfl rfl rfl rfl rfl rfl ⟨rfl, rfl, rfl⟩ ⟨by show z + 1 + 1 ≤ z + 1 + 1; omega, by show 8 + (3 + 11) + 64 * (z + 1) ≤ 64 * (z + 1 + 1); omega⟩ ⟨Nat.zero_le _, Nat.zero_le _⟩ (ih _ _ hp3 hq3) ?_
                rintro _ _ ⟨rfl, ⟨g2, rfl⟩ | ⟨g2, rfl⟩⟩
                · skip
                  iterate 1 (refine zv_step (bX7_areAlike (z + 1 + 1)) rfl rfl trivial ?_)
                  refine zv_iff (by decide) ?_
                  iterate 2 (refine zv_step (bX7_areAlike (z + 1 + 1)) rfl rfl trivial ?_)
                  exact zv_iret (bX7_areAlike (z + 1 + 1)) rfl (Or.inr ⟨rfl, Or.inr rfl⟩) (Nat.zero_le _) (Nat.zero_le _) ⟨rfl, Or.inl ⟨(alk_nn (by omega) (by omega)).mpr ⟨Decidable.not_not.mp h34, Decidable.not_not.mp h49, Decidable.not_not.mp h64, g1, g2⟩, rfl⟩⟩
                · skip
                  iterate 1 (refine zv_step (bX7_areAlike (z + 1 + 1)) rfl rfl trivial ?_)
                  refine zv_ift (by decide) ?_
                  iterate 1 (refine zv_step (bX7_areAlike (z + 1 + 1)) rfl rfl trivial ?_)
                  exact zv_iret (bX7_areAlike (z + 1 + 1)) rfl (Or.inr ⟨rfl, Or.inl rfl⟩) (Nat.zero_le _) (Nat.zero_le _) ⟨rfl, Or.inr ⟨fun q => (fun t => g2 t.2.2.2.2) ((alk_nn (by omega) (by omega)).mp q), rfl⟩⟩
              · skip
                iterate 1 (refine zv_step (bX7_areAlike (z + 1 + 1)) rfl rfl trivial ?_)
                refine zv_ift (by decide) ?_
                iterate 1 (refine zv_step (bX7_areAlike (z + 1 + 1)) rfl rfl trivial ?_)
                exact zv_iret (bX7_areAlike (z + 1 + 1)) rfl (Or.inr ⟨rfl, Or.inl rfl⟩) (Nat.zero_le _) (Nat.zero_le _) ⟨rfl, Or.inr ⟨fun q => (fun t => g1 t.2.2.2.1) ((alk_nn (by omega) (by omega)).mp q), rfl⟩⟩
set_option maxHeartbeats 1000000 in
set_option maxRecDepth 20000 in
theorem mHas (f : Nat → zC) (o : Nat → Int32) (A : Nat → Nat → Int32) (J : Nat → Nat → Int64) {lo hi : Nat} (hh : hi ≤ 450) (hT : tbI lo hi A) {b : Int32} (hb : pt lo hi A 40 b) : ∀ (z : Nat) (x : Int32), pt lo hi A z x → zK (z + 42) zX7_has [.ref 76, .int x, .int b] (wR f o A J) (fun r w' => w' = (wR f o A J) ∧ ∃ v : Int32, r = some (.int v)) := by
  intro z
  induction z with
  | zero =>
    intro x hx
    obtain rfl := pt_zero hT hx
    refine zK_of qX7_has (by decide +kernel) rfl ?_
    iterate 2 (refine zv_step (bX7_has (0 + 42)) rfl rfl trivial ?_)
    refine zv_iff (by decide) ?_
    iterate 1 (refine zv_step (bX7_has (0 + 42)) rfl rfl trivial ?_)
    exact zv_iret (bX7_has (0 + 42)) rfl (Or.inl rfl) (Nat.zero_le _) (Nat.zero_le _) ⟨rfl, _, rfl⟩
  | succ z ih =>
    intro x hx
    rcases hx with rfl | ⟨n, rfl, hlo, hn, hz⟩
    · refine zK_of qX7_has (by decide +kernel) rfl ?_
      iterate 2 (refine zv_step (bX7_has ((z + 1) + 42)) rfl rfl trivial ?_)
      refine zv_iff (by decide) ?_
      iterate 1 (refine zv_step (bX7_has ((z + 1) + 42)) rfl rfl trivial ?_)
      exact zv_iret (bX7_has ((z + 1) + 42)) rfl (Or.inl rfl) (Nat.zero_le _) (Nat.zero_le _) ⟨rfl, _, rfl⟩
    · have hN := hT n hlo hn
      have e1 : (nI n).toNatClampNeg = n := nI_clamp (by omega)
      have hv : vp_in (nI n) 450 := vp_in_nI (by omega) (by decide)
      obtain ⟨hp2, hp3⟩ := rN_parts hT hlo hn hz
      refine zK_of qX7_has (by decide +kernel) rfl ?_
      iterate 2 (refine zv_step (bX7_has ((z + 1) + 42)) rfl rfl trivial ?_)
      refine zv_ift (nI_pos' (by omega)) ?_
      iterate 3 (refine zv_step (bX7_has ((z + 1) + 42)) rfl rfl trivial ?_)
      refine zv_V2 (bX7_has ((z + 1) + 42)) rfl rfl rfl rfl rfl rfl rfl ⟨rfl, rfl, rfl⟩ ⟨by show 40 + 1 + 1 ≤ z + 1 + 42; omega, by show 8 + (3 + 11) + 64 * (40 + 1) ≤ 64 * (z + 1 + 42); omega⟩ ⟨Nat.zero_le _, Nat.zero_le _⟩ (mAlike f o A J hh hT 40 _ _ (pt_of hT hlo hn) hb) ?_
      rintro _ _ ⟨rfl, ⟨g1, rfl⟩ | ⟨g1, rfl⟩⟩
      · skip
        iterate 1 (refine zv_step (bX7_has ((z + 1) + 42)) rfl rfl trivial ?_)
        refine zv_iff (by decide) ?_
        iterate 6 (refine zv_step (bX7_has ((z + 1) + 42)) rfl rfl trivial ?_)
        refine zv_iale (bX7_has ((z + 1) + 42)) rfl rfl hv (show A 2 (nI n).toNatClampNeg = A 2 n by rw [e1]) ?_
        iterate 1 (refine zv_step (bX7_has ((z + 1) + 42)) rfl rfl trivial ?_)
        refine zv_V2 (bX7_has ((z + 1) + 42)) rfl rfl rfl rfl rfl rfl rfl ⟨rfl, rfl, rfl⟩ ⟨by show z + 42 + 1 ≤ z + 1 + 42; omega, by show 8 + (3 + 11) + 64 * (z + 42) ≤ 64 * (z + 1 + 42); omega⟩ ⟨Nat.zero_le _, Nat.zero_le _⟩ (ih _ hp2) ?_
        rintro _ _ ⟨rfl, v1, rfl⟩
        iterate 5 (refine zv_step (bX7_has ((z + 1) + 42)) rfl rfl trivial ?_)
        refine zv_iale (bX7_has ((z + 1) + 42)) rfl rfl hv (show A 3 (nI n).toNatClampNeg = A 3 n by rw [e1]) ?_
        iterate 1 (refine zv_step (bX7_has ((z + 1) + 42)) rfl rfl trivial ?_)
        refine zv_V2 (bX7_has ((z + 1) + 42)) rfl rfl rfl rfl rfl rfl rfl ⟨rfl, rfl, rfl⟩ ⟨by show z + 42 + 1 ≤ z + 1 + 42; omega, by show 8 + (3 + 11) + 64 * (z + 42) ≤ 64 * (z + 1 + 42); omega⟩ ⟨Nat.zero_le _, Nat.zero_le _⟩ (ih _ hp3) ?_
        rintro _ _ ⟨rfl, v2, rfl⟩
        iterate 1 (refine zv_step (bX7_has ((z + 1) + 42)) rfl rfl trivial ?_)
        exact zv_iret (bX7_has ((z + 1) + 42)) rfl (Or.inl rfl) (Nat.zero_le _) (Nat.zero_le _) ⟨rfl, _, rfl⟩
      · skip
        iterate 1 (refine zv_step (bX7_has ((z + 1) + 42)) rfl rfl trivial ?_)
        refine zv_ift (by decide) ?_
        iterate 5 (refine zv_step (bX7_has ((z + 1) + 42)) rfl rfl trivial ?_)
        refine zv_iale (bX7_has ((z + 1) + 42)) rfl rfl hv (show A 2 (nI n).toNatClampNeg = A 2 n by rw [e1]) ?_
        iterate 1 (refine zv_step (bX7_has ((z + 1) + 42)) rfl rfl trivial ?_)
        refine zv_V2 (bX7_has ((z + 1) + 42)) rfl rfl rfl rfl rfl rfl rfl ⟨rfl, rfl, rfl⟩ ⟨by show z + 42 + 1 ≤ z + 1 + 42; omega, by show 8 + (3 + 11) + 64 * (z + 42) ≤ 64 * (z + 1 + 42); omega⟩ ⟨Nat.zero_le _, Nat.zero_le _⟩ (ih _ hp2) ?_
        rintro _ _ ⟨rfl, v1, rfl⟩
        iterate 5 (refine zv_step (bX7_has ((z + 1) + 42)) rfl rfl trivial ?_)
        refine zv_iale (bX7_has ((z + 1) + 42)) rfl rfl hv (show A 3 (nI n).toNatClampNeg = A 3 n by rw [e1]) ?_
        iterate 1 (refine zv_step (bX7_has ((z + 1) + 42)) rfl rfl trivial ?_)
        refine zv_V2 (bX7_has ((z + 1) + 42)) rfl rfl rfl rfl rfl rfl rfl ⟨rfl, rfl, rfl⟩ ⟨by show z + 42 + 1 ≤ z + 1 + 42; omega, by show 8 + (3 + 11) + 64 * (z + 42) ≤ 64 * (z + 1 + 42); omega⟩ ⟨Nat.zero_le _, Nat.zero_le _⟩ (ih _ hp3) ?_
        rintro _ _ ⟨rfl, v2, rfl⟩
        iterate 1 (refine zv_step (bX7_has ((z + 1) + 42)) rfl rfl trivial ?_)
        exact zv_iret (bX7_has ((z + 1) + 42)) rfl (Or.inl rfl) (Nat.zero_le _) (Nat.zero_le _) ⟨rfl, _, rfl⟩
def dgN (v : Int32) : Nat := if v < c8 10 then 1 else if v < c8 100 then 2 else if v < (Int16.ofInt 1000).toInt32 then 3 else 4
theorem dgN_le (v : Int32) : 1 ≤ dgN v ∧ dgN v ≤ 4 := by
  unfold dgN
  repeat' split
  all_goals decide
theorem nlt_of {a b : Int32} (h : b ≤ a) : ¬ a < b := Int32.not_lt.mpr h
theorem lt_of_n {a b : Int32} (h : ¬ b ≤ a) : a < b := Int32.not_le.mp h
set_option maxHeartbeats 1000000 in
set_option maxRecDepth 20000 in
theorem mDigits (w : zW) (x : Int32) : zK 0 zX7_digits [.int x] w (fun r w' => w' = w ∧ r = some (.int (nI (dgN x)))) := by
  refine zK_of qX7_digits (by decide +kernel) rfl ?_
  iterate 3 (refine zv_step (bX7_digits 0) rfl rfl trivial ?_)
  refine zv_ifb (fun h3 => ?_) (fun h3 => ?_)
  · have k3 := nlt_of h3
    iterate 3 (refine zv_step (bX7_digits 0) rfl rfl trivial ?_)
    refine zv_ifb (fun h13 => ?_) (fun h13 => ?_)
    · have k13 := nlt_of h13
      iterate 3 (refine zv_step (bX7_digits 0) rfl rfl trivial ?_)
      refine zv_ifb (fun h24 => ?_) (fun h24 => ?_)
      · have k24 := nlt_of h24
        iterate 1 (refine zv_step (bX7_digits 0) rfl rfl trivial ?_)
        exact zv_iret (bX7_digits 0) rfl (Or.inl rfl) (Nat.zero_le _) (Nat.zero_le _) ⟨rfl, by unfold dgN; rw [if_neg k3, if_neg k13, if_neg k24]; rfl⟩
      · have k24 := lt_of_n h24
        iterate 2 (refine zv_step (bX7_digits 0) rfl rfl trivial ?_)
        exact zv_iret (bX7_digits 0) rfl (Or.inl rfl) (Nat.zero_le _) (Nat.zero_le _) ⟨rfl, by unfold dgN; rw [if_neg k3, if_neg k13, if_pos k24]; rfl⟩
    · have k13 := lt_of_n h13
      iterate 2 (refine zv_step (bX7_digits 0) rfl rfl trivial ?_)
      exact zv_iret (bX7_digits 0) rfl (Or.inl rfl) (Nat.zero_le _) (Nat.zero_le _) ⟨rfl, by unfold dgN; rw [if_neg k3, if_pos k13]; rfl⟩
  · have k3 := lt_of_n h3
    iterate 2 (refine zv_step (bX7_digits 0) rfl rfl trivial ?_)
    exact zv_iret (bX7_digits 0) rfl (Or.inl rfl) (Nat.zero_le _) (Nat.zero_le _) ⟨rfl, by unfold dgN; rw [if_pos k3]; rfl⟩
def ownW (A : Nat → Nat → Int32) (n : Nat) : Nat := if A 0 n = Int32.ofInt 1 then dgN (A 1 n) else if A 0 n = c8 8 ∨ A 0 n = c8 9 then 2 else 1
theorem ownW_le (A : Nat → Nat → Int32) (n : Nat) : 1 ≤ ownW A n ∧ ownW A n ≤ 4 := by
  unfold ownW
  split
  · exact dgN_le _
  · split <;> decide
set_option maxHeartbeats 1000000 in
set_option maxRecDepth 20000 in
theorem mOwn (f : Nat → zC) (o : Nat → Int32) (A : Nat → Nat → Int32) (J : Nat → Nat → Int64) {n : Nat} (hn : n < 450) : zK 1 zX7_own [.ref 76, .int (nI n)] (wR f o A J) (fun r w' => w' = (wR f o A J) ∧ r = some (.int (nI (ownW A n)))) := by
  have e1 : (nI n).toNatClampNeg = n := nI_clamp (by omega)
  have hv : vp_in (nI n) 450 := vp_in_nI (by omega) (by decide)
  refine zK_of qX7_own (by decide +kernel) rfl ?_
  iterate 3 (refine zv_step (bX7_own 1) rfl rfl trivial ?_)
  refine zv_iale (bX7_own 1) rfl rfl hv (show A 0 (nI n).toNatClampNeg = A 0 n by rw [e1]) ?_
  iterate 2 (refine zv_step (bX7_own 1) rfl rfl trivial ?_)
  refine zv_ifb (fun h7 => ?_) (fun h7 => ?_)
  · iterate 3 (refine zv_step (bX7_own 1) rfl rfl trivial ?_)
    refine zv_iale (bX7_own 1) rfl rfl hv (show A 0 (nI n).toNatClampNeg = A 0 n by rw [e1]) ?_
    iterate 2 (refine zv_step (bX7_own 1) rfl rfl trivial ?_)
    refine zv_ifb (fun h30 => ?_) (fun h30 => ?_)
    · iterate 2 (refine zv_step (bX7_own 1) rfl rfl trivial ?_)
      exact zv_iret (bX7_own 1) rfl (Or.inl rfl) (Nat.zero_le _) (Nat.zero_le _) ⟨rfl, by unfold ownW; rw [if_neg h7, if_pos (Or.inl h30)]; rfl⟩
    · iterate 3 (refine zv_step (bX7_own 1) rfl rfl trivial ?_)
      refine zv_iale (bX7_own 1) rfl rfl hv (show A 0 (nI n).toNatClampNeg = A 0 n by rw [e1]) ?_
      iterate 2 (refine zv_step (bX7_own 1) rfl rfl trivial ?_)
      refine zv_ifb (fun h41 => ?_) (fun h41 => ?_)
      · iterate 1 (refine zv_step (bX7_own 1) rfl rfl trivial ?_)
        exact zv_iret (bX7_own 1) rfl (Or.inl rfl) (Nat.zero_le _) (Nat.zero_le _) ⟨rfl, by unfold ownW; rw [if_neg h7, if_neg (fun q => q.elim h30 h41)]; rfl⟩
      · iterate 2 (refine zv_step (bX7_own 1) rfl rfl trivial ?_)
        exact zv_iret (bX7_own 1) rfl (Or.inl rfl) (Nat.zero_le _) (Nat.zero_le _) ⟨rfl, by unfold ownW; rw [if_neg h7, if_pos (Or.inr (Decidable.not_not.mp h41))]; rfl⟩
  · iterate 3 (refine zv_step (bX7_own 1) rfl rfl trivial ?_)
    refine zv_iale (bX7_own 1) rfl rfl hv (show A 1 (nI n).toNatClampNeg = A 1 n by rw [e1]) ?_
    refine zv_S1 (bX7_own 1) rfl rfl rfl rfl ⟨rfl, rfl, rfl⟩ ⟨by decide, by decide⟩ ⟨Nat.zero_le _, Nat.zero_le _⟩ (mDigits _ _) ?_
    rintro _ _ ⟨rfl, rfl⟩
    iterate 1 (refine zv_step (bX7_own 1) rfl rfl trivial ?_)
    exact zv_iret (bX7_own 1) rfl (Or.inl rfl) (Nat.zero_le _) (Nat.zero_le _) ⟨rfl, by unfold ownW; rw [if_pos (Decidable.not_not.mp h7)]⟩
/-- what length answers -/
noncomputable def lnW (A : Nat → Nat → Int32) (s : Nat) : Nat → Int32 → Nat
  | 0, _ => 0
  | z + 1, x => if x < 0 then 0 else ownW A x.toNatClampNeg + (if A 7 (10 * s + (A 0 x.toNatClampNeg).toNatClampNeg) = 0 then 0 else 2) + lnW A s z (A 2 x.toNatClampNeg) + lnW A s z (A 3 x.toNatClampNeg)
theorem lnW_m2 (A : Nat → Nat → Int32) (s z : Nat) : lnW A s z m2 = 0 := by
  cases z with
  | zero => rfl
  | succ z => exact if_pos (by decide)
theorem lnW_nI {A : Nat → Nat → Int32} {s z n k : Nat} (hn : n < 450) (hk : k < 10) (h0 : A 0 n = nI k) : lnW A s (z + 1) (nI n) = ownW A n + (if A 7 (10 * s + k) = 0 then 0 else 2) + lnW A s z (A 2 n) + lnW A s z (A 3 n) := by
  show (if nI n < 0 then 0 else _) = _
  rw [if_neg (nI_pos (by omega)), nI_clamp (by omega), h0, nI_clamp (by omega)]
theorem lnW_le {lo hi : Nat} {A : Nat → Nat → Int32} (hh : hi ≤ 450) (hT : tbI lo hi A) (s : Nat) : ∀ (z : Nat) (x : Int32), pt lo hi A z x → lnW A s z x ≤ 6 * (if x < 0 then 0 else szN A x.toNatClampNeg) := by
  intro z
  induction z with
  | zero => exact fun x _ => Nat.zero_le _
  | succ z ih =>
    intro x hx
    rcases hx with rfl | ⟨n, rfl, hlo, hn, hz⟩
    · rw [lnW_m2]
      exact Nat.zero_le _
    · obtain ⟨k, hk, h0⟩ := rN_kd (hT n hlo hn)
      obtain ⟨hp2, hp3⟩ := rN_parts hT hlo hn hz
      have i2 := ih _ hp2
      have i3 := ih _ hp3
      rw [lnW_nI (by omega) hk h0, if_neg (nI_pos (by omega)), nI_clamp (by omega)]
      have ho := (ownW_le A n).2
      have hc : (if A 7 (10 * s + k) = 0 then 0 else 2) ≤ 2 := by split <;> decide
      obtain ⟨k, y, _, _, h4, hy, hs, _⟩ := hT n hlo hn
      rw [szN_of h4 hy]
      rcases hs with ⟨_, h2, h3, e⟩ | ⟨_, _, a, b, h2, la, ha, h3, lb, hb, e⟩ | ⟨_, a, h2, la, ha, h3, e⟩
      · rw [h2, if_pos (by decide)] at i2
        rw [h3, if_pos (by decide)] at i3
        rw [h2, h3]
        omega
      · rw [h2, if_neg (nI_pos (by omega)), nI_clamp (by omega)] at i2
        rw [h3, if_neg (nI_pos (by omega)), nI_clamp (by omega)] at i3
        rw [h2, h3]
        omega
      · rw [h2, if_neg (nI_pos (by omega)), nI_clamp (by omega)] at i2
        rw [h3, if_pos (by decide)] at i3
        rw [h2, h3]
        omega
theorem nI4 (a b c d : Nat) : nI a + nI b + nI c + nI d = nI (a + b + c + d) := by rw [nI_add, nI_add, nI_add]
theorem ix10 {s k : Nat} : c8 10 * nI s + nI k = nI (10 * s + k) := by
  show Int32.ofNat 10 * Int32.ofNat s + Int32.ofNat k = _
  rw [← Int32.ofNat_mul, ← Int32.ofNat_add]
  rfl
set_option maxHeartbeats 1000000 in
set_option maxRecDepth 20000 in
theorem mLength (f : Nat → zC) (o : Nat → Int32) (A : Nat → Nat → Int32) (J : Nat → Nat → Int64) {lo hi : Nat} (hh : hi ≤ 450) (hT : tbI lo hi A) {s : Nat} (hs : s < 8) : ∀ (z : Nat) (x : Int32), pt lo hi A z x → zK (z + 2) zX7_length [.ref 76, .int (nI s), .int x] (wR f o A J) (fun r w' => w' = (wR f o A J) ∧ r = some (.int (nI (lnW A s z x)))) := by
  intro z
  induction z with
  | zero =>
    intro x hx
    obtain rfl := pt_zero hT hx
    refine zK_of qX7_length (by decide +kernel) rfl ?_
    iterate 2 (refine zv_step (bX7_length (0 + 2)) rfl rfl trivial ?_)
    refine zv_iff (by decide) ?_
    iterate 1 (refine zv_step (bX7_length (0 + 2)) rfl rfl trivial ?_)
    exact zv_iret (bX7_length (0 + 2)) rfl (Or.inl rfl) (Nat.zero_le _) (Nat.zero_le _) ⟨rfl, by rw [lnW_m2]; rfl⟩
  | succ z ih =>
    intro x hx
    rcases hx with rfl | ⟨n, rfl, hlo, hn, hz⟩
    · refine zK_of qX7_length (by decide +kernel) rfl ?_
      iterate 2 (refine zv_step (bX7_length ((z + 1) + 2)) rfl rfl trivial ?_)
      refine zv_iff (by decide) ?_
      iterate 1 (refine zv_step (bX7_length ((z + 1) + 2)) rfl rfl trivial ?_)
      exact zv_iret (bX7_length ((z + 1) + 2)) rfl (Or.inl rfl) (Nat.zero_le _) (Nat.zero_le _) ⟨rfl, by rw [lnW_m2]; rfl⟩
    · have hN := hT n hlo hn
      have e1 : (nI n).toNatClampNeg = n := nI_clamp (by omega)
      have hv : vp_in (nI n) 450 := vp_in_nI (by omega) (by decide)
      obtain ⟨hp2, hp3⟩ := rN_parts hT hlo hn hz
      obtain ⟨kd, hkd, h0⟩ := rN_kd hN
      refine zK_of qX7_length (by decide +kernel) rfl ?_
      iterate 2 (refine zv_step (bX7_length ((z + 1) + 2)) rfl rfl trivial ?_)
      refine zv_ift (nI_pos' (by omega)) ?_
      iterate 2 (refine zv_step (bX7_length ((z + 1) + 2)) rfl rfl trivial ?_)
      refine zv_V1 (bX7_length ((z + 1) + 2)) rfl rfl rfl rfl rfl rfl rfl ⟨rfl, rfl, rfl⟩ ⟨by show 1 + 1 ≤ z + 1 + 2; omega, by show 8 + (2 + 11) + 64 * (1) ≤ 64 * (z + 1 + 2); omega⟩ ⟨Nat.zero_le _, Nat.zero_le _⟩ (mOwn f o A J (by omega)) ?_
      rintro _ _ ⟨rfl, rfl⟩
      iterate 8 (refine zv_step (bX7_length ((z + 1) + 2)) rfl rfl trivial ?_)
      refine zv_iale (bX7_length ((z + 1) + 2)) rfl rfl hv (show A 0 (nI n).toNatClampNeg = A 0 n by rw [e1]) ?_
      iterate 1 (refine zv_step (bX7_length ((z + 1) + 2)) rfl rfl trivial ?_)
      refine zv_zale (bX7_length ((z + 1) + 2)) rfl rfl (show vp_in (c8 10 * nI s + A 0 n) 90 by rw [h0, ix10]; exact vp_in_nI (by omega) (by decide)) (show A 7 (c8 10 * nI s + A 0 n).toNatClampNeg = A 7 (10 * s + kd) by rw [h0, ix10, nI_clamp (by omega)]) ?_
      iterate 1 (refine zv_step (bX7_length ((z + 1) + 2)) rfl rfl trivial ?_)
      refine zv_ifb (fun h27 => ?_) (fun h27 => ?_)
      · iterate 7 (refine zv_step (bX7_length ((z + 1) + 2)) rfl rfl trivial ?_)
        refine zv_iale (bX7_length ((z + 1) + 2)) rfl rfl hv (show A 2 (nI n).toNatClampNeg = A 2 n by rw [e1]) ?_
        refine zv_V2 (bX7_length ((z + 1) + 2)) rfl rfl rfl rfl rfl rfl rfl ⟨rfl, rfl, rfl⟩ ⟨by show z + 2 + 1 ≤ z + 1 + 2; omega, by show 8 + (3 + 11) + 64 * (z + 2) ≤ 64 * (z + 1 + 2); omega⟩ ⟨Nat.zero_le _, Nat.zero_le _⟩ (ih _ hp2) ?_
        rintro _ _ ⟨rfl, rfl⟩
        iterate 6 (refine zv_step (bX7_length ((z + 1) + 2)) rfl rfl trivial ?_)
        refine zv_iale (bX7_length ((z + 1) + 2)) rfl rfl hv (show A 3 (nI n).toNatClampNeg = A 3 n by rw [e1]) ?_
        refine zv_V2 (bX7_length ((z + 1) + 2)) rfl rfl rfl rfl rfl rfl rfl ⟨rfl, rfl, rfl⟩ ⟨by show z + 2 + 1 ≤ z + 1 + 2; omega, by show 8 + (3 + 11) + 64 * (z + 2) ≤ 64 * (z + 1 + 2); omega⟩ ⟨Nat.zero_le _, Nat.zero_le _⟩ (ih _ hp3) ?_
        rintro _ _ ⟨rfl, rfl⟩
        iterate 1 (refine zv_step (bX7_length ((z + 1) + 2)) rfl rfl trivial ?_)
        exact zv_iret (bX7_length ((z + 1) + 2)) rfl (Or.inl rfl) (Nat.zero_le _) (Nat.zero_le _) ⟨rfl, by rw [lnW_nI (by omega) hkd h0, if_pos h27]; exact congrArg (fun v => some (Value.int v)) (nI4 _ _ _ _)⟩
      · iterate 8 (refine zv_step (bX7_length ((z + 1) + 2)) rfl rfl trivial ?_)
        refine zv_iale (bX7_length ((z + 1) + 2)) rfl rfl hv (show A 2 (nI n).toNatClampNeg = A 2 n by rw [e1]) ?_
        refine zv_V2 (bX7_length ((z + 1) + 2)) rfl rfl rfl rfl rfl rfl rfl ⟨rfl, rfl, rfl⟩ ⟨by show z + 2 + 1 ≤ z + 1 + 2; omega, by show 8 + (3 + 11) + 64 * (z + 2) ≤ 64 * (z + 1 + 2); omega⟩ ⟨Nat.zero_le _, Nat.zero_le _⟩ (ih _ hp2) ?_
        rintro _ _ ⟨rfl, rfl⟩
        iterate 6 (refine zv_step (bX7_length ((z + 1) + 2)) rfl rfl trivial ?_)
        refine zv_iale (bX7_length ((z + 1) + 2)) rfl rfl hv (show A 3 (nI n).toNatClampNeg = A 3 n by rw [e1]) ?_
        refine zv_V2 (bX7_length ((z + 1) + 2)) rfl rfl rfl rfl rfl rfl rfl ⟨rfl, rfl, rfl⟩ ⟨by show z + 2 + 1 ≤ z + 1 + 2; omega, by show 8 + (3 + 11) + 64 * (z + 2) ≤ 64 * (z + 1 + 2); omega⟩ ⟨Nat.zero_le _, Nat.zero_le _⟩ (ih _ hp3) ?_
        rintro _ _ ⟨rfl, rfl⟩
        iterate 1 (refine zv_step (bX7_length ((z + 1) + 2)) rfl rfl trivial ?_)
        exact zv_iret (bX7_length ((z + 1) + 2)) rfl (Or.inl rfl) (Nat.zero_le _) (Nat.zero_le _) ⟨rfl, by rw [lnW_nI (by omega) hkd h0, if_neg h27]; exact congrArg (fun v => some (Value.int v)) (nI4 _ _ _ _)⟩
theorem nat_two (a b : Nat) : ∃ m : Nat, nI a + nI b = nI m := ⟨a + b, nI_add a b⟩
set_option maxHeartbeats 1000000 in
set_option maxRecDepth 20000 in
theorem mKeepable (f : Nat → zC) (o : Nat → Int32) (A : Nat → Nat → Int32) (J : Nat → Nat → Int64) {lo hi : Nat} (hh : hi ≤ 450) (hT : tbI lo hi A) : ∀ (z : Nat) (x : Int32), pt lo hi A z x → zK (z + 1) zX7_keepable [.ref 76, .int x] (wR f o A J) (fun r w' => w' = (wR f o A J) ∧ ∃ v : Int32, r = some (.int v)) := by
  intro z
  induction z with
  | zero =>
    intro x hx
    obtain rfl := pt_zero hT hx
    refine zK_of qX7_keepable (by decide +kernel) rfl ?_
    iterate 2 (refine zv_step (bX7_keepable (0 + 1)) rfl rfl trivial ?_)
    refine zv_iff (by decide) ?_
    iterate 2 (refine zv_step (bX7_keepable (0 + 1)) rfl rfl trivial ?_)
    exact zv_iret (bX7_keepable (0 + 1)) rfl (Or.inl rfl) (Nat.zero_le _) (Nat.zero_le _) ⟨rfl, _, rfl⟩
  | succ z ih =>
    intro x hx
    rcases hx with rfl | ⟨n, rfl, hlo, hn, hz⟩
    · refine zK_of qX7_keepable (by decide +kernel) rfl ?_
      iterate 2 (refine zv_step (bX7_keepable ((z + 1) + 1)) rfl rfl trivial ?_)
      refine zv_iff (by decide) ?_
      iterate 2 (refine zv_step (bX7_keepable ((z + 1) + 1)) rfl rfl trivial ?_)
      exact zv_iret (bX7_keepable ((z + 1) + 1)) rfl (Or.inl rfl) (Nat.zero_le _) (Nat.zero_le _) ⟨rfl, _, rfl⟩
    · have hN := hT n hlo hn
      have e1 : (nI n).toNatClampNeg = n := nI_clamp (by omega)
      have hv : vp_in (nI n) 450 := vp_in_nI (by omega) (by decide)
      obtain ⟨hp2, hp3⟩ := rN_parts hT hlo hn hz
      refine zK_of qX7_keepable (by decide +kernel) rfl ?_
      iterate 2 (refine zv_step (bX7_keepable ((z + 1) + 1)) rfl rfl trivial ?_)
      refine zv_ift (nI_pos' (by omega)) ?_
      iterate 3 (refine zv_step (bX7_keepable ((z + 1) + 1)) rfl rfl trivial ?_)
      refine zv_iale (bX7_keepable ((z + 1) + 1)) rfl rfl hv (show A 0 (nI n).toNatClampNeg = A 0 n by rw [e1]) ?_
      refine zv_S1 (bX7_keepable ((z + 1) + 1)) rfl rfl rfl rfl ⟨rfl, rfl, rfl⟩ ⟨by show 0 + 1 ≤ z + 1 + 1; omega, by show 8 + (1 + 11) + 64 * (0) ≤ 64 * (z + 1 + 1); omega⟩ ⟨Nat.zero_le _, Nat.zero_le _⟩ (hX7_mayKeep _ _) ?_
      rintro _ _ ⟨rfl, ⟨g1, rfl⟩ | ⟨g1, rfl⟩⟩
      · skip
        iterate 1 (refine zv_step (bX7_keepable ((z + 1) + 1)) rfl rfl trivial ?_)
        refine zv_iff (by decide) ?_
        iterate 6 (refine zv_step (bX7_keepable ((z + 1) + 1)) rfl rfl trivial ?_)
        refine zv_iale (bX7_keepable ((z + 1) + 1)) rfl rfl hv (show A 2 (nI n).toNatClampNeg = A 2 n by rw [e1]) ?_
        refine zv_V1 (bX7_keepable ((z + 1) + 1)) rfl rfl rfl rfl rfl rfl rfl ⟨rfl, rfl, rfl⟩ ⟨by show z + 1 + 1 ≤ z + 1 + 1; omega, by show 8 + (2 + 11) + 64 * (z + 1) ≤ 64 * (z + 1 + 1); omega⟩ ⟨Nat.zero_le _, Nat.zero_le _⟩ (ih _ hp2) ?_
        rintro _ _ ⟨rfl, m1, rfl⟩
        iterate 5 (refine zv_step (bX7_keepable ((z + 1) + 1)) rfl rfl trivial ?_)
        refine zv_iale (bX7_keepable ((z + 1) + 1)) rfl rfl hv (show A 3 (nI n).toNatClampNeg = A 3 n by rw [e1]) ?_
        refine zv_V1 (bX7_keepable ((z + 1) + 1)) rfl rfl rfl rfl rfl rfl rfl ⟨rfl, rfl, rfl⟩ ⟨by show z + 1 + 1 ≤ z + 1 + 1; omega, by show 8 + (2 + 11) + 64 * (z + 1) ≤ 64 * (z + 1 + 1); omega⟩ ⟨Nat.zero_le _, Nat.zero_le _⟩ (ih _ hp3) ?_
        rintro _ _ ⟨rfl, m3, rfl⟩
        iterate 1 (refine zv_step (bX7_keepable ((z + 1) + 1)) rfl rfl trivial ?_)
        exact zv_iret (bX7_keepable ((z + 1) + 1)) rfl (Or.inl rfl) (Nat.zero_le _) (Nat.zero_le _) ⟨rfl, _, rfl⟩
      · skip
        iterate 1 (refine zv_step (bX7_keepable ((z + 1) + 1)) rfl rfl trivial ?_)
        refine zv_ift (by decide) ?_
        iterate 5 (refine zv_step (bX7_keepable ((z + 1) + 1)) rfl rfl trivial ?_)
        refine zv_iale (bX7_keepable ((z + 1) + 1)) rfl rfl hv (show A 2 (nI n).toNatClampNeg = A 2 n by rw [e1]) ?_
        refine zv_V1 (bX7_keepable ((z + 1) + 1)) rfl rfl rfl rfl rfl rfl rfl ⟨rfl, rfl, rfl⟩ ⟨by show z + 1 + 1 ≤ z + 1 + 1; omega, by show 8 + (2 + 11) + 64 * (z + 1) ≤ 64 * (z + 1 + 1); omega⟩ ⟨Nat.zero_le _, Nat.zero_le _⟩ (ih _ hp2) ?_
        rintro _ _ ⟨rfl, m1, rfl⟩
        iterate 5 (refine zv_step (bX7_keepable ((z + 1) + 1)) rfl rfl trivial ?_)
        refine zv_iale (bX7_keepable ((z + 1) + 1)) rfl rfl hv (show A 3 (nI n).toNatClampNeg = A 3 n by rw [e1]) ?_
        refine zv_V1 (bX7_keepable ((z + 1) + 1)) rfl rfl rfl rfl rfl rfl rfl ⟨rfl, rfl, rfl⟩ ⟨by show z + 1 + 1 ≤ z + 1 + 1; omega, by show 8 + (2 + 11) + 64 * (z + 1) ≤ 64 * (z + 1 + 1); omega⟩ ⟨Nat.zero_le _, Nat.zero_le _⟩ (ih _ hp3) ?_
        rintro _ _ ⟨rfl, m3, rfl⟩
        iterate 1 (refine zv_step (bX7_keepable ((z + 1) + 1)) rfl rfl trivial ?_)
        exact zv_iret (bX7_keepable ((z + 1) + 1)) rfl (Or.inl rfl) (Nat.zero_le _) (Nat.zero_le _) ⟨rfl, _, rfl⟩
set_option maxHeartbeats 1000000 in
set_option maxRecDepth 20000 in
theorem mGlanced (f : Nat → zC) (o : Nat → Int32) (A : Nat → Nat → Int32) (J : Nat → Nat → Int64) {lo hi : Nat} (hh : hi ≤ 450) (hT : tbI lo hi A) {s : Nat} (hs : s < 8) : ∀ (z : Nat) (x b : Int32), pt lo hi A z x → zK (z + 2) zX7_glanced [.ref 76, .int (nI s), .int x, .int b] (wR f o A J) (fun r w' => w' = (wR f o A J) ∧ ∃ v : Int32, r = some (.int v)) := by
  intro z
  induction z with
  | zero =>
    intro x b hx
    obtain rfl := pt_zero hT hx
    refine zK_of qX7_glanced (by decide +kernel) rfl ?_
    iterate 2 (refine zv_step (bX7_glanced (0 + 2)) rfl rfl trivial ?_)
    refine zv_iff (by decide) ?_
    iterate 1 (refine zv_step (bX7_glanced (0 + 2)) rfl rfl trivial ?_)
    exact zv_iret (bX7_glanced (0 + 2)) rfl (Or.inl rfl) (Nat.zero_le _) (Nat.zero_le _) ⟨rfl, _, rfl⟩
  | succ z ih =>
    intro x b hx
    rcases hx with rfl | ⟨n, rfl, hlo, hn, hz⟩
    · refine zK_of qX7_glanced (by decide +kernel) rfl ?_
      iterate 2 (refine zv_step (bX7_glanced ((z + 1) + 2)) rfl rfl trivial ?_)
      refine zv_iff (by decide) ?_
      iterate 1 (refine zv_step (bX7_glanced ((z + 1) + 2)) rfl rfl trivial ?_)
      exact zv_iret (bX7_glanced ((z + 1) + 2)) rfl (Or.inl rfl) (Nat.zero_le _) (Nat.zero_le _) ⟨rfl, _, rfl⟩
    · have hN := hT n hlo hn
      have e1 : (nI n).toNatClampNeg = n := nI_clamp (by omega)
      have hv : vp_in (nI n) 450 := vp_in_nI (by omega) (by decide)
      obtain ⟨hp2, hp3⟩ := rN_parts hT hlo hn hz
      obtain ⟨kd, hkd, h0⟩ := rN_kd hN
      refine zK_of qX7_glanced (by decide +kernel) rfl ?_
      iterate 2 (refine zv_step (bX7_glanced ((z + 1) + 2)) rfl rfl trivial ?_)
      refine zv_ift (nI_pos' (by omega)) ?_
      iterate 2 (refine zv_step (bX7_glanced ((z + 1) + 2)) rfl rfl trivial ?_)
      refine zv_ifb (fun h7 => ?_) (fun h7 => ?_)
      · iterate 2 (refine zv_step (bX7_glanced ((z + 1) + 2)) rfl rfl trivial ?_)
        refine zv_V1 (bX7_glanced ((z + 1) + 2)) rfl rfl rfl rfl rfl rfl rfl ⟨rfl, rfl, rfl⟩ ⟨by show 1 + 1 ≤ z + 1 + 2; omega, by show 8 + (2 + 11) + 64 * (1) ≤ 64 * (z + 1 + 2); omega⟩ ⟨Nat.zero_le _, Nat.zero_le _⟩ (mOwn f o A J (by omega)) ?_
        rintro _ _ ⟨rfl, rfl⟩
        iterate 8 (refine zv_step (bX7_glanced ((z + 1) + 2)) rfl rfl trivial ?_)
        refine zv_iale (bX7_glanced ((z + 1) + 2)) rfl rfl hv (show A 0 (nI n).toNatClampNeg = A 0 n by rw [e1]) ?_
        iterate 1 (refine zv_step (bX7_glanced ((z + 1) + 2)) rfl rfl trivial ?_)
        refine zv_zale (bX7_glanced ((z + 1) + 2)) rfl rfl (show vp_in (c8 10 * nI s + A 0 n) 90 by rw [h0, ix10]; exact vp_in_nI (by omega) (by decide)) (show A 7 (c8 10 * nI s + A 0 n).toNatClampNeg = A 7 (10 * s + kd) by rw [h0, ix10, nI_clamp (by omega)]) ?_
        iterate 1 (refine zv_step (bX7_glanced ((z + 1) + 2)) rfl rfl trivial ?_)
        refine zv_ifb (fun h33 => ?_) (fun h33 => ?_)
        · iterate 7 (refine zv_step (bX7_glanced ((z + 1) + 2)) rfl rfl trivial ?_)
          refine zv_iale (bX7_glanced ((z + 1) + 2)) rfl rfl hv (show A 2 (nI n).toNatClampNeg = A 2 n by rw [e1]) ?_
          iterate 3 (refine zv_step (bX7_glanced ((z + 1) + 2)) rfl rfl trivial ?_)
          refine zv_V3 (bX7_glanced ((z + 1) + 2)) rfl rfl rfl rfl rfl rfl rfl ⟨rfl, rfl, rfl⟩ ⟨by show z + 2 + 1 ≤ z + 1 + 2; omega, by show 8 + (4 + 11) + 64 * (z + 2) ≤ 64 * (z + 1 + 2); omega⟩ ⟨Nat.zero_le _, Nat.zero_le _⟩ (ih _ _ hp2) ?_
          rintro _ _ ⟨rfl, m1, rfl⟩
          iterate 6 (refine zv_step (bX7_glanced ((z + 1) + 2)) rfl rfl trivial ?_)
          refine zv_iale (bX7_glanced ((z + 1) + 2)) rfl rfl hv (show A 3 (nI n).toNatClampNeg = A 3 n by rw [e1]) ?_
          iterate 3 (refine zv_step (bX7_glanced ((z + 1) + 2)) rfl rfl trivial ?_)
          refine zv_V3 (bX7_glanced ((z + 1) + 2)) rfl rfl rfl rfl rfl rfl rfl ⟨rfl, rfl, rfl⟩ ⟨by show z + 2 + 1 ≤ z + 1 + 2; omega, by show 8 + (4 + 11) + 64 * (z + 2) ≤ 64 * (z + 1 + 2); omega⟩ ⟨Nat.zero_le _, Nat.zero_le _⟩ (ih _ _ hp3) ?_
          rintro _ _ ⟨rfl, m3, rfl⟩
          iterate 1 (refine zv_step (bX7_glanced ((z + 1) + 2)) rfl rfl trivial ?_)
          exact zv_iret (bX7_glanced ((z + 1) + 2)) rfl (Or.inl rfl) (Nat.zero_le _) (Nat.zero_le _) ⟨rfl, _, rfl⟩
        · iterate 8 (refine zv_step (bX7_glanced ((z + 1) + 2)) rfl rfl trivial ?_)
          refine zv_iale (bX7_glanced ((z + 1) + 2)) rfl rfl hv (show A 2 (nI n).toNatClampNeg = A 2 n by rw [e1]) ?_
          iterate 3 (refine zv_step (bX7_glanced ((z + 1) + 2)) rfl rfl trivial ?_)
          refine zv_V3 (bX7_glanced ((z + 1) + 2)) rfl rfl rfl rfl rfl rfl rfl ⟨rfl, rfl, rfl⟩ ⟨by show z + 2 + 1 ≤ z + 1 + 2; omega, by show 8 + (4 + 11) + 64 * (z + 2) ≤ 64 * (z + 1 + 2); omega⟩ ⟨Nat.zero_le _, Nat.zero_le _⟩ (ih _ _ hp2) ?_
          rintro _ _ ⟨rfl, m1, rfl⟩
          iterate 6 (refine zv_step (bX7_glanced ((z + 1) + 2)) rfl rfl trivial ?_)
          refine zv_iale (bX7_glanced ((z + 1) + 2)) rfl rfl hv (show A 3 (nI n).toNatClampNeg = A 3 n by rw [e1]) ?_
          iterate 3 (refine zv_step (bX7_glanced ((z + 1) + 2)) rfl rfl trivial ?_)
          refine zv_V3 (bX7_glanced ((z + 1) + 2)) rfl rfl rfl rfl rfl rfl rfl ⟨rfl, rfl, rfl⟩ ⟨by show z + 2 + 1 ≤ z + 1 + 2; omega, by show 8 + (4 + 11) + 64 * (z + 2) ≤ 64 * (z + 1 + 2); omega⟩ ⟨Nat.zero_le _, Nat.zero_le _⟩ (ih _ _ hp3) ?_
          rintro _ _ ⟨rfl, m3, rfl⟩
          iterate 1 (refine zv_step (bX7_glanced ((z + 1) + 2)) rfl rfl trivial ?_)
          exact zv_iret (bX7_glanced ((z + 1) + 2)) rfl (Or.inl rfl) (Nat.zero_le _) (Nat.zero_le _) ⟨rfl, _, rfl⟩
      · iterate 1 (refine zv_step (bX7_glanced ((z + 1) + 2)) rfl rfl trivial ?_)
        exact zv_iret (bX7_glanced ((z + 1) + 2)) rfl (Or.inl rfl) (Nat.zero_le _) (Nat.zero_le _) ⟨rfl, _, rfl⟩
