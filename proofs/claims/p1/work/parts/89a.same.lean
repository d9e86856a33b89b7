/-- a row of words kept for later: how many, and which -/
def rowW (A : Nat → Nat → Int32) (a : Nat) (L : List Int32) : Prop := A 17 a = nI L.length ∧ ∀ (i : Nat) (v : Int32), L[i]? = some v → A 16 (20 * a + i) = v
theorem ix20 {a i : Nat} (ha : a < 280) (hi : i < 20) : c8 20 * nI a + nI i = nI (20 * a + i) := by
  rw [show c8 20 = nI 20 from by decide +kernel, pk_mul, nI_add]
set_option maxHeartbeats 1000000 in
set_option maxRecDepth 20000 in
theorem same0 (f : Nat → zC) (o : Nat → Int32) (A : Nat → Nat → Int32) (J : Nat → Nat → Int64) {a b : Nat} (ha : a < 280) (hb : b < 280) {La Lb : List Int32} (hA : rowW A a La) (hB : rowW A b Lb) (hla : La.length ≤ 20) {n0 : Nat} {Q : Option Value → zW → Prop} (hQ : Q (some (.int 0)) (wR f o A J)) {x4 : Int32} : zV (zMo 0 zX7_isSame) false n0 0 0 24 [(4, .int x4), (3, .int 0), (0, .ref 76), (1, .int (nI a)), (2, .int (nI b))] [] (wR f o A J) Q := by
  iterate 4 (refine zv_step (bX7_isSame 0) rfl rfl trivial ?_)
  refine zv_iale (bX7_isSame 0) rfl rfl (vp_in_nI ha (by decide)) (show A 17 (nI a).toNatClampNeg = nI La.length by rw [nI_clamp (by omega)]; exact hA.1) ?_
  iterate 1 (refine zv_step (bX7_isSame 0) rfl rfl trivial ?_)
  refine zv_ifb (fun hc => ?_) (fun hc => ?_)
  · iterate 1 (refine zv_step (bX7_isSame 0) rfl rfl trivial ?_)
    exact zv_iret (bX7_isSame 0) rfl (Or.inr ⟨rfl, Or.inl rfl⟩) (Nat.zero_le _) (Nat.zero_le _) hQ
  · iterate 2 (refine zv_step (bX7_isSame 0) rfl rfl trivial ?_)
    refine zv_ift (by decide) ?_
    iterate 1 (refine zv_step (bX7_isSame 0) rfl rfl trivial ?_)
    exact zv_iret (bX7_isSame 0) rfl (Or.inr ⟨rfl, Or.inl rfl⟩) (Nat.zero_le _) (Nat.zero_le _) hQ
set_option maxHeartbeats 1000000 in
set_option maxRecDepth 20000 in
theorem same1 (f : Nat → zC) (o : Nat → Int32) (A : Nat → Nat → Int32) (J : Nat → Nat → Int64) {a b : Nat} (ha : a < 280) (hb : b < 280) {La Lb : List Int32} (hA : rowW A a La) (hB : rowW A b Lb) (hla : La.length ≤ 20) {n0 : Nat} {Q : Option Value → zW → Prop} (hlen : La.length = Lb.length) (hQ0 : La ≠ Lb → Q (some (.int 0)) (wR f o A J)) (hQ1 : La = Lb → Q (some (.int 1)) (wR f o A J)) : ∀ (c i : Nat), i + c = La.length → ∀ {x4 : Int32}, x4 = nI i → (∀ j, j < i → La[j]? = Lb[j]?) → zV (zMo 0 zX7_isSame) false n0 0 0 24 [(4, .int x4), (3, .int 1), (0, .ref 76), (1, .int (nI a)), (2, .int (nI b))] [] (wR f o A J) Q := by
  intro c
  induction c with
  | zero =>
    intro i hi x4 e4 hp
    iterate 4 (refine zv_step (bX7_isSame 0) rfl rfl trivial ?_)
    refine zv_iale (bX7_isSame 0) rfl rfl (vp_in_nI ha (by decide)) (show A 17 (nI a).toNatClampNeg = nI La.length by rw [nI_clamp (by omega)]; exact hA.1) ?_
    iterate 1 (refine zv_step (bX7_isSame 0) rfl rfl trivial ?_)
    refine zv_ift (by rw [e4]; exact nI_le (by omega) (by omega)) ?_
    iterate 1 (refine zv_step (bX7_isSame 0) rfl rfl trivial ?_)
    refine zv_iret (bX7_isSame 0) rfl (Or.inr ⟨rfl, Or.inr rfl⟩) (Nat.zero_le _) (Nat.zero_le _) (hQ1 (List.ext_getElem? (fun j => ?_)))
    by_cases hj : j < i
    · exact hp j hj
    · rw [List.getElem?_eq_none (by omega), List.getElem?_eq_none (by omega)]
  | succ c ih =>
    intro i hi0 x4 e4 hp
    subst e4
    have hi : i < La.length := by omega
    have hi2 : i < Lb.length := by omega
    iterate 4 (refine zv_step (bX7_isSame 0) rfl rfl trivial ?_)
    refine zv_iale (bX7_isSame 0) rfl rfl (vp_in_nI ha (by decide)) (show A 17 (nI a).toNatClampNeg = nI La.length by rw [nI_clamp (by omega)]; exact hA.1) ?_
    iterate 1 (refine zv_step (bX7_isSame 0) rfl rfl trivial ?_)
    refine zv_iff (nI_ge (by omega) (by omega)) ?_
    iterate 2 (refine zv_step (bX7_isSame 0) rfl rfl trivial ?_)
    refine zv_iff (by decide) ?_
    iterate 7 (refine zv_step (bX7_isSame 0) rfl rfl trivial ?_)
    refine zv_iale (bX7_isSame 0) rfl rfl (show vp_in (c8 20 * nI a + nI i) 5600 by rw [ix20 ha (by omega)]; exact vp_in_nI (by omega) (by decide)) (show A 16 (c8 20 * nI a + nI i).toNatClampNeg = La[i] by rw [ix20 ha (by omega), nI_clamp (by omega)]; exact hA.2 i _ (List.getElem?_eq_getElem hi)) ?_
    iterate 7 (refine zv_step (bX7_isSame 0) rfl rfl trivial ?_)
    refine zv_iale (bX7_isSame 0) rfl rfl (show vp_in (c8 20 * nI b + nI i) 5600 by rw [ix20 hb (by omega)]; exact vp_in_nI (by omega) (by decide)) (show A 16 (c8 20 * nI b + nI i).toNatClampNeg = Lb[i] by rw [ix20 hb (by omega), nI_clamp (by omega)]; exact hB.2 i _ (List.getElem?_eq_getElem hi2)) ?_
    iterate 1 (refine zv_step (bX7_isSame 0) rfl rfl trivial ?_)
    by_cases hv : La[i] = Lb[i]
    · refine zv_iff (fun q => q hv) ?_
      iterate 5 (refine zv_step (bX7_isSame 0) rfl rfl trivial ?_)
      refine ih (i + 1) (by omega) (nI_1 i) (fun j hj => ?_)
      by_cases hj2 : j < i
      · exact hp j hj2
      · have e : j = i := by omega
        subst e
        rw [List.getElem?_eq_getElem hi, List.getElem?_eq_getElem hi2, hv]
    · refine zv_ift hv ?_
      iterate 4 (refine zv_step (bX7_isSame 0) rfl rfl trivial ?_)
      refine same0 f o A J ha hb hA hB hla (hQ0 (fun q => hv ?_))
      subst q
      rfl
set_option maxHeartbeats 1000000 in
set_option maxRecDepth 20000 in
theorem mSame (f : Nat → zC) (o : Nat → Int32) (A : Nat → Nat → Int32) (J : Nat → Nat → Int64) {a b : Nat} (ha : a < 280) (hb : b < 280) {La Lb : List Int32} (hA : rowW A a La) (hB : rowW A b Lb) (hla : La.length ≤ 20) (hlb : Lb.length ≤ 20) : zK 0 zX7_isSame [.ref 76, .int (nI a), .int (nI b)] (wR f o A J) (fun r w' => w' = wR f o A J ∧ ((La = Lb ∧ r = some (.int 1)) ∨ (La ≠ Lb ∧ r = some (.int 0)))) := by
  refine zK_of qX7_isSame (by decide +kernel) rfl ?_
  iterate 3 (refine zv_step (bX7_isSame 0) rfl rfl trivial ?_)
  refine zv_iale (bX7_isSame 0) rfl rfl (vp_in_nI ha (by decide)) (show A 17 (nI a).toNatClampNeg = nI La.length by rw [nI_clamp (by omega)]; exact hA.1) ?_
  iterate 3 (refine zv_step (bX7_isSame 0) rfl rfl trivial ?_)
  refine zv_iale (bX7_isSame 0) rfl rfl (vp_in_nI hb (by decide)) (show A 17 (nI b).toNatClampNeg = nI Lb.length by rw [nI_clamp (by omega)]; exact hB.1) ?_
  iterate 1 (refine zv_step (bX7_isSame 0) rfl rfl trivial ?_)
  by_cases hl : La.length = Lb.length
  · refine zv_iff (by rw [hl]; exact fun q => q rfl) ?_
    iterate 5 (refine zv_step (bX7_isSame 0) rfl rfl trivial ?_)
    exact same1 f o A J ha hb hA hB hla hl (fun q => ⟨rfl, Or.inr ⟨q, rfl⟩⟩) (fun q => ⟨rfl, Or.inl ⟨q, rfl⟩⟩) La.length 0 (by omega) rfl (fun j hj => absurd hj (by omega))
  · refine zv_ift (fun q => hl ((nI_eq (by omega) (by omega)).mp q)) ?_
    iterate 4 (refine zv_step (bX7_isSame 0) rfl rfl trivial ?_)
    exact same0 f o A J ha hb hA hB hla ⟨rfl, Or.inr ⟨fun q => hl (by rw [q]), rfl⟩⟩
