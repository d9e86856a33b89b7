/-- how often a NODE holds one of a sort, over the class's rows and over the reference's -/
noncomputable def oneW (p : Prop) : Nat := @ite _ p (Classical.propDecidable _) 1 0
theorem oneW_y {p : Prop} (h : p) : oneW p = 1 := @if_pos _ (Classical.propDecidable _) h _ _ _
theorem oneW_n {p : Prop} (h : ¬ p) : oneW p = 0 := @if_neg _ (Classical.propDecidable _) h _ _ _
theorem oneW_e {p q : Prop} (h : p ↔ q) : oneW p = oneW q := by
  by_cases w : p
  · rw [oneW_y w, oneW_y (h.mp w)]
  · rw [oneW_n w, oneW_n (fun z => w (h.mpr z))]
noncomputable def tmC (E : Nat → Prop) (P : Nat → Nat → Int32) : Nat → Int32 → Nat
  | 0, _ => 0
  | z + 1, x => if x = m1 then 0 else oneW (E x.toNatClampNeg) + tmC E P z (P 4 x.toNatClampNeg) + tmC E P z (P 5 x.toNatClampNeg)
noncomputable def tmM (E : Nat → Prop) (A : Nat → Nat → Int32) : Nat → Int32 → Nat
  | 0, _ => 0
  | z + 1, x => if x = m2 then 0 else oneW (E x.toNatClampNeg) + tmM E A z (A 2 x.toNatClampNeg) + tmM E A z (A 3 x.toNatClampNeg)
theorem tmC_m1 (E : Nat → Prop) (P : Nat → Nat → Int32) (z : Nat) : tmC E P z m1 = 0 := by
  cases z with
  | zero => rfl
  | succ z => exact if_pos rfl
theorem tmM_m2 (E : Nat → Prop) (A : Nat → Nat → Int32) (z : Nat) : tmM E A z m2 = 0 := by
  cases z with
  | zero => rfl
  | succ z => exact if_pos rfl
theorem tmC_nI (E : Nat → Prop) (P : Nat → Nat → Int32) (z : Nat) {n : Nat} (h : n < 1000) : tmC E P (z + 1) (nI n) = oneW (E n) + tmC E P z (P 4 n) + tmC E P z (P 5 n) := by
  show (if nI n = m1 then 0 else oneW (E (nI n).toNatClampNeg) + tmC E P z (P 4 (nI n).toNatClampNeg) + tmC E P z (P 5 (nI n).toNatClampNeg)) = _
  rw [if_neg (m1_n (by omega)), nI_clamp (by omega)]
theorem tmM_nI (E : Nat → Prop) (A : Nat → Nat → Int32) (z : Nat) {n : Nat} (h : n < 450) : tmM E A (z + 1) (nI n) = oneW (E n) + tmM E A z (A 2 n) + tmM E A z (A 3 n) := by
  show (if nI n = m2 then 0 else oneW (E (nI n).toNatClampNeg) + tmM E A z (A 2 (nI n).toNatClampNeg) + tmM E A z (A 3 (nI n).toNatClampNeg)) = _
  rw [if_neg (fun q => m2_nI h q.symm), nI_clamp (by omega)]
theorem tmC_fu {E : Nat → Prop} {P : Nat → Nat → Int32} {u : Nat} (hu : u ≤ 120) (hO : ∀ n, n < u → okp n (P 4 n) ∧ okp n (P 5 n)) : ∀ (z n : Nat), n < u → n < z → tmC E P z (nI n) = tmC E P (z + 1) (nI n)
  | 0, _, _, h => absurd h (Nat.not_lt_zero _)
  | z + 1, n, hn, hz => by
    have part : ∀ x, okp n x → tmC E P z x = tmC E P (z + 1) x := by
      rintro x (e | ⟨j, hj, e⟩)
      · rw [e, show (Int32.ofInt (-1)) = m1 from rfl, tmC_m1, tmC_m1]
      · rw [e]
        exact tmC_fu hu hO z j (by omega) (by omega)
    rw [tmC_nI E P z (by omega), tmC_nI E P (z + 1) (by omega), part _ (hO n hn).1, part _ (hO n hn).2]
theorem tmC_st {E : Nat → Prop} {P : Nat → Nat → Int32} {u : Nat} (hu : u ≤ 120) (hO : ∀ n, n < u → okp n (P 4 n) ∧ okp n (P 5 n)) {n : Nat} (hn : n < u) : tmC E P 200 (nI n) = oneW (E n) + tmC E P 200 (P 4 n) + tmC E P 200 (P 5 n) := by
  rw [tmC_fu hu hO 200 n hn (by omega)]
  exact tmC_nI E P 200 (by omega)
theorem tm_same {u : Nat} (hu : u ≤ 120) {P A : Nat → Nat → Int32} (hT : tbI 0 u A) (hN : NR u P A) {E E' : Nat → Prop} (hE : ∀ n, n < u → (E n ↔ E' n)) : ∀ (z n : Nat), n < u → szN A n ≤ z → tmC E P 200 (nI n) = tmM E' A z (nI n)
  | 0, n, hn, hz => by
    have := (rN_sz (hT n (Nat.zero_le _) hn)).1
    omega
  | z + 1, n, hn, hz => by
    obtain ⟨_, _, n3, n4, _⟩ := hN n hn
    have part : ∀ x, (x = m2 ∨ ∃ a, x = nI a ∧ a < n ∧ szN A a + 1 ≤ szN A n) → tmC E P 200 (cvI x) = tmM E' A z x := by
      rintro x (e | ⟨a, e, ha, sa⟩)
      · rw [e, cvI_m2, tmC_m1, tmM_m2]
      · rw [e, cvI_nI (by omega)]
        exact tm_same hu hT hN hE z a (by omega) (by omega)
    obtain ⟨d2, d3⟩ := rN_dn (hT n (Nat.zero_le _) hn)
    rw [tmC_st hu (fun j hj => ⟨(hN j hj).2.2.2.2.2.1, (hN j hj).2.2.2.2.2.2.1⟩) hn, tmM_nI E' A z (by omega), n3, n4, part _ d2, part _ d3, oneW_e (hE n hn)]
theorem ty_of {u i : Nat} (hu : u ≤ 120) (hi : i ≤ u) {U : Int32} (hU : U = nI u) {E : Nat → Prop} {P : Nat → Nat → Int32} {R : Nat → Int32} (hR : ∀ k, k < i → R k = nI (tmC E P 200 (nI k))) {x : Int32} (hx : okp i x) {r : Option Value} (h : ((0 ≤ x.toInt ∧ x.toInt < U.toInt) ∧ r = some (.int (R x.toNatClampNeg))) ∨ (¬ (0 ≤ x.toInt ∧ x.toInt < U.toInt) ∧ r = some (.int (Int32.ofInt 0)))) : r = some (.int (nI (tmC E P 200 x))) := by
  rcases hx with e | ⟨j, hj, e⟩
  · rcases h with ⟨q, _⟩ | ⟨_, w⟩
    · rw [e] at q
      exact absurd q.1 (by decide)
    · rw [e, show (Int32.ofInt (-1)) = m1 from rfl, tmC_m1]
      exact w
  · rcases h with ⟨_, w⟩ | ⟨q, _⟩
    · rw [w, e, nI_clamp (by omega), hR j hj]
    · rw [e, hU, nI_toInt (by omega), nI_toInt (by omega)] at q
      omega
theorem tm_up {u i : Nat} (hu : u ≤ 120) (hi : i < u) {E : Nat → Prop} {P : Nat → Nat → Int32} (hO : ∀ n, n < u → okp n (P 4 n) ∧ okp n (P 5 n)) {R : Nat → Int32} (hR : ∀ k, k < i → R k = nI (tmC E P 200 (nI k))) {v : Int32} (hv : v = nI (oneW (E i)) + nI (tmC E P 200 (P 4 i)) + nI (tmC E P 200 (P 5 i))) : ∀ k, k < i + 1 → upd R (nI i).toNatClampNeg v k = nI (tmC E P 200 (nI k)) := fun k hk => by
  rw [nI_clamp (by omega)]
  by_cases e : k = i
  · rw [e, upd_self, hv, nI_add, nI_add, tmC_st hu hO hi]
  · rw [upd_ne _ _ e]
    exact hR k (by omega)
set_option maxHeartbeats 1000000 in
set_option maxRecDepth 20000 in
theorem pTimesLX (O : Nat → Int32) (P : Nat → Nat → Int32) (Y : Nat → Nat → Int64) (g : Nat → zC) {u : Nat} (hu0 : u ≤ 120) (h1 : O 1 = nI u) (hO : ∀ n, n < u → okp n (P 4 n) ∧ okp n (P 5 n)) {m : Nat} (hm : m < u) {j : Nat} (hj : j < u) {n0 : Nat} : ∀ (c i : Nat), i + c = j + 1 → ∀ {R : Nat → Int32} {x3 : Int32}, x3 = nI i → (∀ k, k < i → R k = nI (tmC (fun k => P 12 k = P 12 m) P 200 (nI k))) → zV (zMo 2 zX2_timesWithin) false n0 0 0 2 [(3, .int x3), (0, .ref 1), (1, .int (nI j)), (2, .int (nI m))] [] (wX O (updA P 13 R) Y g) (fun r w' => ∃ R' : Nat → Int32, r = some (.int (nI (tmC (fun k => P 12 k = P 12 m) P 200 (nI j)))) ∧ w' = wX O (updA P 13 R') Y g) := by
  have hu : (O 1).toInt ≤ 120 := by rw [h1, nI_toInt (by omega)]; omega
  have hy : vp_in (nI m) 120 := vp_in_nI (by omega) (by decide)
  intro c
  induction c with
  | zero =>
    intro i hc R x3 e3 hR
    subst e3
    iterate 3 (refine zv_step (bX2_timesWithin 2) rfl rfl trivial ?_)
    refine zv_ift (nI_lt (by omega) (by omega)) ?_
    iterate 3 (refine zv_step (bX2_timesWithin 2) rfl rfl trivial ?_)
    refine zv_step (bX2_timesWithin 2) rfl rfl (show vp_in (nI j) 120 from vp_in_nI (by omega) (by decide)) ?_
    exact zv_iret (bX2_timesWithin 2) rfl (Or.inl rfl) (Nat.zero_le _) (Nat.zero_le _) ⟨R, congrArg (fun v => some (Value.int v)) (show R (nI j).toNatClampNeg = _ by rw [nI_clamp (by omega)]; exact hR j (by omega)), rfl⟩
  | succ c ih =>
    intro i hc R x3 e3 hR
    subst e3
    iterate 3 (refine zv_step (bX2_timesWithin 2) rfl rfl trivial ?_)
    refine zv_iff (nI_nlt (by omega) (by omega)) ?_
    iterate 6 (refine zv_step (bX2_timesWithin 2) rfl rfl trivial ?_)
    refine zv_V2 (bX2_timesWithin 2) rfl rfl rfl rfl rfl rfl rfl ⟨rfl, rfl, rfl⟩ ⟨by decide, by decide⟩ ⟨Nat.zero_le _, Nat.zero_le _⟩ (pAlike1 O (updA P 13 R) Y g (show vp_in (nI i) 120 from vp_in_nI (by omega) (by decide)) hy) ?_
    rintro _ _ ⟨rfl, ⟨hh, rfl⟩ | ⟨hh, rfl⟩⟩
    · iterate 1 (refine zv_step (bX2_timesWithin 2) rfl rfl trivial ?_)
      refine zv_iff (by decide) ?_
      iterate 6 (refine zv_step (bX2_timesWithin 2) rfl rfl trivial ?_)
      refine zv_step (bX2_timesWithin 2) rfl rfl (show vp_in (nI i) 120 from vp_in_nI (by omega) (by decide)) ?_
      refine zv_V1 (bX2_timesWithin 2) rfl rfl rfl rfl rfl rfl rfl ⟨rfl, rfl, rfl⟩ ⟨by decide, by decide⟩ ⟨Nat.zero_le _, Nat.zero_le _⟩ (pTally1 O (updA P 13 R) Y g hu _) ?_
      rintro r _ ⟨rfl, hr⟩
      replace hr : ((0 ≤ (P 4 (nI i).toNatClampNeg).toInt ∧ (P 4 (nI i).toNatClampNeg).toInt < (O 1).toInt) ∧ r = some (.int (R (P 4 (nI i).toNatClampNeg).toNatClampNeg))) ∨ (¬ (0 ≤ (P 4 (nI i).toNatClampNeg).toInt ∧ (P 4 (nI i).toNatClampNeg).toInt < (O 1).toInt) ∧ r = some (.int (Int32.ofInt 0))) := hr
      rw [nI_clamp (show i < 2 ^ 31 by omega)] at hr
      obtain rfl := ty_of hu0 (show i ≤ u by omega) h1 hR (hO i (by omega)).1 hr
      iterate 5 (refine zv_step (bX2_timesWithin 2) rfl rfl trivial ?_)
      refine zv_step (bX2_timesWithin 2) rfl rfl (show vp_in (nI i) 120 from vp_in_nI (by omega) (by decide)) ?_
      refine zv_V1 (bX2_timesWithin 2) rfl rfl rfl rfl rfl rfl rfl ⟨rfl, rfl, rfl⟩ ⟨by decide, by decide⟩ ⟨Nat.zero_le _, Nat.zero_le _⟩ (pTally1 O (updA P 13 R) Y g hu _) ?_
      rintro r _ ⟨rfl, hr⟩
      replace hr : ((0 ≤ (P 5 (nI i).toNatClampNeg).toInt ∧ (P 5 (nI i).toNatClampNeg).toInt < (O 1).toInt) ∧ r = some (.int (R (P 5 (nI i).toNatClampNeg).toNatClampNeg))) ∨ (¬ (0 ≤ (P 5 (nI i).toNatClampNeg).toInt ∧ (P 5 (nI i).toNatClampNeg).toInt < (O 1).toInt) ∧ r = some (.int (Int32.ofInt 0))) := hr
      rw [nI_clamp (show i < 2 ^ 31 by omega)] at hr
      obtain rfl := ty_of hu0 (show i ≤ u by omega) h1 hR (hO i (by omega)).2 hr
      iterate 1 (refine zv_step (bX2_timesWithin 2) rfl rfl trivial ?_)
      refine zv_step (bX2_timesWithin 2) rfl rfl (show vp_in (nI i) 120 from vp_in_nI (by omega) (by decide)) ?_
      iterate 2 (refine zv_step (bX2_timesWithin 2) rfl rfl trivial ?_)
      replace hh : P 12 (nI i).toNatClampNeg = P 12 (nI m).toNatClampNeg := hh
      rw [nI_clamp (show i < 2 ^ 31 by omega), nI_clamp (show m < 2 ^ 31 by omega)] at hh
      exact ih (i + 1) (by omega) (R := upd R (nI i).toNatClampNeg (Int32.ofInt 1 + nI (tmC (fun k => P 12 k = P 12 m) P 200 (P 4 i)) + nI (tmC (fun k => P 12 k = P 12 m) P 200 (P 5 i)))) (nI_1 i) (tm_up hu0 (by omega) hO hR (by rw [oneW_y (p := P 12 i = P 12 m) hh]; rfl))
    · iterate 1 (refine zv_step (bX2_timesWithin 2) rfl rfl trivial ?_)
      refine zv_ift (by decide) ?_
      iterate 5 (refine zv_step (bX2_timesWithin 2) rfl rfl trivial ?_)
      refine zv_step (bX2_timesWithin 2) rfl rfl (show vp_in (nI i) 120 from vp_in_nI (by omega) (by decide)) ?_
      refine zv_V1 (bX2_timesWithin 2) rfl rfl rfl rfl rfl rfl rfl ⟨rfl, rfl, rfl⟩ ⟨by decide, by decide⟩ ⟨Nat.zero_le _, Nat.zero_le _⟩ (pTally1 O (updA P 13 R) Y g hu _) ?_
      rintro r _ ⟨rfl, hr⟩
      replace hr : ((0 ≤ (P 4 (nI i).toNatClampNeg).toInt ∧ (P 4 (nI i).toNatClampNeg).toInt < (O 1).toInt) ∧ r = some (.int (R (P 4 (nI i).toNatClampNeg).toNatClampNeg))) ∨ (¬ (0 ≤ (P 4 (nI i).toNatClampNeg).toInt ∧ (P 4 (nI i).toNatClampNeg).toInt < (O 1).toInt) ∧ r = some (.int (Int32.ofInt 0))) := hr
      rw [nI_clamp (show i < 2 ^ 31 by omega)] at hr
      obtain rfl := ty_of hu0 (show i ≤ u by omega) h1 hR (hO i (by omega)).1 hr
      iterate 5 (refine zv_step (bX2_timesWithin 2) rfl rfl trivial ?_)
      refine zv_step (bX2_timesWithin 2) rfl rfl (show vp_in (nI i) 120 from vp_in_nI (by omega) (by decide)) ?_
      refine zv_V1 (bX2_timesWithin 2) rfl rfl rfl rfl rfl rfl rfl ⟨rfl, rfl, rfl⟩ ⟨by decide, by decide⟩ ⟨Nat.zero_le _, Nat.zero_le _⟩ (pTally1 O (updA P 13 R) Y g hu _) ?_
      rintro r _ ⟨rfl, hr⟩
      replace hr : ((0 ≤ (P 5 (nI i).toNatClampNeg).toInt ∧ (P 5 (nI i).toNatClampNeg).toInt < (O 1).toInt) ∧ r = some (.int (R (P 5 (nI i).toNatClampNeg).toNatClampNeg))) ∨ (¬ (0 ≤ (P 5 (nI i).toNatClampNeg).toInt ∧ (P 5 (nI i).toNatClampNeg).toInt < (O 1).toInt) ∧ r = some (.int (Int32.ofInt 0))) := hr
      rw [nI_clamp (show i < 2 ^ 31 by omega)] at hr
      obtain rfl := ty_of hu0 (show i ≤ u by omega) h1 hR (hO i (by omega)).2 hr
      iterate 1 (refine zv_step (bX2_timesWithin 2) rfl rfl trivial ?_)
      refine zv_step (bX2_timesWithin 2) rfl rfl (show vp_in (nI i) 120 from vp_in_nI (by omega) (by decide)) ?_
      iterate 2 (refine zv_step (bX2_timesWithin 2) rfl rfl trivial ?_)
      replace hh : ¬ P 12 (nI i).toNatClampNeg = P 12 (nI m).toNatClampNeg := hh
      rw [nI_clamp (show i < 2 ^ 31 by omega), nI_clamp (show m < 2 ^ 31 by omega)] at hh
      exact ih (i + 1) (by omega) (R := upd R (nI i).toNatClampNeg (Int32.ofInt 0 + nI (tmC (fun k => P 12 k = P 12 m) P 200 (P 4 i)) + nI (tmC (fun k => P 12 k = P 12 m) P 200 (P 5 i)))) (nI_1 i) (tm_up hu0 (by omega) hO hR (by rw [oneW_n (p := P 12 i = P 12 m) hh]; rfl))
set_option maxHeartbeats 1000000 in
set_option maxRecDepth 20000 in
theorem pTimesX (O : Nat → Int32) (P : Nat → Nat → Int32) (Y : Nat → Nat → Int64) (g : Nat → zC) {u : Nat} (hu0 : u ≤ 120) (h1 : O 1 = nI u) (hO : ∀ n, n < u → okp n (P 4 n) ∧ okp n (P 5 n)) {m : Nat} (hm : m < u) {j : Nat} (hj : j < u) : zK 2 zX2_timesWithin [.ref 1, .int (nI j), .int (nI m)] (wX O P Y g) (fun r w' => ∃ R' : Nat → Int32, r = some (.int (nI (tmC (fun k => P 12 k = P 12 m) P 200 (nI j)))) ∧ w' = wX O (updA P 13 R') Y g) := by
  refine zK_of qX2_timesWithin (by decide +kernel) rfl ?_
  iterate 2 (refine zv_step (bX2_timesWithin 2) rfl rfl trivial ?_)
  exact pTimesLX O P Y g hu0 h1 hO hm hj (j + 1) 0 (by omega) (R := P 13) rfl (fun k hk => absurd hk (Nat.not_lt_zero _))
set_option maxHeartbeats 1000000 in
set_option maxRecDepth 20000 in
theorem cAlikeX (O : Nat → Int32) (P : Nat → Nat → Int32) (Y : Nat → Nat → Int64) (g : Nat → zC) {u : Nat} (hu : u ≤ 120) (h1 : O 1 = nI u) (x y : Int32) : zK 1 zX6_alike [.ref 0, .int x, .int y] (wX O P Y g) (fun r w' => w' = wX O P Y g ∧ ∃ R : Int32, r = some (.int R) ∧ twR u x y (fun n m => nI (oneW (P 12 n = P 12 m))) R) := by
  refine zK_of qX6_alike (by decide +kernel) rfl ?_
  iterate 3 (refine zv_step (bX6_alike 1) rfl rfl trivial ?_)
  refine zv_V1 (bX6_alike 1) rfl rfl rfl rfl rfl rfl rfl ⟨rfl, rfl, rfl⟩ ⟨by decide, by decide⟩ ⟨Nat.zero_le _, Nat.zero_le _⟩ (pHas1 O P Y g _) ?_
  rintro _ _ ⟨rfl, ⟨ha, rfl⟩ | ⟨ha, rfl⟩⟩
  · have ha1 : isN u x := by
      have h9 := ha
      rw [h1, nI_toInt (by omega)] at h9
      exact h9
    obtain ⟨n, hn, rfl⟩ := has_j hu h1 ha
    iterate 1 (refine zv_step (bX6_alike 1) rfl rfl trivial ?_)
    refine zv_iff (by decide) ?_
    iterate 3 (refine zv_step (bX6_alike 1) rfl rfl trivial ?_)
    refine zv_V1 (bX6_alike 1) rfl rfl rfl rfl rfl rfl rfl ⟨rfl, rfl, rfl⟩ ⟨by decide, by decide⟩ ⟨Nat.zero_le _, Nat.zero_le _⟩ (pHas1 O P Y g _) ?_
    rintro _ _ ⟨rfl, ⟨hb, rfl⟩ | ⟨hb, rfl⟩⟩
    · have hb1 : isN u y := by
        have h9 := hb
        rw [h1, nI_toInt (by omega)] at h9
        exact h9
      obtain ⟨m, hm, rfl⟩ := has_j hu h1 hb
      iterate 1 (refine zv_step (bX6_alike 1) rfl rfl trivial ?_)
      refine zv_ift (by decide) ?_
      iterate 4 (refine zv_step (bX6_alike 1) rfl rfl trivial ?_)
      refine zv_V2 (bX6_alike 1) rfl rfl rfl rfl rfl rfl rfl ⟨rfl, rfl, rfl⟩ ⟨by decide, by decide⟩ ⟨Nat.zero_le _, Nat.zero_le _⟩ (pAlike1 O P Y g (vp_in_nI (n := n) (by omega) (by decide)) (vp_in_nI (n := m) (by omega) (by decide))) ?_
      rintro _ _ ⟨rfl, ⟨hq, rfl⟩ | ⟨hq, rfl⟩⟩
      · rw [nI_clamp (show n < 2 ^ 31 by omega), nI_clamp (show m < 2 ^ 31 by omega)] at hq
        iterate 1 (refine zv_step (bX6_alike 1) rfl rfl trivial ?_)
        refine zv_iff (by decide) ?_
        iterate 2 (refine zv_step (bX6_alike 1) rfl rfl trivial ?_)
        exact zv_iret (bX6_alike 1) rfl (Or.inl rfl) (Nat.zero_le _) (Nat.zero_le _) ⟨rfl, _, rfl, Or.inr ⟨n, m, hn, hm, rfl, rfl, congrArg nI (oneW_y hq).symm⟩⟩
      · rw [nI_clamp (show n < 2 ^ 31 by omega), nI_clamp (show m < 2 ^ 31 by omega)] at hq
        iterate 1 (refine zv_step (bX6_alike 1) rfl rfl trivial ?_)
        refine zv_ift (by decide) ?_
        iterate 1 (refine zv_step (bX6_alike 1) rfl rfl trivial ?_)
        exact zv_iret (bX6_alike 1) rfl (Or.inl rfl) (Nat.zero_le _) (Nat.zero_le _) ⟨rfl, _, rfl, Or.inr ⟨n, m, hn, hm, rfl, rfl, congrArg nI (oneW_n hq).symm⟩⟩
    · have hb1 : ¬ isN u y := fun q => hb (by rw [h1, nI_toInt (by omega)]; exact q)
      iterate 1 (refine zv_step (bX6_alike 1) rfl rfl trivial ?_)
      refine zv_iff (by decide) ?_
      iterate 1 (refine zv_step (bX6_alike 1) rfl rfl trivial ?_)
      exact zv_iret (bX6_alike 1) rfl (Or.inl rfl) (Nat.zero_le _) (Nat.zero_le _) ⟨rfl, _, rfl, Or.inl ⟨rfl, fun q => hb1 q.2⟩⟩
  · have ha1 : ¬ isN u x := fun q => ha (by rw [h1, nI_toInt (by omega)]; exact q)
    iterate 1 (refine zv_step (bX6_alike 1) rfl rfl trivial ?_)
    refine zv_ift (by decide) ?_
    iterate 1 (refine zv_step (bX6_alike 1) rfl rfl trivial ?_)
    exact zv_iret (bX6_alike 1) rfl (Or.inl rfl) (Nat.zero_le _) (Nat.zero_le _) ⟨rfl, _, rfl, Or.inl ⟨rfl, fun q => ha1 q.1⟩⟩
set_option maxHeartbeats 1000000 in
set_option maxRecDepth 20000 in
theorem cTimesX (O : Nat → Int32) (P : Nat → Nat → Int32) (Y : Nat → Nat → Int64) (g : Nat → zC) {u : Nat} (hu : u ≤ 120) (h1 : O 1 = nI u) (hO : ∀ n, n < u → okp n (P 4 n) ∧ okp n (P 5 n)) (x y : Int32) : zK 3 zX6_times [.ref 0, .int x, .int y] (wX O P Y g) (fun r w' => ∃ (R' : Nat → Int32) (R : Int32), r = some (.int R) ∧ w' = wX O (updA P 13 R') Y g ∧ twR u x y (fun n m => nI (tmC (fun k => P 12 k = P 12 m) P 200 (nI n))) R) := by
  refine zK_of qX6_times (by decide +kernel) rfl ?_
  iterate 3 (refine zv_step (bX6_times 3) rfl rfl trivial ?_)
  refine zv_V1 (bX6_times 3) rfl rfl rfl rfl rfl rfl rfl ⟨rfl, rfl, rfl⟩ ⟨by decide, by decide⟩ ⟨Nat.zero_le _, Nat.zero_le _⟩ (pHas1 O P Y g _) ?_
  rintro _ _ ⟨rfl, ⟨ha, rfl⟩ | ⟨ha, rfl⟩⟩
  · have ha1 : isN u x := by
      have h9 := ha
      rw [h1, nI_toInt (by omega)] at h9
      exact h9
    obtain ⟨n, hn, rfl⟩ := has_j hu h1 ha
    iterate 1 (refine zv_step (bX6_times 3) rfl rfl trivial ?_)
    refine zv_iff (by decide) ?_
    iterate 3 (refine zv_step (bX6_times 3) rfl rfl trivial ?_)
    refine zv_V1 (bX6_times 3) rfl rfl rfl rfl rfl rfl rfl ⟨rfl, rfl, rfl⟩ ⟨by decide, by decide⟩ ⟨Nat.zero_le _, Nat.zero_le _⟩ (pHas1 O P Y g _) ?_
    rintro _ _ ⟨rfl, ⟨hb, rfl⟩ | ⟨hb, rfl⟩⟩
    · have hb1 : isN u y := by
        have h9 := hb
        rw [h1, nI_toInt (by omega)] at h9
        exact h9
      obtain ⟨m, hm, rfl⟩ := has_j hu h1 hb
      iterate 1 (refine zv_step (bX6_times 3) rfl rfl trivial ?_)
      refine zv_ift (by decide) ?_
      iterate 4 (refine zv_step (bX6_times 3) rfl rfl trivial ?_)
      refine zv_V2 (bX6_times 3) rfl rfl rfl rfl rfl rfl rfl ⟨rfl, rfl, rfl⟩ ⟨by decide, by decide⟩ ⟨Nat.zero_le _, Nat.zero_le _⟩ (pTimesX O P Y g hu h1 hO hm hn) ?_
      rintro _ _ ⟨R', rfl, rfl⟩
      exact zv_iret (bX6_times 3) rfl (Or.inl rfl) (Nat.zero_le _) (Nat.zero_le _) ⟨R', _, rfl, rfl, Or.inr ⟨n, m, hn, hm, rfl, rfl, rfl⟩⟩
    · have hb1 : ¬ isN u y := fun q => hb (by rw [h1, nI_toInt (by omega)]; exact q)
      iterate 1 (refine zv_step (bX6_times 3) rfl rfl trivial ?_)
      refine zv_iff (by decide) ?_
      iterate 1 (refine zv_step (bX6_times 3) rfl rfl trivial ?_)
      exact zv_iret (bX6_times 3) rfl (Or.inl rfl) (Nat.zero_le _) (Nat.zero_le _) ⟨P 13, _, rfl, rfl, Or.inl ⟨rfl, fun q => hb1 q.2⟩⟩
  · have ha1 : ¬ isN u x := fun q => ha (by rw [h1, nI_toInt (by omega)]; exact q)
    iterate 1 (refine zv_step (bX6_times 3) rfl rfl trivial ?_)
    refine zv_ift (by decide) ?_
    iterate 1 (refine zv_step (bX6_times 3) rfl rfl trivial ?_)
    exact zv_iret (bX6_times 3) rfl (Or.inl rfl) (Nat.zero_le _) (Nat.zero_le _) ⟨P 13, _, rfl, rfl, Or.inl ⟨rfl, fun q => ha1 q.1⟩⟩
set_option maxHeartbeats 1000000 in
set_option maxRecDepth 20000 in
theorem mAlikePX (f : Nat → zC) (o : Nat → Int32) (A : Nat → Nat → Int32) (J : Nat → Nat → Int64) {u : Nat} (hu : u ≤ 120) (ho : o 0 = nI u) (hT : tbI 0 u A) (x y : Int32) : zK 42 zX7_alike [.ref 76, .int x, .int y] (wR f o A J) (fun r w' => w' = (wR f o A J) ∧ ∃ R : Int32, r = some (.int R) ∧ twR u x y (fun n m => nI (oneW (alk A 40 (nI n) (nI m)))) R) := by
  refine zK_of qX7_alike (by decide +kernel) rfl ?_
  iterate 2 (refine zv_step (bX7_alike 42) rfl rfl trivial ?_)
  refine zv_V1 (bX7_alike 42) rfl rfl rfl rfl rfl rfl rfl ⟨rfl, rfl, rfl⟩ ⟨by decide, by decide⟩ ⟨Nat.zero_le _, Nat.zero_le _⟩ (mIsNode f o A J hu ho _) ?_
  rintro _ _ ⟨rfl, ⟨g1, rfl⟩ | ⟨g1, rfl⟩⟩
  · obtain ⟨n, hn, rfl⟩ := nd_of (by omega) g1
    iterate 1 (refine zv_step (bX7_alike 42) rfl rfl trivial ?_)
    refine zv_iff (by decide) ?_
    iterate 2 (refine zv_step (bX7_alike 42) rfl rfl trivial ?_)
    refine zv_V1 (bX7_alike 42) rfl rfl rfl rfl rfl rfl rfl ⟨rfl, rfl, rfl⟩ ⟨by decide, by decide⟩ ⟨Nat.zero_le _, Nat.zero_le _⟩ (mIsNode f o A J hu ho _) ?_
    rintro _ _ ⟨rfl, ⟨g2, rfl⟩ | ⟨g2, rfl⟩⟩
    · obtain ⟨m, hm, rfl⟩ := nd_of (by omega) g2
      iterate 1 (refine zv_step (bX7_alike 42) rfl rfl trivial ?_)
      refine zv_ift (by decide) ?_
      iterate 3 (refine zv_step (bX7_alike 42) rfl rfl trivial ?_)
      refine zv_V2 (bX7_alike 42) rfl rfl rfl rfl rfl rfl rfl ⟨rfl, rfl, rfl⟩ ⟨by decide, by decide⟩ ⟨Nat.zero_le _, Nat.zero_le _⟩ (mAlike f o A J (by omega) hT 40 _ _ (pt_of hT (Nat.zero_le _) hn) (pt_of hT (Nat.zero_le _) hm)) ?_
      rintro _ _ ⟨rfl, ⟨g3, rfl⟩ | ⟨g3, rfl⟩⟩
      · skip
        iterate 1 (refine zv_step (bX7_alike 42) rfl rfl trivial ?_)
        refine zv_iff (by decide) ?_
        iterate 2 (refine zv_step (bX7_alike 42) rfl rfl trivial ?_)
        exact zv_iret (bX7_alike 42) rfl (Or.inl rfl) (Nat.zero_le _) (Nat.zero_le _) ⟨rfl, _, rfl, Or.inr ⟨n, m, hn, hm, rfl, rfl, congrArg nI (oneW_y g3).symm⟩⟩
      · skip
        iterate 1 (refine zv_step (bX7_alike 42) rfl rfl trivial ?_)
        refine zv_ift (by decide) ?_
        iterate 1 (refine zv_step (bX7_alike 42) rfl rfl trivial ?_)
        exact zv_iret (bX7_alike 42) rfl (Or.inl rfl) (Nat.zero_le _) (Nat.zero_le _) ⟨rfl, _, rfl, Or.inr ⟨n, m, hn, hm, rfl, rfl, congrArg nI (oneW_n g3).symm⟩⟩
    · skip
      iterate 1 (refine zv_step (bX7_alike 42) rfl rfl trivial ?_)
      refine zv_iff (by decide) ?_
      iterate 2 (refine zv_step (bX7_alike 42) rfl rfl trivial ?_)
      exact zv_iret (bX7_alike 42) rfl (Or.inl rfl) (Nat.zero_le _) (Nat.zero_le _) ⟨rfl, _, rfl, Or.inl ⟨rfl, fun q => g2 (by have := q.2.1; have := q.2.2; omega)⟩⟩
  · skip
    iterate 1 (refine zv_step (bX7_alike 42) rfl rfl trivial ?_)
    refine zv_ift (by decide) ?_
    iterate 2 (refine zv_step (bX7_alike 42) rfl rfl trivial ?_)
    exact zv_iret (bX7_alike 42) rfl (Or.inl rfl) (Nat.zero_le _) (Nat.zero_le _) ⟨rfl, _, rfl, Or.inl ⟨rfl, fun q => g1 (by have := q.1.1; have := q.1.2; omega)⟩⟩
set_option maxHeartbeats 1000000 in
set_option maxRecDepth 20000 in
theorem mHasX (f : Nat → zC) (o : Nat → Int32) (A : Nat → Nat → Int32) (J : Nat → Nat → Int64) {lo hi : Nat} (hh : hi ≤ 450) (hT : tbI lo hi A) {b : Int32} (hb : pt lo hi A 40 b) : ∀ (z : Nat) (x : Int32), pt lo hi A z x → zK (z + 42) zX7_has [.ref 76, .int x, .int b] (wR f o A J) (fun r w' => w' = (wR f o A J) ∧ r = some (.int (nI (tmM (fun k => alk A 40 (nI k) b) A z x)))) := by
  intro z
  induction z with
  | zero =>
    intro x hx
    obtain rfl := pt_zero hT hx
    refine zK_of qX7_has (by decide +kernel) rfl ?_
    iterate 2 (refine zv_step (bX7_has (0 + 42)) rfl rfl trivial ?_)
    refine zv_iff (by decide) ?_
    iterate 1 (refine zv_step (bX7_has (0 + 42)) rfl rfl trivial ?_)
    exact zv_iret (bX7_has (0 + 42)) rfl (Or.inl rfl) (Nat.zero_le _) (Nat.zero_le _) ⟨rfl, congrArg (fun v => some (Value.int v)) (show nI 0 = nI _ by rw [tmM_m2])⟩
  | succ z ih =>
    intro x hx
    rcases hx with rfl | ⟨n, rfl, hlo, hn, hz⟩
    · refine zK_of qX7_has (by decide +kernel) rfl ?_
      iterate 2 (refine zv_step (bX7_has ((z + 1) + 42)) rfl rfl trivial ?_)
      refine zv_iff (by decide) ?_
      iterate 1 (refine zv_step (bX7_has ((z + 1) + 42)) rfl rfl trivial ?_)
      exact zv_iret (bX7_has ((z + 1) + 42)) rfl (Or.inl rfl) (Nat.zero_le _) (Nat.zero_le _) ⟨rfl, congrArg (fun v => some (Value.int v)) (show nI 0 = nI _ by rw [tmM_m2])⟩
    · have hN := hT n hlo hn
      have e1 : (nI n).toNatClampNeg = n := nI_clamp (by omega)
      have hv : vp_in (nI n) 450 := vp_in_nI (by omega) (by decide)
      obtain ⟨hp2, hp3⟩ := rN_parts hT hlo hn hz
      refine zK_of qX7_has (by decide +kernel) rfl ?_
      iterate 2 (refine zv_step (bX7_has ((z + 1) + 42)) rfl rfl trivial ?_)
      refine zv_ift (nI_pos' (by omega)) ?_
      iterate 3 (refine zv_step (bX7_has ((z + 1) + 42)) rfl rfl trivial ?_)
      refine zv_V2 (bX7_has ((z + 1) + 42)) rfl rfl rfl rfl rfl rfl rfl ⟨rfl, rfl, rfl⟩ ⟨by show 40 + 1 + 1 ≤ z + 1 + 42; omega, by show 8 + (3 + 11) + 64 * (40 + 1) ≤ 64 * (z + 1 + 42); omega⟩ ⟨Nat.zero_le _, Nat.zero_le _⟩ (mAlike f o A J hh hT 40 _ _ (pt_of hT hlo hn) hb) ?_
      rintro _ _ ⟨rfl, ⟨g1, rfl⟩ | ⟨g1, rfl⟩⟩
      · skip
        iterate 1 (refine zv_step (bX7_has ((z + 1) + 42)) rfl rfl trivial ?_)
        refine zv_iff (by decide) ?_
        iterate 6 (refine zv_step (bX7_has ((z + 1) + 42)) rfl rfl trivial ?_)
        refine zv_iale (bX7_has ((z + 1) + 42)) rfl rfl hv (show A 2 (nI n).toNatClampNeg = A 2 n by rw [e1]) ?_
        iterate 1 (refine zv_step (bX7_has ((z + 1) + 42)) rfl rfl trivial ?_)
        refine zv_V2 (bX7_has ((z + 1) + 42)) rfl rfl rfl rfl rfl rfl rfl ⟨rfl, rfl, rfl⟩ ⟨by show z + 42 + 1 ≤ z + 1 + 42; omega, by show 8 + (3 + 11) + 64 * (z + 42) ≤ 64 * (z + 1 + 42); omega⟩ ⟨Nat.zero_le _, Nat.zero_le _⟩ (ih _ hp2) ?_
        rintro _ _ ⟨rfl, rfl⟩
        iterate 5 (refine zv_step (bX7_has ((z + 1) + 42)) rfl rfl trivial ?_)
        refine zv_iale (bX7_has ((z + 1) + 42)) rfl rfl hv (show A 3 (nI n).toNatClampNeg = A 3 n by rw [e1]) ?_
        iterate 1 (refine zv_step (bX7_has ((z + 1) + 42)) rfl rfl trivial ?_)
        refine zv_V2 (bX7_has ((z + 1) + 42)) rfl rfl rfl rfl rfl rfl rfl ⟨rfl, rfl, rfl⟩ ⟨by show z + 42 + 1 ≤ z + 1 + 42; omega, by show 8 + (3 + 11) + 64 * (z + 42) ≤ 64 * (z + 1 + 42); omega⟩ ⟨Nat.zero_le _, Nat.zero_le _⟩ (ih _ hp3) ?_
        rintro _ _ ⟨rfl, rfl⟩
        iterate 1 (refine zv_step (bX7_has ((z + 1) + 42)) rfl rfl trivial ?_)
        exact zv_iret (bX7_has ((z + 1) + 42)) rfl (Or.inl rfl) (Nat.zero_le _) (Nat.zero_le _) ⟨rfl, congrArg (fun v => some (Value.int v)) (show nI 1 + nI _ + nI _ = _ by rw [nI_add, nI_add, tmM_nI _ A z (by omega), oneW_y (p := alk A 40 (nI n) b) g1])⟩
      · skip
        iterate 1 (refine zv_step (bX7_has ((z + 1) + 42)) rfl rfl trivial ?_)
        refine zv_ift (by decide) ?_
        iterate 5 (refine zv_step (bX7_has ((z + 1) + 42)) rfl rfl trivial ?_)
        refine zv_iale (bX7_has ((z + 1) + 42)) rfl rfl hv (show A 2 (nI n).toNatClampNeg = A 2 n by rw [e1]) ?_
        iterate 1 (refine zv_step (bX7_has ((z + 1) + 42)) rfl rfl trivial ?_)
        refine zv_V2 (bX7_has ((z + 1) + 42)) rfl rfl rfl rfl rfl rfl rfl ⟨rfl, rfl, rfl⟩ ⟨by show z + 42 + 1 ≤ z + 1 + 42; omega, by show 8 + (3 + 11) + 64 * (z + 42) ≤ 64 * (z + 1 + 42); omega⟩ ⟨Nat.zero_le _, Nat.zero_le _⟩ (ih _ hp2) ?_
        rintro _ _ ⟨rfl, rfl⟩
        iterate 5 (refine zv_step (bX7_has ((z + 1) + 42)) rfl rfl trivial ?_)
        refine zv_iale (bX7_has ((z + 1) + 42)) rfl rfl hv (show A 3 (nI n).toNatClampNeg = A 3 n by rw [e1]) ?_
        iterate 1 (refine zv_step (bX7_has ((z + 1) + 42)) rfl rfl trivial ?_)
        refine zv_V2 (bX7_has ((z + 1) + 42)) rfl rfl rfl rfl rfl rfl rfl ⟨rfl, rfl, rfl⟩ ⟨by show z + 42 + 1 ≤ z + 1 + 42; omega, by show 8 + (3 + 11) + 64 * (z + 42) ≤ 64 * (z + 1 + 42); omega⟩ ⟨Nat.zero_le _, Nat.zero_le _⟩ (ih _ hp3) ?_
        rintro _ _ ⟨rfl, rfl⟩
        iterate 1 (refine zv_step (bX7_has ((z + 1) + 42)) rfl rfl trivial ?_)
        exact zv_iret (bX7_has ((z + 1) + 42)) rfl (Or.inl rfl) (Nat.zero_le _) (Nat.zero_le _) ⟨rfl, congrArg (fun v => some (Value.int v)) (show nI 0 + nI _ + nI _ = _ by rw [nI_add, nI_add, tmM_nI _ A z (by omega), oneW_n (p := alk A 40 (nI n) b) g1])⟩
set_option maxHeartbeats 1000000 in
set_option maxRecDepth 20000 in
theorem mTimesX (f : Nat → zC) (o : Nat → Int32) (A : Nat → Nat → Int32) (J : Nat → Nat → Int64) {u : Nat} (hu : u ≤ 120) (ho : o 0 = nI u) (hT : tbI 0 u A) (x y : Int32) : zK 83 zX7_times [.ref 76, .int x, .int y] (wR f o A J) (fun r w' => w' = (wR f o A J) ∧ ∃ R : Int32, r = some (.int R) ∧ twR u x y (fun n m => nI (tmM (fun k => alk A 40 (nI k) (nI m)) A 40 (nI n))) R) := by
  refine zK_of qX7_times (by decide +kernel) rfl ?_
  iterate 2 (refine zv_step (bX7_times 83) rfl rfl trivial ?_)
  refine zv_V1 (bX7_times 83) rfl rfl rfl rfl rfl rfl rfl ⟨rfl, rfl, rfl⟩ ⟨by decide, by decide⟩ ⟨Nat.zero_le _, Nat.zero_le _⟩ (mIsNode f o A J hu ho _) ?_
  rintro _ _ ⟨rfl, ⟨g1, rfl⟩ | ⟨g1, rfl⟩⟩
  · obtain ⟨n, hn, rfl⟩ := nd_of (by omega) g1
    iterate 1 (refine zv_step (bX7_times 83) rfl rfl trivial ?_)
    refine zv_iff (by decide) ?_
    iterate 2 (refine zv_step (bX7_times 83) rfl rfl trivial ?_)
    refine zv_V1 (bX7_times 83) rfl rfl rfl rfl rfl rfl rfl ⟨rfl, rfl, rfl⟩ ⟨by decide, by decide⟩ ⟨Nat.zero_le _, Nat.zero_le _⟩ (mIsNode f o A J hu ho _) ?_
    rintro _ _ ⟨rfl, ⟨g2, rfl⟩ | ⟨g2, rfl⟩⟩
    · obtain ⟨m, hm, rfl⟩ := nd_of (by omega) g2
      iterate 1 (refine zv_step (bX7_times 83) rfl rfl trivial ?_)
      refine zv_iff (by decide) ?_
      iterate 3 (refine zv_step (bX7_times 83) rfl rfl trivial ?_)
      refine zv_V2 (bX7_times 83) rfl rfl rfl rfl rfl rfl rfl ⟨rfl, rfl, rfl⟩ ⟨by decide, by decide⟩ ⟨Nat.zero_le _, Nat.zero_le _⟩ (mHasX f o A J (by omega) hT (pt_of hT (Nat.zero_le _) hm) 40 _ (pt_of hT (Nat.zero_le _) hn)) ?_
      rintro _ _ ⟨rfl, rfl⟩
      iterate 1 (refine zv_step (bX7_times 83) rfl rfl trivial ?_)
      exact zv_iret (bX7_times 83) rfl (Or.inl rfl) (Nat.zero_le _) (Nat.zero_le _) ⟨rfl, _, rfl, Or.inr ⟨n, m, hn, hm, rfl, rfl, rfl⟩⟩
    · skip
      iterate 1 (refine zv_step (bX7_times 83) rfl rfl trivial ?_)
      refine zv_ift (by decide) ?_
      iterate 1 (refine zv_step (bX7_times 83) rfl rfl trivial ?_)
      exact zv_iret (bX7_times 83) rfl (Or.inl rfl) (Nat.zero_le _) (Nat.zero_le _) ⟨rfl, _, rfl, Or.inl ⟨rfl, fun q => g2 (by have := q.2.1; have := q.2.2; omega)⟩⟩
  · skip
    iterate 1 (refine zv_step (bX7_times 83) rfl rfl trivial ?_)
    refine zv_ift (by decide) ?_
    iterate 1 (refine zv_step (bX7_times 83) rfl rfl trivial ?_)
    exact zv_iret (bX7_times 83) rfl (Or.inl rfl) (Nat.zero_le _) (Nat.zero_le _) ⟨rfl, _, rfl, Or.inl ⟨rfl, fun q => g1 (by have := q.1.1; have := q.1.2; omega)⟩⟩
