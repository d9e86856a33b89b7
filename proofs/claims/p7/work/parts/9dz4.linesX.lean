/-- DIFFERENCE over the reference's table, and how many are exchanged whole -/
noncomputable def dN (A : Nat → Nat → Int32) : Nat → Int32 → Int32 → Nat
  | 0, _, _ => 0
  | z + 1, x, y => if x < 0 then 0 else (if A 0 (nC x) = A 0 (nC y) then (if A 1 (nC x) = A 1 (nC y) then 0 else 1) + dN A z (A 2 (nC x)) (A 2 (nC y)) + dN A z (A 3 (nC x)) (A 3 (nC y)) else szN A (nC x) + szN A (nC y))
noncomputable def eN (A : Nat → Nat → Int32) : Nat → Int32 → Int32 → Nat
  | 0, _, _ => 0
  | z + 1, x, y => if x < 0 then 0 else (if A 0 (nC x) = A 0 (nC y) then eN A z (A 2 (nC x)) (A 2 (nC y)) + eN A z (A 3 (nC x)) (A 3 (nC y)) else 1)
noncomputable def inN (A : Nat → Nat → Int32) (z n m : Nat) : Nat := (if A 1 n = A 1 m then 0 else 1) + dN A z (A 2 n) (A 2 m) + dN A z (A 3 n) (A 3 m)
theorem dN_m2 (A : Nat → Nat → Int32) (z : Nat) (y : Int32) : dN A z m2 y = 0 := by
  cases z with
  | zero => rfl
  | succ z => exact if_pos (by decide)
theorem eN_m2 (A : Nat → Nat → Int32) (z : Nat) (y : Int32) : eN A z m2 y = 0 := by
  cases z with
  | zero => rfl
  | succ z => exact if_pos (by decide)
theorem dN_nI {A : Nat → Nat → Int32} {n m : Nat} (hn : n < 450) (hm : m < 450) (z : Nat) : dN A (z + 1) (nI n) (nI m) = if A 0 n = A 0 m then inN A z n m else szN A n + szN A m := by
  show (if nI n < 0 then 0 else (if A 0 (nI n).toNatClampNeg = A 0 (nI m).toNatClampNeg then (if A 1 (nI n).toNatClampNeg = A 1 (nI m).toNatClampNeg then 0 else 1) + dN A z (A 2 (nI n).toNatClampNeg) (A 2 (nI m).toNatClampNeg) + dN A z (A 3 (nI n).toNatClampNeg) (A 3 (nI m).toNatClampNeg) else szN A (nI n).toNatClampNeg + szN A (nI m).toNatClampNeg)) = _
  rw [if_neg (nI_pos (by omega)), nI_clamp (by omega), nI_clamp (by omega)]
  rfl
theorem eN_nI {A : Nat → Nat → Int32} {n m : Nat} (hn : n < 450) (hm : m < 450) (z : Nat) : eN A (z + 1) (nI n) (nI m) = if A 0 n = A 0 m then eN A z (A 2 n) (A 2 m) + eN A z (A 3 n) (A 3 m) else 1 := by
  show (if nI n < 0 then 0 else (if A 0 (nI n).toNatClampNeg = A 0 (nI m).toNatClampNeg then eN A z (A 2 (nI n).toNatClampNeg) (A 2 (nI m).toNatClampNeg) + eN A z (A 3 (nI n).toNatClampNeg) (A 3 (nI m).toNatClampNeg) else 1)) = _
  rw [if_neg (nI_pos (by omega)), nI_clamp (by omega), nI_clamp (by omega)]
/-- what two NODES of one KIND have below them -/
theorem rN_two {lo hi n m : Nat} {A : Nat → Nat → Int32} (hT : tbI lo hi A) (hlo : lo ≤ n) (hn : n < hi) (hlo2 : lo ≤ m) (hm : m < hi) (e : A 0 n = A 0 m) : (A 2 n = m2 ∧ A 2 m = m2 ∧ A 3 n = m2 ∧ A 3 m = m2 ∧ szN A n = 1 ∧ szN A m = 1) ∨ (∃ a a' b b', A 2 n = nI a ∧ A 2 m = nI a' ∧ A 3 n = nI b ∧ A 3 m = nI b' ∧ (lo ≤ a ∧ a < n ∧ lo ≤ a' ∧ a' < m ∧ lo ≤ b ∧ b < n ∧ lo ≤ b' ∧ b' < m) ∧ szN A n = 1 + szN A a + szN A b ∧ szN A m = 1 + szN A a' + szN A b') ∨ (∃ a a', A 2 n = nI a ∧ A 2 m = nI a' ∧ A 3 n = m2 ∧ A 3 m = m2 ∧ (lo ≤ a ∧ a < n ∧ lo ≤ a' ∧ a' < m) ∧ szN A n = 1 + szN A a ∧ szN A m = 1 + szN A a') := by
  obtain ⟨k, h0, hk, hs, _, _⟩ := rN_val (hT n hlo hn)
  obtain ⟨k', g0, gk, gs, _, _⟩ := rN_val (hT m hlo2 hm)
  rw [h0, g0, nI_eq (by omega) (by omega)] at e
  subst e
  rcases hs with ⟨c1, h2, h3, e1⟩ | ⟨c1, c2, a, b, h2, la, ha, h3, lb, hb, e1⟩ | ⟨c1, a, h2, la, ha, h3, e1⟩ <;> rcases gs with ⟨d1, i2, i3, e2⟩ | ⟨d1, d2, a', b', i2, la', ha', i3, lb', hb', e2⟩ | ⟨d1, a', i2, la', ha', i3, e2⟩
  · exact Or.inl ⟨h2, i2, h3, i3, e1, e2⟩
  · omega
  · omega
  · omega
  · exact Or.inr (Or.inl ⟨a, a', b, b', h2, i2, h3, i3, ⟨la, ha, la', ha', lb, hb, lb', hb'⟩, e1, e2⟩)
  · omega
  · omega
  · omega
  · exact Or.inr (Or.inr ⟨a, a', h2, i2, h3, i3, ⟨la, ha, la', ha'⟩, e1, e2⟩)
theorem dN_le {lo hi : Nat} {A : Nat → Nat → Int32} (hh : hi ≤ 450) (hT : tbI lo hi A) : ∀ (z n m : Nat), lo ≤ n → n < hi → lo ≤ m → m < hi → szN A n ≤ z → dN A z (nI n) (nI m) ≤ szN A n + szN A m ∧ eN A z (nI n) (nI m) ≤ szN A n ∧ (A 0 n = A 0 m → ∀ z1, z = z1 + 1 → inN A z1 n m ≤ szN A n + szN A m)
  | 0, n, m, hlo, hn, _, _, hz => by
    have := (rN_sz (hT n hlo hn)).1
    omega
  | z + 1, n, m, hlo, hn, hlo2, hm, hz => by
    have s1 := (rN_sz (hT n hlo hn)).1
    have hi : A 0 n = A 0 m → inN A z n m ≤ szN A n + szN A m ∧ eN A z (A 2 n) (A 2 m) + eN A z (A 3 n) (A 3 m) ≤ szN A n := fun e => by
      have h1 : (if A 1 n = A 1 m then 0 else 1) ≤ 1 := by split <;> omega
      unfold inN
      rcases rN_two hT hlo hn hlo2 hm e with ⟨e2, f2, e3, f3, z1, z2⟩ | ⟨a, a', b, b', e2, f2, e3, f3, hr, z1, z2⟩ | ⟨a, a', e2, f2, e3, f3, hr, z1, z2⟩
      · rw [e2, e3, dN_m2, dN_m2, eN_m2, eN_m2]
        omega
      · rw [e2, f2, e3, f3]
        have q1 := dN_le hh hT z a a' (by omega) (by omega) (by omega) (by omega) (by omega)
        have q2 := dN_le hh hT z b b' (by omega) (by omega) (by omega) (by omega) (by omega)
        omega
      · rw [e2, f2, e3, dN_m2, eN_m2]
        have q1 := dN_le hh hT z a a' (by omega) (by omega) (by omega) (by omega) (by omega)
        omega
    refine ⟨?_, ?_, fun e z1 ez => ?_⟩
    · rw [dN_nI (by omega) (by omega)]
      by_cases e : A 0 n = A 0 m
      · rw [if_pos e]
        exact (hi e).1
      · rw [if_neg e]
        exact Nat.le_refl _
    · rw [eN_nI (by omega) (by omega)]
      by_cases e : A 0 n = A 0 m
      · rw [if_pos e]
        exact (hi e).2
      · rw [if_neg e]
        exact s1
    · have : z1 = z := by omega
      subst this
      exact (hi e).1
theorem cvI_eq {lo hi n m : Nat} {A : Nat → Nat → Int32} (hT : tbI lo hi A) (hlo : lo ≤ n) (hn : n < hi) (hlo2 : lo ≤ m) (hm : m < hi) (e : A 0 n = A 0 m) : cvI (A 1 n) = cvI (A 1 m) ↔ A 1 n = A 1 m := by
  obtain ⟨k, h0, hk, _, _, hv⟩ := rN_val (hT n hlo hn)
  obtain ⟨k', g0, gk, _, _, gv⟩ := rN_val (hT m hlo2 hm)
  rw [h0, g0, nI_eq (by omega) (by omega)] at e
  subst e
  by_cases q : 2 ≤ k ∧ k ≤ 8
  · rw [hv.2.2 q.1 q.2, gv.2.2 q.1 q.2]
    exact ⟨fun _ => rfl, fun _ => rfl⟩
  · have hx : ∃ v : Nat, v ≤ 9999 ∧ A 1 n = nI v := by
      rcases (show k = 1 ∨ (k = 0 ∨ k = 9) by omega) with q1 | q1
      · exact hv.2.1 q1
      · obtain ⟨v, a, b⟩ := hv.1 q1
        exact ⟨v, by omega, b⟩
    have gx : ∃ v : Nat, v ≤ 9999 ∧ A 1 m = nI v := by
      rcases (show k = 1 ∨ (k = 0 ∨ k = 9) by omega) with q1 | q1
      · exact gv.2.1 q1
      · obtain ⟨v, a, b⟩ := gv.1 q1
        exact ⟨v, by omega, b⟩
    obtain ⟨v, a, b⟩ := hx
    obtain ⟨v', a', b'⟩ := gx
    rw [b, b', cvI_nI (by omega), cvI_nI (by omega)]
theorem dfP_m1 (P : Nat → Nat → Int32) (u : Int32) (z : Nat) (y : Int32) : dfP 1 P u z m1 y = Int32.ofInt 0 ∧ exP 1 P u z m1 y = Int32.ofInt 0 := by
  cases z with
  | zero => exact ⟨rfl, rfl⟩
  | succ z => exact ⟨if_neg (fun q => absurd q.1 (by decide)), if_neg (fun q => absurd q.1 (by decide))⟩
theorem df_same {u : Nat} (hu : u ≤ 120) {P A : Nat → Nat → Int32} (hT : tbI 0 u A) (hN : NR u P A) : ∀ (z n m : Nat), n < u → m < u → szN A n ≤ z → dfP 1 P (nI u) z (nI n) (nI m) = nI (dN A z (nI n) (nI m)) ∧ exP 1 P (nI u) z (nI n) (nI m) = nI (eN A z (nI n) (nI m))
  | 0, n, m, hn, hm, hz => by
    have := (rN_sz (hT n (Nat.zero_le _) hn)).1
    omega
  | z + 1, n, m, hn, hm, hz => by
    obtain ⟨n1, n2, n3, n4, n5, _⟩ := hN n hn
    obtain ⟨k1, k2, k3, k4, k5, _⟩ := hN m hm
    rw [dfP_s, exP_s, if_pos (has_n hn hu), if_pos (has_n hm hu), if_pos (has_n hn hu), if_pos (has_n hm hu), show nC (nI n) = n from nI_clamp (by omega), show nC (nI m) = m from nI_clamp (by omega), dN_nI (by omega) (by omega), eN_nI (by omega) (by omega)]
    show (if P 2 n = P 2 m then (if P 3 n = P 3 m then Int32.ofInt 0 else Int32.ofInt 1) + dfP 1 P (nI u) z (P 4 n) (P 4 m) + dfP 1 P (nI u) z (P 5 n) (P 5 m) else P 6 n + P 6 m) = _ ∧ (if P 2 n = P 2 m then exP 1 P (nI u) z (P 4 n) (P 4 m) + exP 1 P (nI u) z (P 5 n) (P 5 m) else Int32.ofInt 1) = _
    rw [n1, k1]
    by_cases e : A 0 n = A 0 m
    · rw [if_pos e, if_pos e, if_pos e, if_pos e, n2, k2, n3, k3, n4, k4]
      have ev : (if cvI (A 1 n) = cvI (A 1 m) then Int32.ofInt 0 else Int32.ofInt 1) = nI (if A 1 n = A 1 m then 0 else 1) := by
        by_cases w : A 1 n = A 1 m
        · rw [if_pos w, if_pos ((cvI_eq hT (Nat.zero_le _) hn (Nat.zero_le _) hm e).mpr w)]
          rfl
        · rw [if_neg w, if_neg (fun q => w ((cvI_eq hT (Nat.zero_le _) hn (Nat.zero_le _) hm e).mp q))]
          rfl
      rw [ev]
      unfold inN
      rcases rN_two hT (Nat.zero_le _) hn (Nat.zero_le _) hm e with ⟨e2, f2, e3, f3, z1, z2⟩ | ⟨a, a', b, b', e2, f2, e3, f3, hr, z1, z2⟩ | ⟨a, a', e2, f2, e3, f3, hr, z1, z2⟩
      · rw [e2, f2, e3, f3, dN_m2, eN_m2, cvI_m2, (dfP_m1 P _ z _).1, (dfP_m1 P _ z _).2]
        show nI _ + nI 0 + nI 0 = _ ∧ nI 0 + nI 0 = _
        rw [nI_add, nI_add, nI_add]
        exact ⟨rfl, rfl⟩
      · rw [e2, f2, e3, f3, cvI_nI (by omega), cvI_nI (by omega), cvI_nI (by omega), cvI_nI (by omega)]
        have q1 := df_same hu hT hN z a a' (by omega) (by omega) (by omega)
        have q2 := df_same hu hT hN z b b' (by omega) (by omega) (by omega)
        rw [q1.1, q2.1, q1.2, q2.2, nI_add, nI_add, nI_add]
        exact ⟨rfl, rfl⟩
      · rw [e2, f2, e3, f3, dN_m2, eN_m2, cvI_m2, cvI_nI (by omega), cvI_nI (by omega), (dfP_m1 P _ z _).1, (dfP_m1 P _ z _).2]
        have q1 := df_same hu hT hN z a a' (by omega) (by omega) (by omega)
        rw [q1.1, q1.2]
        show nI _ + nI _ + nI 0 = _ ∧ nI _ + nI 0 = _
        rw [nI_add, nI_add, nI_add]
        exact ⟨rfl, rfl⟩
    · rw [if_neg e, if_neg e, if_neg e, if_neg e, n5, k5, (rN_sz (hT n (Nat.zero_le _) hn)).2.2, (rN_sz (hT m (Nat.zero_le _) hm)).2.2, nI_add]
      exact ⟨rfl, rfl⟩
/-- the answer over two NODES -/
def twR (u : Nat) (x y : Int32) (F : Nat → Nat → Int32) (R : Int32) : Prop := (R = Int32.ofInt (-1) ∧ ¬ (isN u x ∧ isN u y)) ∨ ∃ n m, n < u ∧ m < u ∧ x = nI n ∧ y = nI m ∧ R = F n m
theorem twR_same {u : Nat} (hu : u ≤ 120) {x y R R' : Int32} {F F' : Nat → Nat → Int32} (g : twR u x y F R) (g' : twR u x y F' R') (e : ∀ n m, n < u → m < u → F n m = F' n m) : R = R' := by
  rcases g with ⟨r1, q1⟩ | ⟨n, m, hn, hm, ex, ey, q1⟩ <;> rcases g' with ⟨r2, q2⟩ | ⟨n', m', hn', hm', ex', ey', q2⟩
  · rw [r1, r2]
  · exact absurd ⟨by rw [ex']; exact isN_nI hu hn', by rw [ey']; exact isN_nI hu hm'⟩ q1
  · exact absurd ⟨by rw [ex]; exact isN_nI hu hn, by rw [ey]; exact isN_nI hu hm⟩ q2
  · have en : n = n' := (nI_eq (by omega) (by omega)).mp (ex.symm.trans ex')
    have em : m = m' := (nI_eq (by omega) (by omega)).mp (ey.symm.trans ey')
    subst en
    subst em
    rw [q1, q2, e n m hn hm]
set_option maxHeartbeats 1000000 in
set_option maxRecDepth 20000 in
theorem pdifferenceOfX (O : Nat → Int32) (P : Nat → Nat → Int32) (Y : Nat → Nat → Int64) (g : Nat → zC) (hv : (O 1).toInt ≤ 120) (x y : Int32) : zK 42 zX2_differenceOf [.ref 1, .int x, .int y] (wX O P Y g) (fun r w' => w' = wX O P Y g ∧ r = some (.int (dfP 1 P (O 1) 40 x y))) := by
  refine zK_of qX2_differenceOf (by decide +kernel) rfl ?_
  iterate 4 (refine zv_step (bX2_differenceOf 42) rfl rfl trivial ?_)
  refine zv_V3 (bX2_differenceOf 42) rfl rfl rfl rfl rfl rfl rfl ⟨rfl, rfl, rfl⟩ ⟨by decide, by decide⟩ ⟨Nat.zero_le _, Nat.zero_le _⟩ (pDiff1 O P Y g hv 40 (by decide) _ _ _ rfl) ?_
  rintro _ _ ⟨rfl, rfl⟩
  exact zv_iret (bX2_differenceOf 42) rfl (Or.inl rfl) (Nat.zero_le _) (Nat.zero_le _) ⟨rfl, rfl⟩
set_option maxHeartbeats 1000000 in
set_option maxRecDepth 20000 in
theorem cChangedX (O : Nat → Int32) (P : Nat → Nat → Int32) (Y : Nat → Nat → Int64) (g : Nat → zC) {u : Nat} (hu : u ≤ 120) (h1 : O 1 = nI u) (x y : Int32) : zK 43 zX6_changed [.ref 0, .int x, .int y] (wX O P Y g) (fun r w' => w' = wX O P Y g ∧ ∃ R : Int32, r = some (.int R) ∧ twR u x y (fun n m => dfP 1 P (nI u) 40 (nI n) (nI m)) R) := by
  refine zK_of qX6_changed (by decide +kernel) rfl ?_
  iterate 3 (refine zv_step (bX6_changed 43) rfl rfl trivial ?_)
  refine zv_V1 (bX6_changed 43) rfl rfl rfl rfl rfl rfl rfl ⟨rfl, rfl, rfl⟩ ⟨by decide, by decide⟩ ⟨Nat.zero_le _, Nat.zero_le _⟩ (pHas1 O P Y g _) ?_
  rintro _ _ ⟨rfl, ⟨ha, rfl⟩ | ⟨ha, rfl⟩⟩
  · have ha1 : isN u x := by
      have h9 := ha
      rw [h1, nI_toInt (by omega)] at h9
      exact h9
    obtain ⟨n, hn, rfl⟩ := has_j hu h1 ha
    iterate 1 (refine zv_step (bX6_changed 43) rfl rfl trivial ?_)
    refine zv_iff (by decide) ?_
    iterate 3 (refine zv_step (bX6_changed 43) rfl rfl trivial ?_)
    refine zv_V1 (bX6_changed 43) rfl rfl rfl rfl rfl rfl rfl ⟨rfl, rfl, rfl⟩ ⟨by decide, by decide⟩ ⟨Nat.zero_le _, Nat.zero_le _⟩ (pHas1 O P Y g _) ?_
    rintro _ _ ⟨rfl, ⟨hb, rfl⟩ | ⟨hb, rfl⟩⟩
    · have hb1 : isN u y := by
        have h9 := hb
        rw [h1, nI_toInt (by omega)] at h9
        exact h9
      obtain ⟨m, hm, rfl⟩ := has_j hu h1 hb
      iterate 1 (refine zv_step (bX6_changed 43) rfl rfl trivial ?_)
      refine zv_ift (by decide) ?_
      iterate 4 (refine zv_step (bX6_changed 43) rfl rfl trivial ?_)
      refine zv_V2 (bX6_changed 43) rfl rfl rfl rfl rfl rfl rfl ⟨rfl, rfl, rfl⟩ ⟨by decide, by decide⟩ ⟨Nat.zero_le _, Nat.zero_le _⟩ (pdifferenceOfX O P Y g (by rw [h1, nI_toInt (by omega)]; omega) _ _) ?_
      rintro _ _ ⟨rfl, rfl⟩
      exact zv_iret (bX6_changed 43) rfl (Or.inl rfl) (Nat.zero_le _) (Nat.zero_le _) ⟨rfl, _, rfl, Or.inr ⟨n, m, hn, hm, rfl, rfl, by rw [h1]⟩⟩
    · have hb1 : ¬ isN u y := fun q => hb (by rw [h1, nI_toInt (by omega)]; exact q)
      iterate 1 (refine zv_step (bX6_changed 43) rfl rfl trivial ?_)
      refine zv_iff (by decide) ?_
      iterate 1 (refine zv_step (bX6_changed 43) rfl rfl trivial ?_)
      exact zv_iret (bX6_changed 43) rfl (Or.inl rfl) (Nat.zero_le _) (Nat.zero_le _) ⟨rfl, _, rfl, Or.inl ⟨rfl, fun q => hb1 q.2⟩⟩
  · have ha1 : ¬ isN u x := fun q => ha (by rw [h1, nI_toInt (by omega)]; exact q)
    iterate 1 (refine zv_step (bX6_changed 43) rfl rfl trivial ?_)
    refine zv_ift (by decide) ?_
    iterate 1 (refine zv_step (bX6_changed 43) rfl rfl trivial ?_)
    exact zv_iret (bX6_changed 43) rfl (Or.inl rfl) (Nat.zero_le _) (Nat.zero_le _) ⟨rfl, _, rfl, Or.inl ⟨rfl, fun q => ha1 q.1⟩⟩
set_option maxHeartbeats 1000000 in
set_option maxRecDepth 20000 in
theorem pexchangesOfX (O : Nat → Int32) (P : Nat → Nat → Int32) (Y : Nat → Nat → Int64) (g : Nat → zC) (hv : (O 1).toInt ≤ 120) (x y : Int32) : zK 42 zX2_exchangesOf [.ref 1, .int x, .int y] (wX O P Y g) (fun r w' => w' = wX O P Y g ∧ r = some (.int (exP 1 P (O 1) 40 x y))) := by
  refine zK_of qX2_exchangesOf (by decide +kernel) rfl ?_
  iterate 4 (refine zv_step (bX2_exchangesOf 42) rfl rfl trivial ?_)
  refine zv_V3 (bX2_exchangesOf 42) rfl rfl rfl rfl rfl rfl rfl ⟨rfl, rfl, rfl⟩ ⟨by decide, by decide⟩ ⟨Nat.zero_le _, Nat.zero_le _⟩ (pExch1 O P Y g hv 40 (by decide) _ _ _ rfl) ?_
  rintro _ _ ⟨rfl, rfl⟩
  exact zv_iret (bX2_exchangesOf 42) rfl (Or.inl rfl) (Nat.zero_le _) (Nat.zero_le _) ⟨rfl, rfl⟩
set_option maxHeartbeats 1000000 in
set_option maxRecDepth 20000 in
theorem cExchangedX (O : Nat → Int32) (P : Nat → Nat → Int32) (Y : Nat → Nat → Int64) (g : Nat → zC) {u : Nat} (hu : u ≤ 120) (h1 : O 1 = nI u) (x y : Int32) : zK 43 zX6_exchanged [.ref 0, .int x, .int y] (wX O P Y g) (fun r w' => w' = wX O P Y g ∧ ∃ R : Int32, r = some (.int R) ∧ twR u x y (fun n m => exP 1 P (nI u) 40 (nI n) (nI m)) R) := by
  refine zK_of qX6_exchanged (by decide +kernel) rfl ?_
  iterate 3 (refine zv_step (bX6_exchanged 43) rfl rfl trivial ?_)
  refine zv_V1 (bX6_exchanged 43) rfl rfl rfl rfl rfl rfl rfl ⟨rfl, rfl, rfl⟩ ⟨by decide, by decide⟩ ⟨Nat.zero_le _, Nat.zero_le _⟩ (pHas1 O P Y g _) ?_
  rintro _ _ ⟨rfl, ⟨ha, rfl⟩ | ⟨ha, rfl⟩⟩
  · have ha1 : isN u x := by
      have h9 := ha
      rw [h1, nI_toInt (by omega)] at h9
      exact h9
    obtain ⟨n, hn, rfl⟩ := has_j hu h1 ha
    iterate 1 (refine zv_step (bX6_exchanged 43) rfl rfl trivial ?_)
    refine zv_iff (by decide) ?_
    iterate 3 (refine zv_step (bX6_exchanged 43) rfl rfl trivial ?_)
    refine zv_V1 (bX6_exchanged 43) rfl rfl rfl rfl rfl rfl rfl ⟨rfl, rfl, rfl⟩ ⟨by decide, by decide⟩ ⟨Nat.zero_le _, Nat.zero_le _⟩ (pHas1 O P Y g _) ?_
    rintro _ _ ⟨rfl, ⟨hb, rfl⟩ | ⟨hb, rfl⟩⟩
    · have hb1 : isN u y := by
        have h9 := hb
        rw [h1, nI_toInt (by omega)] at h9
        exact h9
      obtain ⟨m, hm, rfl⟩ := has_j hu h1 hb
      iterate 1 (refine zv_step (bX6_exchanged 43) rfl rfl trivial ?_)
      refine zv_ift (by decide) ?_
      iterate 4 (refine zv_step (bX6_exchanged 43) rfl rfl trivial ?_)
      refine zv_V2 (bX6_exchanged 43) rfl rfl rfl rfl rfl rfl rfl ⟨rfl, rfl, rfl⟩ ⟨by decide, by decide⟩ ⟨Nat.zero_le _, Nat.zero_le _⟩ (pexchangesOfX O P Y g (by rw [h1, nI_toInt (by omega)]; omega) _ _) ?_
      rintro _ _ ⟨rfl, rfl⟩
      exact zv_iret (bX6_exchanged 43) rfl (Or.inl rfl) (Nat.zero_le _) (Nat.zero_le _) ⟨rfl, _, rfl, Or.inr ⟨n, m, hn, hm, rfl, rfl, by rw [h1]⟩⟩
    · have hb1 : ¬ isN u y := fun q => hb (by rw [h1, nI_toInt (by omega)]; exact q)
      iterate 1 (refine zv_step (bX6_exchanged 43) rfl rfl trivial ?_)
      refine zv_iff (by decide) ?_
      iterate 1 (refine zv_step (bX6_exchanged 43) rfl rfl trivial ?_)
      exact zv_iret (bX6_exchanged 43) rfl (Or.inl rfl) (Nat.zero_le _) (Nat.zero_le _) ⟨rfl, _, rfl, Or.inl ⟨rfl, fun q => hb1 q.2⟩⟩
  · have ha1 : ¬ isN u x := fun q => ha (by rw [h1, nI_toInt (by omega)]; exact q)
    iterate 1 (refine zv_step (bX6_exchanged 43) rfl rfl trivial ?_)
    refine zv_ift (by decide) ?_
    iterate 1 (refine zv_step (bX6_exchanged 43) rfl rfl trivial ?_)
    exact zv_iret (bX6_exchanged 43) rfl (Or.inl rfl) (Nat.zero_le _) (Nat.zero_le _) ⟨rfl, _, rfl, Or.inl ⟨rfl, fun q => ha1 q.1⟩⟩
set_option maxHeartbeats 1000000 in
set_option maxRecDepth 20000 in
theorem mInsideX (f : Nat → zC) (o : Nat → Int32) (A : Nat → Nat → Int32) (J : Nat → Nat → Int64) {lo hi : Nat} (hh : hi ≤ 450) (hT : tbI lo hi A) {z : Nat} (ih : ∀ (n m : Nat), lo ≤ n → n < hi → lo ≤ m → m < hi → szN A n ≤ z → zK (2 * z + 1) zX7_difference [.ref 76, .int (nI n), .int (nI m)] (wR f o A J) (fun r w' => w' = (wR f o A J) ∧ r = some (.int (nI (dN A z (nI n) (nI m)))))) {n m : Nat} (hlo : lo ≤ n) (hn : n < hi) (hlo2 : lo ≤ m) (hm : m < hi) (hz : szN A n ≤ z + 1) (hk : A 0 n = A 0 m) : zK (2 * z + 2) zX7_inside [.ref 76, .int (nI n), .int (nI m)] (wR f o A J) (fun r w' => w' = (wR f o A J) ∧ r = some (.int (nI (inN A z n m)))) := by
  obtain ⟨s2, s3⟩ := rN_same (hT n hlo hn) (hT m hlo2 hm) hk
  refine zK_of qX7_inside (by decide +kernel) rfl ?_
  iterate 3 (refine zv_step (bX7_inside (2 * z + 2)) rfl rfl trivial ?_)
  refine zv_iale (bX7_inside (2 * z + 2)) rfl rfl (vp_in_nI (by omega) (by decide)) (show A 1 (nI n).toNatClampNeg = A 1 n by rw [nI_clamp (by omega)]) ?_
  iterate 3 (refine zv_step (bX7_inside (2 * z + 2)) rfl rfl trivial ?_)
  refine zv_iale (bX7_inside (2 * z + 2)) rfl rfl (vp_in_nI (by omega) (by decide)) (show A 1 (nI m).toNatClampNeg = A 1 m by rw [nI_clamp (by omega)]) ?_
  iterate 1 (refine zv_step (bX7_inside (2 * z + 2)) rfl rfl trivial ?_)
  refine zv_ifb (fun h12 => ?_) (fun h12 => ?_)
  · iterate 3 (refine zv_step (bX7_inside (2 * z + 2)) rfl rfl trivial ?_)
    rcases s2 with ⟨e2, f2⟩ | ⟨a, b, e2, f2, la, ha, lb, hb, hza⟩
    · skip
      iterate 3 (refine zv_step (bX7_inside (2 * z + 2)) rfl rfl trivial ?_)
      refine zv_iale (bX7_inside (2 * z + 2)) rfl rfl (vp_in_nI (by omega) (by decide)) (show A 2 (nI n).toNatClampNeg = m2 by rw [nI_clamp (by omega)]; exact e2) ?_
      iterate 1 (refine zv_step (bX7_inside (2 * z + 2)) rfl rfl trivial ?_)
      refine zv_iff (by decide) ?_
      iterate 3 (refine zv_step (bX7_inside (2 * z + 2)) rfl rfl trivial ?_)
      rcases s3 with ⟨e3, f3⟩ | ⟨c, d, e3, f3, lc, hc, ld, hd, hzc⟩
      · skip
        iterate 3 (refine zv_step (bX7_inside (2 * z + 2)) rfl rfl trivial ?_)
        refine zv_iale (bX7_inside (2 * z + 2)) rfl rfl (vp_in_nI (by omega) (by decide)) (show A 3 (nI n).toNatClampNeg = m2 by rw [nI_clamp (by omega)]; exact e3) ?_
        iterate 1 (refine zv_step (bX7_inside (2 * z + 2)) rfl rfl trivial ?_)
        refine zv_iff (by decide) ?_
        iterate 3 (refine zv_step (bX7_inside (2 * z + 2)) rfl rfl trivial ?_)
        exact zv_iret (bX7_inside (2 * z + 2)) rfl (Or.inl rfl) (Nat.zero_le _) (Nat.zero_le _) ⟨rfl, congrArg (fun v => some (Value.int v)) (show nI 0 + nI 0 + nI 0 = nI (inN A z n m) by unfold inN; rw [if_pos h12, e2, f2, e3, f3, dN_m2 A z m2, nI_add, nI_add])⟩
      · skip
        iterate 3 (refine zv_step (bX7_inside (2 * z + 2)) rfl rfl trivial ?_)
        refine zv_iale (bX7_inside (2 * z + 2)) rfl rfl (vp_in_nI (by omega) (by decide)) (show A 3 (nI n).toNatClampNeg = nI c by rw [nI_clamp (by omega)]; exact e3) ?_
        iterate 1 (refine zv_step (bX7_inside (2 * z + 2)) rfl rfl trivial ?_)
        refine zv_ift (nI_pos' (by omega)) ?_
        iterate 4 (refine zv_step (bX7_inside (2 * z + 2)) rfl rfl trivial ?_)
        refine zv_iale (bX7_inside (2 * z + 2)) rfl rfl (vp_in_nI (by omega) (by decide)) (show A 3 (nI n).toNatClampNeg = nI c by rw [nI_clamp (by omega)]; exact e3) ?_
        iterate 3 (refine zv_step (bX7_inside (2 * z + 2)) rfl rfl trivial ?_)
        refine zv_iale (bX7_inside (2 * z + 2)) rfl rfl (vp_in_nI (by omega) (by decide)) (show A 3 (nI m).toNatClampNeg = nI d by rw [nI_clamp (by omega)]; exact f3) ?_
        refine zv_V2 (bX7_inside (2 * z + 2)) rfl rfl rfl rfl rfl rfl rfl ⟨rfl, rfl, rfl⟩ ⟨by show 2 * z + 1 + 1 ≤ 2 * z + 2; omega, by show 8 + (5 + 11) + 64 * (2 * z + 1) ≤ 64 * (2 * z + 2); omega⟩ ⟨Nat.zero_le _, Nat.zero_le _⟩ (ih c d (by omega) (by omega) (by omega) (by omega) (by omega)) ?_
        rintro _ _ ⟨rfl, rfl⟩
        iterate 1 (refine zv_step (bX7_inside (2 * z + 2)) rfl rfl trivial ?_)
        exact zv_iret (bX7_inside (2 * z + 2)) rfl (Or.inl rfl) (Nat.zero_le _) (Nat.zero_le _) ⟨rfl, congrArg (fun v => some (Value.int v)) (show nI 0 + nI 0 + nI (dN A z (nI c) (nI d)) = nI (inN A z n m) by unfold inN; rw [if_pos h12, e2, f2, e3, f3, dN_m2 A z m2, nI_add, nI_add])⟩
    · skip
      iterate 3 (refine zv_step (bX7_inside (2 * z + 2)) rfl rfl trivial ?_)
      refine zv_iale (bX7_inside (2 * z + 2)) rfl rfl (vp_in_nI (by omega) (by decide)) (show A 2 (nI n).toNatClampNeg = nI a by rw [nI_clamp (by omega)]; exact e2) ?_
      iterate 1 (refine zv_step (bX7_inside (2 * z + 2)) rfl rfl trivial ?_)
      refine zv_ift (nI_pos' (by omega)) ?_
      iterate 4 (refine zv_step (bX7_inside (2 * z + 2)) rfl rfl trivial ?_)
      refine zv_iale (bX7_inside (2 * z + 2)) rfl rfl (vp_in_nI (by omega) (by decide)) (show A 2 (nI n).toNatClampNeg = nI a by rw [nI_clamp (by omega)]; exact e2) ?_
      iterate 3 (refine zv_step (bX7_inside (2 * z + 2)) rfl rfl trivial ?_)
      refine zv_iale (bX7_inside (2 * z + 2)) rfl rfl (vp_in_nI (by omega) (by decide)) (show A 2 (nI m).toNatClampNeg = nI b by rw [nI_clamp (by omega)]; exact f2) ?_
      refine zv_V2 (bX7_inside (2 * z + 2)) rfl rfl rfl rfl rfl rfl rfl ⟨rfl, rfl, rfl⟩ ⟨by show 2 * z + 1 + 1 ≤ 2 * z + 2; omega, by show 8 + (5 + 11) + 64 * (2 * z + 1) ≤ 64 * (2 * z + 2); omega⟩ ⟨Nat.zero_le _, Nat.zero_le _⟩ (ih a b (by omega) (by omega) (by omega) (by omega) (by omega)) ?_
      rintro _ _ ⟨rfl, rfl⟩
      iterate 1 (refine zv_step (bX7_inside (2 * z + 2)) rfl rfl trivial ?_)
      rcases s3 with ⟨e3, f3⟩ | ⟨c, d, e3, f3, lc, hc, ld, hd, hzc⟩
      · skip
        iterate 3 (refine zv_step (bX7_inside (2 * z + 2)) rfl rfl trivial ?_)
        refine zv_iale (bX7_inside (2 * z + 2)) rfl rfl (vp_in_nI (by omega) (by decide)) (show A 3 (nI n).toNatClampNeg = m2 by rw [nI_clamp (by omega)]; exact e3) ?_
        iterate 1 (refine zv_step (bX7_inside (2 * z + 2)) rfl rfl trivial ?_)
        refine zv_iff (by decide) ?_
        iterate 3 (refine zv_step (bX7_inside (2 * z + 2)) rfl rfl trivial ?_)
        exact zv_iret (bX7_inside (2 * z + 2)) rfl (Or.inl rfl) (Nat.zero_le _) (Nat.zero_le _) ⟨rfl, congrArg (fun v => some (Value.int v)) (show nI 0 + nI (dN A z (nI a) (nI b)) + nI 0 = nI (inN A z n m) by unfold inN; rw [if_pos h12, e2, f2, e3, f3, dN_m2 A z m2, nI_add, nI_add])⟩
      · skip
        iterate 3 (refine zv_step (bX7_inside (2 * z + 2)) rfl rfl trivial ?_)
        refine zv_iale (bX7_inside (2 * z + 2)) rfl rfl (vp_in_nI (by omega) (by decide)) (show A 3 (nI n).toNatClampNeg = nI c by rw [nI_clamp (by omega)]; exact e3) ?_
        iterate 1 (refine zv_step (bX7_inside (2 * z + 2)) rfl rfl trivial ?_)
        refine zv_ift (nI_pos' (by omega)) ?_
        iterate 4 (refine zv_step (bX7_inside (2 * z + 2)) rfl rfl trivial ?_)
        refine zv_iale (bX7_inside (2 * z + 2)) rfl rfl (vp_in_nI (by omega) (by decide)) (show A 3 (nI n).toNatClampNeg = nI c by rw [nI_clamp (by omega)]; exact e3) ?_
        iterate 3 (refine zv_step (bX7_inside (2 * z + 2)) rfl rfl trivial ?_)
        refine zv_iale (bX7_inside (2 * z + 2)) rfl rfl (vp_in_nI (by omega) (by decide)) (show A 3 (nI m).toNatClampNeg = nI d by rw [nI_clamp (by omega)]; exact f3) ?_
        refine zv_V2 (bX7_inside (2 * z + 2)) rfl rfl rfl rfl rfl rfl rfl ⟨rfl, rfl, rfl⟩ ⟨by show 2 * z + 1 + 1 ≤ 2 * z + 2; omega, by show 8 + (5 + 11) + 64 * (2 * z + 1) ≤ 64 * (2 * z + 2); omega⟩ ⟨Nat.zero_le _, Nat.zero_le _⟩ (ih c d (by omega) (by omega) (by omega) (by omega) (by omega)) ?_
        rintro _ _ ⟨rfl, rfl⟩
        iterate 1 (refine zv_step (bX7_inside (2 * z + 2)) rfl rfl trivial ?_)
        exact zv_iret (bX7_inside (2 * z + 2)) rfl (Or.inl rfl) (Nat.zero_le _) (Nat.zero_le _) ⟨rfl, congrArg (fun v => some (Value.int v)) (show nI 0 + nI (dN A z (nI a) (nI b)) + nI (dN A z (nI c) (nI d)) = nI (inN A z n m) by unfold inN; rw [if_pos h12, e2, f2, e3, f3, nI_add, nI_add])⟩
  · iterate 4 (refine zv_step (bX7_inside (2 * z + 2)) rfl rfl trivial ?_)
    rcases s2 with ⟨e2, f2⟩ | ⟨a, b, e2, f2, la, ha, lb, hb, hza⟩
    · skip
      iterate 3 (refine zv_step (bX7_inside (2 * z + 2)) rfl rfl trivial ?_)
      refine zv_iale (bX7_inside (2 * z + 2)) rfl rfl (vp_in_nI (by omega) (by decide)) (show A 2 (nI n).toNatClampNeg = m2 by rw [nI_clamp (by omega)]; exact e2) ?_
      iterate 1 (refine zv_step (bX7_inside (2 * z + 2)) rfl rfl trivial ?_)
      refine zv_iff (by decide) ?_
      iterate 3 (refine zv_step (bX7_inside (2 * z + 2)) rfl rfl trivial ?_)
      rcases s3 with ⟨e3, f3⟩ | ⟨c, d, e3, f3, lc, hc, ld, hd, hzc⟩
      · skip
        iterate 3 (refine zv_step (bX7_inside (2 * z + 2)) rfl rfl trivial ?_)
        refine zv_iale (bX7_inside (2 * z + 2)) rfl rfl (vp_in_nI (by omega) (by decide)) (show A 3 (nI n).toNatClampNeg = m2 by rw [nI_clamp (by omega)]; exact e3) ?_
        iterate 1 (refine zv_step (bX7_inside (2 * z + 2)) rfl rfl trivial ?_)
        refine zv_iff (by decide) ?_
        iterate 3 (refine zv_step (bX7_inside (2 * z + 2)) rfl rfl trivial ?_)
        exact zv_iret (bX7_inside (2 * z + 2)) rfl (Or.inl rfl) (Nat.zero_le _) (Nat.zero_le _) ⟨rfl, congrArg (fun v => some (Value.int v)) (show nI 1 + nI 0 + nI 0 = nI (inN A z n m) by unfold inN; rw [if_neg h12, e2, f2, e3, f3, dN_m2 A z m2, nI_add, nI_add])⟩
      · skip
        iterate 3 (refine zv_step (bX7_inside (2 * z + 2)) rfl rfl trivial ?_)
        refine zv_iale (bX7_inside (2 * z + 2)) rfl rfl (vp_in_nI (by omega) (by decide)) (show A 3 (nI n).toNatClampNeg = nI c by rw [nI_clamp (by omega)]; exact e3) ?_
        iterate 1 (refine zv_step (bX7_inside (2 * z + 2)) rfl rfl trivial ?_)
        refine zv_ift (nI_pos' (by omega)) ?_
        iterate 4 (refine zv_step (bX7_inside (2 * z + 2)) rfl rfl trivial ?_)
        refine zv_iale (bX7_inside (2 * z + 2)) rfl rfl (vp_in_nI (by omega) (by decide)) (show A 3 (nI n).toNatClampNeg = nI c by rw [nI_clamp (by omega)]; exact e3) ?_
        iterate 3 (refine zv_step (bX7_inside (2 * z + 2)) rfl rfl trivial ?_)
        refine zv_iale (bX7_inside (2 * z + 2)) rfl rfl (vp_in_nI (by omega) (by decide)) (show A 3 (nI m).toNatClampNeg = nI d by rw [nI_clamp (by omega)]; exact f3) ?_
        refine zv_V2 (bX7_inside (2 * z + 2)) rfl rfl rfl rfl rfl rfl rfl ⟨rfl, rfl, rfl⟩ ⟨by show 2 * z + 1 + 1 ≤ 2 * z + 2; omega, by show 8 + (5 + 11) + 64 * (2 * z + 1) ≤ 64 * (2 * z + 2); omega⟩ ⟨Nat.zero_le _, Nat.zero_le _⟩ (ih c d (by omega) (by omega) (by omega) (by omega) (by omega)) ?_
        rintro _ _ ⟨rfl, rfl⟩
        iterate 1 (refine zv_step (bX7_inside (2 * z + 2)) rfl rfl trivial ?_)
        exact zv_iret (bX7_inside (2 * z + 2)) rfl (Or.inl rfl) (Nat.zero_le _) (Nat.zero_le _) ⟨rfl, congrArg (fun v => some (Value.int v)) (show nI 1 + nI 0 + nI (dN A z (nI c) (nI d)) = nI (inN A z n m) by unfold inN; rw [if_neg h12, e2, f2, e3, f3, dN_m2 A z m2, nI_add, nI_add])⟩
    · skip
      iterate 3 (refine zv_step (bX7_inside (2 * z + 2)) rfl rfl trivial ?_)
      refine zv_iale (bX7_inside (2 * z + 2)) rfl rfl (vp_in_nI (by omega) (by decide)) (show A 2 (nI n).toNatClampNeg = nI a by rw [nI_clamp (by omega)]; exact e2) ?_
      iterate 1 (refine zv_step (bX7_inside (2 * z + 2)) rfl rfl trivial ?_)
      refine zv_ift (nI_pos' (by omega)) ?_
      iterate 4 (refine zv_step (bX7_inside (2 * z + 2)) rfl rfl trivial ?_)
      refine zv_iale (bX7_inside (2 * z + 2)) rfl rfl (vp_in_nI (by omega) (by decide)) (show A 2 (nI n).toNatClampNeg = nI a by rw [nI_clamp (by omega)]; exact e2) ?_
      iterate 3 (refine zv_step (bX7_inside (2 * z + 2)) rfl rfl trivial ?_)
      refine zv_iale (bX7_inside (2 * z + 2)) rfl rfl (vp_in_nI (by omega) (by decide)) (show A 2 (nI m).toNatClampNeg = nI b by rw [nI_clamp (by omega)]; exact f2) ?_
      refine zv_V2 (bX7_inside (2 * z + 2)) rfl rfl rfl rfl rfl rfl rfl ⟨rfl, rfl, rfl⟩ ⟨by show 2 * z + 1 + 1 ≤ 2 * z + 2; omega, by show 8 + (5 + 11) + 64 * (2 * z + 1) ≤ 64 * (2 * z + 2); omega⟩ ⟨Nat.zero_le _, Nat.zero_le _⟩ (ih a b (by omega) (by omega) (by omega) (by omega) (by omega)) ?_
      rintro _ _ ⟨rfl, rfl⟩
      iterate 1 (refine zv_step (bX7_inside (2 * z + 2)) rfl rfl trivial ?_)
      rcases s3 with ⟨e3, f3⟩ | ⟨c, d, e3, f3, lc, hc, ld, hd, hzc⟩
      · skip
        iterate 3 (refine zv_step (bX7_inside (2 * z + 2)) rfl rfl trivial ?_)
        refine zv_iale (bX7_inside (2 * z + 2)) rfl rfl (vp_in_nI (by omega) (by decide)) (show A 3 (nI n).toNatClampNeg = m2 by rw [nI_clamp (by omega)]; exact e3) ?_
        iterate 1 (refine zv_step (bX7_inside (2 * z + 2)) rfl rfl trivial ?_)
        refine zv_iff (by decide) ?_
        iterate 3 (refine zv_step (bX7_inside (2 * z + 2)) rfl rfl trivial ?_)
        exact zv_iret (bX7_inside (2 * z + 2)) rfl (Or.inl rfl) (Nat.zero_le _) (Nat.zero_le _) ⟨rfl, congrArg (fun v => some (Value.int v)) (show nI 1 + nI (dN A z (nI a) (nI b)) + nI 0 = nI (inN A z n m) by unfold inN; rw [if_neg h12, e2, f2, e3, f3, dN_m2 A z m2, nI_add, nI_add])⟩
      · skip
        iterate 3 (refine zv_step (bX7_inside (2 * z + 2)) rfl rfl trivial ?_)
        refine zv_iale (bX7_inside (2 * z + 2)) rfl rfl (vp_in_nI (by omega) (by decide)) (show A 3 (nI n).toNatClampNeg = nI c by rw [nI_clamp (by omega)]; exact e3) ?_
        iterate 1 (refine zv_step (bX7_inside (2 * z + 2)) rfl rfl trivial ?_)
        refine zv_ift (nI_pos' (by omega)) ?_
        iterate 4 (refine zv_step (bX7_inside (2 * z + 2)) rfl rfl trivial ?_)
        refine zv_iale (bX7_inside (2 * z + 2)) rfl rfl (vp_in_nI (by omega) (by decide)) (show A 3 (nI n).toNatClampNeg = nI c by rw [nI_clamp (by omega)]; exact e3) ?_
        iterate 3 (refine zv_step (bX7_inside (2 * z + 2)) rfl rfl trivial ?_)
        refine zv_iale (bX7_inside (2 * z + 2)) rfl rfl (vp_in_nI (by omega) (by decide)) (show A 3 (nI m).toNatClampNeg = nI d by rw [nI_clamp (by omega)]; exact f3) ?_
        refine zv_V2 (bX7_inside (2 * z + 2)) rfl rfl rfl rfl rfl rfl rfl ⟨rfl, rfl, rfl⟩ ⟨by show 2 * z + 1 + 1 ≤ 2 * z + 2; omega, by show 8 + (5 + 11) + 64 * (2 * z + 1) ≤ 64 * (2 * z + 2); omega⟩ ⟨Nat.zero_le _, Nat.zero_le _⟩ (ih c d (by omega) (by omega) (by omega) (by omega) (by omega)) ?_
        rintro _ _ ⟨rfl, rfl⟩
        iterate 1 (refine zv_step (bX7_inside (2 * z + 2)) rfl rfl trivial ?_)
        exact zv_iret (bX7_inside (2 * z + 2)) rfl (Or.inl rfl) (Nat.zero_le _) (Nat.zero_le _) ⟨rfl, congrArg (fun v => some (Value.int v)) (show nI 1 + nI (dN A z (nI a) (nI b)) + nI (dN A z (nI c) (nI d)) = nI (inN A z n m) by unfold inN; rw [if_neg h12, e2, f2, e3, f3, nI_add, nI_add])⟩
set_option maxHeartbeats 1000000 in
set_option maxRecDepth 20000 in
theorem mDiffX (f : Nat → zC) (o : Nat → Int32) (A : Nat → Nat → Int32) (J : Nat → Nat → Int64) {lo hi : Nat} (hh : hi ≤ 450) (hT : tbI lo hi A) : ∀ (z n m : Nat), lo ≤ n → n < hi → lo ≤ m → m < hi → szN A n ≤ z → zK (2 * z + 1) zX7_difference [.ref 76, .int (nI n), .int (nI m)] (wR f o A J) (fun r w' => w' = (wR f o A J) ∧ r = some (.int (nI (dN A z (nI n) (nI m))))) := by
  intro z
  induction z with
  | zero =>
    intro n m hlo hn _ _ hz
    have := (rN_sz (hT n hlo hn)).1
    omega
  | succ z ih =>
    intro n m hlo hn hlo2 hm hz
    have hb9 := dN_le hh hT (z + 1) n m hlo hn hlo2 hm hz
    have z1 := (rN_sz (hT n hlo hn)).2.1
    have z2 := (rN_sz (hT m hlo2 hm)).2.1
    refine zK_of qX7_difference (by decide +kernel) rfl ?_
    iterate 3 (refine zv_step (bX7_difference (2 * (z + 1) + 1)) rfl rfl trivial ?_)
    refine zv_iale (bX7_difference (2 * (z + 1) + 1)) rfl rfl (vp_in_nI (by omega) (by decide)) (show A 4 (nI n).toNatClampNeg = nI (szN A n) by rw [nI_clamp (by omega)]; exact (rN_sz (hT n hlo hn)).2.2) ?_
    iterate 3 (refine zv_step (bX7_difference (2 * (z + 1) + 1)) rfl rfl trivial ?_)
    refine zv_iale (bX7_difference (2 * (z + 1) + 1)) rfl rfl (vp_in_nI (by omega) (by decide)) (show A 4 (nI m).toNatClampNeg = nI (szN A m) by rw [nI_clamp (by omega)]; exact (rN_sz (hT m hlo2 hm)).2.2) ?_
    iterate 5 (refine zv_step (bX7_difference (2 * (z + 1) + 1)) rfl rfl trivial ?_)
    refine zv_iale (bX7_difference (2 * (z + 1) + 1)) rfl rfl (vp_in_nI (by omega) (by decide)) (show A 0 (nI n).toNatClampNeg = A 0 n by rw [nI_clamp (by omega)]) ?_
    iterate 3 (refine zv_step (bX7_difference (2 * (z + 1) + 1)) rfl rfl trivial ?_)
    refine zv_iale (bX7_difference (2 * (z + 1) + 1)) rfl rfl (vp_in_nI (by omega) (by decide)) (show A 0 (nI m).toNatClampNeg = A 0 m by rw [nI_clamp (by omega)]) ?_
    iterate 1 (refine zv_step (bX7_difference (2 * (z + 1) + 1)) rfl rfl trivial ?_)
    refine zv_ifb (fun h26 => ?_) (fun h26 => ?_)
    · have q26 : ¬ A 0 n = A 0 m := h26
      iterate 5 (refine zv_step (bX7_difference (2 * (z + 1) + 1)) rfl rfl trivial ?_)
      refine zv_ift (Int32.le_refl _) ?_
      iterate 1 (refine zv_step (bX7_difference (2 * (z + 1) + 1)) rfl rfl trivial ?_)
      exact zv_iret (bX7_difference (2 * (z + 1) + 1)) rfl (Or.inl rfl) (Nat.zero_le _) (Nat.zero_le _) ⟨rfl, congrArg (fun v => some (Value.int v)) (show nI (szN A n) + nI (szN A m) = nI (dN A (z + 1) (nI n) (nI m)) by rw [dN_nI (by omega) (by omega), if_neg q26, nI_add])⟩
    · have q26 : A 0 n = A 0 m := Decidable.not_not.mp h26
      have hi9 := hb9.2.2 q26 z rfl
      iterate 3 (refine zv_step (bX7_difference (2 * (z + 1) + 1)) rfl rfl trivial ?_)
      refine zv_V2 (bX7_difference (2 * (z + 1) + 1)) rfl rfl rfl rfl rfl rfl rfl ⟨rfl, rfl, rfl⟩ ⟨by show 2 * z + 2 + 1 ≤ 2 * (z + 1) + 1; omega, by show 8 + (4 + 11) + 64 * (2 * z + 2) ≤ 64 * (2 * (z + 1) + 1); omega⟩ ⟨Nat.zero_le _, Nat.zero_le _⟩ (mInsideX f o A J hh hT ih hlo hn hlo2 hm hz q26) ?_
      rintro _ _ ⟨rfl, rfl⟩
      iterate 5 (refine zv_step (bX7_difference (2 * (z + 1) + 1)) rfl rfl trivial ?_)
      refine zv_ifb (fun h44 => ?_) (fun h44 => ?_)
      · have q44 : szN A n + szN A m ≤ inN A z n m := by
          have h9 : nI (szN A n) + nI (szN A m) ≤ nI (inN A z n m) := h44
          rw [nI_add, nI_leI (by omega) (by omega)] at h9
          exact h9
        iterate 1 (refine zv_step (bX7_difference (2 * (z + 1) + 1)) rfl rfl trivial ?_)
        exact zv_iret (bX7_difference (2 * (z + 1) + 1)) rfl (Or.inl rfl) (Nat.zero_le _) (Nat.zero_le _) ⟨rfl, congrArg (fun v => some (Value.int v)) (show nI (szN A n) + nI (szN A m) = nI (dN A (z + 1) (nI n) (nI m)) by rw [dN_nI (by omega) (by omega), if_pos q26, nI_add, show szN A n + szN A m = inN A z n m by omega])⟩
      · iterate 2 (refine zv_step (bX7_difference (2 * (z + 1) + 1)) rfl rfl trivial ?_)
        exact zv_iret (bX7_difference (2 * (z + 1) + 1)) rfl (Or.inl rfl) (Nat.zero_le _) (Nat.zero_le _) ⟨rfl, congrArg (fun v => some (Value.int v)) (show nI (inN A z n m) = nI (dN A (z + 1) (nI n) (nI m)) by rw [dN_nI (by omega) (by omega), if_pos q26])⟩
set_option maxHeartbeats 1000000 in
set_option maxRecDepth 20000 in
theorem mWholesX (f : Nat → zC) (o : Nat → Int32) (A : Nat → Nat → Int32) (J : Nat → Nat → Int64) {lo hi : Nat} (hh : hi ≤ 450) (hT : tbI lo hi A) : ∀ (z n m : Nat), lo ≤ n → n < hi → lo ≤ m → m < hi → szN A n ≤ z → zK (z + 84) zX7_wholes [.ref 76, .int (nI n), .int (nI m)] (wR f o A J) (fun r w' => w' = (wR f o A J) ∧ r = some (.int (nI (eN A z (nI n) (nI m))))) := by
  intro z
  induction z with
  | zero =>
    intro n m hlo hn _ _ hz
    have := (rN_sz (hT n hlo hn)).1
    omega
  | succ z ih =>
    intro n m hlo hn hlo2 hm hz
    have z1 := (rN_sz (hT n hlo hn)).2.1
    have z2 := (rN_sz (hT m hlo2 hm)).2.1
    refine zK_of qX7_wholes (by decide +kernel) rfl ?_
    iterate 3 (refine zv_step (bX7_wholes (z + 1 + 84)) rfl rfl trivial ?_)
    refine zv_iale (bX7_wholes (z + 1 + 84)) rfl rfl (vp_in_nI (by omega) (by decide)) (show A 0 (nI n).toNatClampNeg = A 0 n by rw [nI_clamp (by omega)]) ?_
    iterate 3 (refine zv_step (bX7_wholes (z + 1 + 84)) rfl rfl trivial ?_)
    refine zv_iale (bX7_wholes (z + 1 + 84)) rfl rfl (vp_in_nI (by omega) (by decide)) (show A 0 (nI m).toNatClampNeg = A 0 m by rw [nI_clamp (by omega)]) ?_
    iterate 1 (refine zv_step (bX7_wholes (z + 1 + 84)) rfl rfl trivial ?_)
    refine zv_ifb (fun h12 => ?_) (fun h12 => ?_)
    · have q12 : ¬ A 0 n = A 0 m := h12
      iterate 1 (refine zv_step (bX7_wholes (z + 1 + 84)) rfl rfl trivial ?_)
      exact zv_iret (bX7_wholes (z + 1 + 84)) rfl (Or.inl rfl) (Nat.zero_le _) (Nat.zero_le _) ⟨rfl, congrArg (fun v => some (Value.int v)) (show nI 1 = nI (eN A (z + 1) (nI n) (nI m)) by rw [eN_nI (by omega) (by omega), if_neg q12])⟩
    · have q12 : A 0 n = A 0 m := Decidable.not_not.mp h12
      have hi9 := (dN_le hh hT 41 n m hlo hn hlo2 hm (by omega)).2.2 q12 40 rfl
      iterate 3 (refine zv_step (bX7_wholes (z + 1 + 84)) rfl rfl trivial ?_)
      refine zv_V2 (bX7_wholes (z + 1 + 84)) rfl rfl rfl rfl rfl rfl rfl ⟨rfl, rfl, rfl⟩ ⟨by show 2 * 40 + 2 + 1 ≤ z + 1 + 84; omega, by show 8 + (4 + 11) + 64 * (2 * 40 + 2) ≤ 64 * (z + 1 + 84); omega⟩ ⟨Nat.zero_le _, Nat.zero_le _⟩ (mInsideX f o A J hh hT (z := 40) (mDiffX f o A J hh hT 40) hlo hn hlo2 hm (by omega) q12) ?_
      rintro _ _ ⟨rfl, rfl⟩
      iterate 3 (refine zv_step (bX7_wholes (z + 1 + 84)) rfl rfl trivial ?_)
      refine zv_iale (bX7_wholes (z + 1 + 84)) rfl rfl (vp_in_nI (by omega) (by decide)) (show A 4 (nI n).toNatClampNeg = nI (szN A n) by rw [nI_clamp (by omega)]; exact (rN_sz (hT n hlo hn)).2.2) ?_
      iterate 3 (refine zv_step (bX7_wholes (z + 1 + 84)) rfl rfl trivial ?_)
      refine zv_iale (bX7_wholes (z + 1 + 84)) rfl rfl (vp_in_nI (by omega) (by decide)) (show A 4 (nI m).toNatClampNeg = nI (szN A m) by rw [nI_clamp (by omega)]; exact (rN_sz (hT m hlo2 hm)).2.2) ?_
      iterate 2 (refine zv_step (bX7_wholes (z + 1 + 84)) rfl rfl trivial ?_)
      refine zv_ift (show nI (inN A 40 n m) ≤ nI (szN A n) + nI (szN A m) by rw [nI_add, nI_leI (by omega) (by omega)]; exact hi9) ?_
      obtain ⟨s2, s3⟩ := rN_same (hT n hlo hn) (hT m hlo2 hm) q12
      rcases s2 with ⟨e2, f2⟩ | ⟨a, b, e2, f2, la, ha, lb, hb, hza⟩
      · skip
        iterate 3 (refine zv_step (bX7_wholes (z + 1 + 84)) rfl rfl trivial ?_)
        refine zv_iale (bX7_wholes (z + 1 + 84)) rfl rfl (vp_in_nI (by omega) (by decide)) (show A 2 (nI n).toNatClampNeg = m2 by rw [nI_clamp (by omega)]; exact e2) ?_
        iterate 1 (refine zv_step (bX7_wholes (z + 1 + 84)) rfl rfl trivial ?_)
        refine zv_iff (by decide) ?_
        iterate 2 (refine zv_step (bX7_wholes (z + 1 + 84)) rfl rfl trivial ?_)
        rcases s3 with ⟨e3, f3⟩ | ⟨c, d, e3, f3, lc, hc, ld, hd, hzc⟩
        · skip
          iterate 3 (refine zv_step (bX7_wholes (z + 1 + 84)) rfl rfl trivial ?_)
          refine zv_iale (bX7_wholes (z + 1 + 84)) rfl rfl (vp_in_nI (by omega) (by decide)) (show A 3 (nI n).toNatClampNeg = m2 by rw [nI_clamp (by omega)]; exact e3) ?_
          iterate 1 (refine zv_step (bX7_wholes (z + 1 + 84)) rfl rfl trivial ?_)
          refine zv_iff (by decide) ?_
          iterate 3 (refine zv_step (bX7_wholes (z + 1 + 84)) rfl rfl trivial ?_)
          exact zv_iret (bX7_wholes (z + 1 + 84)) rfl (Or.inl rfl) (Nat.zero_le _) (Nat.zero_le _) ⟨rfl, congrArg (fun v => some (Value.int v)) (show nI 0 + nI 0 = nI (eN A (z + 1) (nI n) (nI m)) by rw [eN_nI (by omega) (by omega), if_pos q12, e2, f2, e3, f3, eN_m2 A z m2, nI_add])⟩
        · skip
          iterate 3 (refine zv_step (bX7_wholes (z + 1 + 84)) rfl rfl trivial ?_)
          refine zv_iale (bX7_wholes (z + 1 + 84)) rfl rfl (vp_in_nI (by omega) (by decide)) (show A 3 (nI n).toNatClampNeg = nI c by rw [nI_clamp (by omega)]; exact e3) ?_
          iterate 1 (refine zv_step (bX7_wholes (z + 1 + 84)) rfl rfl trivial ?_)
          refine zv_ift (nI_pos' (by omega)) ?_
          iterate 4 (refine zv_step (bX7_wholes (z + 1 + 84)) rfl rfl trivial ?_)
          refine zv_iale (bX7_wholes (z + 1 + 84)) rfl rfl (vp_in_nI (by omega) (by decide)) (show A 3 (nI n).toNatClampNeg = nI c by rw [nI_clamp (by omega)]; exact e3) ?_
          iterate 3 (refine zv_step (bX7_wholes (z + 1 + 84)) rfl rfl trivial ?_)
          refine zv_iale (bX7_wholes (z + 1 + 84)) rfl rfl (vp_in_nI (by omega) (by decide)) (show A 3 (nI m).toNatClampNeg = nI d by rw [nI_clamp (by omega)]; exact f3) ?_
          refine zv_V2 (bX7_wholes (z + 1 + 84)) rfl rfl rfl rfl rfl rfl rfl ⟨rfl, rfl, rfl⟩ ⟨by show z + 84 + 1 ≤ z + 1 + 84; omega, by show 8 + (3 + 11) + 64 * (z + 84) ≤ 64 * (z + 1 + 84); omega⟩ ⟨Nat.zero_le _, Nat.zero_le _⟩ (ih c d (by omega) (by omega) (by omega) (by omega) (by omega)) ?_
          rintro _ _ ⟨rfl, rfl⟩
          iterate 1 (refine zv_step (bX7_wholes (z + 1 + 84)) rfl rfl trivial ?_)
          exact zv_iret (bX7_wholes (z + 1 + 84)) rfl (Or.inl rfl) (Nat.zero_le _) (Nat.zero_le _) ⟨rfl, congrArg (fun v => some (Value.int v)) (show nI 0 + nI (eN A z (nI c) (nI d)) = nI (eN A (z + 1) (nI n) (nI m)) by rw [eN_nI (by omega) (by omega), if_pos q12, e2, f2, e3, f3, eN_m2 A z m2, nI_add])⟩
      · skip
        iterate 3 (refine zv_step (bX7_wholes (z + 1 + 84)) rfl rfl trivial ?_)
        refine zv_iale (bX7_wholes (z + 1 + 84)) rfl rfl (vp_in_nI (by omega) (by decide)) (show A 2 (nI n).toNatClampNeg = nI a by rw [nI_clamp (by omega)]; exact e2) ?_
        iterate 1 (refine zv_step (bX7_wholes (z + 1 + 84)) rfl rfl trivial ?_)
        refine zv_ift (nI_pos' (by omega)) ?_
        iterate 4 (refine zv_step (bX7_wholes (z + 1 + 84)) rfl rfl trivial ?_)
        refine zv_iale (bX7_wholes (z + 1 + 84)) rfl rfl (vp_in_nI (by omega) (by decide)) (show A 2 (nI n).toNatClampNeg = nI a by rw [nI_clamp (by omega)]; exact e2) ?_
        iterate 3 (refine zv_step (bX7_wholes (z + 1 + 84)) rfl rfl trivial ?_)
        refine zv_iale (bX7_wholes (z + 1 + 84)) rfl rfl (vp_in_nI (by omega) (by decide)) (show A 2 (nI m).toNatClampNeg = nI b by rw [nI_clamp (by omega)]; exact f2) ?_
        refine zv_V2 (bX7_wholes (z + 1 + 84)) rfl rfl rfl rfl rfl rfl rfl ⟨rfl, rfl, rfl⟩ ⟨by show z + 84 + 1 ≤ z + 1 + 84; omega, by show 8 + (3 + 11) + 64 * (z + 84) ≤ 64 * (z + 1 + 84); omega⟩ ⟨Nat.zero_le _, Nat.zero_le _⟩ (ih a b (by omega) (by omega) (by omega) (by omega) (by omega)) ?_
        rintro _ _ ⟨rfl, rfl⟩
        rcases s3 with ⟨e3, f3⟩ | ⟨c, d, e3, f3, lc, hc, ld, hd, hzc⟩
        · skip
          iterate 3 (refine zv_step (bX7_wholes (z + 1 + 84)) rfl rfl trivial ?_)
          refine zv_iale (bX7_wholes (z + 1 + 84)) rfl rfl (vp_in_nI (by omega) (by decide)) (show A 3 (nI n).toNatClampNeg = m2 by rw [nI_clamp (by omega)]; exact e3) ?_
          iterate 1 (refine zv_step (bX7_wholes (z + 1 + 84)) rfl rfl trivial ?_)
          refine zv_iff (by decide) ?_
          iterate 3 (refine zv_step (bX7_wholes (z + 1 + 84)) rfl rfl trivial ?_)
          exact zv_iret (bX7_wholes (z + 1 + 84)) rfl (Or.inl rfl) (Nat.zero_le _) (Nat.zero_le _) ⟨rfl, congrArg (fun v => some (Value.int v)) (show nI (eN A z (nI a) (nI b)) + nI 0 = nI (eN A (z + 1) (nI n) (nI m)) by rw [eN_nI (by omega) (by omega), if_pos q12, e2, f2, e3, f3, eN_m2 A z m2, nI_add])⟩
        · skip
          iterate 3 (refine zv_step (bX7_wholes (z + 1 + 84)) rfl rfl trivial ?_)
          refine zv_iale (bX7_wholes (z + 1 + 84)) rfl rfl (vp_in_nI (by omega) (by decide)) (show A 3 (nI n).toNatClampNeg = nI c by rw [nI_clamp (by omega)]; exact e3) ?_
          iterate 1 (refine zv_step (bX7_wholes (z + 1 + 84)) rfl rfl trivial ?_)
          refine zv_ift (nI_pos' (by omega)) ?_
          iterate 4 (refine zv_step (bX7_wholes (z + 1 + 84)) rfl rfl trivial ?_)
          refine zv_iale (bX7_wholes (z + 1 + 84)) rfl rfl (vp_in_nI (by omega) (by decide)) (show A 3 (nI n).toNatClampNeg = nI c by rw [nI_clamp (by omega)]; exact e3) ?_
          iterate 3 (refine zv_step (bX7_wholes (z + 1 + 84)) rfl rfl trivial ?_)
          refine zv_iale (bX7_wholes (z + 1 + 84)) rfl rfl (vp_in_nI (by omega) (by decide)) (show A 3 (nI m).toNatClampNeg = nI d by rw [nI_clamp (by omega)]; exact f3) ?_
          refine zv_V2 (bX7_wholes (z + 1 + 84)) rfl rfl rfl rfl rfl rfl rfl ⟨rfl, rfl, rfl⟩ ⟨by show z + 84 + 1 ≤ z + 1 + 84; omega, by show 8 + (3 + 11) + 64 * (z + 84) ≤ 64 * (z + 1 + 84); omega⟩ ⟨Nat.zero_le _, Nat.zero_le _⟩ (ih c d (by omega) (by omega) (by omega) (by omega) (by omega)) ?_
          rintro _ _ ⟨rfl, rfl⟩
          iterate 1 (refine zv_step (bX7_wholes (z + 1 + 84)) rfl rfl trivial ?_)
          exact zv_iret (bX7_wholes (z + 1 + 84)) rfl (Or.inl rfl) (Nat.zero_le _) (Nat.zero_le _) ⟨rfl, congrArg (fun v => some (Value.int v)) (show nI (eN A z (nI a) (nI b)) + nI (eN A z (nI c) (nI d)) = nI (eN A (z + 1) (nI n) (nI m)) by rw [eN_nI (by omega) (by omega), if_pos q12, e2, f2, e3, f3, nI_add])⟩
set_option maxHeartbeats 1000000 in
set_option maxRecDepth 20000 in
theorem mChangedX (f : Nat → zC) (o : Nat → Int32) (A : Nat → Nat → Int32) (J : Nat → Nat → Int64) {u : Nat} (hu : u ≤ 120) (ho : o 0 = nI u) (hT : tbI 0 u A) (x y : Int32) : zK 82 zX7_changed [.ref 76, .int x, .int y] (wR f o A J) (fun r w' => w' = (wR f o A J) ∧ ∃ R : Int32, r = some (.int R) ∧ twR u x y (fun n m => nI (dN A 40 (nI n) (nI m))) R) := by
  refine zK_of qX7_changed (by decide +kernel) rfl ?_
  iterate 2 (refine zv_step (bX7_changed 82) rfl rfl trivial ?_)
  refine zv_V1 (bX7_changed 82) rfl rfl rfl rfl rfl rfl rfl ⟨rfl, rfl, rfl⟩ ⟨by decide, by decide⟩ ⟨Nat.zero_le _, Nat.zero_le _⟩ (mIsNode f o A J hu ho _) ?_
  rintro _ _ ⟨rfl, ⟨g1, rfl⟩ | ⟨g1, rfl⟩⟩
  · obtain ⟨n, hn, rfl⟩ := nd_of (by omega) g1
    iterate 1 (refine zv_step (bX7_changed 82) rfl rfl trivial ?_)
    refine zv_iff (by decide) ?_
    iterate 2 (refine zv_step (bX7_changed 82) rfl rfl trivial ?_)
    refine zv_V1 (bX7_changed 82) rfl rfl rfl rfl rfl rfl rfl ⟨rfl, rfl, rfl⟩ ⟨by decide, by decide⟩ ⟨Nat.zero_le _, Nat.zero_le _⟩ (mIsNode f o A J hu ho _) ?_
    rintro _ _ ⟨rfl, ⟨g2, rfl⟩ | ⟨g2, rfl⟩⟩
    · obtain ⟨m, hm, rfl⟩ := nd_of (by omega) g2
      iterate 1 (refine zv_step (bX7_changed 82) rfl rfl trivial ?_)
      refine zv_iff (by decide) ?_
      iterate 3 (refine zv_step (bX7_changed 82) rfl rfl trivial ?_)
      refine zv_V2 (bX7_changed 82) rfl rfl rfl rfl rfl rfl rfl ⟨rfl, rfl, rfl⟩ ⟨by decide, by decide⟩ ⟨Nat.zero_le _, Nat.zero_le _⟩ (mDiffX f o A J (by omega) hT 40 n m (Nat.zero_le _) hn (Nat.zero_le _) hm (rN_sz (hT n (Nat.zero_le _) hn)).2.1) ?_
      rintro _ _ ⟨rfl, rfl⟩
      iterate 1 (refine zv_step (bX7_changed 82) rfl rfl trivial ?_)
      exact zv_iret (bX7_changed 82) rfl (Or.inl rfl) (Nat.zero_le _) (Nat.zero_le _) ⟨rfl, _, rfl, Or.inr ⟨n, m, hn, hm, rfl, rfl, rfl⟩⟩
    · skip
      iterate 1 (refine zv_step (bX7_changed 82) rfl rfl trivial ?_)
      refine zv_ift (by decide) ?_
      iterate 1 (refine zv_step (bX7_changed 82) rfl rfl trivial ?_)
      exact zv_iret (bX7_changed 82) rfl (Or.inl rfl) (Nat.zero_le _) (Nat.zero_le _) ⟨rfl, _, rfl, Or.inl ⟨rfl, fun q => g2 (by have := q.2.1; have := q.2.2; omega)⟩⟩
  · skip
    iterate 1 (refine zv_step (bX7_changed 82) rfl rfl trivial ?_)
    refine zv_ift (by decide) ?_
    iterate 1 (refine zv_step (bX7_changed 82) rfl rfl trivial ?_)
    exact zv_iret (bX7_changed 82) rfl (Or.inl rfl) (Nat.zero_le _) (Nat.zero_le _) ⟨rfl, _, rfl, Or.inl ⟨rfl, fun q => g1 (by have := q.1.1; have := q.1.2; omega)⟩⟩
set_option maxHeartbeats 1000000 in
set_option maxRecDepth 20000 in
theorem mExchangedX (f : Nat → zC) (o : Nat → Int32) (A : Nat → Nat → Int32) (J : Nat → Nat → Int64) {u : Nat} (hu : u ≤ 120) (ho : o 0 = nI u) (hT : tbI 0 u A) (x y : Int32) : zK 125 zX7_exchanged [.ref 76, .int x, .int y] (wR f o A J) (fun r w' => w' = (wR f o A J) ∧ ∃ R : Int32, r = some (.int R) ∧ twR u x y (fun n m => nI (eN A 40 (nI n) (nI m))) R) := by
  refine zK_of qX7_exchanged (by decide +kernel) rfl ?_
  iterate 2 (refine zv_step (bX7_exchanged 125) rfl rfl trivial ?_)
  refine zv_V1 (bX7_exchanged 125) rfl rfl rfl rfl rfl rfl rfl ⟨rfl, rfl, rfl⟩ ⟨by decide, by decide⟩ ⟨Nat.zero_le _, Nat.zero_le _⟩ (mIsNode f o A J hu ho _) ?_
  rintro _ _ ⟨rfl, ⟨g1, rfl⟩ | ⟨g1, rfl⟩⟩
  · obtain ⟨n, hn, rfl⟩ := nd_of (by omega) g1
    iterate 1 (refine zv_step (bX7_exchanged 125) rfl rfl trivial ?_)
    refine zv_iff (by decide) ?_
    iterate 2 (refine zv_step (bX7_exchanged 125) rfl rfl trivial ?_)
    refine zv_V1 (bX7_exchanged 125) rfl rfl rfl rfl rfl rfl rfl ⟨rfl, rfl, rfl⟩ ⟨by decide, by decide⟩ ⟨Nat.zero_le _, Nat.zero_le _⟩ (mIsNode f o A J hu ho _) ?_
    rintro _ _ ⟨rfl, ⟨g2, rfl⟩ | ⟨g2, rfl⟩⟩
    · obtain ⟨m, hm, rfl⟩ := nd_of (by omega) g2
      iterate 1 (refine zv_step (bX7_exchanged 125) rfl rfl trivial ?_)
      refine zv_iff (by decide) ?_
      iterate 3 (refine zv_step (bX7_exchanged 125) rfl rfl trivial ?_)
      refine zv_V2 (bX7_exchanged 125) rfl rfl rfl rfl rfl rfl rfl ⟨rfl, rfl, rfl⟩ ⟨by decide, by decide⟩ ⟨Nat.zero_le _, Nat.zero_le _⟩ (mWholesX f o A J (by omega) hT 40 n m (Nat.zero_le _) hn (Nat.zero_le _) hm (rN_sz (hT n (Nat.zero_le _) hn)).2.1) ?_
      rintro _ _ ⟨rfl, rfl⟩
      iterate 1 (refine zv_step (bX7_exchanged 125) rfl rfl trivial ?_)
      exact zv_iret (bX7_exchanged 125) rfl (Or.inl rfl) (Nat.zero_le _) (Nat.zero_le _) ⟨rfl, _, rfl, Or.inr ⟨n, m, hn, hm, rfl, rfl, rfl⟩⟩
    · skip
      iterate 1 (refine zv_step (bX7_exchanged 125) rfl rfl trivial ?_)
      refine zv_ift (by decide) ?_
      iterate 1 (refine zv_step (bX7_exchanged 125) rfl rfl trivial ?_)
      exact zv_iret (bX7_exchanged 125) rfl (Or.inl rfl) (Nat.zero_le _) (Nat.zero_le _) ⟨rfl, _, rfl, Or.inl ⟨rfl, fun q => g2 (by have := q.2.1; have := q.2.2; omega)⟩⟩
  · skip
    iterate 1 (refine zv_step (bX7_exchanged 125) rfl rfl trivial ?_)
    refine zv_ift (by decide) ?_
    iterate 1 (refine zv_step (bX7_exchanged 125) rfl rfl trivial ?_)
    exact zv_iret (bX7_exchanged 125) rfl (Or.inl rfl) (Nat.zero_le _) (Nat.zero_le _) ⟨rfl, _, rfl, Or.inl ⟨rfl, fun q => g1 (by have := q.1.1; have := q.1.2; omega)⟩⟩
