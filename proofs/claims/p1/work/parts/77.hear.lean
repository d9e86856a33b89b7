def dg (p : Int32) (x : Int32) : Int32 := (p >>> ((Int32.ofInt 5 * x) &&& 31)) &&& (Int8.ofInt 31).toInt32
def bad (p : Int32) (k : Nat) : Prop := dg p (nI k) = (Int8.ofInt 31).toInt32
theorem dg30 (p x : Int32) : dg p x ≤ (Int8.ofInt 30).toInt32 ↔ ¬ dg p x = (Int8.ofInt 31).toInt32 := by
  obtain ⟨j, hj, hx⟩ := pk_andE (p >>> ((Int32.ofInt 5 * x) &&& 31)) (m := (Int8.ofInt 31).toInt32) 5 (by decide +kernel)
  have key : ∀ j, j < 2 ^ 5 → (nI j ≤ (Int8.ofInt 30).toInt32 ↔ ¬ nI j = (Int8.ofInt 31).toInt32) := by decide +kernel
  unfold dg
  rw [hx]
  exact key j hj
def R_hear (p1 p2 a : Int32) : Prop := (¬ (1 ≤ p1.toInt ∧ p1.toInt ≤ 5) ∧ a = -1) ∨ (∃ m, 1 ≤ m ∧ m ≤ 5 ∧ p1 = nI m ∧ (∃ k, k < m ∧ bad p2 k) ∧ a = -1) ∨ (∃ m, 1 ≤ m ∧ m ≤ 5 ∧ p1 = nI m ∧ (∀ k, k < m → ¬ bad p2 k) ∧ a = nI m)
theorem F_hear {p1 p2 a b : Int32} (h1 : R_hear p1 p2 a) (h2 : R_hear p1 p2 b) : a = b := by
  have key : ∀ m, 1 ≤ m → m ≤ 5 → 1 ≤ (nI m).toInt ∧ (nI m).toInt ≤ 5 := fun m q1 q2 => by rw [nI_toInt (by omega)]; omega
  have inj : ∀ m m', m ≤ 5 → m' ≤ 5 → nI m = nI m' → m = m' := fun m m' q1 q2 q => (nI_eq (by omega) (by omega)).mp q
  rcases h1 with ⟨c1, rfl⟩ | ⟨m1, l1, u1, rfl, ⟨k1, q1, b1⟩, rfl⟩ | ⟨m1, l1, u1, rfl, g1, rfl⟩ <;> rcases h2 with ⟨c2, rfl⟩ | ⟨m2, l2, u2, e2, ⟨k2, q2, b2⟩, rfl⟩ | ⟨m2, l2, u2, e2, g2, rfl⟩
  · rfl
  · rfl
  · exact absurd (e2 ▸ key m2 l2 u2) c1
  · rfl
  · rfl
  · have := inj _ _ u1 u2 e2; subst this; exact absurd b1 (g2 k1 q1)
  · exact absurd (key m1 l1 u1) c2
  · have := inj _ _ u1 u2 e2; subst this; exact absurd b2 (g1 k2 q2)
  · exact e2
theorem nIof5 {x : Int32} (h : 1 ≤ x.toInt ∧ x.toInt ≤ 5) : ∃ m : Nat, 1 ≤ m ∧ m ≤ 5 ∧ x = nI m := by
  obtain ⟨j, hj, e⟩ := vp_in_of (x := x) (n := 6) (vp_in_iff.mpr ⟨by omega, by omega⟩) (by decide)
  have : x.toInt = j := by rw [e]; exact nI_toInt (by omega)
  exact ⟨j, by omega, by omega, e⟩
theorem e20 : (Int8.ofInt 20).toInt32 = nI 20 := by decide +kernel
set_option maxHeartbeats 4000000 in
set_option maxRecDepth 20000 in
theorem hDigit (w : zW) (p x : Int32) : zK 0 zX6_digitOf [.int p, .int x] w (fun r w' => w' = w ∧ r = some (.int (dg p x))) := by
  refine zK_of qX6_digitOf (by decide +kernel) rfl ?_
  iterate 7 (refine zv_step (bX6_digitOf 0) rfl rfl trivial ?_)
  exact zv_iret (bX6_digitOf 0) rfl (Or.inl rfl) (Nat.zero_le _) (Nat.zero_le _) ⟨rfl, rfl⟩
set_option maxHeartbeats 4000000 in
set_option maxRecDepth 20000 in
theorem hAdd {w : zW} {q : Nat} (hq : q < 20) (v : Int32) {len : Int32} (hlen : len = nI q) {a3 a4 a5 a6 : Value} {g : Nat → Int32} (ho : w[31]? = some (zO 0 [.ref 32, .int len, a3, a4, a5, a6])) (hr : w[32]? = some (zI 0 20 g)) : zK 0 zX0_add [.ref 31, .int v] w (fun r w' => r = none ∧ w' = (w.set 32 (zI 0 20 (upd g len.toNatClampNeg v))).set 31 (zO 0 [.ref 32, .int (len + Int32.ofInt 1), a3, a4, a5, a6])) := by
  refine zK_of qX0_add (by decide +kernel) rfl ?_
  iterate 1 (refine zv_step (bX0_add 0) rfl rfl trivial ?_)
  refine zv_getf (bX0_add 0) rfl ho rfl ?_
  iterate 2 (refine zv_step (bX0_add 0) rfl rfl trivial ?_)
  refine zv_iff (by rw [hlen, e20]; exact nI_ge hq (by decide)) ?_
  iterate 1 (refine zv_step (bX0_add 0) rfl rfl trivial ?_)
  refine zv_getf (bX0_add 0) rfl ho rfl ?_
  iterate 1 (refine zv_step (bX0_add 0) rfl rfl trivial ?_)
  refine zv_getf (bX0_add 0) rfl ho rfl ?_
  iterate 1 (refine zv_step (bX0_add 0) rfl rfl trivial ?_)
  refine zv_iast (bX0_add 0) rfl hr (by rw [hlen]; exact vp_in_nI hq (by decide)) ?_
  iterate 2 (refine zv_step (bX0_add 0) rfl rfl trivial ?_)
  refine zv_getf (bX0_add 0) rfl ((List.getElem?_set_ne (by decide)).trans ho) rfl ?_
  iterate 2 (refine zv_step (bX0_add 0) rfl rfl trivial ?_)
  refine zv_putf (bX0_add 0) rfl ((List.getElem?_set_ne (by decide)).trans ho) rfl rfl ?_
  exact zv_ret (bX0_add 0) rfl rfl (Nat.zero_le _) (Nat.zero_le _) ⟨rfl, rfl⟩
set_option maxHeartbeats 4000000 in
set_option maxRecDepth 20000 in
theorem hearL2 (m : Nat) (h1 : 1 ≤ m) (h5 : m ≤ 5) {p1 p2 : Int32} (e1 : p1 = nI m) (hg : ∀ k, k < m → ¬ bad p2 k) : ∀ (c q : Nat), q + c + 1 = m → ∀ {x len : Int32} {w : zW} {a3 a4 a5 a6 : Value} {g : Nat → Int32} {n0 : Nat}, x = nI c → len = nI q → (∀ j, j ≠ 31 → j ≠ 32 → w[j]? = w0[j]?) → w[31]? = some (zO 0 [.ref 32, .int len, a3, a4, a5, a6]) → w[32]? = some (zI 0 20 g) → zV (zMo 3 zX6_hear) false n0 0 0 58 [(3, .int x), (0, .ref 0), (1, .int p1), (2, .int p2)] [] w (fun r w' => (∃ a, r = some (.int a) ∧ R_hear p1 p2 a) ∧ ∀ j, 76 ≤ j → w'[j]? = w0[j]?) := by
  intro c
  induction c with
  | zero =>
    intro q hq x len w a3 a4 a5 a6 g n0 hx hl hw ho hr
    iterate 2 (refine zv_step (bX6_hear 3) rfl rfl trivial ?_)
    refine zv_iff (by rw [hx]; exact nI_pos (by omega)) ?_
    iterate 1 (refine zv_step (bX6_hear 3) rfl rfl trivial ?_)
    refine zv_getf (bX6_hear 3) rfl ((hw 0 (by decide) (by decide)).trans rfl) rfl ?_
    iterate 2 (refine zv_step (bX6_hear 3) rfl rfl trivial ?_)
    refine zv_S2 (bX6_hear 3) rfl rfl rfl rfl ⟨rfl, rfl, rfl⟩ ⟨by decide, by decide⟩ ⟨Nat.zero_le _, Nat.zero_le _⟩ (hDigit _ _ _) ?_
    rintro _ w9 ⟨hw9, rfl⟩
    subst hw9
    refine zv_V1 (bX6_hear 3) rfl rfl rfl ho rfl rfl rfl ⟨rfl, rfl, rfl⟩ ⟨by decide, by decide⟩ ⟨Nat.zero_le _, Nat.zero_le _⟩ (hAdd (by omega) _ hl ho hr) ?_
    rintro _ _ ⟨rfl, rfl⟩
    iterate 2 (refine zv_step (bX6_hear 3) rfl rfl trivial ?_)
    iterate 2 (refine zv_step (bX6_hear 3) rfl rfl trivial ?_)
    refine zv_ift (by rw [hx]; decide) ?_
    iterate 1 (refine zv_step (bX6_hear 3) rfl rfl trivial ?_)
    refine zv_getf (bX6_hear 3) rfl ((List.getElem?_set_ne (by decide)).trans ((List.getElem?_set_ne (by decide)).trans ((hw 0 (by decide) (by decide)).trans rfl))) rfl ?_
    refine zv_getf (bX6_hear 3) rfl (zset_self ((List.getElem?_set_ne (by decide)).trans ho)) rfl ?_
    exact zv_iret (bX6_hear 3) rfl (Or.inl rfl) (Nat.zero_le _) (Nat.zero_le _) ⟨⟨_, rfl, Or.inr (Or.inr ⟨m, h1, h5, e1, hg, by rw [hl]; exact (nI_1 q).trans (by rw [show q + 1 = m by omega])⟩)⟩, fun j hj => (List.getElem?_set_ne (by omega)).trans ((List.getElem?_set_ne (by omega)).trans (hw j (by omega) (by omega)))⟩
  | succ c ih =>
    intro q hq x len w a3 a4 a5 a6 g n0 hx hl hw ho hr
    iterate 2 (refine zv_step (bX6_hear 3) rfl rfl trivial ?_)
    refine zv_iff (by rw [hx]; exact nI_pos (by omega)) ?_
    iterate 1 (refine zv_step (bX6_hear 3) rfl rfl trivial ?_)
    refine zv_getf (bX6_hear 3) rfl ((hw 0 (by decide) (by decide)).trans rfl) rfl ?_
    iterate 2 (refine zv_step (bX6_hear 3) rfl rfl trivial ?_)
    refine zv_S2 (bX6_hear 3) rfl rfl rfl rfl ⟨rfl, rfl, rfl⟩ ⟨by decide, by decide⟩ ⟨Nat.zero_le _, Nat.zero_le _⟩ (hDigit _ _ _) ?_
    rintro _ w9 ⟨hw9, rfl⟩
    subst hw9
    refine zv_V1 (bX6_hear 3) rfl rfl rfl ho rfl rfl rfl ⟨rfl, rfl, rfl⟩ ⟨by decide, by decide⟩ ⟨Nat.zero_le _, Nat.zero_le _⟩ (hAdd (by omega) _ hl ho hr) ?_
    rintro _ _ ⟨rfl, rfl⟩
    iterate 2 (refine zv_step (bX6_hear 3) rfl rfl trivial ?_)
    exact ih (q + 1) (by omega) (by rw [hx]; exact pk_m1 c) (by rw [hl]; exact nI_1 q) (fun j j1 j2 => (List.getElem?_set_ne (Ne.symm j1)).trans ((List.getElem?_set_ne (Ne.symm j2)).trans (hw j j1 j2))) (zset_self ((List.getElem?_set_ne (by decide)).trans ho)) ((List.getElem?_set_ne (by decide)).trans (zset_self hr))
set_option maxHeartbeats 4000000 in
set_option maxRecDepth 20000 in
theorem hearL1 (m : Nat) (h1 : 1 ≤ m) (h5 : m ≤ 5) {p1 p2 : Int32} (e1 : p1 = nI m) : ∀ (c i : Nat), i + c = m → (∀ k, k < i → ¬ bad p2 k) → ∀ {x : Int32} {n0 : Nat}, x = nI i → zV (zMo 3 zX6_hear) false n0 0 0 14 [(3, .int x), (0, .ref 0), (1, .int p1), (2, .int p2)] [] w0 (fun r w' => (∃ a, r = some (.int a) ∧ R_hear p1 p2 a) ∧ ∀ j, 76 ≤ j → w'[j]? = w0[j]?) := by
  intro c
  induction c with
  | zero =>
    intro i hi hg x n0 hx
    iterate 3 (refine zv_step (bX6_hear 3) rfl rfl trivial ?_)
    refine zv_ift (by rw [hx, e1]; exact nI_le (by omega) (by omega)) ?_
    iterate 7 (refine zv_step (bX6_hear 3) rfl rfl trivial ?_)
    refine zv_ift (by rw [e1]; exact (show ∀ m, m ≤ 5 → (0 : Int32) + nI m ≤ (Int8.ofInt 20).toInt32 by decide +kernel) m h5) ?_
    iterate 4 (refine zv_step (bX6_hear 3) rfl rfl trivial ?_)
    refine hearL2 m h1 h5 e1 (fun k hk => hg k (by omega)) (m - 1) 0 (by omega) (by rw [e1]; exact (show ∀ m, 1 ≤ m → m ≤ 5 → nI m - Int32.ofInt 1 = nI (m - 1) by intro m a b; match m, a, b with | 1, _, _ => decide | 2, _, _ => decide | 3, _, _ => decide | 4, _, _ => decide | 5, _, _ => decide) m h1 h5) rfl (fun _ _ _ => rfl) rfl rfl
  | succ c ih =>
    intro i hi hg x n0 hx
    iterate 3 (refine zv_step (bX6_hear 3) rfl rfl trivial ?_)
    refine zv_iff (by rw [hx, e1]; exact nI_ge (by omega) (by omega)) ?_
    iterate 2 (refine zv_step (bX6_hear 3) rfl rfl trivial ?_)
    refine zv_S2 (bX6_hear 3) rfl rfl rfl rfl ⟨rfl, rfl, rfl⟩ ⟨by decide, by decide⟩ ⟨Nat.zero_le _, Nat.zero_le _⟩ (hDigit _ _ _) ?_
    rintro _ w9 ⟨hw9, rfl⟩
    subst hw9
    iterate 2 (refine zv_step (bX6_hear 3) rfl rfl trivial ?_)
    refine zv_ifb (fun hc => ?_) (fun hc => ?_)
    · rw [dg30] at hc
      iterate 2 (refine zv_step (bX6_hear 3) rfl rfl trivial ?_)
      refine ih (i + 1) (by omega) (fun k hk => ?_) (by rw [hx]; exact nI_1 i)
      by_cases hk2 : k < i
      · exact hg k hk2
      · have : k = i := by omega
        subst this
        unfold bad
        rw [← hx]
        exact hc
    · rw [dg30] at hc
      iterate 1 (refine zv_step (bX6_hear 3) rfl rfl trivial ?_)
      exact zv_iret (bX6_hear 3) rfl (Or.inl rfl) (Nat.zero_le _) (Nat.zero_le _) ⟨⟨_, rfl, Or.inr (Or.inl ⟨m, h1, h5, e1, ⟨i, by omega, by unfold bad; rw [← hx]; exact Decidable.not_not.mp hc⟩, rfl⟩)⟩, fun j hj => rfl⟩
set_option maxHeartbeats 4000000 in
set_option maxRecDepth 20000 in
theorem cX_hear (p1 p2 : Int32) : zK 3 zX6_hear [.ref 0, .int p1, .int p2] w0 (fun r w' => (∃ a, r = some (.int a) ∧ R_hear p1 p2 a) ∧ ∀ j, 76 ≤ j → w'[j]? = w0[j]?) := by
  refine zK_of qX6_hear (by decide +kernel) rfl ?_
  iterate 3 (refine zv_step (bX6_hear 3) rfl rfl trivial ?_)
  refine zv_ifb (fun hc => ?_) (fun hc => ?_)
  · rw [Int32.lt_iff_toInt_lt, i32c 1 (by decide)] at hc
    iterate 1 (refine zv_step (bX6_hear 3) rfl rfl trivial ?_)
    exact zv_iret (bX6_hear 3) rfl (Or.inl rfl) (Nat.zero_le _) (Nat.zero_le _) ⟨⟨_, rfl, Or.inl ⟨by omega, rfl⟩⟩, fun j hj => rfl⟩
  · rw [Int32.lt_iff_toInt_lt, i32c 1 (by decide)] at hc
    iterate 3 (refine zv_step (bX6_hear 3) rfl rfl trivial ?_)
    refine zv_ifb (fun hd => ?_) (fun hd => ?_)
    · rw [Int32.le_iff_toInt_le, i32c 5 (by decide)] at hd
      obtain ⟨m, h1, h5, e1⟩ := nIof5 (x := p1) (by omega)
      iterate 2 (refine zv_step (bX6_hear 3) rfl rfl trivial ?_)
      exact hearL1 m h1 h5 e1 m 0 (by omega) (fun k hk => absurd hk (by omega)) rfl
    · rw [Int32.le_iff_toInt_le, i32c 5 (by decide)] at hd
      iterate 1 (refine zv_step (bX6_hear 3) rfl rfl trivial ?_)
      exact zv_iret (bX6_hear 3) rfl (Or.inl rfl) (Nat.zero_le _) (Nat.zero_le _) ⟨⟨_, rfl, Or.inl ⟨by omega, rfl⟩⟩, fun j hj => rfl⟩
