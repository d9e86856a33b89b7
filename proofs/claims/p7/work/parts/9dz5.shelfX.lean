/-- the KINDS of a tree, a NODE ahead of its PARTS -/
noncomputable def klP (P : Nat → Nat → Int32) (u : Int32) : Nat → Int32 → List Int32
  | 0, _ => []
  | f + 1, n => if 0 ≤ n.toInt ∧ n.toInt < u.toInt then P 2 (nC n) :: (klP P u f (P 4 (nC n)) ++ klP P u f (P 5 (nC n))) else []
theorem klP_y {P : Nat → Nat → Int32} {u n : Int32} (f : Nat) (h : 0 ≤ n.toInt ∧ n.toInt < u.toInt) : klP P u (f + 1) n = P 2 (nC n) :: (klP P u f (P 4 (nC n)) ++ klP P u f (P 5 (nC n))) := if_pos h
theorem klP_n {P : Nat → Nat → Int32} {u n : Int32} (f : Nat) (h : ¬ (0 ≤ n.toInt ∧ n.toInt < u.toInt)) : klP P u f n = [] := by
  cases f with
  | zero => rfl
  | succ f => exact if_neg h
theorem updA_2 (A : Nat → Nat → Int32) (k : Nat) (g h : Nat → Int32) : updA (updA A k g) k h = updA A k h := by
  funext j
  unfold updA
  split <;> rfl
theorem appA_c (g : Nat → Int32) (q : Nat) (v : Int32) (L : List Int32) : appA g q (v :: L) = appA (upd g q v) (q + 1) L := rfl
/-- one shelf of the class: a NODE, a ROW -/
def cNd (s : Nat) (O : Nat → Int32) (k v z : Int32) : Prop := O (20 + 10 * s) = nI 1 ∧ O (22 + 10 * s) = k ∧ O (21 + 10 * s) = v ∧ O (23 + 10 * s) = z
def kpG (u : Nat) (y x n : Int32) : Prop := (0 ≤ y.toInt ∧ y.toInt ≤ 7) ∧ (x = nI 0 ∨ x = nI 3 ∨ ((x = nI 1 ∨ x = nI 4) ∧ isN u n))
/-- what keep leaves of the class -/
def kpC (O : Nat → Int32) (P : Nat → Nat → Int32) (u l : Nat) (y x n : Int32) (O' : Nat → Int32) (P' : Nat → Nat → Int32) (R : Int32) : Prop :=
  (R = Int32.ofInt (-1) ∧ ¬ kpG u y x n ∧ O' = O ∧ P' = P) ∨ ∃ s, s < 8 ∧ y = nI s ∧ R = Int32.ofInt 0 ∧ shW O P s O' P' ∧ ((x = nI 0 ∧ O' (20 + 10 * s) = nI 0) ∨ (∃ j, j < u ∧ n = nI j ∧ x = nI 1 ∧ cNd s O' (P 2 j) (P 3 j) (P 6 j)) ∨ (x = nI 3 ∧ O' (20 + 10 * s) = nI 3 ∧ O' (24 + 10 * s) = nI l ∧ ∀ i, i < l → P' (60 + 2 * s) i = P 32 i) ∨ (∃ j, j < u ∧ n = nI j ∧ x = nI 4 ∧ O' (20 + 10 * s) = nI 4 ∧ O' (24 + 10 * s) = P 6 j ∧ hasW (P' (60 + 2 * s)) (klP P (O 1) 40 (nI j))))
set_option maxHeartbeats 1000000 in
set_option maxRecDepth 20000 in
theorem hNouLX (O : Nat → Int32) (P0 : Nat → Nat → Int32) (Y : Nat → Nat → Int64) (g : Nat → zC) {s : Nat} (hs : s < 8) (a b : Int32) {n0 : Nat} : ∀ (c i : Nat), i + c = 60 → ∀ {P : Nat → Nat → Int32}, (∀ j, j ≠ 60 + 2 * s → P j = P0 j) → (∀ j, j < i → P (60 + 2 * s) j = Int32.ofInt 0) → ∀ {x3 : Int32}, x3 = nI i → zV (zMo 0 zX3_holdNoughts) false n0 0 0 12 [(3, .int x3), (0, .ref (59 + 2 * s)), (1, .int a), (2, .int b)] [] (wX O P Y g) (fun r w' => r = none ∧ ∃ P' : Nat → Nat → Int32, w' = wX O P' Y g ∧ (∀ j, j ≠ 60 + 2 * s → P' j = P0 j) ∧ ∀ j, j < 60 → P' (60 + 2 * s) j = Int32.ofInt 0) := by
  intro c
  induction c with
  | zero =>
    intro i hc P hP hD x3 e3
    subst e3
    iterate 3 (refine zv_step (bX3_holdNoughts 0) rfl rfl trivial ?_)
    refine zv_ift (show c8 60 ≤ nI i by rw [show c8 60 = nI 60 from rfl]; exact nI_le (by omega) (by omega)) ?_
    exact zv_ret (bX3_holdNoughts 0) rfl rfl (Nat.zero_le _) (Nat.zero_le _) ⟨rfl, P, rfl, hP, fun j hj => hD j (by omega)⟩
  | succ c ih =>
    intro i hc P hP hD x3 e3
    subst e3
    iterate 3 (refine zv_step (bX3_holdNoughts 0) rfl rfl trivial ?_)
    refine zv_iff (show ¬ c8 60 ≤ nI i by rw [show c8 60 = nI 60 from rfl]; exact nI_ge (by omega) (by omega)) ?_
    iterate 1 (refine zv_step (bX3_holdNoughts 0) rfl rfl trivial ?_)
    refine zv_getf (bX3_holdNoughts 0) rfl (wS O P Y g hs) rfl ?_
    iterate 2 (refine zv_step (bX3_holdNoughts 0) rfl rfl trivial ?_)
    refine zv_iast (bX3_holdNoughts 0) rfl (wSr O P Y g hs) (show vp_in (nI i) 60 from vp_in_nI (by omega) (by decide)) ?_
    refine zv_world (wSrset O P Y g _ hs) ?_
    iterate 2 (refine zv_step (bX3_holdNoughts 0) rfl rfl trivial ?_)
    exact ih (i + 1) (by omega) (fun j hj => (updA_ne _ _ hj).trans (hP j hj)) (fun j hj => by
      rw [updA_self]
      by_cases w : j = i
      · subst w
        rw [nI_clamp (by omega), upd_self]
      · rw [nI_clamp (by omega), upd_ne _ _ w]
        exact hD j (by omega)) (nI_1 i)
set_option maxHeartbeats 1000000 in
set_option maxRecDepth 20000 in
theorem hNoughtsX (O : Nat → Int32) (P : Nat → Nat → Int32) (Y : Nat → Nat → Int64) (g : Nat → zC) {s : Nat} (hs : s < 8) (a b : Int32) : zK 0 zX3_holdNoughts [.ref (59 + 2 * s), .int a, .int b] (wX O P Y g) (fun r w' => r = none ∧ ∃ P' : Nat → Nat → Int32, w' = wX (upd (upd O (20 + 10 * s) a) (24 + 10 * s) b) P' Y g ∧ (∀ j, j ≠ 60 + 2 * s → P' j = P j) ∧ ∀ j, j < 60 → P' (60 + 2 * s) j = Int32.ofInt 0) := by
  refine zK_of qX3_holdNoughts (by decide +kernel) rfl ?_
  iterate 2 (refine zv_step (bX3_holdNoughts 0) rfl rfl trivial ?_)
  refine zv_putf (bX3_holdNoughts 0) rfl (wS O P Y g hs) rfl rfl ?_
  refine zv_world (wSset0 O P Y g a hs) ?_
  iterate 2 (refine zv_step (bX3_holdNoughts 0) rfl rfl trivial ?_)
  refine zv_putf (bX3_holdNoughts 0) rfl (wS (upd O (20 + 10 * s) a) P Y g hs) rfl rfl ?_
  refine zv_world (wSset5 (upd O (20 + 10 * s) a) P Y g b hs) ?_
  iterate 2 (refine zv_step (bX3_holdNoughts 0) rfl rfl trivial ?_)
  exact hNouLX (upd (upd O (20 + 10 * s) a) (24 + 10 * s) b) P Y g hs a b 60 0 rfl (fun _ _ => rfl) (fun j hj => absurd hj (Nat.not_lt_zero j)) rfl
set_option maxHeartbeats 1000000 in
set_option maxRecDepth 20000 in
theorem hRowLX (O : Nat → Int32) (P0 : Nat → Nat → Int32) (Y : Nat → Nat → Int64) (g : Nat → zC) {s : Nat} (hs : s < 8) (a : Int32) {n : Nat} (hn : n ≤ 20) {n0 : Nat} : ∀ (c i : Nat), i + c = n → ∀ {P : Nat → Nat → Int32}, (∀ j, j ≠ 60 + 2 * s → P j = P0 j) → (∀ j, j < i → P (60 + 2 * s) j = P0 32 j) → ∀ {x4 : Int32}, x4 = nI i → zV (zMo 0 zX3_holdRow) false n0 0 0 13 [(4, .int x4), (0, .ref (59 + 2 * s)), (1, .int a), (2, .ref 32), (3, .int (nI n))] [] (wX O P Y g) (fun r w' => r = none ∧ ∃ P' : Nat → Nat → Int32, w' = wX O P' Y g ∧ (∀ j, j ≠ 60 + 2 * s → P' j = P0 j) ∧ ∀ j, j < n → P' (60 + 2 * s) j = P0 32 j) := by
  intro c
  induction c with
  | zero =>
    intro i hc P hP hD x4 e4
    subst e4
    iterate 3 (refine zv_step (bX3_holdRow 0) rfl rfl trivial ?_)
    refine zv_ift (nI_le (by omega) (by omega)) ?_
    exact zv_ret (bX3_holdRow 0) rfl rfl (Nat.zero_le _) (Nat.zero_le _) ⟨rfl, P, rfl, hP, fun j hj => hD j (by omega)⟩
  | succ c ih =>
    intro i hc P hP hD x4 e4
    subst e4
    iterate 3 (refine zv_step (bX3_holdRow 0) rfl rfl trivial ?_)
    refine zv_iff (nI_ge (by omega) (by omega)) ?_
    iterate 3 (refine zv_step (bX3_holdRow 0) rfl rfl trivial ?_)
    refine zv_iff (show ¬ c8 60 ≤ nI i by rw [show c8 60 = nI 60 from rfl]; exact nI_ge (by omega) (by omega)) ?_
    iterate 4 (refine zv_step (bX3_holdRow 0) rfl rfl trivial ?_)
    refine zv_iff (show ¬ Int32.ofNat 20 ≤ nI i by rw [show Int32.ofNat 20 = nI 20 from rfl]; exact nI_ge (by omega) (by omega)) ?_
    iterate 1 (refine zv_step (bX3_holdRow 0) rfl rfl trivial ?_)
    refine zv_getf (bX3_holdRow 0) rfl (wS O P Y g hs) rfl ?_
    iterate 3 (refine zv_step (bX3_holdRow 0) rfl rfl trivial ?_)
    refine zv_iale (bX3_holdRow 0) rfl rfl (show vp_in (nI i) 20 from vp_in_nI (by omega) (by decide)) (show P 32 (nI i).toNatClampNeg = P0 32 i by rw [nI_clamp (by omega), hP 32 (by omega)]) ?_
    refine zv_iast (bX3_holdRow 0) rfl (wSr O P Y g hs) (show vp_in (nI i) 60 from vp_in_nI (by omega) (by decide)) ?_
    refine zv_world (wSrset O P Y g _ hs) ?_
    iterate 2 (refine zv_step (bX3_holdRow 0) rfl rfl trivial ?_)
    exact ih (i + 1) (by omega) (fun j hj => (updA_ne _ _ hj).trans (hP j hj)) (fun j hj => by
      rw [updA_self]
      by_cases w : j = i
      · subst w
        rw [nI_clamp (by omega), upd_self]
      · rw [nI_clamp (by omega), upd_ne _ _ w]
        exact hD j (by omega)) (nI_1 i)
set_option maxHeartbeats 1000000 in
set_option maxRecDepth 20000 in
theorem hHoldRowX (O : Nat → Int32) (P : Nat → Nat → Int32) (Y : Nat → Nat → Int64) (g : Nat → zC) {s : Nat} (hs : s < 8) (a : Int32) {n : Nat} (hn : n ≤ 20) : zK 0 zX3_holdRow [.ref (59 + 2 * s), .int a, .ref 32, .int (nI n)] (wX O P Y g) (fun r w' => r = none ∧ ∃ P' : Nat → Nat → Int32, w' = wX (upd (upd O (20 + 10 * s) a) (24 + 10 * s) (nI n)) P' Y g ∧ (∀ j, j ≠ 60 + 2 * s → P' j = P j) ∧ ∀ j, j < n → P' (60 + 2 * s) j = P 32 j) := by
  refine zK_of qX3_holdRow (by decide +kernel) rfl ?_
  iterate 2 (refine zv_step (bX3_holdRow 0) rfl rfl trivial ?_)
  refine zv_putf (bX3_holdRow 0) rfl (wS O P Y g hs) rfl rfl ?_
  refine zv_world (wSset0 O P Y g a hs) ?_
  iterate 2 (refine zv_step (bX3_holdRow 0) rfl rfl trivial ?_)
  refine zv_putf (bX3_holdRow 0) rfl (wS (upd O (20 + 10 * s) a) P Y g hs) rfl rfl ?_
  refine zv_world (wSset5 (upd O (20 + 10 * s) a) P Y g (nI n) hs) ?_
  iterate 2 (refine zv_step (bX3_holdRow 0) rfl rfl trivial ?_)
  exact hRowLX (upd (upd O (20 + 10 * s) a) (24 + 10 * s) (nI n)) P Y g hs a hn n 0 (by omega) (fun _ _ => rfl) (fun j hj => absurd hj (Nat.not_lt_zero j)) rfl
set_option maxHeartbeats 1000000 in
set_option maxRecDepth 20000 in
theorem pLayFX (O : Nat → Int32) (P : Nat → Nat → Int32) (Y : Nat → Nat → Int64) (g : Nat → zC) (hu : (O 1).toInt ≤ 120) {s : Nat} (hs : s < 8) : ∀ (f : Nat), f < 100 → ∀ (ρ : Nat → Int32) (n : Int32) (q : Nat) (y z : Int32), y = nI q → z = nI f → q + (klP P (O 1) f n).length ≤ 60 → zK (f + 1) zX2_layKindsFrom [.ref 1, .int n, .ref (60 + 2 * s), .int y, .int z] (wX O (updA P (60 + 2 * s) ρ) Y g) (fun r w' => r = some (.int (nI (q + (klP P (O 1) f n).length))) ∧ w' = wX O (updA P (60 + 2 * s) (appA ρ q (klP P (O 1) f n))) Y g) := by
  intro f
  induction f with
  | zero =>
    intro hf ρ n q y z ey ez hq
    subst ey ez
    refine zK_of qX2_layKindsFrom (by decide +kernel) rfl ?_
    iterate 2 (refine zv_step (bX2_layKindsFrom (0 + 1)) rfl rfl trivial ?_)
    refine zv_V1 (bX2_layKindsFrom (0 + 1)) rfl rfl rfl rfl rfl rfl rfl ⟨rfl, rfl, rfl⟩ ⟨by show 0 + 1 ≤ 0 + 1; omega, by show 8 + (2 + 11) + 64 * (0) ≤ 64 * (0 + 1); omega⟩ ⟨Nat.zero_le _, Nat.zero_le _⟩ (pHas1 O (updA P (60 + 2 * s) ρ) Y g _) ?_
    rintro _ _ ⟨rfl, ⟨hh, rfl⟩ | ⟨hh, rfl⟩⟩
    · skip
      iterate 1 (refine zv_step (bX2_layKindsFrom (0 + 1)) rfl rfl trivial ?_)
      refine zv_iff (by decide) ?_
      iterate 2 (refine zv_step (bX2_layKindsFrom (0 + 1)) rfl rfl trivial ?_)
      refine zv_alen (bX2_layKindsFrom (0 + 1)) rfl (wSr O (updA P (60 + 2 * s) ρ) Y g hs) ?_
      iterate 1 (refine zv_step (bX2_layKindsFrom (0 + 1)) rfl rfl trivial ?_)
      refine zv_ifb (fun h11 => ?_) (fun h11 => ?_)
      · iterate 1 (refine zv_step (bX2_layKindsFrom (0 + 1)) rfl rfl trivial ?_)
        exact zv_iret (bX2_layKindsFrom (0 + 1)) rfl (Or.inl rfl) (Nat.zero_le _) (Nat.zero_le _) ⟨rfl, rfl⟩
      · iterate 2 (refine zv_step (bX2_layKindsFrom (0 + 1)) rfl rfl trivial ?_)
        refine zv_iff (by decide) ?_
        iterate 1 (refine zv_step (bX2_layKindsFrom (0 + 1)) rfl rfl trivial ?_)
        exact zv_iret (bX2_layKindsFrom (0 + 1)) rfl (Or.inl rfl) (Nat.zero_le _) (Nat.zero_le _) ⟨rfl, rfl⟩
    · skip
      iterate 1 (refine zv_step (bX2_layKindsFrom (0 + 1)) rfl rfl trivial ?_)
      refine zv_ift (by decide) ?_
      iterate 1 (refine zv_step (bX2_layKindsFrom (0 + 1)) rfl rfl trivial ?_)
      exact zv_iret (bX2_layKindsFrom (0 + 1)) rfl (Or.inl rfl) (Nat.zero_le _) (Nat.zero_le _) ⟨by rw [klP_n _ hh]; rfl, by rw [klP_n _ hh]; rfl⟩
  | succ f ih0 =>
    intro hf ρ n q y z ey ez hq
    subst ey ez
    have ih : ∀ (ρ : Nat → Int32) (n : Int32) (q : Nat) (y z : Int32), y = nI q → z = nI f → q + (klP P (O 1) f n).length ≤ 60 → zK (f + 1) zX2_layKindsFrom [.ref 1, .int n, .ref (60 + 2 * s), .int y, .int z] (wX O (updA P (60 + 2 * s) ρ) Y g) (fun r w' => r = some (.int (nI (q + (klP P (O 1) f n).length))) ∧ w' = wX O (updA P (60 + 2 * s) (appA ρ q (klP P (O 1) f n))) Y g) := ih0 (by omega)
    refine zK_of qX2_layKindsFrom (by decide +kernel) rfl ?_
    iterate 2 (refine zv_step (bX2_layKindsFrom (f + 1 + 1)) rfl rfl trivial ?_)
    refine zv_V1 (bX2_layKindsFrom (f + 1 + 1)) rfl rfl rfl rfl rfl rfl rfl ⟨rfl, rfl, rfl⟩ ⟨by show 0 + 1 ≤ f + 1 + 1; omega, by show 8 + (2 + 11) + 64 * (0) ≤ 64 * (f + 1 + 1); omega⟩ ⟨Nat.zero_le _, Nat.zero_le _⟩ (pHas1 O (updA P (60 + 2 * s) ρ) Y g _) ?_
    rintro _ _ ⟨rfl, ⟨hh, rfl⟩ | ⟨hh, rfl⟩⟩
    · skip
      iterate 1 (refine zv_step (bX2_layKindsFrom (f + 1 + 1)) rfl rfl trivial ?_)
      refine zv_iff (by decide) ?_
      have ek := klP_y (P := P) f hh
      have hv : vp_in n 120 := vp_in_iff.mpr ⟨hh.1, Int.lt_of_lt_of_le hh.2 hu⟩
      rw [ek] at hq ⊢
      have hl9 : q + (1 + ((klP P (O 1) f (P 4 (nC n))).length + (klP P (O 1) f (P 5 (nC n))).length)) ≤ 60 := by
        simp only [List.length_cons, List.length_append] at hq
        omega
      iterate 2 (refine zv_step (bX2_layKindsFrom (f + 1 + 1)) rfl rfl trivial ?_)
      refine zv_alen (bX2_layKindsFrom (f + 1 + 1)) rfl (wSr O (updA P (60 + 2 * s) ρ) Y g hs) ?_
      iterate 1 (refine zv_step (bX2_layKindsFrom (f + 1 + 1)) rfl rfl trivial ?_)
      refine zv_iff (show ¬ Int32.ofNat 60 ≤ nI q by rw [show Int32.ofNat 60 = nI 60 from rfl, nI_leI (by omega) (by omega)]; omega) ?_
      iterate 2 (refine zv_step (bX2_layKindsFrom (f + 1 + 1)) rfl rfl trivial ?_)
      refine zv_ift (nI_gt0 (by omega)) ?_
      iterate 5 (refine zv_step (bX2_layKindsFrom (f + 1 + 1)) rfl rfl trivial ?_)
      refine zv_iale (bX2_layKindsFrom (f + 1 + 1)) rfl rfl hv (show (updA P (60 + 2 * s) ρ) 2 n.toNatClampNeg = P 2 (nC n) by rw [updA_ne _ _ (by omega)]; rfl) ?_
      refine zv_iast (bX2_layKindsFrom (f + 1 + 1)) rfl (wSr O (updA P (60 + 2 * s) ρ) Y g hs) (show vp_in (nI q) 60 from vp_in_nI (by omega) (by decide)) ?_
      refine zv_world (show _ = wX O (updA P (60 + 2 * s) (upd ρ q (P 2 (nC n)))) Y g from by rw [wSrset O (updA P (60 + 2 * s) ρ) Y g _ hs, updA_2, updA_self, nI_clamp (by omega)]) ?_
      iterate 4 (refine zv_step (bX2_layKindsFrom (f + 1 + 1)) rfl rfl trivial ?_)
      refine zv_iale (bX2_layKindsFrom (f + 1 + 1)) rfl rfl hv (show (updA P (60 + 2 * s) (upd ρ q (P 2 (nC n)))) 4 n.toNatClampNeg = P 4 (nC n) by rw [updA_ne _ _ (by omega)]; rfl) ?_
      iterate 7 (refine zv_step (bX2_layKindsFrom (f + 1 + 1)) rfl rfl trivial ?_)
      refine zv_V4 (bX2_layKindsFrom (f + 1 + 1)) rfl rfl rfl rfl rfl rfl rfl ⟨rfl, rfl, rfl⟩ ⟨by show f + 1 + 1 ≤ f + 1 + 1; omega, by show 8 + (6 + 11) + 64 * (f + 1) ≤ 64 * (f + 1 + 1); omega⟩ ⟨Nat.zero_le _, Nat.zero_le _⟩ (ih (upd ρ q (P 2 (nC n))) _ (q + 1) _ _ (nI_1 q) (sub_1 (by omega)) (by omega)) ?_
      rintro _ _ ⟨rfl, rfl⟩
      iterate 5 (refine zv_step (bX2_layKindsFrom (f + 1 + 1)) rfl rfl trivial ?_)
      refine zv_iale (bX2_layKindsFrom (f + 1 + 1)) rfl rfl hv (show (updA P (60 + 2 * s) (appA (upd ρ q (P 2 (nC n))) (q + 1) (klP P (O 1) f (P 4 (nC n))))) 5 n.toNatClampNeg = P 5 (nC n) by rw [updA_ne _ _ (by omega)]; rfl) ?_
      iterate 5 (refine zv_step (bX2_layKindsFrom (f + 1 + 1)) rfl rfl trivial ?_)
      refine zv_V4 (bX2_layKindsFrom (f + 1 + 1)) rfl rfl rfl rfl rfl rfl rfl ⟨rfl, rfl, rfl⟩ ⟨by show f + 1 + 1 ≤ f + 1 + 1; omega, by show 8 + (6 + 11) + 64 * (f + 1) ≤ 64 * (f + 1 + 1); omega⟩ ⟨Nat.zero_le _, Nat.zero_le _⟩ (ih (appA (upd ρ q (P 2 (nC n))) (q + 1) (klP P (O 1) f (P 4 (nC n)))) _ (q + 1 + (klP P (O 1) f (P 4 (nC n))).length) _ _ rfl (sub_1 (by omega)) (by omega)) ?_
      rintro _ _ ⟨rfl, rfl⟩
      exact zv_iret (bX2_layKindsFrom (f + 1 + 1)) rfl (Or.inl rfl) (Nat.zero_le _) (Nat.zero_le _) ⟨congrArg (fun v => some (Value.int v)) (show nI (q + 1 + (klP P (O 1) f (P 4 (nC n))).length + (klP P (O 1) f (P 5 (nC n))).length) = nI (q + (P 2 (nC n) :: ((klP P (O 1) f (P 4 (nC n))) ++ (klP P (O 1) f (P 5 (nC n))))).length) by rw [List.length_cons, List.length_append, show q + 1 + (klP P (O 1) f (P 4 (nC n))).length + (klP P (O 1) f (P 5 (nC n))).length = q + ((klP P (O 1) f (P 4 (nC n))).length + (klP P (O 1) f (P 5 (nC n))).length + 1) by omega]), by rw [appA_c, appA_app]⟩
    · skip
      iterate 1 (refine zv_step (bX2_layKindsFrom (f + 1 + 1)) rfl rfl trivial ?_)
      refine zv_ift (by decide) ?_
      iterate 1 (refine zv_step (bX2_layKindsFrom (f + 1 + 1)) rfl rfl trivial ?_)
      exact zv_iret (bX2_layKindsFrom (f + 1 + 1)) rfl (Or.inl rfl) (Nat.zero_le _) (Nat.zero_le _) ⟨by rw [klP_n _ hh]; rfl, by rw [klP_n _ hh]; rfl⟩
set_option maxHeartbeats 1000000 in
set_option maxRecDepth 20000 in
theorem pLayX (O : Nat → Int32) (P : Nat → Nat → Int32) (Y : Nat → Nat → Int64) (g : Nat → zC) (hu : (O 1).toInt ≤ 120) {s : Nat} (hs : s < 8) (ρ : Nat → Int32) (n : Int32) (hq : (klP P (O 1) 40 n).length ≤ 60) : zK 42 zX2_layKinds [.ref 1, .int n, .ref (60 + 2 * s)] (wX O (updA P (60 + 2 * s) ρ) Y g) (fun r w' => r = none ∧ w' = wX O (updA P (60 + 2 * s) (appA ρ 0 (klP P (O 1) 40 n))) Y g) := by
  refine zK_of qX2_layKinds (by decide +kernel) rfl ?_
  iterate 5 (refine zv_step (bX2_layKinds 42) rfl rfl trivial ?_)
  refine zv_V4 (bX2_layKinds 42) rfl rfl rfl rfl rfl rfl rfl ⟨rfl, rfl, rfl⟩ ⟨by decide, by decide⟩ ⟨Nat.zero_le _, Nat.zero_le _⟩ (pLayFX O P Y g hu hs 40 (by decide) ρ _ 0 _ _ rfl rfl (by omega)) ?_
  rintro _ _ ⟨rfl, rfl⟩
  iterate 1 (refine zv_step (bX2_layKinds 42) rfl rfl trivial ?_)
  exact zv_ret (bX2_layKinds 42) rfl rfl (Nat.zero_le _) (Nat.zero_le _) ⟨rfl, rfl⟩
theorem klP_fr {P P' : Nat → Nat → Int32} {u : Int32} (h2 : P' 2 = P 2) (h4 : P' 4 = P 4) (h5 : P' 5 = P 5) : ∀ (f : Nat) (n : Int32), klP P' u f n = klP P u f n
  | 0, _ => rfl
  | f + 1, n => by
    show (if 0 ≤ n.toInt ∧ n.toInt < u.toInt then P' 2 (nC n) :: (klP P' u f (P' 4 (nC n)) ++ klP P' u f (P' 5 (nC n))) else []) = (if 0 ≤ n.toInt ∧ n.toInt < u.toInt then P 2 (nC n) :: (klP P u f (P 4 (nC n)) ++ klP P u f (P 5 (nC n))) else [])
    rw [h2, h4, h5, klP_fr h2 h4 h5 f, klP_fr h2 h4 h5 f]
set_option maxHeartbeats 1000000 in
set_option maxRecDepth 20000 in
theorem cKeepNodeX (O : Nat → Int32) (P : Nat → Nat → Int32) (Y : Nat → Nat → Int64) (g : Nat → zC) {u : Nat} (hu0 : u ≤ 120) (h1 : O 1 = nI u) (hp : pgI u (P 2) (P 4) (P 5) (P 6)) (hkl : ∀ j, j < u → (klP P (O 1) 40 (nI j)).length ≤ 60) {s : Nat} (hs : s < 8) (k n : Int32) : zK 43 zX6_keepNode [.ref 0, .ref (59 + 2 * s), .int k, .int n] (wX O P Y g) (fun r w' => ∃ (O' : Nat → Int32) (P' : Nat → Nat → Int32) (R : Int32), r = some (.int R) ∧ w' = wX O' P' Y g ∧ ((R = Int32.ofInt (-1) ∧ ¬ isN u n ∧ O' = O ∧ P' = P) ∨ (R = Int32.ofInt 0 ∧ shW O P s O' P' ∧ ∃ j, j < u ∧ n = nI j ∧ ((k = nI 1 ∧ cNd s O' (P 2 j) (P 3 j) (P 6 j)) ∨ (¬ k = nI 1 ∧ O' (20 + 10 * s) = nI 4 ∧ O' (24 + 10 * s) = P 6 j ∧ hasW (P' (60 + 2 * s)) (klP P (O 1) 40 (nI j))))))) := by
  refine zK_of qX6_keepNode (by decide +kernel) rfl ?_
  iterate 1 (refine zv_step (bX6_keepNode 43) rfl rfl trivial ?_)
  refine zv_getf (bX6_keepNode 43) rfl (rfl) rfl ?_
  iterate 1 (refine zv_step (bX6_keepNode 43) rfl rfl trivial ?_)
  refine zv_V1 (bX6_keepNode 43) rfl rfl rfl rfl rfl rfl rfl ⟨rfl, rfl, rfl⟩ ⟨by decide, by decide⟩ ⟨Nat.zero_le _, Nat.zero_le _⟩ (pHas1 O P Y g _) ?_
  rintro _ _ ⟨rfl, ⟨hh, rfl⟩ | ⟨hh, rfl⟩⟩
  · have hu : (O 1).toInt ≤ 120 := by rw [h1, nI_toInt (by omega)]; omega
    obtain ⟨j, hj, rfl⟩ := has_j hu0 h1 hh
    have hv : vp_in (nI j) 120 := vp_in_nI (by omega) (by decide)
    obtain ⟨m, hm, em⟩ : ∃ m : Nat, m ≤ 60 ∧ P 6 j = nI m := by
      obtain ⟨-, -, -, z, hz, -, z2, -⟩ := hp j hj
      exact ⟨z, by omega, hz⟩
    iterate 1 (refine zv_step (bX6_keepNode 43) rfl rfl trivial ?_)
    refine zv_ift (by decide) ?_
    iterate 3 (refine zv_step (bX6_keepNode 43) rfl rfl trivial ?_)
    refine zv_ifb (fun h15 => ?_) (fun h15 => ?_)
    · iterate 3 (refine zv_step (bX6_keepNode 43) rfl rfl trivial ?_)
      refine zv_getf (bX6_keepNode 43) rfl (rfl) rfl ?_
      refine zv_getf (bX6_keepNode 43) rfl (rfl) rfl ?_
      iterate 1 (refine zv_step (bX6_keepNode 43) rfl rfl trivial ?_)
      refine zv_iale (bX6_keepNode 43) rfl rfl hv (show P 6 (nI j).toNatClampNeg = P 6 j by rw [nI_clamp (by omega)]) ?_
      refine zv_V2 (bX6_keepNode 43) rfl rfl rfl (wS O P Y g hs) rfl rfl rfl ⟨rfl, rfl, rfl⟩ ⟨by decide, by decide⟩ ⟨Nat.zero_le _, Nat.zero_le _⟩ (hNoughtsX O P Y g hs _ _) ?_
      rintro _ _ ⟨rfl, P1, rfl, hP1, hD1⟩
      refine zv_world (show _ = wX (upd (upd O (20 + 10 * s) (Int32.ofInt 4)) (24 + 10 * s) (P 6 j)) (updA P1 (60 + 2 * s) (P1 (60 + 2 * s))) Y g from by rw [updA_same]) ?_
      have ekl : klP P1 ((upd (upd O (20 + 10 * s) (Int32.ofInt 4)) (24 + 10 * s) (P 6 j)) 1) 40 (nI j) = klP P (O 1) 40 (nI j) := by
        rw [upd_ne _ _ (by omega), upd_ne _ _ (by omega)]
        exact klP_fr (hP1 2 (by omega)) (hP1 4 (by omega)) (hP1 5 (by omega)) 40 _
      iterate 1 (refine zv_step (bX6_keepNode 43) rfl rfl trivial ?_)
      refine zv_getf (bX6_keepNode 43) rfl (rfl) rfl ?_
      iterate 2 (refine zv_step (bX6_keepNode 43) rfl rfl trivial ?_)
      refine zv_getf (bX6_keepNode 43) rfl (wS (upd (upd O (20 + 10 * s) (Int32.ofInt 4)) (24 + 10 * s) (P 6 j)) (updA P1 (60 + 2 * s) (P1 (60 + 2 * s))) Y g hs) rfl ?_
      refine zv_V2 (bX6_keepNode 43) rfl rfl rfl rfl rfl rfl rfl ⟨rfl, rfl, rfl⟩ ⟨by decide, by decide⟩ ⟨Nat.zero_le _, Nat.zero_le _⟩ (pLayX (upd (upd O (20 + 10 * s) (Int32.ofInt 4)) (24 + 10 * s) (P 6 j)) P1 Y g (by rw [upd_ne _ _ (by omega), upd_ne _ _ (by omega)]; exact hu) hs _ _ (by rw [ekl]; exact hkl j hj)) ?_
      rintro _ _ ⟨rfl, rfl⟩
      iterate 1 (refine zv_step (bX6_keepNode 43) rfl rfl trivial ?_)
      exact zv_iret (bX6_keepNode 43) rfl (Or.inl rfl) (Nat.zero_le _) (Nat.zero_le _) ⟨_, _, _, rfl, rfl, Or.inr ⟨rfl, ⟨fun j hj => by rw [upd_ne _ _ (by omega), upd_ne _ _ (by omega)], fun i hi => (updA_ne _ _ hi).trans (hP1 i hi), Or.inr ⟨m, hm, by rw [upd_self]; exact em⟩⟩, j, hj, rfl, Or.inr ⟨h15, by rw [upd_ne _ _ (by omega), upd_self]; rfl, upd_self _ _ _, by rw [updA_self, ekl]; exact has_appA _ _⟩⟩⟩
    · iterate 2 (refine zv_step (bX6_keepNode 43) rfl rfl trivial ?_)
      refine zv_getf (bX6_keepNode 43) rfl (rfl) rfl ?_
      refine zv_getf (bX6_keepNode 43) rfl (rfl) rfl ?_
      iterate 1 (refine zv_step (bX6_keepNode 43) rfl rfl trivial ?_)
      refine zv_iale (bX6_keepNode 43) rfl rfl hv (show P 2 (nI j).toNatClampNeg = P 2 j by rw [nI_clamp (by omega)]) ?_
      iterate 1 (refine zv_step (bX6_keepNode 43) rfl rfl trivial ?_)
      refine zv_getf (bX6_keepNode 43) rfl (rfl) rfl ?_
      refine zv_getf (bX6_keepNode 43) rfl (rfl) rfl ?_
      iterate 1 (refine zv_step (bX6_keepNode 43) rfl rfl trivial ?_)
      refine zv_iale (bX6_keepNode 43) rfl rfl hv (show P 3 (nI j).toNatClampNeg = P 3 j by rw [nI_clamp (by omega)]) ?_
      iterate 1 (refine zv_step (bX6_keepNode 43) rfl rfl trivial ?_)
      refine zv_getf (bX6_keepNode 43) rfl (rfl) rfl ?_
      refine zv_getf (bX6_keepNode 43) rfl (rfl) rfl ?_
      iterate 1 (refine zv_step (bX6_keepNode 43) rfl rfl trivial ?_)
      refine zv_iale (bX6_keepNode 43) rfl rfl hv (show P 6 (nI j).toNatClampNeg = P 6 j by rw [nI_clamp (by omega)]) ?_
      refine zv_V3 (bX6_keepNode 43) rfl rfl rfl (wS O P Y g hs) rfl rfl rfl ⟨rfl, rfl, rfl⟩ ⟨by decide, by decide⟩ ⟨Nat.zero_le _, Nat.zero_le _⟩ (hHoldNode O P Y g hs _ _ _) ?_
      rintro _ _ ⟨rfl, rfl⟩
      iterate 2 (refine zv_step (bX6_keepNode 43) rfl rfl trivial ?_)
      exact zv_iret (bX6_keepNode 43) rfl (Or.inl rfl) (Nat.zero_le _) (Nat.zero_le _) ⟨_, P, _, rfl, rfl, Or.inr ⟨rfl, ⟨fun j hj => by rw [upd_ne _ _ (by omega), upd_ne _ _ (by omega), upd_ne _ _ (by omega), upd_ne _ _ (by omega)], fun _ _ => rfl, Or.inl (by rw [upd_ne _ _ (by omega), upd_ne _ _ (by omega), upd_ne _ _ (by omega), upd_ne _ _ (by omega)])⟩, j, hj, rfl, Or.inl ⟨Decidable.not_not.mp h15, by rw [upd_ne _ _ (by omega), upd_ne _ _ (by omega), upd_ne _ _ (by omega), upd_self]; rfl, by rw [upd_ne _ _ (by omega), upd_ne _ _ (by omega), upd_self], by rw [upd_ne _ _ (by omega), upd_self], upd_self _ _ _⟩⟩⟩
  · skip
    iterate 1 (refine zv_step (bX6_keepNode 43) rfl rfl trivial ?_)
    refine zv_iff (by decide) ?_
    iterate 1 (refine zv_step (bX6_keepNode 43) rfl rfl trivial ?_)
    exact zv_iret (bX6_keepNode 43) rfl (Or.inl rfl) (Nat.zero_le _) (Nat.zero_le _) ⟨O, P, _, rfl, rfl, Or.inl ⟨rfl, fun q => hh (by rw [h1, nI_toInt (by omega)]; exact q), rfl, rfl⟩⟩
set_option maxHeartbeats 1000000 in
set_option maxRecDepth 20000 in
theorem cKeepTX (O : Nat → Int32) (P : Nat → Nat → Int32) (Y : Nat → Nat → Int64) (g : Nat → zC) {u : Nat} (hu0 : u ≤ 120) (h1 : O 1 = nI u) (hp : pgI u (P 2) (P 4) (P 5) (P 6)) (hkl : ∀ j, j < u → (klP P (O 1) 40 (nI j)).length ≤ 60) {l : Nat} (hl : l ≤ 20) (hO : O 9 = nI l) {s : Nat} (hs : s < 8) (x n : Int32) {n0 : Nat} : zV (zMo 44 zX6_keep) false n0 0 0 9 [(0, .ref 0), (1, .int (nI s)), (2, .int x), (3, .int n)] [] (wX O P Y g) (fun r w' => ∃ (O' : Nat → Int32) (P' : Nat → Nat → Int32) (R : Int32), r = some (.int R) ∧ w' = wX O' P' Y g ∧ kpC O P u l (nI s) x n O' P' R) := by
  refine zv_step (bX6_keep 44) rfl rfl trivial ?_
  by_cases hd : x.toInt < 0 ∨ 4 < x.toInt
  · refine zv_step (bX6_keep 44) rfl rfl (by decide) ?_
    rw [if_pos hd]
    iterate 1 (refine zv_step (bX6_keep 44) rfl rfl trivial ?_)
    exact zv_iret (bX6_keep 44) rfl (Or.inl rfl) (Nat.zero_le _) (Nat.zero_le _) ⟨O, P, _, rfl, rfl, Or.inl ⟨rfl, (fun q => by rcases q.2 with e | e | ⟨e | e, _⟩ <;> (rw [e, nI_toInt (by decide)] at hd; omega)), rfl, rfl⟩⟩
  · obtain ⟨c, hc, rfl⟩ : ∃ c : Nat, c < 5 ∧ x = nI c := by
      refine ⟨x.toInt.toNat, by omega, ?_⟩
      rw [← Int32.toInt_inj, nI_toInt (by omega)]
      omega
    match c, hc with
    | 0, _ =>
      refine zv_step (bX6_keep 44) rfl rfl (by decide) ?_
      iterate 1 (refine zv_step (bX6_keep 44) rfl rfl trivial ?_)
      refine zv_getf (bX6_keep 44) rfl (rfl) rfl ?_
      iterate 1 (refine zv_step (bX6_keep 44) rfl rfl trivial ?_)
      refine zv_aald (bX6_keep 44) rfl (Or.inl rfl) rfl (show vp_in (nI s) 8 from vp_in_nI (by omega) (by decide)) (show ([some 59, some 61, some 63, some 65, some 67, some 69, some 71, some 73] : List (Option Nat)).getD (nI s).toNatClampNeg none = some (59 + 2 * s) by rw [nI_clamp (by omega)]; exact dSs hs) ?_
      refine zv_V0 (bX6_keep 44) rfl rfl rfl (wS O P Y g hs) rfl rfl rfl ⟨rfl, rfl, rfl⟩ ⟨by decide, by decide⟩ ⟨Nat.zero_le _, Nat.zero_le _⟩ (hDrop O P Y g hs) ?_
      rintro _ _ ⟨rfl, rfl⟩
      iterate 1 (refine zv_step (bX6_keep 44) rfl rfl trivial ?_)
      exact zv_iret (bX6_keep 44) rfl (Or.inl rfl) (Nat.zero_le _) (Nat.zero_le _) ⟨_, P, _, rfl, rfl, Or.inr ⟨s, hs, rfl, rfl, ⟨fun j hj => by rw [upd_ne _ _ (by omega)], fun _ _ => rfl, Or.inl (by rw [upd_ne _ _ (by omega)])⟩, Or.inl ⟨rfl, upd_self _ _ _⟩⟩⟩
    | 1, _ =>
      refine zv_step (bX6_keep 44) rfl rfl (by decide) ?_
      iterate 2 (refine zv_step (bX6_keep 44) rfl rfl trivial ?_)
      refine zv_getf (bX6_keep 44) rfl (rfl) rfl ?_
      iterate 1 (refine zv_step (bX6_keep 44) rfl rfl trivial ?_)
      refine zv_aald (bX6_keep 44) rfl (Or.inl rfl) rfl (show vp_in (nI s) 8 from vp_in_nI (by omega) (by decide)) (show ([some 59, some 61, some 63, some 65, some 67, some 69, some 71, some 73] : List (Option Nat)).getD (nI s).toNatClampNeg none = some (59 + 2 * s) by rw [nI_clamp (by omega)]; exact dSs hs) ?_
      iterate 2 (refine zv_step (bX6_keep 44) rfl rfl trivial ?_)
      refine zv_V3 (bX6_keep 44) rfl rfl rfl rfl rfl rfl rfl ⟨rfl, rfl, rfl⟩ ⟨by decide, by decide⟩ ⟨Nat.zero_le _, Nat.zero_le _⟩ (cKeepNodeX O P Y g hu0 h1 hp hkl hs _ _) ?_
      rintro _ _ ⟨O1, P1, R1, rfl, rfl, ⟨rfl, qn, rfl, rfl⟩ | ⟨rfl, hW, j, hj, rfl, ⟨qk, qc⟩ | ⟨qk, qc⟩⟩⟩
      · skip
        exact zv_iret (bX6_keep 44) rfl (Or.inl rfl) (Nat.zero_le _) (Nat.zero_le _) ⟨_, _, _, rfl, rfl, Or.inl ⟨rfl, (fun q => by rcases q.2 with e | e | ⟨_, e⟩ <;> first | exact qn e | exact absurd e (by decide)), rfl, rfl⟩⟩
      · skip
        exact zv_iret (bX6_keep 44) rfl (Or.inl rfl) (Nat.zero_le _) (Nat.zero_le _) ⟨_, _, _, rfl, rfl, Or.inr ⟨s, hs, rfl, rfl, hW, Or.inr (Or.inl ⟨j, hj, rfl, rfl, qc⟩)⟩⟩
      · skip
        exact absurd rfl qk
    | 2, _ =>
      refine zv_step (bX6_keep 44) rfl rfl (by decide) ?_
      iterate 1 (refine zv_step (bX6_keep 44) rfl rfl trivial ?_)
      exact zv_iret (bX6_keep 44) rfl (Or.inl rfl) (Nat.zero_le _) (Nat.zero_le _) ⟨O, P, _, rfl, rfl, Or.inl ⟨rfl, (fun q => by rcases q.2 with e | e | ⟨e | e, _⟩ <;> exact absurd e (by decide)), rfl, rfl⟩⟩
    | 3, _ =>
      refine zv_step (bX6_keep 44) rfl rfl (by decide) ?_
      iterate 1 (refine zv_step (bX6_keep 44) rfl rfl trivial ?_)
      refine zv_getf (bX6_keep 44) rfl (rfl) rfl ?_
      iterate 1 (refine zv_step (bX6_keep 44) rfl rfl trivial ?_)
      refine zv_aald (bX6_keep 44) rfl (Or.inl rfl) rfl (show vp_in (nI s) 8 from vp_in_nI (by omega) (by decide)) (show ([some 59, some 61, some 63, some 65, some 67, some 69, some 71, some 73] : List (Option Nat)).getD (nI s).toNatClampNeg none = some (59 + 2 * s) by rw [nI_clamp (by omega)]; exact dSs hs) ?_
      iterate 2 (refine zv_step (bX6_keep 44) rfl rfl trivial ?_)
      refine zv_getf (bX6_keep 44) rfl (rfl) rfl ?_
      refine zv_getf (bX6_keep 44) rfl (rfl) rfl ?_
      iterate 1 (refine zv_step (bX6_keep 44) rfl rfl trivial ?_)
      refine zv_getf (bX6_keep 44) rfl (rfl) rfl ?_
      refine zv_getf (bX6_keep 44) rfl (rfl) (congrArg (fun q => some (Value.int q)) hO) ?_
      refine zv_V3 (bX6_keep 44) rfl rfl rfl (wS O P Y g hs) rfl rfl rfl ⟨rfl, rfl, rfl⟩ ⟨by decide, by decide⟩ ⟨Nat.zero_le _, Nat.zero_le _⟩ (hHoldRowX O P Y g hs _ hl) ?_
      rintro _ _ ⟨rfl, P1, rfl, hP1, hD1⟩
      iterate 1 (refine zv_step (bX6_keep 44) rfl rfl trivial ?_)
      exact zv_iret (bX6_keep 44) rfl (Or.inl rfl) (Nat.zero_le _) (Nat.zero_le _) ⟨_, P1, _, rfl, rfl, Or.inr ⟨s, hs, rfl, rfl, ⟨fun j hj => by rw [upd_ne _ _ (by omega), upd_ne _ _ (by omega)], hP1, Or.inr ⟨l, by omega, by rw [upd_self]⟩⟩, Or.inr (Or.inr (Or.inl ⟨rfl, by rw [upd_ne _ _ (by omega), upd_self]; rfl, upd_self _ _ _, hD1⟩))⟩⟩
    | 4, _ =>
      refine zv_step (bX6_keep 44) rfl rfl (by decide) ?_
      iterate 2 (refine zv_step (bX6_keep 44) rfl rfl trivial ?_)
      refine zv_getf (bX6_keep 44) rfl (rfl) rfl ?_
      iterate 1 (refine zv_step (bX6_keep 44) rfl rfl trivial ?_)
      refine zv_aald (bX6_keep 44) rfl (Or.inl rfl) rfl (show vp_in (nI s) 8 from vp_in_nI (by omega) (by decide)) (show ([some 59, some 61, some 63, some 65, some 67, some 69, some 71, some 73] : List (Option Nat)).getD (nI s).toNatClampNeg none = some (59 + 2 * s) by rw [nI_clamp (by omega)]; exact dSs hs) ?_
      iterate 2 (refine zv_step (bX6_keep 44) rfl rfl trivial ?_)
      refine zv_V3 (bX6_keep 44) rfl rfl rfl rfl rfl rfl rfl ⟨rfl, rfl, rfl⟩ ⟨by decide, by decide⟩ ⟨Nat.zero_le _, Nat.zero_le _⟩ (cKeepNodeX O P Y g hu0 h1 hp hkl hs _ _) ?_
      rintro _ _ ⟨O1, P1, R1, rfl, rfl, ⟨rfl, qn, rfl, rfl⟩ | ⟨rfl, hW, j, hj, rfl, ⟨qk, qc⟩ | ⟨qk, qc⟩⟩⟩
      · skip
        exact zv_iret (bX6_keep 44) rfl (Or.inl rfl) (Nat.zero_le _) (Nat.zero_le _) ⟨_, _, _, rfl, rfl, Or.inl ⟨rfl, (fun q => by rcases q.2 with e | e | ⟨_, e⟩ <;> first | exact qn e | exact absurd e (by decide)), rfl, rfl⟩⟩
      · skip
        exact absurd qk (by decide)
      · skip
        exact zv_iret (bX6_keep 44) rfl (Or.inl rfl) (Nat.zero_le _) (Nat.zero_le _) ⟨_, _, _, rfl, rfl, Or.inr ⟨s, hs, rfl, rfl, hW, Or.inr (Or.inr (Or.inr ⟨j, hj, rfl, rfl, qc⟩))⟩⟩
    | c + 5, h => exact absurd h (by omega)
set_option maxHeartbeats 1000000 in
set_option maxRecDepth 20000 in
theorem cKeepX (O : Nat → Int32) (P : Nat → Nat → Int32) (Y : Nat → Nat → Int64) (g : Nat → zC) {u : Nat} (hu0 : u ≤ 120) (h1 : O 1 = nI u) (hp : pgI u (P 2) (P 4) (P 5) (P 6)) (hkl : ∀ j, j < u → (klP P (O 1) 40 (nI j)).length ≤ 60) {l : Nat} (hl : l ≤ 20) (hO : O 9 = nI l) (y x n : Int32) : zK 44 zX6_keep [.ref 0, .int y, .int x, .int n] (wX O P Y g) (fun r w' => ∃ (O' : Nat → Int32) (P' : Nat → Nat → Int32) (R : Int32), r = some (.int R) ∧ w' = wX O' P' Y g ∧ kpC O P u l y x n O' P' R) := by
  refine zK_of qX6_keep (by decide +kernel) rfl ?_
  iterate 1 (refine zv_step (bX6_keep 44) rfl rfl trivial ?_)
  refine zv_S1 (bX6_keep 44) rfl rfl rfl rfl ⟨rfl, rfl, rfl⟩ ⟨by decide, by decide⟩ ⟨Nat.zero_le _, Nat.zero_le _⟩ (hX6_isShelf _ _) ?_
  rintro _ _ ⟨rfl, ⟨hx, rfl⟩ | ⟨hx, rfl⟩⟩
  · obtain ⟨s, hs, rfl⟩ := sh_of hx
    iterate 1 (refine zv_step (bX6_keep 44) rfl rfl trivial ?_)
    refine zv_ift (by decide) ?_
    exact cKeepTX O P Y g hu0 h1 hp hkl hl hO hs _ _
  · skip
    iterate 1 (refine zv_step (bX6_keep 44) rfl rfl trivial ?_)
    refine zv_iff (by decide) ?_
    iterate 1 (refine zv_step (bX6_keep 44) rfl rfl trivial ?_)
    exact zv_iret (bX6_keep 44) rfl (Or.inl rfl) (Nat.zero_le _) (Nat.zero_le _) ⟨O, P, _, rfl, rfl, Or.inl ⟨rfl, fun q => hx q.1, rfl, rfl⟩⟩
