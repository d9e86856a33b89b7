def szS (A : Nat → Nat → Int32) : Prop := ∀ d, d < 8 → ∃ m : Nat, m ≤ 60 ∧ A 12 d = nI m
/-- only shelves have changed -/
def shM (o : Nat → Int32) (A : Nat → Nat → Int32) (o' : Nat → Int32) (A' : Nat → Nat → Int32) : Prop := (∀ j, j ≠ 34 → o' j = o j) ∧ (∀ r, ¬ (9 ≤ r ∧ r ≤ 13) → r ≠ 15 → A' r = A r) ∧ szS A'
theorem shM_refl {o : Nat → Int32} {A : Nat → Nat → Int32} (h : szS A) : shM o A o A := ⟨fun _ _ => rfl, fun _ _ _ => rfl, h⟩
theorem up12 {A : Nat → Nat → Int32} (h : szS A) {i : Nat} {v : Int32} (hv : ∃ m : Nat, m ≤ 60 ∧ v = nI m) : ∀ d, d < 8 → ∃ m : Nat, m ≤ 60 ∧ upd (A 12) i v d = nI m := by
  intro d hd
  by_cases e : d = i
  · subst e
    rw [upd_self]
    exact hv
  · rw [upd_ne _ _ e]
    exact h d hd
theorem ix60 {s k : Nat} : c8 60 * nI s + nI k = nI (60 * s + k) := by
  show Int32.ofNat 60 * Int32.ofNat s + Int32.ofNat k = _
  rw [← Int32.ofNat_mul, ← Int32.ofNat_add]
  rfl
theorem rN_sum {lo n : Nat} {A : Nat → Nat → Int32} (h : rN lo A n) : (A 2 n = m2 ∧ A 3 n = m2 ∧ szN A n = 1) ∨ (∃ a : Nat, A 2 n = nI a ∧ A 3 n = m2 ∧ lo ≤ a ∧ a < n ∧ szN A n = 1 + szN A a) ∨ (∃ a b : Nat, A 2 n = nI a ∧ A 3 n = nI b ∧ lo ≤ a ∧ a < n ∧ lo ≤ b ∧ b < n ∧ szN A n = 1 + szN A a + szN A b) := by
  obtain ⟨k1, y1, f0, l1, h4, hy, hs, _⟩ := h
  rw [szN_of h4 hy]
  rcases hs with ⟨c1, h2, h3, e1⟩ | ⟨c1, c2, a, b, h2, la, ha, h3, lb, hb, e1⟩ | ⟨c1, a, h2, la, ha, h3, e1⟩
  · exact Or.inl ⟨h2, h3, e1⟩
  · exact Or.inr (Or.inr ⟨a, b, h2, h3, la, ha, lb, hb, e1⟩)
  · exact Or.inr (Or.inl ⟨a, h2, h3, la, ha, e1⟩)
set_option maxHeartbeats 1000000 in
set_option maxRecDepth 20000 in
theorem mKinds (f : Nat → zC) (o : Nat → Int32) (A : Nat → Nat → Int32) (J : Nat → Nat → Int64) {lo hi : Nat} (hh : hi ≤ 450) (hT : tbI lo hi A) {s : Nat} (hs : s < 8) : ∀ (z n : Nat), lo ≤ n → n < hi → szN A n ≤ z → ∀ (q : Nat) (g : Nat → Int32), q + szN A n ≤ 60 → zK (z + 1) zX7_kinds [.ref 76, .int (nI s), .int (nI n)] (wR f (upd o 34 (nI q)) (updA A 13 g) J) (fun r w' => r = none ∧ ∃ g' : Nat → Int32, w' = (wR f (upd o 34 (nI (q + szN A n))) (updA A 13 g') J)) := by
  intro z
  induction z with
  | zero =>
    intro n hlo hn hz
    have := (rN_sz (hT n hlo hn)).1
    omega
  | succ z ih =>
    intro n hlo hn hz q g hq
    refine zK_of qX7_kinds (by decide +kernel) rfl ?_
    rcases rN_sum (hT n hlo hn) with ⟨h2, h3, es⟩ | ⟨a, h2, h3, la, ha, es⟩ | ⟨a, b, h2, h3, la, ha, lb, hb, es⟩
    · iterate 11 (refine zv_step (bX7_kinds (z + 1 + 1)) rfl rfl trivial ?_)
      refine zv_iale (bX7_kinds (z + 1 + 1)) rfl rfl (vp_in_nI (by omega) (by decide)) (show A 0 (nI n).toNatClampNeg = A 0 n by rw [nI_clamp (by omega)]) ?_
      refine zv_step (bX7_kinds (z + 1 + 1)) rfl rfl (show vp_in (c8 60 * nI s + nI q) 480 by rw [ix60]; exact vp_in_nI (by omega) (by decide)) ?_
      iterate 6 (refine zv_step (bX7_kinds (z + 1 + 1)) rfl rfl trivial ?_)
      refine zv_world (show _ = (wR f (upd o 34 (nI (q + 1))) (updA A 13 (upd g (c8 60 * nI s + nI q).toNatClampNeg (A 0 n))) J) from by rw [show nI (q + 1) = nI q + Int32.ofInt 1 from (nI_1 q).symm]; rfl) ?_
      iterate 3 (refine zv_step (bX7_kinds (z + 1 + 1)) rfl rfl trivial ?_)
      refine zv_iale (bX7_kinds (z + 1 + 1)) rfl rfl (vp_in_nI (by omega) (by decide)) (show A 2 (nI n).toNatClampNeg = m2 by rw [nI_clamp (by omega)]; exact h2) ?_
      iterate 1 (refine zv_step (bX7_kinds (z + 1 + 1)) rfl rfl trivial ?_)
      refine zv_ift (by decide) ?_
      iterate 3 (refine zv_step (bX7_kinds (z + 1 + 1)) rfl rfl trivial ?_)
      refine zv_iale (bX7_kinds (z + 1 + 1)) rfl rfl (vp_in_nI (by omega) (by decide)) (show A 3 (nI n).toNatClampNeg = m2 by rw [nI_clamp (by omega)]; exact h3) ?_
      iterate 1 (refine zv_step (bX7_kinds (z + 1 + 1)) rfl rfl trivial ?_)
      refine zv_ift (by decide) ?_
      exact zv_ret (bX7_kinds (z + 1 + 1)) rfl rfl (Nat.zero_le _) (Nat.zero_le _) ⟨rfl, _, by rw [es, show q + 1 = q + 1 by omega]⟩
    · iterate 11 (refine zv_step (bX7_kinds (z + 1 + 1)) rfl rfl trivial ?_)
      refine zv_iale (bX7_kinds (z + 1 + 1)) rfl rfl (vp_in_nI (by omega) (by decide)) (show A 0 (nI n).toNatClampNeg = A 0 n by rw [nI_clamp (by omega)]) ?_
      refine zv_step (bX7_kinds (z + 1 + 1)) rfl rfl (show vp_in (c8 60 * nI s + nI q) 480 by rw [ix60]; exact vp_in_nI (by omega) (by decide)) ?_
      iterate 6 (refine zv_step (bX7_kinds (z + 1 + 1)) rfl rfl trivial ?_)
      refine zv_world (show _ = (wR f (upd o 34 (nI (q + 1))) (updA A 13 (upd g (c8 60 * nI s + nI q).toNatClampNeg (A 0 n))) J) from by rw [show nI (q + 1) = nI q + Int32.ofInt 1 from (nI_1 q).symm]; rfl) ?_
      iterate 3 (refine zv_step (bX7_kinds (z + 1 + 1)) rfl rfl trivial ?_)
      refine zv_iale (bX7_kinds (z + 1 + 1)) rfl rfl (vp_in_nI (by omega) (by decide)) (show A 2 (nI n).toNatClampNeg = nI a by rw [nI_clamp (by omega)]; exact h2) ?_
      iterate 1 (refine zv_step (bX7_kinds (z + 1 + 1)) rfl rfl trivial ?_)
      refine zv_iff (nI_pos (by omega)) ?_
      iterate 5 (refine zv_step (bX7_kinds (z + 1 + 1)) rfl rfl trivial ?_)
      refine zv_iale (bX7_kinds (z + 1 + 1)) rfl rfl (vp_in_nI (by omega) (by decide)) (show A 2 (nI n).toNatClampNeg = nI a by rw [nI_clamp (by omega)]; exact h2) ?_
      refine zv_V2 (bX7_kinds (z + 1 + 1)) rfl rfl rfl rfl rfl rfl rfl ⟨rfl, rfl, rfl⟩ ⟨by show z + 1 + 1 ≤ z + 1 + 1; omega, by show 8 + (3 + 11) + 64 * (z + 1) ≤ 64 * (z + 1 + 1); omega⟩ ⟨Nat.zero_le _, Nat.zero_le _⟩ (ih a (by omega) (by omega) (by omega) _ _ (by omega)) ?_
      rintro _ _ ⟨rfl, ga, rfl⟩
      iterate 3 (refine zv_step (bX7_kinds (z + 1 + 1)) rfl rfl trivial ?_)
      refine zv_iale (bX7_kinds (z + 1 + 1)) rfl rfl (vp_in_nI (by omega) (by decide)) (show A 3 (nI n).toNatClampNeg = m2 by rw [nI_clamp (by omega)]; exact h3) ?_
      iterate 1 (refine zv_step (bX7_kinds (z + 1 + 1)) rfl rfl trivial ?_)
      refine zv_ift (by decide) ?_
      exact zv_ret (bX7_kinds (z + 1 + 1)) rfl rfl (Nat.zero_le _) (Nat.zero_le _) ⟨rfl, _, by rw [es, show q + (1 + szN A a) = q + 1 + szN A a by omega]⟩
    · iterate 11 (refine zv_step (bX7_kinds (z + 1 + 1)) rfl rfl trivial ?_)
      refine zv_iale (bX7_kinds (z + 1 + 1)) rfl rfl (vp_in_nI (by omega) (by decide)) (show A 0 (nI n).toNatClampNeg = A 0 n by rw [nI_clamp (by omega)]) ?_
      refine zv_step (bX7_kinds (z + 1 + 1)) rfl rfl (show vp_in (c8 60 * nI s + nI q) 480 by rw [ix60]; exact vp_in_nI (by omega) (by decide)) ?_
      iterate 6 (refine zv_step (bX7_kinds (z + 1 + 1)) rfl rfl trivial ?_)
      refine zv_world (show _ = (wR f (upd o 34 (nI (q + 1))) (updA A 13 (upd g (c8 60 * nI s + nI q).toNatClampNeg (A 0 n))) J) from by rw [show nI (q + 1) = nI q + Int32.ofInt 1 from (nI_1 q).symm]; rfl) ?_
      iterate 3 (refine zv_step (bX7_kinds (z + 1 + 1)) rfl rfl trivial ?_)
      refine zv_iale (bX7_kinds (z + 1 + 1)) rfl rfl (vp_in_nI (by omega) (by decide)) (show A 2 (nI n).toNatClampNeg = nI a by rw [nI_clamp (by omega)]; exact h2) ?_
      iterate 1 (refine zv_step (bX7_kinds (z + 1 + 1)) rfl rfl trivial ?_)
      refine zv_iff (nI_pos (by omega)) ?_
      iterate 5 (refine zv_step (bX7_kinds (z + 1 + 1)) rfl rfl trivial ?_)
      refine zv_iale (bX7_kinds (z + 1 + 1)) rfl rfl (vp_in_nI (by omega) (by decide)) (show A 2 (nI n).toNatClampNeg = nI a by rw [nI_clamp (by omega)]; exact h2) ?_
      refine zv_V2 (bX7_kinds (z + 1 + 1)) rfl rfl rfl rfl rfl rfl rfl ⟨rfl, rfl, rfl⟩ ⟨by show z + 1 + 1 ≤ z + 1 + 1; omega, by show 8 + (3 + 11) + 64 * (z + 1) ≤ 64 * (z + 1 + 1); omega⟩ ⟨Nat.zero_le _, Nat.zero_le _⟩ (ih a (by omega) (by omega) (by omega) _ _ (by omega)) ?_
      rintro _ _ ⟨rfl, ga, rfl⟩
      iterate 3 (refine zv_step (bX7_kinds (z + 1 + 1)) rfl rfl trivial ?_)
      refine zv_iale (bX7_kinds (z + 1 + 1)) rfl rfl (vp_in_nI (by omega) (by decide)) (show A 3 (nI n).toNatClampNeg = nI b by rw [nI_clamp (by omega)]; exact h3) ?_
      iterate 1 (refine zv_step (bX7_kinds (z + 1 + 1)) rfl rfl trivial ?_)
      refine zv_iff (nI_pos (by omega)) ?_
      iterate 5 (refine zv_step (bX7_kinds (z + 1 + 1)) rfl rfl trivial ?_)
      refine zv_iale (bX7_kinds (z + 1 + 1)) rfl rfl (vp_in_nI (by omega) (by decide)) (show A 3 (nI n).toNatClampNeg = nI b by rw [nI_clamp (by omega)]; exact h3) ?_
      refine zv_V2 (bX7_kinds (z + 1 + 1)) rfl rfl rfl rfl rfl rfl rfl ⟨rfl, rfl, rfl⟩ ⟨by show z + 1 + 1 ≤ z + 1 + 1; omega, by show 8 + (3 + 11) + 64 * (z + 1) ≤ 64 * (z + 1 + 1); omega⟩ ⟨Nat.zero_le _, Nat.zero_le _⟩ (ih b (by omega) (by omega) (by omega) _ _ (by omega)) ?_
      rintro _ _ ⟨rfl, gb, rfl⟩
      exact zv_ret (bX7_kinds (z + 1 + 1)) rfl rfl (Nat.zero_le _) (Nat.zero_le _) ⟨rfl, _, by rw [es, show q + (1 + szN A a + szN A b) = q + 1 + szN A a + szN A b by omega]⟩
set_option maxHeartbeats 1000000 in
set_option maxRecDepth 20000 in
theorem keepL (f : Nat → zC) (o : Nat → Int32) (A : Nat → Nat → Int32) (J : Nat → Nat → Int64) {h s : Nat} (hh : h ≤ 20) (ho10 : o 10 = nI h) (hs : s < 8) {x y : Int32} {n0 : Nat} {Q : Option Value → zW → Prop} (hQ : ∀ g, Q (some (.int (Int32.ofInt 0))) (wR f o (updA A 13 g) J)) : ∀ (c i : Nat) (g : Nat → Int32), i + c = h → ∀ {x5 : Int32}, x5 = nI i → zV (zMo 42 zX7_keep) false n0 0 0 117 [(5, .int x5), (4, .int (Int32.ofInt 1)), (0, .ref 76), (1, .int (nI s)), (2, .int y), (3, .int x)] [] (wR f o (updA A 13 g) J) Q := by
  intro c
  induction c with
  | zero =>
    intro i g hc x5 e5
    subst e5
    iterate 4 (refine zv_step (bX7_keep 42) rfl rfl trivial ?_)
    refine zv_ift (show o 10 ≤ nI i by rw [ho10]; exact nI_le (by omega) (by omega)) ?_
    iterate 2 (refine zv_step (bX7_keep 42) rfl rfl trivial ?_)
    exact zv_iret (bX7_keep 42) rfl (Or.inl rfl) (Nat.zero_le _) (Nat.zero_le _) (hQ g)
  | succ c ih =>
    intro i g hc x5 e5
    subst e5
    iterate 4 (refine zv_step (bX7_keep 42) rfl rfl trivial ?_)
    refine zv_iff (show ¬ o 10 ≤ nI i by rw [ho10]; exact fun h => absurd ((nI_leI (by omega) (by omega)).mp h) (by omega)) ?_
    iterate 10 (refine zv_step (bX7_keep 42) rfl rfl trivial ?_)
    refine zv_step (bX7_keep 42) rfl rfl (vp_in_nI (by omega) (by decide)) ?_
    refine zv_step (bX7_keep 42) rfl rfl (show vp_in (c8 60 * nI s + nI i) 480 by rw [ix60]; exact vp_in_nI (by omega) (by decide)) ?_
    iterate 2 (refine zv_step (bX7_keep 42) rfl rfl trivial ?_)
    refine zv_world (show _ = wR f o (updA A 13 (upd g (c8 60 * nI s + nI i).toNatClampNeg (A 8 (nI i).toNatClampNeg))) J from rfl) ?_
    exact ih (i + 1) _ (by omega) (nI_1 i)
set_option maxHeartbeats 1000000 in
set_option maxRecDepth 20000 in
theorem mKeep (f : Nat → zC) (o : Nat → Int32) (A : Nat → Nat → Int32) (J : Nat → Nat → Int64) {u : Nat} (hu : u ≤ 120) (ho : o 0 = nI u) (hT : tbI 0 u A) {h : Nat} (hh : h ≤ 20) (ho10 : o 10 = nI h) (hS : szS A) (d y x : Int32) : zK 42 zX7_keep [.ref 76, .int d, .int y, .int x] (wR f o A J) (fun r w' => ∃ (o' : Nat → Int32) (A' : Nat → Nat → Int32) (R : Int32), r = some (.int R) ∧ w' = wR f o' A' J ∧ shM o A o' A') := by
  refine zK_of qX7_keep (by decide +kernel) rfl ?_
  iterate 2 (refine zv_step (bX7_keep 42) rfl rfl trivial ?_)
  refine zv_ifb (fun h1 => ?_) (fun h1 => ?_)
  · iterate 4 (refine zv_step (bX7_keep 42) rfl rfl trivial ?_)
    refine zv_S1 (bX7_keep 42) rfl rfl rfl rfl ⟨rfl, rfl, rfl⟩ ⟨by decide, by decide⟩ ⟨Nat.zero_le _, Nat.zero_le _⟩ (hX7_isShelf _ _) ?_
    rintro _ _ ⟨rfl, ⟨g2, rfl⟩ | ⟨g2, rfl⟩⟩
    · obtain ⟨s, hs, rfl⟩ := in_nat (b := 7) (by decide) g2
      iterate 1 (refine zv_step (bX7_keep 42) rfl rfl trivial ?_)
      refine zv_iff (by decide) ?_
      iterate 2 (refine zv_step (bX7_keep 42) rfl rfl trivial ?_)
      refine zv_ift (by decide) ?_
      iterate 4 (refine zv_step (bX7_keep 42) rfl rfl trivial ?_)
      refine zv_step (bX7_keep 42) rfl rfl (show vp_in (nI s) 8 from vp_in_nI (by omega) (by decide)) ?_
      iterate 3 (refine zv_step (bX7_keep 42) rfl rfl trivial ?_)
      refine zv_ift (fun h => absurd ((h1).symm.trans h) (by decide)) ?_
      iterate 3 (refine zv_step (bX7_keep 42) rfl rfl trivial ?_)
      refine zv_ift (fun h => absurd ((h1).symm.trans h) (by decide)) ?_
      iterate 3 (refine zv_step (bX7_keep 42) rfl rfl trivial ?_)
      refine zv_ift (fun h => absurd ((h1).symm.trans h) (by decide)) ?_
      iterate 1 (refine zv_step (bX7_keep 42) rfl rfl trivial ?_)
      exact zv_iret (bX7_keep 42) rfl (Or.inl rfl) (Nat.zero_le _) (Nat.zero_le _) ⟨o, (updA A 9 (upd (A 9) (nI s).toNatClampNeg y)), _, rfl, rfl, fun _ _ => rfl, fun r a b => updA_ne _ _ (by omega), hS⟩
    · skip
      iterate 1 (refine zv_step (bX7_keep 42) rfl rfl trivial ?_)
      refine zv_ift (by decide) ?_
      iterate 1 (refine zv_step (bX7_keep 42) rfl rfl trivial ?_)
      exact zv_iret (bX7_keep 42) rfl (Or.inl rfl) (Nat.zero_le _) (Nat.zero_le _) ⟨o, A, _, rfl, rfl, shM_refl hS⟩
  · iterate 3 (refine zv_step (bX7_keep 42) rfl rfl trivial ?_)
    refine zv_ifb (fun h6 => ?_) (fun h6 => ?_)
    · iterate 4 (refine zv_step (bX7_keep 42) rfl rfl trivial ?_)
      refine zv_S1 (bX7_keep 42) rfl rfl rfl rfl ⟨rfl, rfl, rfl⟩ ⟨by decide, by decide⟩ ⟨Nat.zero_le _, Nat.zero_le _⟩ (hX7_isShelf _ _) ?_
      rintro _ _ ⟨rfl, ⟨g2, rfl⟩ | ⟨g2, rfl⟩⟩
      · obtain ⟨s, hs, rfl⟩ := in_nat (b := 7) (by decide) g2
        iterate 1 (refine zv_step (bX7_keep 42) rfl rfl trivial ?_)
        refine zv_iff (by decide) ?_
        iterate 2 (refine zv_step (bX7_keep 42) rfl rfl trivial ?_)
        refine zv_ift (by decide) ?_
        iterate 4 (refine zv_step (bX7_keep 42) rfl rfl trivial ?_)
        refine zv_step (bX7_keep 42) rfl rfl (show vp_in (nI s) 8 from vp_in_nI (by omega) (by decide)) ?_
        iterate 3 (refine zv_step (bX7_keep 42) rfl rfl trivial ?_)
        refine zv_ift (fun h => absurd ((h6).symm.trans h) (by decide)) ?_
        iterate 3 (refine zv_step (bX7_keep 42) rfl rfl trivial ?_)
        refine zv_iff (fun h => h (h6)) ?_
        iterate 5 (refine zv_step (bX7_keep 42) rfl rfl trivial ?_)
        refine zv_step (bX7_keep 42) rfl rfl (show vp_in (nI s) 8 from vp_in_nI (by omega) (by decide)) ?_
        iterate 2 (refine zv_step (bX7_keep 42) rfl rfl trivial ?_)
        refine zv_world (show _ = wR f o (updA (updA (updA A 9 (upd (A 9) (nI s).toNatClampNeg y)) 12 (upd (A 12) (nI s).toNatClampNeg (o 10))) 13 (A 13)) J from rfl) ?_
        exact keepL f o _ J hh ho10 (by omega) (fun g => ⟨o, _, _, rfl, rfl, fun _ _ => rfl, fun r a b => by rw [updA_ne _ _ (by omega), updA_ne _ _ (by omega), updA_ne _ _ (by omega)], up12 hS ⟨h, by omega, ho10⟩⟩) h 0 (A 13) (by omega) rfl
      · skip
        iterate 1 (refine zv_step (bX7_keep 42) rfl rfl trivial ?_)
        refine zv_ift (by decide) ?_
        iterate 1 (refine zv_step (bX7_keep 42) rfl rfl trivial ?_)
        exact zv_iret (bX7_keep 42) rfl (Or.inl rfl) (Nat.zero_le _) (Nat.zero_le _) ⟨o, A, _, rfl, rfl, shM_refl hS⟩
    · iterate 3 (refine zv_step (bX7_keep 42) rfl rfl trivial ?_)
      refine zv_ifb (fun h11 => ?_) (fun h11 => ?_)
      · iterate 2 (refine zv_step (bX7_keep 42) rfl rfl trivial ?_)
        refine zv_V1 (bX7_keep 42) rfl rfl rfl rfl rfl rfl rfl ⟨rfl, rfl, rfl⟩ ⟨by decide, by decide⟩ ⟨Nat.zero_le _, Nat.zero_le _⟩ (mIsNode f o A J hu ho _) ?_
        rintro _ _ ⟨rfl, ⟨g1, rfl⟩ | ⟨g1, rfl⟩⟩
        · obtain ⟨n, hn, rfl⟩ := nd_of (by omega) g1
          have sn := (rN_sz (hT n (Nat.zero_le _) hn)).2
          iterate 1 (refine zv_step (bX7_keep 42) rfl rfl trivial ?_)
          refine zv_iff (by decide) ?_
          iterate 4 (refine zv_step (bX7_keep 42) rfl rfl trivial ?_)
          refine zv_S1 (bX7_keep 42) rfl rfl rfl rfl ⟨rfl, rfl, rfl⟩ ⟨by decide, by decide⟩ ⟨Nat.zero_le _, Nat.zero_le _⟩ (hX7_isShelf _ _) ?_
          rintro _ _ ⟨rfl, ⟨g2, rfl⟩ | ⟨g2, rfl⟩⟩
          · obtain ⟨s, hs, rfl⟩ := in_nat (b := 7) (by decide) g2
            iterate 1 (refine zv_step (bX7_keep 42) rfl rfl trivial ?_)
            refine zv_iff (by decide) ?_
            iterate 2 (refine zv_step (bX7_keep 42) rfl rfl trivial ?_)
            refine zv_ift (by decide) ?_
            iterate 4 (refine zv_step (bX7_keep 42) rfl rfl trivial ?_)
            refine zv_step (bX7_keep 42) rfl rfl (show vp_in (nI s) 8 from vp_in_nI (by omega) (by decide)) ?_
            iterate 3 (refine zv_step (bX7_keep 42) rfl rfl trivial ?_)
            refine zv_iff (fun h => h (h11)) ?_
            iterate 6 (refine zv_step (bX7_keep 42) rfl rfl trivial ?_)
            refine zv_iale (bX7_keep 42) rfl rfl (vp_in_nI (by omega) (by decide)) (show A 0 (nI n).toNatClampNeg = A 0 n by rw [nI_clamp (by omega)]) ?_
            refine zv_step (bX7_keep 42) rfl rfl (show vp_in (nI s) 8 from vp_in_nI (by omega) (by decide)) ?_
            iterate 6 (refine zv_step (bX7_keep 42) rfl rfl trivial ?_)
            refine zv_iale (bX7_keep 42) rfl rfl (vp_in_nI (by omega) (by decide)) (show A 1 (nI n).toNatClampNeg = A 1 n by rw [nI_clamp (by omega)]) ?_
            refine zv_step (bX7_keep 42) rfl rfl (show vp_in (nI s) 8 from vp_in_nI (by omega) (by decide)) ?_
            iterate 6 (refine zv_step (bX7_keep 42) rfl rfl trivial ?_)
            refine zv_iale (bX7_keep 42) rfl rfl (vp_in_nI (by omega) (by decide)) (show A 4 (nI n).toNatClampNeg = nI (szN A n) by rw [nI_clamp (by omega)]; exact sn.2) ?_
            refine zv_step (bX7_keep 42) rfl rfl (show vp_in (nI s) 8 from vp_in_nI (by omega) (by decide)) ?_
            iterate 2 (refine zv_step (bX7_keep 42) rfl rfl trivial ?_)
            exact zv_iret (bX7_keep 42) rfl (Or.inl rfl) (Nat.zero_le _) (Nat.zero_le _) ⟨o, (updA (updA (updA (updA A 9 (upd (A 9) (nI s).toNatClampNeg y)) 10 (upd (A 10) (nI s).toNatClampNeg (A 0 n))) 11 (upd (A 11) (nI s).toNatClampNeg (A 1 n))) 12 (upd (A 12) (nI s).toNatClampNeg (nI (szN A n)))), _, rfl, rfl, fun _ _ => rfl, fun r a b => by rw [updA_ne _ _ (by omega), updA_ne _ _ (by omega), updA_ne _ _ (by omega), updA_ne _ _ (by omega)], up12 hS ⟨_, by omega, rfl⟩⟩
          · skip
            iterate 1 (refine zv_step (bX7_keep 42) rfl rfl trivial ?_)
            refine zv_ift (by decide) ?_
            iterate 1 (refine zv_step (bX7_keep 42) rfl rfl trivial ?_)
            exact zv_iret (bX7_keep 42) rfl (Or.inl rfl) (Nat.zero_le _) (Nat.zero_le _) ⟨o, A, _, rfl, rfl, shM_refl hS⟩
        · skip
          iterate 1 (refine zv_step (bX7_keep 42) rfl rfl trivial ?_)
          refine zv_ift (by decide) ?_
          iterate 3 (refine zv_step (bX7_keep 42) rfl rfl trivial ?_)
          refine zv_S1 (bX7_keep 42) rfl rfl rfl rfl ⟨rfl, rfl, rfl⟩ ⟨by decide, by decide⟩ ⟨Nat.zero_le _, Nat.zero_le _⟩ (hX7_isShelf _ _) ?_
          rintro _ _ ⟨rfl, ⟨g2, rfl⟩ | ⟨g2, rfl⟩⟩
          · obtain ⟨s, hs, rfl⟩ := in_nat (b := 7) (by decide) g2
            iterate 1 (refine zv_step (bX7_keep 42) rfl rfl trivial ?_)
            refine zv_iff (by decide) ?_
            iterate 2 (refine zv_step (bX7_keep 42) rfl rfl trivial ?_)
            refine zv_iff (by decide) ?_
            iterate 1 (refine zv_step (bX7_keep 42) rfl rfl trivial ?_)
            exact zv_iret (bX7_keep 42) rfl (Or.inl rfl) (Nat.zero_le _) (Nat.zero_le _) ⟨o, A, _, rfl, rfl, shM_refl hS⟩
          · skip
            iterate 1 (refine zv_step (bX7_keep 42) rfl rfl trivial ?_)
            refine zv_ift (by decide) ?_
            iterate 1 (refine zv_step (bX7_keep 42) rfl rfl trivial ?_)
            exact zv_iret (bX7_keep 42) rfl (Or.inl rfl) (Nat.zero_le _) (Nat.zero_le _) ⟨o, A, _, rfl, rfl, shM_refl hS⟩
      · iterate 3 (refine zv_step (bX7_keep 42) rfl rfl trivial ?_)
        refine zv_ifb (fun h16 => ?_) (fun h16 => ?_)
        · iterate 3 (refine zv_step (bX7_keep 42) rfl rfl trivial ?_)
          refine zv_S1 (bX7_keep 42) rfl rfl rfl rfl ⟨rfl, rfl, rfl⟩ ⟨by decide, by decide⟩ ⟨Nat.zero_le _, Nat.zero_le _⟩ (hX7_isShelf _ _) ?_
          rintro _ _ ⟨rfl, ⟨g2, rfl⟩ | ⟨g2, rfl⟩⟩
          · obtain ⟨s, hs, rfl⟩ := in_nat (b := 7) (by decide) g2
            iterate 1 (refine zv_step (bX7_keep 42) rfl rfl trivial ?_)
            refine zv_iff (by decide) ?_
            iterate 2 (refine zv_step (bX7_keep 42) rfl rfl trivial ?_)
            refine zv_iff (by decide) ?_
            iterate 1 (refine zv_step (bX7_keep 42) rfl rfl trivial ?_)
            exact zv_iret (bX7_keep 42) rfl (Or.inl rfl) (Nat.zero_le _) (Nat.zero_le _) ⟨o, A, _, rfl, rfl, shM_refl hS⟩
          · skip
            iterate 1 (refine zv_step (bX7_keep 42) rfl rfl trivial ?_)
            refine zv_ift (by decide) ?_
            iterate 1 (refine zv_step (bX7_keep 42) rfl rfl trivial ?_)
            exact zv_iret (bX7_keep 42) rfl (Or.inl rfl) (Nat.zero_le _) (Nat.zero_le _) ⟨o, A, _, rfl, rfl, shM_refl hS⟩
        · iterate 2 (refine zv_step (bX7_keep 42) rfl rfl trivial ?_)
          refine zv_V1 (bX7_keep 42) rfl rfl rfl rfl rfl rfl rfl ⟨rfl, rfl, rfl⟩ ⟨by decide, by decide⟩ ⟨Nat.zero_le _, Nat.zero_le _⟩ (mIsNode f o A J hu ho _) ?_
          rintro _ _ ⟨rfl, ⟨g1, rfl⟩ | ⟨g1, rfl⟩⟩
          · obtain ⟨n, hn, rfl⟩ := nd_of (by omega) g1
            have sn := (rN_sz (hT n (Nat.zero_le _) hn)).2
            iterate 1 (refine zv_step (bX7_keep 42) rfl rfl trivial ?_)
            refine zv_iff (by decide) ?_
            iterate 4 (refine zv_step (bX7_keep 42) rfl rfl trivial ?_)
            refine zv_S1 (bX7_keep 42) rfl rfl rfl rfl ⟨rfl, rfl, rfl⟩ ⟨by decide, by decide⟩ ⟨Nat.zero_le _, Nat.zero_le _⟩ (hX7_isShelf _ _) ?_
            rintro _ _ ⟨rfl, ⟨g2, rfl⟩ | ⟨g2, rfl⟩⟩
            · obtain ⟨s, hs, rfl⟩ := in_nat (b := 7) (by decide) g2
              iterate 1 (refine zv_step (bX7_keep 42) rfl rfl trivial ?_)
              refine zv_iff (by decide) ?_
              iterate 2 (refine zv_step (bX7_keep 42) rfl rfl trivial ?_)
              refine zv_ift (by decide) ?_
              iterate 4 (refine zv_step (bX7_keep 42) rfl rfl trivial ?_)
              refine zv_step (bX7_keep 42) rfl rfl (show vp_in (nI s) 8 from vp_in_nI (by omega) (by decide)) ?_
              iterate 3 (refine zv_step (bX7_keep 42) rfl rfl trivial ?_)
              refine zv_ift (fun h => absurd ((Decidable.not_not.mp h16).symm.trans h) (by decide)) ?_
              iterate 3 (refine zv_step (bX7_keep 42) rfl rfl trivial ?_)
              refine zv_ift (fun h => absurd ((Decidable.not_not.mp h16).symm.trans h) (by decide)) ?_
              iterate 3 (refine zv_step (bX7_keep 42) rfl rfl trivial ?_)
              refine zv_iff (fun h => h (Decidable.not_not.mp h16)) ?_
              iterate 3 (refine zv_step (bX7_keep 42) rfl rfl trivial ?_)
              refine zv_world (show _ = wR f (upd o 34 (nI 0)) (updA (updA A 9 (upd (A 9) (nI s).toNatClampNeg y)) 13 (A 13)) J from rfl) ?_
              iterate 3 (refine zv_step (bX7_keep 42) rfl rfl trivial ?_)
              refine zv_V2 (bX7_keep 42) rfl rfl rfl rfl rfl rfl rfl ⟨rfl, rfl, rfl⟩ ⟨by decide, by decide⟩ ⟨Nat.zero_le _, Nat.zero_le _⟩ (mKinds f o (updA A 9 (upd (A 9) (nI s).toNatClampNeg y)) J (by omega) (tbI_u hT (by decide) _) (by omega) 40 n (Nat.zero_le _) hn (show szN A n ≤ 40 from sn.1) 0 _ (show 0 + szN A n ≤ 60 by omega)) ?_
              rintro _ _ ⟨rfl, g5, rfl⟩
              iterate 5 (refine zv_step (bX7_keep 42) rfl rfl trivial ?_)
              refine zv_step (bX7_keep 42) rfl rfl (show vp_in (nI s) 8 from vp_in_nI (by omega) (by decide)) ?_
              iterate 1 (refine zv_step (bX7_keep 42) rfl rfl trivial ?_)
              exact zv_iret (bX7_keep 42) rfl (Or.inl rfl) (Nat.zero_le _) (Nat.zero_le _) ⟨upd o 34 (nI (0 + szN A n)), (updA (updA (updA A 9 (upd (A 9) (nI s).toNatClampNeg y)) 13 g5) 12 (upd (A 12) (nI s).toNatClampNeg (nI (0 + szN A n)))), _, rfl, rfl, fun j a => upd_ne _ _ a, fun r a b => by rw [updA_ne _ _ (by omega), updA_ne _ _ (by omega), updA_ne _ _ (by omega)], up12 hS ⟨_, by omega, rfl⟩⟩
            · skip
              iterate 1 (refine zv_step (bX7_keep 42) rfl rfl trivial ?_)
              refine zv_ift (by decide) ?_
              iterate 1 (refine zv_step (bX7_keep 42) rfl rfl trivial ?_)
              exact zv_iret (bX7_keep 42) rfl (Or.inl rfl) (Nat.zero_le _) (Nat.zero_le _) ⟨o, A, _, rfl, rfl, shM_refl hS⟩
          · skip
            iterate 1 (refine zv_step (bX7_keep 42) rfl rfl trivial ?_)
            refine zv_ift (by decide) ?_
            iterate 3 (refine zv_step (bX7_keep 42) rfl rfl trivial ?_)
            refine zv_S1 (bX7_keep 42) rfl rfl rfl rfl ⟨rfl, rfl, rfl⟩ ⟨by decide, by decide⟩ ⟨Nat.zero_le _, Nat.zero_le _⟩ (hX7_isShelf _ _) ?_
            rintro _ _ ⟨rfl, ⟨g2, rfl⟩ | ⟨g2, rfl⟩⟩
            · obtain ⟨s, hs, rfl⟩ := in_nat (b := 7) (by decide) g2
              iterate 1 (refine zv_step (bX7_keep 42) rfl rfl trivial ?_)
              refine zv_iff (by decide) ?_
              iterate 2 (refine zv_step (bX7_keep 42) rfl rfl trivial ?_)
              refine zv_iff (by decide) ?_
              iterate 1 (refine zv_step (bX7_keep 42) rfl rfl trivial ?_)
              exact zv_iret (bX7_keep 42) rfl (Or.inl rfl) (Nat.zero_le _) (Nat.zero_le _) ⟨o, A, _, rfl, rfl, shM_refl hS⟩
            · skip
              iterate 1 (refine zv_step (bX7_keep 42) rfl rfl trivial ?_)
              refine zv_ift (by decide) ?_
              iterate 1 (refine zv_step (bX7_keep 42) rfl rfl trivial ?_)
              exact zv_iret (bX7_keep 42) rfl (Or.inl rfl) (Nat.zero_le _) (Nat.zero_le _) ⟨o, A, _, rfl, rfl, shM_refl hS⟩
set_option maxHeartbeats 1000000 in
set_option maxRecDepth 20000 in
theorem makeL (f : Nat → zC) (o : Nat → Int32) (A : Nat → Nat → Int32) (J : Nat → Nat → Int64) {n s : Nat} (hn : n ≤ 60) (hs : s < 8) {y : Int32} {n0 : Nat} {Q : Option Value → zW → Prop} (hQ : ∀ g, Q (some (.int (Int32.ofInt 0))) (wR f o (updA A 13 g) J)) : ∀ (c i : Nat) (g : Nat → Int32), i + c = n → ∀ {x4 : Int32}, x4 = nI i → zV (zMo 2 zX7_make) false n0 0 0 53 [(4, .int x4), (0, .ref 76), (1, .int (nI s)), (2, .int y), (3, .int (nI n))] [] (wR f o (updA A 13 g) J) Q := by
  intro c
  induction c with
  | zero =>
    intro i g hc x4 e4
    subst e4
    iterate 3 (refine zv_step (bX7_make 2) rfl rfl trivial ?_)
    refine zv_ift (nI_le (by omega) (by omega)) ?_
    iterate 1 (refine zv_step (bX7_make 2) rfl rfl trivial ?_)
    exact zv_iret (bX7_make 2) rfl (Or.inl rfl) (Nat.zero_le _) (Nat.zero_le _) (hQ g)
  | succ c ih =>
    intro i g hc x4 e4
    subst e4
    iterate 3 (refine zv_step (bX7_make 2) rfl rfl trivial ?_)
    refine zv_iff (fun h => absurd ((nI_leI (by omega) (by omega)).mp h) (by omega)) ?_
    iterate 8 (refine zv_step (bX7_make 2) rfl rfl trivial ?_)
    refine zv_step (bX7_make 2) rfl rfl (show vp_in (c8 60 * nI s + nI i) 480 by rw [ix60]; exact vp_in_nI (by omega) (by decide)) ?_
    iterate 2 (refine zv_step (bX7_make 2) rfl rfl trivial ?_)
    refine zv_world (show _ = wR f o (updA A 13 (upd g (c8 60 * nI s + nI i).toNatClampNeg (Int32.ofInt 0))) J from rfl) ?_
    exact ih (i + 1) _ (by omega) (nI_1 i)
set_option maxHeartbeats 1000000 in
set_option maxRecDepth 20000 in
theorem mMake (f : Nat → zC) (o : Nat → Int32) (A : Nat → Nat → Int32) (J : Nat → Nat → Int64) (hS : szS A) (d y x : Int32) : zK 2 zX7_make [.ref 76, .int d, .int y, .int x] (wR f o A J) (fun r w' => ∃ (o' : Nat → Int32) (A' : Nat → Nat → Int32) (R : Int32), r = some (.int R) ∧ w' = wR f o' A' J ∧ shM o A o' A') := by
  refine zK_of qX7_make (by decide +kernel) rfl ?_
  iterate 1 (refine zv_step (bX7_make 2) rfl rfl trivial ?_)
  refine zv_S1 (bX7_make 2) rfl rfl rfl rfl ⟨rfl, rfl, rfl⟩ ⟨by decide, by decide⟩ ⟨Nat.zero_le _, Nat.zero_le _⟩ (hX7_isShelf _ _) ?_
  rintro _ _ ⟨rfl, ⟨g2, rfl⟩ | ⟨g2, rfl⟩⟩
  · obtain ⟨s, hs, rfl⟩ := in_nat (b := 7) (by decide) g2
    iterate 1 (refine zv_step (bX7_make 2) rfl rfl trivial ?_)
    refine zv_iff (by decide) ?_
    iterate 4 (refine zv_step (bX7_make 2) rfl rfl trivial ?_)
    refine zv_S3 (bX7_make 2) rfl rfl rfl rfl ⟨rfl, rfl, rfl⟩ ⟨by decide, by decide⟩ ⟨Nat.zero_le _, Nat.zero_le _⟩ (mIn _ _ _ _ (a := 3) (b := 4) (by decide) (by decide)) ?_
    rintro _ _ ⟨rfl, ⟨g3, rfl⟩ | ⟨g3, rfl⟩⟩
    · skip
      iterate 1 (refine zv_step (bX7_make 2) rfl rfl trivial ?_)
      refine zv_iff (by decide) ?_
      iterate 3 (refine zv_step (bX7_make 2) rfl rfl trivial ?_)
      refine zv_ifb (fun h24 => ?_) (fun h24 => ?_)
      · iterate 2 (refine zv_step (bX7_make 2) rfl rfl trivial ?_)
        refine zv_ifb (fun h30 => ?_) (fun h30 => ?_)
        · obtain ⟨n, hn, rfl⟩ := in_nat (x := x) (b := 60) (by decide) ⟨by have a1 : (0 : Int32) ≤ x := h30; rwa [Int32.le_iff_toInt_le, Int32.toInt_zero] at a1, by have a2 : x ≤ c8 60 := h24; rwa [Int32.le_iff_toInt_le, show (c8 60).toInt = 60 from rfl] at a2⟩
          iterate 4 (refine zv_step (bX7_make 2) rfl rfl trivial ?_)
          refine zv_step (bX7_make 2) rfl rfl (show vp_in (nI s) 8 from vp_in_nI (by omega) (by decide)) ?_
          iterate 4 (refine zv_step (bX7_make 2) rfl rfl trivial ?_)
          refine zv_step (bX7_make 2) rfl rfl (show vp_in (nI s) 8 from vp_in_nI (by omega) (by decide)) ?_
          iterate 2 (refine zv_step (bX7_make 2) rfl rfl trivial ?_)
          refine zv_world (show _ = wR f o (updA (updA (updA A 9 (upd (A 9) (nI s).toNatClampNeg y)) 12 (upd (A 12) (nI s).toNatClampNeg (nI n))) 13 (A 13)) J from rfl) ?_
          exact makeL f o _ J hn (by omega) (fun g => ⟨o, _, _, rfl, rfl, fun _ _ => rfl, fun r a b => by rw [updA_ne _ _ (by omega), updA_ne _ _ (by omega), updA_ne _ _ (by omega)], up12 hS ⟨n, hn, rfl⟩⟩) n 0 (A 13) (by omega) rfl
        · iterate 1 (refine zv_step (bX7_make 2) rfl rfl trivial ?_)
          exact zv_iret (bX7_make 2) rfl (Or.inl rfl) (Nat.zero_le _) (Nat.zero_le _) ⟨o, A, _, rfl, rfl, shM_refl hS⟩
      · iterate 1 (refine zv_step (bX7_make 2) rfl rfl trivial ?_)
        exact zv_iret (bX7_make 2) rfl (Or.inl rfl) (Nat.zero_le _) (Nat.zero_le _) ⟨o, A, _, rfl, rfl, shM_refl hS⟩
    · skip
      iterate 1 (refine zv_step (bX7_make 2) rfl rfl trivial ?_)
      refine zv_ift (by decide) ?_
      iterate 1 (refine zv_step (bX7_make 2) rfl rfl trivial ?_)
      exact zv_iret (bX7_make 2) rfl (Or.inl rfl) (Nat.zero_le _) (Nat.zero_le _) ⟨o, A, _, rfl, rfl, shM_refl hS⟩
  · skip
    iterate 1 (refine zv_step (bX7_make 2) rfl rfl trivial ?_)
    refine zv_ift (by decide) ?_
    iterate 1 (refine zv_step (bX7_make 2) rfl rfl trivial ?_)
    exact zv_iret (bX7_make 2) rfl (Or.inl rfl) (Nat.zero_le _) (Nat.zero_le _) ⟨o, A, _, rfl, rfl, shM_refl hS⟩
set_option maxHeartbeats 1000000 in
set_option maxRecDepth 20000 in
theorem mElement (f : Nat → zC) (o : Nat → Int32) (A : Nat → Nat → Int32) (J : Nat → Nat → Int64) (hS : szS A) (d x : Int32) : zK 2 zX7_element [.ref 76, .int d, .int x] (wR f o A J) (fun r w' => ∃ (R : Int64) (t : Int32), r = some (.long R) ∧ w' = wR f (upd o 16 t) A J) := by
  refine zK_of qX7_element (by decide +kernel) rfl ?_
  iterate 2 (refine zv_step (bX7_element 2) rfl rfl trivial ?_)
  refine zv_S1 (bX7_element 2) rfl rfl rfl rfl ⟨rfl, rfl, rfl⟩ ⟨by decide, by decide⟩ ⟨Nat.zero_le _, Nat.zero_le _⟩ (hX7_isShelf _ _) ?_
  rintro _ _ ⟨rfl, ⟨g2, rfl⟩ | ⟨g2, rfl⟩⟩
  · obtain ⟨s, hs, rfl⟩ := in_nat (b := 7) (by decide) g2
    obtain ⟨m, hm, em⟩ := hS s (by omega)
    iterate 1 (refine zv_step (bX7_element 2) rfl rfl trivial ?_)
    refine zv_ift (by decide) ?_
    iterate 3 (refine zv_step (bX7_element 2) rfl rfl trivial ?_)
    refine zv_step (bX7_element 2) rfl rfl (show vp_in (nI s) 8 from vp_in_nI (by omega) (by decide)) ?_
    iterate 2 (refine zv_step (bX7_element 2) rfl rfl trivial ?_)
    refine zv_ifb (fun h19 => ?_) (fun h19 => ?_)
    · iterate 6 (refine zv_step (bX7_element 2) rfl rfl trivial ?_)
      refine zv_ift (by decide) ?_
      iterate 1 (refine zv_step (bX7_element 2) rfl rfl trivial ?_)
      exact zv_lret (bX7_element 2) rfl rfl (Nat.zero_le _) (Nat.zero_le _) ⟨_, Int32.ofInt 2, rfl, rfl⟩
    · iterate 6 (refine zv_step (bX7_element 2) rfl rfl trivial ?_)
      refine zv_iale (bX7_element 2) rfl rfl (show vp_in (nI s) 8 from vp_in_nI (by omega) (by decide)) (show A 12 (nI s).toNatClampNeg = nI m by rw [nI_clamp (by omega)]; exact em) ?_
      iterate 3 (refine zv_step (bX7_element 2) rfl rfl trivial ?_)
      refine zv_S3 (bX7_element 2) rfl rfl rfl rfl ⟨rfl, rfl, rfl⟩ ⟨by decide, by decide⟩ ⟨Nat.zero_le _, Nat.zero_le _⟩ (mIn _ _ _ _ (a := 0) (b := (m : Int) - 1) (by decide) (by rw [Int32.toInt_toInt64]; exact pred_toInt (by omega))) ?_
      rintro _ _ ⟨rfl, ⟨g3, rfl⟩ | ⟨g3, rfl⟩⟩
      · obtain ⟨i, hi, rfl⟩ := nd_of (u := m) (by omega) g3
        iterate 1 (refine zv_step (bX7_element 2) rfl rfl trivial ?_)
        refine zv_ift (by decide) ?_
        iterate 5 (refine zv_step (bX7_element 2) rfl rfl trivial ?_)
        refine zv_iff (by decide) ?_
        iterate 7 (refine zv_step (bX7_element 2) rfl rfl trivial ?_)
        refine zv_step (bX7_element 2) rfl rfl (show vp_in (c8 60 * nI s + nI i) 480 by rw [ix60]; exact vp_in_nI (by omega) (by decide)) ?_
        iterate 2 (refine zv_step (bX7_element 2) rfl rfl trivial ?_)
        exact zv_lret (bX7_element 2) rfl rfl (Nat.zero_le _) (Nat.zero_le _) ⟨_, Int32.ofInt 0, rfl, rfl⟩
      · skip
        iterate 1 (refine zv_step (bX7_element 2) rfl rfl trivial ?_)
        refine zv_iff (by decide) ?_
        iterate 6 (refine zv_step (bX7_element 2) rfl rfl trivial ?_)
        refine zv_ift (by decide) ?_
        iterate 1 (refine zv_step (bX7_element 2) rfl rfl trivial ?_)
        exact zv_lret (bX7_element 2) rfl rfl (Nat.zero_le _) (Nat.zero_le _) ⟨_, Int32.ofInt 2, rfl, rfl⟩
  · skip
    iterate 1 (refine zv_step (bX7_element 2) rfl rfl trivial ?_)
    refine zv_iff (by decide) ?_
    iterate 6 (refine zv_step (bX7_element 2) rfl rfl trivial ?_)
    refine zv_ift (by decide) ?_
    iterate 1 (refine zv_step (bX7_element 2) rfl rfl trivial ?_)
    exact zv_lret (bX7_element 2) rfl rfl (Nat.zero_le _) (Nat.zero_le _) ⟨_, Int32.ofInt 1, rfl, rfl⟩
set_option maxHeartbeats 1000000 in
set_option maxRecDepth 20000 in
theorem copyL2 (f : Nat → zC) (o : Nat → Int32) (A : Nat → Nat → Int32) (J : Nat → Nat → Int64) {n s a t b : Nat} (hs : s < 8) (ht : t < 8) (ha : a + n ≤ 60) (hb : b + n ≤ 60) {n0 : Nat} {Q : Option Value → zW → Prop} (hQ : ∀ g, Q (some (.int (nI n))) (wR f o (updA A 13 g) J)) : ∀ (c i : Nat) (g : Nat → Int32), i + c = n → ∀ {x6 : Int32}, x6 = nI i → zV (zMo 2 zX7_copy) false n0 0 0 149 [(6, .int x6), (0, .ref 76), (1, .int (nI s)), (2, .int (nI a)), (3, .int (nI t)), (4, .int (nI b)), (5, .int (nI n))] [] (wR f o (updA A 13 g) J) Q := by
  intro c
  induction c with
  | zero =>
    intro i g hc x6 e6
    subst e6
    iterate 3 (refine zv_step (bX7_copy 2) rfl rfl trivial ?_)
    refine zv_ift (nI_le (by omega) (by omega)) ?_
    iterate 1 (refine zv_step (bX7_copy 2) rfl rfl trivial ?_)
    exact zv_iret (bX7_copy 2) rfl (Or.inl rfl) (Nat.zero_le _) (Nat.zero_le _) (hQ g)
  | succ c ih =>
    intro i g hc x6 e6
    subst e6
    iterate 3 (refine zv_step (bX7_copy 2) rfl rfl trivial ?_)
    refine zv_iff (fun h => absurd ((nI_leI (by omega) (by omega)).mp h) (by omega)) ?_
    iterate 12 (refine zv_step (bX7_copy 2) rfl rfl trivial ?_)
    refine zv_step (bX7_copy 2) rfl rfl (vp_in_nI (by omega) (by decide)) ?_
    refine zv_step (bX7_copy 2) rfl rfl (show vp_in (c8 60 * nI t + nI b + nI i) 480 by rw [ix60, nI_add]; exact vp_in_nI (by omega) (by decide)) ?_
    iterate 2 (refine zv_step (bX7_copy 2) rfl rfl trivial ?_)
    refine zv_world (show _ = wR f o (updA A 13 (upd g (c8 60 * nI t + nI b + nI i).toNatClampNeg (A 15 (nI i).toNatClampNeg))) J from rfl) ?_
    exact ih (i + 1) _ (by omega) (nI_1 i)
set_option maxHeartbeats 1000000 in
set_option maxRecDepth 20000 in
theorem copyL1 (f : Nat → zC) (o : Nat → Int32) (A : Nat → Nat → Int32) (J : Nat → Nat → Int64) {n s a t b : Nat} (hs : s < 8) (ht : t < 8) (ha : a + n ≤ 60) (hb : b + n ≤ 60) {n0 : Nat} {Q : Option Value → zW → Prop} (hQ : ∀ g g', Q (some (.int (nI n))) (wR f o (updA (updA A 15 g) 13 g') J)) : ∀ (c i : Nat) (g : Nat → Int32), i + c = n → ∀ {x6 : Int32}, x6 = nI i → zV (zMo 2 zX7_copy) false n0 0 0 112 [(6, .int x6), (0, .ref 76), (1, .int (nI s)), (2, .int (nI a)), (3, .int (nI t)), (4, .int (nI b)), (5, .int (nI n))] [] (wR f o (updA A 15 g) J) Q := by
  intro c
  induction c with
  | zero =>
    intro i g hc x6 e6
    subst e6
    iterate 3 (refine zv_step (bX7_copy 2) rfl rfl trivial ?_)
    refine zv_ift (nI_le (by omega) (by omega)) ?_
    iterate 2 (refine zv_step (bX7_copy 2) rfl rfl trivial ?_)
    refine zv_world (show _ = wR f o (updA (updA A 15 g) 13 (A 13)) J from rfl) ?_
    exact copyL2 f o (updA A 15 g) J hs ht ha hb (fun g' => hQ g g') n 0 (A 13) (by omega) rfl
  | succ c ih =>
    intro i g hc x6 e6
    subst e6
    iterate 3 (refine zv_step (bX7_copy 2) rfl rfl trivial ?_)
    refine zv_iff (fun h => absurd ((nI_leI (by omega) (by omega)).mp h) (by omega)) ?_
    iterate 12 (refine zv_step (bX7_copy 2) rfl rfl trivial ?_)
    refine zv_step (bX7_copy 2) rfl rfl (show vp_in (c8 60 * nI s + nI a + nI i) 480 by rw [ix60, nI_add]; exact vp_in_nI (by omega) (by decide)) ?_
    refine zv_step (bX7_copy 2) rfl rfl (vp_in_nI (by omega) (by decide)) ?_
    iterate 2 (refine zv_step (bX7_copy 2) rfl rfl trivial ?_)
    refine zv_world (show _ = wR f o (updA A 15 (upd g (nI i).toNatClampNeg (A 13 (c8 60 * nI s + nI a + nI i).toNatClampNeg))) J from rfl) ?_
    exact ih (i + 1) _ (by omega) (nI_1 i)
theorem span_ab {m : Nat} {i n : Int32} (hm : m ≤ 60) (h1 : ¬ i < 0) (h2 : ¬ n < 0) (h : i ≤ nI m - n) : ∃ a c : Nat, i = nI a ∧ n = nI c ∧ a + c ≤ 60 := by
  obtain ⟨a, ha, rfl⟩ := nI_of h1
  obtain ⟨c, hc, rfl⟩ := nI_of h2
  have := (span_le hm ⟨Int32.not_lt.mp h1, Int32.not_lt.mp h2, h⟩).1
  rw [nI_clamp ha, nI_clamp hc] at this
  exact ⟨a, c, rfl, rfl, this⟩
set_option maxHeartbeats 1000000 in
set_option maxRecDepth 20000 in
theorem mCopy (f : Nat → zC) (o : Nat → Int32) (A : Nat → Nat → Int32) (J : Nat → Nat → Int64) (hS : szS A) (d x e y z : Int32) : zK 2 zX7_copy [.ref 76, .int d, .int x, .int e, .int y, .int z] (wR f o A J) (fun r w' => ∃ (o' : Nat → Int32) (A' : Nat → Nat → Int32) (R : Int32), r = some (.int R) ∧ w' = wR f o' A' J ∧ shM o A o' A') := by
  refine zK_of qX7_copy (by decide +kernel) rfl ?_
  iterate 1 (refine zv_step (bX7_copy 2) rfl rfl trivial ?_)
  refine zv_S1 (bX7_copy 2) rfl rfl rfl rfl ⟨rfl, rfl, rfl⟩ ⟨by decide, by decide⟩ ⟨Nat.zero_le _, Nat.zero_le _⟩ (hX7_isShelf _ _) ?_
  rintro _ _ ⟨rfl, ⟨g1, rfl⟩ | ⟨g1, rfl⟩⟩
  · obtain ⟨s, hs, rfl⟩ := in_nat (b := 7) (by decide) g1
    obtain ⟨m, hm, em⟩ := hS s (by omega)
    iterate 1 (refine zv_step (bX7_copy 2) rfl rfl trivial ?_)
    refine zv_iff (by decide) ?_
    iterate 1 (refine zv_step (bX7_copy 2) rfl rfl trivial ?_)
    refine zv_S1 (bX7_copy 2) rfl rfl rfl rfl ⟨rfl, rfl, rfl⟩ ⟨by decide, by decide⟩ ⟨Nat.zero_le _, Nat.zero_le _⟩ (hX7_isShelf _ _) ?_
    rintro _ _ ⟨rfl, ⟨g2, rfl⟩ | ⟨g2, rfl⟩⟩
    · obtain ⟨t, ht, rfl⟩ := in_nat (b := 7) (by decide) g2
      obtain ⟨l, hl, el⟩ := hS t (by omega)
      iterate 1 (refine zv_step (bX7_copy 2) rfl rfl trivial ?_)
      refine zv_ift (by decide) ?_
      iterate 3 (refine zv_step (bX7_copy 2) rfl rfl trivial ?_)
      refine zv_step (bX7_copy 2) rfl rfl (show vp_in (nI s) 8 from vp_in_nI (by omega) (by decide)) ?_
      iterate 1 (refine zv_step (bX7_copy 2) rfl rfl trivial ?_)
      refine zv_ifb (fun h22 => ?_) (fun h22 => ?_)
      · iterate 1 (refine zv_step (bX7_copy 2) rfl rfl trivial ?_)
        exact zv_iret (bX7_copy 2) rfl (Or.inl rfl) (Nat.zero_le _) (Nat.zero_le _) ⟨o, A, _, rfl, rfl, shM_refl hS⟩
      · iterate 3 (refine zv_step (bX7_copy 2) rfl rfl trivial ?_)
        refine zv_step (bX7_copy 2) rfl rfl (show vp_in (nI t) 8 from vp_in_nI (by omega) (by decide)) ?_
        iterate 1 (refine zv_step (bX7_copy 2) rfl rfl trivial ?_)
        refine zv_ifb (fun h31 => ?_) (fun h31 => ?_)
        · iterate 3 (refine zv_step (bX7_copy 2) rfl rfl trivial ?_)
          refine zv_step (bX7_copy 2) rfl rfl (show vp_in (nI s) 8 from vp_in_nI (by omega) (by decide)) ?_
          iterate 2 (refine zv_step (bX7_copy 2) rfl rfl trivial ?_)
          refine zv_ifb (fun h44 => ?_) (fun h44 => ?_)
          · iterate 1 (refine zv_step (bX7_copy 2) rfl rfl trivial ?_)
            exact zv_iret (bX7_copy 2) rfl (Or.inl rfl) (Nat.zero_le _) (Nat.zero_le _) ⟨o, A, _, rfl, rfl, shM_refl hS⟩
          · iterate 3 (refine zv_step (bX7_copy 2) rfl rfl trivial ?_)
            refine zv_step (bX7_copy 2) rfl rfl (show vp_in (nI s) 8 from vp_in_nI (by omega) (by decide)) ?_
            iterate 3 (refine zv_step (bX7_copy 2) rfl rfl trivial ?_)
            refine zv_step (bX7_copy 2) rfl rfl (show vp_in (nI t) 8 from vp_in_nI (by omega) (by decide)) ?_
            iterate 1 (refine zv_step (bX7_copy 2) rfl rfl trivial ?_)
            refine zv_ifb (fun h59 => ?_) (fun h59 => ?_)
            · iterate 2 (refine zv_step (bX7_copy 2) rfl rfl trivial ?_)
              refine zv_ifb (fun h67 => ?_) (fun h67 => ?_)
              · iterate 1 (refine zv_step (bX7_copy 2) rfl rfl trivial ?_)
                exact zv_iret (bX7_copy 2) rfl (Or.inl rfl) (Nat.zero_le _) (Nat.zero_le _) ⟨o, A, _, rfl, rfl, shM_refl hS⟩
              · iterate 2 (refine zv_step (bX7_copy 2) rfl rfl trivial ?_)
                refine zv_ifb (fun h71 => ?_) (fun h71 => ?_)
                · iterate 1 (refine zv_step (bX7_copy 2) rfl rfl trivial ?_)
                  exact zv_iret (bX7_copy 2) rfl (Or.inl rfl) (Nat.zero_le _) (Nat.zero_le _) ⟨o, A, _, rfl, rfl, shM_refl hS⟩
                · iterate 2 (refine zv_step (bX7_copy 2) rfl rfl trivial ?_)
                  refine zv_ifb (fun h76 => ?_) (fun h76 => ?_)
                  · iterate 1 (refine zv_step (bX7_copy 2) rfl rfl trivial ?_)
                    exact zv_iret (bX7_copy 2) rfl (Or.inl rfl) (Nat.zero_le _) (Nat.zero_le _) ⟨o, A, _, rfl, rfl, shM_refl hS⟩
                  · iterate 4 (refine zv_step (bX7_copy 2) rfl rfl trivial ?_)
                    refine zv_iale (bX7_copy 2) rfl rfl (show vp_in (nI s) 8 from vp_in_nI (by omega) (by decide)) (show A 12 (nI s).toNatClampNeg = nI m by rw [nI_clamp (by omega)]; exact em) ?_
                    iterate 3 (refine zv_step (bX7_copy 2) rfl rfl trivial ?_)
                    refine zv_ifb (fun h89 => ?_) (fun h89 => ?_)
                    · iterate 1 (refine zv_step (bX7_copy 2) rfl rfl trivial ?_)
                      exact zv_iret (bX7_copy 2) rfl (Or.inl rfl) (Nat.zero_le _) (Nat.zero_le _) ⟨o, A, _, rfl, rfl, shM_refl hS⟩
                    · iterate 4 (refine zv_step (bX7_copy 2) rfl rfl trivial ?_)
                      refine zv_iale (bX7_copy 2) rfl rfl (show vp_in (nI t) 8 from vp_in_nI (by omega) (by decide)) (show A 12 (nI t).toNatClampNeg = nI l by rw [nI_clamp (by omega)]; exact el) ?_
                      iterate 3 (refine zv_step (bX7_copy 2) rfl rfl trivial ?_)
                      refine zv_ifb (fun h103 => ?_) (fun h103 => ?_)
                      · obtain ⟨a, n, rfl, rfl, ha⟩ := span_ab hm h71 h67 (Int32.not_lt.mp h89)
                        obtain ⟨b, n2, rfl, e9, hb⟩ := span_ab hl h76 h67 h103
                        have hb2 : b + n ≤ 60 := by
                          have : n = n2 := (nI_eq (by omega) (by omega)).mp e9
                          omega
                        iterate 2 (refine zv_step (bX7_copy 2) rfl rfl trivial ?_)
                        refine zv_world (show _ = wR f o (updA A 15 (A 15)) J from rfl) ?_
                        exact copyL1 f o A J (by omega) (by omega) ha hb2 (fun g g' => ⟨o, _, _, rfl, rfl, fun _ _ => rfl, fun r a b => by rw [updA_ne _ _ (by omega), updA_ne _ _ (by omega)], hS⟩) n 0 (A 15) (by omega) rfl
                      · iterate 1 (refine zv_step (bX7_copy 2) rfl rfl trivial ?_)
                        exact zv_iret (bX7_copy 2) rfl (Or.inl rfl) (Nat.zero_le _) (Nat.zero_le _) ⟨o, A, _, rfl, rfl, shM_refl hS⟩
            · iterate 1 (refine zv_step (bX7_copy 2) rfl rfl trivial ?_)
              exact zv_iret (bX7_copy 2) rfl (Or.inl rfl) (Nat.zero_le _) (Nat.zero_le _) ⟨o, A, _, rfl, rfl, shM_refl hS⟩
        · iterate 1 (refine zv_step (bX7_copy 2) rfl rfl trivial ?_)
          exact zv_iret (bX7_copy 2) rfl (Or.inl rfl) (Nat.zero_le _) (Nat.zero_le _) ⟨o, A, _, rfl, rfl, shM_refl hS⟩
    · skip
      iterate 1 (refine zv_step (bX7_copy 2) rfl rfl trivial ?_)
      refine zv_iff (by decide) ?_
      iterate 1 (refine zv_step (bX7_copy 2) rfl rfl trivial ?_)
      exact zv_iret (bX7_copy 2) rfl (Or.inl rfl) (Nat.zero_le _) (Nat.zero_le _) ⟨o, A, _, rfl, rfl, shM_refl hS⟩
  · skip
    iterate 1 (refine zv_step (bX7_copy 2) rfl rfl trivial ?_)
    refine zv_ift (by decide) ?_
    iterate 1 (refine zv_step (bX7_copy 2) rfl rfl trivial ?_)
    exact zv_iret (bX7_copy 2) rfl (Or.inl rfl) (Nat.zero_le _) (Nat.zero_le _) ⟨o, A, _, rfl, rfl, shM_refl hS⟩
set_option maxHeartbeats 1000000 in
set_option maxRecDepth 20000 in
theorem mHeld (f : Nat → zC) (o : Nat → Int32) (A : Nat → Nat → Int32) (J : Nat → Nat → Int64) (d : Int32) : zK 2 zX7_held [.ref 76, .int d] (wR f o A J) (fun r w' => w' = (wR f o A J) ∧ ∃ v : Int32, r = some (.int v) ∧ (v = 0 → ∃ s : Nat, s < 8 ∧ d = nI s)) := by
  refine zK_of qX7_held (by decide +kernel) rfl ?_
  iterate 1 (refine zv_step (bX7_held 2) rfl rfl trivial ?_)
  refine zv_S1 (bX7_held 2) rfl rfl rfl rfl ⟨rfl, rfl, rfl⟩ ⟨by decide, by decide⟩ ⟨Nat.zero_le _, Nat.zero_le _⟩ (hX7_isShelf _ _) ?_
  rintro _ _ ⟨rfl, ⟨g1, rfl⟩ | ⟨g1, rfl⟩⟩
  · obtain ⟨s, hs, rfl⟩ := in_nat (b := 7) (by decide) g1
    iterate 1 (refine zv_step (bX7_held 2) rfl rfl trivial ?_)
    refine zv_ift (by decide) ?_
    iterate 3 (refine zv_step (bX7_held 2) rfl rfl trivial ?_)
    refine zv_step (bX7_held 2) rfl rfl (show vp_in (nI s) 8 from vp_in_nI (by omega) (by decide)) ?_
    iterate 1 (refine zv_step (bX7_held 2) rfl rfl trivial ?_)
    refine zv_ifb (fun h17 => ?_) (fun h17 => ?_)
    · iterate 3 (refine zv_step (bX7_held 2) rfl rfl trivial ?_)
      refine zv_step (bX7_held 2) rfl rfl (show vp_in (nI s) 8 from vp_in_nI (by omega) (by decide)) ?_
      iterate 2 (refine zv_step (bX7_held 2) rfl rfl trivial ?_)
      refine zv_ifb (fun h32 => ?_) (fun h32 => ?_)
      · iterate 1 (refine zv_step (bX7_held 2) rfl rfl trivial ?_)
        exact zv_iret (bX7_held 2) rfl (Or.inl rfl) (Nat.zero_le _) (Nat.zero_le _) ⟨rfl, _, rfl, fun _ => ⟨s, by omega, rfl⟩⟩
      · iterate 2 (refine zv_step (bX7_held 2) rfl rfl trivial ?_)
        exact zv_iret (bX7_held 2) rfl (Or.inl rfl) (Nat.zero_le _) (Nat.zero_le _) ⟨rfl, _, rfl, fun h => absurd h (by decide)⟩
    · iterate 2 (refine zv_step (bX7_held 2) rfl rfl trivial ?_)
      exact zv_iret (bX7_held 2) rfl (Or.inl rfl) (Nat.zero_le _) (Nat.zero_le _) ⟨rfl, _, rfl, fun h => absurd h (by decide)⟩
  · skip
    iterate 1 (refine zv_step (bX7_held 2) rfl rfl trivial ?_)
    refine zv_iff (by decide) ?_
    iterate 2 (refine zv_step (bX7_held 2) rfl rfl trivial ?_)
    exact zv_iret (bX7_held 2) rfl (Or.inl rfl) (Nat.zero_le _) (Nat.zero_le _) ⟨rfl, _, rfl, fun h => absurd h (by decide)⟩
set_option maxHeartbeats 1000000 in
set_option maxRecDepth 20000 in
theorem mToss (f : Nat → zC) (o : Nat → Int32) (A : Nat → Nat → Int32) (J : Nat → Nat → Int64) (d : Int32) : zK 3 zX7_toss [.ref 76, .int d] (wR f o A J) (fun r w' => w' = (wR f o A J) ∧ ∃ v : Int32, r = some (.int v)) := by
  refine zK_of qX7_toss (by decide +kernel) rfl ?_
  iterate 2 (refine zv_step (bX7_toss 3) rfl rfl trivial ?_)
  refine zv_V1 (bX7_toss 3) rfl rfl rfl rfl rfl rfl rfl ⟨rfl, rfl, rfl⟩ ⟨by decide, by decide⟩ ⟨Nat.zero_le _, Nat.zero_le _⟩ (mHeld f o A J _) ?_
  rintro _ _ ⟨rfl, v, rfl, hv⟩
  iterate 3 (refine zv_step (bX7_toss 3) rfl rfl trivial ?_)
  refine zv_ifb (fun h7 => ?_) (fun h7 => ?_)
  · obtain ⟨s, hs, rfl⟩ := hv h7
    iterate 3 (refine zv_step (bX7_toss 3) rfl rfl trivial ?_)
    refine zv_step (bX7_toss 3) rfl rfl (show vp_in (nI s) 8 from vp_in_nI (by omega) (by decide)) ?_
    iterate 1 (refine zv_step (bX7_toss 3) rfl rfl trivial ?_)
    refine zv_ifb (fun h20 => ?_) (fun h20 => ?_)
    · iterate 3 (refine zv_step (bX7_toss 3) rfl rfl trivial ?_)
      refine zv_step (bX7_toss 3) rfl rfl (show vp_in (nI s) 8 from vp_in_nI (by omega) (by decide)) ?_
      exact zv_iret (bX7_toss 3) rfl (Or.inl rfl) (Nat.zero_le _) (Nat.zero_le _) ⟨rfl, _, rfl⟩
    · iterate 2 (refine zv_step (bX7_toss 3) rfl rfl trivial ?_)
      exact zv_iret (bX7_toss 3) rfl (Or.inl rfl) (Nat.zero_le _) (Nat.zero_le _) ⟨rfl, _, rfl⟩
  · iterate 2 (refine zv_step (bX7_toss 3) rfl rfl trivial ?_)
    exact zv_iret (bX7_toss 3) rfl (Or.inl rfl) (Nat.zero_le _) (Nat.zero_le _) ⟨rfl, _, rfl⟩
set_option maxHeartbeats 1000000 in
set_option maxRecDepth 20000 in
theorem mWeightT (f : Nat → zC) (o : Nat → Int32) (A : Nat → Nat → Int32) (J : Nat → Nat → Int64) {s : Nat} (hs : s < 8) (a v : Int32) {n0 : Nat} : zV (zMo 3 zX7_weight) false n0 0 0 28 [(3, .int a), (2, .int v), (0, .ref 76), (1, .int (nI s))] [.int (A 10 s)] (wR f o A J) (fun r w' => w' = (wR f o A J) ∧ ∃ v : Int32, r = some (.int v)) := by
  by_cases hd : (A 10 s).toInt < 1 ∨ 9 < (A 10 s).toInt
  · refine zv_step (bX7_weight 3) rfl rfl (by decide) ?_
    rw [if_pos hd]
    iterate 1 (refine zv_step (bX7_weight 3) rfl rfl trivial ?_)
    exact zv_iret (bX7_weight 3) rfl (Or.inl rfl) (Nat.zero_le _) (Nat.zero_le _) ⟨rfl, _, rfl⟩
  · obtain ⟨c, hc, e⟩ : ∃ c : Nat, c < 9 ∧ A 10 s = nI (c + 1) := by
      refine ⟨(A 10 s).toInt.toNat - 1, by omega, ?_⟩
      rw [← Int32.toInt_inj, nI_toInt (by omega)]
      omega
    rw [e]
    match c, hc with
    | 0, _ =>
      refine zv_step (bX7_weight 3) rfl rfl (by decide) ?_
      iterate 4 (refine zv_step (bX7_weight 3) rfl rfl trivial ?_)
      refine zv_step (bX7_weight 3) rfl rfl (show vp_in (nI s) 8 from vp_in_nI (by omega) (by decide)) ?_
      iterate 1 (refine zv_step (bX7_weight 3) rfl rfl trivial ?_)
      exact zv_iret (bX7_weight 3) rfl (Or.inl rfl) (Nat.zero_le _) (Nat.zero_le _) ⟨rfl, _, rfl⟩
    | 1, _ =>
      refine zv_step (bX7_weight 3) rfl rfl (by decide) ?_
      iterate 1 (refine zv_step (bX7_weight 3) rfl rfl trivial ?_)
      exact zv_iret (bX7_weight 3) rfl (Or.inl rfl) (Nat.zero_le _) (Nat.zero_le _) ⟨rfl, _, rfl⟩
    | 2, _ =>
      refine zv_step (bX7_weight 3) rfl rfl (by decide) ?_
      iterate 1 (refine zv_step (bX7_weight 3) rfl rfl trivial ?_)
      exact zv_iret (bX7_weight 3) rfl (Or.inl rfl) (Nat.zero_le _) (Nat.zero_le _) ⟨rfl, _, rfl⟩
    | 3, _ =>
      refine zv_step (bX7_weight 3) rfl rfl (by decide) ?_
      iterate 1 (refine zv_step (bX7_weight 3) rfl rfl trivial ?_)
      exact zv_iret (bX7_weight 3) rfl (Or.inl rfl) (Nat.zero_le _) (Nat.zero_le _) ⟨rfl, _, rfl⟩
    | 4, _ =>
      refine zv_step (bX7_weight 3) rfl rfl (by decide) ?_
      iterate 3 (refine zv_step (bX7_weight 3) rfl rfl trivial ?_)
      exact zv_iret (bX7_weight 3) rfl (Or.inl rfl) (Nat.zero_le _) (Nat.zero_le _) ⟨rfl, _, rfl⟩
    | 5, _ =>
      refine zv_step (bX7_weight 3) rfl rfl (by decide) ?_
      iterate 3 (refine zv_step (bX7_weight 3) rfl rfl trivial ?_)
      exact zv_iret (bX7_weight 3) rfl (Or.inl rfl) (Nat.zero_le _) (Nat.zero_le _) ⟨rfl, _, rfl⟩
    | 6, _ =>
      refine zv_step (bX7_weight 3) rfl rfl (by decide) ?_
      iterate 1 (refine zv_step (bX7_weight 3) rfl rfl trivial ?_)
      exact zv_iret (bX7_weight 3) rfl (Or.inl rfl) (Nat.zero_le _) (Nat.zero_le _) ⟨rfl, _, rfl⟩
    | 7, _ =>
      refine zv_step (bX7_weight 3) rfl rfl (by decide) ?_
      iterate 3 (refine zv_step (bX7_weight 3) rfl rfl trivial ?_)
      exact zv_iret (bX7_weight 3) rfl (Or.inl rfl) (Nat.zero_le _) (Nat.zero_le _) ⟨rfl, _, rfl⟩
    | 8, _ =>
      refine zv_step (bX7_weight 3) rfl rfl (by decide) ?_
      iterate 3 (refine zv_step (bX7_weight 3) rfl rfl trivial ?_)
      exact zv_iret (bX7_weight 3) rfl (Or.inl rfl) (Nat.zero_le _) (Nat.zero_le _) ⟨rfl, _, rfl⟩
    | c + 9, h => exact absurd h (by omega)
set_option maxHeartbeats 1000000 in
set_option maxRecDepth 20000 in
theorem mWeight (f : Nat → zC) (o : Nat → Int32) (A : Nat → Nat → Int32) (J : Nat → Nat → Int64) (d : Int32) : zK 3 zX7_weight [.ref 76, .int d] (wR f o A J) (fun r w' => w' = (wR f o A J) ∧ ∃ v : Int32, r = some (.int v)) := by
  refine zK_of qX7_weight (by decide +kernel) rfl ?_
  iterate 2 (refine zv_step (bX7_weight 3) rfl rfl trivial ?_)
  refine zv_V1 (bX7_weight 3) rfl rfl rfl rfl rfl rfl rfl ⟨rfl, rfl, rfl⟩ ⟨by decide, by decide⟩ ⟨Nat.zero_le _, Nat.zero_le _⟩ (mHeld f o A J _) ?_
  rintro _ _ ⟨rfl, v, rfl, hv⟩
  iterate 3 (refine zv_step (bX7_weight 3) rfl rfl trivial ?_)
  refine zv_ifb (fun h7 => ?_) (fun h7 => ?_)
  · obtain ⟨s, hs, rfl⟩ := hv h7
    iterate 3 (refine zv_step (bX7_weight 3) rfl rfl trivial ?_)
    refine zv_step (bX7_weight 3) rfl rfl (show vp_in (nI s) 8 from vp_in_nI (by omega) (by decide)) ?_
    iterate 6 (refine zv_step (bX7_weight 3) rfl rfl trivial ?_)
    refine zv_iale (bX7_weight 3) rfl rfl (show vp_in (nI s) 8 from vp_in_nI (by omega) (by decide)) (show A 10 (nI s).toNatClampNeg = A 10 s by rw [nI_clamp (by omega)]) ?_
    exact mWeightT f o A J hs _ _
  · iterate 1 (refine zv_step (bX7_weight 3) rfl rfl trivial ?_)
    exact zv_iret (bX7_weight 3) rfl (Or.inl rfl) (Nat.zero_le _) (Nat.zero_le _) ⟨rfl, _, rfl⟩
