theorem wyI_set {Y : Nat → Nat → Int64} {i j : Nat} {v : Int64} (h : wyI Y) (hv : inB v (8 ^ (j - i - 1))) : wyI (updJ Y (34 + i) (vp_updL (Y (34 + i)) j v)) := by
  intro i' j' h1 h2
  unfold updJ
  by_cases e : i' = i
  · subst e
    rw [if_pos rfl]
    unfold vp_updL
    by_cases e2 : j' = j
    · subst e2
      rw [if_pos rfl]
      exact hv
    · rw [if_neg e2]
      exact h i' j' h1 h2
  · rw [if_neg (by omega)]
    exact h i' j' h1 h2
theorem nI_plus (a b : Nat) : nI a + nI b = nI (a + b) := by
  induction b with
  | zero => exact Int32.add_zero _
  | succ b ih =>
    rw [← nI_1 b, ← Int32.add_assoc, ih]
    exact nI_1 (a + b)
theorem pf_any {a b : Nat} (hb : 1 ≤ b) (k : Int32) : ∃ f t : Nat, pfW k (nI a) = nI f ∧ ptoW k (nI b) = nI t ∧ a < f ∧ f ≤ a + 2 ∧ t ≤ b := by
  have h2 : ∃ t : Nat, ptoW k (nI b) = nI t ∧ t ≤ b := by
    by_cases h : k = c8 8
    · exact ⟨b - 1, (if_pos h).trans (sub_1 hb), by omega⟩
    · exact ⟨b, if_neg h, Nat.le_refl _⟩
  obtain ⟨t, e2, ht⟩ := h2
  by_cases h : k = c8 9
  · exact ⟨a + 2, t, (if_pos h).trans (nI_2 a), e2, by omega, by omega, ht⟩
  · exact ⟨a + 1, t, (if_neg h).trans (nI_1 a), e2, by omega, by omega, ht⟩
set_option maxHeartbeats 1000000 in
set_option maxRecDepth 20000 in
theorem hAdd (O : Nat → Int32) (P : Nat → Nat → Int32) (Y : Nat → Nat → Int64) (g : Nat → zC) {n : Nat} (hn : n ≤ 20) (hO : O 9 = nI n) (x : Int32) : zK 0 zX0_add [.ref 31, .int x] (wX O P Y g) (fun r w' => r = none ∧ ((n < 20 ∧ w' = wX (upd O 9 (nI (n + 1))) (updA P 32 (upd (P 32) n x)) Y g) ∨ (¬ n < 20 ∧ w' = wX O P Y g))) := by
  refine zK_of qX0_add (by decide +kernel) rfl ?_
  iterate 4 (refine zv_step (bX0_add 0) rfl rfl trivial ?_)
  refine zv_ifb (fun hc => ?_) (fun hc => ?_)
  · have hc : c8 20 ≤ O 9 := hc
    rw [hO, show c8 20 = nI 20 from rfl, nI_leI (by decide) (by omega)] at hc
    exact zv_ret (bX0_add 0) rfl rfl (Nat.zero_le _) (Nat.zero_le _) ⟨rfl, Or.inr ⟨by omega, rfl⟩⟩
  · have hc : ¬ c8 20 ≤ O 9 := hc
    rw [hO, show c8 20 = nI 20 from rfl, nI_leI (by decide) (by omega)] at hc
    iterate 5 (refine zv_step (bX0_add 0) rfl rfl trivial ?_)
    refine zv_iast (bX0_add 0) rfl rfl (show vp_in (O 9) 20 by rw [hO]; exact vp_in_nI (by omega) (by decide)) ?_
    iterate 6 (refine zv_step (bX0_add 0) rfl rfl trivial ?_)
    exact zv_ret (bX0_add 0) rfl rfl (Nat.zero_le _) (Nat.zero_le _) ⟨rfl, Or.inl ⟨by omega, by show wX (upd O 9 (O 9 + Int32.ofInt 1)) (updA P 32 (upd (P 32) (O 9).toNatClampNeg x)) Y g = _; rw [hO, nI_clamp (by omega), show nI n + Int32.ofInt 1 = nI (n + 1) from nI_1 n]⟩⟩
set_option maxHeartbeats 1000000 in
set_option maxRecDepth 20000 in
theorem hTalI (O : Nat → Int32) (P : Nat → Nat → Int32) (g : Nat → zC) {n : Nat} (hn : n ≤ 20) (hO : O 9 = nI n) (u1 u2 u3 : Int32) {n0 m : Nat} {Q : Option Value → zW → Prop} (hm : 1 ≤ m) (hmn : m ≤ n) {Y0 : Nat → Nat → Int64} (kk : ∀ (Y' : Nat → Nat → Int64) (x5 : Int32), (wyI Y0 → wyI Y') → zV (zMo 4 zX0_tally) false n0 0 0 75 [(5, .int x5), (4, .int (nI m)), (0, .ref 31), (1, .int u1), (2, .int u2), (3, .int u3)] [] (wX O P Y' g) Q) : ∀ (c i : Nat) (Y : Nat → Nat → Int64), (wyI Y0 → wyI Y) → i + m + c = n + 1 → ∀ {x5 : Int32}, x5 = nI i → zV (zMo 4 zX0_tally) false n0 0 0 30 [(5, .int x5), (4, .int (nI m)), (0, .ref 31), (1, .int u1), (2, .int u2), (3, .int u3)] [] (wX O P Y g) Q := by
  intro c
  induction c with
  | zero =>
    intro i Y hY hc x5 e5
    subst e5
    iterate 6 (refine zv_step (bX0_tally 4) rfl rfl trivial ?_)
    refine zv_ift (show O 9 < nI i + nI m by rw [hO, nI_plus]; exact nI_lt (by omega) (by omega)) ?_
    exact kk Y _ hY
  | succ c ih =>
    intro i Y hY hc x5 e5
    subst e5
    iterate 6 (refine zv_step (bX0_tally 4) rfl rfl trivial ?_)
    refine zv_iff (show ¬ O 9 < nI i + nI m by rw [hO, nI_plus]; exact nI_nlt (by omega) (by omega)) ?_
    iterate 3 (refine zv_step (bX0_tally 4) rfl rfl trivial ?_)
    refine zv_aald (bX0_tally 4) rfl (Or.inr rfl) rfl (show vp_in (nI i) 21 by exact vp_in_nI (by omega) (by decide)) (show ([some 34, some 35, some 36, some 37, some 38, some 39, some 40, some 41, some 42, some 43, some 44, some 45, some 46, some 47, some 48, some 49, some 50, some 51, some 52, some 53, some 54] : List (Option Nat)).getD (nI i).toNatClampNeg none = some (34 + (i)) by rw [nI_clamp (by omega)]; exact dLs (by omega)) ?_
    iterate 9 (refine zv_step (bX0_tally 4) rfl rfl trivial ?_)
    refine zv_V3 (bX0_tally 4) rfl rfl rfl rfl rfl rfl rfl ⟨rfl, rfl, rfl⟩ ⟨by decide, by decide⟩ ⟨Nat.zero_le _, Nat.zero_le _⟩ (hWays O P Y g (a := i) (b := i + m) (by omega) (by omega) rfl (nI_plus i m) _) ?_
    rintro _ _ ⟨rfl, v, rfl, hvb⟩
    refine zv_last (bX0_tally 4) rfl (wY O P Y g (by omega)) (show vp_in (nI i + nI m) 21 by rw [nI_plus]; exact vp_in_nI (by omega) (by decide)) ?_
    rw [wYset O P Y g _ (by omega)]
    iterate 2 (refine zv_step (bX0_tally 4) rfl rfl trivial ?_)
    exact ih (i + 1) _ (fun h => by rw [show (nI i + nI m).toNatClampNeg = i + m by rw [nI_plus, nI_clamp (by omega)]]; exact wyI_set (hY h) (by have := hvb (hY h); exact this)) (by omega) (nI_1 i)
set_option maxHeartbeats 1000000 in
set_option maxRecDepth 20000 in
theorem hTalO (O : Nat → Int32) (P : Nat → Nat → Int32) (g : Nat → zC) {n : Nat} (hn : n ≤ 20) (hO : O 9 = nI n) (u1 u2 u3 : Int32) {n0 : Nat} {Y0 : Nat → Nat → Int64} : ∀ (c m : Nat) (Y : Nat → Nat → Int64), (wyI Y0 → wyI Y) → m + c = n + 1 → 1 ≤ m → ∀ {x4 : Int32}, x4 = nI m → zV (zMo 4 zX0_tally) false n0 0 0 18 [(4, .int x4), (0, .ref 31), (1, .int u1), (2, .int u2), (3, .int u3)] [] (wX O P Y g) (fun r w' => ∃ (Y' : Nat → Nat → Int64) (v : Int64), r = some (.long v) ∧ w' = wX O P Y' g ∧ (wyI Y0 → wyI Y')) := by
  intro c
  induction c with
  | zero =>
    intro m Y hY hc hm x4 e4
    subst e4
    iterate 4 (refine zv_step (bX0_tally 4) rfl rfl trivial ?_)
    refine zv_ift (show O 9 < nI m by rw [hO]; exact nI_lt (by omega) (by omega)) ?_
    iterate 3 (refine zv_step (bX0_tally 4) rfl rfl trivial ?_)
    refine zv_ifb (fun h0 => ?_) (fun h0 => ?_)
    · iterate 3 (refine zv_step (bX0_tally 4) rfl rfl trivial ?_)
      refine zv_aald (bX0_tally 4) rfl (Or.inr rfl) rfl (show vp_in (Int32.ofInt 0) 21 by rw [show Int32.ofInt 0 = nI 0 from rfl]; exact vp_in_nI (by omega) (by decide)) (show ([some 34, some 35, some 36, some 37, some 38, some 39, some 40, some 41, some 42, some 43, some 44, some 45, some 46, some 47, some 48, some 49, some 50, some 51, some 52, some 53, some 54] : List (Option Nat)).getD (Int32.ofInt 0).toNatClampNeg none = some (34 + (0)) by rw [show Int32.ofInt 0 = nI 0 from rfl, nI_clamp (by omega)]; exact dLs (by omega)) ?_
      iterate 2 (refine zv_step (bX0_tally 4) rfl rfl trivial ?_)
      refine zv_lald (bX0_tally 4) rfl (wY O P Y g (by omega)) (show vp_in (O 9) 21 by rw [hO]; exact vp_in_nI (by omega) (by decide)) ?_
      exact zv_lret (bX0_tally 4) rfl rfl (Nat.zero_le _) (Nat.zero_le _) ⟨_, _, rfl, rfl, hY⟩
    · iterate 2 (refine zv_step (bX0_tally 4) rfl rfl trivial ?_)
      exact zv_lret (bX0_tally 4) rfl rfl (Nat.zero_le _) (Nat.zero_le _) ⟨_, _, rfl, rfl, hY⟩
  | succ c ih =>
    intro m Y hY hc hm x4 e4
    subst e4
    iterate 4 (refine zv_step (bX0_tally 4) rfl rfl trivial ?_)
    refine zv_iff (show ¬ O 9 < nI m by rw [hO]; exact nI_nlt (by omega) (by omega)) ?_
    iterate 2 (refine zv_step (bX0_tally 4) rfl rfl trivial ?_)
    refine hTalI O P g hn hO u1 u2 u3 hm (by omega) (fun Y' x5 hY2 => ?_) (n + 1 - m) 0 Y hY (by omega) rfl
    iterate 2 (refine zv_step (bX0_tally 4) rfl rfl trivial ?_)
    refine zv_locals (l := [(4, .int (nI m + Int32.ofInt 1)), (5, .int x5), (0, .ref 31), (1, .int u1), (2, .int u2), (3, .int u3)]) (l' := [(4, .int (nI m + Int32.ofInt 1)), (0, .ref 31), (1, .int u1), (2, .int u2), (3, .int u3)]) ?_ (ih (m + 1) Y' hY2 (by omega) (by omega) (nI_1 m))
    simp
set_option maxHeartbeats 1000000 in
set_option maxRecDepth 20000 in
theorem hTally (O : Nat → Int32) (P : Nat → Nat → Int32) (Y : Nat → Nat → Int64) (g : Nat → zC) {n : Nat} (hn : n ≤ 20) (hO : O 9 = nI n) (u1 u2 u3 : Int32) : zK 4 zX0_tally [.ref 31, .int u1, .int u2, .int u3] (wX O P Y g) (fun r w' => ∃ (Y' : Nat → Nat → Int64) (v : Int64), r = some (.long v) ∧ w' = wX (upd (upd (upd O 10 u1) 11 u2) 12 u3) P Y' g ∧ (wyI Y → wyI Y')) := by
  refine zK_of qX0_tally (by decide +kernel) rfl ?_
  iterate 11 (refine zv_step (bX0_tally 4) rfl rfl trivial ?_)
  exact hTalO (upd (upd (upd O 10 u1) 11 u2) 12 u3) P g hn hO u1 u2 u3 n 1 Y id (by omega) (Nat.le_refl _) rfl
