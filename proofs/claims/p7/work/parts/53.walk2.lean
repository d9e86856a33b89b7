set_option maxHeartbeats 1000000 in
set_option maxRecDepth 20000 in
theorem wBegun (O : Nat → Int32) (P : Nat → Nat → Int32) (Y : Nat → Nat → Int64) (g : Nat → zC) (hb : O 13 = 0 ∨ O 13 = 1) : zK 0 zX5_isBegun [.ref 55] (wX O P Y g) (fun r w' => w' = wX O P Y g ∧ r = some (.int (O 13))) := by
  refine zK_of qX5_isBegun (by decide +kernel) rfl ?_
  iterate 2 (refine zv_step (bX5_isBegun 0) rfl rfl trivial ?_)
  exact zv_iret (bX5_isBegun 0) rfl (Or.inr ⟨rfl, hb⟩) (Nat.zero_le _) (Nat.zero_le _) ⟨rfl, rfl⟩
set_option maxHeartbeats 1000000 in
set_option maxRecDepth 20000 in
theorem wTop (O : Nat → Int32) (P : Nat → Nat → Int32) (Y : Nat → Nat → Int64) (g : Nat → zC) : zK 0 zX5_top [.ref 55] (wX O P Y g) (fun r w' => w' = wX O P Y g ∧ r = some (.int (P 56 0))) := by
  refine zK_of qX5_top (by decide +kernel) rfl ?_
  iterate 3 (refine zv_step (bX5_top 0) rfl rfl trivial ?_)
  refine zv_step (bX5_top 0) rfl rfl (by unfold vp_in; decide) ?_
  exact zv_iret (bX5_top 0) rfl (Or.inl rfl) (Nat.zero_le _) (Nat.zero_le _) ⟨rfl, rfl⟩
set_option maxHeartbeats 1000000 in
set_option maxRecDepth 20000 in
theorem wBegin (O : Nat → Int32) (P : Nat → Nat → Int32) (Y : Nat → Nat → Int64) (g : Nat → zC) (x : Int32) : zK 0 zX5_beginAt [.ref 55, .int x] (wX O P Y g) (fun r w' => r = none ∧ w' = wX (upd (upd O 13 (Int32.ofInt 1)) 14 (Int32.ofInt 0)) (updA P 56 (upd (P 56) 0 x)) Y g) := by
  refine zK_of qX5_beginAt (by decide +kernel) rfl ?_
  iterate 7 (refine zv_step (bX5_beginAt 0) rfl rfl trivial ?_)
  refine zv_step (bX5_beginAt 0) rfl rfl (by unfold vp_in; decide) ?_
  iterate 3 (refine zv_step (bX5_beginAt 0) rfl rfl trivial ?_)
  exact zv_ret (bX5_beginAt 0) rfl rfl (Nat.zero_le _) (Nat.zero_le _) ⟨rfl, rfl⟩
set_option maxHeartbeats 1000000 in
set_option maxRecDepth 20000 in
theorem wBeside1 (O : Nat → Int32) (P : Nat → Nat → Int32) (Y : Nat → Nat → Int64) (g : Nat → zC) (hu : (O 1).toInt ≤ 120) {m : Nat} (hd : m + 1 < 40) (N D : Nat → Int32) : zK 2 zX5_stepBeside [.ref 55, .ref 1] (wX (upd O 14 (nI (m + 1))) (updA (updA P 56 (N)) 57 (D)) Y g) (fun r w' => ((ptW (O 1) (P 4) (P 5) (N m) (Int32.ofInt 3 - D (m + 1))) = Int32.ofInt (-1) ∧ r = some (.int 0) ∧ w' = (wX (upd O 14 (nI (m + 1))) (updA (updA P 56 (N)) 57 (D)) Y g)) ∨ (¬ (ptW (O 1) (P 4) (P 5) (N m) (Int32.ofInt 3 - D (m + 1))) = Int32.ofInt (-1) ∧ r = some (.int 1) ∧ w' = (wX (upd O 14 (nI (m + 1))) (updA (updA P 56 (upd N (m + 1) (ptW (O 1) (P 4) (P 5) (N m) (Int32.ofInt 3 - D (m + 1))))) 57 (upd D (m + 1) (Int32.ofInt 3 - D (m + 1)))) Y g))) := by
  refine zK_of qX5_stepBeside (by decide +kernel) rfl ?_
  iterate 3 (refine zv_step (bX5_stepBeside 2) rfl rfl trivial ?_)
  refine zv_ift (show ¬ nI (m + 1) = 0 from nI_ne0 (by omega) (by omega)) ?_
  iterate 5 (refine zv_step (bX5_stepBeside 2) rfl rfl trivial ?_)
  refine zv_iale (bX5_stepBeside 2) rfl rfl (show vp_in (nI (m + 1)) 40 from vp_in_nI hd (by decide)) (show D (nI (m + 1)).toNatClampNeg = D (m + 1) by rw [nI_clamp (by omega)]) ?_
  iterate 9 (refine zv_step (bX5_stepBeside 2) rfl rfl trivial ?_)
  refine zv_iale (bX5_stepBeside 2) rfl rfl (show vp_in (nI (m + 1) - Int32.ofInt 1) 40 by rw [nI_m1]; exact vp_in_nI (by omega) (by decide)) (show N (nI (m + 1) - Int32.ofInt 1).toNatClampNeg = N m by rw [nI_m1, nI_clamp (by omega)]) ?_
  iterate 1 (refine zv_step (bX5_stepBeside 2) rfl rfl trivial ?_)
  refine zv_V2 (bX5_stepBeside 2) rfl rfl rfl rfl rfl rfl rfl ⟨rfl, rfl, rfl⟩ ⟨by decide, by decide⟩ ⟨Nat.zero_le _, Nat.zero_le _⟩ (show zK 1 zX2_partOf [.ref 1, .int (N m), .int (Int32.ofInt 3 - D (m + 1))] (wX (upd O 14 (nI (m + 1))) (updA (updA P 56 (N)) 57 (D)) Y g) (fun r w' => w' = (wX (upd O 14 (nI (m + 1))) (updA (updA P 56 (N)) 57 (D)) Y g) ∧ r = some (.int (ptW (O 1) (P 4) (P 5) (N m) (Int32.ofInt 3 - D (m + 1))))) from pPt1 (upd O 14 (nI (m + 1))) (updA (updA P 56 N) 57 D) Y g hu (N m) (Int32.ofInt 3 - D (m + 1))) ?_
  rintro _ _ ⟨rfl, rfl⟩
  iterate 4 (refine zv_step (bX5_stepBeside 2) rfl rfl trivial ?_)
  refine zv_ifb (fun hp => ?_) (fun hp => ?_)
  · iterate 5 (refine zv_step (bX5_stepBeside 2) rfl rfl trivial ?_)
    refine zv_step (bX5_stepBeside 2) rfl rfl (show vp_in (nI (m + 1)) 40 from vp_in_nI hd (by decide)) ?_
    iterate 5 (refine zv_step (bX5_stepBeside 2) rfl rfl trivial ?_)
    refine zv_step (bX5_stepBeside 2) rfl rfl (show vp_in (nI (m + 1)) 40 from vp_in_nI hd (by decide)) ?_
    iterate 1 (refine zv_step (bX5_stepBeside 2) rfl rfl trivial ?_)
    exact zv_iret (bX5_stepBeside 2) rfl (Or.inr ⟨rfl, Or.inr rfl⟩) (Nat.zero_le _) (Nat.zero_le _) (Or.inr ⟨hp, rfl, by show wX (upd O 14 (nI (m + 1))) (updA (updA P 56 (upd N (nI (m + 1)).toNatClampNeg (ptW (O 1) (P 4) (P 5) (N m) (Int32.ofInt 3 - D (m + 1))))) 57 (upd D (nI (m + 1)).toNatClampNeg (Int32.ofInt 3 - D (m + 1)))) Y g = _; rw [nI_clamp (by omega)]⟩)
  · iterate 1 (refine zv_step (bX5_stepBeside 2) rfl rfl trivial ?_)
    exact zv_iret (bX5_stepBeside 2) rfl (Or.inr ⟨rfl, Or.inl rfl⟩) (Nat.zero_le _) (Nat.zero_le _) (Or.inl ⟨Decidable.not_not.mp hp, rfl, rfl⟩)
set_option maxHeartbeats 1000000 in
set_option maxRecDepth 20000 in
theorem wBeside0 (O : Nat → Int32) (P : Nat → Nat → Int32) (Y : Nat → Nat → Int64) (g : Nat → zC) (N D : Nat → Int32) : zK 2 zX5_stepBeside [.ref 55, .ref 1] (wX (upd O 14 (nI (0))) (updA (updA P 56 (N)) 57 (D)) Y g) (fun r w' => r = some (.int 0) ∧ w' = (wX (upd O 14 (nI (0))) (updA (updA P 56 (N)) 57 (D)) Y g)) := by
  refine zK_of qX5_stepBeside (by decide +kernel) rfl ?_
  iterate 3 (refine zv_step (bX5_stepBeside 2) rfl rfl trivial ?_)
  refine zv_iff (show ¬ ¬ nI 0 = 0 by decide) ?_
  iterate 1 (refine zv_step (bX5_stepBeside 2) rfl rfl trivial ?_)
  exact zv_iret (bX5_stepBeside 2) rfl (Or.inr ⟨rfl, Or.inl rfl⟩) (Nat.zero_le _) (Nat.zero_le _) ⟨rfl, rfl⟩
def anW (D : Nat → Int32) : Nat → Int32 → Int32
  | 0, t => t
  | k + 1, t => anW D k (t * Int32.ofInt 3 + D (k + 1))
set_option maxHeartbeats 1000000 in
set_option maxRecDepth 20000 in
theorem wNumL (O : Nat → Int32) (P : Nat → Nat → Int32) (Y : Nat → Nat → Int64) (g : Nat → zC) {n0 : Nat} : ∀ (k : Nat), k < 40 → ∀ {x2 t : Int32}, x2 = nI k → zV (zMo 1 zX5_asNumber) false n0 0 0 12 [(2, .int x2), (1, .int t), (0, .ref 55)] [] (wX O P Y g) (fun r w' => w' = wX O P Y g ∧ r = some (.int (anW (P 57) k t))) := by
  intro k
  induction k with
  | zero =>
    intro hk x2 t e2
    subst e2
    iterate 2 (refine zv_step (bX5_asNumber 1) rfl rfl trivial ?_)
    refine zv_ift (by decide) ?_
    iterate 1 (refine zv_step (bX5_asNumber 1) rfl rfl trivial ?_)
    exact zv_iret (bX5_asNumber 1) rfl (Or.inl rfl) (Nat.zero_le _) (Nat.zero_le _) ⟨rfl, rfl⟩
  | succ k ih =>
    intro hk x2 t e2
    subst e2
    iterate 2 (refine zv_step (bX5_asNumber 1) rfl rfl trivial ?_)
    refine zv_iff (nI_nle (by omega) (by omega)) ?_
    iterate 6 (refine zv_step (bX5_asNumber 1) rfl rfl trivial ?_)
    refine zv_iale (bX5_asNumber 1) rfl rfl (vp_in_nI (n := k + 1) hk (by decide)) (show P 57 (nI (k + 1)).toNatClampNeg = P 57 (k + 1) by rw [nI_clamp (by omega)]) ?_
    iterate 4 (refine zv_step (bX5_asNumber 1) rfl rfl trivial ?_)
    exact ih (by omega) (pk_m1 k)
set_option maxHeartbeats 1000000 in
set_option maxRecDepth 20000 in
theorem wNum (O : Nat → Int32) (P : Nat → Nat → Int32) (Y : Nat → Nat → Int64) (g : Nat → zC) {dd : Nat} (hd : dd < 40) (h14 : O 14 = nI dd) : zK 1 zX5_asNumber [.ref 55] (wX O P Y g) (fun r w' => w' = wX O P Y g ∧ r = some (.int (anW (P 57) (if 19 < dd then 19 else dd) (Int32.ofInt 0)))) := by
  refine zK_of qX5_asNumber (by decide +kernel) rfl ?_
  iterate 5 (refine zv_step (bX5_asNumber 1) rfl rfl trivial ?_)
  refine zv_minI (bX5_asNumber 1) rfl zMinI rfl ⟨by decide, by decide⟩ ⟨Nat.zero_le _, Nat.zero_le _⟩ ?_
  iterate 1 (refine zv_step (bX5_asNumber 1) rfl rfl trivial ?_)
  exact wNumL O P Y g (if 19 < dd then 19 else dd) (by split <;> omega) (show (if c8 19 < O 14 then c8 19 else O 14) = _ by rw [h14, e19]; by_cases h : 19 < dd; rw [if_pos h, if_pos (nI_lt h (by omega))]; rw [if_neg h, if_neg (nI_nlt (by omega) (by omega))])
noncomputable def lsW (u : Int32) (Xs Ys : Nat → Int32) : Nat → Int32 → Int32 → Int32
  | 0, n, _ => n
  | c + 1, n, r => if r ≤ 0 then n else lsW u Xs Ys c (ptW u Xs Ys n (r - r / Int32.ofInt 3 * Int32.ofInt 3)) (r / Int32.ofInt 3)
theorem lsW_s (u : Int32) (Xs Ys : Nat → Int32) (c : Nat) (n r : Int32) : lsW u Xs Ys (c + 1) n r = (if r ≤ 0 then n else lsW u Xs Ys c (ptW u Xs Ys n (r - r / Int32.ofInt 3 * Int32.ofInt 3)) (r / Int32.ofInt 3)) := rfl
set_option maxHeartbeats 1000000 in
set_option maxRecDepth 20000 in
theorem wLeadsL (O : Nat → Int32) (P : Nat → Nat → Int32) (Y : Nat → Nat → Int64) (g : Nat → zC) (hu : (O 1).toInt ≤ 120) (p : Int32) {n0 : Nat} : ∀ (c d : Nat), d + c = 20 → ∀ {x5 n r : Int32}, x5 = nI d → zV (zMo 2 zX5_leadsSomewhere) false n0 0 0 13 [(5, .int x5), (4, .int r), (3, .int n), (0, .ref 55), (1, .ref 1), (2, .int p)] [] (wX O P Y g) (fun r' w' => w' = wX O P Y g ∧ (((0 ≤ p.toInt ∧ ¬ lsW (O 1) (P 4) (P 5) c n r = Int32.ofInt (-1)) ∧ r' = some (.int 1)) ∨ (¬ (0 ≤ p.toInt ∧ ¬ lsW (O 1) (P 4) (P 5) c n r = Int32.ofInt (-1)) ∧ r' = some (.int 0)))) := by
  intro c
  induction c with
  | zero =>
    intro d hd x5 n r e5
    subst e5
    iterate 3 (refine zv_step (bX5_leadsSomewhere 2) rfl rfl trivial ?_)
    refine zv_ift (show c8 19 < nI d by rw [e19]; exact nI_lt (by omega) (by omega)) ?_
    iterate 2 (refine zv_step (bX5_leadsSomewhere 2) rfl rfl trivial ?_)
    refine zv_ifb (fun hq => ?_) (fun hq => ?_)
    · rw [Int32.lt_iff_toInt_lt, Int32.toInt_zero] at hq
      iterate 1 (refine zv_step (bX5_leadsSomewhere 2) rfl rfl trivial ?_)
      exact zv_iret (bX5_leadsSomewhere 2) rfl (Or.inr ⟨rfl, Or.inl rfl⟩) (Nat.zero_le _) (Nat.zero_le _) ⟨rfl, Or.inr ⟨fun q => by omega, rfl⟩⟩
    · rw [Int32.lt_iff_toInt_lt, Int32.toInt_zero] at hq
      iterate 3 (refine zv_step (bX5_leadsSomewhere 2) rfl rfl trivial ?_)
      refine zv_ifb (fun hm => ?_) (fun hm => ?_)
      · iterate 1 (refine zv_step (bX5_leadsSomewhere 2) rfl rfl trivial ?_)
        exact zv_iret (bX5_leadsSomewhere 2) rfl (Or.inr ⟨rfl, Or.inl rfl⟩) (Nat.zero_le _) (Nat.zero_le _) ⟨rfl, Or.inr ⟨fun q => q.2 (by rw [show lsW (O 1) (P 4) (P 5) 0 n r = n from rfl]; exact hm), rfl⟩⟩
      · iterate 2 (refine zv_step (bX5_leadsSomewhere 2) rfl rfl trivial ?_)
        exact zv_iret (bX5_leadsSomewhere 2) rfl (Or.inr ⟨rfl, Or.inr rfl⟩) (Nat.zero_le _) (Nat.zero_le _) ⟨rfl, Or.inl ⟨⟨by omega, by rw [show lsW (O 1) (P 4) (P 5) 0 n r = n from rfl]; exact hm⟩, rfl⟩⟩
  | succ c ih =>
    intro d hd x5 n r e5
    subst e5
    iterate 3 (refine zv_step (bX5_leadsSomewhere 2) rfl rfl trivial ?_)
    refine zv_iff (show ¬ c8 19 < nI d by rw [e19]; exact nI_nlt (by omega) (by omega)) ?_
    iterate 2 (refine zv_step (bX5_leadsSomewhere 2) rfl rfl trivial ?_)
    refine zv_ifb (fun hr => ?_) (fun hr => ?_)
    · iterate 2 (refine zv_step (bX5_leadsSomewhere 2) rfl rfl trivial ?_)
      refine zv_ifb (fun hq => ?_) (fun hq => ?_)
      · rw [Int32.lt_iff_toInt_lt, Int32.toInt_zero] at hq
        iterate 1 (refine zv_step (bX5_leadsSomewhere 2) rfl rfl trivial ?_)
        exact zv_iret (bX5_leadsSomewhere 2) rfl (Or.inr ⟨rfl, Or.inl rfl⟩) (Nat.zero_le _) (Nat.zero_le _) ⟨rfl, Or.inr ⟨fun q => by omega, rfl⟩⟩
      · rw [Int32.lt_iff_toInt_lt, Int32.toInt_zero] at hq
        iterate 3 (refine zv_step (bX5_leadsSomewhere 2) rfl rfl trivial ?_)
        refine zv_ifb (fun hm => ?_) (fun hm => ?_)
        · iterate 1 (refine zv_step (bX5_leadsSomewhere 2) rfl rfl trivial ?_)
          exact zv_iret (bX5_leadsSomewhere 2) rfl (Or.inr ⟨rfl, Or.inl rfl⟩) (Nat.zero_le _) (Nat.zero_le _) ⟨rfl, Or.inr ⟨fun q => q.2 (by rw [lsW_s, if_pos hr]; exact hm), rfl⟩⟩
        · iterate 2 (refine zv_step (bX5_leadsSomewhere 2) rfl rfl trivial ?_)
          exact zv_iret (bX5_leadsSomewhere 2) rfl (Or.inr ⟨rfl, Or.inr rfl⟩) (Nat.zero_le _) (Nat.zero_le _) ⟨rfl, Or.inl ⟨⟨by omega, by rw [lsW_s, if_pos hr]; exact hm⟩, rfl⟩⟩
    · iterate 4 (refine zv_step (bX5_leadsSomewhere 2) rfl rfl trivial ?_)
      refine zv_step (bX5_leadsSomewhere 2) rfl rfl (show ¬ Int32.ofInt 3 = 0 by decide) ?_
      refine zv_V2 (bX5_leadsSomewhere 2) rfl rfl rfl rfl rfl rfl rfl ⟨rfl, rfl, rfl⟩ ⟨by decide, by decide⟩ ⟨Nat.zero_le _, Nat.zero_le _⟩ (pPt1 O P Y g hu _ _) ?_
      rintro _ _ ⟨rfl, rfl⟩
      iterate 3 (refine zv_step (bX5_leadsSomewhere 2) rfl rfl trivial ?_)
      refine zv_step (bX5_leadsSomewhere 2) rfl rfl (show ¬ Int32.ofInt 3 = 0 by decide) ?_
      iterate 3 (refine zv_step (bX5_leadsSomewhere 2) rfl rfl trivial ?_)
      have := ih (d + 1) (by omega) (x5 := nI d + Int32.ofInt 1) (n := ptW (O 1) (P 4) (P 5) n (r - r / Int32.ofInt 3 * Int32.ofInt 3)) (r := r / Int32.ofInt 3) (nI_1 d)
      rw [← show lsW (O 1) (P 4) (P 5) (c + 1) n r = _ from (lsW_s _ _ _ _ _ _).trans (if_neg hr)] at this
      exact this
set_option maxHeartbeats 1000000 in
set_option maxRecDepth 20000 in
theorem wLeads (O : Nat → Int32) (P : Nat → Nat → Int32) (Y : Nat → Nat → Int64) (g : Nat → zC) (hu : (O 1).toInt ≤ 120) (p : Int32) : zK 2 zX5_leadsSomewhere [.ref 55, .ref 1, .int p] (wX O P Y g) (fun r' w' => w' = wX O P Y g ∧ (((0 ≤ p.toInt ∧ ¬ lsW (O 1) (P 4) (P 5) 20 (P 56 0) p = Int32.ofInt (-1)) ∧ r' = some (.int 1)) ∨ (¬ (0 ≤ p.toInt ∧ ¬ lsW (O 1) (P 4) (P 5) 20 (P 56 0) p = Int32.ofInt (-1)) ∧ r' = some (.int 0)))) := by
  refine zK_of qX5_leadsSomewhere (by decide +kernel) rfl ?_
  iterate 3 (refine zv_step (bX5_leadsSomewhere 2) rfl rfl trivial ?_)
  refine zv_iale (bX5_leadsSomewhere 2) rfl rfl (by unfold vp_in; decide) (v := P 56 0) rfl ?_
  iterate 5 (refine zv_step (bX5_leadsSomewhere 2) rfl rfl trivial ?_)
  exact wLeadsL O P Y g hu p 20 0 rfl rfl
