section
set_option maxHeartbeats 1000000 in
set_option maxRecDepth 20000 in
theorem wBegun (O : Nat → Int32) (P : Nat → Nat → Int32) (Y : Nat → Nat → Int64) (g : Nat → zC) (hb : O 13 = 0 ∨ O 13 = 1) : zK 0 zX5_isBegun [.ref 55] (wX O P Y g) (fun r w' => w' = wX O P Y g ∧ r = some (.int (O 13))) := by
  refine zK_of qX5_isBegun (by decide +kernel) rfl ?_
  iterate 2 (refine zv_step (bX5_isBegun 0) rfl rfl trivial ?_)
  exact zv_iret (bX5_isBegun 0) rfl (Or.inr ⟨rfl, hb⟩) (Nat.zero_le _) (Nat.zero_le _) ⟨rfl, rfl⟩
set_option maxHeartbeats 1000000 in
set_option maxRecDepth 20000 in
theorem wTop (O : Nat → Int32) (P : Nat → Nat → Int32) (Y : Nat → Nat → Int64) (g : Nat → zC) : zK 0 zX5_top [.ref 55] (wX O P Y g) (fun r w' => w' = wX O P Y g ∧ r = some (.int (P 56 0))) := by
  refine zK_of qX5_top (by decide +kernel) rfl ?_
  iterate 3 (refine zv_step (bX5_top 0) rfl rfl trivial ?_)
  refine zv_step (bX5_top 0) rfl rfl (by unfold vp_in; decide) ?_
  exact zv_iret (bX5_top 0) rfl (Or.inl rfl) (Nat.zero_le _) (Nat.zero_le _) ⟨rfl, rfl⟩
set_option maxHeartbeats 1000000 in
set_option maxRecDepth 20000 in
theorem wBegin (O : Nat → Int32) (P : Nat → Nat → Int32) (Y : Nat → Nat → Int64) (g : Nat → zC) (x : Int32) : zK 0 zX5_beginAt [.ref 55, .int x] (wX O P Y g) (fun r w' => r = none ∧ w' = wX (upd (upd O 13 (Int32.ofInt 1)) 14 (Int32.ofInt 0)) (updA P 56 (upd (P 56) 0 x)) Y g) := by
  refine zK_of qX5_beginAt (by decide +kernel) rfl ?_
  iterate 7 (refine zv_step (bX5_beginAt 0) rfl rfl trivial ?_)
  refine zv_step (bX5_beginAt 0) rfl rfl (by unfold vp_in; decide) ?_
  iterate 3 (refine zv_step (bX5_beginAt 0) rfl rfl trivial ?_)
  exact zv_ret (bX5_beginAt 0) rfl rfl (Nat.zero_le _) (Nat.zero_le _) ⟨rfl, rfl⟩
set_option maxHeartbeats 1000000 in
set_option maxRecDepth 20000 in
theorem wBeside1 (O : Nat → Int32) (P : Nat → Nat → Int32) (Y : Nat → Nat → Int64) (g : Nat → zC) (hu : (O 1).toInt ≤ 120) {m : Nat} (hd : m + 1 < 40) (N D : Nat → Int32) : zK 2 zX5_stepBeside [.ref 55, .ref 1] (wX (upd O 14 (nI (m + 1))) (updA (updA P 56 (N)) 57 (D)) Y g) (fun r w' => ((ptW (O 1) (P 4) (P 5) (N m) (Int32.ofInt 3 - D (m + 1))) = Int32.ofInt (-1) ∧ r = some (.int 0) ∧ w' = (wX (upd O 14 (nI (m + 1))) (updA (updA P 56 (N)) 57 (D)) Y g)) ∨ (¬ (ptW (O 1) (P 4) (P 5) (N m) (Int32.ofInt 3 - D (m + 1))) = Int32.ofInt (-1) ∧ r = some (.int 1) ∧ w' = (wX (upd O 14 (nI (m + 1))) (updA (updA P 56 (upd N (m + 1) (ptW (O 1) (P 4) (P 5) (N m) (Int32.ofInt 3 - D (m + 1))))) 57 (upd D (m + 1) (Int32.ofInt 3 - D (m + 1)))) Y g))) := by
  refine zK_of qX5_stepBeside (by decide +kernel) rfl ?_
  iterate 3 (refine zv_step (bX5_stepBeside 2) rfl rfl trivial ?_)
  refine zv_ift (show ¬ nI (m + 1) = 0 from nI_ne0 (by omega) (by omega)) ?_
  iterate 5 (refine zv_step (bX5_stepBeside 2) rfl rfl trivial ?_)
  refine zv_iale (bX5_stepBeside 2) rfl rfl (show vp_in (nI (m + 1)) 40 from vp_in_nI hd (by decide)) (show D (nI (m + 1)).toNatClampNeg = D (m + 1) by rw [nI_clamp (by omega)]) ?_
  iterate 9 (refine zv_step (bX5_stepBeside 2) rfl rfl trivial ?_)
  refine zv_iale (bX5_stepBeside 2) rfl rfl (show vp_in (nI (m + 1) - Int32.ofInt 1) 40 by rw [nI_m1]; exact vp_in_nI (by omega) (by decide)) (show N (nI (m + 1) - Int32.ofInt 1).toNatClampNeg = N m by rw [nI_m1, nI_clamp (by omega)]) ?_
  iterate 1 (refine zv_step (bX5_stepBeside 2) rfl rfl trivial ?_)
  refine zv_V2 (bX5_stepBeside 2) rfl rfl rfl rfl rfl rfl rfl ⟨rfl, rfl, rfl⟩ ⟨by decide, by decide⟩ ⟨Nat.zero_le _, Nat.zero_le _⟩ (show zK 1 zX2_partOf [.ref 1, .int (N m), .int (Int32.ofInt 3 - D (m + 1))] (wX (upd O 14 (nI (m + 1))) (updA (updA P 56 (N)) 57 (D)) Y g) (fun r w' => w' = (wX (upd O 14 (nI (m + 1))) (updA (updA P 56 (N)) 57 (D)) Y g) ∧ r = some (.int (ptW (O 1) (P 4) (P 5) (N m) (Int32.ofInt 3 - D (m + 1))))) from pPt1 (upd O 14 (nI (m + 1))) (updA (updA P 56 N) 57 D) Y g hu (N m) (Int32.ofInt 3 - D (m + 1))) ?_
  rintro _ _ ⟨rfl, rfl⟩
  iterate 4 (refine zv_step (bX5_stepBeside 2) rfl rfl trivial ?_)
  refine zv_ifb (fun hp => ?_) (fun hp => ?_)
  · iterate 5 (refine zv_step (bX5_stepBeside 2) rfl rfl trivial ?_)
    refine zv_step (bX5_stepBeside 2) rfl rfl (show vp_in (nI (m + 1)) 40 from vp_in_nI hd (by decide)) ?_
    iterate 5 (refine zv_step (bX5_stepBeside 2) rfl rfl trivial ?_)
    refine zv_step (bX5_stepBeside 2) rfl rfl (show vp_in (nI (m + 1)) 40 from vp_in_nI hd (by decide)) ?_
    iterate 1 (refine zv_step (bX5_stepBeside 2) rfl rfl trivial ?_)
    exact zv_iret (bX5_stepBeside 2) rfl (Or.inr ⟨rfl, Or.inr rfl⟩) (Nat.zero_le _) (Nat.zero_le _) (Or.inr ⟨hp, rfl, by show wX (upd O 14 (nI (m + 1))) (updA (updA P 56 (upd N (nI (m + 1)).toNatClampNeg (ptW (O 1) (P 4) (P 5) (N m) (Int32.ofInt 3 - D (m + 1))))) 57 (upd D (nI (m + 1)).toNatClampNeg (Int32.ofInt 3 - D (m + 1)))) Y g = _; rw [nI_clamp (by omega)]⟩)
  · iterate 1 (refine zv_step (bX5_stepBeside 2) rfl rfl trivial ?_)
    exact zv_iret (bX5_stepBeside 2) rfl (Or.inr ⟨rfl, Or.inl rfl⟩) (Nat.zero_le _) (Nat.zero_le _) (Or.inl ⟨Decidable.not_not.mp hp, rfl, rfl⟩)
set_option maxHeartbeats 1000000 in
set_option maxRecDepth 20000 in
theorem wBeside0 (O : Nat → Int32) (P : Nat → Nat → Int32) (Y : Nat → Nat → Int64) (g : Nat → zC) (N D : Nat → Int32) : zK 2 zX5_stepBeside [.ref 55, .ref 1] (wX (upd O 14 (nI (0))) (updA (updA P 56 (N)) 57 (D)) Y g) (fun r w' => r = some (.int 0) ∧ w' = (wX (upd O 14 (nI (0))) (updA (updA P 56 (N)) 57 (D)) Y g)) := by
  refine zK_of qX5_stepBeside (by decide +kernel) rfl ?_
  iterate 3 (refine zv_step (bX5_stepBeside 2) rfl rfl trivial ?_)
  refine zv_iff (show ¬ ¬ nI 0 = 0 by decide) ?_
  iterate 1 (refine zv_step (bX5_stepBeside 2) rfl rfl trivial ?_)
  exact zv_iret (bX5_stepBeside 2) rfl (Or.inr ⟨rfl, Or.inl rfl⟩) (Nat.zero_le _) (Nat.zero_le _) ⟨rfl, rfl⟩
def anW (D : Nat → Int32) : Nat → Int32 → Int32
  | 0, t => t
  | k + 1, t => anW D k (t * Int32.ofInt 3 + D (k + 1))
set_option maxHeartbeats 1000000 in
set_option maxRecDepth 20000 in
theorem wNumL (O : Nat → Int32) (P : Nat → Nat → Int32) (Y : Nat → Nat → Int64) (g : Nat → zC) {n0 : Nat} : ∀ (k : Nat), k < 40 → ∀ {x2 t : Int32}, x2 = nI k → zV (zMo 1 zX5_asNumber) false n0 0 0 12 [(2, .int x2), (1, .int t), (0, .ref 55)] [] (wX O P Y g) (fun r w' => w' = wX O P Y g ∧ r = some (.int (anW (P 57) k t))) := by
  intro k
  induction k with
  | zero =>
    intro hk x2 t e2
    subst e2
    iterate 2 (refine zv_step (bX5_asNumber 1) rfl rfl trivial ?_)
    refine zv_ift (by decide) ?_
    iterate 1 (refine zv_step (bX5_asNumber 1) rfl rfl trivial ?_)
    exact zv_iret (bX5_asNumber 1) rfl (Or.inl rfl) (Nat.zero_le _) (Nat.zero_le _) ⟨rfl, rfl⟩
  | succ k ih =>
    intro hk x2 t e2
    subst e2
    iterate 2 (refine zv_step (bX5_asNumber 1) rfl rfl trivial ?_)
    refine zv_iff (nI_nle (by omega) (by omega)) ?_
    iterate 6 (refine zv_step (bX5_asNumber 1) rfl rfl trivial ?_)
    refine zv_iale (bX5_asNumber 1) rfl rfl (vp_in_nI (n := k + 1) hk (by decide)) (show P 57 (nI (k + 1)).toNatClampNeg = P 57 (k + 1) by rw [nI_clamp (by omega)]) ?_
    iterate 4 (refine zv_step (bX5_asNumber 1) rfl rfl trivial ?_)
    exact ih (by omega) (pk_m1 k)
set_option maxHeartbeats 1000000 in
set_option maxRecDepth 20000 in
theorem wNum (O : Nat → Int32) (P : Nat → Nat → Int32) (Y : Nat → Nat → Int64) (g : Nat → zC) {dd : Nat} (hd : dd < 40) (h14 : O 14 = nI dd) : zK 1 zX5_asNumber [.ref 55] (wX O P Y g) (fun r w' => w' = wX O P Y g ∧ r = some (.int (anW (P 57) (if 19 < dd then 19 else dd) (Int32.ofInt 0)))) := by
  refine zK_of qX5_asNumber (by decide +kernel) rfl ?_
  iterate 5 (refine zv_step (bX5_asNumber 1) rfl rfl trivial ?_)
  refine zv_minI (bX5_asNumber 1) rfl zMinI rfl ⟨by decide, by decide⟩ ⟨Nat.zero_le _, Nat.zero_le _⟩ ?_
  iterate 1 (refine zv_step (bX5_asNumber 1) rfl rfl trivial ?_)
  exact wNumL O P Y g (if 19 < dd then 19 else dd) (by split <;> omega) (show (if c8 19 < O 14 then c8 19 else O 14) = _ by rw [h14, e19]; by_cases h : 19 < dd; rw [if_pos h, if_pos (nI_lt h (by omega))]; rw [if_neg h, if_neg (nI_nlt (by omega) (by omega))])
noncomputable def lsW (u : Int32) (Xs Ys : Nat → Int32) : Nat → Int32 → Int32 → Int32
  | 0, n, _ => n
  | c + 1, n, r => if r ≤ 0 then n else lsW u Xs Ys c (ptW u Xs Ys n (r - r / Int32.ofInt 3 * Int32.ofInt 3)) (r / Int32.ofInt 3)
theorem lsW_s (u : Int32) (Xs Ys : Nat → Int32) (c : Nat) (n r : Int32) : lsW u Xs Ys (c + 1) n r = (if r ≤ 0 then n else lsW u Xs Ys c (ptW u Xs Ys n (r - r / Int32.ofInt 3 * Int32.ofInt 3)) (r / Int32.ofInt 3)) := rfl
set_option maxHeartbeats 1000000 in
set_option maxRecDepth 20000 in
theorem wLeadsL (O : Nat → Int32) (P : Nat → Nat → Int32) (Y : Nat → Nat → Int64) (g : Nat → zC) (hu : (O 1).toInt ≤ 120) (p : Int32) {n0 : Nat} : ∀ (c d : Nat), d + c = 20 → ∀ {x5 n r : Int32}, x5 = nI d → zV (zMo 2 zX5_leadsSomewhere) false n0 0 0 13 [(5, .int x5), (4, .int r), (3, .int n), (0, .ref 55), (1, .ref 1), (2, .int p)] [] (wX O P Y g) (fun r' w' => w' = wX O P Y g ∧ (((0 ≤ p.toInt ∧ ¬ lsW (O 1) (P 4) (P 5) c n r = Int32.ofInt (-1)) ∧ r' = some (.int 1)) ∨ (¬ (0 ≤ p.toInt ∧ ¬ lsW (O 1) (P 4) (P 5) c n r = Int32.ofInt (-1)) ∧ r' = some (.int 0)))) := by
  intro c
  induction c with
  | zero =>
    intro d hd x5 n r e5
    subst e5
    iterate 3 (refine zv_step (bX5_leadsSomewhere 2) rfl rfl trivial ?_)
    refine zv_ift (show c8 19 < nI d by rw [e19]; exact nI_lt (by omega) (by omega)) ?_
    iterate 2 (refine zv_step (bX5_leadsSomewhere 2) rfl rfl trivial ?_)
    refine zv_ifb (fun hq => ?_) (fun hq => ?_)
    · rw [Int32.lt_iff_toInt_lt, Int32.toInt_zero] at hq
      iterate 1 (refine zv_step (bX5_leadsSomewhere 2) rfl rfl trivial ?_)
      exact zv_iret (bX5_leadsSomewhere 2) rfl (Or.inr ⟨rfl, Or.inl rfl⟩) (Nat.zero_le _) (Nat.zero_le _) ⟨rfl, Or.inr ⟨fun q => by omega, rfl⟩⟩
    · rw [Int32.lt_iff_toInt_lt, Int32.toInt_zero] at hq
      iterate 3 (refine zv_step (bX5_leadsSomewhere 2) rfl rfl trivial ?_)
      refine zv_ifb (fun hm => ?_) (fun hm => ?_)
      · iterate 1 (refine zv_step (bX5_leadsSomewhere 2) rfl rfl trivial ?_)
        exact zv_iret (bX5_leadsSomewhere 2) rfl (Or.inr ⟨rfl, Or.inl rfl⟩) (Nat.zero_le _) (Nat.zero_le _) ⟨rfl, Or.inr ⟨fun q => q.2 (by rw [show lsW (O 1) (P 4) (P 5) 0 n r = n from rfl]; exact hm), rfl⟩⟩
      · iterate 2 (refine zv_step (bX5_leadsSomewhere 2) rfl rfl trivial ?_)
        exact zv_iret (bX5_leadsSomewhere 2) rfl (Or.inr ⟨rfl, Or.inr rfl⟩) (Nat.zero_le _) (Nat.zero_le _) ⟨rfl, Or.inl ⟨⟨by omega, by rw [show lsW (O 1) (P 4) (P 5) 0 n r = n from rfl]; exact hm⟩, rfl⟩⟩
  | succ c ih =>
    intro d hd x5 n r e5
    subst e5
    iterate 3 (refine zv_step (bX5_leadsSomewhere 2) rfl rfl trivial ?_)
    refine zv_iff (show ¬ c8 19 < nI d by rw [e19]; exact nI_nlt (by omega) (by omega)) ?_
    iterate 2 (refine zv_step (bX5_leadsSomewhere 2) rfl rfl trivial ?_)
    refine zv_ifb (fun hr => ?_) (fun hr => ?_)
    · iterate 2 (refine zv_step (bX5_leadsSomewhere 2) rfl rfl trivial ?_)
      refine zv_ifb (fun hq => ?_) (fun hq => ?_)
      · rw [Int32.lt_iff_toInt_lt, Int32.toInt_zero] at hq
        iterate 1 (refine zv_step (bX5_leadsSomewhere 2) rfl rfl trivial ?_)
        exact zv_iret (bX5_leadsSomewhere 2) rfl (Or.inr ⟨rfl, Or.inl rfl⟩) (Nat.zero_le _) (Nat.zero_le _) ⟨rfl, Or.inr ⟨fun q => by omega, rfl⟩⟩
      · rw [Int32.lt_iff_toInt_lt, Int32.toInt_zero] at hq
        iterate 3 (refine zv_step (bX5_leadsSomewhere 2) rfl rfl trivial ?_)
        refine zv_ifb (fun hm => ?_) (fun hm => ?_)
        · iterate 1 (refine zv_step (bX5_leadsSomewhere 2) rfl rfl trivial ?_)
          exact zv_iret (bX5_leadsSomewhere 2) rfl (Or.inr ⟨rfl, Or.inl rfl⟩) (Nat.zero_le _) (Nat.zero_le _) ⟨rfl, Or.inr ⟨fun q => q.2 (by rw [lsW_s, if_pos hr]; exact hm), rfl⟩⟩
        · iterate 2 (refine zv_step (bX5_leadsSomewhere 2) rfl rfl trivial ?_)
          exact zv_iret (bX5_leadsSomewhere 2) rfl (Or.inr ⟨rfl, Or.inr rfl⟩) (Nat.zero_le _) (Nat.zero_le _) ⟨rfl, Or.inl ⟨⟨by omega, by rw [lsW_s, if_pos hr]; exact hm⟩, rfl⟩⟩
    · iterate 4 (refine zv_step (bX5_leadsSomewhere 2) rfl rfl trivial ?_)
      refine zv_step (bX5_leadsSomewhere 2) rfl rfl (show ¬ Int32.ofInt 3 = 0 by decide) ?_
      refine zv_V2 (bX5_leadsSomewhere 2) rfl rfl rfl rfl rfl rfl rfl ⟨rfl, rfl, rfl⟩ ⟨by decide, by decide⟩ ⟨Nat.zero_le _, Nat.zero_le _⟩ (pPt1 O P Y g hu _ _) ?_
      rintro _ _ ⟨rfl, rfl⟩
      iterate 3 (refine zv_step (bX5_leadsSomewhere 2) rfl rfl trivial ?_)
      refine zv_step (bX5_leadsSomewhere 2) rfl rfl (show ¬ Int32.ofInt 3 = 0 by decide) ?_
      iterate 3 (refine zv_step (bX5_leadsSomewhere 2) rfl rfl trivial ?_)
      have := ih (d + 1) (by omega) (x5 := nI d + Int32.ofInt 1) (n := ptW (O 1) (P 4) (P 5) n (r - r / Int32.ofInt 3 * Int32.ofInt 3)) (r := r / Int32.ofInt 3) (nI_1 d)
      rw [← show lsW (O 1) (P 4) (P 5) (c + 1) n r = _ from (lsW_s _ _ _ _ _ _).trans (if_neg hr)] at this
      exact this
set_option maxHeartbeats 1000000 in
set_option maxRecDepth 20000 in
theorem wLeads (O : Nat → Int32) (P : Nat → Nat → Int32) (Y : Nat → Nat → Int64) (g : Nat → zC) (hu : (O 1).toInt ≤ 120) (p : Int32) : zK 2 zX5_leadsSomewhere [.ref 55, .ref 1, .int p] (wX O P Y g) (fun r' w' => w' = wX O P Y g ∧ (((0 ≤ p.toInt ∧ ¬ lsW (O 1) (P 4) (P 5) 20 (P 56 0) p = Int32.ofInt (-1)) ∧ r' = some (.int 1)) ∨ (¬ (0 ≤ p.toInt ∧ ¬ lsW (O 1) (P 4) (P 5) 20 (P 56 0) p = Int32.ofInt (-1)) ∧ r' = some (.int 0)))) := by
  refine zK_of qX5_leadsSomewhere (by decide +kernel) rfl ?_
  iterate 3 (refine zv_step (bX5_leadsSomewhere 2) rfl rfl trivial ?_)
  refine zv_iale (bX5_leadsSomewhere 2) rfl rfl (by unfold vp_in; decide) (v := P 56 0) rfl ?_
  iterate 5 (refine zv_step (bX5_leadsSomewhere 2) rfl rfl trivial ?_)
  exact wLeadsL O P Y g hu p 20 0 rfl rfl
end
section
noncomputable def foW (u : Int32) (Xs Ys : Nat → Int32) : Nat → Int32 → Nat × (Nat → Int32) × (Nat → Int32) → Nat × (Nat → Int32) × (Nat → Int32)
  | 0, _, s => s
  | c + 1, r, s => if r ≤ 0 then s else foW u Xs Ys c (r / Int32.ofInt 3) (sdW u Xs Ys (r - r / Int32.ofInt 3 * Int32.ofInt 3) s)
theorem foW_s (u : Int32) (Xs Ys : Nat → Int32) (c : Nat) (r : Int32) (s : Nat × (Nat → Int32) × (Nat → Int32)) : foW u Xs Ys (c + 1) r s = (if r ≤ 0 then s else foW u Xs Ys c (r / Int32.ofInt 3) (sdW u Xs Ys (r - r / Int32.ofInt 3 * Int32.ofInt 3) s)) := rfl
set_option maxHeartbeats 1000000 in
set_option maxRecDepth 20000 in
theorem wFollowL (O : Nat → Int32) (P : Nat → Nat → Int32) (Y : Nat → Nat → Int64) (g : Nat → zC) (hu : (O 1).toInt ≤ 120) (p : Int32) {n0 : Nat} {Q : Option Value → zW → Prop} : ∀ (c d : Nat), d + c = 20 → ∀ {x4 r : Int32} {s : Nat × (Nat → Int32) × (Nat → Int32)}, x4 = nI d → s.1 < 40 → Q (some (.int 1)) (wX (upd O 14 (nI ((foW (O 1) (P 4) (P 5) c r s).1))) (updA (updA P 56 ((foW (O 1) (P 4) (P 5) c r s).2.1)) 57 ((foW (O 1) (P 4) (P 5) c r s).2.2)) Y g) → zV (zMo 3 zX5_follow) false n0 0 0 21 [(4, .int x4), (3, .int r), (0, .ref 55), (1, .ref 1), (2, .int p)] [] (wX (upd O 14 (nI (s.1))) (updA (updA P 56 (s.2.1)) 57 (s.2.2)) Y g) Q := by
  intro c
  induction c with
  | zero =>
    intro d hd x4 r s e4 hs kk
    subst e4
    iterate 3 (refine zv_step (bX5_follow 3) rfl rfl trivial ?_)
    refine zv_ift (show c8 19 < nI d by rw [e19]; exact nI_lt (by omega) (by omega)) ?_
    iterate 1 (refine zv_step (bX5_follow 3) rfl rfl trivial ?_)
    exact zv_iret (bX5_follow 3) rfl (Or.inr ⟨rfl, Or.inr rfl⟩) (Nat.zero_le _) (Nat.zero_le _) kk
  | succ c ih =>
    intro d hd x4 r s e4 hs kk
    subst e4
    rw [foW_s] at kk
    iterate 3 (refine zv_step (bX5_follow 3) rfl rfl trivial ?_)
    refine zv_iff (show ¬ c8 19 < nI d by rw [e19]; exact nI_nlt (by omega) (by omega)) ?_
    iterate 2 (refine zv_step (bX5_follow 3) rfl rfl trivial ?_)
    refine zv_ifb (fun hr => ?_) (fun hr => ?_)
    · rw [if_pos hr] at kk
      iterate 1 (refine zv_step (bX5_follow 3) rfl rfl trivial ?_)
      exact zv_iret (bX5_follow 3) rfl (Or.inr ⟨rfl, Or.inr rfl⟩) (Nat.zero_le _) (Nat.zero_le _) kk
    · rw [if_neg hr] at kk
      iterate 4 (refine zv_step (bX5_follow 3) rfl rfl trivial ?_)
      refine zv_step (bX5_follow 3) rfl rfl (show ¬ Int32.ofInt 3 = 0 by decide) ?_
      refine zv_V2 (bX5_follow 3) rfl rfl rfl rfl rfl rfl rfl ⟨rfl, rfl, rfl⟩ ⟨by decide, by decide⟩ ⟨Nat.zero_le _, Nat.zero_le _⟩ (wDown O P Y g hu hs s.2.1 s.2.2 (r - r / Int32.ofInt 3 * Int32.ofInt 3)) ?_
      rintro r9 _ ⟨rfl, hr9⟩
      obtain ⟨a9, rfl⟩ : ∃ a, r9 = some (.int a) := hr9.elim (fun q => ⟨_, q.2⟩) (fun q => ⟨_, q.2⟩)
      iterate 3 (refine zv_step (bX5_follow 3) rfl rfl trivial ?_)
      refine zv_step (bX5_follow 3) rfl rfl (show ¬ Int32.ofInt 3 = 0 by decide) ?_
      iterate 3 (refine zv_step (bX5_follow 3) rfl rfl trivial ?_)
      exact ih (d + 1) (by omega) (s := (sdW (O 1) (P 4) (P 5) (r - r / Int32.ofInt 3 * Int32.ofInt 3) s)) (nI_1 d) (sdW_le hs) kk
set_option maxHeartbeats 1000000 in
set_option maxRecDepth 20000 in
theorem wFollow (O : Nat → Int32) (P : Nat → Nat → Int32) (Y : Nat → Nat → Int64) (g : Nat → zC) (hu : (O 1).toInt ≤ 120) (p : Int32) : zK 3 zX5_follow [.ref 55, .ref 1, .int p] (wX O P Y g) (fun r w' => ((0 ≤ p.toInt ∧ ¬ lsW (O 1) (P 4) (P 5) 20 (P 56 0) p = Int32.ofInt (-1)) ∧ r = some (.int 1) ∧ w' = (wX (upd O 14 (nI ((foW (O 1) (P 4) (P 5) 20 p (0, P 56, P 57)).1))) (updA (updA P 56 ((foW (O 1) (P 4) (P 5) 20 p (0, P 56, P 57)).2.1)) 57 ((foW (O 1) (P 4) (P 5) 20 p (0, P 56, P 57)).2.2)) Y g)) ∨ (¬ (0 ≤ p.toInt ∧ ¬ lsW (O 1) (P 4) (P 5) 20 (P 56 0) p = Int32.ofInt (-1)) ∧ r = some (.int 0) ∧ w' = wX O P Y g)) := by
  refine zK_of qX5_follow (by decide +kernel) rfl ?_
  iterate 3 (refine zv_step (bX5_follow 3) rfl rfl trivial ?_)
  refine zv_V2 (bX5_follow 3) rfl rfl rfl rfl rfl rfl rfl ⟨rfl, rfl, rfl⟩ ⟨by decide, by decide⟩ ⟨Nat.zero_le _, Nat.zero_le _⟩ (wLeads O P Y g hu p) ?_
  rintro _ _ ⟨rfl, ⟨hh, rfl⟩ | ⟨hh, rfl⟩⟩
  · iterate 1 (refine zv_step (bX5_follow 3) rfl rfl trivial ?_)
    refine zv_ift (by decide) ?_
    iterate 7 (refine zv_step (bX5_follow 3) rfl rfl trivial ?_)
    exact wFollowL O P Y g hu p 20 0 rfl (s := (0, P 56, P 57)) rfl (show (0 : Nat) < 40 by decide) (Or.inl ⟨hh, rfl, rfl⟩)
  · iterate 1 (refine zv_step (bX5_follow 3) rfl rfl trivial ?_)
    refine zv_iff (by decide) ?_
    iterate 1 (refine zv_step (bX5_follow 3) rfl rfl trivial ?_)
    exact zv_iret (bX5_follow 3) rfl (Or.inr ⟨rfl, Or.inl rfl⟩) (Nat.zero_le _) (Nat.zero_le _) (Or.inr ⟨hh, rfl, rfl⟩)
end
section
def brW (R : Nat → Int32) (a b : Nat) : Prop := 2 < b - a ∧ R a = c8 29 ∧ R (b - 1) = c8 30
theorem sub_le {a b n : Nat} (h : a ≤ b) (hb : b ≤ 100) (hn : n < 100) : nI b - nI a ≤ nI n ↔ b - a ≤ n := by
  rw [pk_sub h]
  exact nI_leI (by omega) (by omega)
theorem sub_1 {b : Nat} (h : 1 ≤ b) : nI b - Int32.ofInt 1 = nI (b - 1) := by
  obtain ⟨k, rfl⟩ : ∃ k, b = k + 1 := ⟨b - 1, by omega⟩
  exact nI_pred k
set_option maxHeartbeats 1000000 in
set_option maxRecDepth 20000 in
theorem hBr (O : Nat → Int32) (P : Nat → Nat → Int32) (Y : Nat → Nat → Int64) (g : Nat → zC) {a b : Nat} (hab : a < b) (hb : b ≤ 20) : zK 0 zX0_isBracketed [.ref 31, .int (nI a), .int (nI b)] (wX O P Y g) (fun r w' => w' = wX O P Y g ∧ ((brW (P 32) a b ∧ r = some (.int 1)) ∨ (¬ brW (P 32) a b ∧ r = some (.int 0)))) := by
  refine zK_of qX0_isBracketed (by decide +kernel) rfl ?_
  iterate 5 (refine zv_step (bX0_isBracketed 0) rfl rfl trivial ?_)
  refine zv_ifb (fun hc => ?_) (fun hc => ?_)
  · have hc : nI b - nI a ≤ Int32.ofInt 2 := hc
    rw [show Int32.ofInt 2 = nI 2 from rfl, sub_le (by omega) (by omega) (by decide)] at hc
    iterate 1 (refine zv_step (bX0_isBracketed 0) rfl rfl trivial ?_)
    exact zv_iret (bX0_isBracketed 0) rfl (Or.inr ⟨rfl, Or.inl rfl⟩) (Nat.zero_le _) (Nat.zero_le _) ⟨rfl, Or.inr ⟨fun q => by have := q.1; omega, rfl⟩⟩
  · have hc : ¬ nI b - nI a ≤ Int32.ofInt 2 := hc
    rw [show Int32.ofInt 2 = nI 2 from rfl, sub_le (by omega) (by omega) (by decide)] at hc
    iterate 3 (refine zv_step (bX0_isBracketed 0) rfl rfl trivial ?_)
    refine zv_iale (bX0_isBracketed 0) rfl rfl (show vp_in (nI a) 20 by exact vp_in_nI (by omega) (by decide)) (show P 32 (nI a).toNatClampNeg = P 32 (a) by rw [nI_clamp (by omega)]) ?_
    iterate 2 (refine zv_step (bX0_isBracketed 0) rfl rfl trivial ?_)
    refine zv_ifb (fun h1 => ?_) (fun h1 => ?_)
    · iterate 1 (refine zv_step (bX0_isBracketed 0) rfl rfl trivial ?_)
      exact zv_iret (bX0_isBracketed 0) rfl (Or.inr ⟨rfl, Or.inl rfl⟩) (Nat.zero_le _) (Nat.zero_le _) ⟨rfl, Or.inr ⟨fun q => h1 q.2.1, rfl⟩⟩
    · iterate 5 (refine zv_step (bX0_isBracketed 0) rfl rfl trivial ?_)
      refine zv_iale (bX0_isBracketed 0) rfl rfl (show vp_in (nI b - Int32.ofInt 1) 20 by rw [sub_1 (by omega)]; exact vp_in_nI (by omega) (by decide)) (show P 32 (nI b - Int32.ofInt 1).toNatClampNeg = P 32 (b - 1) by rw [sub_1 (by omega), nI_clamp (by omega)]) ?_
      iterate 2 (refine zv_step (bX0_isBracketed 0) rfl rfl trivial ?_)
      refine zv_ifb (fun h2 => ?_) (fun h2 => ?_)
      · iterate 1 (refine zv_step (bX0_isBracketed 0) rfl rfl trivial ?_)
        exact zv_iret (bX0_isBracketed 0) rfl (Or.inr ⟨rfl, Or.inl rfl⟩) (Nat.zero_le _) (Nat.zero_le _) ⟨rfl, Or.inr ⟨fun q => h2 q.2.2, rfl⟩⟩
      · iterate 2 (refine zv_step (bX0_isBracketed 0) rfl rfl trivial ?_)
        exact zv_iret (bX0_isBracketed 0) rfl (Or.inr ⟨rfl, Or.inr rfl⟩) (Nat.zero_le _) (Nat.zero_le _) ⟨rfl, Or.inl ⟨⟨by omega, Decidable.not_not.mp h1, Decidable.not_not.mp h2⟩, rfl⟩⟩
def pfW (k i : Int32) : Int32 := if k = c8 9 then i + Int32.ofInt 2 else i + Int32.ofInt 1
def ptoW (k j : Int32) : Int32 := if k = c8 8 then j - Int32.ofInt 1 else j
set_option maxHeartbeats 1000000 in
set_option maxRecDepth 20000 in
theorem hFrom (w : zW) (k i : Int32) : zK 0 zX0_partFrom [.int k, .int i] w (fun r w' => w' = w ∧ r = some (.int (pfW k i))) := by
  refine zK_of qX0_partFrom (by decide +kernel) rfl ?_
  iterate 3 (refine zv_step (bX0_partFrom 0) rfl rfl trivial ?_)
  refine zv_ifb (fun hc => ?_) (fun hc => ?_)
  · iterate 3 (refine zv_step (bX0_partFrom 0) rfl rfl trivial ?_)
    exact zv_iret (bX0_partFrom 0) rfl (Or.inl rfl) (Nat.zero_le _) (Nat.zero_le _) ⟨rfl, by unfold pfW; rw [if_neg hc]⟩
  · iterate 4 (refine zv_step (bX0_partFrom 0) rfl rfl trivial ?_)
    exact zv_iret (bX0_partFrom 0) rfl (Or.inl rfl) (Nat.zero_le _) (Nat.zero_le _) ⟨rfl, by unfold pfW; rw [if_pos (Decidable.not_not.mp hc)]⟩
set_option maxHeartbeats 1000000 in
set_option maxRecDepth 20000 in
theorem hTo (w : zW) (k i : Int32) : zK 0 zX0_partTo [.int k, .int i] w (fun r w' => w' = w ∧ r = some (.int (ptoW k i))) := by
  refine zK_of qX0_partTo (by decide +kernel) rfl ?_
  iterate 3 (refine zv_step (bX0_partTo 0) rfl rfl trivial ?_)
  refine zv_ifb (fun hc => ?_) (fun hc => ?_)
  · iterate 1 (refine zv_step (bX0_partTo 0) rfl rfl trivial ?_)
    exact zv_iret (bX0_partTo 0) rfl (Or.inl rfl) (Nat.zero_le _) (Nat.zero_le _) ⟨rfl, by unfold ptoW; rw [if_neg hc]⟩
  · iterate 4 (refine zv_step (bX0_partTo 0) rfl rfl trivial ?_)
    exact zv_iret (bX0_partTo 0) rfl (Or.inl rfl) (Nat.zero_le _) (Nat.zero_le _) ⟨rfl, by unfold ptoW; rw [if_pos (Decidable.not_not.mp hc)]⟩
/-- the NUMBER that words m .. say behind t, or -1 -/
def nmL (R : Nat → Int32) : Nat → Nat → Int32 → Int32
  | 0, _, t => t
  | c + 1, m, t => if R m - c8 10 < 0 then Int32.ofInt (-1) else if R m - c8 10 ≤ c8 9 then nmL R c (m + 1) (t * c8 10 + (R m - c8 10)) else Int32.ofInt (-1)
theorem nmL_s (R : Nat → Int32) (c m : Nat) (t : Int32) : nmL R (c + 1) m t = (if R m - c8 10 < 0 then Int32.ofInt (-1) else if R m - c8 10 ≤ c8 9 then nmL R c (m + 1) (t * c8 10 + (R m - c8 10)) else Int32.ofInt (-1)) := rfl
def nmW (R : Nat → Int32) (a b : Nat) : Int32 := if 4 < b - a ∨ (1 < b - a ∧ R a = c8 10) then Int32.ofInt (-1) else nmL R (b - a) a (Int32.ofInt 0)
set_option maxHeartbeats 1000000 in
set_option maxRecDepth 20000 in
theorem hNumL (O : Nat → Int32) (P : Nat → Nat → Int32) (Y : Nat → Nat → Int64) (g : Nat → zC) {a b : Nat} (hab : a < b) (hb : b ≤ 20) {n0 : Nat} : ∀ (c m : Nat), m + c = b → ∀ {x4 t : Int32}, x4 = nI m → zV (zMo 0 zX0_numberIn) false n0 0 0 32 [(4, .int x4), (3, .int t), (0, .ref 31), (1, .int (nI a)), (2, .int (nI b))] [] (wX O P Y g) (fun r w' => w' = wX O P Y g ∧ r = some (.int (nmL (P 32) c m t))) := by
  intro c
  induction c with
  | zero =>
    intro m hm x4 t e4
    subst e4
    iterate 3 (refine zv_step (bX0_numberIn 0) rfl rfl trivial ?_)
    refine zv_ift (nI_le (by omega) (by omega)) ?_
    iterate 1 (refine zv_step (bX0_numberIn 0) rfl rfl trivial ?_)
    exact zv_iret (bX0_numberIn 0) rfl (Or.inl rfl) (Nat.zero_le _) (Nat.zero_le _) ⟨rfl, rfl⟩
  | succ c ih =>
    intro m hm x4 t e4
    subst e4
    rw [nmL_s]
    iterate 3 (refine zv_step (bX0_numberIn 0) rfl rfl trivial ?_)
    refine zv_iff (nI_ge (by omega) (by omega)) ?_
    iterate 3 (refine zv_step (bX0_numberIn 0) rfl rfl trivial ?_)
    refine zv_iale (bX0_numberIn 0) rfl rfl (show vp_in (nI m) 20 by exact vp_in_nI (by omega) (by decide)) (show P 32 (nI m).toNatClampNeg = P 32 (m) by rw [nI_clamp (by omega)]) ?_
    iterate 5 (refine zv_step (bX0_numberIn 0) rfl rfl trivial ?_)
    refine zv_ifb (fun h1 => ?_) (fun h1 => ?_)
    · rw [if_pos h1]
      iterate 1 (refine zv_step (bX0_numberIn 0) rfl rfl trivial ?_)
      exact zv_iret (bX0_numberIn 0) rfl (Or.inl rfl) (Nat.zero_le _) (Nat.zero_le _) ⟨rfl, rfl⟩
    · rw [if_neg h1]
      iterate 3 (refine zv_step (bX0_numberIn 0) rfl rfl trivial ?_)
      refine zv_ifb (fun h2 => ?_) (fun h2 => ?_)
      · rw [if_pos h2]
        iterate 8 (refine zv_step (bX0_numberIn 0) rfl rfl trivial ?_)
        refine zv_locals (l := [(4, .int (nI m + Int32.ofInt 1)), (3, .int (t * c8 10 + (P 32 m - c8 10))), (5, .int (P 32 m - c8 10)), (0, .ref 31), (1, .int (nI a)), (2, .int (nI b))]) (l' := [(4, .int (nI m + Int32.ofInt 1)), (3, .int (t * c8 10 + (P 32 m - c8 10))), (0, .ref 31), (1, .int (nI a)), (2, .int (nI b))]) ?_ (ih (m + 1) (by omega) (nI_1 m))
        simp
      · rw [if_neg h2]
        iterate 1 (refine zv_step (bX0_numberIn 0) rfl rfl trivial ?_)
        exact zv_iret (bX0_numberIn 0) rfl (Or.inl rfl) (Nat.zero_le _) (Nat.zero_le _) ⟨rfl, rfl⟩
set_option maxHeartbeats 1000000 in
set_option maxRecDepth 20000 in
theorem hNum (O : Nat → Int32) (P : Nat → Nat → Int32) (Y : Nat → Nat → Int64) (g : Nat → zC) {a b : Nat} (hab : a < b) (hb : b ≤ 20) : zK 0 zX0_numberIn [.ref 31, .int (nI a), .int (nI b)] (wX O P Y g) (fun r w' => w' = wX O P Y g ∧ r = some (.int (nmW (P 32) a b))) := by
  refine zK_of qX0_numberIn (by decide +kernel) rfl ?_
  iterate 5 (refine zv_step (bX0_numberIn 0) rfl rfl trivial ?_)
  refine zv_ifb (fun hc => ?_) (fun hc => ?_)
  · have hc : Int32.ofInt 4 < nI b - nI a := hc
    rw [show Int32.ofInt 4 = nI 4 from rfl, pk_sub (by omega), nI_ltI (by decide) (by omega)] at hc
    iterate 1 (refine zv_step (bX0_numberIn 0) rfl rfl trivial ?_)
    exact zv_iret (bX0_numberIn 0) rfl (Or.inl rfl) (Nat.zero_le _) (Nat.zero_le _) ⟨rfl, by rw [show nmW (P 32) a b = Int32.ofInt (-1) from if_pos (Or.inl hc)]⟩
  · have hc : ¬ Int32.ofInt 4 < nI b - nI a := hc
    rw [show Int32.ofInt 4 = nI 4 from rfl, pk_sub (by omega), nI_ltI (by decide) (by omega)] at hc
    iterate 5 (refine zv_step (bX0_numberIn 0) rfl rfl trivial ?_)
    refine zv_ifb (fun hd => ?_) (fun hd => ?_)
    · have hd : nI b - nI a ≤ Int32.ofInt 1 := hd
      rw [show Int32.ofInt 1 = nI 1 from rfl, sub_le (by omega) (by omega) (by decide)] at hd
      iterate 4 (refine zv_step (bX0_numberIn 0) rfl rfl trivial ?_)
      rw [show nmW (P 32) a b = nmL (P 32) (b - a) a (Int32.ofInt 0) from if_neg (fun q => q.elim hc (fun z => by have := z.1; omega))]
      exact hNumL O P Y g hab hb (b - a) a (by omega) rfl
    · have hd : ¬ nI b - nI a ≤ Int32.ofInt 1 := hd
      rw [show Int32.ofInt 1 = nI 1 from rfl, sub_le (by omega) (by omega) (by decide)] at hd
      iterate 3 (refine zv_step (bX0_numberIn 0) rfl rfl trivial ?_)
      refine zv_iale (bX0_numberIn 0) rfl rfl (show vp_in (nI a) 20 by exact vp_in_nI (by omega) (by decide)) (show P 32 (nI a).toNatClampNeg = P 32 (a) by rw [nI_clamp (by omega)]) ?_
      iterate 2 (refine zv_step (bX0_numberIn 0) rfl rfl trivial ?_)
      refine zv_ifb (fun he => ?_) (fun he => ?_)
      · iterate 4 (refine zv_step (bX0_numberIn 0) rfl rfl trivial ?_)
        rw [show nmW (P 32) a b = nmL (P 32) (b - a) a (Int32.ofInt 0) from if_neg (fun q => q.elim hc (fun z => he z.2))]
        exact hNumL O P Y g hab hb (b - a) a (by omega) rfl
      · iterate 1 (refine zv_step (bX0_numberIn 0) rfl rfl trivial ?_)
        exact zv_iret (bX0_numberIn 0) rfl (Or.inl rfl) (Nat.zero_le _) (Nat.zero_le _) ⟨rfl, by rw [show nmW (P 32) a b = Int32.ofInt (-1) from if_pos (Or.inr ⟨by omega, Decidable.not_not.mp he⟩)]⟩
end
section
section ZLA
variable {M : zM} {al : Bool} {n0 kc ks pc nxt a b : Nat} {c0 : Int} {l : zL} {st rest : List Value} {w : zW} {Q : Option Value → zW → Prop} {tb : List zE}
theorem zv_lald (ok : zTb M tb) (hlook : zlook tb pc = some (.laload, nxt, a, b, c0)) {k n : Nat} {f : Nat → Int64} {i : Int32} (hw : w[k]? = some (zJ n f)) (hi : vp_in i n) (kk : zV M al n0 kc ks nxt l (.long (f i.toNatClampNeg) :: st) w Q) : zV M al n0 kc ks pc l (.int i :: .ref k :: st) w Q := by
  refine zv_step ok hlook (P := vp_in i n) (pc' := nxt) (l' := l) (st' := .long (f i.toNatClampNeg) :: st) (w' := w) ?_ hi kk
  simp only [zstep, hw]
theorem zv_last (ok : zTb M tb) (hlook : zlook tb pc = some (.lastore, nxt, a, b, c0)) {k n : Nat} {f : Nat → Int64} {i : Int32} {x : Int64} (hw : w[k]? = some (zJ n f)) (hi : vp_in i n) (kk : zV M al n0 kc ks nxt l st (w.set k (zJ n (vp_updL f i.toNatClampNeg x))) Q) : zV M al n0 kc ks pc l (.long x :: .int i :: .ref k :: st) w Q := by
  refine zv_step ok hlook (P := vp_in i n) (pc' := nxt) (l' := l) (st' := st) (w' := w.set k (zJ n (vp_updL f i.toNatClampNeg x))) ?_ hi kk
  simp only [zstep, hw]
end ZLA
def updJ (A : Nat → Nat → Int64) (k : Nat) (g : Nat → Int64) : Nat → Nat → Int64 := fun j => if j = k then g else A j
set_option maxRecDepth 20000 in
theorem wY (O : Nat → Int32) (P : Nat → Nat → Int32) (Y : Nat → Nat → Int64) (g : Nat → zC) : ∀ {i : Nat}, i < 21 → (wX O P Y g)[34 + i]? = some (zJ 21 (Y (34 + i))) := by
  intro i hi
  match i, hi with
  | 0, _ => rfl
  | 1, _ => rfl
  | 2, _ => rfl
  | 3, _ => rfl
  | 4, _ => rfl
  | 5, _ => rfl
  | 6, _ => rfl
  | 7, _ => rfl
  | 8, _ => rfl
  | 9, _ => rfl
  | 10, _ => rfl
  | 11, _ => rfl
  | 12, _ => rfl
  | 13, _ => rfl
  | 14, _ => rfl
  | 15, _ => rfl
  | 16, _ => rfl
  | 17, _ => rfl
  | 18, _ => rfl
  | 19, _ => rfl
  | 20, _ => rfl
  | n + 21, h => exact absurd h (by omega)
set_option maxRecDepth 20000 in
theorem wYset (O : Nat → Int32) (P : Nat → Nat → Int32) (Y : Nat → Nat → Int64) (g : Nat → zC) (h : Nat → Int64) : ∀ {i : Nat}, i < 21 → (wX O P Y g).set (34 + i) (zJ 21 h) = wX O P (updJ Y (34 + i) h) g := by
  intro i hi
  match i, hi with
  | 0, _ => rfl
  | 1, _ => rfl
  | 2, _ => rfl
  | 3, _ => rfl
  | 4, _ => rfl
  | 5, _ => rfl
  | 6, _ => rfl
  | 7, _ => rfl
  | 8, _ => rfl
  | 9, _ => rfl
  | 10, _ => rfl
  | 11, _ => rfl
  | 12, _ => rfl
  | 13, _ => rfl
  | 14, _ => rfl
  | 15, _ => rfl
  | 16, _ => rfl
  | 17, _ => rfl
  | 18, _ => rfl
  | 19, _ => rfl
  | 20, _ => rfl
  | n + 21, h => exact absurd h (by omega)
theorem dLs : ∀ {i : Nat}, i < 21 → ([some 34, some 35, some 36, some 37, some 38, some 39, some 40, some 41, some 42, some 43, some 44, some 45, some 46, some 47, some 48, some 49, some 50, some 51, some 52, some 53, some 54] : List (Option Nat)).getD i none = some (34 + i) := by
  intro i hi
  match i, hi with
  | 0, _ => rfl
  | 1, _ => rfl
  | 2, _ => rfl
  | 3, _ => rfl
  | 4, _ => rfl
  | 5, _ => rfl
  | 6, _ => rfl
  | 7, _ => rfl
  | 8, _ => rfl
  | 9, _ => rfl
  | 10, _ => rfl
  | 11, _ => rfl
  | 12, _ => rfl
  | 13, _ => rfl
  | 14, _ => rfl
  | 15, _ => rfl
  | 16, _ => rfl
  | 17, _ => rfl
  | 18, _ => rfl
  | 19, _ => rfl
  | 20, _ => rfl
  | n + 21, h => exact absurd h (by omega)
/-- the ways of all spans, bounded -/
def wyI (Y : Nat → Nat → Int64) : Prop := ∀ i j : Nat, i < j → j ≤ 20 → 0 ≤ (Y (34 + i) j).toInt ∧ (Y (34 + i) j).toInt ≤ ((8 ^ (j - i - 1) : Nat) : Int)
def hbB (w : Nat) : Nat := if w < 3 then 1 else 26 * 8 ^ (w - 3)
def hsB (w : Nat) : Nat := if w < 3 then 0 else 18 * 8 ^ (w - 3)
def inB (v : Int64) (n : Nat) : Prop := 0 ≤ v.toInt ∧ v.toInt ≤ (n : Int)
theorem inB_le {v : Int64} {n m : Nat} (h : inB v n) (hm : n ≤ m) : inB v m := ⟨h.1, Int.le_trans h.2 (Int.ofNat_le.mpr hm)⟩
theorem inB_mul {x y : Int64} {A B : Nat} (hx : inB x A) (hy : inB y B) (h : A * B < 2 ^ 62) : inB (x * y) (A * B) := by
  have h0 : 0 ≤ x.toInt * y.toInt := Int.mul_nonneg hx.1 hy.1
  have h1 : x.toInt * y.toInt ≤ (A : Int) * (B : Int) := Int.mul_le_mul hx.2 hy.2 hy.1 (Int.natCast_nonneg A)
  have h2 : (A : Int) * (B : Int) = ((A * B : Nat) : Int) := (Int.natCast_mul A B).symm
  have h3 : (x * y).toInt = x.toInt * y.toInt := by
    rw [Int64.toInt_mul]
    exact Int.bmod_eq_of_le (by omega) (by omega)
  exact ⟨by omega, by omega⟩
theorem inB_add {x y : Int64} {A B : Nat} (hx : inB x A) (hy : inB y B) (h : A + B < 2 ^ 62) : inB (x + y) (A + B) := by
  have a1 := hx.1
  have a2 := hx.2
  have b1 := hy.1
  have b2 := hy.2
  have h3 : (x + y).toInt = x.toInt + y.toInt := by
    rw [Int64.toInt_add]
    exact Int.bmod_eq_of_le (by omega) (by omega)
  exact ⟨by omega, by omega⟩
theorem pow8 {n m : Nat} (h : n ≤ m) : 8 ^ n ≤ 8 ^ m := Nat.pow_le_pow_right (by decide) h
theorem pow8_17 {n : Nat} (h : n ≤ 17) : 8 ^ n ≤ 2251799813685248 := Nat.le_trans (pow8 h) (by decide)
theorem inB_1 : inB (Int64.ofInt 1) 1 := by unfold inB; decide
theorem inB_0 (n : Nat) : inB (Int64.ofInt 0) n := by
  refine inB_le (n := 0) ?_ (Nat.zero_le _)
  unfold inB; decide
theorem hs_hb {s : Int64} {d : Nat} (hs : inB s (hsB d)) : inB s (hbB d) := by
  refine inB_le hs ?_
  unfold hsB hbB
  split <;> omega
theorem hs_1 {s : Int64} {d : Nat} (hd : d ≤ 20) (hs : inB s (hsB d)) : inB (s + Int64.ofInt 1) (hbB d) := by
  unfold hsB at hs
  unfold hbB
  split at hs
  · rename_i q
    rw [if_pos q]
    exact inB_add hs inB_1 (by decide)
  · rename_i q
    rw [if_neg q]
    have h1 := pow8_17 (n := d - 3) (by omega)
    have h2 : 1 ≤ 8 ^ (d - 3) := Nat.one_le_pow _ _ (by decide)
    exact inB_le (inB_add hs inB_1 (by omega)) (by omega)
theorem hs_w {s v : Int64} {d e : Nat} (hd : d ≤ 20) (hd2 : 2 ≤ d) (he : e + 2 ≤ d) (hs : inB s (hsB d)) (hv : inB v (8 ^ e)) : inB (s + v) (hbB d) := by
  unfold hsB at hs
  unfold hbB
  split at hs
  · rename_i q
    rw [if_pos q]
    have e0 : e = 0 := by omega
    subst e0
    exact inB_add hs hv (by decide)
  · rename_i q
    rw [if_neg q]
    have h1 := pow8_17 (n := d - 3) (by omega)
    have h2 : 8 ^ e ≤ 8 * 8 ^ (d - 3) := by
      have := pow8 (n := e) (m := (d - 3) + 1) (by omega)
      rw [Nat.pow_succ] at this
      omega
    exact inB_le (inB_add hs hv (by omega)) (by omega)
theorem hs_exit {s : Int64} {a b m : Nat} (hb : b ≤ 20) (hm : a < m) (hmb : m = a + 1 ∨ m ≤ b - 1) (hs : inB s ((m - a - 1) * 8 ^ (b - a - 3))) : inB s (hsB (b - a)) := by
  refine inB_le hs ?_
  unfold hsB
  split
  · have : m - a - 1 = 0 := by omega
    rw [this]; omega
  · exact Nat.mul_le_mul_right _ (by omega)
theorem hs_step {s x y : Int64} {a b m : Nat} (hb : b ≤ 20) (hm : a < m) (hmb : m < b - 1) (hs : inB s ((m - a - 1) * 8 ^ (b - a - 3))) (hx : inB x (8 ^ (m - a - 1))) (hy : inB y (8 ^ (b - (m + 1) - 1))) : inB (s + x * y) ((m + 1 - a - 1) * 8 ^ (b - a - 3)) := by
  have e : 8 ^ (m - a - 1) * 8 ^ (b - (m + 1) - 1) = 8 ^ (b - a - 3) := by
    rw [← Nat.pow_add]
    congr 1
    omega
  have h1 := pow8_17 (n := b - a - 3) (by omega)
  have h2 : (m - a - 1) * 8 ^ (b - a - 3) ≤ 18 * 2251799813685248 := Nat.mul_le_mul (by omega) h1
  have hxy := inB_mul hx hy (by rw [e]; omega)
  rw [e] at hxy
  have e2 : m + 1 - a - 1 = (m - a - 1) + 1 := by omega
  rw [e2, Nat.succ_mul]
  exact inB_add hs hxy (by omega)
theorem hb_two {x y : Int64} {d : Nat} (hd : d ≤ 20) (h3 : 2 < d) (hx : inB x (hbB d)) (hy : inB y (hbB (d - 2))) : inB (x + y) (8 ^ (d - 1)) := by
  have h1 := pow8_17 (n := d - 3) (by omega)
  have e1 : 8 ^ (d - 1) = 64 * 8 ^ (d - 3) := by
    rw [show d - 1 = (d - 3) + 2 by omega, Nat.pow_add]; omega
  have h2 : hbB d = 26 * 8 ^ (d - 3) := if_neg (by omega)
  have h4 : hbB (d - 2) ≤ 26 * 8 ^ (d - 3) := by
    unfold hbB
    have h5 : 1 ≤ 8 ^ (d - 3) := Nat.one_le_pow _ _ (by decide)
    have h6 := pow8 (n := d - 2 - 3) (m := d - 3) (by omega)
    split <;> omega
  rw [e1]
  exact inB_le (inB_add hx hy (by omega)) (by omega)
theorem hb_one {x : Int64} {d : Nat} (hd1 : 1 ≤ d) (hx : inB x (hbB d)) : inB x (8 ^ (d - 1)) := by
  refine inB_le hx ?_
  unfold hbB
  split
  · exact Nat.one_le_pow _ _ (by decide)
  · rw [show d - 1 = (d - 3) + 2 by omega, Nat.pow_add]; omega
/-- what a span of d words may be by its ends -/
def keR (d : Nat) (k : Int32) : Prop := k = Int32.ofInt (-1) ∨ k = Int32.ofInt 0 ∨ k = Int32.ofInt 1 ∨ (k = c8 7 ∧ 1 < d) ∨ (k = c8 8 ∧ 2 < d) ∨ (k = c8 9 ∧ 2 < d)
theorem nI_2 (a : Nat) : nI a + Int32.ofInt 2 = nI (a + 2) := by
  rw [show Int32.ofInt 2 = Int32.ofInt 1 + Int32.ofInt 1 from rfl, ← Int32.add_assoc]
  exact (congrArg (fun x => x + Int32.ofInt 1) (nI_1 a)).trans (nI_1 (a + 1))
theorem keR_span {a b : Nat} (hab : a < b) (hb : b ≤ 20) {k : Int32} (hk : keR (b - a) k) (h1 : Int32.ofInt 1 < k) : ∃ f t : Nat, pfW k (nI a) = nI f ∧ ptoW k (nI b) = nI t ∧ a < f ∧ f < t ∧ t ≤ b := by
  rcases hk with h | h | h | ⟨h, hd⟩ | ⟨h, hd⟩ | ⟨h, hd⟩
  · subst h; exact absurd h1 (by decide)
  · subst h; exact absurd h1 (by decide)
  · subst h; exact absurd h1 (by decide)
  · subst h; exact ⟨a + 1, b, (if_neg (by decide)).trans (nI_1 a), if_neg (by decide), by omega, by omega, by omega⟩
  · subst h; exact ⟨a + 1, b - 1, (if_neg (by decide)).trans (nI_1 a), (if_pos rfl).trans (sub_1 (by omega)), by omega, by omega, by omega⟩
  · subst h; exact ⟨a + 2, b, (if_pos rfl).trans (nI_2 a), if_neg (by decide), by omega, by omega, by omega⟩
set_option maxHeartbeats 1000000 in
set_option maxRecDepth 20000 in
theorem hKe (O : Nat → Int32) (P : Nat → Nat → Int32) (Y : Nat → Nat → Int64) (g : Nat → zC) {a b : Nat} (hab : a < b) (hb : b ≤ 20) : zK 1 zX0_kindByEnds [.ref 31, .int (nI a), .int (nI b)] (wX O P Y g) (fun r w' => w' = wX O P Y g ∧ ∃ k, r = some (.int k) ∧ keR (b - a) k) := by
  refine zK_of qX0_kindByEnds (by decide +kernel) rfl ?_
  iterate 3 (refine zv_step (bX0_kindByEnds 1) rfl rfl trivial ?_)
  refine zv_iale (bX0_kindByEnds 1) rfl rfl (show vp_in (nI a) 20 by exact vp_in_nI (by omega) (by decide)) (show P 32 (nI a).toNatClampNeg = P 32 (a) by rw [nI_clamp (by omega)]) ?_
  iterate 4 (refine zv_step (bX0_kindByEnds 1) rfl rfl trivial ?_)
  refine zv_ifb (fun h0 => ?_) (fun h0 => ?_)
  · iterate 3 (refine zv_step (bX0_kindByEnds 1) rfl rfl trivial ?_)
    refine zv_ifb (fun h1 => ?_) (fun h1 => ?_)
    · iterate 3 (refine zv_step (bX0_kindByEnds 1) rfl rfl trivial ?_)
      refine zv_ifb (fun h2 => ?_) (fun h2 => ?_)
      · iterate 3 (refine zv_step (bX0_kindByEnds 1) rfl rfl trivial ?_)
        refine zv_V2 (bX0_kindByEnds 1) rfl rfl rfl rfl rfl rfl rfl ⟨rfl, rfl, rfl⟩ ⟨by decide, by decide⟩ ⟨Nat.zero_le _, Nat.zero_le _⟩ (hNum O P Y g hab hb) ?_
        rintro _ _ ⟨rfl, rfl⟩
        iterate 2 (refine zv_step (bX0_kindByEnds 1) rfl rfl trivial ?_)
        refine zv_ifb (fun h3 => ?_) (fun h3 => ?_)
        · iterate 1 (refine zv_step (bX0_kindByEnds 1) rfl rfl trivial ?_)
          exact zv_iret (bX0_kindByEnds 1) rfl (Or.inl rfl) (Nat.zero_le _) (Nat.zero_le _) ⟨rfl, _, rfl, Or.inr (Or.inr (Or.inl rfl))⟩
        · iterate 2 (refine zv_step (bX0_kindByEnds 1) rfl rfl trivial ?_)
          exact zv_iret (bX0_kindByEnds 1) rfl (Or.inl rfl) (Nat.zero_le _) (Nat.zero_le _) ⟨rfl, _, rfl, Or.inl rfl⟩
      · iterate 5 (refine zv_step (bX0_kindByEnds 1) rfl rfl trivial ?_)
        refine zv_ifb (fun hc => ?_) (fun hc => ?_)
        · have hc : nI b - nI a ≤ Int32.ofInt 2 := hc
          rw [show Int32.ofInt 2 = nI 2 from rfl, sub_le (by omega) (by omega) (by decide)] at hc
          iterate 1 (refine zv_step (bX0_kindByEnds 1) rfl rfl trivial ?_)
          exact zv_iret (bX0_kindByEnds 1) rfl (Or.inl rfl) (Nat.zero_le _) (Nat.zero_le _) ⟨rfl, _, rfl, Or.inl rfl⟩
        · have hc : ¬ nI b - nI a ≤ Int32.ofInt 2 := hc
          rw [show Int32.ofInt 2 = nI 2 from rfl, sub_le (by omega) (by omega) (by decide)] at hc
          iterate 5 (refine zv_step (bX0_kindByEnds 1) rfl rfl trivial ?_)
          refine zv_iale (bX0_kindByEnds 1) rfl rfl (show vp_in (nI b - Int32.ofInt 1) 20 by rw [sub_1 (by omega)]; exact vp_in_nI (by omega) (by decide)) (show P 32 (nI b - Int32.ofInt 1).toNatClampNeg = P 32 (b - 1) by rw [sub_1 (by omega), nI_clamp (by omega)]) ?_
          iterate 2 (refine zv_step (bX0_kindByEnds 1) rfl rfl trivial ?_)
          refine zv_ifb (fun h4 => ?_) (fun h4 => ?_)
          · iterate 1 (refine zv_step (bX0_kindByEnds 1) rfl rfl trivial ?_)
            exact zv_iret (bX0_kindByEnds 1) rfl (Or.inl rfl) (Nat.zero_le _) (Nat.zero_le _) ⟨rfl, _, rfl, Or.inl rfl⟩
          · iterate 2 (refine zv_step (bX0_kindByEnds 1) rfl rfl trivial ?_)
            exact zv_iret (bX0_kindByEnds 1) rfl (Or.inl rfl) (Nat.zero_le _) (Nat.zero_le _) ⟨rfl, _, rfl, Or.inr (Or.inr (Or.inr (Or.inr (Or.inl ⟨rfl, by omega⟩))))⟩
    · iterate 5 (refine zv_step (bX0_kindByEnds 1) rfl rfl trivial ?_)
      refine zv_ifb (fun hc => ?_) (fun hc => ?_)
      · have hc : nI b - nI a ≤ Int32.ofInt 1 := hc
        rw [show Int32.ofInt 1 = nI 1 from rfl, sub_le (by omega) (by omega) (by decide)] at hc
        iterate 1 (refine zv_step (bX0_kindByEnds 1) rfl rfl trivial ?_)
        exact zv_iret (bX0_kindByEnds 1) rfl (Or.inl rfl) (Nat.zero_le _) (Nat.zero_le _) ⟨rfl, _, rfl, Or.inl rfl⟩
      · have hc : ¬ nI b - nI a ≤ Int32.ofInt 1 := hc
        rw [show Int32.ofInt 1 = nI 1 from rfl, sub_le (by omega) (by omega) (by decide)] at hc
        iterate 2 (refine zv_step (bX0_kindByEnds 1) rfl rfl trivial ?_)
        exact zv_iret (bX0_kindByEnds 1) rfl (Or.inl rfl) (Nat.zero_le _) (Nat.zero_le _) ⟨rfl, _, rfl, Or.inr (Or.inr (Or.inr (Or.inl ⟨rfl, by omega⟩)))⟩
  · iterate 3 (refine zv_step (bX0_kindByEnds 1) rfl rfl trivial ?_)
    refine zv_S2 (bX0_kindByEnds 1) rfl rfl rfl rfl ⟨rfl, rfl, rfl⟩ ⟨by decide, by decide⟩ ⟨Nat.zero_le _, Nat.zero_le _⟩ (pHasBitW _ _ _) ?_
    rintro _ _ ⟨rfl, rfl⟩
    iterate 3 (refine zv_step (bX0_kindByEnds 1) rfl rfl trivial ?_)
    refine zv_ifb (fun h5 => ?_) (fun h5 => ?_)
    · iterate 5 (refine zv_step (bX0_kindByEnds 1) rfl rfl trivial ?_)
      refine zv_ifb (fun h6 => ?_) (fun h6 => ?_)
      · iterate 1 (refine zv_step (bX0_kindByEnds 1) rfl rfl trivial ?_)
        exact zv_iret (bX0_kindByEnds 1) rfl (Or.inl rfl) (Nat.zero_le _) (Nat.zero_le _) ⟨rfl, _, rfl, Or.inl rfl⟩
      · iterate 2 (refine zv_step (bX0_kindByEnds 1) rfl rfl trivial ?_)
        exact zv_iret (bX0_kindByEnds 1) rfl (Or.inl rfl) (Nat.zero_le _) (Nat.zero_le _) ⟨rfl, _, rfl, Or.inr (Or.inl rfl)⟩
    · iterate 5 (refine zv_step (bX0_kindByEnds 1) rfl rfl trivial ?_)
      refine zv_ifb (fun hc => ?_) (fun hc => ?_)
      · have hc : nI b - nI a ≤ Int32.ofInt 2 := hc
        rw [show Int32.ofInt 2 = nI 2 from rfl, sub_le (by omega) (by omega) (by decide)] at hc
        iterate 1 (refine zv_step (bX0_kindByEnds 1) rfl rfl trivial ?_)
        exact zv_iret (bX0_kindByEnds 1) rfl (Or.inl rfl) (Nat.zero_le _) (Nat.zero_le _) ⟨rfl, _, rfl, Or.inl rfl⟩
      · have hc : ¬ nI b - nI a ≤ Int32.ofInt 2 := hc
        rw [show Int32.ofInt 2 = nI 2 from rfl, sub_le (by omega) (by omega) (by decide)] at hc
        iterate 5 (refine zv_step (bX0_kindByEnds 1) rfl rfl trivial ?_)
        refine zv_iale (bX0_kindByEnds 1) rfl rfl (show vp_in (nI a + Int32.ofInt 1) 20 by rw [show nI a + Int32.ofInt 1 = nI (a + 1) from nI_1 a]; exact vp_in_nI (by omega) (by decide)) (show P 32 (nI a + Int32.ofInt 1).toNatClampNeg = P 32 (a + 1) by rw [show nI a + Int32.ofInt 1 = nI (a + 1) from nI_1 a, nI_clamp (by omega)]) ?_
        iterate 2 (refine zv_step (bX0_kindByEnds 1) rfl rfl trivial ?_)
        refine zv_ifb (fun h7 => ?_) (fun h7 => ?_)
        · iterate 1 (refine zv_step (bX0_kindByEnds 1) rfl rfl trivial ?_)
          exact zv_iret (bX0_kindByEnds 1) rfl (Or.inl rfl) (Nat.zero_le _) (Nat.zero_le _) ⟨rfl, _, rfl, Or.inl rfl⟩
        · iterate 2 (refine zv_step (bX0_kindByEnds 1) rfl rfl trivial ?_)
          exact zv_iret (bX0_kindByEnds 1) rfl (Or.inl rfl) (Nat.zero_le _) (Nat.zero_le _) ⟨rfl, _, rfl, Or.inr (Or.inr (Or.inr (Or.inr (Or.inr ⟨rfl, by omega⟩))))⟩
set_option maxHeartbeats 1000000 in
set_option maxRecDepth 20000 in
theorem hBareT (O : Nat → Int32) (P : Nat → Nat → Int32) (Y : Nat → Nat → Int64) (g : Nat → zC) {a b : Nat} (hab : a < b) (hb : b ≤ 20) (k x6 : Int32) (s : Int64) (hs : wyI Y → inB s (hsB (b - a))) {n0 : Nat} : zV (zMo 2 zX0_bareWays) false n0 0 0 88 [(6, .int x6), (4, .long s), (0, .ref 31), (1, .int (nI a)), (2, .int (nI b)), (3, .int k)] [] (wX O P Y g) (fun r w' => w' = wX O P Y g ∧ ∃ v : Int64, r = some (.long v) ∧ (wyI Y → inB v (hbB (b - a)))) := by
  iterate 3 (refine zv_step (bX0_bareWays 2) rfl rfl trivial ?_)
  refine zv_V2 (bX0_bareWays 2) rfl rfl rfl rfl rfl rfl rfl ⟨rfl, rfl, rfl⟩ ⟨by decide, by decide⟩ ⟨Nat.zero_le _, Nat.zero_le _⟩ (hKe O P Y g hab hb) ?_
  rintro _ _ ⟨rfl, k9, rfl, hk9⟩
  iterate 4 (refine zv_step (bX0_bareWays 2) rfl rfl trivial ?_)
  refine zv_ifb (fun h1 => ?_) (fun h1 => ?_)
  · iterate 1 (refine zv_step (bX0_bareWays 2) rfl rfl trivial ?_)
    exact zv_lret (bX0_bareWays 2) rfl rfl (Nat.zero_le _) (Nat.zero_le _) ⟨rfl, _, rfl, fun hw => hs_hb (hs hw)⟩
  · iterate 2 (refine zv_step (bX0_bareWays 2) rfl rfl trivial ?_)
    refine zv_S2 (bX0_bareWays 2) rfl rfl rfl rfl ⟨rfl, rfl, rfl⟩ ⟨by decide, by decide⟩ ⟨Nat.zero_le _, Nat.zero_le _⟩ (pHasBitW _ _ _) ?_
    rintro _ _ ⟨rfl, rfl⟩
    iterate 1 (refine zv_step (bX0_bareWays 2) rfl rfl trivial ?_)
    refine zv_ifb (fun h2 => ?_) (fun h2 => ?_)
    · iterate 3 (refine zv_step (bX0_bareWays 2) rfl rfl trivial ?_)
      refine zv_ifb (fun h3 => ?_) (fun h3 => ?_)
      · obtain ⟨f, t, ef, et, hf, hft, ht⟩ := keR_span hab hb hk9 h3
        iterate 5 (refine zv_step (bX0_bareWays 2) rfl rfl trivial ?_)
        refine zv_S2 (bX0_bareWays 2) rfl rfl rfl rfl ⟨rfl, rfl, rfl⟩ ⟨by decide, by decide⟩ ⟨Nat.zero_le _, Nat.zero_le _⟩ (hFrom _ _ _) ?_
        rintro _ _ ⟨rfl, rfl⟩
        refine zv_aald (bX0_bareWays 2) rfl (Or.inr rfl) rfl (show vp_in (pfW k9 (nI a)) 21 by rw [ef]; exact vp_in_nI (by omega) (by decide)) (show ([some 34, some 35, some 36, some 37, some 38, some 39, some 40, some 41, some 42, some 43, some 44, some 45, some 46, some 47, some 48, some 49, some 50, some 51, some 52, some 53, some 54] : List (Option Nat)).getD (pfW k9 (nI a)).toNatClampNeg none = some (34 + (f)) by rw [ef, nI_clamp (by omega)]; exact dLs (by omega)) ?_
        iterate 2 (refine zv_step (bX0_bareWays 2) rfl rfl trivial ?_)
        refine zv_S2 (bX0_bareWays 2) rfl rfl rfl rfl ⟨rfl, rfl, rfl⟩ ⟨by decide, by decide⟩ ⟨Nat.zero_le _, Nat.zero_le _⟩ (hTo _ _ _) ?_
        rintro _ _ ⟨rfl, rfl⟩
        refine zv_lald (bX0_bareWays 2) rfl (wY O P Y g (by omega)) (show vp_in (ptoW k9 (nI b)) 21 by rw [et]; exact vp_in_nI (by omega) (by decide)) ?_
        iterate 1 (refine zv_step (bX0_bareWays 2) rfl rfl trivial ?_)
        exact zv_lret (bX0_bareWays 2) rfl rfl (Nat.zero_le _) (Nat.zero_le _) ⟨rfl, _, rfl, fun hw => by show inB (s + Y (34 + f) (ptoW k9 (nI b)).toNatClampNeg) _; rw [et, nI_clamp (by omega)]; exact hs_w (by omega) (by omega) (e := t - f - 1) (by omega) (hs hw) (hw f t hft (by omega))⟩
      · iterate 4 (refine zv_step (bX0_bareWays 2) rfl rfl trivial ?_)
        exact zv_lret (bX0_bareWays 2) rfl rfl (Nat.zero_le _) (Nat.zero_le _) ⟨rfl, _, rfl, fun hw => hs_1 (by omega) (hs hw)⟩
    · iterate 1 (refine zv_step (bX0_bareWays 2) rfl rfl trivial ?_)
      exact zv_lret (bX0_bareWays 2) rfl rfl (Nat.zero_le _) (Nat.zero_le _) ⟨rfl, _, rfl, fun hw => hs_hb (hs hw)⟩
set_option maxHeartbeats 1000000 in
set_option maxRecDepth 20000 in
theorem hBareL (O : Nat → Int32) (P : Nat → Nat → Int32) (Y : Nat → Nat → Int64) (g : Nat → zC) {a b : Nat} (hab : a < b) (hb : b ≤ 20) (k : Int32) {n0 : Nat} : ∀ (c m : Nat), b - m ≤ c → a < m → m ≤ b → (m = a + 1 ∨ m ≤ b - 1) → ∀ {x6 : Int32} {s : Int64}, x6 = nI m → (wyI Y → inB s ((m - a - 1) * 8 ^ (b - a - 3))) → zV (zMo 2 zX0_bareWays) false n0 0 0 19 [(6, .int x6), (4, .long s), (0, .ref 31), (1, .int (nI a)), (2, .int (nI b)), (3, .int k)] [] (wX O P Y g) (fun r w' => w' = wX O P Y g ∧ ∃ v : Int64, r = some (.long v) ∧ (wyI Y → inB v (hbB (b - a)))) := by
  intro c
  induction c with
  | zero =>
    intro m hc hm hmb hme x6 s e6 hs
    subst e6
    iterate 5 (refine zv_step (bX0_bareWays 2) rfl rfl trivial ?_)
    refine zv_ift (show nI b - Int32.ofInt 1 ≤ nI m by rw [sub_1 (by omega)]; exact nI_le (by omega) (by omega)) ?_
    exact hBareT O P Y g hab hb k _ _ (fun hw => hs_exit hb hm hme (hs hw))
  | succ c ih =>
    intro m hc hm hmb hme x6 s e6 hs
    subst e6
    iterate 5 (refine zv_step (bX0_bareWays 2) rfl rfl trivial ?_)
    refine zv_ifb (fun hq => ?_) (fun hq => ?_)
    · exact hBareT O P Y g hab hb k _ _ (fun hw => hs_exit hb hm hme (hs hw))
    · have hq : ¬ (nI b - Int32.ofInt 1 ≤ nI m) := hq
      rw [sub_1 (by omega), nI_leI (by omega) (by omega)] at hq
      iterate 3 (refine zv_step (bX0_bareWays 2) rfl rfl trivial ?_)
      refine zv_iale (bX0_bareWays 2) rfl rfl (show vp_in (nI m) 20 by exact vp_in_nI (by omega) (by decide)) (show P 32 (nI m).toNatClampNeg = P 32 (m) by rw [nI_clamp (by omega)]) ?_
      iterate 4 (refine zv_step (bX0_bareWays 2) rfl rfl trivial ?_)
      refine zv_S1 (bX0_bareWays 2) rfl rfl rfl rfl ⟨rfl, rfl, rfl⟩ ⟨by decide, by decide⟩ ⟨Nat.zero_le _, Nat.zero_le _⟩ (hX1_isPair _ _) ?_
      rintro _ _ ⟨rfl, ⟨hp, rfl⟩ | ⟨hp, rfl⟩⟩
      · iterate 1 (refine zv_step (bX0_bareWays 2) rfl rfl trivial ?_)
        refine zv_iff (by decide) ?_
        iterate 2 (refine zv_step (bX0_bareWays 2) rfl rfl trivial ?_)
        refine zv_S2 (bX0_bareWays 2) rfl rfl rfl rfl ⟨rfl, rfl, rfl⟩ ⟨by decide, by decide⟩ ⟨Nat.zero_le _, Nat.zero_le _⟩ (pHasBitW _ _ _) ?_
        rintro _ _ ⟨rfl, rfl⟩
        iterate 1 (refine zv_step (bX0_bareWays 2) rfl rfl trivial ?_)
        refine zv_ifb (fun hz => ?_) (fun hz => ?_)
        · iterate 2 (refine zv_step (bX0_bareWays 2) rfl rfl trivial ?_)
          refine zv_locals (l := [(6, .int (nI m + Int32.ofInt 1)), (7, .int (P 32 m - c8 18)), (4, .long s), (0, .ref 31), (1, .int (nI a)), (2, .int (nI b)), (3, .int k)]) (l' := [(6, .int (nI m + Int32.ofInt 1)), (4, .long (s)), (0, .ref 31), (1, .int (nI a)), (2, .int (nI b)), (3, .int k)]) ?_ (ih (m + 1) (by omega) (by omega) (by omega) (Or.inr (by omega)) (nI_1 m) (fun hw => inB_le (hs hw) (Nat.mul_le_mul_right _ (by omega))))
          simp
        · iterate 4 (refine zv_step (bX0_bareWays 2) rfl rfl trivial ?_)
          refine zv_aald (bX0_bareWays 2) rfl (Or.inr rfl) rfl (show vp_in (nI a) 21 by exact vp_in_nI (by omega) (by decide)) (show ([some 34, some 35, some 36, some 37, some 38, some 39, some 40, some 41, some 42, some 43, some 44, some 45, some 46, some 47, some 48, some 49, some 50, some 51, some 52, some 53, some 54] : List (Option Nat)).getD (nI a).toNatClampNeg none = some (34 + (a)) by rw [nI_clamp (by omega)]; exact dLs (by omega)) ?_
          iterate 1 (refine zv_step (bX0_bareWays 2) rfl rfl trivial ?_)
          refine zv_lald (bX0_bareWays 2) rfl (wY O P Y g (by omega)) (show vp_in (nI m) 21 by exact vp_in_nI (by omega) (by decide)) ?_
          iterate 5 (refine zv_step (bX0_bareWays 2) rfl rfl trivial ?_)
          refine zv_aald (bX0_bareWays 2) rfl (Or.inr rfl) rfl (show vp_in (nI m + Int32.ofInt 1) 21 by rw [show nI m + Int32.ofInt 1 = nI (m + 1) from nI_1 m]; exact vp_in_nI (by omega) (by decide)) (show ([some 34, some 35, some 36, some 37, some 38, some 39, some 40, some 41, some 42, some 43, some 44, some 45, some 46, some 47, some 48, some 49, some 50, some 51, some 52, some 53, some 54] : List (Option Nat)).getD (nI m + Int32.ofInt 1).toNatClampNeg none = some (34 + (m + 1)) by rw [show nI m + Int32.ofInt 1 = nI (m + 1) from nI_1 m, nI_clamp (by omega)]; exact dLs (by omega)) ?_
          iterate 1 (refine zv_step (bX0_bareWays 2) rfl rfl trivial ?_)
          refine zv_lald (bX0_bareWays 2) rfl (wY O P Y g (by omega)) (show vp_in (nI b) 21 by exact vp_in_nI (by omega) (by decide)) ?_
          iterate 5 (refine zv_step (bX0_bareWays 2) rfl rfl trivial ?_)
          refine zv_locals (l := [(6, .int (nI m + Int32.ofInt 1)), (4, .long (s + Y (34 + a) (nI m).toNatClampNeg * Y (34 + (m + 1)) (nI b).toNatClampNeg)), (7, .int (P 32 m - c8 18)), (0, .ref 31), (1, .int (nI a)), (2, .int (nI b)), (3, .int k)]) (l' := [(6, .int (nI m + Int32.ofInt 1)), (4, .long (s + Y (34 + a) (nI m).toNatClampNeg * Y (34 + (m + 1)) (nI b).toNatClampNeg)), (0, .ref 31), (1, .int (nI a)), (2, .int (nI b)), (3, .int k)]) ?_ (ih (m + 1) (by omega) (by omega) (by omega) (Or.inr (by omega)) (nI_1 m) (fun hw => by rw [nI_clamp (by omega), nI_clamp (by omega)]; exact hs_step hb hm (by omega) (hs hw) (hw a m hm (by omega)) (hw (m + 1) b (by omega) hb)))
          simp
      · iterate 1 (refine zv_step (bX0_bareWays 2) rfl rfl trivial ?_)
        refine zv_ift (by decide) ?_
        iterate 2 (refine zv_step (bX0_bareWays 2) rfl rfl trivial ?_)
        refine zv_locals (l := [(6, .int (nI m + Int32.ofInt 1)), (7, .int (P 32 m - c8 18)), (4, .long s), (0, .ref 31), (1, .int (nI a)), (2, .int (nI b)), (3, .int k)]) (l' := [(6, .int (nI m + Int32.ofInt 1)), (4, .long (s)), (0, .ref 31), (1, .int (nI a)), (2, .int (nI b)), (3, .int k)]) ?_ (ih (m + 1) (by omega) (by omega) (by omega) (Or.inr (by omega)) (nI_1 m) (fun hw => inB_le (hs hw) (Nat.mul_le_mul_right _ (by omega))))
        simp
set_option maxHeartbeats 1000000 in
set_option maxRecDepth 20000 in
theorem hBare (O : Nat → Int32) (P : Nat → Nat → Int32) (Y : Nat → Nat → Int64) (g : Nat → zC) {a b : Nat} (hab : a < b) (hb : b ≤ 20) {x y : Int32} (ex : x = nI a) (ey : y = nI b) (k : Int32) : zK 2 zX0_bareWays [.ref 31, .int x, .int y, .int k] (wX O P Y g) (fun r w' => w' = wX O P Y g ∧ ∃ v : Int64, r = some (.long v) ∧ (wyI Y → inB v (hbB (b - a)))) := by
  subst ex ey
  refine zK_of qX0_bareWays (by decide +kernel) rfl ?_
  iterate 3 (refine zv_step (bX0_bareWays 2) rfl rfl trivial ?_)
  refine zv_iff (nI_ge (by omega) (by omega)) ?_
  iterate 2 (refine zv_step (bX0_bareWays 2) rfl rfl trivial ?_)
  refine zv_ifb (fun h1 => ?_) (fun h1 => ?_)
  · iterate 6 (refine zv_step (bX0_bareWays 2) rfl rfl trivial ?_)
    exact hBareL O P Y g hab hb k (b - (a + 1)) (a + 1) (by omega) (by omega) (by omega) (Or.inl rfl) (nI_1 a) (fun _ => inB_0 _)
  · iterate 1 (refine zv_step (bX0_bareWays 2) rfl rfl trivial ?_)
    exact zv_lret (bX0_bareWays 2) rfl rfl (Nat.zero_le _) (Nat.zero_le _) ⟨rfl, _, rfl, fun _ => inB_0 _⟩
set_option maxHeartbeats 1000000 in
set_option maxRecDepth 20000 in
theorem hWays (O : Nat → Int32) (P : Nat → Nat → Int32) (Y : Nat → Nat → Int64) (g : Nat → zC) {a b : Nat} (hab : a < b) (hb : b ≤ 20) {x y : Int32} (ex : x = nI a) (ey : y = nI b) (k : Int32) : zK 3 zX0_waysOf [.ref 31, .int x, .int y, .int k] (wX O P Y g) (fun r w' => w' = wX O P Y g ∧ ∃ v : Int64, r = some (.long v) ∧ (wyI Y → inB v (8 ^ (b - a - 1)))) := by
  subst ex ey
  refine zK_of qX0_waysOf (by decide +kernel) rfl ?_
  iterate 7 (refine zv_step (bX0_waysOf 3) rfl rfl trivial ?_)
  refine zv_V3 (bX0_waysOf 3) rfl rfl rfl rfl rfl rfl rfl ⟨rfl, rfl, rfl⟩ ⟨by decide, by decide⟩ ⟨Nat.zero_le _, Nat.zero_le _⟩ (hBare O P Y g hab hb rfl rfl _) ?_
  rintro _ _ ⟨rfl, v, rfl, hvb⟩
  iterate 4 (refine zv_step (bX0_waysOf 3) rfl rfl trivial ?_)
  refine zv_V2 (bX0_waysOf 3) rfl rfl rfl rfl rfl rfl rfl ⟨rfl, rfl, rfl⟩ ⟨by decide, by decide⟩ ⟨Nat.zero_le _, Nat.zero_le _⟩ (hBr O P Y g hab hb) ?_
  rintro _ _ ⟨rfl, ⟨hh, rfl⟩ | ⟨hh, rfl⟩⟩
  · iterate 1 (refine zv_step (bX0_waysOf 3) rfl rfl trivial ?_)
    refine zv_iff (by decide) ?_
    have h3 := hh.1
    iterate 12 (refine zv_step (bX0_waysOf 3) rfl rfl trivial ?_)
    refine zv_V3 (bX0_waysOf 3) rfl rfl rfl rfl rfl rfl rfl ⟨rfl, rfl, rfl⟩ ⟨by decide, by decide⟩ ⟨Nat.zero_le _, Nat.zero_le _⟩ (hBare O P Y g (a := a + 1) (b := b - 1) (by omega) (by omega) (nI_1 a) (sub_1 (by omega)) _) ?_
    rintro _ _ ⟨rfl, v2, rfl, hvc⟩
    iterate 2 (refine zv_step (bX0_waysOf 3) rfl rfl trivial ?_)
    exact zv_lret (bX0_waysOf 3) rfl rfl (Nat.zero_le _) (Nat.zero_le _) ⟨rfl, _, rfl, fun hw => hb_two (d := b - a) (by omega) (by omega) (hvb hw) (by have := hvc hw; rwa [show b - 1 - (a + 1) = b - a - 2 by omega] at this)⟩
  · iterate 1 (refine zv_step (bX0_waysOf 3) rfl rfl trivial ?_)
    refine zv_ift (by decide) ?_
    iterate 1 (refine zv_step (bX0_waysOf 3) rfl rfl trivial ?_)
    exact zv_lret (bX0_waysOf 3) rfl rfl (Nat.zero_le _) (Nat.zero_le _) ⟨rfl, _, rfl, fun hw => hb_one (by omega) (hvb hw)⟩
end
section
theorem wyI_set {Y : Nat → Nat → Int64} {i j : Nat} {v : Int64} (h : wyI Y) (hv : inB v (8 ^ (j - i - 1))) : wyI (updJ Y (34 + i) (vp_updL (Y (34 + i)) j v)) := by
  intro i' j' h1 h2
  unfold updJ
  by_cases e : i' = i
  · subst e
    rw [if_pos rfl]
    unfold vp_updL
    by_cases e2 : j' = j
    · subst e2
      rw [if_pos rfl]
      exact hv
    · rw [if_neg e2]
      exact h i' j' h1 h2
  · rw [if_neg (by omega)]
    exact h i' j' h1 h2
theorem nI_plus (a b : Nat) : nI a + nI b = nI (a + b) := by
  induction b with
  | zero => exact Int32.add_zero _
  | succ b ih =>
    rw [← nI_1 b, ← Int32.add_assoc, ih]
    exact nI_1 (a + b)
theorem pf_any {a b : Nat} (hb : 1 ≤ b) (k : Int32) : ∃ f t : Nat, pfW k (nI a) = nI f ∧ ptoW k (nI b) = nI t ∧ a < f ∧ f ≤ a + 2 ∧ t ≤ b := by
  have h2 : ∃ t : Nat, ptoW k (nI b) = nI t ∧ t ≤ b := by
    by_cases h : k = c8 8
    · exact ⟨b - 1, (if_pos h).trans (sub_1 hb), by omega⟩
    · exact ⟨b, if_neg h, Nat.le_refl _⟩
  obtain ⟨t, e2, ht⟩ := h2
  by_cases h : k = c8 9
  · exact ⟨a + 2, t, (if_pos h).trans (nI_2 a), e2, by omega, by omega, ht⟩
  · exact ⟨a + 1, t, (if_neg h).trans (nI_1 a), e2, by omega, by omega, ht⟩
set_option maxHeartbeats 1000000 in
set_option maxRecDepth 20000 in
theorem hAdd (O : Nat → Int32) (P : Nat → Nat → Int32) (Y : Nat → Nat → Int64) (g : Nat → zC) {n : Nat} (hn : n ≤ 20) (hO : O 9 = nI n) (x : Int32) : zK 0 zX0_add [.ref 31, .int x] (wX O P Y g) (fun r w' => r = none ∧ ((n < 20 ∧ w' = wX (upd O 9 (nI (n + 1))) (updA P 32 (upd (P 32) n x)) Y g) ∨ (¬ n < 20 ∧ w' = wX O P Y g))) := by
  refine zK_of qX0_add (by decide +kernel) rfl ?_
  iterate 4 (refine zv_step (bX0_add 0) rfl rfl trivial ?_)
  refine zv_ifb (fun hc => ?_) (fun hc => ?_)
  · have hc : c8 20 ≤ O 9 := hc
    rw [hO, show c8 20 = nI 20 from rfl, nI_leI (by decide) (by omega)] at hc
    exact zv_ret (bX0_add 0) rfl rfl (Nat.zero_le _) (Nat.zero_le _) ⟨rfl, Or.inr ⟨by omega, rfl⟩⟩
  · have hc : ¬ c8 20 ≤ O 9 := hc
    rw [hO, show c8 20 = nI 20 from rfl, nI_leI (by decide) (by omega)] at hc
    iterate 5 (refine zv_step (bX0_add 0) rfl rfl trivial ?_)
    refine zv_iast (bX0_add 0) rfl rfl (show vp_in (O 9) 20 by rw [hO]; exact vp_in_nI (by omega) (by decide)) ?_
    iterate 6 (refine zv_step (bX0_add 0) rfl rfl trivial ?_)
    exact zv_ret (bX0_add 0) rfl rfl (Nat.zero_le _) (Nat.zero_le _) ⟨rfl, Or.inl ⟨by omega, by show wX (upd O 9 (O 9 + Int32.ofInt 1)) (updA P 32 (upd (P 32) (O 9).toNatClampNeg x)) Y g = _; rw [hO, nI_clamp (by omega), show nI n + Int32.ofInt 1 = nI (n + 1) from nI_1 n]⟩⟩
set_option maxHeartbeats 1000000 in
set_option maxRecDepth 20000 in
theorem hTalI (O : Nat → Int32) (P : Nat → Nat → Int32) (g : Nat → zC) {n : Nat} (hn : n ≤ 20) (hO : O 9 = nI n) (u1 u2 u3 : Int32) {n0 m : Nat} {Q : Option Value → zW → Prop} (hm : 1 ≤ m) (hmn : m ≤ n) {Y0 : Nat → Nat → Int64} (kk : ∀ (Y' : Nat → Nat → Int64) (x5 : Int32), (wyI Y0 → wyI Y') → zV (zMo 4 zX0_tally) false n0 0 0 75 [(5, .int x5), (4, .int (nI m)), (0, .ref 31), (1, .int u1), (2, .int u2), (3, .int u3)] [] (wX O P Y' g) Q) : ∀ (c i : Nat) (Y : Nat → Nat → Int64), (wyI Y0 → wyI Y) → i + m + c = n + 1 → ∀ {x5 : Int32}, x5 = nI i → zV (zMo 4 zX0_tally) false n0 0 0 30 [(5, .int x5), (4, .int (nI m)), (0, .ref 31), (1, .int u1), (2, .int u2), (3, .int u3)] [] (wX O P Y g) Q := by
  intro c
  induction c with
  | zero =>
    intro i Y hY hc x5 e5
    subst e5
    iterate 6 (refine zv_step (bX0_tally 4) rfl rfl trivial ?_)
    refine zv_ift (show O 9 < nI i + nI m by rw [hO, nI_plus]; exact nI_lt (by omega) (by omega)) ?_
    exact kk Y _ hY
  | succ c ih =>
    intro i Y hY hc x5 e5
    subst e5
    iterate 6 (refine zv_step (bX0_tally 4) rfl rfl trivial ?_)
    refine zv_iff (show ¬ O 9 < nI i + nI m by rw [hO, nI_plus]; exact nI_nlt (by omega) (by omega)) ?_
    iterate 3 (refine zv_step (bX0_tally 4) rfl rfl trivial ?_)
    refine zv_aald (bX0_tally 4) rfl (Or.inr rfl) rfl (show vp_in (nI i) 21 by exact vp_in_nI (by omega) (by decide)) (show ([some 34, some 35, some 36, some 37, some 38, some 39, some 40, some 41, some 42, some 43, some 44, some 45, some 46, some 47, some 48, some 49, some 50, some 51, some 52, some 53, some 54] : List (Option Nat)).getD (nI i).toNatClampNeg none = some (34 + (i)) by rw [nI_clamp (by omega)]; exact dLs (by omega)) ?_
    iterate 9 (refine zv_step (bX0_tally 4) rfl rfl trivial ?_)
    refine zv_V3 (bX0_tally 4) rfl rfl rfl rfl rfl rfl rfl ⟨rfl, rfl, rfl⟩ ⟨by decide, by decide⟩ ⟨Nat.zero_le _, Nat.zero_le _⟩ (hWays O P Y g (a := i) (b := i + m) (by omega) (by omega) rfl (nI_plus i m) _) ?_
    rintro _ _ ⟨rfl, v, rfl, hvb⟩
    refine zv_last (bX0_tally 4) rfl (wY O P Y g (by omega)) (show vp_in (nI i + nI m) 21 by rw [nI_plus]; exact vp_in_nI (by omega) (by decide)) ?_
    rw [wYset O P Y g _ (by omega)]
    iterate 2 (refine zv_step (bX0_tally 4) rfl rfl trivial ?_)
    exact ih (i + 1) _ (fun h => by rw [show (nI i + nI m).toNatClampNeg = i + m by rw [nI_plus, nI_clamp (by omega)]]; exact wyI_set (hY h) (by have := hvb (hY h); exact this)) (by omega) (nI_1 i)
set_option maxHeartbeats 1000000 in
set_option maxRecDepth 20000 in
theorem hTalO (O : Nat → Int32) (P : Nat → Nat → Int32) (g : Nat → zC) {n : Nat} (hn : n ≤ 20) (hO : O 9 = nI n) (u1 u2 u3 : Int32) {n0 : Nat} {Y0 : Nat → Nat → Int64} : ∀ (c m : Nat) (Y : Nat → Nat → Int64), (wyI Y0 → wyI Y) → m + c = n + 1 → 1 ≤ m → ∀ {x4 : Int32}, x4 = nI m → zV (zMo 4 zX0_tally) false n0 0 0 18 [(4, .int x4), (0, .ref 31), (1, .int u1), (2, .int u2), (3, .int u3)] [] (wX O P Y g) (fun r w' => ∃ (Y' : Nat → Nat → Int64) (v : Int64), r = some (.long v) ∧ w' = wX O P Y' g ∧ (wyI Y0 → wyI Y')) := by
  intro c
  induction c with
  | zero =>
    intro m Y hY hc hm x4 e4
    subst e4
    iterate 4 (refine zv_step (bX0_tally 4) rfl rfl trivial ?_)
    refine zv_ift (show O 9 < nI m by rw [hO]; exact nI_lt (by omega) (by omega)) ?_
    iterate 3 (refine zv_step (bX0_tally 4) rfl rfl trivial ?_)
    refine zv_ifb (fun h0 => ?_) (fun h0 => ?_)
    · iterate 3 (refine zv_step (bX0_tally 4) rfl rfl trivial ?_)
      refine zv_aald (bX0_tally 4) rfl (Or.inr rfl) rfl (show vp_in (Int32.ofInt 0) 21 by rw [show Int32.ofInt 0 = nI 0 from rfl]; exact vp_in_nI (by omega) (by decide)) (show ([some 34, some 35, some 36, some 37, some 38, some 39, some 40, some 41, some 42, some 43, some 44, some 45, some 46, some 47, some 48, some 49, some 50, some 51, some 52, some 53, some 54] : List (Option Nat)).getD (Int32.ofInt 0).toNatClampNeg none = some (34 + (0)) by rw [show Int32.ofInt 0 = nI 0 from rfl, nI_clamp (by omega)]; exact dLs (by omega)) ?_
      iterate 2 (refine zv_step (bX0_tally 4) rfl rfl trivial ?_)
      refine zv_lald (bX0_tally 4) rfl (wY O P Y g (by omega)) (show vp_in (O 9) 21 by rw [hO]; exact vp_in_nI (by omega) (by decide)) ?_
      exact zv_lret (bX0_tally 4) rfl rfl (Nat.zero_le _) (Nat.zero_le _) ⟨_, _, rfl, rfl, hY⟩
    · iterate 2 (refine zv_step (bX0_tally 4) rfl rfl trivial ?_)
      exact zv_lret (bX0_tally 4) rfl rfl (Nat.zero_le _) (Nat.zero_le _) ⟨_, _, rfl, rfl, hY⟩
  | succ c ih =>
    intro m Y hY hc hm x4 e4
    subst e4
    iterate 4 (refine zv_step (bX0_tally 4) rfl rfl trivial ?_)
    refine zv_iff (show ¬ O 9 < nI m by rw [hO]; exact nI_nlt (by omega) (by omega)) ?_
    iterate 2 (refine zv_step (bX0_tally 4) rfl rfl trivial ?_)
    refine hTalI O P g hn hO u1 u2 u3 hm (by omega) (fun Y' x5 hY2 => ?_) (n + 1 - m) 0 Y hY (by omega) rfl
    iterate 2 (refine zv_step (bX0_tally 4) rfl rfl trivial ?_)
    refine zv_locals (l := [(4, .int (nI m + Int32.ofInt 1)), (5, .int x5), (0, .ref 31), (1, .int u1), (2, .int u2), (3, .int u3)]) (l' := [(4, .int (nI m + Int32.ofInt 1)), (0, .ref 31), (1, .int u1), (2, .int u2), (3, .int u3)]) ?_ (ih (m + 1) Y' hY2 (by omega) (by omega) (nI_1 m))
    simp
set_option maxHeartbeats 1000000 in
set_option maxRecDepth 20000 in
theorem hTally (O : Nat → Int32) (P : Nat → Nat → Int32) (Y : Nat → Nat → Int64) (g : Nat → zC) {n : Nat} (hn : n ≤ 20) (hO : O 9 = nI n) (u1 u2 u3 : Int32) : zK 4 zX0_tally [.ref 31, .int u1, .int u2, .int u3] (wX O P Y g) (fun r w' => ∃ (Y' : Nat → Nat → Int64) (v : Int64), r = some (.long v) ∧ w' = wX (upd (upd (upd O 10 u1) 11 u2) 12 u3) P Y' g ∧ (wyI Y → wyI Y')) := by
  refine zK_of qX0_tally (by decide +kernel) rfl ?_
  iterate 11 (refine zv_step (bX0_tally 4) rfl rfl trivial ?_)
  exact hTalO (upd (upd (upd O 10 u1) 11 u2) 12 u3) P g hn hO u1 u2 u3 n 1 Y id (by omega) (Nat.le_refl _) rfl
end
section
set_option maxHeartbeats 1000000 in
set_option maxRecDepth 20000 in
theorem hPP192 (O : Nat → Int32) (P : Nat → Nat → Int32) (Y : Nat → Nat → Int64) (g : Nat → zC) {a b : Nat} (hab : a < b) (hb : b ≤ 20) (n xx wd : Int32) {f n0 m : Nat} {Q : Option Value → zW → Prop} (hm : a ≤ m) (hmb : m < b) {s : Int64} {p : Int32} (kk : ∀ p', zV (zMo (3 * f + 5) zX0_placePair) false n0 0 0 41 [(10, .int (nI m + Int32.ofInt 1)), (9, .int (p')), (7, .long (s)), (6, .int xx), (5, .int wd), (0, .ref 31), (1, .ref 1), (2, .int n), (3, .int (nI a)), (4, .int (nI b))] [] (wX O P Y g) Q) : zV (zMo (3 * f + 5) zX0_placePair) false n0 0 0 192 [(10, .int (nI m)), (9, .int (p)), (7, .long (s)), (6, .int xx), (5, .int wd), (0, .ref 31), (1, .ref 1), (2, .int n), (3, .int (nI a)), (4, .int (nI b))] [] (wX O P Y g) Q := by
  iterate 4 (refine zv_step (bX0_placePair (3 * f + 5)) rfl rfl trivial ?_)
  refine zv_iale (bX0_placePair (3 * f + 5)) rfl rfl (show vp_in (nI m) 20 by exact vp_in_nI (by omega) (by decide)) (show P 32 (nI m).toNatClampNeg = P 32 (m) by rw [nI_clamp (by omega)]) ?_
  iterate 2 (refine zv_step (bX0_placePair (3 * f + 5)) rfl rfl trivial ?_)
  refine zv_ifb (fun h1 => ?_) (fun h1 => ?_)
  · iterate 6 (refine zv_step (bX0_placePair (3 * f + 5)) rfl rfl trivial ?_)
    exact kk _
  · iterate 3 (refine zv_step (bX0_placePair (3 * f + 5)) rfl rfl trivial ?_)
    refine zv_iale (bX0_placePair (3 * f + 5)) rfl rfl (show vp_in (nI m) 20 by exact vp_in_nI (by omega) (by decide)) (show P 32 (nI m).toNatClampNeg = P 32 (m) by rw [nI_clamp (by omega)]) ?_
    iterate 2 (refine zv_step (bX0_placePair (3 * f + 5)) rfl rfl trivial ?_)
    refine zv_ifb (fun h2 => ?_) (fun h2 => ?_)
    · iterate 5 (refine zv_step (bX0_placePair (3 * f + 5)) rfl rfl trivial ?_)
      exact kk _
    · iterate 6 (refine zv_step (bX0_placePair (3 * f + 5)) rfl rfl trivial ?_)
      exact kk _
set_option maxHeartbeats 1000000 in
set_option maxRecDepth 20000 in
theorem hPP153 (O : Nat → Int32) (P : Nat → Nat → Int32) (Y : Nat → Nat → Int64) (g : Nat → zC) {a b : Nat} (hab : a < b) (hb : b ≤ 20) (n xx wd : Int32) {f n0 m : Nat} {Q : Option Value → zW → Prop} (hm : a ≤ m) (hmb : m < b) {s : Int64} {p : Int32} (kk : ∀ p' s', zV (zMo (3 * f + 5) zX0_placePair) false n0 0 0 41 [(10, .int (nI m + Int32.ofInt 1)), (9, .int (p')), (7, .long (s')), (6, .int xx), (5, .int wd), (0, .ref 31), (1, .ref 1), (2, .int n), (3, .int (nI a)), (4, .int (nI b))] [] (wX O P Y g) Q) : zV (zMo (3 * f + 5) zX0_placePair) false n0 0 0 153 [(10, .int (nI m)), (9, .int (p)), (7, .long (s)), (6, .int xx), (5, .int wd), (0, .ref 31), (1, .ref 1), (2, .int n), (3, .int (nI a)), (4, .int (nI b))] [] (wX O P Y g) Q := by
  iterate 3 (refine zv_step (bX0_placePair (3 * f + 5)) rfl rfl trivial ?_)
  refine zv_iale (bX0_placePair (3 * f + 5)) rfl rfl (show vp_in (nI m) 20 by exact vp_in_nI (by omega) (by decide)) (show P 32 (nI m).toNatClampNeg = P 32 (m) by rw [nI_clamp (by omega)]) ?_
  iterate 2 (refine zv_step (bX0_placePair (3 * f + 5)) rfl rfl trivial ?_)
  refine zv_ifb (fun h1 => ?_) (fun h1 => ?_)
  · exact hPP192 O P Y g hab hb n xx wd hm hmb (fun p' => kk p' _)
  · iterate 4 (refine zv_step (bX0_placePair (3 * f + 5)) rfl rfl trivial ?_)
    refine zv_aald (bX0_placePair (3 * f + 5)) rfl (Or.inr rfl) rfl (show vp_in (nI a) 21 by exact vp_in_nI (by omega) (by decide)) (show ([some 34, some 35, some 36, some 37, some 38, some 39, some 40, some 41, some 42, some 43, some 44, some 45, some 46, some 47, some 48, some 49, some 50, some 51, some 52, some 53, some 54] : List (Option Nat)).getD (nI a).toNatClampNeg none = some (34 + (a)) by rw [nI_clamp (by omega)]; exact dLs (by omega)) ?_
    iterate 1 (refine zv_step (bX0_placePair (3 * f + 5)) rfl rfl trivial ?_)
    refine zv_lald (bX0_placePair (3 * f + 5)) rfl (wY O P Y g (by omega)) (show vp_in (nI m) 21 by exact vp_in_nI (by omega) (by decide)) ?_
    iterate 5 (refine zv_step (bX0_placePair (3 * f + 5)) rfl rfl trivial ?_)
    refine zv_aald (bX0_placePair (3 * f + 5)) rfl (Or.inr rfl) rfl (show vp_in (nI m + Int32.ofInt 1) 21 by rw [show nI m + Int32.ofInt 1 = nI (m + 1) from nI_1 m]; exact vp_in_nI (by omega) (by decide)) (show ([some 34, some 35, some 36, some 37, some 38, some 39, some 40, some 41, some 42, some 43, some 44, some 45, some 46, some 47, some 48, some 49, some 50, some 51, some 52, some 53, some 54] : List (Option Nat)).getD (nI m + Int32.ofInt 1).toNatClampNeg none = some (34 + (m + 1)) by rw [show nI m + Int32.ofInt 1 = nI (m + 1) from nI_1 m, nI_clamp (by omega)]; exact dLs (by omega)) ?_
    iterate 1 (refine zv_step (bX0_placePair (3 * f + 5)) rfl rfl trivial ?_)
    refine zv_lald (bX0_placePair (3 * f + 5)) rfl (wY O P Y g (by omega)) (show vp_in (nI b) 21 by exact vp_in_nI (by omega) (by decide)) ?_
    iterate 3 (refine zv_step (bX0_placePair (3 * f + 5)) rfl rfl trivial ?_)
    refine zv_locals (l := [(7, .long (s + Y (34 + a) (nI m).toNatClampNeg * Y (34 + (m + 1)) (nI b).toNatClampNeg)), (10, .int (nI m)), (9, .int p), (6, .int xx), (5, .int wd), (0, .ref 31), (1, .ref 1), (2, .int n), (3, .int (nI a)), (4, .int (nI b))]) (l' := [(10, .int (nI m)), (9, .int (p)), (7, .long (s + Y (34 + a) (nI m).toNatClampNeg * Y (34 + (m + 1)) (nI b).toNatClampNeg)), (6, .int xx), (5, .int wd), (0, .ref 31), (1, .ref 1), (2, .int n), (3, .int (nI a)), (4, .int (nI b))]) ?_ (hPP192 O P Y g hab hb n xx wd hm hmb (fun p' => kk p' _))
    simp
set_option maxHeartbeats 1000000 in
set_option maxRecDepth 20000 in
theorem hPPL (O : Nat → Int32) (P : Nat → Nat → Int32) (Y : Nat → Nat → Int64) (g : Nat → zC) {a b : Nat} (hab : a < b) (hb : b ≤ 20) {f : Nat} (ih : ∀ (a b : Nat) (n x y : Int32), x = nI a → y = nI b → a ≤ 30 → b ≤ 20 → b - a ≤ f → zK (3 * f + 4) zX0_placeIn [.ref 31, .ref 1, .int n, .int x, .int y] (wX O P Y g) (fun r w' => w' = wX O P Y g ∧ ∃ v : Int64, r = some (.long v))) (hf : b - a ≤ f + 1) {n xx : Int32} (hv : vp_in n 120) (hx : vp_in xx 120) (wd : Int32) {n0 : Nat} : ∀ (c m : Nat), b - m ≤ c → a ≤ m → m ≤ b → ∀ {x10 p : Int32} {s : Int64}, x10 = nI m → zV (zMo (3 * f + 5) zX0_placePair) false n0 0 0 41 [(10, .int (x10)), (9, .int (p)), (7, .long (s)), (6, .int xx), (5, .int wd), (0, .ref 31), (1, .ref 1), (2, .int n), (3, .int (nI a)), (4, .int (nI b))] [] (wX O P Y g) (fun r w' => w' = wX O P Y g ∧ ∃ v : Int64, r = some (.long v)) := by
  intro c
  induction c with
  | zero =>
    intro m hc hm hmb x10 p s e6
    subst e6
    iterate 5 (refine zv_step (bX0_placePair (3 * f + 5)) rfl rfl trivial ?_)
    refine zv_ift (show nI b - Int32.ofInt 1 ≤ nI m by rw [sub_1 (by omega)]; exact nI_le (by omega) (by omega)) ?_
    iterate 1 (refine zv_step (bX0_placePair (3 * f + 5)) rfl rfl trivial ?_)
    exact zv_lret (bX0_placePair (3 * f + 5)) rfl rfl (Nat.zero_le _) (Nat.zero_le _) ⟨rfl, _, rfl⟩
  | succ c ih2 =>
    intro m hc hm hmb x10 p s e6
    subst e6
    iterate 5 (refine zv_step (bX0_placePair (3 * f + 5)) rfl rfl trivial ?_)
    refine zv_ifb (fun hq => ?_) (fun hq => ?_)
    · iterate 1 (refine zv_step (bX0_placePair (3 * f + 5)) rfl rfl trivial ?_)
      exact zv_lret (bX0_placePair (3 * f + 5)) rfl rfl (Nat.zero_le _) (Nat.zero_le _) ⟨rfl, _, rfl⟩
    · have hq : ¬ (nI b - Int32.ofInt 1 ≤ nI m) := hq
      rw [sub_1 (by omega), nI_leI (by omega) (by omega)] at hq
      iterate 3 (refine zv_step (bX0_placePair (3 * f + 5)) rfl rfl trivial ?_)
      refine zv_iale (bX0_placePair (3 * f + 5)) rfl rfl (show vp_in (nI m) 20 by exact vp_in_nI (by omega) (by decide)) (show P 32 (nI m).toNatClampNeg = P 32 (m) by rw [nI_clamp (by omega)]) ?_
      iterate 2 (refine zv_step (bX0_placePair (3 * f + 5)) rfl rfl trivial ?_)
      refine zv_ifb (fun h3 => ?_) (fun h3 => ?_)
      · exact hPP153 O P Y g hab hb n xx wd hm (by omega) (fun p' s' => ih2 (m + 1) (by omega) (by omega) (by omega) (nI_1 m))
      · iterate 4 (refine zv_step (bX0_placePair (3 * f + 5)) rfl rfl trivial ?_)
        refine zv_step (bX0_placePair (3 * f + 5)) rfl rfl (hx) ?_
        iterate 1 (refine zv_step (bX0_placePair (3 * f + 5)) rfl rfl trivial ?_)
        refine zv_ifb (fun h4 => ?_) (fun h4 => ?_)
        · exact hPP153 O P Y g hab hb n xx wd hm (by omega) (fun p' s' => ih2 (m + 1) (by omega) (by omega) (by omega) (nI_1 m))
        · iterate 5 (refine zv_step (bX0_placePair (3 * f + 5)) rfl rfl trivial ?_)
          refine zv_V4 (bX0_placePair (3 * f + 5)) rfl rfl rfl rfl rfl rfl rfl ⟨rfl, rfl, rfl⟩ ⟨by show 3 * f + 4 + 1 ≤ 3 * f + 5; omega, by show 8 + (10 + 11) + 64 * (3 * f + 4) ≤ 64 * (3 * f + 5); omega⟩ ⟨Nat.zero_le _, Nat.zero_le _⟩ (ih (a) (m) _ _ _ rfl rfl (by omega) (by omega) (by omega)) ?_
          rintro _ _ ⟨rfl, v1, rfl⟩
          iterate 5 (refine zv_step (bX0_placePair (3 * f + 5)) rfl rfl trivial ?_)
          refine zv_ifb (fun h5 => ?_) (fun h5 => ?_)
          · iterate 5 (refine zv_step (bX0_placePair (3 * f + 5)) rfl rfl trivial ?_)
            refine zv_step (bX0_placePair (3 * f + 5)) rfl rfl (hv) ?_
            iterate 4 (refine zv_step (bX0_placePair (3 * f + 5)) rfl rfl trivial ?_)
            refine zv_V4 (bX0_placePair (3 * f + 5)) rfl rfl rfl rfl rfl rfl rfl ⟨rfl, rfl, rfl⟩ ⟨by show 3 * f + 4 + 1 ≤ 3 * f + 5; omega, by show 8 + (10 + 11) + 64 * (3 * f + 4) ≤ 64 * (3 * f + 5); omega⟩ ⟨Nat.zero_le _, Nat.zero_le _⟩ (ih (m + 1) (b) _ _ _ (nI_1 m) rfl (by omega) (by omega) (by omega)) ?_
            rintro _ _ ⟨rfl, v2, rfl⟩
            iterate 5 (refine zv_step (bX0_placePair (3 * f + 5)) rfl rfl trivial ?_)
            refine zv_ifb (fun h6 => ?_) (fun h6 => ?_)
            · iterate 7 (refine zv_step (bX0_placePair (3 * f + 5)) rfl rfl trivial ?_)
              refine zv_aald (bX0_placePair (3 * f + 5)) rfl (Or.inr rfl) rfl (show vp_in (nI m + Int32.ofInt 1) 21 by rw [show nI m + Int32.ofInt 1 = nI (m + 1) from nI_1 m]; exact vp_in_nI (by omega) (by decide)) (show ([some 34, some 35, some 36, some 37, some 38, some 39, some 40, some 41, some 42, some 43, some 44, some 45, some 46, some 47, some 48, some 49, some 50, some 51, some 52, some 53, some 54] : List (Option Nat)).getD (nI m + Int32.ofInt 1).toNatClampNeg none = some (34 + (m + 1)) by rw [show nI m + Int32.ofInt 1 = nI (m + 1) from nI_1 m, nI_clamp (by omega)]; exact dLs (by omega)) ?_
              iterate 1 (refine zv_step (bX0_placePair (3 * f + 5)) rfl rfl trivial ?_)
              refine zv_lald (bX0_placePair (3 * f + 5)) rfl (wY O P Y g (by omega)) (show vp_in (nI b) 21 by exact vp_in_nI (by omega) (by decide)) ?_
              iterate 4 (refine zv_step (bX0_placePair (3 * f + 5)) rfl rfl trivial ?_)
              exact zv_lret (bX0_placePair (3 * f + 5)) rfl rfl (Nat.zero_le _) (Nat.zero_le _) ⟨rfl, _, rfl⟩
            · iterate 2 (refine zv_step (bX0_placePair (3 * f + 5)) rfl rfl trivial ?_)
              exact zv_lret (bX0_placePair (3 * f + 5)) rfl rfl (Nat.zero_le _) (Nat.zero_le _) ⟨rfl, _, rfl⟩
          · iterate 7 (refine zv_step (bX0_placePair (3 * f + 5)) rfl rfl trivial ?_)
            refine zv_ifb (fun h6 => ?_) (fun h6 => ?_)
            · iterate 7 (refine zv_step (bX0_placePair (3 * f + 5)) rfl rfl trivial ?_)
              refine zv_aald (bX0_placePair (3 * f + 5)) rfl (Or.inr rfl) rfl (show vp_in (nI m + Int32.ofInt 1) 21 by rw [show nI m + Int32.ofInt 1 = nI (m + 1) from nI_1 m]; exact vp_in_nI (by omega) (by decide)) (show ([some 34, some 35, some 36, some 37, some 38, some 39, some 40, some 41, some 42, some 43, some 44, some 45, some 46, some 47, some 48, some 49, some 50, some 51, some 52, some 53, some 54] : List (Option Nat)).getD (nI m + Int32.ofInt 1).toNatClampNeg none = some (34 + (m + 1)) by rw [show nI m + Int32.ofInt 1 = nI (m + 1) from nI_1 m, nI_clamp (by omega)]; exact dLs (by omega)) ?_
              iterate 1 (refine zv_step (bX0_placePair (3 * f + 5)) rfl rfl trivial ?_)
              refine zv_lald (bX0_placePair (3 * f + 5)) rfl (wY O P Y g (by omega)) (show vp_in (nI b) 21 by exact vp_in_nI (by omega) (by decide)) ?_
              iterate 4 (refine zv_step (bX0_placePair (3 * f + 5)) rfl rfl trivial ?_)
              exact zv_lret (bX0_placePair (3 * f + 5)) rfl rfl (Nat.zero_le _) (Nat.zero_le _) ⟨rfl, _, rfl⟩
            · iterate 2 (refine zv_step (bX0_placePair (3 * f + 5)) rfl rfl trivial ?_)
              exact zv_lret (bX0_placePair (3 * f + 5)) rfl rfl (Nat.zero_le _) (Nat.zero_le _) ⟨rfl, _, rfl⟩
set_option maxHeartbeats 1000000 in
set_option maxRecDepth 20000 in
theorem hPP (O : Nat → Int32) (P : Nat → Nat → Int32) (Y : Nat → Nat → Int64) (g : Nat → zC) (hu : (O 1).toInt ≤ 120) {a b : Nat} (hab : a < b) (hb : b ≤ 20) {f : Nat} (ih : ∀ (a b : Nat) (n x y : Int32), x = nI a → y = nI b → a ≤ 30 → b ≤ 20 → b - a ≤ f → zK (3 * f + 4) zX0_placeIn [.ref 31, .ref 1, .int n, .int x, .int y] (wX O P Y g) (fun r w' => w' = wX O P Y g ∧ ∃ v : Int64, r = some (.long v))) (hf : b - a ≤ f + 1) {n : Int32} (hv : vp_in n 120) : zK (3 * f + 5) zX0_placePair [.ref 31, .ref 1, .int n, .int (nI a), .int (nI b)] (wX O P Y g) (fun r w' => w' = wX O P Y g ∧ ∃ v : Int64, r = some (.long v)) := by
  refine zK_of qX0_placePair (by decide +kernel) rfl ?_
  iterate 4 (refine zv_step (bX0_placePair (3 * f + 5)) rfl rfl trivial ?_)
  refine zv_step (bX0_placePair (3 * f + 5)) rfl rfl (hv) ?_
  iterate 5 (refine zv_step (bX0_placePair (3 * f + 5)) rfl rfl trivial ?_)
  refine zv_step (bX0_placePair (3 * f + 5)) rfl rfl (hv) ?_
  iterate 3 (refine zv_step (bX0_placePair (3 * f + 5)) rfl rfl trivial ?_)
  refine zv_V1 (bX0_placePair (3 * f + 5)) rfl rfl rfl rfl rfl rfl rfl ⟨rfl, rfl, rfl⟩ ⟨by show 0 + 1 ≤ 3 * f + 5; omega, by show 8 + (2 + 11) + 64 * (0) ≤ 64 * (3 * f + 5); omega⟩ ⟨Nat.zero_le _, Nat.zero_le _⟩ (pHas1 O P Y g _) ?_
  rintro _ _ ⟨rfl, ⟨hh, rfl⟩ | ⟨hh, rfl⟩⟩
  · iterate 1 (refine zv_step (bX0_placePair (3 * f + 5)) rfl rfl trivial ?_)
    refine zv_ift (by decide) ?_
    iterate 6 (refine zv_step (bX0_placePair (3 * f + 5)) rfl rfl trivial ?_)
    exact hPPL O P Y g hab hb ih hf hv (vp_in_iff.mpr ⟨hh.1, Int.lt_of_lt_of_le hh.2 hu⟩) _ (b - a) a (by omega) (by omega) (by omega) rfl
  · iterate 1 (refine zv_step (bX0_placePair (3 * f + 5)) rfl rfl trivial ?_)
    refine zv_iff (by decide) ?_
    iterate 1 (refine zv_step (bX0_placePair (3 * f + 5)) rfl rfl trivial ?_)
    exact zv_lret (bX0_placePair (3 * f + 5)) rfl rfl (Nat.zero_le _) (Nat.zero_le _) ⟨rfl, _, rfl⟩
set_option maxHeartbeats 1000000 in
set_option maxRecDepth 20000 in
theorem hPB (O : Nat → Int32) (P : Nat → Nat → Int32) (Y : Nat → Nat → Int64) (g : Nat → zC) (hu : (O 1).toInt ≤ 120) {a b : Nat} (hab : a < b) (hb : b ≤ 20) {f : Nat} (ih : ∀ (a b : Nat) (n x y : Int32), x = nI a → y = nI b → a ≤ 30 → b ≤ 20 → b - a ≤ f → zK (3 * f + 4) zX0_placeIn [.ref 31, .ref 1, .int n, .int x, .int y] (wX O P Y g) (fun r w' => w' = wX O P Y g ∧ ∃ v : Int64, r = some (.long v))) (hf : b - a ≤ f + 1) {n : Int32} (hv : vp_in n 120) {x y : Int32} (ex : x = nI a) (ey : y = nI b) : zK (3 * f + 6) zX0_placeBare [.ref 31, .ref 1, .int n, .int x, .int y] (wX O P Y g) (fun r w' => w' = wX O P Y g ∧ ∃ v : Int64, r = some (.long v)) := by
  subst ex ey
  refine zK_of qX0_placeBare (by decide +kernel) rfl ?_
  iterate 3 (refine zv_step (bX0_placeBare (3 * f + 6)) rfl rfl trivial ?_)
  refine zv_step (bX0_placeBare (3 * f + 6)) rfl rfl (hv) ?_
  iterate 2 (refine zv_step (bX0_placeBare (3 * f + 6)) rfl rfl trivial ?_)
  refine zv_S1 (bX0_placeBare (3 * f + 6)) rfl rfl rfl rfl ⟨rfl, rfl, rfl⟩ ⟨by show 0 + 1 ≤ 3 * f + 6; omega, by show 8 + (1 + 11) + 64 * (0) ≤ 64 * (3 * f + 6); omega⟩ ⟨Nat.zero_le _, Nat.zero_le _⟩ (hX1_isPair _ _) ?_
  rintro _ _ ⟨rfl, ⟨hp, rfl⟩ | ⟨hp, rfl⟩⟩
  · iterate 1 (refine zv_step (bX0_placeBare (3 * f + 6)) rfl rfl trivial ?_)
    refine zv_iff (by decide) ?_
    iterate 5 (refine zv_step (bX0_placeBare (3 * f + 6)) rfl rfl trivial ?_)
    refine zv_V4 (bX0_placeBare (3 * f + 6)) rfl rfl rfl rfl rfl rfl rfl ⟨rfl, rfl, rfl⟩ ⟨by show 3 * f + 5 + 1 ≤ 3 * f + 6; omega, by show 8 + (15 + 11) + 64 * (3 * f + 5) ≤ 64 * (3 * f + 6); omega⟩ ⟨Nat.zero_le _, Nat.zero_le _⟩ (hPP O P Y g hu hab hb ih hf hv) ?_
    rintro _ _ ⟨rfl, v, rfl⟩
    exact zv_lret (bX0_placeBare (3 * f + 6)) rfl rfl (Nat.zero_le _) (Nat.zero_le _) ⟨rfl, _, rfl⟩
  · iterate 1 (refine zv_step (bX0_placeBare (3 * f + 6)) rfl rfl trivial ?_)
    refine zv_ift (by decide) ?_
    iterate 3 (refine zv_step (bX0_placeBare (3 * f + 6)) rfl rfl trivial ?_)
    refine zv_V2 (bX0_placeBare (3 * f + 6)) rfl rfl rfl rfl rfl rfl rfl ⟨rfl, rfl, rfl⟩ ⟨by show 1 + 1 ≤ 3 * f + 6; omega, by show 8 + (5 + 11) + 64 * (1) ≤ 64 * (3 * f + 6); omega⟩ ⟨Nat.zero_le _, Nat.zero_le _⟩ (hKe O P Y g hab hb) ?_
    rintro _ _ ⟨rfl, k9, rfl, hk9⟩
    iterate 2 (refine zv_step (bX0_placeBare (3 * f + 6)) rfl rfl trivial ?_)
    refine zv_ifb (fun h1 => ?_) (fun h1 => ?_)
    · iterate 3 (refine zv_step (bX0_placeBare (3 * f + 6)) rfl rfl trivial ?_)
      refine zv_ifb (fun h2 => ?_) (fun h2 => ?_)
      · iterate 2 (refine zv_step (bX0_placeBare (3 * f + 6)) rfl rfl trivial ?_)
        refine zv_ifb (fun h3 => ?_) (fun h3 => ?_)
        · iterate 3 (refine zv_step (bX0_placeBare (3 * f + 6)) rfl rfl trivial ?_)
          refine zv_iale (bX0_placeBare (3 * f + 6)) rfl rfl (show vp_in (nI a) 20 by exact vp_in_nI (by omega) (by decide)) (show P 32 (nI a).toNatClampNeg = P 32 (a) by rw [nI_clamp (by omega)]) ?_
          iterate 3 (refine zv_step (bX0_placeBare (3 * f + 6)) rfl rfl trivial ?_)
          refine zv_step (bX0_placeBare (3 * f + 6)) rfl rfl (hv) ?_
          iterate 1 (refine zv_step (bX0_placeBare (3 * f + 6)) rfl rfl trivial ?_)
          refine zv_ifb (fun h8 => ?_) (fun h8 => ?_)
          · iterate 2 (refine zv_step (bX0_placeBare (3 * f + 6)) rfl rfl trivial ?_)
            refine zv_ifb (fun h9 => ?_) (fun h9 => ?_)
            · obtain ⟨f1, t1, ef, et, hf1, hf2, ht1⟩ := pf_any (a := a) (b := b) (by omega) (P 2 n.toNatClampNeg)
              iterate 5 (refine zv_step (bX0_placeBare (3 * f + 6)) rfl rfl trivial ?_)
              refine zv_step (bX0_placeBare (3 * f + 6)) rfl rfl (hv) ?_
              iterate 2 (refine zv_step (bX0_placeBare (3 * f + 6)) rfl rfl trivial ?_)
              refine zv_S2 (bX0_placeBare (3 * f + 6)) rfl rfl rfl rfl ⟨rfl, rfl, rfl⟩ ⟨by show 0 + 1 ≤ 3 * f + 6; omega, by show 8 + (2 + 11) + 64 * (0) ≤ 64 * (3 * f + 6); omega⟩ ⟨Nat.zero_le _, Nat.zero_le _⟩ (hFrom _ _ _) ?_
              rintro _ _ ⟨rfl, rfl⟩
              iterate 2 (refine zv_step (bX0_placeBare (3 * f + 6)) rfl rfl trivial ?_)
              refine zv_S2 (bX0_placeBare (3 * f + 6)) rfl rfl rfl rfl ⟨rfl, rfl, rfl⟩ ⟨by show 0 + 1 ≤ 3 * f + 6; omega, by show 8 + (2 + 11) + 64 * (0) ≤ 64 * (3 * f + 6); omega⟩ ⟨Nat.zero_le _, Nat.zero_le _⟩ (hTo _ _ _) ?_
              rintro _ _ ⟨rfl, rfl⟩
              refine zv_V4 (bX0_placeBare (3 * f + 6)) rfl rfl rfl rfl rfl rfl rfl ⟨rfl, rfl, rfl⟩ ⟨by show 3 * f + 4 + 1 ≤ 3 * f + 6; omega, by show 8 + (10 + 11) + 64 * (3 * f + 4) ≤ 64 * (3 * f + 6); omega⟩ ⟨Nat.zero_le _, Nat.zero_le _⟩ (ih f1 t1 _ _ _ ef et (by omega) (by omega) (by omega)) ?_
              rintro _ _ ⟨rfl, v3, rfl⟩
              exact zv_lret (bX0_placeBare (3 * f + 6)) rfl rfl (Nat.zero_le _) (Nat.zero_le _) ⟨rfl, _, rfl⟩
            · iterate 2 (refine zv_step (bX0_placeBare (3 * f + 6)) rfl rfl trivial ?_)
              exact zv_lret (bX0_placeBare (3 * f + 6)) rfl rfl (Nat.zero_le _) (Nat.zero_le _) ⟨rfl, _, rfl⟩
          · iterate 1 (refine zv_step (bX0_placeBare (3 * f + 6)) rfl rfl trivial ?_)
            exact zv_lret (bX0_placeBare (3 * f + 6)) rfl rfl (Nat.zero_le _) (Nat.zero_le _) ⟨rfl, _, rfl⟩
        · iterate 3 (refine zv_step (bX0_placeBare (3 * f + 6)) rfl rfl trivial ?_)
          refine zv_ifb (fun h4 => ?_) (fun h4 => ?_)
          · iterate 2 (refine zv_step (bX0_placeBare (3 * f + 6)) rfl rfl trivial ?_)
            refine zv_ifb (fun h9 => ?_) (fun h9 => ?_)
            · obtain ⟨f1, t1, ef, et, hf1, hf2, ht1⟩ := pf_any (a := a) (b := b) (by omega) (P 2 n.toNatClampNeg)
              iterate 5 (refine zv_step (bX0_placeBare (3 * f + 6)) rfl rfl trivial ?_)
              refine zv_step (bX0_placeBare (3 * f + 6)) rfl rfl (hv) ?_
              iterate 2 (refine zv_step (bX0_placeBare (3 * f + 6)) rfl rfl trivial ?_)
              refine zv_S2 (bX0_placeBare (3 * f + 6)) rfl rfl rfl rfl ⟨rfl, rfl, rfl⟩ ⟨by show 0 + 1 ≤ 3 * f + 6; omega, by show 8 + (2 + 11) + 64 * (0) ≤ 64 * (3 * f + 6); omega⟩ ⟨Nat.zero_le _, Nat.zero_le _⟩ (hFrom _ _ _) ?_
              rintro _ _ ⟨rfl, rfl⟩
              iterate 2 (refine zv_step (bX0_placeBare (3 * f + 6)) rfl rfl trivial ?_)
              refine zv_S2 (bX0_placeBare (3 * f + 6)) rfl rfl rfl rfl ⟨rfl, rfl, rfl⟩ ⟨by show 0 + 1 ≤ 3 * f + 6; omega, by show 8 + (2 + 11) + 64 * (0) ≤ 64 * (3 * f + 6); omega⟩ ⟨Nat.zero_le _, Nat.zero_le _⟩ (hTo _ _ _) ?_
              rintro _ _ ⟨rfl, rfl⟩
              refine zv_V4 (bX0_placeBare (3 * f + 6)) rfl rfl rfl rfl rfl rfl rfl ⟨rfl, rfl, rfl⟩ ⟨by show 3 * f + 4 + 1 ≤ 3 * f + 6; omega, by show 8 + (10 + 11) + 64 * (3 * f + 4) ≤ 64 * (3 * f + 6); omega⟩ ⟨Nat.zero_le _, Nat.zero_le _⟩ (ih f1 t1 _ _ _ ef et (by omega) (by omega) (by omega)) ?_
              rintro _ _ ⟨rfl, v3, rfl⟩
              exact zv_lret (bX0_placeBare (3 * f + 6)) rfl rfl (Nat.zero_le _) (Nat.zero_le _) ⟨rfl, _, rfl⟩
            · iterate 2 (refine zv_step (bX0_placeBare (3 * f + 6)) rfl rfl trivial ?_)
              exact zv_lret (bX0_placeBare (3 * f + 6)) rfl rfl (Nat.zero_le _) (Nat.zero_le _) ⟨rfl, _, rfl⟩
          · iterate 3 (refine zv_step (bX0_placeBare (3 * f + 6)) rfl rfl trivial ?_)
            refine zv_iale (bX0_placeBare (3 * f + 6)) rfl rfl (show vp_in (nI a) 20 by exact vp_in_nI (by omega) (by decide)) (show P 32 (nI a).toNatClampNeg = P 32 (a) by rw [nI_clamp (by omega)]) ?_
            iterate 3 (refine zv_step (bX0_placeBare (3 * f + 6)) rfl rfl trivial ?_)
            refine zv_step (bX0_placeBare (3 * f + 6)) rfl rfl (hv) ?_
            iterate 1 (refine zv_step (bX0_placeBare (3 * f + 6)) rfl rfl trivial ?_)
            refine zv_ifb (fun h8 => ?_) (fun h8 => ?_)
            · iterate 2 (refine zv_step (bX0_placeBare (3 * f + 6)) rfl rfl trivial ?_)
              refine zv_ifb (fun h9 => ?_) (fun h9 => ?_)
              · obtain ⟨f1, t1, ef, et, hf1, hf2, ht1⟩ := pf_any (a := a) (b := b) (by omega) (P 2 n.toNatClampNeg)
                iterate 5 (refine zv_step (bX0_placeBare (3 * f + 6)) rfl rfl trivial ?_)
                refine zv_step (bX0_placeBare (3 * f + 6)) rfl rfl (hv) ?_
                iterate 2 (refine zv_step (bX0_placeBare (3 * f + 6)) rfl rfl trivial ?_)
                refine zv_S2 (bX0_placeBare (3 * f + 6)) rfl rfl rfl rfl ⟨rfl, rfl, rfl⟩ ⟨by show 0 + 1 ≤ 3 * f + 6; omega, by show 8 + (2 + 11) + 64 * (0) ≤ 64 * (3 * f + 6); omega⟩ ⟨Nat.zero_le _, Nat.zero_le _⟩ (hFrom _ _ _) ?_
                rintro _ _ ⟨rfl, rfl⟩
                iterate 2 (refine zv_step (bX0_placeBare (3 * f + 6)) rfl rfl trivial ?_)
                refine zv_S2 (bX0_placeBare (3 * f + 6)) rfl rfl rfl rfl ⟨rfl, rfl, rfl⟩ ⟨by show 0 + 1 ≤ 3 * f + 6; omega, by show 8 + (2 + 11) + 64 * (0) ≤ 64 * (3 * f + 6); omega⟩ ⟨Nat.zero_le _, Nat.zero_le _⟩ (hTo _ _ _) ?_
                rintro _ _ ⟨rfl, rfl⟩
                refine zv_V4 (bX0_placeBare (3 * f + 6)) rfl rfl rfl rfl rfl rfl rfl ⟨rfl, rfl, rfl⟩ ⟨by show 3 * f + 4 + 1 ≤ 3 * f + 6; omega, by show 8 + (10 + 11) + 64 * (3 * f + 4) ≤ 64 * (3 * f + 6); omega⟩ ⟨Nat.zero_le _, Nat.zero_le _⟩ (ih f1 t1 _ _ _ ef et (by omega) (by omega) (by omega)) ?_
                rintro _ _ ⟨rfl, v3, rfl⟩
                exact zv_lret (bX0_placeBare (3 * f + 6)) rfl rfl (Nat.zero_le _) (Nat.zero_le _) ⟨rfl, _, rfl⟩
              · iterate 2 (refine zv_step (bX0_placeBare (3 * f + 6)) rfl rfl trivial ?_)
                exact zv_lret (bX0_placeBare (3 * f + 6)) rfl rfl (Nat.zero_le _) (Nat.zero_le _) ⟨rfl, _, rfl⟩
            · iterate 1 (refine zv_step (bX0_placeBare (3 * f + 6)) rfl rfl trivial ?_)
              exact zv_lret (bX0_placeBare (3 * f + 6)) rfl rfl (Nat.zero_le _) (Nat.zero_le _) ⟨rfl, _, rfl⟩
      · iterate 3 (refine zv_step (bX0_placeBare (3 * f + 6)) rfl rfl trivial ?_)
        refine zv_V2 (bX0_placeBare (3 * f + 6)) rfl rfl rfl rfl rfl rfl rfl ⟨rfl, rfl, rfl⟩ ⟨by show 0 + 1 ≤ 3 * f + 6; omega, by show 8 + (6 + 11) + 64 * (0) ≤ 64 * (3 * f + 6); omega⟩ ⟨Nat.zero_le _, Nat.zero_le _⟩ (hNum O P Y g hab hb) ?_
        rintro _ _ ⟨rfl, rfl⟩
        iterate 3 (refine zv_step (bX0_placeBare (3 * f + 6)) rfl rfl trivial ?_)
        refine zv_step (bX0_placeBare (3 * f + 6)) rfl rfl (hv) ?_
        iterate 1 (refine zv_step (bX0_placeBare (3 * f + 6)) rfl rfl trivial ?_)
        refine zv_ifb (fun h5 => ?_) (fun h5 => ?_)
        · iterate 1 (refine zv_step (bX0_placeBare (3 * f + 6)) rfl rfl trivial ?_)
          exact zv_lret (bX0_placeBare (3 * f + 6)) rfl rfl (Nat.zero_le _) (Nat.zero_le _) ⟨rfl, _, rfl⟩
        · iterate 2 (refine zv_step (bX0_placeBare (3 * f + 6)) rfl rfl trivial ?_)
          exact zv_lret (bX0_placeBare (3 * f + 6)) rfl rfl (Nat.zero_le _) (Nat.zero_le _) ⟨rfl, _, rfl⟩
    · iterate 1 (refine zv_step (bX0_placeBare (3 * f + 6)) rfl rfl trivial ?_)
      exact zv_lret (bX0_placeBare (3 * f + 6)) rfl rfl (Nat.zero_le _) (Nat.zero_le _) ⟨rfl, _, rfl⟩
set_option maxHeartbeats 1000000 in
set_option maxRecDepth 20000 in
theorem hPI (O : Nat → Int32) (P : Nat → Nat → Int32) (Y : Nat → Nat → Int64) (g : Nat → zC) (hu : (O 1).toInt ≤ 120) : ∀ (f a b : Nat) (n x y : Int32), x = nI a → y = nI b → a ≤ 30 → b ≤ 20 → b - a ≤ f → zK (3 * f + 4) zX0_placeIn [.ref 31, .ref 1, .int n, .int x, .int y] (wX O P Y g) (fun r w' => w' = wX O P Y g ∧ ∃ v : Int64, r = some (.long v)) := by
  intro f
  induction f with
  | zero =>
    intro a b n x y ex ey ha hb hf
    subst ex ey
    refine zK_of qX0_placeIn (by decide +kernel) rfl ?_
    iterate 3 (refine zv_step (bX0_placeIn (3 * 0 + 4)) rfl rfl trivial ?_)
    refine zv_ift (nI_le (by omega) (by omega)) ?_
    iterate 1 (refine zv_step (bX0_placeIn (3 * 0 + 4)) rfl rfl trivial ?_)
    exact zv_lret (bX0_placeIn (3 * 0 + 4)) rfl rfl (Nat.zero_le _) (Nat.zero_le _) ⟨rfl, _, rfl⟩
  | succ f ih =>
    intro a b n x y ex ey ha hb hf
    subst ex ey
    refine zK_of qX0_placeIn (by decide +kernel) rfl ?_
    iterate 3 (refine zv_step (bX0_placeIn (3 * (f + 1) + 4)) rfl rfl trivial ?_)
    refine zv_ifb (fun hq => ?_) (fun hq => ?_)
    · iterate 1 (refine zv_step (bX0_placeIn (3 * (f + 1) + 4)) rfl rfl trivial ?_)
      exact zv_lret (bX0_placeIn (3 * (f + 1) + 4)) rfl rfl (Nat.zero_le _) (Nat.zero_le _) ⟨rfl, _, rfl⟩
    · have hq : ¬ (nI b ≤ nI a) := hq
      rw [nI_leI (by omega) (by omega)] at hq
      have hab : a < b := by omega
      iterate 2 (refine zv_step (bX0_placeIn (3 * (f + 1) + 4)) rfl rfl trivial ?_)
      refine zv_V1 (bX0_placeIn (3 * (f + 1) + 4)) rfl rfl rfl rfl rfl rfl rfl ⟨rfl, rfl, rfl⟩ ⟨by show 0 + 1 ≤ 3 * (f + 1) + 4; omega, by show 8 + (2 + 11) + 64 * (0) ≤ 64 * (3 * (f + 1) + 4); omega⟩ ⟨Nat.zero_le _, Nat.zero_le _⟩ (pHas1 O P Y g _) ?_
      rintro _ _ ⟨rfl, ⟨hh, rfl⟩ | ⟨hh, rfl⟩⟩
      · iterate 1 (refine zv_step (bX0_placeIn (3 * (f + 1) + 4)) rfl rfl trivial ?_)
        refine zv_ift (by decide) ?_
        have hv : vp_in n 120 := vp_in_iff.mpr ⟨hh.1, Int.lt_of_lt_of_le hh.2 hu⟩
        iterate 4 (refine zv_step (bX0_placeIn (3 * (f + 1) + 4)) rfl rfl trivial ?_)
        refine zv_step (bX0_placeIn (3 * (f + 1) + 4)) rfl rfl (hv) ?_
        iterate 8 (refine zv_step (bX0_placeIn (3 * (f + 1) + 4)) rfl rfl trivial ?_)
        refine zv_V3 (bX0_placeIn (3 * (f + 1) + 4)) rfl rfl rfl rfl rfl rfl rfl ⟨rfl, rfl, rfl⟩ ⟨by show 3 + 1 ≤ 3 * (f + 1) + 4; omega, by show 8 + (6 + 11) + 64 * (3) ≤ 64 * (3 * (f + 1) + 4); omega⟩ ⟨Nat.zero_le _, Nat.zero_le _⟩ (hWays O P Y g hab hb rfl rfl _) ?_
        rintro _ _ ⟨rfl, v1, rfl, _⟩
        iterate 6 (refine zv_step (bX0_placeIn (3 * (f + 1) + 4)) rfl rfl trivial ?_)
        refine zv_ifb (fun h1 => ?_) (fun h1 => ?_)
        · iterate 5 (refine zv_step (bX0_placeIn (3 * (f + 1) + 4)) rfl rfl trivial ?_)
          refine zv_ifb (fun k1 => ?_) (fun k1 => ?_)
          · iterate 1 (refine zv_step (bX0_placeIn (3 * (f + 1) + 4)) rfl rfl trivial ?_)
            exact zv_lret (bX0_placeIn (3 * (f + 1) + 4)) rfl rfl (Nat.zero_le _) (Nat.zero_le _) ⟨rfl, _, rfl⟩
          · iterate 3 (refine zv_step (bX0_placeIn (3 * (f + 1) + 4)) rfl rfl trivial ?_)
            refine zv_V2 (bX0_placeIn (3 * (f + 1) + 4)) rfl rfl rfl rfl rfl rfl rfl ⟨rfl, rfl, rfl⟩ ⟨by show 0 + 1 ≤ 3 * (f + 1) + 4; omega, by show 8 + (3 + 11) + 64 * (0) ≤ 64 * (3 * (f + 1) + 4); omega⟩ ⟨Nat.zero_le _, Nat.zero_le _⟩ (hBr O P Y g hab hb) ?_
            rintro _ _ ⟨rfl, ⟨hz, rfl⟩ | ⟨hz, rfl⟩⟩
            · iterate 1 (refine zv_step (bX0_placeIn (3 * (f + 1) + 4)) rfl rfl trivial ?_)
              refine zv_ift (by decide) ?_
              have h3 := hz.1
              iterate 9 (refine zv_step (bX0_placeIn (3 * (f + 1) + 4)) rfl rfl trivial ?_)
              refine zv_V4 (bX0_placeIn (3 * (f + 1) + 4)) rfl rfl rfl rfl rfl rfl rfl ⟨rfl, rfl, rfl⟩ ⟨by show 3 * f + 6 + 1 ≤ 3 * (f + 1) + 4; omega, by show 8 + (6 + 11) + 64 * (3 * f + 6) ≤ 64 * (3 * (f + 1) + 4); omega⟩ ⟨Nat.zero_le _, Nat.zero_le _⟩ (hPB O P Y g hu (a := a + 1) (b := b - 1) (by omega) (by omega) ih (by omega) hv (nI_1 a) (sub_1 (by omega))) ?_
              rintro _ _ ⟨rfl, v5, rfl⟩
              iterate 5 (refine zv_step (bX0_placeIn (3 * (f + 1) + 4)) rfl rfl trivial ?_)
              refine zv_ifb (fun k2 => ?_) (fun k2 => ?_)
              · iterate 3 (refine zv_step (bX0_placeIn (3 * (f + 1) + 4)) rfl rfl trivial ?_)
                exact zv_lret (bX0_placeIn (3 * (f + 1) + 4)) rfl rfl (Nat.zero_le _) (Nat.zero_le _) ⟨rfl, _, rfl⟩
              · iterate 2 (refine zv_step (bX0_placeIn (3 * (f + 1) + 4)) rfl rfl trivial ?_)
                exact zv_lret (bX0_placeIn (3 * (f + 1) + 4)) rfl rfl (Nat.zero_le _) (Nat.zero_le _) ⟨rfl, _, rfl⟩
            · iterate 1 (refine zv_step (bX0_placeIn (3 * (f + 1) + 4)) rfl rfl trivial ?_)
              refine zv_iff (by decide) ?_
              iterate 1 (refine zv_step (bX0_placeIn (3 * (f + 1) + 4)) rfl rfl trivial ?_)
              exact zv_lret (bX0_placeIn (3 * (f + 1) + 4)) rfl rfl (Nat.zero_le _) (Nat.zero_le _) ⟨rfl, _, rfl⟩
        · iterate 5 (refine zv_step (bX0_placeIn (3 * (f + 1) + 4)) rfl rfl trivial ?_)
          refine zv_V4 (bX0_placeIn (3 * (f + 1) + 4)) rfl rfl rfl rfl rfl rfl rfl ⟨rfl, rfl, rfl⟩ ⟨by show 3 * f + 6 + 1 ≤ 3 * (f + 1) + 4; omega, by show 8 + (6 + 11) + 64 * (3 * f + 6) ≤ 64 * (3 * (f + 1) + 4); omega⟩ ⟨Nat.zero_le _, Nat.zero_le _⟩ (hPB O P Y g hu hab hb ih hf hv rfl rfl) ?_
          rintro _ _ ⟨rfl, v2, rfl⟩
          iterate 5 (refine zv_step (bX0_placeIn (3 * (f + 1) + 4)) rfl rfl trivial ?_)
          refine zv_ifb (fun h2 => ?_) (fun h2 => ?_)
          · iterate 5 (refine zv_step (bX0_placeIn (3 * (f + 1) + 4)) rfl rfl trivial ?_)
            refine zv_V3 (bX0_placeIn (3 * (f + 1) + 4)) rfl rfl rfl rfl rfl rfl rfl ⟨rfl, rfl, rfl⟩ ⟨by show 2 + 1 ≤ 3 * (f + 1) + 4; omega, by show 8 + (8 + 11) + 64 * (2) ≤ 64 * (3 * (f + 1) + 4); omega⟩ ⟨Nat.zero_le _, Nat.zero_le _⟩ (hBare O P Y g hab hb rfl rfl _) ?_
            rintro _ _ ⟨rfl, v4, rfl, _⟩
            iterate 7 (refine zv_step (bX0_placeIn (3 * (f + 1) + 4)) rfl rfl trivial ?_)
            refine zv_ifb (fun k1 => ?_) (fun k1 => ?_)
            · iterate 1 (refine zv_step (bX0_placeIn (3 * (f + 1) + 4)) rfl rfl trivial ?_)
              exact zv_lret (bX0_placeIn (3 * (f + 1) + 4)) rfl rfl (Nat.zero_le _) (Nat.zero_le _) ⟨rfl, _, rfl⟩
            · iterate 3 (refine zv_step (bX0_placeIn (3 * (f + 1) + 4)) rfl rfl trivial ?_)
              refine zv_V2 (bX0_placeIn (3 * (f + 1) + 4)) rfl rfl rfl rfl rfl rfl rfl ⟨rfl, rfl, rfl⟩ ⟨by show 0 + 1 ≤ 3 * (f + 1) + 4; omega, by show 8 + (3 + 11) + 64 * (0) ≤ 64 * (3 * (f + 1) + 4); omega⟩ ⟨Nat.zero_le _, Nat.zero_le _⟩ (hBr O P Y g hab hb) ?_
              rintro _ _ ⟨rfl, ⟨hz, rfl⟩ | ⟨hz, rfl⟩⟩
              · iterate 1 (refine zv_step (bX0_placeIn (3 * (f + 1) + 4)) rfl rfl trivial ?_)
                refine zv_ift (by decide) ?_
                have h3 := hz.1
                iterate 9 (refine zv_step (bX0_placeIn (3 * (f + 1) + 4)) rfl rfl trivial ?_)
                refine zv_V4 (bX0_placeIn (3 * (f + 1) + 4)) rfl rfl rfl rfl rfl rfl rfl ⟨rfl, rfl, rfl⟩ ⟨by show 3 * f + 6 + 1 ≤ 3 * (f + 1) + 4; omega, by show 8 + (6 + 11) + 64 * (3 * f + 6) ≤ 64 * (3 * (f + 1) + 4); omega⟩ ⟨Nat.zero_le _, Nat.zero_le _⟩ (hPB O P Y g hu (a := a + 1) (b := b - 1) (by omega) (by omega) ih (by omega) hv (nI_1 a) (sub_1 (by omega))) ?_
                rintro _ _ ⟨rfl, v5, rfl⟩
                iterate 5 (refine zv_step (bX0_placeIn (3 * (f + 1) + 4)) rfl rfl trivial ?_)
                refine zv_ifb (fun k2 => ?_) (fun k2 => ?_)
                · iterate 3 (refine zv_step (bX0_placeIn (3 * (f + 1) + 4)) rfl rfl trivial ?_)
                  exact zv_lret (bX0_placeIn (3 * (f + 1) + 4)) rfl rfl (Nat.zero_le _) (Nat.zero_le _) ⟨rfl, _, rfl⟩
                · iterate 2 (refine zv_step (bX0_placeIn (3 * (f + 1) + 4)) rfl rfl trivial ?_)
                  exact zv_lret (bX0_placeIn (3 * (f + 1) + 4)) rfl rfl (Nat.zero_le _) (Nat.zero_le _) ⟨rfl, _, rfl⟩
              · iterate 1 (refine zv_step (bX0_placeIn (3 * (f + 1) + 4)) rfl rfl trivial ?_)
                refine zv_iff (by decide) ?_
                iterate 1 (refine zv_step (bX0_placeIn (3 * (f + 1) + 4)) rfl rfl trivial ?_)
                exact zv_lret (bX0_placeIn (3 * (f + 1) + 4)) rfl rfl (Nat.zero_le _) (Nat.zero_le _) ⟨rfl, _, rfl⟩
          · iterate 3 (refine zv_step (bX0_placeIn (3 * (f + 1) + 4)) rfl rfl trivial ?_)
            exact zv_lret (bX0_placeIn (3 * (f + 1) + 4)) rfl rfl (Nat.zero_le _) (Nat.zero_le _) ⟨rfl, _, rfl⟩
      · iterate 1 (refine zv_step (bX0_placeIn (3 * (f + 1) + 4)) rfl rfl trivial ?_)
        refine zv_iff (by decide) ?_
        iterate 1 (refine zv_step (bX0_placeIn (3 * (f + 1) + 4)) rfl rfl trivial ?_)
        exact zv_lret (bX0_placeIn (3 * (f + 1) + 4)) rfl rfl (Nat.zero_le _) (Nat.zero_le _) ⟨rfl, _, rfl⟩
set_option maxHeartbeats 1000000 in
set_option maxRecDepth 20000 in
theorem hPlace (O : Nat → Int32) (P : Nat → Nat → Int32) (Y : Nat → Nat → Int64) (g : Nat → zC) (hu : (O 1).toInt ≤ 120) {m : Nat} (hm : m ≤ 20) (hO : O 9 = nI m) (n : Int32) : zK 65 zX0_placeOf [.ref 31, .ref 1, .int n] (wX O P Y g) (fun r w' => w' = wX O P Y g ∧ ∃ v : Int64, r = some (.long v)) := by
  refine zK_of qX0_placeOf (by decide +kernel) rfl ?_
  iterate 6 (refine zv_step (bX0_placeOf 65) rfl rfl trivial ?_)
  refine zv_V4 (bX0_placeOf 65) rfl rfl rfl rfl rfl rfl rfl ⟨rfl, rfl, rfl⟩ ⟨by decide, by decide⟩ ⟨Nat.zero_le _, Nat.zero_le _⟩ (hPI O P Y g hu 20 0 m n _ _ rfl hO (by omega) (by omega) (by omega)) ?_
  rintro _ _ ⟨rfl, v, rfl⟩
  exact zv_lret (bX0_placeOf 65) rfl rfl (Nat.zero_le _) (Nat.zero_le _) ⟨rfl, _, rfl⟩
end
section
theorem upd2 (f : Nat → Int32) (i : Nat) (x y : Int32) : upd (upd f i x) i y = upd f i y := by
  funext j
  unfold upd
  by_cases h : j = i
  · rw [if_pos h, if_pos h]
  · rw [if_neg h, if_neg h, if_neg h]
theorem updA_self (A : Nat → Nat → Int32) (k : Nat) (g : Nat → Int32) : updA A k g k = g := if_pos rfl
def pgB (b u : Nat) (P : Nat → Nat → Int32) : Prop := pgI u (P (b + 1)) (P (b + 3)) (P (b + 4)) (P (b + 5))
/-- a page that has grown -/
def pgX (b m : Nat) (P : Nat → Nat → Int32) (m' : Nat) (P' : Nat → Nat → Int32) : Prop := m ≤ m' ∧ m' ≤ 120 ∧ pgB b m' P' ∧ (∀ j, j < m → P' (b + 5) j = P (b + 5) j) ∧ (∀ i, ¬ (b < i ∧ i ≤ b + 12) → P' i = P i)
theorem pgX_refl {b m : Nat} {P : Nat → Nat → Int32} (hm : m ≤ 120) (h : pgB b m P) : pgX b m P m P := ⟨Nat.le_refl _, hm, h, fun _ _ => rfl, fun _ _ => rfl⟩
theorem pgX_trans {b m m' m'' : Nat} {P P' P'' : Nat → Nat → Int32} (h : pgX b m P m' P') (k : pgX b m' P' m'' P'') : pgX b m P m'' P'' :=
  ⟨Nat.le_trans h.1 k.1, k.2.1, k.2.2.1, fun j hj => (k.2.2.2.1 j (Nat.lt_of_lt_of_le hj h.1)).trans (h.2.2.2.1 j hj), fun i hi => (k.2.2.2.2 i hi).trans (h.2.2.2.2 i hi)⟩
theorem okp_le {n m : Nat} {x : Int32} (h : okp n x) (hm : n ≤ m) : okp m x := h.imp id (fun ⟨j, hj, e⟩ => ⟨j, Nat.lt_of_lt_of_le hj hm, e⟩)
theorem szq_m1 (S : Nat → Int32) : szq S (Int32.ofInt (-1)) = 0 := if_neg (by decide)
theorem szq_nI (S : Nat → Int32) {j : Nat} (hj : j < 120) : szq S (nI j) = (S j).toNatClampNeg := by
  unfold szq nC
  rw [if_pos (by rw [nI_toInt (by omega)]; omega), nI_clamp (by omega)]
theorem szq_eq {S T : Nat → Int32} {m : Nat} {x : Int32} (hm : m ≤ 120) (hx : okp m x) (h : ∀ j, j < m → S j = T j) : szq S x = szq T x := by
  rcases hx with rfl | ⟨j, hj, rfl⟩
  · rw [szq_m1, szq_m1]
  · rw [szq_nI S (by omega), szq_nI T (by omega), h j hj]
theorem adI_row {b i : Nat} (u : Int32) (P : Nat → Nat → Int32) (n : Nat) (x : Int32) (h : ¬ (b + 5 ≤ i ∧ i ≤ b + 10)) : adI b u P n x i = P i := by
  unfold adI
  split
  · unfold adA
    rw [updA_ne _ _ (show i ≠ b + 10 by omega), updA_ne _ _ (show i ≠ b + 9 by omega), updA_ne _ _ (show i ≠ b + 8 by omega), updA_ne _ _ (show i ≠ b + 7 by omega), updA_ne _ _ (show i ≠ b + 6 by omega), updA_ne _ _ (show i ≠ b + 5 by omega)]
  · rfl
theorem adI_sz {b : Nat} (u : Int32) (P : Nat → Nat → Int32) (n : Nat) (x : Int32) : adI b u P n x (b + 5) = if 0 ≤ x.toInt ∧ x.toInt < u.toInt then upd (P (b + 5)) n (P (b + 5) n + P (b + 5) (nC x)) else P (b + 5) := by
  unfold adI
  split
  · unfold adA
    rw [updA_ne _ _ (show b + 5 ≠ b + 10 by omega), updA_ne _ _ (show b + 5 ≠ b + 9 by omega), updA_ne _ _ (show b + 5 ≠ b + 8 by omega), updA_ne _ _ (show b + 5 ≠ b + 7 by omega), updA_ne _ _ (show b + 5 ≠ b + 6 by omega), updA_self]
  · rfl
theorem putV_o {b i : Nat} (P : Nat → Nat → Int32) (n : Nat) (k v x y ow ch le ca : Int32) (h : ¬ (b < i ∧ i ≤ b + 10)) : putV b P n k v x y ow ch le ca i = P i := by
  unfold putV
  rw [updA_ne _ _ (show i ≠ b + 10 by omega), updA_ne _ _ (show i ≠ b + 9 by omega), updA_ne _ _ (show i ≠ b + 8 by omega), updA_ne _ _ (show i ≠ b + 7 by omega), updA_ne _ _ (show i ≠ b + 6 by omega), updA_ne _ _ (show i ≠ b + 5 by omega), updA_ne _ _ (show i ≠ b + 4 by omega), updA_ne _ _ (show i ≠ b + 3 by omega), updA_ne _ _ (show i ≠ b + 2 by omega), updA_ne _ _ (show i ≠ b + 1 by omega)]
theorem putV_1 {b : Nat} (P : Nat → Nat → Int32) (n : Nat) (k v x y ow ch le ca : Int32) : putV b P n k v x y ow ch le ca (b + 1) = upd (P (b + 1)) n k := by
  unfold putV
  rw [updA_ne _ _ (show b + 1 ≠ b + 10 by omega), updA_ne _ _ (show b + 1 ≠ b + 9 by omega), updA_ne _ _ (show b + 1 ≠ b + 8 by omega), updA_ne _ _ (show b + 1 ≠ b + 7 by omega), updA_ne _ _ (show b + 1 ≠ b + 6 by omega), updA_ne _ _ (show b + 1 ≠ b + 5 by omega), updA_ne _ _ (show b + 1 ≠ b + 4 by omega), updA_ne _ _ (show b + 1 ≠ b + 3 by omega), updA_ne _ _ (show b + 1 ≠ b + 2 by omega), updA_self]
theorem putV_3 {b : Nat} (P : Nat → Nat → Int32) (n : Nat) (k v x y ow ch le ca : Int32) : putV b P n k v x y ow ch le ca (b + 3) = upd (P (b + 3)) n x := by
  unfold putV
  rw [updA_ne _ _ (show b + 3 ≠ b + 10 by omega), updA_ne _ _ (show b + 3 ≠ b + 9 by omega), updA_ne _ _ (show b + 3 ≠ b + 8 by omega), updA_ne _ _ (show b + 3 ≠ b + 7 by omega), updA_ne _ _ (show b + 3 ≠ b + 6 by omega), updA_ne _ _ (show b + 3 ≠ b + 5 by omega), updA_ne _ _ (show b + 3 ≠ b + 4 by omega), updA_self]
theorem putV_4 {b : Nat} (P : Nat → Nat → Int32) (n : Nat) (k v x y ow ch le ca : Int32) : putV b P n k v x y ow ch le ca (b + 4) = upd (P (b + 4)) n y := by
  unfold putV
  rw [updA_ne _ _ (show b + 4 ≠ b + 10 by omega), updA_ne _ _ (show b + 4 ≠ b + 9 by omega), updA_ne _ _ (show b + 4 ≠ b + 8 by omega), updA_ne _ _ (show b + 4 ≠ b + 7 by omega), updA_ne _ _ (show b + 4 ≠ b + 6 by omega), updA_ne _ _ (show b + 4 ≠ b + 5 by omega), updA_self]
theorem putV_5 {b : Nat} (P : Nat → Nat → Int32) (n : Nat) (k v x y ow ch le ca : Int32) : putV b P n k v x y ow ch le ca (b + 5) = upd (P (b + 5)) n (Int32.ofInt 1) := by
  unfold putV
  rw [updA_ne _ _ (show b + 5 ≠ b + 10 by omega), updA_ne _ _ (show b + 5 ≠ b + 9 by omega), updA_ne _ _ (show b + 5 ≠ b + 8 by omega), updA_ne _ _ (show b + 5 ≠ b + 7 by omega), updA_ne _ _ (show b + 5 ≠ b + 6 by omega), updA_self]
theorem adSz {b m : Nat} {A : Nat → Nat → Int32} {S : Nat → Int32} {x : Int32} (hm : m < 120) (h1 : ∀ j, j < m → A (b + 5) j = S j) (hS : ∀ j, j < m → ∃ z : Nat, z ≤ 40 ∧ S j = nI z) (hx : okp m x) : adI b (nI m) A m x (b + 5) = upd (A (b + 5)) m (A (b + 5) m + nI (szq S x)) := by
  rw [adI_sz]
  rcases hx with rfl | ⟨j, hj, rfl⟩
  · rw [if_neg (fun q => absurd q.1 (by decide)), szq_m1]
    funext i
    unfold upd
    split
    · rename_i h; subst h; exact (Int32.add_zero _).symm
    · rfl
  · obtain ⟨z, hz, ez⟩ := hS j hj
    rw [if_pos ⟨by rw [nI_toInt (by omega)]; omega, by rw [nI_toInt (by omega), nI_toInt (by omega)]; omega⟩, szq_nI S (by omega), show nC (nI j) = j from nI_clamp (by omega), h1 j hj, ez, nI_clamp (by omega)]
set_option maxHeartbeats 1000000 in
theorem pgPut {b m : Nat} {P : Nat → Nat → Int32} (hp : pgB b m P) (hm : m < 120) {k x y : Int32} (v ow ch le ca : Int32) {kn : Nat} (hk : kn < 10) (ek : k = nI kn) (hx : okp m x) (hy : okp m y) (hs : 1 + szq (P (b + 5)) x + szq (P (b + 5)) y ≤ 40) (R : Nat → Int32) {P' : Nat → Nat → Int32} (e : P' = updA (adI b (nI m) (adI b (nI m) (putV b P m k v x y ow ch le ca) m x) m y) (b + 11) R) : pgX b m P (m + 1) P' ∧ szq (P' (b + 5)) (nI m) = 1 + szq (P (b + 5)) x + szq (P (b + 5)) y := by
  have r1 : P' (b + 1) = upd (P (b + 1)) m k := by rw [e, updA_ne _ _ (by omega), adI_row _ _ _ _ (by omega), adI_row _ _ _ _ (by omega), putV_1]
  have r3 : P' (b + 3) = upd (P (b + 3)) m x := by rw [e, updA_ne _ _ (by omega), adI_row _ _ _ _ (by omega), adI_row _ _ _ _ (by omega), putV_3]
  have r4 : P' (b + 4) = upd (P (b + 4)) m y := by rw [e, updA_ne _ _ (by omega), adI_row _ _ _ _ (by omega), adI_row _ _ _ _ (by omega), putV_4]
  have hS : ∀ j, j < m → ∃ z : Nat, z ≤ 40 ∧ P (b + 5) j = nI z := fun j hj => by
    obtain ⟨-, -, -, z, hz, -, z2, -⟩ := hp j hj
    exact ⟨z, z2, hz⟩
  have e1 := putV_5 (b := b) P m k v x y ow ch le ca
  generalize hA1 : putV b P m k v x y ow ch le ca = A1 at e e1
  have e2 : adI b (nI m) A1 m x (b + 5) = upd (P (b + 5)) m (nI (1 + szq (P (b + 5)) x)) := by
    rw [adSz (S := P (b + 5)) hm (fun j hj => by rw [e1, upd_ne _ _ (by omega)]) hS hx, e1, upd2, upd_self, show Int32.ofInt 1 = nI 1 from rfl, nI_plus]
  generalize hA2 : adI b (nI m) A1 m x = A2 at e e2
  have e3 : adI b (nI m) A2 m y (b + 5) = upd (P (b + 5)) m (nI (1 + szq (P (b + 5)) x + szq (P (b + 5)) y)) := by
    rw [adSz (S := P (b + 5)) hm (fun j hj => by rw [e2, upd_ne _ _ (by omega)]) hS hy, e2, upd2, upd_self, nI_plus]
  have r5 : P' (b + 5) = upd (P (b + 5)) m (nI (1 + szq (P (b + 5)) x + szq (P (b + 5)) y)) := by rw [e, updA_ne _ _ (by omega), e3]
  have hq : ∀ {z : Int32} {n : Nat}, okp n z → n ≤ m → szq (P' (b + 5)) z = szq (P (b + 5)) z := fun {z n} hz hn => szq_eq (m := n) (by omega) hz (fun j hj => by rw [r5, upd_ne _ _ (by omega)])
  refine ⟨⟨by omega, by omega, ?_, fun j hj => by rw [r5, upd_ne _ _ (by omega)], ?_⟩, ?_⟩
  · intro n hn
    by_cases h : n = m
    · subst h
      refine ⟨⟨kn, hk, by rw [r1, upd_self, ek]⟩, by rw [r3, upd_self]; exact hx, by rw [r4, upd_self]; exact hy, _, by rw [r5, upd_self], by omega, hs, ?_⟩
      rw [r3, r4, upd_self, upd_self, hq hx (Nat.le_refl _), hq hy (Nat.le_refl _)]
      exact Nat.le_refl _
    · obtain ⟨⟨q, q1, q2⟩, hx2, hy2, z, hz, z1, z2, z3⟩ := hp n (by omega)
      refine ⟨⟨q, q1, by rw [r1, upd_ne _ _ h, q2]⟩, by rw [r3, upd_ne _ _ h]; exact hx2, by rw [r4, upd_ne _ _ h]; exact hy2, z, by rw [r5, upd_ne _ _ h, hz], z1, z2, ?_⟩
      rw [r3, r4, upd_ne _ _ h, upd_ne _ _ h, hq hx2 (by omega), hq hy2 (by omega)]
      exact z3
  · intro i hi
    rw [e, updA_ne _ _ (by omega), adI_row _ _ _ _ (by omega), ← hA2, adI_row _ _ _ _ (by omega), ← hA1, putV_o _ _ _ _ _ _ _ _ _ _ (by omega)]
  · rw [szq_nI _ hm, r5, upd_self, nI_clamp (by omega)]
theorem putYes14 {O : Nat → Int32} {P : Nat → Nat → Int32} {Y : Nat → Nat → Int64} {g : Nat → zC} {m : Nat} {k v x y : Int32} {kn : Nat} (hm : m < 120) (hp : pgB 14 m P) (hk : kn < 10) (ek : k = nI kn) (hx : okp m x) (hy : okp m y) (hs : 1 + szq (P (14 + 5)) x + szq (P (14 + 5)) y ≤ 40) {r : Option Value} {w' : zW} (h : r = some (.int (nI m)) ∧ ∃ sh ch le ca, ch = hbW (Int16.ofInt 764).toInt32 k ∧ le = (if k = 0 then Int32.ofInt 1 <<< (v &&& 31) else Int32.ofInt 0) ∧ ca = (if k = c8 9 then Int32.ofInt 1 <<< (v &&& 31) else Int32.ofInt 0) ∧ sh = faW 14 (nI m) (adI 14 (nI m) (adI 14 (nI m) (putV 14 P (nC (nI m)) k v x y (owW k v) ch le ca) (nC (nI m)) x) (nC (nI m)) y) m m 0 ∧ w' = wX (upd (upd O 2 (nI m)) 2 (nI m + Int32.ofInt 1)) (updA (adI 14 (nI m) (adI 14 (nI m) (putV 14 P (nC (nI m)) k v x y (owW k v) ch le ca) (nC (nI m)) x) (nC (nI m)) y) 25 (upd ((adI 14 (nI m) (adI 14 (nI m) (putV 14 P (nC (nI m)) k v x y (owW k v) ch le ca) (nC (nI m)) x) (nC (nI m)) y) 25) (nC (nI m)) sh)) Y g) : ∃ P' : Nat → Nat → Int32, r = some (.int (nI m)) ∧ w' = wX (upd O 2 (nI (m + 1))) P' Y g ∧ pgX 14 m P (m + 1) P' ∧ szq (P' (14 + 5)) (nI m) = 1 + szq (P (14 + 5)) x + szq (P (14 + 5)) y := by
  obtain ⟨rfl, sh, ch, le, ca, -, -, -, -, rfl⟩ := h
  have e : nC (nI m) = m := nI_clamp (by omega)
  rw [upd2, show nI m + Int32.ofInt 1 = nI (m + 1) from nI_1 m, e]
  exact ⟨_, rfl, rfl, pgPut hp hm v (owW k v) ch le ca hk ek hx hy hs _ rfl⟩
end
section
theorem cmp_sub {x y : Int64} {n : Nat} (hy : inB y n) (h : 0 ≤ lg_cmp x y) : 0 ≤ lg_cmp (x - y) (Int64.ofInt 0) := by
  rw [lg_cmp_ge, Int64.le_iff_toInt_le] at h
  rw [lg_cmp_ge, Int64.le_iff_toInt_le, Int64.toInt_sub]
  have h1 := hy.1
  have h2 := Int64.toInt_lt x
  rw [Int.bmod_eq_of_le (by omega) (by omega), show (Int64.ofInt 0).toInt = 0 from rfl]
  omega
end
section
set_option maxHeartbeats 1000000 in
set_option maxRecDepth 20000 in
theorem hBPL14 (O : Nat → Int32) (Y : Nat → Nat → Int64) (g : Nat → zC) {u : Nat} {P : Nat → Nat → Int32} (hu : u ≤ 120) (hp : pgB 14 u P) {a b : Nat} (hab : a < b) (hb : b ≤ 20) {f : Nat} (ih : ∀ (a b u : Nat) (P : Nat → Nat → Int32) (x y : Int32) (k : Int64), x = nI a → y = nI b → a ≤ 30 → b ≤ 20 → b - a ≤ f → u ≤ 120 → pgB 14 u P → zK (3 * f + 4) zX0_buildSpan [.ref 31, .ref 14, .int x, .int y, .long k] (wX (upd O 2 (nI u)) P Y g) (fun r w' => ∃ (u' : Nat) (P' : Nat → Nat → Int32) (R : Int32), r = some (.int R) ∧ w' = wX (upd O 2 (nI u')) P' Y g ∧ pgX 14 u P u' P' ∧ okp u' R ∧ szq (P' (14 + 5)) R ≤ b - a)) (hf : b - a ≤ f + 1) {kn : Nat} {k : Int32} (hk : kn < 10) (ek : k = nI kn) (kk : Int64) {n0 : Nat} : ∀ (c m : Nat), b - m ≤ c → a < m → m ≤ b → ∀ {x9 : Int32} {s : Int64}, x9 = nI m → zV (zMo (3 * f + 5) zX0_buildPair) false n0 0 0 9 [(9, .int (x9)), (7, .long (s)), (0, .ref 31), (1, .ref 14), (2, .int k), (3, .int (nI a)), (4, .int (nI b)), (5, .long kk)] [] (wX (upd O 2 (nI u)) P Y g) (fun r w' => ∃ (u' : Nat) (P' : Nat → Nat → Int32) (R : Int32), r = some (.int R) ∧ w' = wX (upd O 2 (nI u')) P' Y g ∧ pgX 14 u P u' P' ∧ okp u' R ∧ szq (P' (14 + 5)) R ≤ b - a) := by
  intro c
  induction c with
  | zero =>
    intro m hc hm hmb x9 s e6
    subst e6
    iterate 5 (refine zv_step (bX0_buildPair (3 * f + 5)) rfl rfl trivial ?_)
    refine zv_ift (show nI b - Int32.ofInt 1 ≤ nI m by rw [sub_1 (by omega)]; exact nI_le (by omega) (by omega)) ?_
    iterate 1 (refine zv_step (bX0_buildPair (3 * f + 5)) rfl rfl trivial ?_)
    exact zv_iret (bX0_buildPair (3 * f + 5)) rfl (Or.inl rfl) (Nat.zero_le _) (Nat.zero_le _) ⟨u, P, _, rfl, rfl, pgX_refl hu hp, Or.inl rfl, by rw [szq_m1]; omega⟩
  | succ c ih2 =>
    intro m hc hm hmb x9 s e6
    subst e6
    iterate 5 (refine zv_step (bX0_buildPair (3 * f + 5)) rfl rfl trivial ?_)
    refine zv_ifb (fun hq => ?_) (fun hq => ?_)
    · iterate 1 (refine zv_step (bX0_buildPair (3 * f + 5)) rfl rfl trivial ?_)
      exact zv_iret (bX0_buildPair (3 * f + 5)) rfl (Or.inl rfl) (Nat.zero_le _) (Nat.zero_le _) ⟨u, P, _, rfl, rfl, pgX_refl hu hp, Or.inl rfl, by rw [szq_m1]; omega⟩
    · have hq : ¬ (nI b - Int32.ofInt 1 ≤ nI m) := hq
      rw [sub_1 (by omega), nI_leI (by omega) (by omega)] at hq
      iterate 3 (refine zv_step (bX0_buildPair (3 * f + 5)) rfl rfl trivial ?_)
      refine zv_iale (bX0_buildPair (3 * f + 5)) rfl rfl (show vp_in (nI m) 20 by exact vp_in_nI (by omega) (by decide)) (show P 32 (nI m).toNatClampNeg = P 32 (m) by rw [nI_clamp (by omega)]) ?_
      iterate 4 (refine zv_step (bX0_buildPair (3 * f + 5)) rfl rfl trivial ?_)
      refine zv_ifb (fun h3 => ?_) (fun h3 => ?_)
      · iterate 5 (refine zv_step (bX0_buildPair (3 * f + 5)) rfl rfl trivial ?_)
        refine zv_aald (bX0_buildPair (3 * f + 5)) rfl (Or.inr rfl) rfl (show vp_in (nI m + Int32.ofInt 1) 21 by rw [show nI m + Int32.ofInt 1 = nI (m + 1) from nI_1 m]; exact vp_in_nI (by omega) (by decide)) (show ([some 34, some 35, some 36, some 37, some 38, some 39, some 40, some 41, some 42, some 43, some 44, some 45, some 46, some 47, some 48, some 49, some 50, some 51, some 52, some 53, some 54] : List (Option Nat)).getD (nI m + Int32.ofInt 1).toNatClampNeg none = some (34 + (m + 1)) by rw [show nI m + Int32.ofInt 1 = nI (m + 1) from nI_1 m, nI_clamp (by omega)]; exact dLs (by omega)) ?_
        iterate 1 (refine zv_step (bX0_buildPair (3 * f + 5)) rfl rfl trivial ?_)
        refine zv_lald (bX0_buildPair (3 * f + 5)) rfl (wY (upd O 2 (nI u)) P Y g (by omega)) (show vp_in (nI b) 21 by exact vp_in_nI (by omega) (by decide)) ?_
        iterate 4 (refine zv_step (bX0_buildPair (3 * f + 5)) rfl rfl trivial ?_)
        refine zv_aald (bX0_buildPair (3 * f + 5)) rfl (Or.inr rfl) rfl (show vp_in (nI a) 21 by exact vp_in_nI (by omega) (by decide)) (show ([some 34, some 35, some 36, some 37, some 38, some 39, some 40, some 41, some 42, some 43, some 44, some 45, some 46, some 47, some 48, some 49, some 50, some 51, some 52, some 53, some 54] : List (Option Nat)).getD (nI a).toNatClampNeg none = some (34 + (a)) by rw [nI_clamp (by omega)]; exact dLs (by omega)) ?_
        iterate 1 (refine zv_step (bX0_buildPair (3 * f + 5)) rfl rfl trivial ?_)
        refine zv_lald (bX0_buildPair (3 * f + 5)) rfl (wY (upd O 2 (nI u)) P Y g (by omega)) (show vp_in (nI m) 21 by exact vp_in_nI (by omega) (by decide)) ?_
        iterate 7 (refine zv_step (bX0_buildPair (3 * f + 5)) rfl rfl trivial ?_)
        refine zv_ifb (fun h4 => ?_) (fun h4 => ?_)
        · iterate 6 (refine zv_step (bX0_buildPair (3 * f + 5)) rfl rfl trivial ?_)
          refine zv_locals (l := [(9, .int (nI m + Int32.ofInt 1)), (7, .long (s - Y (34 + a) (nI m).toNatClampNeg * Y (34 + (m + 1)) (nI b).toNatClampNeg)), (12, .long (Y (34 + a) (nI m).toNatClampNeg * Y (34 + (m + 1)) (nI b).toNatClampNeg)), (10, .long (Y (34 + (m + 1)) (nI b).toNatClampNeg)), (0, .ref 31), (1, .ref 14), (2, .int k), (3, .int (nI a)), (4, .int (nI b)), (5, .long kk)]) (l' := [(9, .int (nI m + Int32.ofInt 1)), (7, .long (s - Y (34 + a) (nI m).toNatClampNeg * Y (34 + (m + 1)) (nI b).toNatClampNeg)), (0, .ref 31), (1, .ref 14), (2, .int k), (3, .int (nI a)), (4, .int (nI b)), (5, .long kk)]) ?_ (ih2 (m + 1) (by omega) (by omega) (by omega) (nI_1 m))
          simp
        · iterate 4 (refine zv_step (bX0_buildPair (3 * f + 5)) rfl rfl trivial ?_)
          refine zv_ifb (fun hz => ?_) (fun hz => ?_)
          · iterate 6 (refine zv_step (bX0_buildPair (3 * f + 5)) rfl rfl trivial ?_)
            refine zv_locals (l := [(9, .int (nI m + Int32.ofInt 1)), (7, .long (s - Y (34 + a) (nI m).toNatClampNeg * Y (34 + (m + 1)) (nI b).toNatClampNeg)), (12, .long (Y (34 + a) (nI m).toNatClampNeg * Y (34 + (m + 1)) (nI b).toNatClampNeg)), (10, .long (Y (34 + (m + 1)) (nI b).toNatClampNeg)), (0, .ref 31), (1, .ref 14), (2, .int k), (3, .int (nI a)), (4, .int (nI b)), (5, .long kk)]) (l' := [(9, .int (nI m + Int32.ofInt 1)), (7, .long (s - Y (34 + a) (nI m).toNatClampNeg * Y (34 + (m + 1)) (nI b).toNatClampNeg)), (0, .ref 31), (1, .ref 14), (2, .int k), (3, .int (nI a)), (4, .int (nI b)), (5, .long kk)]) ?_ (ih2 (m + 1) (by omega) (by omega) (by omega) (nI_1 m))
            simp
          · iterate 6 (refine zv_step (bX0_buildPair (3 * f + 5)) rfl rfl trivial ?_)
            refine zv_step (bX0_buildPair (3 * f + 5)) rfl rfl (fun h => hz (by have h : Y (34 + (m + 1)) (nI b).toNatClampNeg = 0 := h; show lg_cmp (Y (34 + (m + 1)) (nI b).toNatClampNeg) (Int64.ofInt 0) ≤ 0; rw [h]; decide)) ?_
            refine zv_V4 (bX0_buildPair (3 * f + 5)) rfl rfl rfl rfl rfl rfl rfl ⟨rfl, rfl, rfl⟩ ⟨by show 3 * f + 4 + 1 ≤ 3 * f + 5; omega, by show 8 + (14 + 11) + 64 * (3 * f + 4) ≤ 64 * (3 * f + 5); omega⟩ ⟨Nat.zero_le _, Nat.zero_le _⟩ (ih (a) (m) u P _ _ _ rfl rfl (by omega) (by omega) (by omega) hu hp) ?_
            rintro _ _ ⟨u1, P1, R1, rfl, rfl, hX1, hR1, hS1⟩
            iterate 9 (refine zv_step (bX0_buildPair (3 * f + 5)) rfl rfl trivial ?_)
            refine zv_step (bX0_buildPair (3 * f + 5)) rfl rfl (fun h => hz (by have h : Y (34 + (m + 1)) (nI b).toNatClampNeg = 0 := h; show lg_cmp (Y (34 + (m + 1)) (nI b).toNatClampNeg) (Int64.ofInt 0) ≤ 0; rw [h]; decide)) ?_
            refine zv_V4 (bX0_buildPair (3 * f + 5)) rfl rfl rfl rfl rfl rfl rfl ⟨rfl, rfl, rfl⟩ ⟨by show 3 * f + 4 + 1 ≤ 3 * f + 5; omega, by show 8 + (14 + 11) + 64 * (3 * f + 4) ≤ 64 * (3 * f + 5); omega⟩ ⟨Nat.zero_le _, Nat.zero_le _⟩ (ih (m + 1) (b) u1 P1 _ _ _ (nI_1 m) rfl (by omega) (by omega) (by omega) hX1.2.1 hX1.2.2.1) ?_
            rintro _ _ ⟨u2, P2, R2, rfl, rfl, hX2, hR2, hS2⟩
            have h02 := pgX_trans hX1 hX2
            have hsum : 1 + szq (P2 (14 + 5)) R1 + szq (P2 (14 + 5)) R2 ≤ b - a := by
              rw [szq_eq hX1.2.1 hR1 hX2.2.2.2.1]
              omega
            have hu2 := hX2.2.1
            iterate 6 (refine zv_step (bX0_buildPair (3 * f + 5)) rfl rfl trivial ?_)
            rcases Nat.lt_or_ge u2 120 with hlt | hge
            · refine zv_V4 (bX0_buildPair (3 * f + 5)) rfl rfl rfl rfl rfl rfl rfl ⟨rfl, rfl, rfl⟩ ⟨by show 2 + 1 ≤ 3 * f + 5; omega, by show 8 + (6 + 11) + 64 * (2) ≤ 64 * (3 * f + 5); omega⟩ ⟨Nat.zero_le _, Nat.zero_le _⟩ (pPut14 (upd O 2 (nI u2)) P2 Y g (show (nI u2).toInt ≤ 120 by rw [nI_toInt (by omega)]; omega) hlt rfl _ _ _ _) ?_
              rintro r9 w9 hpo
              obtain ⟨P9, rfl, rfl, hX9, hZ9⟩ := putYes14 hlt hX2.2.2.1 hk ek (okp_le hR1 hX2.1) hR2 (by omega) hpo
              exact zv_iret (bX0_buildPair (3 * f + 5)) rfl (Or.inl rfl) (Nat.zero_le _) (Nat.zero_le _) ⟨_, P9, _, rfl, rfl, pgX_trans h02 hX9, Or.inr ⟨_, Nat.lt_succ_self _, rfl⟩, by rw [hZ9]; exact hsum⟩
            · refine zv_V4 (bX0_buildPair (3 * f + 5)) rfl rfl rfl rfl rfl rfl rfl ⟨rfl, rfl, rfl⟩ ⟨by show 2 + 1 ≤ 3 * f + 5; omega, by show 8 + (6 + 11) + 64 * (2) ≤ 64 * (3 * f + 5); omega⟩ ⟨Nat.zero_le _, Nat.zero_le _⟩ (pPutNo14 (upd O 2 (nI u2)) P2 Y g (show 120 ≤ (nI u2).toInt by rw [nI_toInt (by omega)]; omega) _ _ _ _) ?_
              rintro _ _ ⟨rfl, rfl⟩
              exact zv_iret (bX0_buildPair (3 * f + 5)) rfl (Or.inl rfl) (Nat.zero_le _) (Nat.zero_le _) ⟨u2, P2, _, rfl, rfl, h02, Or.inl rfl, by rw [szq_m1]; omega⟩
      · iterate 3 (refine zv_step (bX0_buildPair (3 * f + 5)) rfl rfl trivial ?_)
        exact (ih2 (m + 1) (by omega) (by omega) (by omega) (nI_1 m))
set_option maxHeartbeats 1000000 in
set_option maxRecDepth 20000 in
theorem hBP14 (O : Nat → Int32) (Y : Nat → Nat → Int64) (g : Nat → zC) {u : Nat} {P : Nat → Nat → Int32} (hu : u ≤ 120) (hp : pgB 14 u P) {a b : Nat} (hab : a < b) (hb : b ≤ 20) {f : Nat} (ih : ∀ (a b u : Nat) (P : Nat → Nat → Int32) (x y : Int32) (k : Int64), x = nI a → y = nI b → a ≤ 30 → b ≤ 20 → b - a ≤ f → u ≤ 120 → pgB 14 u P → zK (3 * f + 4) zX0_buildSpan [.ref 31, .ref 14, .int x, .int y, .long k] (wX (upd O 2 (nI u)) P Y g) (fun r w' => ∃ (u' : Nat) (P' : Nat → Nat → Int32) (R : Int32), r = some (.int R) ∧ w' = wX (upd O 2 (nI u')) P' Y g ∧ pgX 14 u P u' P' ∧ okp u' R ∧ szq (P' (14 + 5)) R ≤ b - a)) (hf : b - a ≤ f + 1) {kn : Nat} {k : Int32} (hk : kn < 10) (ek : k = nI kn) (kk : Int64) : zK (3 * f + 5) zX0_buildPair [.ref 31, .ref 14, .int k, .int (nI a), .int (nI b), .long kk] (wX (upd O 2 (nI u)) P Y g) (fun r w' => ∃ (u' : Nat) (P' : Nat → Nat → Int32) (R : Int32), r = some (.int R) ∧ w' = wX (upd O 2 (nI u')) P' Y g ∧ pgX 14 u P u' P' ∧ okp u' R ∧ szq (P' (14 + 5)) R ≤ b - a) := by
  refine zK_of qX0_buildPair (by decide +kernel) rfl ?_
  iterate 6 (refine zv_step (bX0_buildPair (3 * f + 5)) rfl rfl trivial ?_)
  exact hBPL14 O Y g hu hp hab hb ih hf hk ek kk (b - (a + 1)) (a + 1) (by omega) (by omega) (by omega) (nI_1 a)
set_option maxHeartbeats 1000000 in
set_option maxRecDepth 20000 in
theorem hBB14 (O : Nat → Int32) (Y : Nat → Nat → Int64) (g : Nat → zC) {u : Nat} {P : Nat → Nat → Int32} (hu : u ≤ 120) (hp : pgB 14 u P) {a b : Nat} (hab : a < b) (hb : b ≤ 20) {f : Nat} (ih : ∀ (a b u : Nat) (P : Nat → Nat → Int32) (x y : Int32) (k : Int64), x = nI a → y = nI b → a ≤ 30 → b ≤ 20 → b - a ≤ f → u ≤ 120 → pgB 14 u P → zK (3 * f + 4) zX0_buildSpan [.ref 31, .ref 14, .int x, .int y, .long k] (wX (upd O 2 (nI u)) P Y g) (fun r w' => ∃ (u' : Nat) (P' : Nat → Nat → Int32) (R : Int32), r = some (.int R) ∧ w' = wX (upd O 2 (nI u')) P' Y g ∧ pgX 14 u P u' P' ∧ okp u' R ∧ szq (P' (14 + 5)) R ≤ b - a)) (hf : b - a ≤ f + 1) {kn : Nat} {k : Int32} (hk : kn < 10) (ek : k = nI kn) (kk : Int64) {x y : Int32} (ex : x = nI a) (ey : y = nI b) : zK (3 * f + 6) zX0_buildBare [.ref 31, .ref 14, .int k, .int x, .int y, .long kk] (wX (upd O 2 (nI u)) P Y g) (fun r w' => ∃ (u' : Nat) (P' : Nat → Nat → Int32) (R : Int32), r = some (.int R) ∧ w' = wX (upd O 2 (nI u')) P' Y g ∧ pgX 14 u P u' P' ∧ okp u' R ∧ szq (P' (14 + 5)) R ≤ b - a) := by
  subst ex ey
  refine zK_of qX0_buildBare (by decide +kernel) rfl ?_
  iterate 1 (refine zv_step (bX0_buildBare (3 * f + 6)) rfl rfl trivial ?_)
  refine zv_S1 (bX0_buildBare (3 * f + 6)) rfl rfl rfl rfl ⟨rfl, rfl, rfl⟩ ⟨by show 0 + 1 ≤ 3 * f + 6; omega, by show 8 + (1 + 11) + 64 * (0) ≤ 64 * (3 * f + 6); omega⟩ ⟨Nat.zero_le _, Nat.zero_le _⟩ (hX1_isPair _ _) ?_
  rintro _ _ ⟨rfl, ⟨hpr, rfl⟩ | ⟨hpr, rfl⟩⟩
  · iterate 1 (refine zv_step (bX0_buildBare (3 * f + 6)) rfl rfl trivial ?_)
    refine zv_iff (by decide) ?_
    iterate 6 (refine zv_step (bX0_buildBare (3 * f + 6)) rfl rfl trivial ?_)
    refine zv_V5 (bX0_buildBare (3 * f + 6)) rfl rfl rfl rfl rfl rfl rfl ⟨rfl, rfl, rfl⟩ ⟨by show 3 * f + 5 + 1 ≤ 3 * f + 6; omega, by show 8 + (16 + 11) + 64 * (3 * f + 5) ≤ 64 * (3 * f + 6); omega⟩ ⟨Nat.zero_le _, Nat.zero_le _⟩ (hBP14 O Y g hu hp hab hb ih hf hk ek _) ?_
    rintro _ _ ⟨u1, P1, R1, rfl, rfl, q1, q2, q3⟩
    exact zv_iret (bX0_buildBare (3 * f + 6)) rfl (Or.inl rfl) (Nat.zero_le _) (Nat.zero_le _) ⟨u1, P1, R1, rfl, rfl, q1, q2, q3⟩
  · iterate 1 (refine zv_step (bX0_buildBare (3 * f + 6)) rfl rfl trivial ?_)
    refine zv_ift (by decide) ?_
    iterate 2 (refine zv_step (bX0_buildBare (3 * f + 6)) rfl rfl trivial ?_)
    refine zv_ifb (fun h1 => ?_) (fun h1 => ?_)
    · iterate 3 (refine zv_step (bX0_buildBare (3 * f + 6)) rfl rfl trivial ?_)
      refine zv_ifb (fun h2 => ?_) (fun h2 => ?_)
      · obtain ⟨f1, t1, ef, et, hf1, hf2, ht1⟩ := pf_any (a := a) (b := b) (by omega) k
        iterate 4 (refine zv_step (bX0_buildBare (3 * f + 6)) rfl rfl trivial ?_)
        refine zv_S2 (bX0_buildBare (3 * f + 6)) rfl rfl rfl rfl ⟨rfl, rfl, rfl⟩ ⟨by show 0 + 1 ≤ 3 * f + 6; omega, by show 8 + (2 + 11) + 64 * (0) ≤ 64 * (3 * f + 6); omega⟩ ⟨Nat.zero_le _, Nat.zero_le _⟩ (hFrom _ _ _) ?_
        rintro _ _ ⟨rfl, rfl⟩
        iterate 2 (refine zv_step (bX0_buildBare (3 * f + 6)) rfl rfl trivial ?_)
        refine zv_S2 (bX0_buildBare (3 * f + 6)) rfl rfl rfl rfl ⟨rfl, rfl, rfl⟩ ⟨by show 0 + 1 ≤ 3 * f + 6; omega, by show 8 + (2 + 11) + 64 * (0) ≤ 64 * (3 * f + 6); omega⟩ ⟨Nat.zero_le _, Nat.zero_le _⟩ (hTo _ _ _) ?_
        rintro _ _ ⟨rfl, rfl⟩
        iterate 1 (refine zv_step (bX0_buildBare (3 * f + 6)) rfl rfl trivial ?_)
        refine zv_V4 (bX0_buildBare (3 * f + 6)) rfl rfl rfl rfl rfl rfl rfl ⟨rfl, rfl, rfl⟩ ⟨by show 3 * f + 4 + 1 ≤ 3 * f + 6; omega, by show 8 + (14 + 11) + 64 * (3 * f + 4) ≤ 64 * (3 * f + 6); omega⟩ ⟨Nat.zero_le _, Nat.zero_le _⟩ (ih f1 t1 u P _ _ _ ef et (by omega) (by omega) (by omega) hu hp) ?_
        rintro _ _ ⟨u1, P1, R1, rfl, rfl, hX1, hR1, hS1⟩
        have hu1 := hX1.2.1
        have hsum : 1 + szq (P1 (14 + 5)) R1 + szq (P1 (14 + 5)) (Int32.ofInt (-1)) ≤ b - a := by
          rw [szq_m1]
          omega
        iterate 6 (refine zv_step (bX0_buildBare (3 * f + 6)) rfl rfl trivial ?_)
        refine zv_ifb (fun h5 => ?_) (fun h5 => ?_)
        · iterate 3 (refine zv_step (bX0_buildBare (3 * f + 6)) rfl rfl trivial ?_)
          rcases Nat.lt_or_ge u1 120 with hlt | hge
          · refine zv_V4 (bX0_buildBare (3 * f + 6)) rfl rfl rfl rfl rfl rfl rfl ⟨rfl, rfl, rfl⟩ ⟨by show 2 + 1 ≤ 3 * f + 6; omega, by show 8 + (6 + 11) + 64 * (2) ≤ 64 * (3 * f + 6); omega⟩ ⟨Nat.zero_le _, Nat.zero_le _⟩ (pPut14 (upd O 2 (nI u1)) P1 Y g (show (nI u1).toInt ≤ 120 by rw [nI_toInt (by omega)]; omega) hlt rfl _ _ _ _) ?_
            rintro r9 w9 hpo
            obtain ⟨P9, rfl, rfl, hX9, hZ9⟩ := putYes14 hlt hX1.2.2.1 hk ek hR1 (Or.inl rfl) (by omega) hpo
            exact zv_iret (bX0_buildBare (3 * f + 6)) rfl (Or.inl rfl) (Nat.zero_le _) (Nat.zero_le _) ⟨_, P9, _, rfl, rfl, pgX_trans hX1 hX9, Or.inr ⟨_, Nat.lt_succ_self _, rfl⟩, by rw [hZ9]; exact hsum⟩
          · refine zv_V4 (bX0_buildBare (3 * f + 6)) rfl rfl rfl rfl rfl rfl rfl ⟨rfl, rfl, rfl⟩ ⟨by show 2 + 1 ≤ 3 * f + 6; omega, by show 8 + (6 + 11) + 64 * (2) ≤ 64 * (3 * f + 6); omega⟩ ⟨Nat.zero_le _, Nat.zero_le _⟩ (pPutNo14 (upd O 2 (nI u1)) P1 Y g (show 120 ≤ (nI u1).toInt by rw [nI_toInt (by omega)]; omega) _ _ _ _) ?_
            rintro _ _ ⟨rfl, rfl⟩
            exact zv_iret (bX0_buildBare (3 * f + 6)) rfl (Or.inl rfl) (Nat.zero_le _) (Nat.zero_le _) ⟨u1, P1, _, rfl, rfl, hX1, Or.inl rfl, by rw [szq_m1]; omega⟩
        · iterate 3 (refine zv_step (bX0_buildBare (3 * f + 6)) rfl rfl trivial ?_)
          refine zv_iale (bX0_buildBare (3 * f + 6)) rfl rfl (show vp_in (nI a) 20 by exact vp_in_nI (by omega) (by decide)) (show P1 32 (nI a).toNatClampNeg = P1 32 (a) by rw [nI_clamp (by omega)]) ?_
          iterate 3 (refine zv_step (bX0_buildBare (3 * f + 6)) rfl rfl trivial ?_)
          rcases Nat.lt_or_ge u1 120 with hlt | hge
          · refine zv_V4 (bX0_buildBare (3 * f + 6)) rfl rfl rfl rfl rfl rfl rfl ⟨rfl, rfl, rfl⟩ ⟨by show 2 + 1 ≤ 3 * f + 6; omega, by show 8 + (6 + 11) + 64 * (2) ≤ 64 * (3 * f + 6); omega⟩ ⟨Nat.zero_le _, Nat.zero_le _⟩ (pPut14 (upd O 2 (nI u1)) P1 Y g (show (nI u1).toInt ≤ 120 by rw [nI_toInt (by omega)]; omega) hlt rfl _ _ _ _) ?_
            rintro r9 w9 hpo
            obtain ⟨P9, rfl, rfl, hX9, hZ9⟩ := putYes14 hlt hX1.2.2.1 hk ek hR1 (Or.inl rfl) (by omega) hpo
            exact zv_iret (bX0_buildBare (3 * f + 6)) rfl (Or.inl rfl) (Nat.zero_le _) (Nat.zero_le _) ⟨_, P9, _, rfl, rfl, pgX_trans hX1 hX9, Or.inr ⟨_, Nat.lt_succ_self _, rfl⟩, by rw [hZ9]; exact hsum⟩
          · refine zv_V4 (bX0_buildBare (3 * f + 6)) rfl rfl rfl rfl rfl rfl rfl ⟨rfl, rfl, rfl⟩ ⟨by show 2 + 1 ≤ 3 * f + 6; omega, by show 8 + (6 + 11) + 64 * (2) ≤ 64 * (3 * f + 6); omega⟩ ⟨Nat.zero_le _, Nat.zero_le _⟩ (pPutNo14 (upd O 2 (nI u1)) P1 Y g (show 120 ≤ (nI u1).toInt by rw [nI_toInt (by omega)]; omega) _ _ _ _) ?_
            rintro _ _ ⟨rfl, rfl⟩
            exact zv_iret (bX0_buildBare (3 * f + 6)) rfl (Or.inl rfl) (Nat.zero_le _) (Nat.zero_le _) ⟨u1, P1, _, rfl, rfl, hX1, Or.inl rfl, by rw [szq_m1]; omega⟩
      · iterate 5 (refine zv_step (bX0_buildBare (3 * f + 6)) rfl rfl trivial ?_)
        refine zv_V2 (bX0_buildBare (3 * f + 6)) rfl rfl rfl rfl rfl rfl rfl ⟨rfl, rfl, rfl⟩ ⟨by show 0 + 1 ≤ 3 * f + 6; omega, by show 8 + (6 + 11) + 64 * (0) ≤ 64 * (3 * f + 6); omega⟩ ⟨Nat.zero_le _, Nat.zero_le _⟩ (hNum (upd O 2 (nI u)) P Y g hab hb) ?_
        rintro _ _ ⟨rfl, rfl⟩
        have hsum : 1 + szq (P (14 + 5)) (Int32.ofInt (-1)) + szq (P (14 + 5)) (Int32.ofInt (-1)) ≤ b - a := by
          rw [szq_m1]
          omega
        iterate 2 (refine zv_step (bX0_buildBare (3 * f + 6)) rfl rfl trivial ?_)
        rcases Nat.lt_or_ge u 120 with hlt | hge
        · refine zv_V4 (bX0_buildBare (3 * f + 6)) rfl rfl rfl rfl rfl rfl rfl ⟨rfl, rfl, rfl⟩ ⟨by show 2 + 1 ≤ 3 * f + 6; omega, by show 8 + (6 + 11) + 64 * (2) ≤ 64 * (3 * f + 6); omega⟩ ⟨Nat.zero_le _, Nat.zero_le _⟩ (pPut14 (upd O 2 (nI u)) P Y g (show (nI u).toInt ≤ 120 by rw [nI_toInt (by omega)]; omega) hlt rfl _ _ _ _) ?_
          rintro r9 w9 hpo
          obtain ⟨P9, rfl, rfl, hX9, hZ9⟩ := putYes14 hlt hp (show 1 < 10 by decide) rfl (Or.inl rfl) (Or.inl rfl) (by omega) hpo
          exact zv_iret (bX0_buildBare (3 * f + 6)) rfl (Or.inl rfl) (Nat.zero_le _) (Nat.zero_le _) ⟨_, P9, _, rfl, rfl, pgX_trans (pgX_refl hu hp) hX9, Or.inr ⟨_, Nat.lt_succ_self _, rfl⟩, by rw [hZ9]; exact hsum⟩
        · refine zv_V4 (bX0_buildBare (3 * f + 6)) rfl rfl rfl rfl rfl rfl rfl ⟨rfl, rfl, rfl⟩ ⟨by show 2 + 1 ≤ 3 * f + 6; omega, by show 8 + (6 + 11) + 64 * (2) ≤ 64 * (3 * f + 6); omega⟩ ⟨Nat.zero_le _, Nat.zero_le _⟩ (pPutNo14 (upd O 2 (nI u)) P Y g (show 120 ≤ (nI u).toInt by rw [nI_toInt (by omega)]; omega) _ _ _ _) ?_
          rintro _ _ ⟨rfl, rfl⟩
          exact zv_iret (bX0_buildBare (3 * f + 6)) rfl (Or.inl rfl) (Nat.zero_le _) (Nat.zero_le _) ⟨u, P, _, rfl, rfl, (pgX_refl hu hp), Or.inl rfl, by rw [szq_m1]; omega⟩
    · iterate 5 (refine zv_step (bX0_buildBare (3 * f + 6)) rfl rfl trivial ?_)
      refine zv_iale (bX0_buildBare (3 * f + 6)) rfl rfl (show vp_in (nI a) 20 by exact vp_in_nI (by omega) (by decide)) (show P 32 (nI a).toNatClampNeg = P 32 (a) by rw [nI_clamp (by omega)]) ?_
      have hsum : 1 + szq (P (14 + 5)) (Int32.ofInt (-1)) + szq (P (14 + 5)) (Int32.ofInt (-1)) ≤ b - a := by
        rw [szq_m1]
        omega
      iterate 2 (refine zv_step (bX0_buildBare (3 * f + 6)) rfl rfl trivial ?_)
      rcases Nat.lt_or_ge u 120 with hlt | hge
      · refine zv_V4 (bX0_buildBare (3 * f + 6)) rfl rfl rfl rfl rfl rfl rfl ⟨rfl, rfl, rfl⟩ ⟨by show 2 + 1 ≤ 3 * f + 6; omega, by show 8 + (6 + 11) + 64 * (2) ≤ 64 * (3 * f + 6); omega⟩ ⟨Nat.zero_le _, Nat.zero_le _⟩ (pPut14 (upd O 2 (nI u)) P Y g (show (nI u).toInt ≤ 120 by rw [nI_toInt (by omega)]; omega) hlt rfl _ _ _ _) ?_
        rintro r9 w9 hpo
        obtain ⟨P9, rfl, rfl, hX9, hZ9⟩ := putYes14 hlt hp (show 0 < 10 by decide) rfl (Or.inl rfl) (Or.inl rfl) (by omega) hpo
        exact zv_iret (bX0_buildBare (3 * f + 6)) rfl (Or.inl rfl) (Nat.zero_le _) (Nat.zero_le _) ⟨_, P9, _, rfl, rfl, pgX_trans (pgX_refl hu hp) hX9, Or.inr ⟨_, Nat.lt_succ_self _, rfl⟩, by rw [hZ9]; exact hsum⟩
      · refine zv_V4 (bX0_buildBare (3 * f + 6)) rfl rfl rfl rfl rfl rfl rfl ⟨rfl, rfl, rfl⟩ ⟨by show 2 + 1 ≤ 3 * f + 6; omega, by show 8 + (6 + 11) + 64 * (2) ≤ 64 * (3 * f + 6); omega⟩ ⟨Nat.zero_le _, Nat.zero_le _⟩ (pPutNo14 (upd O 2 (nI u)) P Y g (show 120 ≤ (nI u).toInt by rw [nI_toInt (by omega)]; omega) _ _ _ _) ?_
        rintro _ _ ⟨rfl, rfl⟩
        exact zv_iret (bX0_buildBare (3 * f + 6)) rfl (Or.inl rfl) (Nat.zero_le _) (Nat.zero_le _) ⟨u, P, _, rfl, rfl, (pgX_refl hu hp), Or.inl rfl, by rw [szq_m1]; omega⟩
set_option maxHeartbeats 1000000 in
set_option maxRecDepth 20000 in
theorem hBSL14 (O : Nat → Int32) (Y : Nat → Nat → Int64) (g : Nat → zC) (hY : wyI Y) {u : Nat} {P : Nat → Nat → Int32} (hu : u ≤ 120) (hp : pgB 14 u P) {a b : Nat} (hab : a < b) (hb : b ≤ 20) {f : Nat} (ih : ∀ (a b u : Nat) (P : Nat → Nat → Int32) (x y : Int32) (k : Int64), x = nI a → y = nI b → a ≤ 30 → b ≤ 20 → b - a ≤ f → u ≤ 120 → pgB 14 u P → zK (3 * f + 4) zX0_buildSpan [.ref 31, .ref 14, .int x, .int y, .long k] (wX (upd O 2 (nI u)) P Y g) (fun r w' => ∃ (u' : Nat) (P' : Nat → Nat → Int32) (R : Int32), r = some (.int R) ∧ w' = wX (upd O 2 (nI u')) P' Y g ∧ pgX 14 u P u' P' ∧ okp u' R ∧ szq (P' (14 + 5)) R ≤ b - a)) (hf : b - a ≤ f + 1) (kk : Int64) {e : Int32} (he : e = 0 ∨ 2 < b - a) {n0 : Nat} : ∀ (c q : Nat), q + c = 10 → ∀ {x9 : Int32} {s : Int64}, x9 = nI q → zV (zMo (3 * (f + 1) + 4) zX0_buildSpan) false n0 0 0 22 [(9, .int (x9)), (8, .int e), (6, .long (s)), (0, .ref 31), (1, .ref 14), (2, .int (nI a)), (3, .int (nI b)), (4, .long kk)] [] (wX (upd O 2 (nI u)) P Y g) (fun r w' => ∃ (u' : Nat) (P' : Nat → Nat → Int32) (R : Int32), r = some (.int R) ∧ w' = wX (upd O 2 (nI u')) P' Y g ∧ pgX 14 u P u' P' ∧ okp u' R ∧ szq (P' (14 + 5)) R ≤ b - a) := by
  intro c
  induction c with
  | zero =>
    intro q hc x9 s e6
    subst e6
    iterate 3 (refine zv_step (bX0_buildSpan (3 * (f + 1) + 4)) rfl rfl trivial ?_)
    refine zv_ift (show c8 9 < nI q by rw [show c8 9 = nI 9 from rfl]; exact nI_lt (by omega) (by omega)) ?_
    iterate 1 (refine zv_step (bX0_buildSpan (3 * (f + 1) + 4)) rfl rfl trivial ?_)
    exact zv_iret (bX0_buildSpan (3 * (f + 1) + 4)) rfl (Or.inl rfl) (Nat.zero_le _) (Nat.zero_le _) ⟨u, P, _, rfl, rfl, pgX_refl hu hp, Or.inl rfl, by rw [szq_m1]; omega⟩
  | succ c ih2 =>
    intro q hc x9 s e6
    subst e6
    iterate 3 (refine zv_step (bX0_buildSpan (3 * (f + 1) + 4)) rfl rfl trivial ?_)
    refine zv_iff (show ¬ c8 9 < nI q by rw [show c8 9 = nI 9 from rfl]; exact nI_nlt (by omega) (by omega)) ?_
    iterate 9 (refine zv_step (bX0_buildSpan (3 * (f + 1) + 4)) rfl rfl trivial ?_)
    refine zv_V3 (bX0_buildSpan (3 * (f + 1) + 4)) rfl rfl rfl rfl rfl rfl rfl ⟨rfl, rfl, rfl⟩ ⟨by show 2 + 1 ≤ 3 * (f + 1) + 4; omega, by show 8 + (8 + 11) + 64 * (2) ≤ 64 * (3 * (f + 1) + 4); omega⟩ ⟨Nat.zero_le _, Nat.zero_le _⟩ (hBare (upd O 2 (nI u)) P Y g hab hb rfl rfl _) ?_
    rintro _ _ ⟨rfl, v1, rfl, hv1⟩
    iterate 5 (refine zv_step (bX0_buildSpan (3 * (f + 1) + 4)) rfl rfl trivial ?_)
    refine zv_ifb (fun h1 => ?_) (fun h1 => ?_)
    · iterate 6 (refine zv_step (bX0_buildSpan (3 * (f + 1) + 4)) rfl rfl trivial ?_)
      refine zv_ifb (fun hz => ?_) (fun hz => ?_)
      · iterate 6 (refine zv_step (bX0_buildSpan (3 * (f + 1) + 4)) rfl rfl trivial ?_)
        refine zv_ift (cmp_sub (hv1 hY) h1) ?_
        iterate 6 (refine zv_step (bX0_buildSpan (3 * (f + 1) + 4)) rfl rfl trivial ?_)
        refine zv_locals (l := [(9, .int (nI q + Int32.ofInt 1)), (6, .long (s - v1 - Int64.ofInt 0)), (12, .long (Int64.ofInt 0)), (10, .long v1), (8, .int e), (0, .ref 31), (1, .ref 14), (2, .int (nI a)), (3, .int (nI b)), (4, .long kk)]) (l' := [(9, .int (nI q + Int32.ofInt 1)), (8, .int e), (6, .long (s - v1 - Int64.ofInt 0)), (0, .ref 31), (1, .ref 14), (2, .int (nI a)), (3, .int (nI b)), (4, .long kk)]) ?_ (ih2 (q + 1) (by omega) (nI_1 q))
        simp
      · have h3 : 2 < b - a := he.resolve_left hz
        iterate 13 (refine zv_step (bX0_buildSpan (3 * (f + 1) + 4)) rfl rfl trivial ?_)
        refine zv_V3 (bX0_buildSpan (3 * (f + 1) + 4)) rfl rfl rfl rfl rfl rfl rfl ⟨rfl, rfl, rfl⟩ ⟨by show 2 + 1 ≤ 3 * (f + 1) + 4; omega, by show 8 + (8 + 11) + 64 * (2) ≤ 64 * (3 * (f + 1) + 4); omega⟩ ⟨Nat.zero_le _, Nat.zero_le _⟩ (hBare (upd O 2 (nI u)) P Y g (a := a + 1) (b := b - 1) (by omega) (by omega) (nI_1 a) (sub_1 (by omega)) _) ?_
        rintro _ _ ⟨rfl, v2, rfl, hv2⟩
        iterate 6 (refine zv_step (bX0_buildSpan (3 * (f + 1) + 4)) rfl rfl trivial ?_)
        refine zv_ifb (fun h4 => ?_) (fun h4 => ?_)
        · iterate 6 (refine zv_step (bX0_buildSpan (3 * (f + 1) + 4)) rfl rfl trivial ?_)
          refine zv_locals (l := [(9, .int (nI q + Int32.ofInt 1)), (6, .long (s - v1 - v2)), (12, .long (v2)), (10, .long v1), (8, .int e), (0, .ref 31), (1, .ref 14), (2, .int (nI a)), (3, .int (nI b)), (4, .long kk)]) (l' := [(9, .int (nI q + Int32.ofInt 1)), (8, .int e), (6, .long (s - v1 - v2)), (0, .ref 31), (1, .ref 14), (2, .int (nI a)), (3, .int (nI b)), (4, .long kk)]) ?_ (ih2 (q + 1) (by omega) (nI_1 q))
          simp
        · iterate 10 (refine zv_step (bX0_buildSpan (3 * (f + 1) + 4)) rfl rfl trivial ?_)
          refine zv_V5 (bX0_buildSpan (3 * (f + 1) + 4)) rfl rfl rfl rfl rfl rfl rfl ⟨rfl, rfl, rfl⟩ ⟨by show 3 * f + 6 + 1 ≤ 3 * (f + 1) + 4; omega, by show 8 + (8 + 11) + 64 * (3 * f + 6) ≤ 64 * (3 * (f + 1) + 4); omega⟩ ⟨Nat.zero_le _, Nat.zero_le _⟩ (hBB14 O Y g hu hp (a := a + 1) (b := b - 1) (by omega) (by omega) ih (by omega) (kn := q) (by omega) rfl _ (nI_1 a) (sub_1 (by omega))) ?_
          rintro _ _ ⟨u1, P1, R1, rfl, rfl, q1, q2, q3⟩
          exact zv_iret (bX0_buildSpan (3 * (f + 1) + 4)) rfl (Or.inl rfl) (Nat.zero_le _) (Nat.zero_le _) ⟨u1, P1, R1, rfl, rfl, q1, q2, by omega⟩
    · iterate 6 (refine zv_step (bX0_buildSpan (3 * (f + 1) + 4)) rfl rfl trivial ?_)
      refine zv_V5 (bX0_buildSpan (3 * (f + 1) + 4)) rfl rfl rfl rfl rfl rfl rfl ⟨rfl, rfl, rfl⟩ ⟨by show 3 * f + 6 + 1 ≤ 3 * (f + 1) + 4; omega, by show 8 + (8 + 11) + 64 * (3 * f + 6) ≤ 64 * (3 * (f + 1) + 4); omega⟩ ⟨Nat.zero_le _, Nat.zero_le _⟩ (hBB14 O Y g hu hp hab hb ih (by omega) (kn := q) (by omega) rfl _ rfl rfl) ?_
      rintro _ _ ⟨u1, P1, R1, rfl, rfl, q1, q2, q3⟩
      exact zv_iret (bX0_buildSpan (3 * (f + 1) + 4)) rfl (Or.inl rfl) (Nat.zero_le _) (Nat.zero_le _) ⟨u1, P1, R1, rfl, rfl, q1, q2, q3⟩
set_option maxHeartbeats 1000000 in
set_option maxRecDepth 20000 in
theorem hBS14 (O : Nat → Int32) (Y : Nat → Nat → Int64) (g : Nat → zC) (hY : wyI Y) : ∀ (f a b u : Nat) (P : Nat → Nat → Int32) (x y : Int32) (k : Int64), x = nI a → y = nI b → a ≤ 30 → b ≤ 20 → b - a ≤ f → u ≤ 120 → pgB 14 u P → zK (3 * f + 4) zX0_buildSpan [.ref 31, .ref 14, .int x, .int y, .long k] (wX (upd O 2 (nI u)) P Y g) (fun r w' => ∃ (u' : Nat) (P' : Nat → Nat → Int32) (R : Int32), r = some (.int R) ∧ w' = wX (upd O 2 (nI u')) P' Y g ∧ pgX 14 u P u' P' ∧ okp u' R ∧ szq (P' (14 + 5)) R ≤ b - a) := by
  intro f
  induction f with
  | zero =>
    intro a b u P x y k ex ey ha hb hf hu hp
    subst ex ey
    refine zK_of qX0_buildSpan (by decide +kernel) rfl ?_
    iterate 3 (refine zv_step (bX0_buildSpan (3 * 0 + 4)) rfl rfl trivial ?_)
    refine zv_iff (nI_nlt (by omega) (by omega)) ?_
    iterate 1 (refine zv_step (bX0_buildSpan (3 * 0 + 4)) rfl rfl trivial ?_)
    exact zv_iret (bX0_buildSpan (3 * 0 + 4)) rfl (Or.inl rfl) (Nat.zero_le _) (Nat.zero_le _) ⟨u, P, _, rfl, rfl, pgX_refl hu hp, Or.inl rfl, by rw [szq_m1]; omega⟩
  | succ f ih =>
    intro a b u P x y k ex ey ha hb hf hu hp
    subst ex ey
    refine zK_of qX0_buildSpan (by decide +kernel) rfl ?_
    iterate 3 (refine zv_step (bX0_buildSpan (3 * (f + 1) + 4)) rfl rfl trivial ?_)
    refine zv_ifb (fun hq => ?_) (fun hq => ?_)
    · have hq : nI a < nI b := hq
      rw [nI_ltI (by omega) (by omega)] at hq
      have hab : a < b := hq
      iterate 5 (refine zv_step (bX0_buildSpan (3 * (f + 1) + 4)) rfl rfl trivial ?_)
      refine zv_V2 (bX0_buildSpan (3 * (f + 1) + 4)) rfl rfl rfl rfl rfl rfl rfl ⟨rfl, rfl, rfl⟩ ⟨by show 0 + 1 ≤ 3 * (f + 1) + 4; omega, by show 8 + (3 + 11) + 64 * (0) ≤ 64 * (3 * (f + 1) + 4); omega⟩ ⟨Nat.zero_le _, Nat.zero_le _⟩ (hBr (upd O 2 (nI u)) P Y g hab hb) ?_
      rintro _ _ ⟨rfl, ⟨hh, rfl⟩ | ⟨hh, rfl⟩⟩
      · iterate 3 (refine zv_step (bX0_buildSpan (3 * (f + 1) + 4)) rfl rfl trivial ?_)
        exact hBSL14 O Y g hY hu hp hab hb ih hf _ (Or.inr hh.1) 10 0 rfl rfl
      · iterate 3 (refine zv_step (bX0_buildSpan (3 * (f + 1) + 4)) rfl rfl trivial ?_)
        exact hBSL14 O Y g hY hu hp hab hb ih hf _ (Or.inl rfl) 10 0 rfl rfl
    · iterate 1 (refine zv_step (bX0_buildSpan (3 * (f + 1) + 4)) rfl rfl trivial ?_)
      exact zv_iret (bX0_buildSpan (3 * (f + 1) + 4)) rfl (Or.inl rfl) (Nat.zero_le _) (Nat.zero_le _) ⟨u, P, _, rfl, rfl, pgX_refl hu hp, Or.inl rfl, by rw [szq_m1]; omega⟩
set_option maxHeartbeats 1000000 in
set_option maxRecDepth 20000 in
theorem hBuild14 (O : Nat → Int32) (Y : Nat → Nat → Int64) (g : Nat → zC) (hY : wyI Y) {u : Nat} {P : Nat → Nat → Int32} (hu : u ≤ 120) (hp : pgB 14 u P) {l : Nat} (hl : l ≤ 20) (hO : O 9 = nI l) (k : Int64) : zK 65 zX0_build [.ref 31, .ref 14, .long k] (wX (upd O 2 (nI u)) P Y g) (fun r w' => ∃ (u' : Nat) (P' : Nat → Nat → Int32) (R : Int32), r = some (.int R) ∧ w' = wX (upd O 2 (nI u')) P' Y g ∧ pgX 14 u P u' P' ∧ okp u' R ∧ szq (P' (14 + 5)) R ≤ l) := by
  refine zK_of qX0_build (by decide +kernel) rfl ?_
  iterate 6 (refine zv_step (bX0_build 65) rfl rfl trivial ?_)
  refine zv_V4 (bX0_build 65) rfl rfl rfl rfl rfl rfl rfl ⟨rfl, rfl, rfl⟩ ⟨by decide, by decide⟩ ⟨Nat.zero_le _, Nat.zero_le _⟩ (hBS14 O Y g hY 20 0 l u P _ _ k rfl hO (by omega) (by omega) (by omega) hu hp) ?_
  rintro _ _ ⟨u1, P1, R1, rfl, rfl, q1, q2, q3⟩
  exact zv_iret (bX0_build 65) rfl (Or.inl rfl) (Nat.zero_le _) (Nat.zero_le _) ⟨u1, P1, R1, rfl, rfl, q1, q2, q3⟩
end
