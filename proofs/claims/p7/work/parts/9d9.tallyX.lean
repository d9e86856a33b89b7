/-- the words of THE EAR, the letters that are FUNCTIONS and a set of KINDS, as the class holds them -/
def eaR (n : Nat) (P : Nat → Nat → Int32) (E : Nat → Nat) : Prop := ∀ i, i < n → P 32 i = nI (E i) ∧ E i ≤ 31
def gfR (x : Int32) (G : Nat → Int32) : Prop := ∀ v, v < 10 → (hbW x (nI v) = 0 ↔ G v = 0)
def kdR (x : Int32) (K : Nat → Bool) : Prop := ∀ k, k < 10 → (hbW x (nI k) = 0 ↔ K k = false)
theorem hb_0 : ∀ k, k < 10 → hbW 0 (nI k) = 0 := by decide +kernel
theorem kS_f {K : Nat → Bool} {w : Nat → Nat} (h : ∀ k, k < 10 → K k = false) : ∀ c, c ≤ 10 → kS K w c = 0
  | 0, _ => rfl
  | c + 1, hc => by
    show kS K w c + _ = 0
    rw [kS_f h c (by omega), h c (by omega)]
    rfl
theorem dg_lo : ∀ e, e < 10 → nI e - c8 10 < 0 := by decide +kernel
theorem dg_ok : ∀ e, e ≤ 31 → 10 ≤ e → (¬ nI e - c8 10 < 0 ∧ (nI e - c8 10 ≤ c8 9 ↔ e ≤ 19)) := by decide +kernel
theorem nvN_lt {E : Nat → Nat} : ∀ (c m t : Nat), numAll E c m = true → nvN E c m t < (t + 1) * 10 ^ c
  | 0, m, t, _ => by show t < (t + 1) * 1; omega
  | c + 1, m, t, h => by
    have h' : ((decide (10 ≤ E m) && decide (E m ≤ 19)) && numAll E c (m + 1)) = true := h
    simp only [Bool.and_eq_true, decide_eq_true_eq] at h'
    have ih := nvN_lt c (m + 1) (10 * t + E m - 10) h'.2
    show nvN E c (m + 1) (10 * t + E m - 10) < _
    have e : (t + 1) * 10 ^ (c + 1) = (10 * t + 10) * 10 ^ c := by
      rw [Nat.pow_succ, Nat.mul_comm (10 ^ c) 10, ← Nat.mul_assoc]
      congr 1
      omega
    rw [e]
    exact Nat.lt_of_lt_of_le ih (Nat.mul_le_mul_right _ (by omega))
theorem nmL_num {P : Nat → Nat → Int32} {n : Nat} {E : Nat → Nat} (hE : eaR n P E) : ∀ (c m t : Nat), m + c ≤ n → nmL (P 32) c m (nI t) = if numAll E c m = true then nI (nvN E c m t) else Int32.ofInt (-1)
  | 0, m, t, _ => by
    show nI t = if true = true then _ else _
    rw [if_pos rfl]
    rfl
  | c + 1, m, t, hm => by
    obtain ⟨e1, e2⟩ := hE m (by omega)
    have hN : numAll E (c + 1) m = ((decide (10 ≤ E m) && decide (E m ≤ 19)) && numAll E c (m + 1)) := rfl
    rw [nmL_s, e1, hN]
    rcases Nat.lt_or_ge (E m) 10 with h | h
    · rw [if_pos (dg_lo (E m) h)]
      simp [show ¬ 10 ≤ E m by omega]
    · obtain ⟨g1, g2⟩ := dg_ok (E m) e2 h
      rw [if_neg g1]
      by_cases h9 : E m ≤ 19
      · rw [if_pos (g2.mpr h9)]
        have e9 : nI t * c8 10 + (nI (E m) - c8 10) = nI (10 * t + E m - 10) := by
          rw [show c8 10 = nI 10 from rfl, nI_mul, nI_sub h, nI_add]
          congr 1
          omega
        rw [e9, nmL_num hE c (m + 1) _ (by omega)]
        simp [h, h9]
        rfl
      · rw [if_neg (fun q => h9 (g2.mp q))]
        simp [h9]
theorem nmW_num {P : Nat → Nat → Int32} {n : Nat} {E : Nat → Nat} (hE : eaR n P E) {a b : Nat} (hab : a < b) (hb : b ≤ n) : nmW (P 32) a b = if isNumB E a b = true then nI (nvN E (b - a) a 0) else Int32.ofInt (-1) := by
  obtain ⟨e1, e2⟩ := hE a (by omega)
  have h10 : P 32 a = c8 10 ↔ E a = 10 := by
    rw [e1]
    exact nI_eq (a := E a) (b := 10) (by omega) (by decide)
  unfold nmW isNumB
  by_cases h : 4 < b - a ∨ (1 < b - a ∧ P 32 a = c8 10)
  · rw [if_pos h, if_neg]
    intro q
    simp only [Bool.and_eq_true, Bool.or_eq_true, decide_eq_true_eq] at q
    rcases h with h | ⟨h1, h2⟩
    · omega
    · have := h10.mp h2
      omega
  · rw [if_neg h]
    have := nmL_num hE (b - a) a 0 (by omega)
    rw [show nI 0 = Int32.ofInt 0 from rfl] at this
    rw [this]
    have h4 : b - a ≤ 4 := by omega
    have h5 : E a ≠ 10 ∨ b - a = 1 := by
      by_cases e : E a = 10
      · right
        have := h10.mpr e
        have : ¬ (1 < b - a) := fun q => h (Or.inr ⟨q, this⟩)
        omega
      · exact Or.inl e
    have : (decide (b - a ≤ 4) && (decide (E a ≠ 10) || decide (b - a = 1))) = true := by
      simp only [Bool.and_eq_true, Bool.or_eq_true, decide_eq_true_eq]
      exact ⟨h4, h5⟩
    rw [this, Bool.true_and]
theorem nv_sm {E : Nat → Nat} {a b : Nat} (h : isNumB E a b = true) : nvN E (b - a) a 0 < 10000 := by
  have h1 := (isNumB_at h).1
  unfold isNumB at h
  simp only [Bool.and_eq_true] at h
  have h2 := nvN_lt (b - a) a 0 h.2
  have h3 : 10 ^ (b - a) ≤ 10 ^ 4 := Nat.pow_le_pow_right (by decide) h1
  omega
def keI (k : Nat) : Int32 := if k = 10 then Int32.ofInt (-1) else nI k
theorem nI_m1' {v : Nat} (h : v < 2 ^ 31) : ¬ nI v = Int32.ofInt (-1) := fun e => by
  have := congrArg Int32.toInt e
  rw [nI_toInt h] at this
  have e2 : (Int32.ofInt (-1)).toInt = -1 := by decide
  omega
set_option maxHeartbeats 1000000 in
set_option maxRecDepth 20000 in
theorem hKeX (O : Nat → Int32) (P : Nat → Nat → Int32) (Y : Nat → Nat → Int64) (g : Nat → zC) {n : Nat} {E : Nat → Nat} (hE : eaR n P E) {G : Nat → Int32} (hG : gfR (O 12) G) {a b : Nat} (hab : a < b) (hb : b ≤ n) (hn : n ≤ 20) : zK 1 zX0_kindByEnds [.ref 31, .int (nI a), .int (nI b)] (wX O P Y g) (fun r w' => w' = wX O P Y g ∧ r = some (.int (keI (keV E G a b)))) := by
  have e31 := (hE a (by omega)).2
  refine zK_of qX0_kindByEnds (by decide +kernel) rfl ?_
  iterate 3 (refine zv_step (bX0_kindByEnds 1) rfl rfl trivial ?_)
  refine zv_iale (bX0_kindByEnds 1) rfl rfl (show vp_in (nI a) 20 by exact vp_in_nI (by omega) (by decide)) (show P 32 (nI a).toNatClampNeg = nI (E (a)) by rw [nI_clamp (by omega)]; exact (hE (a) (by omega)).1) ?_
  iterate 4 (refine zv_step (bX0_kindByEnds 1) rfl rfl trivial ?_)
  refine zv_ifb (fun h10 => ?_) (fun h10 => ?_)
  · have q10 : ¬ E a < 10 := by
      have h9 : 10 ≤ E a := (nI_leI (a := 10) (by decide) (by omega)).mp h10
      omega
    iterate 3 (refine zv_step (bX0_kindByEnds 1) rfl rfl trivial ?_)
    refine zv_ifb (fun h71 => ?_) (fun h71 => ?_)
    · have q71 : ¬ E (a) = 25 := fun e => h71 (show nI (E (a)) = nI 25 by rw [e])
      iterate 3 (refine zv_step (bX0_kindByEnds 1) rfl rfl trivial ?_)
      refine zv_ifb (fun h91 => ?_) (fun h91 => ?_)
      · have q91 : ¬ E (a) = 26 := fun e => h91 (show nI (E (a)) = nI 26 by rw [e])
        iterate 3 (refine zv_step (bX0_kindByEnds 1) rfl rfl trivial ?_)
        refine zv_V2 (bX0_kindByEnds 1) rfl rfl rfl rfl rfl rfl rfl ⟨rfl, rfl, rfl⟩ ⟨by decide, by decide⟩ ⟨Nat.zero_le _, Nat.zero_le _⟩ (hNum O P Y g hab (by omega)) ?_
        rintro _ _ ⟨rfl, rfl⟩
        iterate 2 (refine zv_step (bX0_kindByEnds 1) rfl rfl trivial ?_)
        refine zv_ifb (fun h128 => ?_) (fun h128 => ?_)
        · have q128 : isNumB E a b = true := by
            have h9 : ¬ nmW (P 32) a b = Int32.ofInt (-1) := h128
            rw [nmW_num hE hab hb] at h9
            exact Decidable.byContradiction (fun e => h9 (if_neg e))
          iterate 1 (refine zv_step (bX0_kindByEnds 1) rfl rfl trivial ?_)
          exact zv_iret (bX0_kindByEnds 1) rfl (Or.inl rfl) (Nat.zero_le _) (Nat.zero_le _) ⟨rfl, congrArg (fun v => some (Value.int v)) (by unfold keV keI; rw [if_neg q10, if_neg q71, if_neg q91, if_pos q128]; rfl)⟩
        · have q128 : ¬ isNumB E a b = true := fun e => by
            have h9 : nmW (P 32) a b = Int32.ofInt (-1) := Decidable.not_not.mp h128
            rw [nmW_num hE hab hb, if_pos e] at h9
            exact nI_m1' (by have := nv_sm e; omega) h9
          iterate 2 (refine zv_step (bX0_kindByEnds 1) rfl rfl trivial ?_)
          exact zv_iret (bX0_kindByEnds 1) rfl (Or.inl rfl) (Nat.zero_le _) (Nat.zero_le _) ⟨rfl, congrArg (fun v => some (Value.int v)) (by unfold keV keI; rw [if_neg q10, if_neg q71, if_neg q91, if_neg q128]; rfl)⟩
      · have q91 : E (a) = 26 := (nI_eq (b := 26) (by have := (hE (a) (by omega)).2; omega) (by decide)).mp (Decidable.not_not.mp h91)
        iterate 5 (refine zv_step (bX0_kindByEnds 1) rfl rfl trivial ?_)
        refine zv_ifb (fun h98 => ?_) (fun h98 => ?_)
        · have q98 : b - a ≤ 2 := (sub_le (n := 2) (by omega) (by omega) (by decide)).mp h98
          iterate 1 (refine zv_step (bX0_kindByEnds 1) rfl rfl trivial ?_)
          exact zv_iret (bX0_kindByEnds 1) rfl (Or.inl rfl) (Nat.zero_le _) (Nat.zero_le _) ⟨rfl, congrArg (fun v => some (Value.int v)) (by unfold keV keI; rw [if_neg q10, if_neg q71, if_pos q91, if_neg (show ¬ (2 < b - a ∧ E (b - 1) = 27) from fun q => by omega)]; rfl)⟩
        · have q98 : ¬ b - a ≤ 2 := fun e => h98 ((sub_le (n := 2) (by omega) (by omega) (by decide)).mpr e)
          iterate 5 (refine zv_step (bX0_kindByEnds 1) rfl rfl trivial ?_)
          refine zv_iale (bX0_kindByEnds 1) rfl rfl (show vp_in (nI b - Int32.ofInt 1) 20 by rw [sub_1 (by omega)]; exact vp_in_nI (by omega) (by decide)) (show P 32 (nI b - Int32.ofInt 1).toNatClampNeg = nI (E (b - 1)) by rw [sub_1 (by omega), nI_clamp (by omega)]; exact (hE (b - 1) (by omega)).1) ?_
          iterate 2 (refine zv_step (bX0_kindByEnds 1) rfl rfl trivial ?_)
          refine zv_ifb (fun h111 => ?_) (fun h111 => ?_)
          · have q111 : ¬ E (b - 1) = 27 := fun e => h111 (show nI (E (b - 1)) = nI 27 by rw [e])
            iterate 1 (refine zv_step (bX0_kindByEnds 1) rfl rfl trivial ?_)
            exact zv_iret (bX0_kindByEnds 1) rfl (Or.inl rfl) (Nat.zero_le _) (Nat.zero_le _) ⟨rfl, congrArg (fun v => some (Value.int v)) (by unfold keV keI; rw [if_neg q10, if_neg q71, if_pos q91, if_neg (show ¬ (2 < b - a ∧ E (b - 1) = 27) from fun q => q111 q.2)]; rfl)⟩
          · have q111 : E (b - 1) = 27 := (nI_eq (b := 27) (by have := (hE (b - 1) (by omega)).2; omega) (by decide)).mp (Decidable.not_not.mp h111)
            iterate 2 (refine zv_step (bX0_kindByEnds 1) rfl rfl trivial ?_)
            exact zv_iret (bX0_kindByEnds 1) rfl (Or.inl rfl) (Nat.zero_le _) (Nat.zero_le _) ⟨rfl, congrArg (fun v => some (Value.int v)) (by unfold keV keI; rw [if_neg q10, if_neg q71, if_pos q91, if_pos (show 2 < b - a ∧ E (b - 1) = 27 from ⟨by omega, q111⟩)]; rfl)⟩
    · have q71 : E (a) = 25 := (nI_eq (b := 25) (by have := (hE (a) (by omega)).2; omega) (by decide)).mp (Decidable.not_not.mp h71)
      iterate 5 (refine zv_step (bX0_kindByEnds 1) rfl rfl trivial ?_)
      refine zv_ifb (fun h78 => ?_) (fun h78 => ?_)
      · have q78 : b - a ≤ 1 := (sub_le (n := 1) (by omega) (by omega) (by decide)).mp h78
        iterate 1 (refine zv_step (bX0_kindByEnds 1) rfl rfl trivial ?_)
        exact zv_iret (bX0_kindByEnds 1) rfl (Or.inl rfl) (Nat.zero_le _) (Nat.zero_le _) ⟨rfl, congrArg (fun v => some (Value.int v)) (by unfold keV keI; rw [if_neg q10, if_pos q71, if_neg (show ¬ 1 < b - a by omega)]; rfl)⟩
      · have q78 : ¬ b - a ≤ 1 := fun e => h78 ((sub_le (n := 1) (by omega) (by omega) (by decide)).mpr e)
        iterate 2 (refine zv_step (bX0_kindByEnds 1) rfl rfl trivial ?_)
        exact zv_iret (bX0_kindByEnds 1) rfl (Or.inl rfl) (Nat.zero_le _) (Nat.zero_le _) ⟨rfl, congrArg (fun v => some (Value.int v)) (by unfold keV keI; rw [if_neg q10, if_pos q71, if_pos (show 1 < b - a by omega)]; rfl)⟩
  · have q10 : E a < 10 := by
      have h9 : ¬ 10 ≤ E a := fun e => h10 ((nI_leI (a := 10) (by decide) (by omega)).mpr e)
      omega
    iterate 3 (refine zv_step (bX0_kindByEnds 1) rfl rfl trivial ?_)
    refine zv_S2 (bX0_kindByEnds 1) rfl rfl rfl rfl ⟨rfl, rfl, rfl⟩ ⟨by decide, by decide⟩ ⟨Nat.zero_le _, Nat.zero_le _⟩ (pHasBitW _ _ _) ?_
    rintro _ _ ⟨rfl, rfl⟩
    iterate 3 (refine zv_step (bX0_kindByEnds 1) rfl rfl trivial ?_)
    refine zv_ifb (fun h25 => ?_) (fun h25 => ?_)
    · have q25 : G (E a) = 0 := (hG _ q10).mp h25
      iterate 5 (refine zv_step (bX0_kindByEnds 1) rfl rfl trivial ?_)
      refine zv_ifb (fun h59 => ?_) (fun h59 => ?_)
      · have q59 : ¬ b - a = 1 := fun e => h59 (show nI b - nI a = nI 1 by rw [nI_sub (by omega), e])
        iterate 1 (refine zv_step (bX0_kindByEnds 1) rfl rfl trivial ?_)
        exact zv_iret (bX0_kindByEnds 1) rfl (Or.inl rfl) (Nat.zero_le _) (Nat.zero_le _) ⟨rfl, congrArg (fun v => some (Value.int v)) (by unfold keV keI; rw [if_pos q10, if_pos q25, if_neg q59]; rfl)⟩
      · have q59 : b - a = 1 := (nI_eq (b := 1) (by omega) (by decide)).mp (show nI (b - a) = nI 1 by rw [← nI_sub (by omega)]; exact Decidable.not_not.mp h59)
        iterate 2 (refine zv_step (bX0_kindByEnds 1) rfl rfl trivial ?_)
        exact zv_iret (bX0_kindByEnds 1) rfl (Or.inl rfl) (Nat.zero_le _) (Nat.zero_le _) ⟨rfl, congrArg (fun v => some (Value.int v)) (by unfold keV keI; rw [if_pos q10, if_pos q25, if_pos q59]; rfl)⟩
    · have q25 : ¬ G (E a) = 0 := fun e => h25 ((hG _ q10).mpr e)
      iterate 5 (refine zv_step (bX0_kindByEnds 1) rfl rfl trivial ?_)
      refine zv_ifb (fun h32 => ?_) (fun h32 => ?_)
      · have q32 : b - a ≤ 2 := (sub_le (n := 2) (by omega) (by omega) (by decide)).mp h32
        iterate 1 (refine zv_step (bX0_kindByEnds 1) rfl rfl trivial ?_)
        exact zv_iret (bX0_kindByEnds 1) rfl (Or.inl rfl) (Nat.zero_le _) (Nat.zero_le _) ⟨rfl, congrArg (fun v => some (Value.int v)) (by unfold keV keI; rw [if_pos q10, if_neg q25, if_neg (show ¬ (2 < b - a ∧ E (a + 1) = 28) from fun q => by omega)]; rfl)⟩
      · have q32 : ¬ b - a ≤ 2 := fun e => h32 ((sub_le (n := 2) (by omega) (by omega) (by decide)).mpr e)
        iterate 5 (refine zv_step (bX0_kindByEnds 1) rfl rfl trivial ?_)
        refine zv_iale (bX0_kindByEnds 1) rfl rfl (show vp_in (nI a + Int32.ofInt 1) 20 by rw [show nI a + Int32.ofInt 1 = nI (a + 1) from nI_1 a]; exact vp_in_nI (by omega) (by decide)) (show P 32 (nI a + Int32.ofInt 1).toNatClampNeg = nI (E (a + 1)) by rw [show nI a + Int32.ofInt 1 = nI (a + 1) from nI_1 a, nI_clamp (by omega)]; exact (hE (a + 1) (by omega)).1) ?_
        iterate 2 (refine zv_step (bX0_kindByEnds 1) rfl rfl trivial ?_)
        refine zv_ifb (fun h45 => ?_) (fun h45 => ?_)
        · have q45 : ¬ E (a + 1) = 28 := fun e => h45 (show nI (E (a + 1)) = nI 28 by rw [e])
          iterate 1 (refine zv_step (bX0_kindByEnds 1) rfl rfl trivial ?_)
          exact zv_iret (bX0_kindByEnds 1) rfl (Or.inl rfl) (Nat.zero_le _) (Nat.zero_le _) ⟨rfl, congrArg (fun v => some (Value.int v)) (by unfold keV keI; rw [if_pos q10, if_neg q25, if_neg (show ¬ (2 < b - a ∧ E (a + 1) = 28) from fun q => q45 q.2)]; rfl)⟩
        · have q45 : E (a + 1) = 28 := (nI_eq (b := 28) (by have := (hE (a + 1) (by omega)).2; omega) (by decide)).mp (Decidable.not_not.mp h45)
          iterate 2 (refine zv_step (bX0_kindByEnds 1) rfl rfl trivial ?_)
          exact zv_iret (bX0_kindByEnds 1) rfl (Or.inl rfl) (Nat.zero_le _) (Nat.zero_le _) ⟨rfl, congrArg (fun v => some (Value.int v)) (by unfold keV keI; rw [if_pos q10, if_neg q25, if_pos (show 2 < b - a ∧ E (a + 1) = 28 from ⟨by omega, q45⟩)]; rfl)⟩
theorem keI_m {k : Nat} (hk : k ≤ 10) : keI k = Int32.ofInt (-1) ↔ k = 10 := by
  unfold keI
  by_cases h : k = 10
  · rw [if_pos h]
    exact ⟨fun _ => h, fun _ => rfl⟩
  · rw [if_neg h]
    exact ⟨fun e => absurd e (nI_m1' (by omega)), fun e => absurd e h⟩
theorem keI_n {k : Nat} (hk : ¬ k = 10) : keI k = nI k := if_neg hk
theorem pf_N {k a : Nat} (hk : k < 10) : pfW (nI k) (nI a) = nI (pfN k a) := by
  unfold pfW pfN
  by_cases h : k = 9
  · subst h
    rw [if_pos (show nI 9 = c8 9 from rfl)]
    exact nI_2 a
  · rw [if_neg (show ¬ nI k = c8 9 from fun e => h ((nI_eq (a := k) (b := 9) (by omega) (by decide)).mp e)), if_neg h]
    exact nI_1 a
theorem pt_N {k b : Nat} (hk : k < 10) (hb : 1 ≤ b) : ptoW (nI k) (nI b) = nI (ptN k b) := by
  unfold ptoW ptN
  by_cases h : k = 8
  · subst h
    rw [if_pos (show nI 8 = c8 8 from rfl)]
    exact sub_1 hb
  · rw [if_neg (show ¬ nI k = c8 8 from fun e => h ((nI_eq (a := k) (b := 8) (by omega) (by decide)).mp e)), if_neg h]
set_option maxHeartbeats 1000000 in
set_option maxRecDepth 20000 in
theorem hBareTX (O : Nat → Int32) (P : Nat → Nat → Int32) (Y : Nat → Nat → Int64) (g : Nat → zC) {n : Nat} {E : Nat → Nat} (hE : eaR n P E) {G : Nat → Int32} (hG : gfR (O 12) G) {a b : Nat} (hab : a < b) (hb : b ≤ n) (hn : n ≤ 20) {L : Nat → Nat → Nat} (hY : ∀ c d, a ≤ c → c < d → d ≤ b → d - c < b - a → Y (34 + c) d = lN (L c d)) (hB : BD L a b) {K : Nat → Bool} {k : Int32} (hK : kdR k K) (x6 : Int32) {n0 : Nat} : zV (zMo 2 zX0_bareWays) false n0 0 0 88 [(6, .int x6), (4, .long (lN (pK E L K a b (b - 1 - (a + 1))))), (0, .ref 31), (1, .int (nI a)), (2, .int (nI b)), (3, .int k)] [] (wX O P Y g) (fun r w' => w' = wX O P Y g ∧ r = some (.long (lN (bS E G L K a b)))) := by
  iterate 3 (refine zv_step (bX0_bareWays 2) rfl rfl trivial ?_)
  refine zv_V2 (bX0_bareWays 2) rfl rfl rfl rfl rfl rfl rfl ⟨rfl, rfl, rfl⟩ ⟨by decide, by decide⟩ ⟨Nat.zero_le _, Nat.zero_le _⟩ (hKeX O P Y g hE hG hab hb hn) ?_
  rintro _ _ ⟨rfl, rfl⟩
  have kin := keV_in E G a b
  have hk10 : keV E G a b ≤ 10 := by omega
  have eT := bS_eq (E := E) (G := G) hB hab (by omega) K
  iterate 4 (refine zv_step (bX0_bareWays 2) rfl rfl trivial ?_)
  refine zv_ifb (fun h99 => ?_) (fun h99 => ?_)
  · have q99 : keV E G a b = 10 := (keI_m hk10).mp h99
    iterate 1 (refine zv_step (bX0_bareWays 2) rfl rfl trivial ?_)
    exact zv_lret (bX0_bareWays 2) rfl rfl (Nat.zero_le _) (Nat.zero_le _) ⟨rfl, congrArg (fun v => some (Value.long v)) (by rw [eT]; unfold neV; rw [if_pos (show keV E G a b = 10 ∨ ¬ K (keV E G a b) = true from Or.inl q99)]; rfl)⟩
  · have q99 : ¬ keV E G a b = 10 := fun e => h99 ((keI_m hk10).mpr e)
    iterate 2 (refine zv_step (bX0_bareWays 2) rfl rfl trivial ?_)
    refine zv_S2 (bX0_bareWays 2) rfl rfl rfl rfl ⟨rfl, rfl, rfl⟩ ⟨by decide, by decide⟩ ⟨Nat.zero_le _, Nat.zero_le _⟩ (pHasBitW _ _ _) ?_
    rintro _ _ ⟨rfl, rfl⟩
    iterate 1 (refine zv_step (bX0_bareWays 2) rfl rfl trivial ?_)
    refine zv_ifb (fun h108 => ?_) (fun h108 => ?_)
    · have q108 : ¬ K (keV E G a b) = false := fun e => h108 (by show hbW k (keI (keV E G a b)) = 0; rw [keI_n q99]; exact (hK _ (by omega)).mpr e)
      iterate 3 (refine zv_step (bX0_bareWays 2) rfl rfl trivial ?_)
      refine zv_ifb (fun h117 => ?_) (fun h117 => ?_)
      · have q117 : ¬ keV E G a b ≤ 1 := by
          have h9 : nI 1 < keI (keV E G a b) := h117
          rw [keI_n q99, nI_ltI (by decide) (by omega)] at h9
          omega
        obtain ⟨w1, w2, w3⟩ : a < pfN (keV E G a b) a ∧ pfN (keV E G a b) a < ptN (keV E G a b) b ∧ ptN (keV E G a b) b ≤ b := by
          rcases kin with e | e | e | e | e | e
          · omega
          · omega
          · rw [e.1]; exact ⟨by show a < a + 1; omega, by show a + 1 < b; omega, Nat.le_refl _⟩
          · rw [e.1]; exact ⟨by show a < a + 1; omega, by show a + 1 < b - 1; omega, by show b - 1 ≤ b; omega⟩
          · rw [e.1]; exact ⟨by show a < a + 2; omega, by show a + 2 < b; omega, Nat.le_refl _⟩
          · omega
        have ef : pfW (keI (keV E G a b)) (nI a) = nI (pfN (keV E G a b) a) := by rw [keI_n q99]; exact pf_N (by omega)
        have et : ptoW (keI (keV E G a b)) (nI b) = nI (ptN (keV E G a b) b) := by rw [keI_n q99]; exact pt_N (by omega) (by omega)
        iterate 5 (refine zv_step (bX0_bareWays 2) rfl rfl trivial ?_)
        refine zv_S2 (bX0_bareWays 2) rfl rfl rfl rfl ⟨rfl, rfl, rfl⟩ ⟨by decide, by decide⟩ ⟨Nat.zero_le _, Nat.zero_le _⟩ (hFrom _ _ _) ?_
        rintro _ _ ⟨rfl, rfl⟩
        refine zv_aald (bX0_bareWays 2) rfl (Or.inr rfl) rfl (show vp_in (pfW (keI (keV E G a b)) (nI a)) 21 by rw [ef]; exact vp_in_nI (by omega) (by decide)) (show ([some 34, some 35, some 36, some 37, some 38, some 39, some 40, some 41, some 42, some 43, some 44, some 45, some 46, some 47, some 48, some 49, some 50, some 51, some 52, some 53, some 54] : List (Option Nat)).getD (pfW (keI (keV E G a b)) (nI a)).toNatClampNeg none = some (34 + (pfN (keV E G a b) a)) by rw [ef, nI_clamp (by omega)]; exact dLs (by omega)) ?_
        iterate 2 (refine zv_step (bX0_bareWays 2) rfl rfl trivial ?_)
        refine zv_S2 (bX0_bareWays 2) rfl rfl rfl rfl ⟨rfl, rfl, rfl⟩ ⟨by decide, by decide⟩ ⟨Nat.zero_le _, Nat.zero_le _⟩ (hTo _ _ _) ?_
        rintro _ _ ⟨rfl, rfl⟩
        refine zv_lale (bX0_bareWays 2) rfl (wY O P Y g (by omega)) (show vp_in (ptoW (keI (keV E G a b)) (nI b)) 21 by rw [et]; exact vp_in_nI (by omega) (by decide)) (show Y (34 + (pfN (keV E G a b) a)) (ptoW (keI (keV E G a b)) (nI b)).toNatClampNeg = lN (L (pfN (keV E G a b) a) (ptN (keV E G a b) b)) by rw [et, nI_clamp (by omega)]; exact hY _ _ (by omega) (by omega) (by omega) (by omega)) ?_
        iterate 1 (refine zv_step (bX0_bareWays 2) rfl rfl trivial ?_)
        exact zv_lret (bX0_bareWays 2) rfl rfl (Nat.zero_le _) (Nat.zero_le _) ⟨rfl, congrArg (fun v => some (Value.long v)) (by rw [eT]; unfold neV; rw [if_neg (show ¬ (keV E G a b = 10 ∨ ¬ K (keV E G a b) = true) from fun q => q.elim q99 (fun w => w (by cases e : K (keV E G a b) with | true => rfl | false => exact absurd e q108))), if_neg q117]; exact lN_add _ _)⟩
      · have q117 : keV E G a b ≤ 1 := by
          have h9 : ¬ nI 1 < keI (keV E G a b) := h117
          rw [keI_n q99, nI_ltI (by decide) (by omega)] at h9
          omega
        iterate 4 (refine zv_step (bX0_bareWays 2) rfl rfl trivial ?_)
        exact zv_lret (bX0_bareWays 2) rfl rfl (Nat.zero_le _) (Nat.zero_le _) ⟨rfl, congrArg (fun v => some (Value.long v)) (by rw [eT]; unfold neV; rw [if_neg (show ¬ (keV E G a b = 10 ∨ ¬ K (keV E G a b) = true) from fun q => q.elim q99 (fun w => w (by cases e : K (keV E G a b) with | true => rfl | false => exact absurd e q108))), if_pos q117]; exact lN_add _ _)⟩
    · have q108 : K (keV E G a b) = false := (hK _ (by omega)).mp (by rw [← keI_n q99]; exact Decidable.not_not.mp h108)
      iterate 1 (refine zv_step (bX0_bareWays 2) rfl rfl trivial ?_)
      exact zv_lret (bX0_bareWays 2) rfl rfl (Nat.zero_le _) (Nat.zero_le _) ⟨rfl, congrArg (fun v => some (Value.long v)) (by rw [eT]; unfold neV; rw [if_pos (show keV E G a b = 10 ∨ ¬ K (keV E G a b) = true from Or.inr (by rw [q108]; decide))]; rfl)⟩
theorem pr_e : ∀ e, e ≤ 31 → ((2 ≤ (nI e - c8 18).toInt ∧ (nI e - c8 18).toInt ≤ 6) ↔ (20 ≤ e ∧ e ≤ 24)) := by decide +kernel
theorem pr_k : ∀ e, e ≤ 31 → 20 ≤ e → nI e - c8 18 = nI (e - 18) := by decide +kernel
set_option maxHeartbeats 1000000 in
set_option maxRecDepth 20000 in
theorem hBareLX (O : Nat → Int32) (P : Nat → Nat → Int32) (Y : Nat → Nat → Int64) (g : Nat → zC) {n : Nat} {E : Nat → Nat} (hE : eaR n P E) {G : Nat → Int32} (hG : gfR (O 12) G) {a b : Nat} (hab : a < b) (hb : b ≤ n) (hn : n ≤ 20) {L : Nat → Nat → Nat} (hY : ∀ c d, a ≤ c → c < d → d ≤ b → d - c < b - a → Y (34 + c) d = lN (L c d)) (hB : BD L a b) {K : Nat → Bool} {k : Int32} (hK : kdR k K) {n0 : Nat} : ∀ (c d : Nat), d + c = b - 1 - (a + 1) → ∀ {x6 : Int32}, x6 = nI (a + 1 + d) → zV (zMo 2 zX0_bareWays) false n0 0 0 19 [(6, .int x6), (4, .long (lN (pK E L K a b d))), (0, .ref 31), (1, .int (nI a)), (2, .int (nI b)), (3, .int k)] [] (wX O P Y g) (fun r w' => w' = wX O P Y g ∧ r = some (.long (lN (bS E G L K a b)))) := by
  intro c
  induction c with
  | zero =>
    intro d hd x6 e6
    subst e6
    iterate 5 (refine zv_step (bX0_bareWays 2) rfl rfl trivial ?_)
    refine zv_ift (show nI b - Int32.ofInt 1 ≤ nI (a + 1 + d) by rw [sub_1 (by omega)]; exact nI_le (by omega) (by omega)) ?_
    rw [show d = b - 1 - (a + 1) by omega]
    exact hBareTX O P Y g hE hG hab hb hn hY hB hK _
  | succ c ih =>
    intro d hd x6 e6
    subst e6
    iterate 5 (refine zv_step (bX0_bareWays 2) rfl rfl trivial ?_)
    refine zv_iff (show ¬ nI b - Int32.ofInt 1 ≤ nI (a + 1 + d) by rw [sub_1 (by omega)]; exact fun h => absurd ((nI_leI (by omega) (by omega)).mp h) (by omega)) ?_
    iterate 3 (refine zv_step (bX0_bareWays 2) rfl rfl trivial ?_)
    refine zv_iale (bX0_bareWays 2) rfl rfl (show vp_in (nI (a + 1 + d)) 20 by exact vp_in_nI (by omega) (by decide)) (show P 32 (nI (a + 1 + d)).toNatClampNeg = nI (E (a + 1 + d)) by rw [nI_clamp (by omega)]; exact (hE (a + 1 + d) (by omega)).1) ?_
    iterate 4 (refine zv_step (bX0_bareWays 2) rfl rfl trivial ?_)
    refine zv_S1 (bX0_bareWays 2) rfl rfl rfl rfl ⟨rfl, rfl, rfl⟩ ⟨by decide, by decide⟩ ⟨Nat.zero_le _, Nat.zero_le _⟩ (hX1_isPair _ _) ?_
    rintro _ _ ⟨rfl, ⟨hp, rfl⟩ | ⟨hp, rfl⟩⟩
    · have q44 := (pr_e _ (hE (a + 1 + d) (by omega)).2).mp hp
      have e18 := pr_k _ (hE (a + 1 + d) (by omega)).2 q44.1
      iterate 1 (refine zv_step (bX0_bareWays 2) rfl rfl trivial ?_)
      refine zv_iff (by decide) ?_
      iterate 2 (refine zv_step (bX0_bareWays 2) rfl rfl trivial ?_)
      refine zv_S2 (bX0_bareWays 2) rfl rfl rfl rfl ⟨rfl, rfl, rfl⟩ ⟨by decide, by decide⟩ ⟨Nat.zero_le _, Nat.zero_le _⟩ (pHasBitW _ _ _) ?_
      rintro _ _ ⟨rfl, rfl⟩
      iterate 1 (refine zv_step (bX0_bareWays 2) rfl rfl trivial ?_)
      refine zv_ifb (fun h53 => ?_) (fun h53 => ?_)
      · have q53 : K (E (a + 1 + d) - 18) = false := (hK _ (by omega)).mp (by rw [← e18]; exact h53)
        iterate 2 (refine zv_step (bX0_bareWays 2) rfl rfl trivial ?_)
        have e9 : pK E L K a b (d + 1) = pK E L K a b d := by
          show _ + _ = _
          rw [if_neg (show ¬ (20 ≤ E (a + 1 + d) ∧ E (a + 1 + d) ≤ 24 ∧ K (E (a + 1 + d) - 18) = true) from fun q => by rw [q53] at q; exact absurd q.2.2 (by decide))]
          rfl
        refine zv_locals (l := [(6, .int (nI (a + 1 + d) + Int32.ofInt 1)), (7, .int (nI (E (a + 1 + d)) - c8 18)), (4, .long (lN (pK E L K a b d))), (0, .ref 31), (1, .int (nI a)), (2, .int (nI b)), (3, .int k)]) (l' := [(6, .int (nI (a + 1 + d) + Int32.ofInt 1)), (4, .long (lN (pK E L K a b d))), (0, .ref 31), (1, .int (nI a)), (2, .int (nI b)), (3, .int k)]) (by simp) ?_
        rw [← e9]
        exact ih (d + 1) (by omega) (nI_1 (a + 1 + d))
      · have q53 : K (E (a + 1 + d) - 18) = true := by
          cases e : K (E (a + 1 + d) - 18) with
          | true => rfl
          | false => exact absurd (show hbW k (nI (E (a + 1 + d)) - c8 18) = 0 by rw [e18]; exact (hK _ (by omega)).mpr e) h53
        iterate 4 (refine zv_step (bX0_bareWays 2) rfl rfl trivial ?_)
        refine zv_aald (bX0_bareWays 2) rfl (Or.inr rfl) rfl (show vp_in (nI a) 21 by exact vp_in_nI (by omega) (by decide)) (show ([some 34, some 35, some 36, some 37, some 38, some 39, some 40, some 41, some 42, some 43, some 44, some 45, some 46, some 47, some 48, some 49, some 50, some 51, some 52, some 53, some 54] : List (Option Nat)).getD (nI a).toNatClampNeg none = some (34 + (a)) by rw [nI_clamp (by omega)]; exact dLs (by omega)) ?_
        iterate 1 (refine zv_step (bX0_bareWays 2) rfl rfl trivial ?_)
        refine zv_lale (bX0_bareWays 2) rfl (wY O P Y g (by omega)) (show vp_in (nI (a + 1 + d)) 21 by exact vp_in_nI (by omega) (by decide)) (show Y (34 + (a)) (nI (a + 1 + d)).toNatClampNeg = lN (L (a) (a + 1 + d)) by rw [nI_clamp (by omega)]; exact hY _ _ (by omega) (by omega) (by omega) (by omega)) ?_
        iterate 5 (refine zv_step (bX0_bareWays 2) rfl rfl trivial ?_)
        refine zv_aald (bX0_bareWays 2) rfl (Or.inr rfl) rfl (show vp_in (nI (a + 1 + d) + Int32.ofInt 1) 21 by rw [show nI (a + 1 + d) + Int32.ofInt 1 = nI (a + 1 + d + 1) from nI_1 _]; exact vp_in_nI (by omega) (by decide)) (show ([some 34, some 35, some 36, some 37, some 38, some 39, some 40, some 41, some 42, some 43, some 44, some 45, some 46, some 47, some 48, some 49, some 50, some 51, some 52, some 53, some 54] : List (Option Nat)).getD (nI (a + 1 + d) + Int32.ofInt 1).toNatClampNeg none = some (34 + (a + 1 + d + 1)) by rw [show nI (a + 1 + d) + Int32.ofInt 1 = nI (a + 1 + d + 1) from nI_1 _, nI_clamp (by omega)]; exact dLs (by omega)) ?_
        iterate 1 (refine zv_step (bX0_bareWays 2) rfl rfl trivial ?_)
        refine zv_lale (bX0_bareWays 2) rfl (wY O P Y g (by omega)) (show vp_in (nI b) 21 by exact vp_in_nI (by omega) (by decide)) (show Y (34 + (a + 1 + d + 1)) (nI b).toNatClampNeg = lN (L (a + 1 + d + 1) (b)) by rw [nI_clamp (by omega)]; exact hY _ _ (by omega) (by omega) (by omega) (by omega)) ?_
        iterate 5 (refine zv_step (bX0_bareWays 2) rfl rfl trivial ?_)
        have e9 : lN (pK E L K a b d) + lN (L a (a + 1 + d)) * lN (L (a + 1 + d + 1) b) = lN (pK E L K a b (d + 1)) := by
          rw [lN_mul, lN_add]
          show _ = lN (_ + _)
          rw [if_pos (show 20 ≤ E (a + 1 + d) ∧ E (a + 1 + d) ≤ 24 ∧ K (E (a + 1 + d) - 18) = true from ⟨q44.1, q44.2, q53⟩), tmW_eq (Nat.le_trans (tm_5 hB (by omega)) (pow5_cap1 (by omega)))]
        refine zv_locals (l := [(6, .int (nI (a + 1 + d) + Int32.ofInt 1)), (4, .long (lN (pK E L K a b d) + lN (L a (a + 1 + d)) * lN (L (a + 1 + d + 1) b))), (7, .int (nI (E (a + 1 + d)) - c8 18)), (0, .ref 31), (1, .int (nI a)), (2, .int (nI b)), (3, .int k)]) (l' := [(6, .int (nI (a + 1 + d) + Int32.ofInt 1)), (4, .long (lN (pK E L K a b d) + lN (L a (a + 1 + d)) * lN (L (a + 1 + d + 1) b))), (0, .ref 31), (1, .int (nI a)), (2, .int (nI b)), (3, .int k)]) (by simp) ?_
        rw [e9]
        exact ih (d + 1) (by omega) (nI_1 (a + 1 + d))
    · have q44 := fun q => hp ((pr_e _ (hE (a + 1 + d) (by omega)).2).mpr q)
      iterate 1 (refine zv_step (bX0_bareWays 2) rfl rfl trivial ?_)
      refine zv_ift (by decide) ?_
      iterate 2 (refine zv_step (bX0_bareWays 2) rfl rfl trivial ?_)
      have e9 : pK E L K a b (d + 1) = pK E L K a b d := by
        show _ + _ = _
        rw [if_neg (show ¬ (20 ≤ E (a + 1 + d) ∧ E (a + 1 + d) ≤ 24 ∧ K (E (a + 1 + d) - 18) = true) from fun q => q44 ⟨q.1, q.2.1⟩)]
        rfl
      refine zv_locals (l := [(6, .int (nI (a + 1 + d) + Int32.ofInt 1)), (7, .int (nI (E (a + 1 + d)) - c8 18)), (4, .long (lN (pK E L K a b d))), (0, .ref 31), (1, .int (nI a)), (2, .int (nI b)), (3, .int k)]) (l' := [(6, .int (nI (a + 1 + d) + Int32.ofInt 1)), (4, .long (lN (pK E L K a b d))), (0, .ref 31), (1, .int (nI a)), (2, .int (nI b)), (3, .int k)]) (by simp) ?_
      rw [← e9]
      exact ih (d + 1) (by omega) (nI_1 (a + 1 + d))
set_option maxHeartbeats 1000000 in
set_option maxRecDepth 20000 in
theorem hBareX (O : Nat → Int32) (P : Nat → Nat → Int32) (Y : Nat → Nat → Int64) (g : Nat → zC) {n : Nat} {E : Nat → Nat} (hE : eaR n P E) {G : Nat → Int32} (hG : gfR (O 12) G) {a b : Nat} (hab : a < b) (hb : b ≤ n) (hn : n ≤ 20) {L : Nat → Nat → Nat} (hY : ∀ c d, a ≤ c → c < d → d ≤ b → d - c < b - a → Y (34 + c) d = lN (L c d)) (hB : BD L a b) {K : Nat → Bool} {k : Int32} (hK : kdR k K) {x y : Int32} (ex : x = nI a) (ey : y = nI b) : zK 2 zX0_bareWays [.ref 31, .int x, .int y, .int k] (wX O P Y g) (fun r w' => w' = wX O P Y g ∧ r = some (.long (lN (bS E G L K a b)))) := by
  subst ex ey
  refine zK_of qX0_bareWays (by decide +kernel) rfl ?_
  iterate 3 (refine zv_step (bX0_bareWays 2) rfl rfl trivial ?_)
  refine zv_iff (nI_ge (by omega) (by omega)) ?_
  iterate 2 (refine zv_step (bX0_bareWays 2) rfl rfl trivial ?_)
  refine zv_ifb (fun h6 => ?_) (fun h6 => ?_)
  · iterate 6 (refine zv_step (bX0_bareWays 2) rfl rfl trivial ?_)
    refine zv_locals (l := [(6, .int (nI a + Int32.ofInt 1)), (4, .long (Int64.ofInt 0)), (0, .ref 31), (1, .int (nI a)), (2, .int (nI b)), (3, .int k)]) (l' := [(6, .int (nI a + Int32.ofInt 1)), (4, .long (lN (pK E L K a b 0))), (0, .ref 31), (1, .int (nI a)), (2, .int (nI b)), (3, .int k)]) (fun q h => h) (hBareLX O P Y g hE hG hab hb hn hY hB hK (b - 1 - (a + 1)) 0 (by omega) (nI_1 a))
  · have e0 : k = 0 := Decidable.not_not.mp h6
    iterate 1 (refine zv_step (bX0_bareWays 2) rfl rfl trivial ?_)
    exact zv_lret (bX0_bareWays 2) rfl rfl (Nat.zero_le _) (Nat.zero_le _) ⟨rfl, congrArg (fun v => some (Value.long v)) (by unfold bS; rw [kS_f (fun j hj => (hK j hj).mp (by rw [e0]; exact hb_0 j hj)) 10 (Nat.le_refl _)]; rfl)⟩
theorem br_E {n : Nat} {P : Nat → Nat → Int32} {E : Nat → Nat} (hE : eaR n P E) {a b : Nat} (hab : a < b) (hb : b ≤ n) : brW (P 32) a b ↔ (2 < b - a ∧ brE E a b) := by
  obtain ⟨a1, a2⟩ := hE a (by omega)
  obtain ⟨b1, b2⟩ := hE (b - 1) (by omega)
  unfold brW
  rw [a1, b1, show c8 29 = nI 29 from rfl, show c8 30 = nI 30 from rfl, nI_eq (by omega) (by decide), nI_eq (by omega) (by decide)]
set_option maxHeartbeats 1000000 in
set_option maxRecDepth 20000 in
theorem hWaysX (O : Nat → Int32) (P : Nat → Nat → Int32) (Y : Nat → Nat → Int64) (g : Nat → zC) {n : Nat} {E : Nat → Nat} (hE : eaR n P E) {G : Nat → Int32} (hG : gfR (O 12) G) {a b : Nat} (hab : a < b) (hb : b ≤ n) (hn : n ≤ 20) {L : Nat → Nat → Nat} (hY : ∀ c d, a ≤ c → c < d → d ≤ b → d - c < b - a → Y (34 + c) d = lN (L c d)) (hB : BD L a b) {K1 K2 : Nat → Bool} {k : Int32} (hK1 : kdR (k &&& O 10) K1) (hK2 : kdR (k &&& O 11) K2) {x y : Int32} (ex : x = nI a) (ey : y = nI b) : zK 3 zX0_waysOf [.ref 31, .int x, .int y, .int k] (wX O P Y g) (fun r w' => w' = wX O P Y g ∧ r = some (.long (lN (bS E G L K1 a b + (if brE E a b then bS E G L K2 (a + 1) (b - 1) else 0))))) := by
  subst ex ey
  refine zK_of qX0_waysOf (by decide +kernel) rfl ?_
  iterate 7 (refine zv_step (bX0_waysOf 3) rfl rfl trivial ?_)
  refine zv_V3 (bX0_waysOf 3) rfl rfl rfl rfl rfl rfl rfl ⟨rfl, rfl, rfl⟩ ⟨by decide, by decide⟩ ⟨Nat.zero_le _, Nat.zero_le _⟩ (hBareX O P Y g hE hG hab hb hn hY hB hK1 rfl rfl) ?_
  rintro _ _ ⟨rfl, rfl⟩
  iterate 4 (refine zv_step (bX0_waysOf 3) rfl rfl trivial ?_)
  refine zv_V2 (bX0_waysOf 3) rfl rfl rfl rfl rfl rfl rfl ⟨rfl, rfl, rfl⟩ ⟨by decide, by decide⟩ ⟨Nat.zero_le _, Nat.zero_le _⟩ (hBr O P Y g hab (by omega)) ?_
  rintro _ _ ⟨rfl, ⟨hh, rfl⟩ | ⟨hh, rfl⟩⟩
  · have hq := (br_E hE hab hb).mp hh
    have h3 := hq.1
    iterate 1 (refine zv_step (bX0_waysOf 3) rfl rfl trivial ?_)
    refine zv_iff (by decide) ?_
    iterate 12 (refine zv_step (bX0_waysOf 3) rfl rfl trivial ?_)
    refine zv_V3 (bX0_waysOf 3) rfl rfl rfl rfl rfl rfl rfl ⟨rfl, rfl, rfl⟩ ⟨by decide, by decide⟩ ⟨Nat.zero_le _, Nat.zero_le _⟩ (hBareX O P Y g hE hG (a := a + 1) (b := b - 1) (by omega) (by omega) hn (fun c d h1 h2 h3 h4 => hY c d (by omega) h2 (by omega) (by omega)) (BD_in hB (by omega) (by omega)) hK2 (nI_1 a) (sub_1 (by omega))) ?_
    rintro _ _ ⟨rfl, rfl⟩
    iterate 2 (refine zv_step (bX0_waysOf 3) rfl rfl trivial ?_)
    exact zv_lret (bX0_waysOf 3) rfl rfl (Nat.zero_le _) (Nat.zero_le _) ⟨rfl, congrArg (fun v => some (Value.long v)) (by rw [if_pos hq.2]; exact lN_add _ _)⟩
  · have hq := fun q => hh ((br_E hE hab hb).mpr q)
    iterate 1 (refine zv_step (bX0_waysOf 3) rfl rfl trivial ?_)
    refine zv_ift (by decide) ?_
    iterate 1 (refine zv_step (bX0_waysOf 3) rfl rfl trivial ?_)
    exact zv_lret (bX0_waysOf 3) rfl rfl (Nat.zero_le _) (Nat.zero_le _) ⟨rfl, congrArg (fun v => some (Value.long v)) (by
      rcases Nat.lt_or_ge 2 (b - a) with h3 | h3
      · rw [if_neg (show ¬ brE E a b from fun q => hq ⟨h3, q⟩)]; rfl
      · rw [bS_n K2 (by omega)]; split <;> rfl)⟩
/-- what the class's table of ways holds -/
def lY (Y : Nat → Nat → Int64) (i j : Nat) : Nat := (Y (34 + i) j).toInt.toNat
def okY (n : Nat) (E : Nat → Nat) (G : Nat → Int32) (lt : Nat → Nat → Bool) (Y : Nat → Nat → Int64) (w i0 : Nat) : Prop := ∀ i j, i < j → j ≤ n → (j - i < w ∨ (j - i = w ∧ i < i0)) → Y (34 + i) j = lN (lY Y i j) ∧ lY Y i j = tS E G lt (lY Y) i j ∧ lY Y i j ≤ 5 ^ (j - i - 1)
theorem vpL_self (f : Nat → Int64) (i : Nat) (x : Int64) : vp_updL f i x i = x := by
  unfold vp_updL
  exact if_pos rfl
theorem vpL_ne (f : Nat → Int64) {i j : Nat} (x : Int64) (h : j ≠ i) : vp_updL f i x j = f j := by
  unfold vp_updL
  exact if_neg h
theorem okY_set {n : Nat} (hn : n ≤ 20) {E : Nat → Nat} {G : Nat → Int32} {lt : Nat → Nat → Bool} {Y : Nat → Nat → Int64} {w i : Nat} (hw : 1 ≤ w) (hi : i + w ≤ n) (h : okY n E G lt Y w i) : okY n E G lt (updJ Y (34 + i) (vp_updL (Y (34 + i)) (i + w) (lN (tS E G lt (lY Y) i (i + w))))) w (i + 1) := by
  have fr : ∀ c d, c < d → ¬ (c = i ∧ d = i + w) → updJ Y (34 + i) (vp_updL (Y (34 + i)) (i + w) (lN (tS E G lt (lY Y) i (i + w)))) (34 + c) d = Y (34 + c) d := by
    intro c d _ hne
    unfold updJ
    by_cases e : c = i
    · subst e
      rw [if_pos rfl]
      exact vpL_ne _ _ (fun q => hne ⟨rfl, q⟩)
    · rw [if_neg (by omega)]
  have frL : ∀ c d, c < d → ¬ (c = i ∧ d = i + w) → lY (updJ Y (34 + i) (vp_updL (Y (34 + i)) (i + w) (lN (tS E G lt (lY Y) i (i + w))))) c d = lY Y c d := fun c d h1 h2 => by
    show (updJ Y (34 + i) (vp_updL (Y (34 + i)) (i + w) (lN (tS E G lt (lY Y) i (i + w)))) (34 + c) d).toInt.toNat = (Y (34 + c) d).toInt.toNat
    rw [fr c d h1 h2]
  have hb : BD (lY Y) i (i + w) := fun a b q1 q2 q3 q4 => (h a b q2 (by omega) (by omega)).2.2
  have ht := tS_le (E := E) (G := G) hb (by omega) (by omega) lt
  have hc : tS E G lt (lY Y) i (i + w) < 2 ^ 62 := by
    have := pow5_cap1 (n := i + w - i - 1) (by omega)
    unfold cap at this
    omega
  intro c d h1 h2 h3
  by_cases e : c = i ∧ d = i + w
  · obtain ⟨rfl, rfl⟩ := e
    have e1 : updJ Y (34 + c) (vp_updL (Y (34 + c)) (c + w) (lN (tS E G lt (lY Y) c (c + w)))) (34 + c) (c + w) = lN (tS E G lt (lY Y) c (c + w)) := by
      unfold updJ
      rw [if_pos rfl]
      exact vpL_self _ _ _
    have e2 : lY (updJ Y (34 + c) (vp_updL (Y (34 + c)) (c + w) (lN (tS E G lt (lY Y) c (c + w))))) c (c + w) = tS E G lt (lY Y) c (c + w) := by
      show (updJ Y (34 + c) (vp_updL (Y (34 + c)) (c + w) (lN (tS E G lt (lY Y) c (c + w)))) (34 + c) (c + w)).toInt.toNat = _
      rw [e1]
      exact lN_cl hc
    have e3 : tS E G lt (lY Y) c (c + w) = tS E G lt (lY (updJ Y (34 + c) (vp_updL (Y (34 + c)) (c + w) (lN (tS E G lt (lY Y) c (c + w)))))) c (c + w) := tS_cg (fun a b q1 q2 q3 q4 => (frL a b q2 (fun q => by omega)).symm)
    refine ⟨by rw [e2]; exact e1, ?_, ?_⟩
    · rw [e2]
      exact e3
    · rw [e2]
      exact ht
  · obtain ⟨a1, a2, a3⟩ := h c d h1 h2 (by omega)
    refine ⟨by rw [fr c d h1 e, frL c d h1 e]; exact a1, ?_, by rw [frL c d h1 e]; exact a3⟩
    rw [frL c d h1 e, a2]
    refine tS_cg (fun a b q1 q2 q3 q4 => (frL a b q2 (fun q => ?_)).symm)
    omega
def okZ (Y0 : Nat → Nat → Int64) (n : Nat) (E : Nat → Nat) (G : Nat → Int32) (lt : Nat → Nat → Bool) (Y : Nat → Nat → Int64) (w i0 : Nat) : Prop := okY n E G lt Y w i0 ∧ (wyI Y0 → wyI Y)
theorem okZ_set {Y0 : Nat → Nat → Int64} {n : Nat} (hn : n ≤ 20) {E : Nat → Nat} {G : Nat → Int32} {lt : Nat → Nat → Bool} {Y : Nat → Nat → Int64} {w i : Nat} (hw : 1 ≤ w) (hi : i + w ≤ n) (h : okZ Y0 n E G lt Y w i) : okZ Y0 n E G lt (updJ Y (34 + i) (vp_updL (Y (34 + i)) (i + w) (lN (tS E G lt (lY Y) i (i + w))))) w (i + 1) := by
  refine ⟨okY_set hn hw hi h.1, fun q => wyI_set (h.2 q) ?_⟩
  have hb : BD (lY Y) i (i + w) := fun a b q1 q2 q3 q4 => (h.1 a b q2 (by omega) (by omega)).2.2
  have ht := tS_le (E := E) (G := G) hb (by omega) (by omega) lt
  have hc := pow5_cap1 (n := i + w - i - 1) (by omega)
  have h8 : 5 ^ (i + w - i - 1) ≤ 8 ^ (i + w - i - 1) := Nat.pow_le_pow_left (by decide) _
  unfold cap at hc
  refine ⟨by rw [lN_T (by omega)]; omega, by rw [lN_T (by omega)]; exact Int.ofNat_le.mpr (by omega)⟩
set_option maxHeartbeats 1000000 in
set_option maxRecDepth 20000 in
theorem hTalIX (O : Nat → Int32) (P : Nat → Nat → Int32) (g : Nat → zC) {n : Nat} {E : Nat → Nat} (hE : eaR n P E) {G : Nat → Int32} (hG : gfR (O 12) G) (hO : O 9 = nI n) (hn : n ≤ 20) {lt : Nat → Nat → Bool} (h0 : kdR ((Int16.ofInt 1023).toInt32 &&& O 10) (fun k => lt k 0)) (h1 : kdR ((Int16.ofInt 1023).toInt32 &&& O 11) (fun k => lt k 1)) (u1 u2 u3 : Int32) {Y0 : Nat → Nat → Int64} {n0 m : Nat} {Q : Option Value → zW → Prop} (hm : 1 ≤ m) (hmn : m ≤ n) (kk : ∀ (Y' : Nat → Nat → Int64) (x5 : Int32), okZ Y0 n E G lt Y' (m + 1) 0 → zV (zMo 4 zX0_tally) false n0 0 0 75 [(5, .int x5), (4, .int (nI m)), (0, .ref 31), (1, .int u1), (2, .int u2), (3, .int u3)] [] (wX O P Y' g) Q) : ∀ (c i : Nat) (Y : Nat → Nat → Int64), okZ Y0 n E G lt Y m i → i + m + c = n + 1 → ∀ {x5 : Int32}, x5 = nI i → zV (zMo 4 zX0_tally) false n0 0 0 30 [(5, .int x5), (4, .int (nI m)), (0, .ref 31), (1, .int u1), (2, .int u2), (3, .int u3)] [] (wX O P Y g) Q := by
  intro c
  induction c with
  | zero =>
    intro i Y hY hc x5 e5
    subst e5
    iterate 6 (refine zv_step (bX0_tally 4) rfl rfl trivial ?_)
    refine zv_ift (show O 9 < nI i + nI m by rw [hO, nI_plus]; exact nI_lt (by omega) (by omega)) ?_
    exact kk Y _ ⟨fun c d q1 q2 q3 => hY.1 c d q1 q2 (by omega), hY.2⟩
  | succ c ih =>
    intro i Y hY hc x5 e5
    subst e5
    iterate 6 (refine zv_step (bX0_tally 4) rfl rfl trivial ?_)
    refine zv_iff (show ¬ O 9 < nI i + nI m by rw [hO, nI_plus]; exact nI_nlt (by omega) (by omega)) ?_
    iterate 3 (refine zv_step (bX0_tally 4) rfl rfl trivial ?_)
    refine zv_aald (bX0_tally 4) rfl (Or.inr rfl) rfl (show vp_in (nI i) 21 by exact vp_in_nI (by omega) (by decide)) (show ([some 34, some 35, some 36, some 37, some 38, some 39, some 40, some 41, some 42, some 43, some 44, some 45, some 46, some 47, some 48, some 49, some 50, some 51, some 52, some 53, some 54] : List (Option Nat)).getD (nI i).toNatClampNeg none = some (34 + (i)) by rw [nI_clamp (by omega)]; exact dLs (by omega)) ?_
    iterate 9 (refine zv_step (bX0_tally 4) rfl rfl trivial ?_)
    refine zv_V3 (bX0_tally 4) rfl rfl rfl rfl rfl rfl rfl ⟨rfl, rfl, rfl⟩ ⟨by decide, by decide⟩ ⟨Nat.zero_le _, Nat.zero_le _⟩ (hWaysX O P Y g hE hG (a := i) (b := i + m) (by omega) (by omega) hn (L := lY Y) (fun c d q1 q2 q3 q4 => (hY.1 c d q2 (by omega) (by omega)).1) (fun c d q1 q2 q3 q4 => (hY.1 c d q2 (by omega) (by omega)).2.2) h0 h1 rfl (nI_plus i m)) ?_
    rintro _ _ ⟨rfl, rfl⟩
    refine zv_last (bX0_tally 4) rfl (wY O P Y g (by omega)) (show vp_in (nI i + nI m) 21 by rw [nI_plus]; exact vp_in_nI (by omega) (by decide)) ?_
    rw [wYset O P Y g _ (by omega), show (nI i + nI m).toNatClampNeg = i + m by rw [nI_plus, nI_clamp (by omega)]]
    iterate 2 (refine zv_step (bX0_tally 4) rfl rfl trivial ?_)
    exact ih (i + 1) _ (okZ_set hn hm (by omega) hY) (by omega) (nI_1 i)
def ctY (n : Nat) (Y : Nat → Nat → Int64) : Nat := if n = 0 then 0 else lY Y 0 n
set_option maxHeartbeats 1000000 in
set_option maxRecDepth 20000 in
theorem hTalOX (O : Nat → Int32) (P : Nat → Nat → Int32) (g : Nat → zC) {n : Nat} {E : Nat → Nat} (hE : eaR n P E) {G : Nat → Int32} (hG : gfR (O 12) G) (hO : O 9 = nI n) (hn : n ≤ 20) {lt : Nat → Nat → Bool} (h0 : kdR ((Int16.ofInt 1023).toInt32 &&& O 10) (fun k => lt k 0)) (h1 : kdR ((Int16.ofInt 1023).toInt32 &&& O 11) (fun k => lt k 1)) (u1 u2 u3 : Int32) {Y0 : Nat → Nat → Int64} {n0 : Nat} : ∀ (c m : Nat) (Y : Nat → Nat → Int64), okZ Y0 n E G lt Y m 0 → m + c = n + 1 → 1 ≤ m → ∀ {x4 : Int32}, x4 = nI m → zV (zMo 4 zX0_tally) false n0 0 0 18 [(4, .int x4), (0, .ref 31), (1, .int u1), (2, .int u2), (3, .int u3)] [] (wX O P Y g) (fun r w' => ∃ (Y' : Nat → Nat → Int64), r = some (.long (lN (ctY n Y'))) ∧ w' = wX O P Y' g ∧ okZ Y0 n E G lt Y' (n + 1) 0) := by
  intro c
  induction c with
  | zero =>
    intro m Y hY hc hm x4 e4
    subst e4
    iterate 4 (refine zv_step (bX0_tally 4) rfl rfl trivial ?_)
    refine zv_ift (show O 9 < nI m by rw [hO]; exact nI_lt (by omega) (by omega)) ?_
    iterate 3 (refine zv_step (bX0_tally 4) rfl rfl trivial ?_)
    refine zv_ifb (fun h85 => ?_) (fun h85 => ?_)
    · have q85 : ¬ n = 0 := fun e => h85 (by show O 9 = 0; rw [hO, e]; rfl)
      iterate 3 (refine zv_step (bX0_tally 4) rfl rfl trivial ?_)
      refine zv_aald (bX0_tally 4) rfl (Or.inr rfl) rfl (show vp_in (Int32.ofInt 0) 21 by rw [show Int32.ofInt 0 = nI 0 from rfl]; exact vp_in_nI (by omega) (by decide)) (show ([some 34, some 35, some 36, some 37, some 38, some 39, some 40, some 41, some 42, some 43, some 44, some 45, some 46, some 47, some 48, some 49, some 50, some 51, some 52, some 53, some 54] : List (Option Nat)).getD (Int32.ofInt 0).toNatClampNeg none = some (34 + (0)) by rw [show Int32.ofInt 0 = nI 0 from rfl, nI_clamp (by omega)]; exact dLs (by omega)) ?_
      iterate 2 (refine zv_step (bX0_tally 4) rfl rfl trivial ?_)
      refine zv_lale (bX0_tally 4) rfl (wY O P Y g (by omega)) (show vp_in (O 9) 21 by rw [hO]; exact vp_in_nI (by omega) (by decide)) (show Y (34 + 0) (O 9).toNatClampNeg = lN (lY Y 0 n) by rw [hO, nI_clamp (by omega)]; exact (hY.1 0 n (by omega) (Nat.le_refl _) (by omega)).1) ?_
      exact zv_lret (bX0_tally 4) rfl rfl (Nat.zero_le _) (Nat.zero_le _) ⟨Y, congrArg (fun v => some (Value.long v)) (by unfold ctY; rw [if_neg q85]), rfl, ⟨fun c d q1 q2 q3 => hY.1 c d q1 q2 (by omega), hY.2⟩⟩
    · have q85 : n = 0 := (nI_eq (b := 0) (by omega) (by decide)).mp (by rw [← hO]; exact Decidable.not_not.mp h85)
      iterate 2 (refine zv_step (bX0_tally 4) rfl rfl trivial ?_)
      exact zv_lret (bX0_tally 4) rfl rfl (Nat.zero_le _) (Nat.zero_le _) ⟨Y, congrArg (fun v => some (Value.long v)) (by unfold ctY; rw [if_pos q85]; rfl), rfl, ⟨fun c d q1 q2 q3 => hY.1 c d q1 q2 (by omega), hY.2⟩⟩
  | succ c ih =>
    intro m Y hY hc hm x4 e4
    subst e4
    iterate 4 (refine zv_step (bX0_tally 4) rfl rfl trivial ?_)
    refine zv_iff (show ¬ O 9 < nI m by rw [hO]; exact nI_nlt (by omega) (by omega)) ?_
    iterate 2 (refine zv_step (bX0_tally 4) rfl rfl trivial ?_)
    refine hTalIX O P g hE hG hO hn h0 h1 u1 u2 u3 hm (by omega) (fun Y' x5 hY2 => ?_) (n + 1 - m) 0 Y hY (by omega) rfl
    iterate 2 (refine zv_step (bX0_tally 4) rfl rfl trivial ?_)
    refine zv_locals (l := [(4, .int (nI m + Int32.ofInt 1)), (5, .int x5), (0, .ref 31), (1, .int u1), (2, .int u2), (3, .int u3)]) (l' := [(4, .int (nI m + Int32.ofInt 1)), (0, .ref 31), (1, .int u1), (2, .int u2), (3, .int u3)]) ?_ (ih (m + 1) Y' hY2 (by omega) (by omega) (nI_1 m))
    simp
set_option maxHeartbeats 1000000 in
set_option maxRecDepth 20000 in
theorem hTallyX (O : Nat → Int32) (P : Nat → Nat → Int32) (Y : Nat → Nat → Int64) (g : Nat → zC) {n : Nat} {E : Nat → Nat} (hE : eaR n P E) {G : Nat → Int32} (hO : O 9 = nI n) (hn : n ≤ 20) {lt : Nat → Nat → Bool} {u1 u2 u3 : Int32} (hG : gfR u3 G) (h0 : kdR ((Int16.ofInt 1023).toInt32 &&& u1) (fun k => lt k 0)) (h1 : kdR ((Int16.ofInt 1023).toInt32 &&& u2) (fun k => lt k 1)) : zK 4 zX0_tally [.ref 31, .int u1, .int u2, .int u3] (wX O P Y g) (fun r w' => ∃ (Y' : Nat → Nat → Int64), r = some (.long (lN (ctY n Y'))) ∧ w' = wX (upd (upd (upd O 10 u1) 11 u2) 12 u3) P Y' g ∧ okZ Y n E G lt Y' (n + 1) 0) := by
  refine zK_of qX0_tally (by decide +kernel) rfl ?_
  iterate 11 (refine zv_step (bX0_tally 4) rfl rfl trivial ?_)
  exact hTalOX (upd (upd (upd O 10 u1) 11 u2) 12 u3) P g hE hG hO hn h0 h1 u1 u2 u3 n 1 Y ⟨fun c d q1 q2 q3 => by omega, id⟩ (by omega) (Nat.le_refl _) rfl
