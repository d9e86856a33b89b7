set_option maxHeartbeats 1000000 in
set_option maxRecDepth 20000 in
theorem cHsL (O : Nat → Int32) (P0 : Nat → Nat → Int32) (Y : Nat → Nat → Int64) (g : Nat → zC) {q : Nat} (hq : q ≤ 20) (hO : O 3 = nI q) {n0 : Nat} : ∀ (c i l : Nat), i + c = q → l ≤ 20 → ∀ {P : Nat → Nat → Int32}, (∀ i, i ≠ 32 → P i = P0 i) → ∀ {x1 : Int32}, x1 = nI i → zV (zMo 1 zX6_hearSpeech) false n0 0 0 25 [(1, .int x1), (0, .ref 0)] [] (wX (upd O 9 (nI l)) P Y g) (fun r w' => ∃ (l' : Nat) (P' : Nat → Nat → Int32) (R : Int32), r = some (.int R) ∧ w' = wX (upd O 9 (nI l')) P' Y g ∧ l' ≤ 20 ∧ ∀ i, i ≠ 32 → P' i = P0 i) := by
  intro c
  induction c with
  | zero =>
    intro i l hc hl P hP x1 e1
    subst e1
    iterate 5 (refine zv_step (bX6_hearSpeech 1) rfl rfl trivial ?_)
    refine zv_ift (show O 3 ≤ nI i by rw [hO]; exact nI_le (by omega) (by omega)) ?_
    iterate 3 (refine zv_step (bX6_hearSpeech 1) rfl rfl trivial ?_)
    exact zv_iret (bX6_hearSpeech 1) rfl (Or.inl rfl) (Nat.zero_le _) (Nat.zero_le _) ⟨l, P, _, rfl, rfl, hl, hP⟩
  | succ c ih =>
    intro i l hc hl P hP x1 e1
    subst e1
    iterate 5 (refine zv_step (bX6_hearSpeech 1) rfl rfl trivial ?_)
    refine zv_iff (show ¬ O 3 ≤ nI i by rw [hO]; exact nI_ge (by omega) (by omega)) ?_
    iterate 6 (refine zv_step (bX6_hearSpeech 1) rfl rfl trivial ?_)
    refine zv_step (bX6_hearSpeech 1) rfl rfl (show vp_in (nI i) 80 from vp_in_nI (by omega) (by decide)) ?_
    refine zv_V1 (bX6_hearSpeech 1) rfl rfl rfl rfl rfl rfl rfl ⟨rfl, rfl, rfl⟩ ⟨by decide, by decide⟩ ⟨Nat.zero_le _, Nat.zero_le _⟩ (hAdd (upd O 9 (nI l)) P Y g hl rfl _) ?_
    rintro _ _ ⟨rfl, ⟨hq9, rfl⟩ | ⟨hq9, rfl⟩⟩
    · rw [upd2]
      iterate 2 (refine zv_step (bX6_hearSpeech 1) rfl rfl trivial ?_)
      exact ih (i + 1) (l + 1) (by omega) (by omega) (fun j hj => (updA_ne _ _ hj).trans (hP j hj)) (nI_1 i)
    · iterate 2 (refine zv_step (bX6_hearSpeech 1) rfl rfl trivial ?_)
      exact ih (i + 1) l (by omega) (by omega) hP (nI_1 i)
set_option maxHeartbeats 1000000 in
set_option maxRecDepth 20000 in
theorem cHearSpeech (O : Nat → Int32) (P : Nat → Nat → Int32) (Y : Nat → Nat → Int64) (g : Nat → zC) {q l : Nat} (hq : q < 2 ^ 30) (hO : O 3 = nI q) (hl : l ≤ 20) : zK 1 zX6_hearSpeech [.ref 0] (wX (upd O 9 (nI l)) P Y g) (fun r w' => ∃ (l' : Nat) (P' : Nat → Nat → Int32) (R : Int32), r = some (.int R) ∧ w' = wX (upd O 9 (nI l')) P' Y g ∧ l' ≤ 20 ∧ ∀ i, i ≠ 32 → P' i = P i) := by
  refine zK_of qX6_hearSpeech (by decide +kernel) rfl ?_
  iterate 5 (refine zv_step (bX6_hearSpeech 1) rfl rfl trivial ?_)
  refine zv_ifb (fun h1 => ?_) (fun h1 => ?_)
  · have h1 : O 3 ≤ c8 20 := h1
    rw [hO, show c8 20 = nI 20 from rfl, nI_leI (by omega) (by decide)] at h1
    iterate 6 (refine zv_step (bX6_hearSpeech 1) rfl rfl trivial ?_)
    refine zv_world (show wX (upd (upd O 9 (nI l)) 9 (nI 0)) P Y g = wX (upd O 9 (nI 0)) P Y g by rw [upd2]) ?_
    exact cHsL O P Y g h1 hO q 0 0 (by omega) (by omega) (fun _ _ => rfl) rfl
  · iterate 1 (refine zv_step (bX6_hearSpeech 1) rfl rfl trivial ?_)
    exact zv_iret (bX6_hearSpeech 1) rfl (Or.inl rfl) (Nat.zero_le _) (Nat.zero_le _) ⟨l, P, _, rfl, rfl, hl, fun _ _ => rfl⟩
set_option maxHeartbeats 1000000 in
set_option maxRecDepth 20000 in
theorem cDigitOf (w : zW) (x y : Int32) : zK 0 zX6_digitOf [.int x, .int y] w (fun r w' => w' = w ∧ ∃ v : Int32, r = some (.int v)) := by
  refine zK_of qX6_digitOf (by decide +kernel) rfl ?_
  iterate 7 (refine zv_step (bX6_digitOf 0) rfl rfl trivial ?_)
  exact zv_iret (bX6_digitOf 0) rfl (Or.inl rfl) (Nat.zero_le _) (Nat.zero_le _) ⟨rfl, _, rfl⟩
set_option maxHeartbeats 1000000 in
set_option maxRecDepth 20000 in
theorem cHe2 (O : Nat → Int32) (P0 : Nat → Nat → Int32) (Y : Nat → Nat → Int64) (g : Nat → zC) {n : Nat} (hn : n ≤ 5) (y : Int32) {n0 : Nat} : ∀ (i l : Nat), i ≤ n → l ≤ 20 → ∀ {P : Nat → Nat → Int32}, (∀ i, i ≠ 32 → P i = P0 i) → ∀ {x3 : Int32}, x3 = nI i - Int32.ofInt 1 → zV (zMo 1 zX6_hear) false n0 0 0 58 [(3, .int x3), (0, .ref 0), (1, .int (nI n)), (2, .int y)] [] (wX (upd O 9 (nI l)) P Y g) (fun r w' => ∃ (l' : Nat) (P' : Nat → Nat → Int32) (R : Int32), r = some (.int R) ∧ w' = wX (upd O 9 (nI l')) P' Y g ∧ l' ≤ 20 ∧ ∀ i, i ≠ 32 → P' i = P0 i) := by
  intro i
  induction i with
  | zero =>
    intro l hc hl P hP x3 e3
    subst e3
    iterate 2 (refine zv_step (bX6_hear 1) rfl rfl trivial ?_)
    refine zv_ift (show nI 0 - Int32.ofInt 1 < 0 by decide) ?_
    iterate 3 (refine zv_step (bX6_hear 1) rfl rfl trivial ?_)
    exact zv_iret (bX6_hear 1) rfl (Or.inl rfl) (Nat.zero_le _) (Nat.zero_le _) ⟨l, P, _, rfl, rfl, hl, hP⟩
  | succ i ih =>
    intro l hc hl P hP x3 e3
    rw [sub_1 (by omega), Nat.add_sub_cancel] at e3
    subst e3
    iterate 2 (refine zv_step (bX6_hear 1) rfl rfl trivial ?_)
    refine zv_iff (show ¬ nI i < 0 by rw [show (0 : Int32) = nI 0 from rfl]; exact nI_nlt (by omega) (by omega)) ?_
    iterate 4 (refine zv_step (bX6_hear 1) rfl rfl trivial ?_)
    refine zv_S2 (bX6_hear 1) rfl rfl rfl rfl ⟨rfl, rfl, rfl⟩ ⟨by decide, by decide⟩ ⟨Nat.zero_le _, Nat.zero_le _⟩ (cDigitOf _ _ _) ?_
    rintro _ _ ⟨rfl, v9, rfl⟩
    refine zv_V1 (bX6_hear 1) rfl rfl rfl rfl rfl rfl rfl ⟨rfl, rfl, rfl⟩ ⟨by decide, by decide⟩ ⟨Nat.zero_le _, Nat.zero_le _⟩ (hAdd (upd O 9 (nI l)) P Y g hl rfl _) ?_
    rintro _ _ ⟨rfl, ⟨hq9, rfl⟩ | ⟨hq9, rfl⟩⟩
    · rw [upd2]
      iterate 2 (refine zv_step (bX6_hear 1) rfl rfl trivial ?_)
      exact ih (l + 1) (by omega) (by omega) (fun j hj => (updA_ne _ _ hj).trans (hP j hj)) (show nI i + Int32.ofInt (-1) = nI i - Int32.ofInt 1 by rw [Int32.sub_eq_add_neg]; rfl)
    · iterate 2 (refine zv_step (bX6_hear 1) rfl rfl trivial ?_)
      exact ih l (by omega) (by omega) hP (show nI i + Int32.ofInt (-1) = nI i - Int32.ofInt 1 by rw [Int32.sub_eq_add_neg]; rfl)
set_option maxHeartbeats 1000000 in
set_option maxRecDepth 20000 in
theorem cHe1 (O : Nat → Int32) (P : Nat → Nat → Int32) (Y : Nat → Nat → Int64) (g : Nat → zC) {n l : Nat} (hn : n ≤ 5) (hn1 : 1 ≤ n) (hl : l ≤ 20) (y : Int32) {n0 : Nat} : ∀ (c i : Nat), i + c = n → ∀ {x3 : Int32}, x3 = nI i → zV (zMo 1 zX6_hear) false n0 0 0 14 [(3, .int x3), (0, .ref 0), (1, .int (nI n)), (2, .int y)] [] (wX (upd O 9 (nI l)) P Y g) (fun r w' => ∃ (l' : Nat) (P' : Nat → Nat → Int32) (R : Int32), r = some (.int R) ∧ w' = wX (upd O 9 (nI l')) P' Y g ∧ l' ≤ 20 ∧ ∀ i, i ≠ 32 → P' i = P i) := by
  intro c
  induction c with
  | zero =>
    intro i hc x3 e3
    subst e3
    iterate 3 (refine zv_step (bX6_hear 1) rfl rfl trivial ?_)
    refine zv_ift (nI_le (by omega) (by omega)) ?_
    iterate 7 (refine zv_step (bX6_hear 1) rfl rfl trivial ?_)
    refine zv_ifb (fun h1 => ?_) (fun h1 => ?_)
    · iterate 4 (refine zv_step (bX6_hear 1) rfl rfl trivial ?_)
      exact cHe2 O P Y g hn y n l (Nat.le_refl _) hl (fun _ _ => rfl) rfl
    · iterate 1 (refine zv_step (bX6_hear 1) rfl rfl trivial ?_)
      exact zv_iret (bX6_hear 1) rfl (Or.inl rfl) (Nat.zero_le _) (Nat.zero_le _) ⟨l, P, _, rfl, rfl, hl, fun _ _ => rfl⟩
  | succ c ih =>
    intro i hc x3 e3
    subst e3
    iterate 3 (refine zv_step (bX6_hear 1) rfl rfl trivial ?_)
    refine zv_iff (nI_ge (by omega) (by omega)) ?_
    iterate 2 (refine zv_step (bX6_hear 1) rfl rfl trivial ?_)
    refine zv_S2 (bX6_hear 1) rfl rfl rfl rfl ⟨rfl, rfl, rfl⟩ ⟨by decide, by decide⟩ ⟨Nat.zero_le _, Nat.zero_le _⟩ (cDigitOf _ _ _) ?_
    rintro _ _ ⟨rfl, v9, rfl⟩
    iterate 2 (refine zv_step (bX6_hear 1) rfl rfl trivial ?_)
    refine zv_ifb (fun h1 => ?_) (fun h1 => ?_)
    · iterate 2 (refine zv_step (bX6_hear 1) rfl rfl trivial ?_)
      exact ih (i + 1) (by omega) (nI_1 i)
    · iterate 1 (refine zv_step (bX6_hear 1) rfl rfl trivial ?_)
      exact zv_iret (bX6_hear 1) rfl (Or.inl rfl) (Nat.zero_le _) (Nat.zero_le _) ⟨l, P, _, rfl, rfl, hl, fun _ _ => rfl⟩
set_option maxHeartbeats 1000000 in
set_option maxRecDepth 20000 in
theorem cHear (O : Nat → Int32) (P : Nat → Nat → Int32) (Y : Nat → Nat → Int64) (g : Nat → zC) {l : Nat} (hl : l ≤ 20) (x y : Int32) : zK 1 zX6_hear [.ref 0, .int x, .int y] (wX (upd O 9 (nI l)) P Y g) (fun r w' => ∃ (l' : Nat) (P' : Nat → Nat → Int32) (R : Int32), r = some (.int R) ∧ w' = wX (upd O 9 (nI l')) P' Y g ∧ l' ≤ 20 ∧ ∀ i, i ≠ 32 → P' i = P i) := by
  refine zK_of qX6_hear (by decide +kernel) rfl ?_
  iterate 3 (refine zv_step (bX6_hear 1) rfl rfl trivial ?_)
  refine zv_ifb (fun h1 => ?_) (fun h1 => ?_)
  · iterate 1 (refine zv_step (bX6_hear 1) rfl rfl trivial ?_)
    exact zv_iret (bX6_hear 1) rfl (Or.inl rfl) (Nat.zero_le _) (Nat.zero_le _) ⟨l, P, _, rfl, rfl, hl, fun _ _ => rfl⟩
  · iterate 3 (refine zv_step (bX6_hear 1) rfl rfl trivial ?_)
    refine zv_ifb (fun h2 => ?_) (fun h2 => ?_)
    · obtain ⟨n, hn1, hn, rfl⟩ : ∃ n : Nat, 1 ≤ n ∧ n ≤ 5 ∧ x = nI n := by
        have h1 : ¬ x < Int32.ofInt 1 := h1
        have h2 : x ≤ Int32.ofInt 5 := h2
        rw [Int32.lt_iff_toInt_lt, show (Int32.ofInt 1).toInt = 1 from rfl] at h1
        rw [Int32.le_iff_toInt_le, show (Int32.ofInt 5).toInt = 5 from rfl] at h2
        refine ⟨x.toInt.toNat, by omega, by omega, ?_⟩
        rw [← Int32.toInt_inj, nI_toInt (by omega)]
        omega
      iterate 2 (refine zv_step (bX6_hear 1) rfl rfl trivial ?_)
      exact cHe1 O P Y g hn hn1 hl y n 0 (by omega) rfl
    · iterate 1 (refine zv_step (bX6_hear 1) rfl rfl trivial ?_)
      exact zv_iret (bX6_hear 1) rfl (Or.inl rfl) (Nat.zero_le _) (Nat.zero_le _) ⟨l, P, _, rfl, rfl, hl, fun _ _ => rfl⟩
