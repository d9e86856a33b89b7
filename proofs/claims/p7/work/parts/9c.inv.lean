set_option maxHeartbeats 1000000 in
set_option maxRecDepth 20000 in
theorem cUndo2 (O : Nat → Int32) (P : Nat → Nat → Int32) (Y : Nat → Nat → Int64) (g : Nat → zC) {u : Nat} (hu : u ≤ 120) (hb : O 13 = 0 ∨ O 13 = 1) : zK 1 zX6_undo [.ref 0] (wX (upd O 1 (nI u)) P Y g) (fun r w' => ∃ R : Int32, r = some (.int R) ∧ (w' = (wX (upd O 1 (nI u)) P Y g) ∨ (0 < u ∧ w' = wX (upd O 1 (nI (u - 1))) P Y g ∧ (O 13 = 1 → ¬ P 56 0 = nI (u - 1))))) := by
  refine zK_of qX6_undo (by decide +kernel) rfl ?_
  iterate 4 (refine zv_step (bX6_undo 1) rfl rfl trivial ?_)
  refine zv_ifb (fun h7 => ?_) (fun h7 => ?_)
  · have h0 : u ≠ 0 := fun e => h7 (by show nI u = 0; rw [e]; rfl)
    iterate 2 (refine zv_step (bX6_undo 1) rfl rfl trivial ?_)
    refine zv_V0 (bX6_undo 1) rfl rfl rfl rfl rfl rfl rfl ⟨rfl, rfl, rfl⟩ ⟨by decide, by decide⟩ ⟨Nat.zero_le _, Nat.zero_le _⟩ (wBegun (upd O 1 (nI u)) P Y g hb) ?_
    rintro _ _ ⟨rfl, rfl⟩
    iterate 1 (refine zv_step (bX6_undo 1) rfl rfl trivial ?_)
    refine zv_ifb (fun h19 => ?_) (fun h19 => ?_)
    · iterate 10 (refine zv_step (bX6_undo 1) rfl rfl trivial ?_)
      exact zv_iret (bX6_undo 1) rfl (Or.inl rfl) (Nat.zero_le _) (Nat.zero_le _) ⟨_, rfl, Or.inr ⟨by omega, by rw [← show nI u - Int32.ofInt 1 = nI (u - 1) from sub_1 (by omega)]; rfl, fun h => absurd (show O 13 = 0 from h19) (by rw [h]; decide)⟩⟩
    · iterate 2 (refine zv_step (bX6_undo 1) rfl rfl trivial ?_)
      refine zv_V0 (bX6_undo 1) rfl rfl rfl rfl rfl rfl rfl ⟨rfl, rfl, rfl⟩ ⟨by decide, by decide⟩ ⟨Nat.zero_le _, Nat.zero_le _⟩ (wTop (upd O 1 (nI u)) P Y g) ?_
      rintro _ _ ⟨rfl, rfl⟩
      iterate 6 (refine zv_step (bX6_undo 1) rfl rfl trivial ?_)
      refine zv_ifb (fun h38 => ?_) (fun h38 => ?_)
      · iterate 10 (refine zv_step (bX6_undo 1) rfl rfl trivial ?_)
        exact zv_iret (bX6_undo 1) rfl (Or.inl rfl) (Nat.zero_le _) (Nat.zero_le _) ⟨_, rfl, Or.inr ⟨by omega, by rw [← show nI u - Int32.ofInt 1 = nI (u - 1) from sub_1 (by omega)]; rfl, fun h => fun e => h38 (show P 56 0 = nI u - Int32.ofInt 1 by rw [sub_1 (by omega)]; exact e)⟩⟩
      · iterate 1 (refine zv_step (bX6_undo 1) rfl rfl trivial ?_)
        exact zv_iret (bX6_undo 1) rfl (Or.inl rfl) (Nat.zero_le _) (Nat.zero_le _) ⟨_, rfl, Or.inl rfl⟩
  · iterate 1 (refine zv_step (bX6_undo 1) rfl rfl trivial ?_)
    exact zv_iret (bX6_undo 1) rfl (Or.inl rfl) (Nat.zero_le _) (Nat.zero_le _) ⟨_, rfl, Or.inl rfl⟩
set_option maxHeartbeats 1000000 in
set_option maxRecDepth 20000 in
theorem cWalk2 (O : Nat → Int32) (P : Nat → Nat → Int32) (Y : Nat → Nat → Int64) (g : Nat → zC) {u : Nat} (hu : u ≤ 120) (hO : O 1 = nI u) (x : Int32) : zK 1 zX6_walk [.ref 0, .int x] (wX O P Y g) (fun r w' => (∃ R : Int32, r = some (.int R)) ∧ (w' = wX O P Y g ∨ ∃ n : Nat, n < u ∧ w' = wX (upd (upd O 13 (Int32.ofInt 1)) 14 (Int32.ofInt 0)) (updA P 56 (upd (P 56) 0 (nI n))) Y g)) := by
  refine zK_of qX6_walk (by decide +kernel) rfl ?_
  iterate 3 (refine zv_step (bX6_walk 1) rfl rfl trivial ?_)
  refine zv_V1 (bX6_walk 1) rfl rfl rfl rfl rfl rfl rfl ⟨rfl, rfl, rfl⟩ ⟨by decide, by decide⟩ ⟨Nat.zero_le _, Nat.zero_le _⟩ (pHas1 O P Y g _) ?_
  rintro _ _ ⟨rfl, ⟨h1, rfl⟩ | ⟨h1, rfl⟩⟩
  · obtain ⟨n, hn, rfl⟩ := has_j hu hO h1
    iterate 1 (refine zv_step (bX6_walk 1) rfl rfl trivial ?_)
    refine zv_ift (by decide) ?_
    iterate 3 (refine zv_step (bX6_walk 1) rfl rfl trivial ?_)
    refine zv_V1 (bX6_walk 1) rfl rfl rfl rfl rfl rfl rfl ⟨rfl, rfl, rfl⟩ ⟨by decide, by decide⟩ ⟨Nat.zero_le _, Nat.zero_le _⟩ (wBegin O P Y g _) ?_
    rintro _ _ ⟨rfl, rfl⟩
    iterate 1 (refine zv_step (bX6_walk 1) rfl rfl trivial ?_)
    exact zv_iret (bX6_walk 1) rfl (Or.inl rfl) (Nat.zero_le _) (Nat.zero_le _) ⟨⟨_, rfl⟩, Or.inr ⟨n, hn, rfl⟩⟩
  · skip
    iterate 1 (refine zv_step (bX6_walk 1) rfl rfl trivial ?_)
    refine zv_iff (by decide) ?_
    iterate 1 (refine zv_step (bX6_walk 1) rfl rfl trivial ?_)
    exact zv_iret (bX6_walk 1) rfl (Or.inl rfl) (Nat.zero_le _) (Nat.zero_le _) ⟨⟨_, rfl⟩, Or.inl rfl⟩
/-- what holds of the class between calls -/
def cI (u l d : Nat) (O : Nat → Int32) (P : Nat → Nat → Int32) (Y : Nat → Nat → Int64) : Prop := u ≤ 120 ∧ O 1 = nI u ∧ pgB 1 u P ∧ l ≤ 20 ∧ O 9 = nI l ∧ wyI Y ∧ d < 40 ∧ O 14 = nI d ∧ (O 13 = 0 ∨ O 13 = 1) ∧ (O 13 = 1 → ∃ t, t < u ∧ rtN t d (P 56)) ∧ (∀ s, s < 8 → ∃ m : Nat, m ≤ 60 ∧ O (24 + 10 * s) = nI m)
def cInv (O : Nat → Int32) (P : Nat → Nat → Int32) (Y : Nat → Nat → Int64) : Prop := ∃ u l d, cI u l d O P Y
/-- styles and meanings are as they were -/
def cSt (O : Nat → Int32) (P : Nat → Nat → Int32) (O' : Nat → Int32) (P' : Nat → Nat → Int32) : Prop := O' 0 = O 0 ∧ P' 75 = P 75
theorem cI_mk {O O' : Nat → Int32} {P P' : Nat → Nat → Int32} {Y Y' : Nat → Nat → Int64} {u l d : Nat} (h : cI u l d O P Y) {u' l' : Nat} (hu : u ≤ u') (hu2 : u' ≤ 120) (h1 : O' 1 = nI u') (hp : pgB 1 u' P') (hl : l' ≤ 20) (h9 : O' 9 = nI l') (hY : wyI Y') (h13 : O' 13 = O 13) (h14 : O' 14 = O 14) (h56 : P' 56 = P 56) (hs : ∀ s, s < 8 → ∃ m : Nat, m ≤ 60 ∧ O' (24 + 10 * s) = nI m) : cI u' l' d O' P' Y' := by
  obtain ⟨a1, a2, a3, a4, a5, a6, a7, a8, a9, a10, a11⟩ := h
  refine ⟨hu2, h1, hp, hl, h9, hY, a7, h14.trans a8, by rw [h13]; exact a9, fun e => ?_, hs⟩
  rw [h13] at e
  obtain ⟨t, ht, hr⟩ := a10 e
  exact ⟨t, by omega, by rw [h56]; exact hr⟩
theorem pgB_row {u : Nat} {P P' : Nat → Nat → Int32} (h : pgB 1 u P) (e : ∀ i, i ≤ 12 → P' i = P i) : pgB 1 u P' := by
  unfold pgB at h ⊢
  rw [e (1 + 1) (by decide), e (1 + 3) (by decide), e (1 + 4) (by decide), e (1 + 5) (by decide)]
  exact h
theorem cI_sp {O O' : Nat → Int32} {P P' : Nat → Nat → Int32} {Y : Nat → Nat → Int64} {u l d : Nat} (h : cI u l d O P Y) (q : spW O P O' P') : cInv O' P' Y ∧ cSt O P O' P' := by
  obtain ⟨⟨l', hl, h9⟩, hO, hP⟩ := q
  have f := fun (j : Nat) (e : j < 3 ∨ 9 < j) => hO j e
  refine ⟨⟨u, l', d, cI_mk h (Nat.le_refl _) h.1 ((f 1 (by decide)).trans h.2.1) (pgB_row h.2.2.1 (fun i hi => hP i (by omega) (by omega) (by omega))) hl h9 h.2.2.2.2.2.1 (f 13 (by decide)) (f 14 (by decide)) (hP 56 (by decide) (by decide) (by decide)) (fun s hs => ?_)⟩, f 0 (by decide), hP 75 (by decide) (by decide) (by decide)⟩
  rw [f (24 + 10 * s) (by omega)]
  exact h.2.2.2.2.2.2.2.2.2.2 s hs
theorem cI_gr {O O' : Nat → Int32} {P P' : Nat → Nat → Int32} {Y Y' : Nat → Nat → Int64} {u l d : Nat} (h : cI u l d O P Y) (q : grW O P u O' P' Y') : cInv O' P' Y' ∧ cSt O P O' P' := by
  obtain ⟨hY, ⟨u', h1, hu, hu2, hp⟩, hO, hP⟩ := q
  refine ⟨⟨u', l, d, cI_mk h hu hu2 h1 hp h.2.2.2.1 ((hO 9 (by decide) (by decide) (by decide) (by decide) (by decide)).trans h.2.2.2.2.1) hY (hO 13 (by decide) (by decide) (by decide) (by decide) (by decide)) (hO 14 (by decide) (by decide) (by decide) (by decide) (by decide)) (hP 56 (by decide)) (fun s hs => ?_)⟩, hO 0 (by decide) (by decide) (by decide) (by decide) (by decide), hP 75 (by decide)⟩
  rw [hO (24 + 10 * s) (by omega) (by omega) (by omega) (by omega) (by omega)]
  exact h.2.2.2.2.2.2.2.2.2.2 s hs
theorem cI_sh {O O' : Nat → Int32} {P P' : Nat → Nat → Int32} {Y : Nat → Nat → Int64} {u l d : Nat} (h : cI u l d O P Y) {s : Nat} (hs : s < 8) (q : shW O P s O' P') : cInv O' P' Y ∧ cSt O P O' P' := by
  obtain ⟨hO, hP, hL⟩ := q
  refine ⟨⟨u, l, d, cI_mk h (Nat.le_refl _) h.1 ((hO 1 (by omega)).trans h.2.1) (pgB_row h.2.2.1 (fun i hi => hP i (by omega))) h.2.2.2.1 ((hO 9 (by omega)).trans h.2.2.2.2.1) h.2.2.2.2.2.1 (hO 13 (by omega)) (hO 14 (by omega)) (hP 56 (by omega)) (fun s2 hs2 => ?_)⟩, hO 0 (by omega), hP 75 (by omega)⟩
  by_cases e : s2 = s
  · subst e
    rcases hL with e | e
    · rw [e]
      exact h.2.2.2.2.2.2.2.2.2.2 s2 hs2
    · exact e
  · rw [hO (24 + 10 * s2) (by omega)]
    exact h.2.2.2.2.2.2.2.2.2.2 s2 hs2
theorem cI_pg {O : Nat → Int32} {P P' : Nat → Nat → Int32} {Y : Nat → Nat → Int64} {u l d : Nat} (h : cI u l d O P Y) {u' : Nat} (q : pgX 1 u P u' P') : cInv (upd O 1 (nI u')) P' Y ∧ cSt O P (upd O 1 (nI u')) P' := by
  obtain ⟨hu, hu2, hp, _, hP⟩ := q
  refine ⟨⟨u', l, d, cI_mk h hu hu2 (upd_self _ _ _) hp h.2.2.2.1 ((upd_ne _ _ (by decide)).trans h.2.2.2.2.1) h.2.2.2.2.2.1 (upd_ne _ _ (by decide)) (upd_ne _ _ (by decide)) (hP 56 (by omega)) (fun s hs => ?_)⟩, upd_ne _ _ (by decide), hP 75 (by omega)⟩
  rw [upd_ne _ _ (by omega)]
  exact h.2.2.2.2.2.2.2.2.2.2 s hs
theorem cI_13 {O : Nat → Int32} {P : Nat → Nat → Int32} {Y : Nat → Nat → Int64} {u l d : Nat} (h : cI u l d O P Y) (R : Nat → Int32) : cInv O (updA P 13 R) Y ∧ cSt O P O (updA P 13 R) :=
  ⟨⟨u, l, d, cI_mk h (Nat.le_refl _) h.1 h.2.1 (pgB_row h.2.2.1 (fun i hi => updA_ne _ _ (by omega))) h.2.2.2.1 h.2.2.2.2.1 h.2.2.2.2.2.1 rfl rfl (updA_ne _ _ (by decide)) h.2.2.2.2.2.2.2.2.2.2⟩, rfl, updA_ne _ _ (by decide)⟩
theorem cI_un {O : Nat → Int32} {P : Nat → Nat → Int32} {Y : Nat → Nat → Int64} {u l d : Nat} (h : cI u l d O P Y) (h0 : 0 < u) (ht : O 13 = 1 → ¬ P 56 0 = nI (u - 1)) : cInv (upd O 1 (nI (u - 1))) P Y ∧ cSt O P (upd O 1 (nI (u - 1))) P := by
  obtain ⟨a1, a2, a3, a4, a5, a6, a7, a8, a9, a10, a11⟩ := h
  refine ⟨⟨u - 1, l, d, by omega, upd_self _ _ _, fun n hn => a3 n (by omega), a4, (upd_ne _ _ (by decide)).trans a5, a6, a7, (upd_ne _ _ (by decide)).trans a8, by rw [upd_ne _ _ (by decide)]; exact a9, fun e => ?_, fun s hs => ?_⟩, upd_ne _ _ (by decide), rfl⟩
  · rw [upd_ne _ _ (by decide)] at e
    obtain ⟨t, ht2, hr⟩ := a10 e
    refine ⟨t, ?_, hr⟩
    rcases Nat.lt_or_ge t (u - 1) with g | g
    · exact g
    · exact absurd (by rw [show u - 1 = t by omega]; exact hr.1) (ht e)
  · rw [upd_ne _ _ (by omega)]
    exact a11 s hs
theorem cI_wk {O : Nat → Int32} {P : Nat → Nat → Int32} {Y : Nat → Nat → Int64} {u l d : Nat} (h : cI u l d O P Y) {n : Nat} (hn : n < u) : cInv (upd (upd O 13 (Int32.ofInt 1)) 14 (Int32.ofInt 0)) (updA P 56 (upd (P 56) 0 (nI n))) Y ∧ cSt O P (upd (upd O 13 (Int32.ofInt 1)) 14 (Int32.ofInt 0)) (updA P 56 (upd (P 56) 0 (nI n))) := by
  obtain ⟨a1, a2, a3, a4, a5, a6, a7, a8, a9, a10, a11⟩ := h
  refine ⟨⟨u, l, 0, a1, a2, pgB_row a3 (fun i hi => updA_ne _ _ (by omega)), a4, a5, a6, by decide, rfl, Or.inr rfl, fun _ => ⟨n, hn, ?_⟩, fun s hs => ?_⟩, rfl, updA_ne _ _ (by decide)⟩
  · rw [updA_self]
    exact ⟨upd_self _ _ _, fun i hi => ⟨n, Nat.le_refl _, by rw [show i = 0 by omega]; exact upd_self _ _ _⟩⟩
  · rw [upd_ne _ _ (by omega), upd_ne _ _ (by omega)]
    exact a11 s hs
theorem cI_go {O : Nat → Int32} {P : Nat → Nat → Int32} {Y : Nat → Nat → Int64} {u l d : Nat} (h : cI u l d O P Y) {d' : Nat} {N D : Nat → Int32} (hd : d' < 40) (hr : O 13 = 1 → ∃ t, t < u ∧ rtN t d' N) : cInv (upd O 14 (nI d')) (updA (updA P 56 N) 57 D) Y ∧ cSt O P (upd O 14 (nI d')) (updA (updA P 56 N) 57 D) := by
  obtain ⟨a1, a2, a3, a4, a5, a6, a7, a8, a9, a10, a11⟩ := h
  refine ⟨⟨u, l, d', a1, a2, pgB_row a3 (fun i hi => by rw [updA_ne _ _ (by omega), updA_ne _ _ (by omega)]), a4, a5, a6, hd, upd_self _ _ _, a9, hr, fun s hs => ?_⟩, rfl, by rw [updA_ne _ _ (by decide), updA_ne _ _ (by decide)]⟩
  rw [upd_ne _ _ (by omega)]
  exact a11 s hs
theorem cI_hr {O : Nat → Int32} {P P' : Nat → Nat → Int32} {Y : Nat → Nat → Int64} {u l d : Nat} (h : cI u l d O P Y) {l' : Nat} (hl : l' ≤ 20) (hP : ∀ i, i ≠ 32 → P' i = P i) : cInv (upd O 9 (nI l')) P' Y ∧ cSt O P (upd O 9 (nI l')) P' := by
  refine ⟨⟨u, l', d, cI_mk h (Nat.le_refl _) h.1 ((upd_ne _ _ (by decide)).trans h.2.1) (pgB_row h.2.2.1 (fun i hi => hP i (by omega))) hl (upd_self _ _ _) h.2.2.2.2.2.1 (upd_ne _ _ (by decide)) (upd_ne _ _ (by decide)) (hP 56 (by decide)) (fun s hs => ?_)⟩, upd_ne _ _ (by decide), hP 75 (by decide)⟩
  rw [upd_ne _ _ (by omega)]
  exact h.2.2.2.2.2.2.2.2.2.2 s hs
theorem cI_ty {O O' : Nat → Int32} {P : Nat → Nat → Int32} {Y Y' : Nat → Nat → Int64} {u l d : Nat} (h : cI u l d O P Y) (hY : wyI Y → wyI Y') (hO : ∀ j, j ≠ 10 → j ≠ 11 → j ≠ 12 → O' j = O j) : cInv O' P Y' ∧ cSt O P O' P := by
  refine ⟨⟨u, l, d, cI_mk h (Nat.le_refl _) h.1 ((hO 1 (by decide) (by decide) (by decide)).trans h.2.1) h.2.2.1 h.2.2.2.1 ((hO 9 (by decide) (by decide) (by decide)).trans h.2.2.2.2.1) (hY h.2.2.2.2.2.1) (hO 13 (by decide) (by decide) (by decide)) (hO 14 (by decide) (by decide) (by decide)) rfl (fun s hs => ?_)⟩, hO 0 (by decide) (by decide) (by decide), rfl⟩
  rw [hO (24 + 10 * s) (by omega) (by omega) (by omega)]
  exact h.2.2.2.2.2.2.2.2.2.2 s hs
theorem cI_mn {O : Nat → Int32} {P : Nat → Nat → Int32} {Y : Nat → Nat → Int64} {u l d : Nat} (h : cI u l d O P Y) (x : Int32) : cInv (upd O 0 x) P Y := by
  refine ⟨u, l, d, cI_mk h (Nat.le_refl _) h.1 ((upd_ne _ _ (by decide)).trans h.2.1) h.2.2.1 h.2.2.2.1 ((upd_ne _ _ (by decide)).trans h.2.2.2.2.1) h.2.2.2.2.2.1 (upd_ne _ _ (by decide)) (upd_ne _ _ (by decide)) rfl (fun s hs => ?_)⟩
  rw [upd_ne _ _ (by omega)]
  exact h.2.2.2.2.2.2.2.2.2.2 s hs
theorem cI_ks {O : Nat → Int32} {P : Nat → Nat → Int32} {Y : Nat → Nat → Int64} {u l d : Nat} (h : cI u l d O P Y) (R : Nat → Int32) : cInv O (updA P 75 R) Y :=
  ⟨u, l, d, cI_mk h (Nat.le_refl _) h.1 h.2.1 (pgB_row h.2.2.1 (fun i hi => updA_ne _ _ (by omega))) h.2.2.2.1 h.2.2.2.2.1 h.2.2.2.2.2.1 rfl rfl (updA_ne _ _ (by decide)) h.2.2.2.2.2.2.2.2.2.2⟩
theorem cSt_refl (O : Nat → Int32) (P : Nat → Nat → Int32) : cSt O P O P := ⟨rfl, rfl⟩
/-- what holds of the reference between calls -/
def mI (u h d : Nat) (o : Nat → Int32) (A : Nat → Nat → Int32) : Prop := u ≤ 120 ∧ o 0 = nI u ∧ tbI 0 u A ∧ blI A ∧ h ≤ 20 ∧ o 10 = nI h ∧ nnW h (A 8) ∧ d ≤ 39 ∧ o 33 = nI d ∧ (o 30 = 0 ∨ o 30 = 1) ∧ (o 30 = 1 → ∃ t, t < u ∧ rtM A t d (A 20)) ∧ szS A
def mInv (o : Nat → Int32) (A : Nat → Nat → Int32) : Prop := ∃ u h d, mI u h d o A
def mSt (A A' : Nat → Nat → Int32) : Prop := A' 6 = A 6 ∧ A' 7 = A 7
theorem rtM_fr {A A' : Nat → Nat → Int32} {u t d : Nat} {N : Nat → Int32} (ht : t < u) (e : ∀ i, i < u → A' 4 i = A 4 i) (h : rtM A t d N) : rtM A' t d N := ⟨h.1, fun i hi => by
  obtain ⟨j, hj, e2, hz⟩ := h.2 i hi
  refine ⟨j, hj, e2, ?_⟩
  unfold szN at hz ⊢
  rw [e j (by omega)]
  exact hz⟩
theorem blI_r {A A' : Nat → Nat → Int32} (h : blI A) (e : mSt A A') : blI A' := ⟨fun i => by rw [e.1]; exact h.1 i, fun i => by rw [e.2]; exact h.2 i⟩
theorem szS_r {A A' : Nat → Nat → Int32} (h : szS A) (e : A' 12 = A 12) : szS A' := fun d hd => by rw [e]; exact h d hd
theorem mI_mk {o o' : Nat → Int32} {A A' : Nat → Nat → Int32} {u h d : Nat} (H : mI u h d o A) {u' h' : Nat} (hu : u ≤ u') (hu2 : u' ≤ 120) (h0 : o' 0 = nI u') (hT : tbI 0 u' A') (e : mSt A A') (hh : h' ≤ 20) (h10 : o' 10 = nI h') (hw : nnW h' (A' 8)) (h33 : o' 33 = o 33) (h30 : o' 30 = o 30) (e20 : A' 20 = A 20) (e4 : ∀ i, i < u → A' 4 i = A 4 i) (hS : szS A') : mInv o' A' := by
  obtain ⟨a1, a2, a3, a4, a5, a6, a7, a8, a9, a10, a11, a12⟩ := H
  refine ⟨u', h', d, hu2, h0, hT, blI_r a4 e, hh, h10, hw, a8, h33.trans a9, by rw [h30]; exact a10, fun q => ?_, hS⟩
  rw [h30] at q
  obtain ⟨t, ht, hr⟩ := a11 q
  exact ⟨t, by omega, by rw [e20]; exact rtM_fr ht e4 hr⟩
theorem mI_nd {o : Nat → Int32} {A A' : Nat → Nat → Int32} {u h d : Nat} (H : mI u h d o A) {u' : Nat} (q : ndX u A u' A') : mInv (upd o 0 (nI u')) A' ∧ mSt A A' := by
  obtain ⟨hu, hu2, hT, hr, hf⟩ := q
  exact ⟨mI_mk H hu hu2 (upd_self _ _ _) hT ⟨hr 6 (by decide), hr 7 (by decide)⟩ H.2.2.2.2.1 ((upd_ne _ _ (by decide)).trans H.2.2.2.2.2.1) (by rw [hr 8 (by decide)]; exact H.2.2.2.2.2.2.1) (upd_ne _ _ (by decide)) (upd_ne _ _ (by decide)) (hr 20 (by decide)) (fun i hi => hf 4 i hi) (szS_r H.2.2.2.2.2.2.2.2.2.2.2 (hr 12 (by decide))), hr 6 (by decide), hr 7 (by decide)⟩
theorem mI_y {o o' : Nat → Int32} {A A' : Nat → Nat → Int32} {u h d : Nat} (H : mI u h d o A) (q : ndY o u A o' A') : mInv o' A' ∧ mSt A A' := by
  obtain ⟨⟨u', hu, hu2, h0, hT⟩, ho, hr, hf⟩ := q
  exact ⟨mI_mk H hu hu2 h0 hT ⟨hr 6 (by decide), hr 7 (by decide)⟩ H.2.2.2.2.1 ((ho 10 (by decide) (by decide) (by decide)).trans H.2.2.2.2.2.1) (by rw [hr 8 (by decide)]; exact H.2.2.2.2.2.2.1) (ho 33 (by decide) (by decide) (by decide)) (ho 30 (by decide) (by decide) (by decide)) (hr 20 (by decide)) (fun i hi => hf 4 i hi) (szS_r H.2.2.2.2.2.2.2.2.2.2.2 (hr 12 (by decide))), hr 6 (by decide), hr 7 (by decide)⟩
theorem mI_q {o o' : Nat → Int32} {A A' : Nat → Nat → Int32} {u h d : Nat} (H : mI u h d o A) (q : qX o A o' A') : mInv o' A' ∧ mSt A A' := by
  have hr := fun (r : Nat) (a : r ≠ 14) (b : r ≠ 15) => q.2 r a b
  exact ⟨mI_mk H (Nat.le_refl _) H.1 ((q.1 0 (by decide)).trans H.2.1) (tbI_q H.2.2.1 q) ⟨hr 6 (by decide) (by decide), hr 7 (by decide) (by decide)⟩ H.2.2.2.2.1 ((q.1 10 (by decide)).trans H.2.2.2.2.2.1) (by rw [hr 8 (by decide) (by decide)]; exact H.2.2.2.2.2.2.1) (q.1 33 (by decide)) (q.1 30 (by decide)) (hr 20 (by decide) (by decide)) (fun i _ => by rw [hr 4 (by decide) (by decide)]) (szS_r H.2.2.2.2.2.2.2.2.2.2.2 (hr 12 (by decide) (by decide))), hr 6 (by decide) (by decide), hr 7 (by decide) (by decide)⟩
theorem mI_e {o o' : Nat → Int32} {A A' : Nat → Nat → Int32} {u h d : Nat} (H : mI u h d o A) (q : eX o A o' A') : mInv o' A' ∧ mSt A A' := by
  obtain ⟨⟨h', hh, h10, hw⟩, ho, hr⟩ := q
  exact ⟨mI_mk H (Nat.le_refl _) H.1 ((ho 0 (by decide) (by decide)).trans H.2.1) (tbI_fr H.2.2.1 (fun r hr0 i _ _ => by rw [hr r (by omega) (by omega) (by omega)])) ⟨hr 6 (by decide) (by decide) (by decide), hr 7 (by decide) (by decide) (by decide)⟩ hh h10 hw (ho 33 (by decide) (by decide)) (ho 30 (by decide) (by decide)) (hr 20 (by decide) (by decide) (by decide)) (fun i _ => by rw [hr 4 (by decide) (by decide) (by decide)]) (szS_r H.2.2.2.2.2.2.2.2.2.2.2 (hr 12 (by decide) (by decide) (by decide))), hr 6 (by decide) (by decide) (by decide), hr 7 (by decide) (by decide) (by decide)⟩
theorem mI_f {o o' : Nat → Int32} {A A' : Nat → Nat → Int32} {u h d : Nat} (H : mI u h d o A) (q : fwX o A o' A') : mInv o' A' ∧ mSt A A' := by
  obtain ⟨⟨h', hh, h10, hw⟩, ho, hr⟩ := q
  exact ⟨mI_mk H (Nat.le_refl _) H.1 ((ho 0 (by decide) (by decide) (by decide)).trans H.2.1) (tbI_fr H.2.2.1 (fun r hr0 i _ _ => by rw [hr r (by omega) (by omega) (by omega)])) ⟨hr 6 (by decide) (by decide) (by decide), hr 7 (by decide) (by decide) (by decide)⟩ hh h10 hw (ho 33 (by decide) (by decide) (by decide)) (ho 30 (by decide) (by decide) (by decide)) (hr 20 (by decide) (by decide) (by decide)) (fun i _ => by rw [hr 4 (by decide) (by decide) (by decide)]) (szS_r H.2.2.2.2.2.2.2.2.2.2.2 (hr 12 (by decide) (by decide) (by decide))), hr 6 (by decide) (by decide) (by decide), hr 7 (by decide) (by decide) (by decide)⟩
theorem mI_cl {o o' : Nat → Int32} {A A' : Nat → Nat → Int32} {u h d : Nat} (H : mI u h d o A) (q : clX o A o' A') : mInv o' A' ∧ mSt A A' := by
  obtain ⟨ho, hf, hr⟩ := q
  have hu := H.1
  exact ⟨mI_mk H (Nat.le_refl _) H.1 ((ho 0 (by decide)).trans H.2.1) (tbI_fr H.2.2.1 (fun r hr0 i _ hi => hf r i (by omega) (by omega))) ⟨hr 6 (by decide) (by decide), hr 7 (by decide) (by decide)⟩ H.2.2.2.2.1 ((ho 10 (by decide)).trans H.2.2.2.2.2.1) (by rw [hr 8 (by decide) (by decide)]; exact H.2.2.2.2.2.2.1) (ho 33 (by decide)) (ho 30 (by decide)) (hr 20 (by decide) (by decide)) (fun i hi => hf 4 i (by omega) (by decide)) (szS_r H.2.2.2.2.2.2.2.2.2.2.2 (hr 12 (by decide) (by decide))), hr 6 (by decide) (by decide), hr 7 (by decide) (by decide)⟩
theorem mI_sh {o o' : Nat → Int32} {A A' : Nat → Nat → Int32} {u h d : Nat} (H : mI u h d o A) (q : shM o A o' A') : mInv o' A' ∧ mSt A A' := by
  obtain ⟨ho, hr, hS⟩ := q
  exact ⟨mI_mk H (Nat.le_refl _) H.1 ((ho 0 (by decide)).trans H.2.1) (tbI_fr H.2.2.1 (fun r hr0 i _ _ => by rw [hr r (by omega) (by omega)])) ⟨hr 6 (by decide) (by decide), hr 7 (by decide) (by decide)⟩ H.2.2.2.2.1 ((ho 10 (by decide)).trans H.2.2.2.2.2.1) (by rw [hr 8 (by decide) (by decide)]; exact H.2.2.2.2.2.2.1) (ho 33 (by decide)) (ho 30 (by decide)) (hr 20 (by decide) (by decide)) (fun i _ => by rw [hr 4 (by decide) (by decide)]) hS, hr 6 (by decide) (by decide), hr 7 (by decide) (by decide)⟩
theorem mI_o {o o' : Nat → Int32} {A : Nat → Nat → Int32} {u h d : Nat} (H : mI u h d o A) (ho : ∀ j, j ≠ 16 → j ≠ 28 → o' j = o j) : mInv o' A ∧ mSt A A :=
  ⟨mI_mk H (Nat.le_refl _) H.1 ((ho 0 (by decide) (by decide)).trans H.2.1) H.2.2.1 ⟨rfl, rfl⟩ H.2.2.2.2.1 ((ho 10 (by decide) (by decide)).trans H.2.2.2.2.2.1) H.2.2.2.2.2.2.1 (ho 33 (by decide) (by decide)) (ho 30 (by decide) (by decide)) rfl (fun i _ => rfl) H.2.2.2.2.2.2.2.2.2.2.2, rfl, rfl⟩
theorem mI_hr {o : Nat → Int32} {A : Nat → Nat → Int32} {u h d : Nat} (H : mI u h d o A) {h' : Nat} {g : Nat → Int32} (hh : h' ≤ 20) (hw : nnW h' g) : mInv (upd o 10 (nI h')) (updA A 8 g) ∧ mSt A (updA A 8 g) :=
  ⟨mI_mk H (Nat.le_refl _) H.1 ((upd_ne _ _ (by decide)).trans H.2.1) (tbI_u H.2.2.1 (by decide) _) ⟨updA_ne _ _ (by decide), updA_ne _ _ (by decide)⟩ hh (upd_self _ _ _) (by rw [updA_self]; exact hw) (upd_ne _ _ (by decide)) (upd_ne _ _ (by decide)) (updA_ne _ _ (by decide)) (fun i _ => by rw [updA_ne _ _ (by decide)]) (szS_r H.2.2.2.2.2.2.2.2.2.2.2 (updA_ne _ _ (by decide))), updA_ne _ _ (by decide), updA_ne _ _ (by decide)⟩
theorem mI_hu {o : Nat → Int32} {A : Nat → Nat → Int32} {u h d : Nat} (H : mI u h d o A) : mInv (upd o 10 (Int32.ofInt 0)) A ∧ mSt A A :=
  ⟨mI_mk H (Nat.le_refl _) H.1 ((upd_ne _ _ (by decide)).trans H.2.1) H.2.2.1 ⟨rfl, rfl⟩ (Nat.zero_le 20) (upd_self _ _ _) (fun i hi => absurd hi (by omega)) (upd_ne _ _ (by decide)) (upd_ne _ _ (by decide)) rfl (fun i _ => rfl) H.2.2.2.2.2.2.2.2.2.2.2, rfl, rfl⟩
theorem mI_un {o : Nat → Int32} {A : Nat → Nat → Int32} {u h d : Nat} (H : mI u h d o A) (h0 : 0 < u) (ht : o 30 = 1 → ¬ A 20 0 = nI (u - 1)) : mInv (upd o 0 (nI (u - 1))) A ∧ mSt A A := by
  obtain ⟨a1, a2, a3, a4, a5, a6, a7, a8, a9, a10, a11, a12⟩ := H
  refine ⟨⟨u - 1, h, d, by omega, upd_self _ _ _, tbI_le a3 (by omega), a4, a5, (upd_ne _ _ (by decide)).trans a6, a7, a8, (upd_ne _ _ (by decide)).trans a9, by rw [upd_ne _ _ (by decide)]; exact a10, fun e => ?_, a12⟩, rfl, rfl⟩
  rw [upd_ne _ _ (by decide)] at e
  obtain ⟨t, ht2, hr⟩ := a11 e
  refine ⟨t, ?_, hr⟩
  rcases Nat.lt_or_ge t (u - 1) with g | g
  · exact g
  · exact absurd (by rw [show u - 1 = t by omega]; exact hr.1) (ht e)
theorem mI_wk {o : Nat → Int32} {A : Nat → Nat → Int32} {u h d : Nat} (H : mI u h d o A) {n : Nat} (hn : n < u) : mInv (upd (upd o 30 (Int32.ofInt 1)) 33 (Int32.ofInt 0)) (updA A 20 (upd (A 20) 0 (nI n))) ∧ mSt A (updA A 20 (upd (A 20) 0 (nI n))) := by
  obtain ⟨a1, a2, a3, a4, a5, a6, a7, a8, a9, a10, a11, a12⟩ := H
  refine ⟨⟨u, h, 0, a1, a2, tbI_u a3 (by decide) _, blI_r a4 ⟨updA_ne _ _ (by decide), updA_ne _ _ (by decide)⟩, a5, a6, by rw [updA_ne _ _ (by decide)]; exact a7, by decide, rfl, Or.inr rfl, fun _ => ⟨n, hn, ?_⟩, szS_r a12 (updA_ne _ _ (by decide))⟩, updA_ne _ _ (by decide), updA_ne _ _ (by decide)⟩
  rw [updA_self]
  refine ⟨upd_self _ _ _, fun i hi => ⟨n, Nat.le_refl _, by rw [show i = 0 by omega]; exact upd_self _ _ _, ?_⟩⟩
  have := (rN_sz (a3 n (Nat.zero_le _) hn)).2.1
  show szN A n + i ≤ 40
  omega
theorem mI_go {o : Nat → Int32} {A : Nat → Nat → Int32} {u h d : Nat} (H : mI u h d o A) {d' : Nat} {N D : Nat → Int32} (hd : d' ≤ 39) (hr : o 30 = 1 → ∃ t, t < u ∧ rtM A t d' N) : mInv (upd o 33 (nI d')) (updA (updA A 20 N) 21 D) ∧ mSt A (updA (updA A 20 N) 21 D) := by
  obtain ⟨a1, a2, a3, a4, a5, a6, a7, a8, a9, a10, a11, a12⟩ := H
  have e : ∀ r, r ≠ 20 → r ≠ 21 → updA (updA A 20 N) 21 D r = A r := fun r a b => by rw [updA_ne _ _ b, updA_ne _ _ a]
  refine ⟨⟨u, h, d', a1, a2, tbI_u (tbI_u a3 (by decide) _) (by decide) _, blI_r a4 ⟨e 6 (by decide) (by decide), e 7 (by decide) (by decide)⟩, a5, a6, by rw [e 8 (by decide) (by decide)]; exact a7, hd, upd_self _ _ _, a10, fun q => ?_, szS_r a12 (e 12 (by decide) (by decide))⟩, e 6 (by decide) (by decide), e 7 (by decide) (by decide)⟩
  obtain ⟨t, ht, k⟩ := hr q
  exact ⟨t, ht, rtM_fr ht (fun i _ => by rw [e 4 (by decide) (by decide)]) k⟩
theorem mI_b {o : Nat → Int32} {A : Nat → Nat → Int32} {u h d : Nat} (H : mI u h d o A) {r : Nat} (hr : r = 6 ∨ r = 7) {i : Nat} {v : Int32} (hv : v = 0 ∨ v = 1) : mInv o (updA A r (upd (A r) i v)) := by
  obtain ⟨a1, a2, a3, a4, a5, a6, a7, a8, a9, a10, a11, a12⟩ := H
  have e : ∀ q, q ≠ r → updA A r (upd (A r) i v) q = A q := fun q a => updA_ne _ _ a
  have ub : ∀ (g : Nat → Int32) (j : Nat), (g j = 0 ∨ g j = 1) → (upd g i v j = 0 ∨ upd g i v j = 1) := fun g j hg => by
    by_cases q : j = i
    · subst q
      rw [upd_self]
      exact hv
    · rw [upd_ne _ _ q]
      exact hg
  refine ⟨u, h, d, a1, a2, tbI_u a3 (by omega) _, ⟨fun j => ?_, fun j => ?_⟩, a5, a6, by rw [e 8 (by omega)]; exact a7, a8, a9, a10, fun q => ?_, szS_r a12 (e 12 (by omega))⟩
  · by_cases q : 6 = r
    · subst q
      rw [updA_self]
      exact ub _ _ (a4.1 j)
    · rw [e 6 q]
      exact a4.1 j
  · by_cases q : 7 = r
    · subst q
      rw [updA_self]
      exact ub _ _ (a4.2 j)
    · rw [e 7 q]
      exact a4.2 j
  · obtain ⟨t, ht, k⟩ := a11 q
    exact ⟨t, ht, by rw [e 20 (by omega)]; exact rtM_fr ht (fun i _ => by rw [e 4 (by omega)]) k⟩
/-! bits -/
def bt (m k : Nat) : Int32 := if m.testBit k then 1 else 0
set_option maxRecDepth 100000 in
theorem hb_bt : ∀ m, m < 1024 → ∀ k, k < 10 → hbW (nI m) (nI k) = bt m k := by decide +kernel
set_option maxRecDepth 100000 in
theorem wb_1 : ∀ m, m < 1024 → ∀ k, k < 10 → wbW (nI m) (nI k) 1 = nI (m ||| 2 ^ k) := by decide +kernel
set_option maxRecDepth 100000 in
theorem wb_0 : ∀ m, m < 1024 → ∀ k, k < 10 → wbW (nI m) (nI k) 0 = nI (m &&& (1023 ^^^ 2 ^ k)) := by decide +kernel
theorem t1023 : ∀ j, j < 10 → Nat.testBit 1023 j = true := by decide
def wbN (m k : Nat) (on : Int32) : Nat := if on = 1 then m ||| 2 ^ k else m &&& (1023 ^^^ 2 ^ k)
theorem wb_N {m k : Nat} (hm : m < 1024) (hk : k < 10) {on : Int32} (hon : on = 0 ∨ on = 1) : wbW (nI m) (nI k) on = nI (wbN m k on) := by
  rcases hon with rfl | rfl
  · exact wb_0 m hm k hk
  · exact wb_1 m hm k hk
theorem wbN_lt {m k : Nat} (hm : m < 1024) (hk : k < 10) (on : Int32) : wbN m k on < 1024 := by
  unfold wbN
  split
  · exact Nat.or_lt_two_pow (n := 10) hm (Nat.pow_lt_pow_right (by decide) hk)
  · exact Nat.lt_of_le_of_lt Nat.and_le_left hm
theorem wbN_t {m k j : Nat} (hj : j < 10) {on : Int32} (hon : on = 0 ∨ on = 1) : bt (wbN m k on) j = if j = k then on else bt m j := by
  unfold bt wbN
  rcases hon with rfl | rfl
  · rw [if_neg (show ¬ (0 : Int32) = 1 by decide), Nat.testBit_and, Nat.testBit_xor, t1023 j hj, Nat.testBit_two_pow]
    by_cases e : j = k
    · subst e
      simp
    · rw [if_neg e]
      have : decide (k = j) = false := decide_eq_false (fun h => e h.symm)
      rw [this]
      simp
  · rw [if_pos rfl, Nat.testBit_or, Nat.testBit_two_pow]
    by_cases e : j = k
    · subst e
      simp
    · rw [if_neg e]
      have : decide (k = j) = false := decide_eq_false (fun h => e h.symm)
      rw [this]
      simp
theorem bt_inj {m n : Nat} (hm : m < 1024) (hn : n < 1024) (h : ∀ j, j < 10 → bt m j = bt n j) : m = n := by
  apply Nat.eq_of_testBit_eq
  intro j
  by_cases hj : j < 10
  · have := h j hj
    unfold bt at this
    by_cases a : m.testBit j = true <;> by_cases b : n.testBit j = true
    · rw [a, b]
    · rw [if_pos a, if_neg b] at this
      exact absurd this (by decide)
    · rw [if_neg a, if_pos b] at this
      exact absurd this (by decide)
    · rw [Bool.not_eq_true] at a b
      rw [a, b]
  · rw [Nat.testBit_lt_two_pow (Nat.lt_of_lt_of_le hm (Nat.pow_le_pow_right (n := 2) (i := 10) (by decide) (by omega))), Nat.testBit_lt_two_pow (Nat.lt_of_lt_of_le hn (Nat.pow_le_pow_right (n := 2) (i := 10) (by decide) (by omega)))]
theorem wbN_eq {m k : Nat} (hm : m < 1024) (hk : k < 10) {on : Int32} (hon : on = 0 ∨ on = 1) : wbN m k on = m ↔ bt m k = on := by
  constructor
  · intro h
    have := wbN_t (m := m) (k := k) hk hon
    rw [h, if_pos rfl] at this
    exact this
  · intro h
    refine bt_inj (wbN_lt hm hk on) hm (fun j hj => ?_)
    rw [wbN_t hj hon]
    split
    · rename_i e
      rw [e, h]
    · rfl
/-- styles and meanings, here and there -/
def kpR (P : Nat → Nat → Int32) (A : Nat → Nat → Int32) : Prop := ∀ s, s < 8 → ∃ m, m < 1024 ∧ P 75 s = nI m ∧ ∀ k, k < 10 → A 7 (10 * s + k) = bt m k
def fnR (O : Nat → Int32) (A : Nat → Nat → Int32) : Prop := ∃ m, m < 1024 ∧ O 0 = nI m ∧ ∀ v, v < 10 → A 6 v = bt m v
def LI (O : Nat → Int32) (P : Nat → Nat → Int32) (Y : Nat → Nat → Int64) (o : Nat → Int32) (A : Nat → Nat → Int32) : Prop := cInv O P Y ∧ mInv o A ∧ kpR P A ∧ fnR O A
theorem LI_mk {O O' : Nat → Int32} {P P' : Nat → Nat → Int32} {Y Y' : Nat → Nat → Int64} {o o' : Nat → Int32} {A A' : Nat → Nat → Int32} (h : LI O P Y o A) (c : cInv O' P' Y' ∧ cSt O P O' P') (m : mInv o' A' ∧ mSt A A') : LI O' P' Y' o' A' := by
  refine ⟨c.1, m.1, fun s hs => ?_, ?_⟩
  · obtain ⟨x, hx, e, hk⟩ := h.2.2.1 s hs
    exact ⟨x, hx, by rw [c.2.2]; exact e, fun k hk0 => by rw [m.2.2]; exact hk k hk0⟩
  · obtain ⟨x, hx, e, hk⟩ := h.2.2.2
    exact ⟨x, hx, by rw [c.2.1]; exact e, fun k hk0 => by rw [m.2.1]; exact hk k hk0⟩
theorem e764 : ∀ k, k < 10 → (hbW (Int16.ofInt 764).toInt32 (nI k) = Int32.ofInt 1 ↔ (2 ≤ k ∧ k ≠ 8)) := by decide +kernel
theorem k_of {k : Int32} (h1 : ¬ k < 0) (h2 : ¬ c8 9 < k) : ∃ n : Nat, n < 10 ∧ k = nI n := by
  rw [Int32.lt_iff_toInt_lt, Int32.toInt_zero] at h1
  rw [Int32.lt_iff_toInt_lt, show (c8 9).toInt = 9 from rfl] at h2
  refine ⟨k.toInt.toNat, by omega, ?_⟩
  rw [← Int32.toInt_inj, nI_toInt (by omega)]
  omega
/-- keeps answers alike and keeps the relation -/
theorem keeps_ok {P : Nat → Nat → Int32} {A : Nat → Nat → Int32} {s k : Nat} {on : Int32} (h : kpR P A) (hs : s < 8) (hk : k < 10) (hon : on = 0 ∨ on = 1) : kpR (updA P 75 (upd (P 75) s (wbW (P 75 s) (nI k) on))) (updA A 7 (upd (A 7) (10 * s + k) on)) ∧ (wbW (P 75 s) (nI k) on = P 75 s ↔ A 7 (10 * s + k) = on) := by
  obtain ⟨m, hm, e, hb⟩ := h s hs
  have hw := wb_N hm hk hon
  constructor
  · intro s2 hs2
    by_cases q : s2 = s
    · subst q
      refine ⟨wbN m k on, wbN_lt hm hk on, ?_, fun j hj => ?_⟩
      · rw [updA_self, upd_self, e, hw]
      · rw [updA_self, wbN_t hj hon]
        by_cases w : j = k
        · subst w
          rw [upd_self, if_pos rfl]
        · rw [upd_ne _ _ (by omega), if_neg w]
          exact hb j hj
    · obtain ⟨m2, hm2, e2, hb2⟩ := h s2 hs2
      refine ⟨m2, hm2, ?_, fun j hj => ?_⟩
      · rw [updA_self, upd_ne _ _ q]
        exact e2
      · rw [updA_self, upd_ne _ _ (by omega)]
        exact hb2 j hj
  · rw [e, hw, hb k hk, nI_eq (by have := wbN_lt hm hk on; omega) (by omega)]
    exact wbN_eq hm hk hon
theorem means_ok {O : Nat → Int32} {A : Nat → Nat → Int32} {v : Nat} {on : Int32} (h : fnR O A) (hk : v < 10) (hon : on = 0 ∨ on = 1) : fnR (upd O 0 (wbW (O 0) (nI v) on)) (updA A 6 (upd (A 6) v on)) ∧ (wbW (O 0) (nI v) on = O 0 ↔ A 6 v = on) := by
  obtain ⟨m, hm, e, hb⟩ := h
  have hw := wb_N hm hk hon
  constructor
  · refine ⟨wbN m v on, wbN_lt hm hk on, ?_, fun j hj => ?_⟩
    · rw [upd_self, e, hw]
    · rw [updA_self, wbN_t hj hon]
      by_cases w : j = v
      · subst w
        rw [upd_self, if_pos rfl]
      · rw [upd_ne _ _ w, if_neg w]
        exact hb j hj
  · rw [e, hw, hb v hk, nI_eq (by have := wbN_lt hm hk on; omega) (by omega)]
    exact wbN_eq hm hk hon
/-- at the beginning -/
theorem A00_6 (i : Nat) : A00 6 i = 0 := rfl
theorem ub_1 {g : Nat → Int32} (h : ∀ j, g j = 0 ∨ g j = 1) (i : Nat) {v : Int32} (hv : v = 0 ∨ v = 1) : ∀ j, upd g i v j = 0 ∨ upd g i v j = 1 := fun j => by
  by_cases q : j = i
  · subst q
    rw [upd_self]
    exact hv
  · rw [upd_ne _ _ q]
    exact h j
theorem A00_7 : ∀ i, A00 7 i = 0 ∨ A00 7 i = 1 := ub_1 (ub_1 (ub_1 (ub_1 (ub_1 (ub_1 (ub_1 (ub_1 (fun _ => Or.inl rfl) 2 (Or.inr rfl)) 3 (Or.inr rfl)) 4 (Or.inr rfl)) 5 (Or.inr rfl)) 6 (Or.inr rfl)) 7 (Or.inr rfl)) 8 (Or.inl rfl)) 9 (Or.inr rfl)
theorem LI_0 : LI O00 P00 (fun _ _ => 0) o00 A00 := by
  refine ⟨⟨0, 0, 0, by decide, rfl, fun n hn => absurd hn (by omega), by decide, rfl, fun i j _ _ => ⟨show (0 : Int) ≤ (0 : Int64).toInt by decide, by
    show (0 : Int64).toInt ≤ _
    exact Int.natCast_nonneg _⟩, by decide, rfl, Or.inl rfl, fun e => absurd e (by decide), fun s hs => ⟨0, by decide, ?_⟩⟩, ⟨0, 0, 0, by decide, rfl, fun n _ hn => absurd hn (by omega), ⟨fun i => Or.inl (A00_6 i), A00_7⟩, by decide, rfl, fun i hi => absurd hi (by omega), by decide, rfl, Or.inl rfl, fun e => absurd e (by decide), fun d hd => ⟨0, by decide, rfl⟩⟩, ?_, ⟨0, by decide, rfl, fun v _ => ?_⟩⟩
  · show O00 (24 + 10 * s) = _
    unfold O00
    rw [if_neg (by omega)]
    rfl
  · intro s hs
    match s, hs with
    | 0, _ => exact ⟨764, by decide, rfl, by decide +kernel⟩
    | 1, _ => exact ⟨0, by decide, rfl, by decide +kernel⟩
    | 2, _ => exact ⟨0, by decide, rfl, by decide +kernel⟩
    | 3, _ => exact ⟨0, by decide, rfl, by decide +kernel⟩
    | 4, _ => exact ⟨0, by decide, rfl, by decide +kernel⟩
    | 5, _ => exact ⟨0, by decide, rfl, by decide +kernel⟩
    | 6, _ => exact ⟨0, by decide, rfl, by decide +kernel⟩
    | 7, _ => exact ⟨0, by decide, rfl, by decide +kernel⟩
    | s + 8, h => exact absurd h (by omega)
  · unfold bt
    rw [Nat.zero_testBit]
    rfl
