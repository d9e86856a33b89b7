section
/-- what holds of the class between calls -/
def cI (u l d : Nat) (O : Nat → Int32) (P : Nat → Nat → Int32) (Y : Nat → Nat → Int64) : Prop := u ≤ 120 ∧ O 1 = nI u ∧ pgB 1 u P ∧ l ≤ 20 ∧ O 9 = nI l ∧ wyI Y ∧ d < 40 ∧ O 14 = nI d ∧ (O 13 = 0 ∨ O 13 = 1) ∧ (O 13 = 1 → ∃ t, t < u ∧ rtN t d (P 56)) ∧ (∀ s, s < 8 → ∃ m : Nat, m ≤ 60 ∧ O (24 + 10 * s) = nI m)
def cInv (O : Nat → Int32) (P : Nat → Nat → Int32) (Y : Nat → Nat → Int64) : Prop := ∃ u l d, cI u l d O P Y
/-- styles and meanings are as they were -/
def cSt (O : Nat → Int32) (P : Nat → Nat → Int32) (O' : Nat → Int32) (P' : Nat → Nat → Int32) : Prop := O' 0 = O 0 ∧ P' 75 = P 75
theorem cI_mk {O O' : Nat → Int32} {P P' : Nat → Nat → Int32} {Y Y' : Nat → Nat → Int64} {u l d : Nat} (h : cI u l d O P Y) {u' l' : Nat} (hu : u ≤ u') (hu2 : u' ≤ 120) (h1 : O' 1 = nI u') (hp : pgB 1 u' P') (hl : l' ≤ 20) (h9 : O' 9 = nI l') (hY : wyI Y') (h13 : O' 13 = O 13) (h14 : O' 14 = O 14) (h56 : P' 56 = P 56) (hs : ∀ s, s < 8 → ∃ m : Nat, m ≤ 60 ∧ O' (24 + 10 * s) = nI m) : cI u' l' d O' P' Y' := by
  obtain ⟨a1, a2, a3, a4, a5, a6, a7, a8, a9, a10, a11⟩ := h
  refine ⟨hu2, h1, hp, hl, h9, hY, a7, h14.trans a8, by rw [h13]; exact a9, fun e => ?_, hs⟩
  rw [h13] at e
  obtain ⟨t, ht, hr⟩ := a10 e
  exact ⟨t, by omega, by rw [h56]; exact hr⟩
theorem pgB_row {u : Nat} {P P' : Nat → Nat → Int32} (h : pgB 1 u P) (e : ∀ i, i ≤ 12 → P' i = P i) : pgB 1 u P' := by
  unfold pgB at h ⊢
  rw [e (1 + 1) (by decide), e (1 + 3) (by decide), e (1 + 4) (by decide), e (1 + 5) (by decide)]
  exact h
theorem cI_sp {O O' : Nat → Int32} {P P' : Nat → Nat → Int32} {Y : Nat → Nat → Int64} {u l d : Nat} (h : cI u l d O P Y) (q : spW O P O' P') : cInv O' P' Y ∧ cSt O P O' P' := by
  obtain ⟨⟨l', hl, h9⟩, hO, hP⟩ := q
  have f := fun (j : Nat) (e : j < 3 ∨ 9 < j) => hO j e
  refine ⟨⟨u, l', d, cI_mk h (Nat.le_refl _) h.1 ((f 1 (by decide)).trans h.2.1) (pgB_row h.2.2.1 (fun i hi => hP i (by omega) (by omega) (by omega))) hl h9 h.2.2.2.2.2.1 (f 13 (by decide)) (f 14 (by decide)) (hP 56 (by decide) (by decide) (by decide)) (fun s hs => ?_)⟩, f 0 (by decide), hP 75 (by decide) (by decide) (by decide)⟩
  rw [f (24 + 10 * s) (by omega)]
  exact h.2.2.2.2.2.2.2.2.2.2 s hs
theorem cI_gr {O O' : Nat → Int32} {P P' : Nat → Nat → Int32} {Y Y' : Nat → Nat → Int64} {u l d : Nat} (h : cI u l d O P Y) (q : grW O P u O' P' Y') : cInv O' P' Y' ∧ cSt O P O' P' := by
  obtain ⟨hY, ⟨u', h1, hu, hu2, hp⟩, hO, hP⟩ := q
  refine ⟨⟨u', l, d, cI_mk h hu hu2 h1 hp h.2.2.2.1 ((hO 9 (by decide) (by decide) (by decide) (by decide) (by decide)).trans h.2.2.2.2.1) hY (hO 13 (by decide) (by decide) (by decide) (by decide) (by decide)) (hO 14 (by decide) (by decide) (by decide) (by decide) (by decide)) (hP 56 (by decide)) (fun s hs => ?_)⟩, hO 0 (by decide) (by decide) (by decide) (by decide) (by decide), hP 75 (by decide)⟩
  rw [hO (24 + 10 * s) (by omega) (by omega) (by omega) (by omega) (by omega)]
  exact h.2.2.2.2.2.2.2.2.2.2 s hs
theorem cI_sh {O O' : Nat → Int32} {P P' : Nat → Nat → Int32} {Y : Nat → Nat → Int64} {u l d : Nat} (h : cI u l d O P Y) {s : Nat} (hs : s < 8) (q : shW O P s O' P') : cInv O' P' Y ∧ cSt O P O' P' := by
  obtain ⟨hO, hP, hL⟩ := q
  refine ⟨⟨u, l, d, cI_mk h (Nat.le_refl _) h.1 ((hO 1 (by omega)).trans h.2.1) (pgB_row h.2.2.1 (fun i hi => hP i (by omega))) h.2.2.2.1 ((hO 9 (by omega)).trans h.2.2.2.2.1) h.2.2.2.2.2.1 (hO 13 (by omega)) (hO 14 (by omega)) (hP 56 (by omega)) (fun s2 hs2 => ?_)⟩, hO 0 (by omega), hP 75 (by omega)⟩
  by_cases e : s2 = s
  · subst e
    rcases hL with e | e
    · rw [e]
      exact h.2.2.2.2.2.2.2.2.2.2 s2 hs2
    · exact e
  · rw [hO (24 + 10 * s2) (by omega)]
    exact h.2.2.2.2.2.2.2.2.2.2 s2 hs2
theorem cI_13 {O : Nat → Int32} {P : Nat → Nat → Int32} {Y : Nat → Nat → Int64} {u l d : Nat} (h : cI u l d O P Y) (R : Nat → Int32) : cInv O (updA P 13 R) Y ∧ cSt O P O (updA P 13 R) :=
  ⟨⟨u, l, d, cI_mk h (Nat.le_refl _) h.1 h.2.1 (pgB_row h.2.2.1 (fun i hi => updA_ne _ _ (by omega))) h.2.2.2.1 h.2.2.2.2.1 h.2.2.2.2.2.1 rfl rfl (updA_ne _ _ (by decide)) h.2.2.2.2.2.2.2.2.2.2⟩, rfl, updA_ne _ _ (by decide)⟩
theorem cI_un {O : Nat → Int32} {P : Nat → Nat → Int32} {Y : Nat → Nat → Int64} {u l d : Nat} (h : cI u l d O P Y) (h0 : 0 < u) (ht : O 13 = 1 → ¬ P 56 0 = nI (u - 1)) : cInv (upd O 1 (nI (u - 1))) P Y ∧ cSt O P (upd O 1 (nI (u - 1))) P := by
  obtain ⟨a1, a2, a3, a4, a5, a6, a7, a8, a9, a10, a11⟩ := h
  refine ⟨⟨u - 1, l, d, by omega, upd_self _ _ _, fun n hn => a3 n (by omega), a4, (upd_ne _ _ (by decide)).trans a5, a6, a7, (upd_ne _ _ (by decide)).trans a8, by rw [upd_ne _ _ (by decide)]; exact a9, fun e => ?_, fun s hs => ?_⟩, upd_ne _ _ (by decide), rfl⟩
  · rw [upd_ne _ _ (by decide)] at e
    obtain ⟨t, ht2, hr⟩ := a10 e
    refine ⟨t, ?_, hr⟩
    rcases Nat.lt_or_ge t (u - 1) with g | g
    · exact g
    · exact absurd (by rw [show u - 1 = t by omega]; exact hr.1) (ht e)
  · rw [upd_ne _ _ (by omega)]
    exact a11 s hs
theorem cI_wk {O : Nat → Int32} {P : Nat → Nat → Int32} {Y : Nat → Nat → Int64} {u l d : Nat} (h : cI u l d O P Y) {n : Nat} (hn : n < u) : cInv (upd (upd O 13 (Int32.ofInt 1)) 14 (Int32.ofInt 0)) (updA P 56 (upd (P 56) 0 (nI n))) Y ∧ cSt O P (upd (upd O 13 (Int32.ofInt 1)) 14 (Int32.ofInt 0)) (updA P 56 (upd (P 56) 0 (nI n))) := by
  obtain ⟨a1, a2, a3, a4, a5, a6, a7, a8, a9, a10, a11⟩ := h
  refine ⟨⟨u, l, 0, a1, a2, pgB_row a3 (fun i hi => updA_ne _ _ (by omega)), a4, a5, a6, by decide, rfl, Or.inr rfl, fun _ => ⟨n, hn, ?_⟩, fun s hs => ?_⟩, rfl, updA_ne _ _ (by decide)⟩
  · rw [updA_self]
    exact ⟨upd_self _ _ _, fun i hi => ⟨n, Nat.le_refl _, by rw [show i = 0 by omega]; exact upd_self _ _ _⟩⟩
  · rw [upd_ne _ _ (by omega), upd_ne _ _ (by omega)]
    exact a11 s hs
theorem cI_go {O : Nat → Int32} {P : Nat → Nat → Int32} {Y : Nat → Nat → Int64} {u l d : Nat} (h : cI u l d O P Y) {d' : Nat} {N D : Nat → Int32} (hd : d' < 40) (hr : O 13 = 1 → ∃ t, t < u ∧ rtN t d' N) : cInv (upd O 14 (nI d')) (updA (updA P 56 N) 57 D) Y ∧ cSt O P (upd O 14 (nI d')) (updA (updA P 56 N) 57 D) := by
  obtain ⟨a1, a2, a3, a4, a5, a6, a7, a8, a9, a10, a11⟩ := h
  refine ⟨⟨u, l, d', a1, a2, pgB_row a3 (fun i hi => by rw [updA_ne _ _ (by omega), updA_ne _ _ (by omega)]), a4, a5, a6, hd, upd_self _ _ _, a9, hr, fun s hs => ?_⟩, rfl, by rw [updA_ne _ _ (by decide), updA_ne _ _ (by decide)]⟩
  rw [upd_ne _ _ (by omega)]
  exact a11 s hs
theorem cI_hr {O : Nat → Int32} {P P' : Nat → Nat → Int32} {Y : Nat → Nat → Int64} {u l d : Nat} (h : cI u l d O P Y) {l' : Nat} (hl : l' ≤ 20) (hP : ∀ i, i ≠ 32 → P' i = P i) : cInv (upd O 9 (nI l')) P' Y ∧ cSt O P (upd O 9 (nI l')) P' := by
  refine ⟨⟨u, l', d, cI_mk h (Nat.le_refl _) h.1 ((upd_ne _ _ (by decide)).trans h.2.1) (pgB_row h.2.2.1 (fun i hi => hP i (by omega))) hl (upd_self _ _ _) h.2.2.2.2.2.1 (upd_ne _ _ (by decide)) (upd_ne _ _ (by decide)) (hP 56 (by decide)) (fun s hs => ?_)⟩, upd_ne _ _ (by decide), hP 75 (by decide)⟩
  rw [upd_ne _ _ (by omega)]
  exact h.2.2.2.2.2.2.2.2.2.2 s hs
theorem cI_ty {O O' : Nat → Int32} {P : Nat → Nat → Int32} {Y Y' : Nat → Nat → Int64} {u l d : Nat} (h : cI u l d O P Y) (hY : wyI Y → wyI Y') (hO : ∀ j, j ≠ 10 → j ≠ 11 → j ≠ 12 → O' j = O j) : cInv O' P Y' ∧ cSt O P O' P := by
  refine ⟨⟨u, l, d, cI_mk h (Nat.le_refl _) h.1 ((hO 1 (by decide) (by decide) (by decide)).trans h.2.1) h.2.2.1 h.2.2.2.1 ((hO 9 (by decide) (by decide) (by decide)).trans h.2.2.2.2.1) (hY h.2.2.2.2.2.1) (hO 13 (by decide) (by decide) (by decide)) (hO 14 (by decide) (by decide) (by decide)) rfl (fun s hs => ?_)⟩, hO 0 (by decide) (by decide) (by decide), rfl⟩
  rw [hO (24 + 10 * s) (by omega) (by omega) (by omega)]
  exact h.2.2.2.2.2.2.2.2.2.2 s hs
theorem cI_mn {O : Nat → Int32} {P : Nat → Nat → Int32} {Y : Nat → Nat → Int64} {u l d : Nat} (h : cI u l d O P Y) (x : Int32) : cInv (upd O 0 x) P Y := by
  refine ⟨u, l, d, cI_mk h (Nat.le_refl _) h.1 ((upd_ne _ _ (by decide)).trans h.2.1) h.2.2.1 h.2.2.2.1 ((upd_ne _ _ (by decide)).trans h.2.2.2.2.1) h.2.2.2.2.2.1 (upd_ne _ _ (by decide)) (upd_ne _ _ (by decide)) rfl (fun s hs => ?_)⟩
  rw [upd_ne _ _ (by omega)]
  exact h.2.2.2.2.2.2.2.2.2.2 s hs
theorem cI_ks {O : Nat → Int32} {P : Nat → Nat → Int32} {Y : Nat → Nat → Int64} {u l d : Nat} (h : cI u l d O P Y) (R : Nat → Int32) : cInv O (updA P 75 R) Y :=
  ⟨u, l, d, cI_mk h (Nat.le_refl _) h.1 h.2.1 (pgB_row h.2.2.1 (fun i hi => updA_ne _ _ (by omega))) h.2.2.2.1 h.2.2.2.2.1 h.2.2.2.2.2.1 rfl rfl (updA_ne _ _ (by decide)) h.2.2.2.2.2.2.2.2.2.2⟩
theorem cSt_refl (O : Nat → Int32) (P : Nat → Nat → Int32) : cSt O P O P := ⟨rfl, rfl⟩
/-- what holds of the reference between calls -/
def mI (u h d : Nat) (o : Nat → Int32) (A : Nat → Nat → Int32) : Prop := u ≤ 120 ∧ o 0 = nI u ∧ tbI 0 u A ∧ blI A ∧ h ≤ 20 ∧ o 10 = nI h ∧ nnW h (A 8) ∧ d ≤ 39 ∧ o 33 = nI d ∧ (o 30 = 0 ∨ o 30 = 1) ∧ (o 30 = 1 → ∃ t, t < u ∧ rtM A t d (A 20)) ∧ szS A
def mInv (o : Nat → Int32) (A : Nat → Nat → Int32) : Prop := ∃ u h d, mI u h d o A
def mSt (A A' : Nat → Nat → Int32) : Prop := A' 6 = A 6 ∧ A' 7 = A 7
theorem rtM_fr {A A' : Nat → Nat → Int32} {u t d : Nat} {N : Nat → Int32} (ht : t < u) (e : ∀ i, i < u → A' 4 i = A 4 i) (h : rtM A t d N) : rtM A' t d N := ⟨h.1, fun i hi => by
  obtain ⟨j, hj, e2, hz⟩ := h.2 i hi
  refine ⟨j, hj, e2, ?_⟩
  unfold szN at hz ⊢
  rw [e j (by omega)]
  exact hz⟩
theorem blI_r {A A' : Nat → Nat → Int32} (h : blI A) (e : mSt A A') : blI A' := ⟨fun i => by rw [e.1]; exact h.1 i, fun i => by rw [e.2]; exact h.2 i⟩
theorem szS_r {A A' : Nat → Nat → Int32} (h : szS A) (e : A' 12 = A 12) : szS A' := fun d hd => by rw [e]; exact h d hd
theorem mI_mk {o o' : Nat → Int32} {A A' : Nat → Nat → Int32} {u h d : Nat} (H : mI u h d o A) {u' h' : Nat} (hu : u ≤ u') (hu2 : u' ≤ 120) (h0 : o' 0 = nI u') (hT : tbI 0 u' A') (e : mSt A A') (hh : h' ≤ 20) (h10 : o' 10 = nI h') (hw : nnW h' (A' 8)) (h33 : o' 33 = o 33) (h30 : o' 30 = o 30) (e20 : A' 20 = A 20) (e4 : ∀ i, i < u → A' 4 i = A 4 i) (hS : szS A') : mInv o' A' := by
  obtain ⟨a1, a2, a3, a4, a5, a6, a7, a8, a9, a10, a11, a12⟩ := H
  refine ⟨u', h', d, hu2, h0, hT, blI_r a4 e, hh, h10, hw, a8, h33.trans a9, by rw [h30]; exact a10, fun q => ?_, hS⟩
  rw [h30] at q
  obtain ⟨t, ht, hr⟩ := a11 q
  exact ⟨t, by omega, by rw [e20]; exact rtM_fr ht e4 hr⟩
theorem mI_nd {o : Nat → Int32} {A A' : Nat → Nat → Int32} {u h d : Nat} (H : mI u h d o A) {u' : Nat} (q : ndX u A u' A') : mInv (upd o 0 (nI u')) A' ∧ mSt A A' := by
  obtain ⟨hu, hu2, hT, hr, hf⟩ := q
  exact ⟨mI_mk H hu hu2 (upd_self _ _ _) hT ⟨hr 6 (by decide), hr 7 (by decide)⟩ H.2.2.2.2.1 ((upd_ne _ _ (by decide)).trans H.2.2.2.2.2.1) (by rw [hr 8 (by decide)]; exact H.2.2.2.2.2.2.1) (upd_ne _ _ (by decide)) (upd_ne _ _ (by decide)) (hr 20 (by decide)) (fun i hi => hf 4 i hi) (szS_r H.2.2.2.2.2.2.2.2.2.2.2 (hr 12 (by decide))), hr 6 (by decide), hr 7 (by decide)⟩
theorem mI_y {o o' : Nat → Int32} {A A' : Nat → Nat → Int32} {u h d : Nat} (H : mI u h d o A) (q : ndY o u A o' A') : mInv o' A' ∧ mSt A A' := by
  obtain ⟨⟨u', hu, hu2, h0, hT⟩, ho, hr, hf⟩ := q
  exact ⟨mI_mk H hu hu2 h0 hT ⟨hr 6 (by decide), hr 7 (by decide)⟩ H.2.2.2.2.1 ((ho 10 (by decide) (by decide) (by decide)).trans H.2.2.2.2.2.1) (by rw [hr 8 (by decide)]; exact H.2.2.2.2.2.2.1) (ho 33 (by decide) (by decide) (by decide)) (ho 30 (by decide) (by decide) (by decide)) (hr 20 (by decide)) (fun i hi => hf 4 i hi) (szS_r H.2.2.2.2.2.2.2.2.2.2.2 (hr 12 (by decide))), hr 6 (by decide), hr 7 (by decide)⟩
theorem mI_q {o o' : Nat → Int32} {A A' : Nat → Nat → Int32} {u h d : Nat} (H : mI u h d o A) (q : qX o A o' A') : mInv o' A' ∧ mSt A A' := by
  have hr := fun (r : Nat) (a : r ≠ 14) (b : r ≠ 15) => q.2 r a b
  exact ⟨mI_mk H (Nat.le_refl _) H.1 ((q.1 0 (by decide)).trans H.2.1) (tbI_q H.2.2.1 q) ⟨hr 6 (by decide) (by decide), hr 7 (by decide) (by decide)⟩ H.2.2.2.2.1 ((q.1 10 (by decide)).trans H.2.2.2.2.2.1) (by rw [hr 8 (by decide) (by decide)]; exact H.2.2.2.2.2.2.1) (q.1 33 (by decide)) (q.1 30 (by decide)) (hr 20 (by decide) (by decide)) (fun i _ => by rw [hr 4 (by decide) (by decide)]) (szS_r H.2.2.2.2.2.2.2.2.2.2.2 (hr 12 (by decide) (by decide))), hr 6 (by decide) (by decide), hr 7 (by decide) (by decide)⟩
theorem mI_e {o o' : Nat → Int32} {A A' : Nat → Nat → Int32} {u h d : Nat} (H : mI u h d o A) (q : eX o A o' A') : mInv o' A' ∧ mSt A A' := by
  obtain ⟨⟨h', hh, h10, hw⟩, ho, hr⟩ := q
  exact ⟨mI_mk H (Nat.le_refl _) H.1 ((ho 0 (by decide) (by decide)).trans H.2.1) (tbI_fr H.2.2.1 (fun r hr0 i _ _ => by rw [hr r (by omega) (by omega) (by omega)])) ⟨hr 6 (by decide) (by decide) (by decide), hr 7 (by decide) (by decide) (by decide)⟩ hh h10 hw (ho 33 (by decide) (by decide)) (ho 30 (by decide) (by decide)) (hr 20 (by decide) (by decide) (by decide)) (fun i _ => by rw [hr 4 (by decide) (by decide) (by decide)]) (szS_r H.2.2.2.2.2.2.2.2.2.2.2 (hr 12 (by decide) (by decide) (by decide))), hr 6 (by decide) (by decide) (by decide), hr 7 (by decide) (by decide) (by decide)⟩
theorem mI_f {o o' : Nat → Int32} {A A' : Nat → Nat → Int32} {u h d : Nat} (H : mI u h d o A) (q : fwX o A o' A') : mInv o' A' ∧ mSt A A' := by
  obtain ⟨⟨h', hh, h10, hw⟩, ho, hr⟩ := q
  exact ⟨mI_mk H (Nat.le_refl _) H.1 ((ho 0 (by decide) (by decide) (by decide)).trans H.2.1) (tbI_fr H.2.2.1 (fun r hr0 i _ _ => by rw [hr r (by omega) (by omega) (by omega)])) ⟨hr 6 (by decide) (by decide) (by decide), hr 7 (by decide) (by decide) (by decide)⟩ hh h10 hw (ho 33 (by decide) (by decide) (by decide)) (ho 30 (by decide) (by decide) (by decide)) (hr 20 (by decide) (by decide) (by decide)) (fun i _ => by rw [hr 4 (by decide) (by decide) (by decide)]) (szS_r H.2.2.2.2.2.2.2.2.2.2.2 (hr 12 (by decide) (by decide) (by decide))), hr 6 (by decide) (by decide) (by decide), hr 7 (by decide) (by decide) (by decide)⟩
theorem mI_cl {o o' : Nat → Int32} {A A' : Nat → Nat → Int32} {u h d : Nat} (H : mI u h d o A) (q : clX o A o' A') : mInv o' A' ∧ mSt A A' := by
  obtain ⟨ho, hf, hr⟩ := q
  have hu := H.1
  exact ⟨mI_mk H (Nat.le_refl _) H.1 ((ho 0 (by decide)).trans H.2.1) (tbI_fr H.2.2.1 (fun r hr0 i _ hi => hf r i (by omega) (by omega))) ⟨hr 6 (by decide) (by decide), hr 7 (by decide) (by decide)⟩ H.2.2.2.2.1 ((ho 10 (by decide)).trans H.2.2.2.2.2.1) (by rw [hr 8 (by decide) (by decide)]; exact H.2.2.2.2.2.2.1) (ho 33 (by decide)) (ho 30 (by decide)) (hr 20 (by decide) (by decide)) (fun i hi => hf 4 i (by omega) (by decide)) (szS_r H.2.2.2.2.2.2.2.2.2.2.2 (hr 12 (by decide) (by decide))), hr 6 (by decide) (by decide), hr 7 (by decide) (by decide)⟩
theorem mI_sh {o o' : Nat → Int32} {A A' : Nat → Nat → Int32} {u h d : Nat} (H : mI u h d o A) (q : shM o A o' A') : mInv o' A' ∧ mSt A A' := by
  obtain ⟨ho, hr, hS⟩ := q
  exact ⟨mI_mk H (Nat.le_refl _) H.1 ((ho 0 (by decide)).trans H.2.1) (tbI_fr H.2.2.1 (fun r hr0 i _ _ => by rw [hr r (by omega) (by omega)])) ⟨hr 6 (by decide) (by decide), hr 7 (by decide) (by decide)⟩ H.2.2.2.2.1 ((ho 10 (by decide)).trans H.2.2.2.2.2.1) (by rw [hr 8 (by decide) (by decide)]; exact H.2.2.2.2.2.2.1) (ho 33 (by decide)) (ho 30 (by decide)) (hr 20 (by decide) (by decide)) (fun i _ => by rw [hr 4 (by decide) (by decide)]) hS, hr 6 (by decide) (by decide), hr 7 (by decide) (by decide)⟩
theorem mI_o {o o' : Nat → Int32} {A : Nat → Nat → Int32} {u h d : Nat} (H : mI u h d o A) (ho : ∀ j, j ≠ 16 → j ≠ 28 → o' j = o j) : mInv o' A ∧ mSt A A :=
  ⟨mI_mk H (Nat.le_refl _) H.1 ((ho 0 (by decide) (by decide)).trans H.2.1) H.2.2.1 ⟨rfl, rfl⟩ H.2.2.2.2.1 ((ho 10 (by decide) (by decide)).trans H.2.2.2.2.2.1) H.2.2.2.2.2.2.1 (ho 33 (by decide) (by decide)) (ho 30 (by decide) (by decide)) rfl (fun i _ => rfl) H.2.2.2.2.2.2.2.2.2.2.2, rfl, rfl⟩
theorem mI_hr {o : Nat → Int32} {A : Nat → Nat → Int32} {u h d : Nat} (H : mI u h d o A) {h' : Nat} {g : Nat → Int32} (hh : h' ≤ 20) (hw : nnW h' g) : mInv (upd o 10 (nI h')) (updA A 8 g) ∧ mSt A (updA A 8 g) :=
  ⟨mI_mk H (Nat.le_refl _) H.1 ((upd_ne _ _ (by decide)).trans H.2.1) (tbI_u H.2.2.1 (by decide) _) ⟨updA_ne _ _ (by decide), updA_ne _ _ (by decide)⟩ hh (upd_self _ _ _) (by rw [updA_self]; exact hw) (upd_ne _ _ (by decide)) (upd_ne _ _ (by decide)) (updA_ne _ _ (by decide)) (fun i _ => by rw [updA_ne _ _ (by decide)]) (szS_r H.2.2.2.2.2.2.2.2.2.2.2 (updA_ne _ _ (by decide))), updA_ne _ _ (by decide), updA_ne _ _ (by decide)⟩
theorem mI_hu {o : Nat → Int32} {A : Nat → Nat → Int32} {u h d : Nat} (H : mI u h d o A) : mInv (upd o 10 (Int32.ofInt 0)) A ∧ mSt A A :=
  ⟨mI_mk H (Nat.le_refl _) H.1 ((upd_ne _ _ (by decide)).trans H.2.1) H.2.2.1 ⟨rfl, rfl⟩ (Nat.zero_le 20) (upd_self _ _ _) (fun i hi => absurd hi (by omega)) (upd_ne _ _ (by decide)) (upd_ne _ _ (by decide)) rfl (fun i _ => rfl) H.2.2.2.2.2.2.2.2.2.2.2, rfl, rfl⟩
theorem mI_un {o : Nat → Int32} {A : Nat → Nat → Int32} {u h d : Nat} (H : mI u h d o A) (h0 : 0 < u) (ht : o 30 = 1 → ¬ A 20 0 = nI (u - 1)) : mInv (upd o 0 (nI (u - 1))) A ∧ mSt A A := by
  obtain ⟨a1, a2, a3, a4, a5, a6, a7, a8, a9, a10, a11, a12⟩ := H
  refine ⟨⟨u - 1, h, d, by omega, upd_self _ _ _, tbI_le a3 (by omega), a4, a5, (upd_ne _ _ (by decide)).trans a6, a7, a8, (upd_ne _ _ (by decide)).trans a9, by rw [upd_ne _ _ (by decide)]; exact a10, fun e => ?_, a12⟩, rfl, rfl⟩
  rw [upd_ne _ _ (by decide)] at e
  obtain ⟨t, ht2, hr⟩ := a11 e
  refine ⟨t, ?_, hr⟩
  rcases Nat.lt_or_ge t (u - 1) with g | g
  · exact g
  · exact absurd (by rw [show u - 1 = t by omega]; exact hr.1) (ht e)
theorem mI_wk {o : Nat → Int32} {A : Nat → Nat → Int32} {u h d : Nat} (H : mI u h d o A) {n : Nat} (hn : n < u) : mInv (upd (upd o 30 (Int32.ofInt 1)) 33 (Int32.ofInt 0)) (updA A 20 (upd (A 20) 0 (nI n))) ∧ mSt A (updA A 20 (upd (A 20) 0 (nI n))) := by
  obtain ⟨a1, a2, a3, a4, a5, a6, a7, a8, a9, a10, a11, a12⟩ := H
  refine ⟨⟨u, h, 0, a1, a2, tbI_u a3 (by decide) _, blI_r a4 ⟨updA_ne _ _ (by decide), updA_ne _ _ (by decide)⟩, a5, a6, by rw [updA_ne _ _ (by decide)]; exact a7, by decide, rfl, Or.inr rfl, fun _ => ⟨n, hn, ?_⟩, szS_r a12 (updA_ne _ _ (by decide))⟩, updA_ne _ _ (by decide), updA_ne _ _ (by decide)⟩
  rw [updA_self]
  refine ⟨upd_self _ _ _, fun i hi => ⟨n, Nat.le_refl _, by rw [show i = 0 by omega]; exact upd_self _ _ _, ?_⟩⟩
  have := (rN_sz (a3 n (Nat.zero_le _) hn)).2.1
  show szN A n + i ≤ 40
  omega
theorem mI_go {o : Nat → Int32} {A : Nat → Nat → Int32} {u h d : Nat} (H : mI u h d o A) {d' : Nat} {N D : Nat → Int32} (hd : d' ≤ 39) (hr : o 30 = 1 → ∃ t, t < u ∧ rtM A t d' N) : mInv (upd o 33 (nI d')) (updA (updA A 20 N) 21 D) ∧ mSt A (updA (updA A 20 N) 21 D) := by
  obtain ⟨a1, a2, a3, a4, a5, a6, a7, a8, a9, a10, a11, a12⟩ := H
  have e : ∀ r, r ≠ 20 → r ≠ 21 → updA (updA A 20 N) 21 D r = A r := fun r a b => by rw [updA_ne _ _ b, updA_ne _ _ a]
  refine ⟨⟨u, h, d', a1, a2, tbI_u (tbI_u a3 (by decide) _) (by decide) _, blI_r a4 ⟨e 6 (by decide) (by decide), e 7 (by decide) (by decide)⟩, a5, a6, by rw [e 8 (by decide) (by decide)]; exact a7, hd, upd_self _ _ _, a10, fun q => ?_, szS_r a12 (e 12 (by decide) (by decide))⟩, e 6 (by decide) (by decide), e 7 (by decide) (by decide)⟩
  obtain ⟨t, ht, k⟩ := hr q
  exact ⟨t, ht, rtM_fr ht (fun i _ => by rw [e 4 (by decide) (by decide)]) k⟩
theorem mI_b {o : Nat → Int32} {A : Nat → Nat → Int32} {u h d : Nat} (H : mI u h d o A) {r : Nat} (hr : r = 6 ∨ r = 7) {i : Nat} {v : Int32} (hv : v = 0 ∨ v = 1) : mInv o (updA A r (upd (A r) i v)) := by
  obtain ⟨a1, a2, a3, a4, a5, a6, a7, a8, a9, a10, a11, a12⟩ := H
  have e : ∀ q, q ≠ r → updA A r (upd (A r) i v) q = A q := fun q a => updA_ne _ _ a
  have ub : ∀ (g : Nat → Int32) (j : Nat), (g j = 0 ∨ g j = 1) → (upd g i v j = 0 ∨ upd g i v j = 1) := fun g j hg => by
    by_cases q : j = i
    · subst q
      rw [upd_self]
      exact hv
    · rw [upd_ne _ _ q]
      exact hg
  refine ⟨u, h, d, a1, a2, tbI_u a3 (by omega) _, ⟨fun j => ?_, fun j => ?_⟩, a5, a6, by rw [e 8 (by omega)]; exact a7, a8, a9, a10, fun q => ?_, szS_r a12 (e 12 (by omega))⟩
  · by_cases q : 6 = r
    · subst q
      rw [updA_self]
      exact ub _ _ (a4.1 j)
    · rw [e 6 q]
      exact a4.1 j
  · by_cases q : 7 = r
    · subst q
      rw [updA_self]
      exact ub _ _ (a4.2 j)
    · rw [e 7 q]
      exact a4.2 j
  · obtain ⟨t, ht, k⟩ := a11 q
    exact ⟨t, ht, by rw [e 20 (by omega)]; exact rtM_fr ht (fun i _ => by rw [e 4 (by omega)]) k⟩
/-! bits -/
def bt (m k : Nat) : Int32 := if m.testBit k then 1 else 0
set_option maxRecDepth 100000 in
theorem hb_bt : ∀ m, m < 1024 → ∀ k, k < 10 → hbW (nI m) (nI k) = bt m k := by decide +kernel
theorem nI_or2 (a b : Nat) : nI a ||| nI b = nI (a ||| b) := by
  apply Int32.toBitVec_inj.mp
  rw [Int32.toBitVec_or]
  show BitVec.ofNat 32 a ||| BitVec.ofNat 32 b = BitVec.ofNat 32 (a ||| b)
  apply BitVec.eq_of_getLsbD_eq
  intro i hi
  rw [BitVec.getLsbD_or, BitVec.getLsbD_ofNat, BitVec.getLsbD_ofNat, BitVec.getLsbD_ofNat, Nat.testBit_or]
  cases decide (i < 32) <;> rfl
theorem nI_an2 (a b : Nat) : nI a &&& nI b = nI (a &&& b) := by
  apply Int32.toBitVec_inj.mp
  rw [Int32.toBitVec_and]
  show BitVec.ofNat 32 a &&& BitVec.ofNat 32 b = BitVec.ofNat 32 (a &&& b)
  apply BitVec.eq_of_getLsbD_eq
  intro i hi
  rw [BitVec.getLsbD_and, BitVec.getLsbD_ofNat, BitVec.getLsbD_ofNat, BitVec.getLsbD_ofNat, Nat.testBit_and]
  cases decide (i < 32) <;> rfl
theorem and_1023 : ∀ m, m < 1024 → m &&& 1023 = m := by decide +kernel
theorem nI_1023 {m : Nat} (h : m < 1024) : nI m &&& nI 1023 = nI m := by rw [nI_an2, and_1023 m h]
theorem shl_kk : ∀ k, k < 10 → Int32.ofInt 1 <<< (nI k &&& 31) = nI (2 ^ k) := by decide +kernel
theorem not_kk : ∀ k, k < 10 → nI 1023 &&& ((Int32.ofInt 1 <<< (nI k &&& 31)) ^^^ Int32.ofInt (-1)) = nI (1023 ^^^ 2 ^ k) := by decide +kernel
theorem wb_1 : ∀ m, m < 1024 → ∀ k, k < 10 → wbW (nI m) (nI k) 1 = nI (m ||| 2 ^ k) := fun m _ k hk => by
  unfold wbW
  rw [if_neg (by decide), shl_kk k hk, nI_or2]
theorem wb_0 : ∀ m, m < 1024 → ∀ k, k < 10 → wbW (nI m) (nI k) 0 = nI (m &&& (1023 ^^^ 2 ^ k)) := fun m hm k hk => by
  unfold wbW
  rw [if_pos rfl, ← nI_1023 hm, Int32.and_assoc, not_kk k hk, nI_an2]
theorem t1023 : ∀ j, j < 10 → Nat.testBit 1023 j = true := by decide
def wbN (m k : Nat) (on : Int32) : Nat := if on = 1 then m ||| 2 ^ k else m &&& (1023 ^^^ 2 ^ k)
theorem wb_N {m k : Nat} (hm : m < 1024) (hk : k < 10) {on : Int32} (hon : on = 0 ∨ on = 1) : wbW (nI m) (nI k) on = nI (wbN m k on) := by
  rcases hon with rfl | rfl
  · exact wb_0 m hm k hk
  · exact wb_1 m hm k hk
theorem wbN_lt {m k : Nat} (hm : m < 1024) (hk : k < 10) (on : Int32) : wbN m k on < 1024 := by
  unfold wbN
  split
  · exact Nat.or_lt_two_pow (n := 10) hm (Nat.pow_lt_pow_right (by decide) hk)
  · exact Nat.lt_of_le_of_lt Nat.and_le_left hm
theorem wbN_t {m k j : Nat} (hj : j < 10) {on : Int32} (hon : on = 0 ∨ on = 1) : bt (wbN m k on) j = if j = k then on else bt m j := by
  unfold bt wbN
  rcases hon with rfl | rfl
  · rw [if_neg (show ¬ (0 : Int32) = 1 by decide), Nat.testBit_and, Nat.testBit_xor, t1023 j hj, Nat.testBit_two_pow]
    by_cases e : j = k
    · subst e
      simp
    · rw [if_neg e]
      have : decide (k = j) = false := decide_eq_false (fun h => e h.symm)
      rw [this]
      simp
  · rw [if_pos rfl, Nat.testBit_or, Nat.testBit_two_pow]
    by_cases e : j = k
    · subst e
      simp
    · rw [if_neg e]
      have : decide (k = j) = false := decide_eq_false (fun h => e h.symm)
      rw [this]
      simp
theorem bt_inj {m n : Nat} (hm : m < 1024) (hn : n < 1024) (h : ∀ j, j < 10 → bt m j = bt n j) : m = n := by
  apply Nat.eq_of_testBit_eq
  intro j
  by_cases hj : j < 10
  · have := h j hj
    unfold bt at this
    by_cases a : m.testBit j = true <;> by_cases b : n.testBit j = true
    · rw [a, b]
    · rw [if_pos a, if_neg b] at this
      exact absurd this (by decide)
    · rw [if_neg a, if_pos b] at this
      exact absurd this (by decide)
    · rw [Bool.not_eq_true] at a b
      rw [a, b]
  · rw [Nat.testBit_lt_two_pow (Nat.lt_of_lt_of_le hm (Nat.pow_le_pow_right (n := 2) (i := 10) (by decide) (by omega))), Nat.testBit_lt_two_pow (Nat.lt_of_lt_of_le hn (Nat.pow_le_pow_right (n := 2) (i := 10) (by decide) (by omega)))]
theorem wbN_eq {m k : Nat} (hm : m < 1024) (hk : k < 10) {on : Int32} (hon : on = 0 ∨ on = 1) : wbN m k on = m ↔ bt m k = on := by
  constructor
  · intro h
    have := wbN_t (m := m) (k := k) hk hon
    rw [h, if_pos rfl] at this
    exact this
  · intro h
    refine bt_inj (wbN_lt hm hk on) hm (fun j hj => ?_)
    rw [wbN_t hj hon]
    split
    · rename_i e
      rw [e, h]
    · rfl
/-- styles and meanings, here and there -/
def kpR (P : Nat → Nat → Int32) (A : Nat → Nat → Int32) : Prop := ∀ s, s < 8 → ∃ m, m < 1024 ∧ P 75 s = nI m ∧ ∀ k, k < 10 → A 7 (10 * s + k) = bt m k
def fnR (O : Nat → Int32) (A : Nat → Nat → Int32) : Prop := ∃ m, m < 1024 ∧ O 0 = nI m ∧ ∀ v, v < 10 → A 6 v = bt m v
def LI (O : Nat → Int32) (P : Nat → Nat → Int32) (Y : Nat → Nat → Int64) (o : Nat → Int32) (A : Nat → Nat → Int32) : Prop := cInv O P Y ∧ mInv o A ∧ kpR P A ∧ fnR O A
theorem LI_mk {O O' : Nat → Int32} {P P' : Nat → Nat → Int32} {Y Y' : Nat → Nat → Int64} {o o' : Nat → Int32} {A A' : Nat → Nat → Int32} (h : LI O P Y o A) (c : cInv O' P' Y' ∧ cSt O P O' P') (m : mInv o' A' ∧ mSt A A') : LI O' P' Y' o' A' := by
  refine ⟨c.1, m.1, fun s hs => ?_, ?_⟩
  · obtain ⟨x, hx, e, hk⟩ := h.2.2.1 s hs
    exact ⟨x, hx, by rw [c.2.2]; exact e, fun k hk0 => by rw [m.2.2]; exact hk k hk0⟩
  · obtain ⟨x, hx, e, hk⟩ := h.2.2.2
    exact ⟨x, hx, by rw [c.2.1]; exact e, fun k hk0 => by rw [m.2.1]; exact hk k hk0⟩
theorem e764 : ∀ k, k < 10 → (hbW (Int16.ofInt 764).toInt32 (nI k) = Int32.ofInt 1 ↔ (2 ≤ k ∧ k ≠ 8)) := by decide +kernel
theorem k_of {k : Int32} (h1 : ¬ k < 0) (h2 : ¬ c8 9 < k) : ∃ n : Nat, n < 10 ∧ k = nI n := by
  rw [Int32.lt_iff_toInt_lt, Int32.toInt_zero] at h1
  rw [Int32.lt_iff_toInt_lt, show (c8 9).toInt = 9 from rfl] at h2
  refine ⟨k.toInt.toNat, by omega, ?_⟩
  rw [← Int32.toInt_inj, nI_toInt (by omega)]
  omega
/-- keeps answers alike and keeps the relation -/
theorem keeps_ok {P : Nat → Nat → Int32} {A : Nat → Nat → Int32} {s k : Nat} {on : Int32} (h : kpR P A) (hs : s < 8) (hk : k < 10) (hon : on = 0 ∨ on = 1) : kpR (updA P 75 (upd (P 75) s (wbW (P 75 s) (nI k) on))) (updA A 7 (upd (A 7) (10 * s + k) on)) ∧ (wbW (P 75 s) (nI k) on = P 75 s ↔ A 7 (10 * s + k) = on) := by
  obtain ⟨m, hm, e, hb⟩ := h s hs
  have hw := wb_N hm hk hon
  constructor
  · intro s2 hs2
    by_cases q : s2 = s
    · subst q
      refine ⟨wbN m k on, wbN_lt hm hk on, ?_, fun j hj => ?_⟩
      · rw [updA_self, upd_self, e, hw]
      · rw [updA_self, wbN_t hj hon]
        by_cases w : j = k
        · subst w
          rw [upd_self, if_pos rfl]
        · rw [upd_ne _ _ (by omega), if_neg w]
          exact hb j hj
    · obtain ⟨m2, hm2, e2, hb2⟩ := h s2 hs2
      refine ⟨m2, hm2, ?_, fun j hj => ?_⟩
      · rw [updA_self, upd_ne _ _ q]
        exact e2
      · rw [updA_self, upd_ne _ _ (by omega)]
        exact hb2 j hj
  · rw [e, hw, hb k hk, nI_eq (by have := wbN_lt hm hk on; omega) (by omega)]
    exact wbN_eq hm hk hon
theorem means_ok {O : Nat → Int32} {A : Nat → Nat → Int32} {v : Nat} {on : Int32} (h : fnR O A) (hk : v < 10) (hon : on = 0 ∨ on = 1) : fnR (upd O 0 (wbW (O 0) (nI v) on)) (updA A 6 (upd (A 6) v on)) ∧ (wbW (O 0) (nI v) on = O 0 ↔ A 6 v = on) := by
  obtain ⟨m, hm, e, hb⟩ := h
  have hw := wb_N hm hk hon
  constructor
  · refine ⟨wbN m v on, wbN_lt hm hk on, ?_, fun j hj => ?_⟩
    · rw [upd_self, e, hw]
    · rw [updA_self, wbN_t hj hon]
      by_cases w : j = v
      · subst w
        rw [upd_self, if_pos rfl]
      · rw [upd_ne _ _ w, if_neg w]
        exact hb j hj
  · rw [e, hw, hb v hk, nI_eq (by have := wbN_lt hm hk on; omega) (by omega)]
    exact wbN_eq hm hk hon
/-- at the beginning -/
theorem A00_6 (i : Nat) : A00 6 i = 0 := rfl
theorem ub_1 {g : Nat → Int32} (h : ∀ j, g j = 0 ∨ g j = 1) (i : Nat) {v : Int32} (hv : v = 0 ∨ v = 1) : ∀ j, upd g i v j = 0 ∨ upd g i v j = 1 := fun j => by
  by_cases q : j = i
  · subst q
    rw [upd_self]
    exact hv
  · rw [upd_ne _ _ q]
    exact h j
theorem A00_7 : ∀ i, A00 7 i = 0 ∨ A00 7 i = 1 := ub_1 (ub_1 (ub_1 (ub_1 (ub_1 (ub_1 (ub_1 (ub_1 (fun _ => Or.inl rfl) 2 (Or.inr rfl)) 3 (Or.inr rfl)) 4 (Or.inr rfl)) 5 (Or.inr rfl)) 6 (Or.inr rfl)) 7 (Or.inr rfl)) 8 (Or.inl rfl)) 9 (Or.inr rfl)
theorem LI_0 : LI O00 P00 (fun _ _ => 0) o00 A00 := by
  refine ⟨⟨0, 0, 0, by decide, rfl, fun n hn => absurd hn (by omega), by decide, rfl, fun i j _ _ => ⟨show (0 : Int) ≤ (0 : Int64).toInt by decide, by
    show (0 : Int64).toInt ≤ _
    exact Int.natCast_nonneg _⟩, by decide, rfl, Or.inl rfl, fun e => absurd e (by decide), fun s hs => ⟨0, by decide, ?_⟩⟩, ⟨0, 0, 0, by decide, rfl, fun n _ hn => absurd hn (by omega), ⟨fun i => Or.inl (A00_6 i), A00_7⟩, by decide, rfl, fun i hi => absurd hi (by omega), by decide, rfl, Or.inl rfl, fun e => absurd e (by decide), fun d hd => ⟨0, by decide, rfl⟩⟩, ?_, ⟨0, by decide, rfl, fun v _ => ?_⟩⟩
  · show O00 (24 + 10 * s) = _
    unfold O00
    rw [if_neg (by omega)]
    rfl
  · intro s hs
    match s, hs with
    | 0, _ => exact ⟨764, by decide, rfl, by decide +kernel⟩
    | 1, _ => exact ⟨0, by decide, rfl, by decide +kernel⟩
    | 2, _ => exact ⟨0, by decide, rfl, by decide +kernel⟩
    | 3, _ => exact ⟨0, by decide, rfl, by decide +kernel⟩
    | 4, _ => exact ⟨0, by decide, rfl, by decide +kernel⟩
    | 5, _ => exact ⟨0, by decide, rfl, by decide +kernel⟩
    | 6, _ => exact ⟨0, by decide, rfl, by decide +kernel⟩
    | 7, _ => exact ⟨0, by decide, rfl, by decide +kernel⟩
    | s + 8, h => exact absurd h (by omega)
  · unfold bt
    rw [Nat.zero_testBit]
    rfl
end
section
def mkV (x k n : Int32) : Int32 := if (0 ≤ x.toInt ∧ x.toInt ≤ 7) ∧ (3 ≤ k.toInt ∧ k.toInt ≤ 4) ∧ n.toInt ≤ 60 then (if n.toInt < 0 then c8 (-14) else Int32.ofInt 0) else Int32.ofInt (-1)
theorem mkV_x {x k n : Int32} (h : ¬ (0 ≤ x.toInt ∧ x.toInt ≤ 7)) : Int32.ofInt (-1) = mkV x k n := (if_neg (fun q => h q.1)).symm
theorem mkV_k {x k n : Int32} (h : ¬ (3 ≤ k.toInt ∧ k.toInt ≤ 4)) : Int32.ofInt (-1) = mkV x k n := (if_neg (fun q => h q.2.1)).symm
theorem le60 {n : Int32} : n ≤ c8 60 ↔ n.toInt ≤ 60 := by rw [Int32.le_iff_toInt_le, show (c8 60).toInt = 60 from rfl]
theorem mkV_n {x k n : Int32} (h : ¬ n ≤ c8 60) : Int32.ofInt (-1) = mkV x k n := (if_neg (fun q => h (le60.mpr q.2.2))).symm
theorem ge0 {n : Int32} : 0 ≤ n ↔ 0 ≤ n.toInt := by rw [Int32.le_iff_toInt_le, Int32.toInt_zero]
theorem mkV_14 {x k n : Int32} (h1 : 0 ≤ x.toInt ∧ x.toInt ≤ 7) (h2 : 3 ≤ k.toInt ∧ k.toInt ≤ 4) (h3 : n ≤ c8 60) (h4 : ¬ 0 ≤ n) : c8 (-14) = mkV x k n := by
  unfold mkV
  rw [if_pos ⟨h1, h2, le60.mp h3⟩, if_pos (by rw [ge0] at h4; omega)]
theorem mkV_0 {x k n : Int32} (h1 : 0 ≤ x.toInt ∧ x.toInt ≤ 7) (h2 : 3 ≤ k.toInt ∧ k.toInt ≤ 4) (h3 : n ≤ c8 60) (h4 : 0 ≤ n) : Int32.ofInt 0 = mkV x k n := by
  unfold mkV
  rw [if_pos ⟨h1, h2, le60.mp h3⟩, if_neg (by rw [ge0] at h4; omega)]
theorem k34 {k : Int32} : (k = Int32.ofInt 3 ∨ k = Int32.ofInt 4) ↔ (3 ≤ k.toInt ∧ k.toInt ≤ 4) := by
  constructor
  · rintro (rfl | rfl) <;> decide
  · intro h
    have : k.toInt = 3 ∨ k.toInt = 4 := by omega
    rcases this with e | e
    · exact Or.inl (Int32.toInt_inj.mp (e.trans (by decide)))
    · exact Or.inr (Int32.toInt_inj.mp (e.trans (by decide)))
theorem n60 {n : Int32} (h3 : n ≤ c8 60) (h4 : 0 ≤ n) : ∃ m : Nat, m ≤ 60 ∧ n = nI m := by
  rw [le60] at h3
  rw [ge0] at h4
  refine ⟨n.toInt.toNat, by omega, ?_⟩
  rw [← Int32.toInt_inj, nI_toInt (by omega)]
  omega
end
section
/-- the words of a number's last k digits -/
def dgL (x : Int32) : Nat → List Int32
  | 0 => []
  | k + 1 => (c8 10 + (x / nI (10 ^ k) - x / nI (10 ^ k) / c8 10 * c8 10)) :: dgL x k
theorem dgL_len (x : Int32) : ∀ k, (dgL x k).length = k
  | 0 => rfl
  | k + 1 => by
    show (dgL x k).length + 1 = k + 1
    rw [dgL_len x k]
/-- a NODE's words without begin and end of its own, out of those of its PARTS -/
noncomputable def coL (A : Nat → Nat → Int32) (R : Int32 → List Int32) (n : Nat) : List Int32 :=
  if A 0 n = nI 0 then [A 1 n] else if A 0 n = nI 1 then dgL (A 1 n) (dgN (A 1 n)) else if A 0 n = nI 7 then c8 25 :: R (A 2 n) else if A 0 n = nI 8 then c8 26 :: (R (A 2 n) ++ [c8 27]) else if A 0 n = nI 9 then A 1 n :: c8 28 :: R (A 2 n) else R (A 2 n) ++ ((c8 18 + A 0 n) :: R (A 3 n))
def brL (c : Int32) (L : List Int32) : List Int32 := if c = 0 then L else c8 29 :: (L ++ [c8 30])
noncomputable def wdW (A : Nat → Nat → Int32) (s : Nat) : Nat → Int32 → List Int32
  | 0, _ => []
  | z + 1, x => if x < 0 then [] else brL (A 7 (10 * s + (A 0 x.toNatClampNeg).toNatClampNeg)) (coL A (wdW A s z) x.toNatClampNeg)
theorem wdW_m2 (A : Nat → Nat → Int32) (s z : Nat) : wdW A s z m2 = [] := by
  cases z with
  | zero => rfl
  | succ z => exact if_pos (by decide)
theorem wdW_nI {A : Nat → Nat → Int32} {s z n k : Nat} (hn : n < 450) (hk : k < 10) (h0 : A 0 n = nI k) : wdW A s (z + 1) (nI n) = brL (A 7 (10 * s + k)) (coL A (wdW A s z) n) := by
  show (if nI n < 0 then [] else _) = _
  rw [if_neg (nI_pos (by omega)), nI_clamp (by omega), h0, nI_clamp (by omega)]
theorem nIne {a b : Nat} (ha : a < 10) (hb : b < 10) (h : a ≠ b) : ¬ nI a = nI b := fun e => h ((nI_eq (by omega) (by omega)).mp e)
theorem coL_0 {A : Nat → Nat → Int32} {R : Int32 → List Int32} {n : Nat} (h0 : A 0 n = nI 0) : coL A R n = [A 1 n] := if_pos h0
theorem coL_1 {A : Nat → Nat → Int32} {R : Int32 → List Int32} {n : Nat} (h0 : A 0 n = nI 1) : coL A R n = dgL (A 1 n) (dgN (A 1 n)) := by
  unfold coL
  rw [h0, if_neg (nIne (by decide) (by decide) (by decide)), if_pos rfl]
theorem coL_7 {A : Nat → Nat → Int32} {R : Int32 → List Int32} {n : Nat} (h0 : A 0 n = nI 7) : coL A R n = c8 25 :: R (A 2 n) := by
  unfold coL
  rw [h0, if_neg (nIne (by decide) (by decide) (by decide)), if_neg (nIne (by decide) (by decide) (by decide)), if_pos rfl]
theorem coL_8 {A : Nat → Nat → Int32} {R : Int32 → List Int32} {n : Nat} (h0 : A 0 n = nI 8) : coL A R n = c8 26 :: (R (A 2 n) ++ [c8 27]) := by
  unfold coL
  rw [h0, if_neg (nIne (by decide) (by decide) (by decide)), if_neg (nIne (by decide) (by decide) (by decide)), if_neg (nIne (by decide) (by decide) (by decide)), if_pos rfl]
theorem coL_9 {A : Nat → Nat → Int32} {R : Int32 → List Int32} {n : Nat} (h0 : A 0 n = nI 9) : coL A R n = A 1 n :: c8 28 :: R (A 2 n) := by
  unfold coL
  rw [h0, if_neg (nIne (by decide) (by decide) (by decide)), if_neg (nIne (by decide) (by decide) (by decide)), if_neg (nIne (by decide) (by decide) (by decide)), if_neg (nIne (by decide) (by decide) (by decide)), if_pos rfl]
theorem coL_2 {A : Nat → Nat → Int32} {R : Int32 → List Int32} {n k : Nat} (h1 : 2 ≤ k) (h2 : k ≤ 6) (h0 : A 0 n = nI k) : coL A R n = R (A 2 n) ++ ((c8 18 + nI k) :: R (A 3 n)) := by
  unfold coL
  rw [h0, if_neg (nIne (by omega) (by decide) (by omega)), if_neg (nIne (by omega) (by decide) (by omega)), if_neg (nIne (by omega) (by decide) (by omega)), if_neg (nIne (by omega) (by decide) (by omega)), if_neg (nIne (by omega) (by decide) (by omega))]
theorem brL_len (c : Int32) (L : List Int32) : (brL c L).length = L.length + (if c = 0 then 0 else 2) := by
  unfold brL
  split
  · rfl
  · rw [List.length_cons, List.length_append]
    rfl
/-- as many as length says -/
theorem wdW_len {lo hi : Nat} {A : Nat → Nat → Int32} (hh : hi ≤ 450) (hT : tbI lo hi A) (s : Nat) : ∀ (z : Nat) (x : Int32), pt lo hi A z x → (wdW A s z x).length = lnW A s z x := by
  intro z
  induction z with
  | zero => exact fun x _ => rfl
  | succ z ih =>
    intro x hx
    rcases hx with rfl | ⟨n, rfl, hlo, hn, hz⟩
    · rw [wdW_m2, lnW_m2]
      rfl
    · obtain ⟨hp2, hp3⟩ := rN_parts hT hlo hn hz
      have i2 := ih _ hp2
      have i3 := ih _ hp3
      obtain ⟨k, y, h0, hk, h4, hy, hs, _⟩ := hT n hlo hn
      rw [wdW_nI (by omega) hk h0, lnW_nI (by omega) hk h0, brL_len]
      have hown := ownW_c k h0
      rcases hs with ⟨k1, h2, h3, e⟩ | ⟨k1, k6, a, b, h2, la, ha, h3, lb, hb, e⟩ | ⟨k1, a, h2, la, ha, h3, e⟩
      · rcases (show k = 0 ∨ k = 1 by omega) with rfl | rfl
        · rw [coL_0 h0, hown.1 rfl, h2, h3, lnW_m2]
          show 1 + _ = _
          omega
        · rw [coL_1 h0, hown.2.1 rfl, h2, h3, lnW_m2, dgL_len]
          omega
      · rw [coL_2 k1 k6 h0, ownW_2 k1 k6 h0, List.length_append, List.length_cons, i2, i3]
        omega
      · rcases (show k = 7 ∨ k = 8 ∨ k = 9 by omega) with rfl | rfl | rfl
        · rw [coL_7 h0, hown.2.2.1 rfl, List.length_cons, i2, h3, lnW_m2]
          omega
        · rw [coL_8 h0, hown.2.2.2.1 rfl, List.length_cons, List.length_append, i2, h3, lnW_m2]
          show _ + 1 + 1 + _ = _
          omega
        · rw [coL_9 h0, hown.2.2.2.2 rfl, List.length_cons, List.length_cons, i2, h3, lnW_m2]
          omega
set_option maxHeartbeats 1000000 in
set_option maxRecDepth 20000 in
theorem sayXN2 (f : Nat → zC) (o : Nat → Int32) (A : Nat → Nat → Int32) (J : Nat → Nat → Int64) {s n z : Nat} (hn : n < 450) {c m : Int32} {n0 : Nat} {Q : Option Value → zW → Prop} : ∀ (k q : Nat) (g : Nat → Int32), k ≤ 4 → q + k ≤ 256 → ∀ {x5 x4 : Int32}, x5 = nI k → (1 ≤ k → x4 = nI (10 ^ (k - 1))) → zV (zMo (z + 1 + 2) zX7_say) false n0 0 0 270 [(3, .int c), (0, .ref 76), (1, .int (nI s)), (2, .int (nI n))] [] (wZ f o A J (q + k) m (appA g q (dgL (A 1 n) k))) Q → zV (zMo (z + 1 + 2) zX7_say) false n0 0 0 121 [(5, .int x5), (4, .int x4), (3, .int c), (0, .ref 76), (1, .int (nI s)), (2, .int (nI n))] [] (wZ f o A J q m g) Q := by
  have e1 : (nI n).toNatClampNeg = n := nI_clamp (by omega)
  have hv : vp_in (nI n) 450 := vp_in_nI (by omega) (by decide)
  intro k
  induction k with
  | zero =>
    intro q g hk hq x5 x4 e5 e4 kk
    subst e5
    iterate 2 (refine zv_step (bX7_say (z + 1 + 2)) rfl rfl trivial ?_)
    refine zv_ift (show nI 0 ≤ 0 by decide) ?_
    iterate 1 (refine zv_step (bX7_say (z + 1 + 2)) rfl rfl trivial ?_)
    refine zv_locals (l := [(5, .int (nI 0)), (4, .int x4), (3, .int c), (0, .ref 76), (1, .int (nI s)), (2, .int (nI n))]) (l' := [(3, .int c), (0, .ref 76), (1, .int (nI s)), (2, .int (nI n))]) ?_ kk
    simp
  | succ k ih =>
    intro q g hk hq x5 x4 e5 e4 kk
    subst e5
    iterate 2 (refine zv_step (bX7_say (z + 1 + 2)) rfl rfl trivial ?_)
    refine zv_iff (nI_nle (by omega) (by omega)) ?_
    iterate 5 (refine zv_step (bX7_say (z + 1 + 2)) rfl rfl trivial ?_)
    refine zv_iale (bX7_say (z + 1 + 2)) rfl rfl hv (show A 1 (nI n).toNatClampNeg = A 1 n by rw [e1]) ?_
    iterate 1 (refine zv_step (bX7_say (z + 1 + 2)) rfl rfl trivial ?_)
    refine zv_step (bX7_say (z + 1 + 2)) rfl rfl (by rw [e4 (by omega)]; exact nI_ne0 (Nat.pow_pos (by decide)) (by have := pw k hk; omega)) ?_
    iterate 1 (refine zv_step (bX7_say (z + 1 + 2)) rfl rfl trivial ?_)
    refine zv_step (bX7_say (z + 1 + 2)) rfl rfl (show ¬ c8 10 = 0 by decide) ?_
    iterate 1 (refine zv_step (bX7_say (z + 1 + 2)) rfl rfl trivial ?_)
    refine zv_V1 (bX7_say (z + 1 + 2)) rfl rfl rfl rfl rfl rfl rfl ⟨rfl, rfl, rfl⟩ ⟨by show 0 + 1 ≤ z + 1 + 2; omega, by show 8 + (2 + 11) + 64 * (0) ≤ 64 * (z + 1 + 2); omega⟩ ⟨Nat.zero_le _, Nat.zero_le _⟩ (mSays f (upd o 20 _) A J _ _ (by omega) _) ?_
    rintro _ _ ⟨rfl, rfl⟩
    iterate 2 (refine zv_step (bX7_say (z + 1 + 2)) rfl rfl trivial ?_)
    refine zv_step (bX7_say (z + 1 + 2)) rfl rfl (show ¬ c8 10 = 0 by decide) ?_
    iterate 3 (refine zv_step (bX7_say (z + 1 + 2)) rfl rfl trivial ?_)
    refine ih (q + 1) _ (by omega) (by omega) (nI_dec k) (fun h => by rw [e4 (by omega)]; exact pwd k h hk) ?_
    rw [show q + 1 + k = q + (k + 1) by omega, e4 (by omega)]
    exact kk
set_option maxHeartbeats 1000000 in
set_option maxRecDepth 20000 in
theorem sayXN1 (f : Nat → zC) (o : Nat → Int32) (A : Nat → Nat → Int32) (J : Nat → Nat → Int64) {s n z : Nat} (hn : n < 450) {c m : Int32} {d : Nat} (hd : dgN (A 1 n) = d) (hd4 : d ≤ 4) {q : Nat} {g : Nat → Int32} (hq : q + d ≤ 256) {n0 : Nat} {Q : Option Value → zW → Prop} (kk : zV (zMo (z + 1 + 2) zX7_say) false n0 0 0 270 [(3, .int c), (0, .ref 76), (1, .int (nI s)), (2, .int (nI n))] [] (wZ f o A J (q + d) m (appA g q (dgL (A 1 n) d))) Q) : ∀ (j k : Nat), k + j = d → 1 ≤ k → ∀ {x5 x4 : Int32}, x5 = nI k → x4 = nI (10 ^ (k - 1)) → zV (zMo (z + 1 + 2) zX7_say) false n0 0 0 83 [(5, .int x5), (4, .int x4), (3, .int c), (0, .ref 76), (1, .int (nI s)), (2, .int (nI n))] [] (wZ f o A J q m g) Q := by
  have e1 : (nI n).toNatClampNeg = n := nI_clamp (by omega)
  have hv : vp_in (nI n) 450 := vp_in_nI (by omega) (by decide)
  intro j
  induction j with
  | zero =>
    intro k hj h1 x5 x4 e5 e4
    subst e5
    iterate 4 (refine zv_step (bX7_say (z + 1 + 2)) rfl rfl trivial ?_)
    refine zv_iale (bX7_say (z + 1 + 2)) rfl rfl hv (show A 1 (nI n).toNatClampNeg = A 1 n by rw [e1]) ?_
    refine zv_S1 (bX7_say (z + 1 + 2)) rfl rfl rfl rfl ⟨rfl, rfl, rfl⟩ ⟨by show 0 + 1 ≤ z + 1 + 2; omega, by show 8 + (1 + 11) + 64 * (0) ≤ 64 * (z + 1 + 2); omega⟩ ⟨Nat.zero_le _, Nat.zero_le _⟩ (mDigitsE _ hd) ?_
    rintro _ _ ⟨rfl, rfl⟩
    iterate 1 (refine zv_step (bX7_say (z + 1 + 2)) rfl rfl trivial ?_)
    refine zv_ift (nI_le (by omega) (by omega)) ?_
    iterate 3 (refine zv_step (bX7_say (z + 1 + 2)) rfl rfl trivial ?_)
    refine zv_iale (bX7_say (z + 1 + 2)) rfl rfl hv (show A 1 (nI n).toNatClampNeg = A 1 n by rw [e1]) ?_
    refine zv_S1 (bX7_say (z + 1 + 2)) rfl rfl rfl rfl ⟨rfl, rfl, rfl⟩ ⟨by show 0 + 1 ≤ z + 1 + 2; omega, by show 8 + (1 + 11) + 64 * (0) ≤ 64 * (z + 1 + 2); omega⟩ ⟨Nat.zero_le _, Nat.zero_le _⟩ (mDigitsE _ hd) ?_
    rintro _ _ ⟨rfl, rfl⟩
    iterate 1 (refine zv_step (bX7_say (z + 1 + 2)) rfl rfl trivial ?_)
    refine zv_locals (l := [(5, .int (nI d)), (4, .int x4), (3, .int c), (0, .ref 76), (1, .int (nI s)), (2, .int (nI n))]) (l' := [(5, .int (nI d)), (4, .int x4), (3, .int c), (0, .ref 76), (1, .int (nI s)), (2, .int (nI n))]) ?_ (sayXN2 f o A J hn d q g hd4 hq rfl (fun _ => by rw [e4, show k = d by omega]) kk)
    simp
  | succ j ih =>
    intro k hj h1 x5 x4 e5 e4
    subst e5
    iterate 4 (refine zv_step (bX7_say (z + 1 + 2)) rfl rfl trivial ?_)
    refine zv_iale (bX7_say (z + 1 + 2)) rfl rfl hv (show A 1 (nI n).toNatClampNeg = A 1 n by rw [e1]) ?_
    refine zv_S1 (bX7_say (z + 1 + 2)) rfl rfl rfl rfl ⟨rfl, rfl, rfl⟩ ⟨by show 0 + 1 ≤ z + 1 + 2; omega, by show 8 + (1 + 11) + 64 * (0) ≤ 64 * (z + 1 + 2); omega⟩ ⟨Nat.zero_le _, Nat.zero_le _⟩ (mDigitsE _ hd) ?_
    rintro _ _ ⟨rfl, rfl⟩
    iterate 1 (refine zv_step (bX7_say (z + 1 + 2)) rfl rfl trivial ?_)
    refine zv_iff (fun h => absurd ((nI_leI (by omega) (by omega)).mp h) (by omega)) ?_
    iterate 6 (refine zv_step (bX7_say (z + 1 + 2)) rfl rfl trivial ?_)
    refine zv_locals (l := [(5, .int (nI k + Int32.ofInt 1)), (4, .int (x4 * c8 10)), (3, .int c), (0, .ref 76), (1, .int (nI s)), (2, .int (nI n))]) (l' := [(5, .int (nI k + Int32.ofInt 1)), (4, .int (x4 * c8 10)), (3, .int c), (0, .ref 76), (1, .int (nI s)), (2, .int (nI n))]) ?_ (ih (k + 1) (by omega) (by omega) (nI_1 k) (by rw [e4]; exact pwm k h1 (by omega)))
    simp
set_option maxHeartbeats 1000000 in
set_option maxRecDepth 20000 in
theorem sayX2 (f : Nat → zC) (o : Nat → Int32) (A : Nat → Nat → Int32) (J : Nat → Nat → Int64) {lo hi : Nat} (hh : hi ≤ 450) {s n z : Nat} (hn : n < 450) {c : Int32} (ih : ∀ (x : Nat), lo ≤ x → x < hi → szN A x ≤ z → ∀ (q : Nat) (m : Int32) (g : Nat → Int32), q + (wdW A s z (nI x)).length ≤ 256 → zK (z + 2) zX7_say [.ref 76, .int (nI s), .int (nI x)] (wZ f o A J q m g) (fun r w' => r = none ∧ ∃ m' : Int32, w' = wZ f o A J (q + (wdW A s z (nI x)).length) m' (appA g q (wdW A s z (nI x))))) {n0 : Nat} {Q : Option Value → zW → Prop} {q : Nat} {m : Int32} {g : Nat → Int32} (hq : q + (coL A (wdW A s z) n).length ≤ 256) (kk : ∀ m' : Int32, zV (zMo (z + 1 + 2) zX7_say) false n0 0 0 270 [(3, .int c), (0, .ref 76), (1, .int (nI s)), (2, .int (nI n))] [] (wZ f o A J (q + (coL A (wdW A s z) n).length) m' (appA g q (coL A (wdW A s z) n))) Q) {k a b : Nat} (hk1 : 2 ≤ k) (hk2 : k ≤ 6) (h0 : A 0 n = nI k) (h2 : A 2 n = nI a) (la : lo ≤ a) (ha : a < n) (h3 : A 3 n = nI b) (lb : lo ≤ b) (hb : b < n) (hnh : n < hi) (hsz : szN A n ≤ z + 1) (es : szN A n = 1 + szN A a + szN A b) : zV (zMo (z + 1 + 2) zX7_say) false n0 0 0 17 [(3, .int c), (0, .ref 76), (1, .int (nI s)), (2, .int (nI n))] [] (wZ f o A J q m g) Q := by
  have e1 : (nI n).toNatClampNeg = n := nI_clamp (by omega)
  have hv : vp_in (nI n) 450 := vp_in_nI (by omega) (by decide)
  rw [coL_2 hk1 hk2 h0, h2, h3] at kk hq
  simp only [List.length_append, List.length_cons, List.length_nil] at hq
  iterate 3 (refine zv_step (bX7_say (z + 1 + 2)) rfl rfl trivial ?_)
  refine zv_iale (bX7_say (z + 1 + 2)) rfl rfl hv (show A 0 (nI n).toNatClampNeg = nI k by rw [e1]; exact h0) ?_
  refine zv_S1 (bX7_say (z + 1 + 2)) rfl rfl rfl rfl ⟨rfl, rfl, rfl⟩ ⟨by show 0 + 1 ≤ z + 1 + 2; omega, by show 8 + (1 + 11) + 64 * (0) ≤ 64 * (z + 1 + 2); omega⟩ ⟨Nat.zero_le _, Nat.zero_le _⟩ (hX7_isTwo _ _) ?_
  rintro _ _ ⟨rfl, ⟨g1, rfl⟩ | ⟨g1, rfl⟩⟩
  · skip
    iterate 1 (refine zv_step (bX7_say (z + 1 + 2)) rfl rfl trivial ?_)
    refine zv_iff (by decide) ?_
    iterate 5 (refine zv_step (bX7_say (z + 1 + 2)) rfl rfl trivial ?_)
    refine zv_iale (bX7_say (z + 1 + 2)) rfl rfl hv (show A 2 (nI n).toNatClampNeg = nI a by rw [e1]; exact h2) ?_
    refine zv_V2 (bX7_say (z + 1 + 2)) rfl rfl rfl rfl rfl rfl rfl ⟨rfl, rfl, rfl⟩ ⟨by show z + 2 + 1 ≤ z + 1 + 2; omega, by show 8 + (6 + 11) + 64 * (z + 2) ≤ 64 * (z + 1 + 2); omega⟩ ⟨Nat.zero_le _, Nat.zero_le _⟩ (ih a (by omega) (by omega) (by omega) _ _ _ (by omega)) ?_
    rintro _ _ ⟨rfl, m1, rfl⟩
    iterate 5 (refine zv_step (bX7_say (z + 1 + 2)) rfl rfl trivial ?_)
    refine zv_iale (bX7_say (z + 1 + 2)) rfl rfl hv (show A 0 (nI n).toNatClampNeg = nI k by rw [e1]; exact h0) ?_
    iterate 1 (refine zv_step (bX7_say (z + 1 + 2)) rfl rfl trivial ?_)
    refine zv_V1 (bX7_say (z + 1 + 2)) rfl rfl rfl rfl rfl rfl rfl ⟨rfl, rfl, rfl⟩ ⟨by show 0 + 1 ≤ z + 1 + 2; omega, by show 8 + (2 + 11) + 64 * (0) ≤ 64 * (z + 1 + 2); omega⟩ ⟨Nat.zero_le _, Nat.zero_le _⟩ (mSays f (upd o 20 _) A J _ _ (by omega) _) ?_
    rintro _ _ ⟨rfl, rfl⟩
    iterate 5 (refine zv_step (bX7_say (z + 1 + 2)) rfl rfl trivial ?_)
    refine zv_iale (bX7_say (z + 1 + 2)) rfl rfl hv (show A 3 (nI n).toNatClampNeg = nI b by rw [e1]; exact h3) ?_
    refine zv_V2 (bX7_say (z + 1 + 2)) rfl rfl rfl rfl rfl rfl rfl ⟨rfl, rfl, rfl⟩ ⟨by show z + 2 + 1 ≤ z + 1 + 2; omega, by show 8 + (6 + 11) + 64 * (z + 2) ≤ 64 * (z + 1 + 2); omega⟩ ⟨Nat.zero_le _, Nat.zero_le _⟩ (ih b (by omega) (by omega) (by omega) _ _ _ (by omega)) ?_
    rintro _ _ ⟨rfl, m2, rfl⟩
    iterate 1 (refine zv_step (bX7_say (z + 1 + 2)) rfl rfl trivial ?_)
    have kk := kk m2
    rw [appA_app] at kk
    simp only [List.length_append, List.length_cons] at kk
    rw [show q + ((wdW A s z (nI a)).length + ((wdW A s z (nI b)).length + 1)) = q + (wdW A s z (nI a)).length + 1 + (wdW A s z (nI b)).length by omega] at kk
    exact kk
  · skip
    iterate 1 (refine zv_step (bX7_say (z + 1 + 2)) rfl rfl trivial ?_)
    refine zv_ift (by decide) ?_
    exact absurd ⟨by rw [nI_toInt (by omega)]; omega, by rw [nI_toInt (by omega)]; omega⟩ g1
set_option maxHeartbeats 1000000 in
set_option maxRecDepth 20000 in
theorem sayX0 (f : Nat → zC) (o : Nat → Int32) (A : Nat → Nat → Int32) (J : Nat → Nat → Int64) {lo hi : Nat} (hh : hi ≤ 450) {s n z : Nat} (hn : n < 450) {c : Int32} (ih : ∀ (x : Nat), lo ≤ x → x < hi → szN A x ≤ z → ∀ (q : Nat) (m : Int32) (g : Nat → Int32), q + (wdW A s z (nI x)).length ≤ 256 → zK (z + 2) zX7_say [.ref 76, .int (nI s), .int (nI x)] (wZ f o A J q m g) (fun r w' => r = none ∧ ∃ m' : Int32, w' = wZ f o A J (q + (wdW A s z (nI x)).length) m' (appA g q (wdW A s z (nI x))))) {n0 : Nat} {Q : Option Value → zW → Prop} {q : Nat} {m : Int32} {g : Nat → Int32} (hq : q + (coL A (wdW A s z) n).length ≤ 256) (kk : ∀ m' : Int32, zV (zMo (z + 1 + 2) zX7_say) false n0 0 0 270 [(3, .int c), (0, .ref 76), (1, .int (nI s)), (2, .int (nI n))] [] (wZ f o A J (q + (coL A (wdW A s z) n).length) m' (appA g q (coL A (wdW A s z) n))) Q) (h0 : A 0 n = nI 0) : zV (zMo (z + 1 + 2) zX7_say) false n0 0 0 17 [(3, .int c), (0, .ref 76), (1, .int (nI s)), (2, .int (nI n))] [] (wZ f o A J q m g) Q := by
  have e1 : (nI n).toNatClampNeg = n := nI_clamp (by omega)
  have hv : vp_in (nI n) 450 := vp_in_nI (by omega) (by decide)
  rw [coL_0 h0] at kk hq
  simp only [List.length_append, List.length_cons, List.length_nil] at hq
  iterate 3 (refine zv_step (bX7_say (z + 1 + 2)) rfl rfl trivial ?_)
  refine zv_iale (bX7_say (z + 1 + 2)) rfl rfl hv (show A 0 (nI n).toNatClampNeg = nI 0 by rw [e1]; exact h0) ?_
  refine zv_S1 (bX7_say (z + 1 + 2)) rfl rfl rfl rfl ⟨rfl, rfl, rfl⟩ ⟨by show 0 + 1 ≤ z + 1 + 2; omega, by show 8 + (1 + 11) + 64 * (0) ≤ 64 * (z + 1 + 2); omega⟩ ⟨Nat.zero_le _, Nat.zero_le _⟩ (hX7_isTwo _ _) ?_
  rintro _ _ ⟨rfl, ⟨g1, rfl⟩ | ⟨g1, rfl⟩⟩
  · skip
    iterate 1 (refine zv_step (bX7_say (z + 1 + 2)) rfl rfl trivial ?_)
    refine zv_iff (by decide) ?_
    exact absurd g1 (by decide)
  · skip
    iterate 1 (refine zv_step (bX7_say (z + 1 + 2)) rfl rfl trivial ?_)
    refine zv_ift (by decide) ?_
    iterate 3 (refine zv_step (bX7_say (z + 1 + 2)) rfl rfl trivial ?_)
    refine zv_iale (bX7_say (z + 1 + 2)) rfl rfl hv (show A 0 (nI n).toNatClampNeg = nI 0 by rw [e1]; exact h0) ?_
    iterate 2 (refine zv_step (bX7_say (z + 1 + 2)) rfl rfl trivial ?_)
    refine zv_ift (by decide) ?_
    iterate 3 (refine zv_step (bX7_say (z + 1 + 2)) rfl rfl trivial ?_)
    refine zv_iale (bX7_say (z + 1 + 2)) rfl rfl hv (show A 0 (nI n).toNatClampNeg = nI 0 by rw [e1]; exact h0) ?_
    iterate 1 (refine zv_step (bX7_say (z + 1 + 2)) rfl rfl trivial ?_)
    refine zv_iff (by decide) ?_
    iterate 4 (refine zv_step (bX7_say (z + 1 + 2)) rfl rfl trivial ?_)
    refine zv_iale (bX7_say (z + 1 + 2)) rfl rfl hv (show A 1 (nI n).toNatClampNeg = A 1 n by rw [e1]) ?_
    refine zv_V1 (bX7_say (z + 1 + 2)) rfl rfl rfl rfl rfl rfl rfl ⟨rfl, rfl, rfl⟩ ⟨by show 0 + 1 ≤ z + 1 + 2; omega, by show 8 + (2 + 11) + 64 * (0) ≤ 64 * (z + 1 + 2); omega⟩ ⟨Nat.zero_le _, Nat.zero_le _⟩ (mSays f (upd o 20 _) A J _ _ (by omega) _) ?_
    rintro _ _ ⟨rfl, rfl⟩
    iterate 1 (refine zv_step (bX7_say (z + 1 + 2)) rfl rfl trivial ?_)
    exact kk _
set_option maxHeartbeats 1000000 in
set_option maxRecDepth 20000 in
theorem sayX1 (f : Nat → zC) (o : Nat → Int32) (A : Nat → Nat → Int32) (J : Nat → Nat → Int64) {lo hi : Nat} (hh : hi ≤ 450) {s n z : Nat} (hn : n < 450) {c : Int32} (ih : ∀ (x : Nat), lo ≤ x → x < hi → szN A x ≤ z → ∀ (q : Nat) (m : Int32) (g : Nat → Int32), q + (wdW A s z (nI x)).length ≤ 256 → zK (z + 2) zX7_say [.ref 76, .int (nI s), .int (nI x)] (wZ f o A J q m g) (fun r w' => r = none ∧ ∃ m' : Int32, w' = wZ f o A J (q + (wdW A s z (nI x)).length) m' (appA g q (wdW A s z (nI x))))) {n0 : Nat} {Q : Option Value → zW → Prop} {q : Nat} {m : Int32} {g : Nat → Int32} (hq : q + (coL A (wdW A s z) n).length ≤ 256) (kk : ∀ m' : Int32, zV (zMo (z + 1 + 2) zX7_say) false n0 0 0 270 [(3, .int c), (0, .ref 76), (1, .int (nI s)), (2, .int (nI n))] [] (wZ f o A J (q + (coL A (wdW A s z) n).length) m' (appA g q (coL A (wdW A s z) n))) Q) (h0 : A 0 n = nI 1) : zV (zMo (z + 1 + 2) zX7_say) false n0 0 0 17 [(3, .int c), (0, .ref 76), (1, .int (nI s)), (2, .int (nI n))] [] (wZ f o A J q m g) Q := by
  have e1 : (nI n).toNatClampNeg = n := nI_clamp (by omega)
  have hv : vp_in (nI n) 450 := vp_in_nI (by omega) (by decide)
  rw [coL_1 h0] at kk hq
  rw [dgL_len] at kk hq
  iterate 3 (refine zv_step (bX7_say (z + 1 + 2)) rfl rfl trivial ?_)
  refine zv_iale (bX7_say (z + 1 + 2)) rfl rfl hv (show A 0 (nI n).toNatClampNeg = nI 1 by rw [e1]; exact h0) ?_
  refine zv_S1 (bX7_say (z + 1 + 2)) rfl rfl rfl rfl ⟨rfl, rfl, rfl⟩ ⟨by show 0 + 1 ≤ z + 1 + 2; omega, by show 8 + (1 + 11) + 64 * (0) ≤ 64 * (z + 1 + 2); omega⟩ ⟨Nat.zero_le _, Nat.zero_le _⟩ (hX7_isTwo _ _) ?_
  rintro _ _ ⟨rfl, ⟨g1, rfl⟩ | ⟨g1, rfl⟩⟩
  · skip
    iterate 1 (refine zv_step (bX7_say (z + 1 + 2)) rfl rfl trivial ?_)
    refine zv_iff (by decide) ?_
    exact absurd g1 (by decide)
  · skip
    iterate 1 (refine zv_step (bX7_say (z + 1 + 2)) rfl rfl trivial ?_)
    refine zv_ift (by decide) ?_
    iterate 3 (refine zv_step (bX7_say (z + 1 + 2)) rfl rfl trivial ?_)
    refine zv_iale (bX7_say (z + 1 + 2)) rfl rfl hv (show A 0 (nI n).toNatClampNeg = nI 1 by rw [e1]; exact h0) ?_
    iterate 2 (refine zv_step (bX7_say (z + 1 + 2)) rfl rfl trivial ?_)
    refine zv_iff (by decide) ?_
    iterate 4 (refine zv_step (bX7_say (z + 1 + 2)) rfl rfl trivial ?_)
    refine zv_locals (l := [(5, .int (Int32.ofInt 1)), (4, .int (Int32.ofInt 1)), (3, .int c), (0, .ref 76), (1, .int (nI s)), (2, .int (nI n))]) (l' := [(5, .int (Int32.ofInt 1)), (4, .int (Int32.ofInt 1)), (3, .int c), (0, .ref 76), (1, .int (nI s)), (2, .int (nI n))]) ?_ (sayXN1 f o A J hn rfl (dgN_le _).2 hq (kk _) (dgN (A 1 n) - 1) 1 (by have := (dgN_le (A 1 n)).1; omega) (Nat.le_refl _) rfl rfl)
    simp
set_option maxHeartbeats 1000000 in
set_option maxRecDepth 20000 in
theorem sayX7 (f : Nat → zC) (o : Nat → Int32) (A : Nat → Nat → Int32) (J : Nat → Nat → Int64) {lo hi : Nat} (hh : hi ≤ 450) {s n z : Nat} (hn : n < 450) {c : Int32} (ih : ∀ (x : Nat), lo ≤ x → x < hi → szN A x ≤ z → ∀ (q : Nat) (m : Int32) (g : Nat → Int32), q + (wdW A s z (nI x)).length ≤ 256 → zK (z + 2) zX7_say [.ref 76, .int (nI s), .int (nI x)] (wZ f o A J q m g) (fun r w' => r = none ∧ ∃ m' : Int32, w' = wZ f o A J (q + (wdW A s z (nI x)).length) m' (appA g q (wdW A s z (nI x))))) {n0 : Nat} {Q : Option Value → zW → Prop} {q : Nat} {m : Int32} {g : Nat → Int32} (hq : q + (coL A (wdW A s z) n).length ≤ 256) (kk : ∀ m' : Int32, zV (zMo (z + 1 + 2) zX7_say) false n0 0 0 270 [(3, .int c), (0, .ref 76), (1, .int (nI s)), (2, .int (nI n))] [] (wZ f o A J (q + (coL A (wdW A s z) n).length) m' (appA g q (coL A (wdW A s z) n))) Q) {a : Nat} (h0 : A 0 n = nI 7) (h2 : A 2 n = nI a) (la : lo ≤ a) (ha : a < n) (hnh : n < hi) (hsz : szN A n ≤ z + 1) (es : szN A n = 1 + szN A a) : zV (zMo (z + 1 + 2) zX7_say) false n0 0 0 17 [(3, .int c), (0, .ref 76), (1, .int (nI s)), (2, .int (nI n))] [] (wZ f o A J q m g) Q := by
  have e1 : (nI n).toNatClampNeg = n := nI_clamp (by omega)
  have hv : vp_in (nI n) 450 := vp_in_nI (by omega) (by decide)
  rw [coL_7 h0, h2] at kk hq
  simp only [List.length_append, List.length_cons, List.length_nil] at hq
  iterate 3 (refine zv_step (bX7_say (z + 1 + 2)) rfl rfl trivial ?_)
  refine zv_iale (bX7_say (z + 1 + 2)) rfl rfl hv (show A 0 (nI n).toNatClampNeg = nI 7 by rw [e1]; exact h0) ?_
  refine zv_S1 (bX7_say (z + 1 + 2)) rfl rfl rfl rfl ⟨rfl, rfl, rfl⟩ ⟨by show 0 + 1 ≤ z + 1 + 2; omega, by show 8 + (1 + 11) + 64 * (0) ≤ 64 * (z + 1 + 2); omega⟩ ⟨Nat.zero_le _, Nat.zero_le _⟩ (hX7_isTwo _ _) ?_
  rintro _ _ ⟨rfl, ⟨g1, rfl⟩ | ⟨g1, rfl⟩⟩
  · skip
    iterate 1 (refine zv_step (bX7_say (z + 1 + 2)) rfl rfl trivial ?_)
    refine zv_iff (by decide) ?_
    exact absurd g1 (by decide)
  · skip
    iterate 1 (refine zv_step (bX7_say (z + 1 + 2)) rfl rfl trivial ?_)
    refine zv_ift (by decide) ?_
    iterate 3 (refine zv_step (bX7_say (z + 1 + 2)) rfl rfl trivial ?_)
    refine zv_iale (bX7_say (z + 1 + 2)) rfl rfl hv (show A 0 (nI n).toNatClampNeg = nI 7 by rw [e1]; exact h0) ?_
    iterate 2 (refine zv_step (bX7_say (z + 1 + 2)) rfl rfl trivial ?_)
    refine zv_ift (by decide) ?_
    iterate 3 (refine zv_step (bX7_say (z + 1 + 2)) rfl rfl trivial ?_)
    refine zv_iale (bX7_say (z + 1 + 2)) rfl rfl hv (show A 0 (nI n).toNatClampNeg = nI 7 by rw [e1]; exact h0) ?_
    iterate 1 (refine zv_step (bX7_say (z + 1 + 2)) rfl rfl trivial ?_)
    refine zv_ift (by decide) ?_
    iterate 4 (refine zv_step (bX7_say (z + 1 + 2)) rfl rfl trivial ?_)
    refine zv_iale (bX7_say (z + 1 + 2)) rfl rfl hv (show A 0 (nI n).toNatClampNeg = nI 7 by rw [e1]; exact h0) ?_
    iterate 2 (refine zv_step (bX7_say (z + 1 + 2)) rfl rfl trivial ?_)
    refine zv_iff (by decide) ?_
    iterate 2 (refine zv_step (bX7_say (z + 1 + 2)) rfl rfl trivial ?_)
    refine zv_V1 (bX7_say (z + 1 + 2)) rfl rfl rfl rfl rfl rfl rfl ⟨rfl, rfl, rfl⟩ ⟨by show 0 + 1 ≤ z + 1 + 2; omega, by show 8 + (2 + 11) + 64 * (0) ≤ 64 * (z + 1 + 2); omega⟩ ⟨Nat.zero_le _, Nat.zero_le _⟩ (mSays f (upd o 20 _) A J _ _ (by omega) _) ?_
    rintro _ _ ⟨rfl, rfl⟩
    iterate 3 (refine zv_step (bX7_say (z + 1 + 2)) rfl rfl trivial ?_)
    refine zv_iale (bX7_say (z + 1 + 2)) rfl rfl hv (show A 0 (nI n).toNatClampNeg = nI 7 by rw [e1]; exact h0) ?_
    iterate 2 (refine zv_step (bX7_say (z + 1 + 2)) rfl rfl trivial ?_)
    refine zv_ift (by decide) ?_
    iterate 5 (refine zv_step (bX7_say (z + 1 + 2)) rfl rfl trivial ?_)
    refine zv_iale (bX7_say (z + 1 + 2)) rfl rfl hv (show A 2 (nI n).toNatClampNeg = nI a by rw [e1]; exact h2) ?_
    refine zv_V2 (bX7_say (z + 1 + 2)) rfl rfl rfl rfl rfl rfl rfl ⟨rfl, rfl, rfl⟩ ⟨by show z + 2 + 1 ≤ z + 1 + 2; omega, by show 8 + (6 + 11) + 64 * (z + 2) ≤ 64 * (z + 1 + 2); omega⟩ ⟨Nat.zero_le _, Nat.zero_le _⟩ (ih a (by omega) (by omega) (by omega) _ _ _ (by omega)) ?_
    rintro _ _ ⟨rfl, m1, rfl⟩
    iterate 3 (refine zv_step (bX7_say (z + 1 + 2)) rfl rfl trivial ?_)
    refine zv_iale (bX7_say (z + 1 + 2)) rfl rfl hv (show A 0 (nI n).toNatClampNeg = nI 7 by rw [e1]; exact h0) ?_
    iterate 2 (refine zv_step (bX7_say (z + 1 + 2)) rfl rfl trivial ?_)
    refine zv_ift (by decide) ?_
    have kk := kk m1
    simp only [List.length_cons] at kk
    rw [show q + ((wdW A s z (nI a)).length + 1) = q + 1 + (wdW A s z (nI a)).length by omega] at kk
    exact kk
set_option maxHeartbeats 1000000 in
set_option maxRecDepth 20000 in
theorem sayX8 (f : Nat → zC) (o : Nat → Int32) (A : Nat → Nat → Int32) (J : Nat → Nat → Int64) {lo hi : Nat} (hh : hi ≤ 450) {s n z : Nat} (hn : n < 450) {c : Int32} (ih : ∀ (x : Nat), lo ≤ x → x < hi → szN A x ≤ z → ∀ (q : Nat) (m : Int32) (g : Nat → Int32), q + (wdW A s z (nI x)).length ≤ 256 → zK (z + 2) zX7_say [.ref 76, .int (nI s), .int (nI x)] (wZ f o A J q m g) (fun r w' => r = none ∧ ∃ m' : Int32, w' = wZ f o A J (q + (wdW A s z (nI x)).length) m' (appA g q (wdW A s z (nI x))))) {n0 : Nat} {Q : Option Value → zW → Prop} {q : Nat} {m : Int32} {g : Nat → Int32} (hq : q + (coL A (wdW A s z) n).length ≤ 256) (kk : ∀ m' : Int32, zV (zMo (z + 1 + 2) zX7_say) false n0 0 0 270 [(3, .int c), (0, .ref 76), (1, .int (nI s)), (2, .int (nI n))] [] (wZ f o A J (q + (coL A (wdW A s z) n).length) m' (appA g q (coL A (wdW A s z) n))) Q) {a : Nat} (h0 : A 0 n = nI 8) (h2 : A 2 n = nI a) (la : lo ≤ a) (ha : a < n) (hnh : n < hi) (hsz : szN A n ≤ z + 1) (es : szN A n = 1 + szN A a) : zV (zMo (z + 1 + 2) zX7_say) false n0 0 0 17 [(3, .int c), (0, .ref 76), (1, .int (nI s)), (2, .int (nI n))] [] (wZ f o A J q m g) Q := by
  have e1 : (nI n).toNatClampNeg = n := nI_clamp (by omega)
  have hv : vp_in (nI n) 450 := vp_in_nI (by omega) (by decide)
  rw [coL_8 h0, h2] at kk hq
  simp only [List.length_append, List.length_cons, List.length_nil] at hq
  iterate 3 (refine zv_step (bX7_say (z + 1 + 2)) rfl rfl trivial ?_)
  refine zv_iale (bX7_say (z + 1 + 2)) rfl rfl hv (show A 0 (nI n).toNatClampNeg = nI 8 by rw [e1]; exact h0) ?_
  refine zv_S1 (bX7_say (z + 1 + 2)) rfl rfl rfl rfl ⟨rfl, rfl, rfl⟩ ⟨by show 0 + 1 ≤ z + 1 + 2; omega, by show 8 + (1 + 11) + 64 * (0) ≤ 64 * (z + 1 + 2); omega⟩ ⟨Nat.zero_le _, Nat.zero_le _⟩ (hX7_isTwo _ _) ?_
  rintro _ _ ⟨rfl, ⟨g1, rfl⟩ | ⟨g1, rfl⟩⟩
  · skip
    iterate 1 (refine zv_step (bX7_say (z + 1 + 2)) rfl rfl trivial ?_)
    refine zv_iff (by decide) ?_
    exact absurd g1 (by decide)
  · skip
    iterate 1 (refine zv_step (bX7_say (z + 1 + 2)) rfl rfl trivial ?_)
    refine zv_ift (by decide) ?_
    iterate 3 (refine zv_step (bX7_say (z + 1 + 2)) rfl rfl trivial ?_)
    refine zv_iale (bX7_say (z + 1 + 2)) rfl rfl hv (show A 0 (nI n).toNatClampNeg = nI 8 by rw [e1]; exact h0) ?_
    iterate 2 (refine zv_step (bX7_say (z + 1 + 2)) rfl rfl trivial ?_)
    refine zv_ift (by decide) ?_
    iterate 3 (refine zv_step (bX7_say (z + 1 + 2)) rfl rfl trivial ?_)
    refine zv_iale (bX7_say (z + 1 + 2)) rfl rfl hv (show A 0 (nI n).toNatClampNeg = nI 8 by rw [e1]; exact h0) ?_
    iterate 1 (refine zv_step (bX7_say (z + 1 + 2)) rfl rfl trivial ?_)
    refine zv_ift (by decide) ?_
    iterate 4 (refine zv_step (bX7_say (z + 1 + 2)) rfl rfl trivial ?_)
    refine zv_iale (bX7_say (z + 1 + 2)) rfl rfl hv (show A 0 (nI n).toNatClampNeg = nI 8 by rw [e1]; exact h0) ?_
    iterate 2 (refine zv_step (bX7_say (z + 1 + 2)) rfl rfl trivial ?_)
    refine zv_ift (by decide) ?_
    iterate 3 (refine zv_step (bX7_say (z + 1 + 2)) rfl rfl trivial ?_)
    refine zv_iale (bX7_say (z + 1 + 2)) rfl rfl hv (show A 0 (nI n).toNatClampNeg = nI 8 by rw [e1]; exact h0) ?_
    iterate 2 (refine zv_step (bX7_say (z + 1 + 2)) rfl rfl trivial ?_)
    refine zv_iff (by decide) ?_
    iterate 2 (refine zv_step (bX7_say (z + 1 + 2)) rfl rfl trivial ?_)
    refine zv_V1 (bX7_say (z + 1 + 2)) rfl rfl rfl rfl rfl rfl rfl ⟨rfl, rfl, rfl⟩ ⟨by show 0 + 1 ≤ z + 1 + 2; omega, by show 8 + (2 + 11) + 64 * (0) ≤ 64 * (z + 1 + 2); omega⟩ ⟨Nat.zero_le _, Nat.zero_le _⟩ (mSays f (upd o 20 _) A J _ _ (by omega) _) ?_
    rintro _ _ ⟨rfl, rfl⟩
    iterate 3 (refine zv_step (bX7_say (z + 1 + 2)) rfl rfl trivial ?_)
    refine zv_iale (bX7_say (z + 1 + 2)) rfl rfl hv (show A 0 (nI n).toNatClampNeg = nI 8 by rw [e1]; exact h0) ?_
    iterate 2 (refine zv_step (bX7_say (z + 1 + 2)) rfl rfl trivial ?_)
    refine zv_ift (by decide) ?_
    iterate 5 (refine zv_step (bX7_say (z + 1 + 2)) rfl rfl trivial ?_)
    refine zv_iale (bX7_say (z + 1 + 2)) rfl rfl hv (show A 2 (nI n).toNatClampNeg = nI a by rw [e1]; exact h2) ?_
    refine zv_V2 (bX7_say (z + 1 + 2)) rfl rfl rfl rfl rfl rfl rfl ⟨rfl, rfl, rfl⟩ ⟨by show z + 2 + 1 ≤ z + 1 + 2; omega, by show 8 + (6 + 11) + 64 * (z + 2) ≤ 64 * (z + 1 + 2); omega⟩ ⟨Nat.zero_le _, Nat.zero_le _⟩ (ih a (by omega) (by omega) (by omega) _ _ _ (by omega)) ?_
    rintro _ _ ⟨rfl, m1, rfl⟩
    iterate 3 (refine zv_step (bX7_say (z + 1 + 2)) rfl rfl trivial ?_)
    refine zv_iale (bX7_say (z + 1 + 2)) rfl rfl hv (show A 0 (nI n).toNatClampNeg = nI 8 by rw [e1]; exact h0) ?_
    iterate 2 (refine zv_step (bX7_say (z + 1 + 2)) rfl rfl trivial ?_)
    refine zv_iff (by decide) ?_
    iterate 2 (refine zv_step (bX7_say (z + 1 + 2)) rfl rfl trivial ?_)
    refine zv_V1 (bX7_say (z + 1 + 2)) rfl rfl rfl rfl rfl rfl rfl ⟨rfl, rfl, rfl⟩ ⟨by show 0 + 1 ≤ z + 1 + 2; omega, by show 8 + (2 + 11) + 64 * (0) ≤ 64 * (z + 1 + 2); omega⟩ ⟨Nat.zero_le _, Nat.zero_le _⟩ (mSays f (upd o 20 _) A J _ _ (by omega) _) ?_
    rintro _ _ ⟨rfl, rfl⟩
    have kk := kk m1
    rw [show c8 26 :: (wdW A s z (nI a) ++ [c8 27]) = (c8 26 :: wdW A s z (nI a)) ++ [c8 27] from rfl, appA_app] at kk
    simp only [List.length_cons, List.length_append, List.length_nil] at kk
    rw [show q + ((wdW A s z (nI a)).length + 1 + (0 + 1)) = q + 1 + (wdW A s z (nI a)).length + 1 by omega, show q + ((wdW A s z (nI a)).length + 1) = q + 1 + (wdW A s z (nI a)).length by omega] at kk
    exact kk
set_option maxHeartbeats 1000000 in
set_option maxRecDepth 20000 in
theorem sayX9 (f : Nat → zC) (o : Nat → Int32) (A : Nat → Nat → Int32) (J : Nat → Nat → Int64) {lo hi : Nat} (hh : hi ≤ 450) {s n z : Nat} (hn : n < 450) {c : Int32} (ih : ∀ (x : Nat), lo ≤ x → x < hi → szN A x ≤ z → ∀ (q : Nat) (m : Int32) (g : Nat → Int32), q + (wdW A s z (nI x)).length ≤ 256 → zK (z + 2) zX7_say [.ref 76, .int (nI s), .int (nI x)] (wZ f o A J q m g) (fun r w' => r = none ∧ ∃ m' : Int32, w' = wZ f o A J (q + (wdW A s z (nI x)).length) m' (appA g q (wdW A s z (nI x))))) {n0 : Nat} {Q : Option Value → zW → Prop} {q : Nat} {m : Int32} {g : Nat → Int32} (hq : q + (coL A (wdW A s z) n).length ≤ 256) (kk : ∀ m' : Int32, zV (zMo (z + 1 + 2) zX7_say) false n0 0 0 270 [(3, .int c), (0, .ref 76), (1, .int (nI s)), (2, .int (nI n))] [] (wZ f o A J (q + (coL A (wdW A s z) n).length) m' (appA g q (coL A (wdW A s z) n))) Q) {a : Nat} (h0 : A 0 n = nI 9) (h2 : A 2 n = nI a) (la : lo ≤ a) (ha : a < n) (hnh : n < hi) (hsz : szN A n ≤ z + 1) (es : szN A n = 1 + szN A a) : zV (zMo (z + 1 + 2) zX7_say) false n0 0 0 17 [(3, .int c), (0, .ref 76), (1, .int (nI s)), (2, .int (nI n))] [] (wZ f o A J q m g) Q := by
  have e1 : (nI n).toNatClampNeg = n := nI_clamp (by omega)
  have hv : vp_in (nI n) 450 := vp_in_nI (by omega) (by decide)
  rw [coL_9 h0, h2] at kk hq
  simp only [List.length_append, List.length_cons, List.length_nil] at hq
  iterate 3 (refine zv_step (bX7_say (z + 1 + 2)) rfl rfl trivial ?_)
  refine zv_iale (bX7_say (z + 1 + 2)) rfl rfl hv (show A 0 (nI n).toNatClampNeg = nI 9 by rw [e1]; exact h0) ?_
  refine zv_S1 (bX7_say (z + 1 + 2)) rfl rfl rfl rfl ⟨rfl, rfl, rfl⟩ ⟨by show 0 + 1 ≤ z + 1 + 2; omega, by show 8 + (1 + 11) + 64 * (0) ≤ 64 * (z + 1 + 2); omega⟩ ⟨Nat.zero_le _, Nat.zero_le _⟩ (hX7_isTwo _ _) ?_
  rintro _ _ ⟨rfl, ⟨g1, rfl⟩ | ⟨g1, rfl⟩⟩
  · skip
    iterate 1 (refine zv_step (bX7_say (z + 1 + 2)) rfl rfl trivial ?_)
    refine zv_iff (by decide) ?_
    exact absurd g1 (by decide)
  · skip
    iterate 1 (refine zv_step (bX7_say (z + 1 + 2)) rfl rfl trivial ?_)
    refine zv_ift (by decide) ?_
    iterate 3 (refine zv_step (bX7_say (z + 1 + 2)) rfl rfl trivial ?_)
    refine zv_iale (bX7_say (z + 1 + 2)) rfl rfl hv (show A 0 (nI n).toNatClampNeg = nI 9 by rw [e1]; exact h0) ?_
    iterate 2 (refine zv_step (bX7_say (z + 1 + 2)) rfl rfl trivial ?_)
    refine zv_ift (by decide) ?_
    iterate 3 (refine zv_step (bX7_say (z + 1 + 2)) rfl rfl trivial ?_)
    refine zv_iale (bX7_say (z + 1 + 2)) rfl rfl hv (show A 0 (nI n).toNatClampNeg = nI 9 by rw [e1]; exact h0) ?_
    iterate 1 (refine zv_step (bX7_say (z + 1 + 2)) rfl rfl trivial ?_)
    refine zv_ift (by decide) ?_
    iterate 4 (refine zv_step (bX7_say (z + 1 + 2)) rfl rfl trivial ?_)
    refine zv_iale (bX7_say (z + 1 + 2)) rfl rfl hv (show A 0 (nI n).toNatClampNeg = nI 9 by rw [e1]; exact h0) ?_
    iterate 2 (refine zv_step (bX7_say (z + 1 + 2)) rfl rfl trivial ?_)
    refine zv_ift (by decide) ?_
    iterate 3 (refine zv_step (bX7_say (z + 1 + 2)) rfl rfl trivial ?_)
    refine zv_iale (bX7_say (z + 1 + 2)) rfl rfl hv (show A 0 (nI n).toNatClampNeg = nI 9 by rw [e1]; exact h0) ?_
    iterate 2 (refine zv_step (bX7_say (z + 1 + 2)) rfl rfl trivial ?_)
    refine zv_ift (by decide) ?_
    iterate 3 (refine zv_step (bX7_say (z + 1 + 2)) rfl rfl trivial ?_)
    refine zv_iale (bX7_say (z + 1 + 2)) rfl rfl hv (show A 1 (nI n).toNatClampNeg = A 1 n by rw [e1]) ?_
    refine zv_V1 (bX7_say (z + 1 + 2)) rfl rfl rfl rfl rfl rfl rfl ⟨rfl, rfl, rfl⟩ ⟨by show 0 + 1 ≤ z + 1 + 2; omega, by show 8 + (2 + 11) + 64 * (0) ≤ 64 * (z + 1 + 2); omega⟩ ⟨Nat.zero_le _, Nat.zero_le _⟩ (mSays f (upd o 20 _) A J _ _ (by omega) _) ?_
    rintro _ _ ⟨rfl, rfl⟩
    iterate 3 (refine zv_step (bX7_say (z + 1 + 2)) rfl rfl trivial ?_)
    refine zv_iale (bX7_say (z + 1 + 2)) rfl rfl hv (show A 0 (nI n).toNatClampNeg = nI 9 by rw [e1]; exact h0) ?_
    iterate 2 (refine zv_step (bX7_say (z + 1 + 2)) rfl rfl trivial ?_)
    refine zv_iff (by decide) ?_
    iterate 2 (refine zv_step (bX7_say (z + 1 + 2)) rfl rfl trivial ?_)
    refine zv_V1 (bX7_say (z + 1 + 2)) rfl rfl rfl rfl rfl rfl rfl ⟨rfl, rfl, rfl⟩ ⟨by show 0 + 1 ≤ z + 1 + 2; omega, by show 8 + (2 + 11) + 64 * (0) ≤ 64 * (z + 1 + 2); omega⟩ ⟨Nat.zero_le _, Nat.zero_le _⟩ (mSays f (upd o 20 _) A J _ _ (by omega) _) ?_
    rintro _ _ ⟨rfl, rfl⟩
    iterate 5 (refine zv_step (bX7_say (z + 1 + 2)) rfl rfl trivial ?_)
    refine zv_iale (bX7_say (z + 1 + 2)) rfl rfl hv (show A 2 (nI n).toNatClampNeg = nI a by rw [e1]; exact h2) ?_
    refine zv_V2 (bX7_say (z + 1 + 2)) rfl rfl rfl rfl rfl rfl rfl ⟨rfl, rfl, rfl⟩ ⟨by show z + 2 + 1 ≤ z + 1 + 2; omega, by show 8 + (6 + 11) + 64 * (z + 2) ≤ 64 * (z + 1 + 2); omega⟩ ⟨Nat.zero_le _, Nat.zero_le _⟩ (ih a (by omega) (by omega) (by omega) _ _ _ (by omega)) ?_
    rintro _ _ ⟨rfl, m1, rfl⟩
    iterate 3 (refine zv_step (bX7_say (z + 1 + 2)) rfl rfl trivial ?_)
    refine zv_iale (bX7_say (z + 1 + 2)) rfl rfl hv (show A 0 (nI n).toNatClampNeg = nI 9 by rw [e1]; exact h0) ?_
    iterate 2 (refine zv_step (bX7_say (z + 1 + 2)) rfl rfl trivial ?_)
    refine zv_ift (by decide) ?_
    have kk := kk m1
    simp only [List.length_cons] at kk
    rw [show q + ((wdW A s z (nI a)).length + 1 + 1) = q + 1 + 1 + (wdW A s z (nI a)).length by omega] at kk
    exact kk
set_option maxHeartbeats 1000000 in
set_option maxRecDepth 20000 in
theorem mSayX (f : Nat → zC) (o : Nat → Int32) (A : Nat → Nat → Int32) (J : Nat → Nat → Int64) {lo hi : Nat} (hh : hi ≤ 450) (hT : tbI lo hi A) (hB : blI A) (hm : o 19 < 0) {s : Nat} (hs : s < 8) : ∀ (z n : Nat), lo ≤ n → n < hi → szN A n ≤ z → ∀ (q : Nat) (m : Int32) (g : Nat → Int32), q + (wdW A s z (nI n)).length ≤ 256 → zK (z + 2) zX7_say [.ref 76, .int (nI s), .int (nI n)] (wZ f o A J q m g) (fun r w' => r = none ∧ ∃ m' : Int32, w' = wZ f o A J (q + (wdW A s z (nI n)).length) m' (appA g q (wdW A s z (nI n)))) := by
  intro z
  induction z with
  | zero =>
    intro n hlo hn hz
    have := (rN_sz (hT n hlo hn)).1
    omega
  | succ z ih =>
    intro n hlo hn hz q m g hq
    obtain ⟨kd, hkd, h0⟩ := rN_kd (hT n hlo hn)
    refine zK_of qX7_say (by decide +kernel) rfl ?_
    iterate 3 (refine zv_step (bX7_say (z + 1 + 2)) rfl rfl trivial ?_)
    refine zv_V2 (bX7_say (z + 1 + 2)) rfl rfl rfl rfl rfl rfl rfl ⟨rfl, rfl, rfl⟩ ⟨by show 1 + 1 ≤ z + 1 + 2; omega, by show 8 + (3 + 11) + 64 * (1) ≤ 64 * (z + 1 + 2); omega⟩ ⟨Nat.zero_le _, Nat.zero_le _⟩ (mKeepsIt f o A J hB hs (by omega) hkd h0 q m g) ?_
    rintro _ _ ⟨m1, c, rfl, rfl, rfl | rfl, hc⟩
    · skip
      iterate 3 (refine zv_step (bX7_say (z + 1 + 2)) rfl rfl trivial ?_)
      refine zv_ift (rfl) ?_
      have eW9 : wdW A s (z + 1) (nI n) = (coL A (wdW A s z) n) := by
        rw [wdW_nI (by omega) hkd h0, ← hc hm]
        exact if_pos rfl
      rw [eW9] at hq
      have K : ∀ (n1 : Nat) (m' : Int32), zV (zMo (z + 1 + 2) zX7_say) false n1 0 0 270 [(3, .int 0), (0, .ref 76), (1, .int (nI s)), (2, .int (nI n))] [] (wZ f o A J (q + (coL A (wdW A s z) n).length) m' (appA g q (coL A (wdW A s z) n))) (fun r w' => r = none ∧ ∃ m' : Int32, w' = wZ f o A J (q + (wdW A s (z + 1) (nI n)).length) m' (appA g q (wdW A s (z + 1) (nI n)))) := by
        intro n1 m'
        iterate 2 (refine zv_step (bX7_say (z + 1 + 2)) rfl rfl trivial ?_)
        refine zv_ift (rfl) ?_
        exact zv_ret (bX7_say (z + 1 + 2)) rfl rfl (Nat.zero_le _) (Nat.zero_le _) ⟨rfl, m', by rw [eW9]⟩
      obtain ⟨k9, y9, h0', hk9, h4, hy, hs9, _⟩ := hT n hlo hn
      have es := szN_of h4 hy
      have kd9 : k9 = kd := (nI_eq (by omega) (by omega)).mp (h0'.symm.trans h0)
      subst kd9
      rcases hs9 with ⟨k1, h2, h3, e⟩ | ⟨k1, k2, a, b, h2, la, ha, h3, lb, hb, e⟩ | ⟨k1, a, h2, la, ha, h3, e⟩
      · rcases (show k9 = 0 ∨ k9 = 1 by omega) with rfl | rfl
        · exact sayX0 f o A J hh (by omega) ih (by omega) (K _) h0
        · exact sayX1 f o A J hh (by omega) ih (by omega) (K _) h0
      · exact sayX2 f o A J hh (by omega) ih (by omega) (K _) k1 k2 h0 h2 la ha h3 lb hb hn hz (by omega)
      · rcases (show k9 = 7 ∨ k9 = 8 ∨ k9 = 9 by omega) with rfl | rfl | rfl
        · exact sayX7 f o A J hh (by omega) ih (by omega) (K _) h0 h2 la ha hn hz (by omega)
        · exact sayX8 f o A J hh (by omega) ih (by omega) (K _) h0 h2 la ha hn hz (by omega)
        · exact sayX9 f o A J hh (by omega) ih (by omega) (K _) h0 h2 la ha hn hz (by omega)
    · skip
      iterate 3 (refine zv_step (bX7_say (z + 1 + 2)) rfl rfl trivial ?_)
      refine zv_iff (by decide) ?_
      iterate 2 (refine zv_step (bX7_say (z + 1 + 2)) rfl rfl trivial ?_)
      refine zv_V1 (bX7_say (z + 1 + 2)) rfl rfl rfl rfl rfl rfl rfl ⟨rfl, rfl, rfl⟩ ⟨by show 0 + 1 ≤ z + 1 + 2; omega, by show 8 + (2 + 11) + 64 * (0) ≤ 64 * (z + 1 + 2); omega⟩ ⟨Nat.zero_le _, Nat.zero_le _⟩ (mSays f (upd o 20 _) A J _ _ (by have := hq; rw [wdW_nI (by omega) hkd h0, ← hc hm] at this; unfold brL at this; rw [if_neg (by decide)] at this; simp only [List.length_append, List.length_cons, List.length_nil] at this; omega) _) ?_
      rintro _ _ ⟨rfl, rfl⟩
      have eW9 : wdW A s (z + 1) (nI n) = c8 29 :: ((coL A (wdW A s z) n) ++ [c8 30]) := by
        rw [wdW_nI (by omega) hkd h0, ← hc hm]
        exact if_neg (by decide)
      rw [eW9] at hq
      simp only [List.length_append, List.length_cons, List.length_nil] at hq
      have K : ∀ (n1 : Nat) (m' : Int32), zV (zMo (z + 1 + 2) zX7_say) false n1 0 0 270 [(3, .int 1), (0, .ref 76), (1, .int (nI s)), (2, .int (nI n))] [] (wZ f o A J ((q + 1) + (coL A (wdW A s z) n).length) m' (appA (upd g q (c8 29)) (q + 1) (coL A (wdW A s z) n))) (fun r w' => r = none ∧ ∃ m' : Int32, w' = wZ f o A J (q + (wdW A s (z + 1) (nI n)).length) m' (appA g q (wdW A s (z + 1) (nI n)))) := by
        intro n1 m'
        iterate 2 (refine zv_step (bX7_say (z + 1 + 2)) rfl rfl trivial ?_)
        refine zv_iff (by decide) ?_
        iterate 2 (refine zv_step (bX7_say (z + 1 + 2)) rfl rfl trivial ?_)
        refine zv_V1 (bX7_say (z + 1 + 2)) rfl rfl rfl rfl rfl rfl rfl ⟨rfl, rfl, rfl⟩ ⟨by show 0 + 1 ≤ z + 1 + 2; omega, by show 8 + (2 + 11) + 64 * (0) ≤ 64 * (z + 1 + 2); omega⟩ ⟨Nat.zero_le _, Nat.zero_le _⟩ (mSays f (upd o 20 _) A J _ _ (by omega) _) ?_
        rintro _ _ ⟨rfl, rfl⟩
        exact zv_ret (bX7_say (z + 1 + 2)) rfl rfl (Nat.zero_le _) (Nat.zero_le _) ⟨rfl, m', by rw [eW9, show c8 29 :: ((coL A (wdW A s z) n) ++ [c8 30]) = (c8 29 :: (coL A (wdW A s z) n)) ++ [c8 30] from rfl, appA_app]; simp only [List.length_cons, List.length_append, List.length_nil]; rw [show q + ((coL A (wdW A s z) n).length + 1 + (0 + 1)) = q + 1 + (coL A (wdW A s z) n).length + 1 by omega, show q + ((coL A (wdW A s z) n).length + 1) = q + 1 + (coL A (wdW A s z) n).length by omega]; rfl⟩
      obtain ⟨k9, y9, h0', hk9, h4, hy, hs9, _⟩ := hT n hlo hn
      have es := szN_of h4 hy
      have kd9 : k9 = kd := (nI_eq (by omega) (by omega)).mp (h0'.symm.trans h0)
      subst kd9
      rcases hs9 with ⟨k1, h2, h3, e⟩ | ⟨k1, k2, a, b, h2, la, ha, h3, lb, hb, e⟩ | ⟨k1, a, h2, la, ha, h3, e⟩
      · rcases (show k9 = 0 ∨ k9 = 1 by omega) with rfl | rfl
        · exact sayX0 f o A J hh (by omega) ih (by omega) (K _) h0
        · exact sayX1 f o A J hh (by omega) ih (by omega) (K _) h0
      · exact sayX2 f o A J hh (by omega) ih (by omega) (K _) k1 k2 h0 h2 la ha h3 lb hb hn hz (by omega)
      · rcases (show k9 = 7 ∨ k9 = 8 ∨ k9 = 9 by omega) with rfl | rfl | rfl
        · exact sayX7 f o A J hh (by omega) ih (by omega) (K _) h0 h2 la ha hn hz (by omega)
        · exact sayX8 f o A J hh (by omega) ih (by omega) (K _) h0 h2 la ha hn hz (by omega)
        · exact sayX9 f o A J hh (by omega) ih (by omega) (K _) h0 h2 la ha hn hz (by omega)
set_option maxHeartbeats 1000000 in
set_option maxRecDepth 20000 in
theorem mSayAllX (f : Nat → zC) (o : Nat → Int32) (A : Nat → Nat → Int32) (J : Nat → Nat → Int64) {lo hi : Nat} (hh : hi ≤ 450) (hT : tbI lo hi A) (hB : blI A) {s n : Nat} (hs : s < 8) (hlo : lo ≤ n) (hn : n < hi) : zK 43 zX7_sayAll [.ref 76, .int (nI s), .int (nI n)] (wR f o A J) (fun r w' => r = none ∧ ∃ m' : Int32, w' = wZ f (upd o 19 (Int32.ofInt (-1))) A J (wdW A s 40 (nI n)).length m' (appA (A 14) 0 (wdW A s 40 (nI n)))) := by
  refine zK_of qX7_sayAll (by decide +kernel) rfl ?_
  iterate 6 (refine zv_step (bX7_sayAll 43) rfl rfl trivial ?_)
  have hlen : 0 + (wdW A s 40 (nI n)).length ≤ 256 := by
    rw [wdW_len hh hT s 40 (nI n) (pt_of hT hlo hn)]
    have hl := lnW_le hh hT s 40 (nI n) (pt_of hT hlo hn)
    have hz := (rN_sz (hT n hlo hn)).2.1
    rw [if_neg (nI_pos (by omega)), nI_clamp (by omega)] at hl
    omega
  refine zv_world (show _ = wZ f (upd o 19 (Int32.ofInt (-1))) A J 0 (o 20) (A 14) from rfl) ?_
  iterate 3 (refine zv_step (bX7_sayAll 43) rfl rfl trivial ?_)
  refine zv_V2 (bX7_sayAll 43) rfl rfl rfl rfl rfl rfl rfl ⟨rfl, rfl, rfl⟩ ⟨by decide, by decide⟩ ⟨Nat.zero_le _, Nat.zero_le _⟩ (mSayX f (upd o 19 (Int32.ofInt (-1))) A J hh hT hB (show upd o 19 (Int32.ofInt (-1)) 19 < 0 by rw [upd_self]; decide) hs 40 n hlo hn (rN_sz (hT n hlo hn)).2.1 0 _ _ hlen) ?_
  rintro _ _ ⟨rfl, m1, rfl⟩
  rw [Nat.zero_add]
  exact zv_ret (bX7_sayAll 43) rfl rfl (Nat.zero_le _) (Nat.zero_le _) ⟨rfl, m1, rfl⟩
end
section
theorem tmW_eq {a b : Nat} (h : a * b ≤ cap) : tmW a b = a * b := if_pos h
theorem plW_eq {a b : Nat} (h : a + b ≤ cap) : plW a b = a + b := if_pos h
theorem csW_eq {g : Nat → Nat} : ∀ c, sW g c ≤ cap → csW g c = sW g c
  | 0, _ => rfl
  | c + 1, h => by
    have h' : sW g c + g c ≤ cap := h
    show plW (csW g c) (g c) = sW g c + g c
    rw [csW_eq c (by omega), plW_eq h']
theorem pfS_mono {E : Nat → Nat} {L : Nat → Nat → Nat} {k a b : Nat} (d : Nat) : ∀ c, pfS E L k a b d ≤ pfS E L k a b (d + c)
  | 0 => Nat.le_refl _
  | c + 1 => Nat.le_trans (pfS_mono d c) (Nat.le_add_right _ _)
theorem wiP_eq {E : Nat → Nat} {L : Nat → Nat → Nat} {k a b : Nat} : ∀ (c d n : Nat), n = pfS E L k a b d → pfS E L k a b (d + c) ≤ cap → wiP E L k a b c (a + 1 + d) n = pfS E L k a b (d + c)
  | 0, d, n, h, _ => h
  | c + 1, d, n, h, hc => by
    rw [show d + (c + 1) = d + 1 + c by omega] at hc ⊢
    have hm := pfS_mono (E := E) (L := L) (k := k) (a := a) (b := b) (d + 1) c
    refine wiP_eq c (d + 1) _ ?_ hc
    have e : pfS E L k a b (d + 1) = pfS E L k a b d + (if E (a + 1 + d) = 18 + k then tmW (L a (a + 1 + d)) (L (a + 1 + d + 1) b) else 0) := rfl
    rw [e] at hm ⊢
    rw [h]
    split
    · rename_i q
      rw [if_pos q] at hm
      exact plW_eq (by omega)
    · rfl
/-- a sum over KINDS -/
def kS (K : Nat → Bool) (w : Nat → Nat) : Nat → Nat
  | 0 => 0
  | c + 1 => kS K w c + (if K c = true then w c else 0)
/-- READINGS of the words i .. j, not KEPT, of the KINDS K -/
def bS (E : Nat → Nat) (G : Nat → Int32) (L : Nat → Nat → Nat) (K : Nat → Bool) (i j : Nat) : Nat := kS K (fun k => wi E G L k i j) 10
/-- the pairs among them whose word stands ahead of place a + 1 + c -/
def pK (E : Nat → Nat) (L : Nat → Nat → Nat) (K : Nat → Bool) (a b : Nat) : Nat → Nat
  | 0 => 0
  | c + 1 => pK E L K a b c + (if 20 ≤ E (a + 1 + c) ∧ E (a + 1 + c) ≤ 24 ∧ K (E (a + 1 + c) - 18) = true then tmW (L a (a + 1 + c)) (L (a + 1 + c + 1) b) else 0)
theorem ite_add {b : Bool} (x y : Nat) : (if b = true then x + y else 0) = (if b = true then x else 0) + (if b = true then y else 0) := by
  cases b <;> rfl
theorem one_k (K : Nat → Bool) (e t : Nat) : (if K 2 = true then (if e = 18 + 2 then t else 0) else 0) + (if K 3 = true then (if e = 18 + 3 then t else 0) else 0) + (if K 4 = true then (if e = 18 + 4 then t else 0) else 0) + (if K 5 = true then (if e = 18 + 5 then t else 0) else 0) + (if K 6 = true then (if e = 18 + 6 then t else 0) else 0) = if 20 ≤ e ∧ e ≤ 24 ∧ K (e - 18) = true then t else 0 := by
  by_cases h : 20 ≤ e ∧ e ≤ 24
  · have q : e = 20 ∨ e = 21 ∨ e = 22 ∨ e = 23 ∨ e = 24 := by omega
    rcases q with rfl | rfl | rfl | rfl | rfl <;> simp
  · rw [if_neg (show ¬ e = 18 + 2 by omega), if_neg (show ¬ e = 18 + 3 by omega), if_neg (show ¬ e = 18 + 4 by omega), if_neg (show ¬ e = 18 + 5 by omega), if_neg (show ¬ e = 18 + 6 by omega), if_neg (show ¬ (20 ≤ e ∧ e ≤ 24 ∧ K (e - 18) = true) from fun q => h ⟨q.1, q.2.1⟩)]
    simp
theorem pK_eq (E : Nat → Nat) (L : Nat → Nat → Nat) (K : Nat → Bool) (a b : Nat) : ∀ c, (if K 2 = true then pfS E L 2 a b c else 0) + (if K 3 = true then pfS E L 3 a b c else 0) + (if K 4 = true then pfS E L 4 a b c else 0) + (if K 5 = true then pfS E L 5 a b c else 0) + (if K 6 = true then pfS E L 6 a b c else 0) = pK E L K a b c
  | 0 => by
    show (if K 2 = true then 0 else 0) + (if K 3 = true then 0 else 0) + (if K 4 = true then 0 else 0) + (if K 5 = true then 0 else 0) + (if K 6 = true then 0 else 0) = 0
    simp
  | c + 1 => by
    have ih := pK_eq E L K a b c
    have e : ∀ k, pfS E L k a b (c + 1) = pfS E L k a b c + (if E (a + 1 + c) = 18 + k then tmW (L a (a + 1 + c)) (L (a + 1 + c + 1) b) else 0) := fun _ => rfl
    have h1 := one_k K (E (a + 1 + c)) (tmW (L a (a + 1 + c)) (L (a + 1 + c + 1) b))
    rw [e 2, e 3, e 4, e 5, e 6, ite_add, ite_add, ite_add, ite_add, ite_add]
    show _ = pK E L K a b c + _
    omega
/-- which KIND but a pair the words' ends allow; 10: none -/
def keV (E : Nat → Nat) (G : Nat → Int32) (i j : Nat) : Nat :=
  if E i < 10 then (if G (E i) = 0 then (if j - i = 1 then 0 else 10) else (if 2 < j - i ∧ E (i + 1) = 28 then 9 else 10))
  else if E i = 25 then (if 1 < j - i then 7 else 10)
  else if E i = 26 then (if 2 < j - i ∧ E (j - 1) = 27 then 8 else 10)
  else if isNumB E i j = true then 1 else 10
def pfN (k i : Nat) : Nat := if k = 9 then i + 2 else i + 1
def ptN (k j : Nat) : Nat := if k = 8 then j - 1 else j
def neV (E : Nat → Nat) (G : Nat → Int32) (L : Nat → Nat → Nat) (K : Nat → Bool) (i j : Nat) : Nat :=
  if keV E G i j = 10 ∨ ¬ K (keV E G i j) = true then 0 else if keV E G i j ≤ 1 then 1 else L (pfN (keV E G i j) i) (ptN (keV E G i j) j)
theorem keV_c {E : Nat → Nat} {G : Nat → Int32} {i j : Nat} (hij : i < j) (L : Nat → Nat → Nat) (k : Nat) (hk : k < 2 ∨ (7 ≤ k ∧ k < 10)) : wi E G L k i j = if keV E G i j = k then (if k ≤ 1 then 1 else L (pfN k i) (ptN k j)) else 0 := by
  have hn : isNumB E i j = true → 10 ≤ E i ∧ E i ≤ 19 := fun h => (isNumB_at h).2.2 i (Nat.le_refl _) hij
  have w0 := wi_0 (E := E) (G := G) (L := L) hij
  have w1 := wi_1 (E := E) (G := G) (L := L) hij
  have w7 := wi_7 (E := E) (G := G) (L := L) hij
  have w8 := wi_8 (E := E) (G := G) (L := L) hij
  have w9 := wi_9 (E := E) (G := G) (L := L) hij
  have q : k = 0 ∨ k = 1 ∨ k = 7 ∨ k = 8 ∨ k = 9 := by omega
  unfold keV
  by_cases h : E i < 10
  · have n1 : ¬ isNumB E i j = true := fun e => by have := hn e; omega
    have n7 : ¬ E i = 25 := by omega
    have n8 : ¬ E i = 26 := by omega
    by_cases g : G (E i) = 0
    · by_cases w : j - i = 1
      · rcases q with rfl | rfl | rfl | rfl | rfl
        · rw [w0]; simp [h, g, w]
        · rw [w1]; simp [h, g, w, n1]
        · rw [w7]; simp [h, g, w, n7]
        · rw [w8]; simp [h, g, w, n8]
        · rw [w9]; simp [h, g, w]
      · rcases q with rfl | rfl | rfl | rfl | rfl
        · rw [w0]; simp [h, g, w]
        · rw [w1]; simp [h, g, w, n1]
        · rw [w7]; simp [h, g, w, n7]
        · rw [w8]; simp [h, g, w, n8]
        · rw [w9]; simp [h, g, w]
    · by_cases w : 2 < j - i ∧ E (i + 1) = 28
      · rcases q with rfl | rfl | rfl | rfl | rfl
        · rw [w0]; simp [h, g, w]
        · rw [w1]; simp [h, g, w, n1]
        · rw [w7]; simp [h, g, w, n7]
        · rw [w8]; simp [h, g, w, n8]
        · rw [w9]; simp [h, g, w, pfN, ptN]
      · rcases q with rfl | rfl | rfl | rfl | rfl
        · rw [w0]; simp [h, g, w]
        · rw [w1]; simp [h, g, w, n1]
        · rw [w7]; simp [h, g, w, n7]
        · rw [w8]; simp [h, g, w, n8]
        · rw [w9, if_neg (show ¬ (E i < 10 ∧ ¬ G (E i) = 0 ∧ 2 < j - i ∧ E (i + 1) = 28) from fun q => w q.2.2)]; simp [h, g, w]
  · rw [if_neg h]
    have n0 : ¬ (j - i = 1 ∧ E i < 10 ∧ G (E i) = 0) := fun q => h q.2.1
    have n9 : ¬ (E i < 10 ∧ ¬ G (E i) = 0 ∧ 2 < j - i ∧ E (i + 1) = 28) := fun q => h q.1
    rw [if_neg n0] at w0
    rw [if_neg n9] at w9
    by_cases h7 : E i = 25
    · have n1 : ¬ isNumB E i j = true := fun e => by have := hn e; omega
      have n8 : ¬ E i = 26 := by omega
      rw [if_neg n1] at w1
      rw [if_neg (show ¬ (E i = 26 ∧ E (j - 1) = 27 ∧ 2 < j - i) from fun q => n8 q.1)] at w8
      rw [if_pos h7]
      by_cases w : 1 < j - i
      · rw [if_pos (show E i = 25 ∧ 1 < j - i from ⟨h7, w⟩)] at w7
        rw [if_pos w]
        rcases q with rfl | rfl | rfl | rfl | rfl
        · rw [w0]; rfl
        · rw [w1]; rfl
        · rw [w7]; rfl
        · rw [w8]; rfl
        · rw [w9]; rfl
      · rw [if_neg (show ¬ (E i = 25 ∧ 1 < j - i) from fun q => w q.2)] at w7
        rw [if_neg w]
        rcases q with rfl | rfl | rfl | rfl | rfl
        · rw [w0]; rfl
        · rw [w1]; rfl
        · rw [w7]; rfl
        · rw [w8]; rfl
        · rw [w9]; rfl
    · rw [if_neg h7]
      rw [if_neg (show ¬ (E i = 25 ∧ 1 < j - i) from fun q => h7 q.1)] at w7
      by_cases h8 : E i = 26
      · have n1 : ¬ isNumB E i j = true := fun e => by have := hn e; omega
        rw [if_neg n1] at w1
        rw [if_pos h8]
        by_cases w : 2 < j - i ∧ E (j - 1) = 27
        · rw [if_pos (show E i = 26 ∧ E (j - 1) = 27 ∧ 2 < j - i from ⟨h8, w.2, w.1⟩)] at w8
          rw [if_pos w]
          rcases q with rfl | rfl | rfl | rfl | rfl
          · rw [w0]; rfl
          · rw [w1]; rfl
          · rw [w7]; rfl
          · rw [w8]; rfl
          · rw [w9]; rfl
        · rw [if_neg (show ¬ (E i = 26 ∧ E (j - 1) = 27 ∧ 2 < j - i) from fun q => w ⟨q.2.2, q.2.1⟩)] at w8
          rw [if_neg w]
          rcases q with rfl | rfl | rfl | rfl | rfl
          · rw [w0]; rfl
          · rw [w1]; rfl
          · rw [w7]; rfl
          · rw [w8]; rfl
          · rw [w9]; rfl
      · rw [if_neg h8]
        rw [if_neg (show ¬ (E i = 26 ∧ E (j - 1) = 27 ∧ 2 < j - i) from fun q => h8 q.1)] at w8
        by_cases n1 : isNumB E i j = true
        · rw [if_pos n1] at w1
          rw [if_pos n1]
          rcases q with rfl | rfl | rfl | rfl | rfl
          · rw [w0]; rfl
          · rw [w1]; rfl
          · rw [w7]; rfl
          · rw [w8]; rfl
          · rw [w9]; rfl
        · rw [if_neg n1] at w1
          rw [if_neg n1]
          rcases q with rfl | rfl | rfl | rfl | rfl
          · rw [w0]; rfl
          · rw [w1]; rfl
          · rw [w7]; rfl
          · rw [w8]; rfl
          · rw [w9]; rfl
theorem keV_in (E : Nat → Nat) (G : Nat → Int32) (i j : Nat) : keV E G i j = 0 ∧ j - i = 1 ∨ keV E G i j = 1 ∨ keV E G i j = 7 ∧ 1 < j - i ∨ keV E G i j = 8 ∧ 2 < j - i ∨ keV E G i j = 9 ∧ 2 < j - i ∨ keV E G i j = 10 := by
  unfold keV
  split
  · split
    · split <;> omega
    · split <;> omega
  · split
    · split <;> omega
    · split
      · split <;> omega
      · split <;> omega
theorem neV_eq {E : Nat → Nat} {G : Nat → Int32} {i j : Nat} (hij : i < j) (L : Nat → Nat → Nat) (K : Nat → Bool) : (if K 0 = true then wi E G L 0 i j else 0) + (if K 1 = true then wi E G L 1 i j else 0) + (if K 7 = true then wi E G L 7 i j else 0) + (if K 8 = true then wi E G L 8 i j else 0) + (if K 9 = true then wi E G L 9 i j else 0) = neV E G L K i j := by
  rw [keV_c hij L 0 (by decide), keV_c hij L 1 (by decide), keV_c hij L 7 (by decide), keV_c hij L 8 (by decide), keV_c hij L 9 (by decide)]
  unfold neV
  rcases keV_in E G i j with e | e | e | e | e | e
  · rw [e.1]; cases h : K 0 <;> simp
  · rw [e]; cases h : K 1 <;> simp
  · rw [e.1]; cases h : K 7 <;> simp
  · rw [e.1]; cases h : K 8 <;> simp
  · rw [e.1]; cases h : K 9 <;> simp
  · rw [e]; simp
/-- shorter spans have few READINGS -/
def BD (L : Nat → Nat → Nat) (i j : Nat) : Prop := ∀ a b, i ≤ a → a < b → b ≤ j → b - a < j - i → L a b ≤ 5 ^ (b - a - 1)
theorem pow5 {n m : Nat} (h : n ≤ m) : 5 ^ n ≤ 5 ^ m := Nat.pow_le_pow_right (by decide) h
theorem tm_5 {L : Nat → Nat → Nat} {i j c : Nat} (h : BD L i j) (hc : i + 1 + c + 1 < j) : L i (i + 1 + c) * L (i + 1 + c + 1) j ≤ 5 ^ (j - i - 3) := by
  have h1 := h i (i + 1 + c) (Nat.le_refl _) (by omega) (by omega) (by omega)
  have h2 := h (i + 1 + c + 1) j (by omega) (by omega) (Nat.le_refl _) (by omega)
  refine Nat.le_trans (Nat.mul_le_mul h1 h2) ?_
  rw [← Nat.pow_add]
  exact pow5 (by omega)
theorem pow5_cap {n : Nat} (h : n ≤ 17) : 18 * 5 ^ n ≤ cap := by
  have := Nat.mul_le_mul_left 18 (pow5 h)
  exact Nat.le_trans this (by decide)
theorem pK_le {E : Nat → Nat} {L : Nat → Nat → Nat} {K : Nat → Bool} {i j : Nat} (h : BD L i j) : ∀ c, i + 1 + c < j → pK E L K i j c ≤ c * 5 ^ (j - i - 3)
  | 0, _ => Nat.zero_le _
  | c + 1, hc => by
    have ih := pK_le (E := E) (K := K) h c (by omega)
    show pK E L K i j c + _ ≤ _
    rw [Nat.succ_mul]
    split
    · exact Nat.add_le_add ih (Nat.le_trans (tmW_le _ _).2 (tm_5 h (by omega)))
    · exact Nat.le_trans ih (Nat.le_add_right _ _)
theorem pfS_pK {E : Nat → Nat} {L : Nat → Nat → Nat} {k a b : Nat} (k2 : 2 ≤ k) (k6 : k ≤ 6) (c : Nat) : pfS E L k a b c ≤ pK E L (fun _ => true) a b c := by
  have h := pK_eq E L (fun _ => true) a b c
  simp only [if_true] at h
  have q : k = 2 ∨ k = 3 ∨ k = 4 ∨ k = 5 ∨ k = 6 := by omega
  rcases q with rfl | rfl | rfl | rfl | rfl <;> omega
theorem pfS_cap {E : Nat → Nat} {L : Nat → Nat → Nat} {k i j : Nat} (h : BD L i j) (hij : i < j) (hw : j - i ≤ 20) (k2 : 2 ≤ k) (k6 : k ≤ 6) : pfS E L k i j (j - 1 - (i + 1)) ≤ cap := by
  rcases Nat.lt_or_ge (j - i) 3 with g | g
  · rw [show j - 1 - (i + 1) = 0 by omega]
    exact Nat.zero_le _
  · refine Nat.le_trans (pfS_pK k2 k6 _) (Nat.le_trans (pK_le h _ (by omega)) (Nat.le_trans ?_ (pow5_cap (n := j - i - 3) (by omega))))
    exact Nat.mul_le_mul_right _ (by omega)
theorem wi_pf {E : Nat → Nat} {G : Nat → Int32} {L : Nat → Nat → Nat} {k i j : Nat} (h : BD L i j) (hij : i < j) (hw : j - i ≤ 20) (k2 : 2 ≤ k) (k6 : k ≤ 6) : wi E G L k i j = pfS E L k i j (j - 1 - (i + 1)) := by
  rw [wi_2 hij k2 k6]
  have := wiP_eq (E := E) (L := L) (k := k) (a := i) (b := j) (j - 1 - (i + 1)) 0 0 rfl (by rw [Nat.zero_add]; exact pfS_cap h hij hw k2 k6)
  rwa [Nat.zero_add] at this
theorem bS_eq {E : Nat → Nat} {G : Nat → Int32} {L : Nat → Nat → Nat} {i j : Nat} (h : BD L i j) (hij : i < j) (hw : j - i ≤ 20) (K : Nat → Bool) : bS E G L K i j = pK E L K i j (j - 1 - (i + 1)) + neV E G L K i j := by
  have h1 := pK_eq E L K i j (j - 1 - (i + 1))
  have h2 := neV_eq (E := E) (G := G) hij L K
  rw [← h1, ← h2]
  rw [← wi_pf (E := E) (G := G) h hij hw (k := 2) (by decide) (by decide), ← wi_pf (E := E) (G := G) h hij hw (k := 3) (by decide) (by decide), ← wi_pf (E := E) (G := G) h hij hw (k := 4) (by decide) (by decide), ← wi_pf (E := E) (G := G) h hij hw (k := 5) (by decide) (by decide), ← wi_pf (E := E) (G := G) h hij hw (k := 6) (by decide) (by decide)]
  show 0 + (if K 0 = true then wi E G L 0 i j else 0) + (if K 1 = true then wi E G L 1 i j else 0) + (if K 2 = true then wi E G L 2 i j else 0) + (if K 3 = true then wi E G L 3 i j else 0) + (if K 4 = true then wi E G L 4 i j else 0) + (if K 5 = true then wi E G L 5 i j else 0) + (if K 6 = true then wi E G L 6 i j else 0) + (if K 7 = true then wi E G L 7 i j else 0) + (if K 8 = true then wi E G L 8 i j else 0) + (if K 9 = true then wi E G L 9 i j else 0) = _
  omega
def hB5 (w : Nat) : Nat := if w < 3 then 1 else 23 * 5 ^ (w - 3)
theorem neV_le {E : Nat → Nat} {G : Nat → Int32} {L : Nat → Nat → Nat} {K : Nat → Bool} {i j : Nat} (h : BD L i j) (hij : i < j) : neV E G L K i j ≤ 5 ^ (j - i - 2) := by
  have one : 1 ≤ 5 ^ (j - i - 2) := Nat.one_le_pow _ _ (by decide)
  unfold neV
  split
  · exact Nat.zero_le _
  · split
    · exact one
    · have hL : ∀ a b, i < a → a < b → b ≤ j → L a b ≤ 5 ^ (j - i - 2) := fun a b h1 h2 h3 => Nat.le_trans (h a b (by omega) h2 h3 (by omega)) (pow5 (by omega))
      rcases keV_in E G i j with e | e | e | e | e | e
      · omega
      · omega
      · rw [e.1]; exact hL _ _ (by show i < i + 1; omega) (by show i + 1 < j; omega) (Nat.le_refl _)
      · rw [e.1]; exact hL _ _ (by show i < i + 1; omega) (by show i + 1 < j - 1; omega) (by show j - 1 ≤ j; omega)
      · rw [e.1]; exact hL _ _ (by show i < i + 2; omega) (by show i + 2 < j; omega) (Nat.le_refl _)
      · omega
theorem bS_le {E : Nat → Nat} {G : Nat → Int32} {L : Nat → Nat → Nat} {i j : Nat} (h : BD L i j) (hij : i < j) (hw : j - i ≤ 20) (K : Nat → Bool) : bS E G L K i j ≤ hB5 (j - i) := by
  rw [bS_eq h hij hw K]
  have h2 := neV_le (E := E) (G := G) (K := K) h hij
  unfold hB5
  split
  · rename_i g
    rw [show j - 1 - (i + 1) = 0 by omega]
    rw [show j - i - 2 = 0 by omega] at h2
    show 0 + _ ≤ 1
    omega
  · rename_i g
    have h1 := pK_le (E := E) (K := K) h (j - 1 - (i + 1)) (by omega)
    have h3 : (j - 1 - (i + 1)) * 5 ^ (j - i - 3) ≤ 18 * 5 ^ (j - i - 3) := Nat.mul_le_mul_right _ (by omega)
    rw [show j - i - 2 = j - i - 3 + 1 by omega, Nat.pow_succ] at h2
    omega
/-- READINGS of the words i .. j of each sort c: KIND c / 2, KEPT or not -/
def mG (E : Nat → Nat) (G : Nat → Int32) (lt : Nat → Nat → Bool) (L : Nat → Nat → Nat) (i j c : Nat) : Nat := if lt (c / 2) (c % 2) = true ∧ (c % 2 = 0 ∨ (E i = 29 ∧ E (j - 1) = 30)) then wi E G L (c / 2) (i + c % 2) (j - c % 2) else 0
theorem mG_e {E : Nat → Nat} {G : Nat → Int32} {lt : Nat → Nat → Bool} {L : Nat → Nat → Nat} {i j : Nat} (k : Nat) : mG E G lt L i j (2 * k) = if lt k 0 = true then wi E G L k i j else 0 := by
  unfold mG
  rw [show 2 * k / 2 = k by omega, show 2 * k % 2 = 0 by omega]
  by_cases h : lt k 0 = true
  · rw [if_pos ⟨h, Or.inl rfl⟩, if_pos h]
    rfl
  · rw [if_neg (fun q => h q.1), if_neg h]
theorem mG_o {E : Nat → Nat} {G : Nat → Int32} {lt : Nat → Nat → Bool} {L : Nat → Nat → Nat} {i j : Nat} (k : Nat) : mG E G lt L i j (2 * k + 1) = if E i = 29 ∧ E (j - 1) = 30 then (if lt k 1 = true then wi E G L k (i + 1) (j - 1) else 0) else 0 := by
  unfold mG
  rw [show (2 * k + 1) / 2 = k by omega, show (2 * k + 1) % 2 = 1 by omega]
  by_cases h : lt k 1 = true
  · by_cases g : E i = 29 ∧ E (j - 1) = 30
    · rw [if_pos ⟨h, Or.inr g⟩, if_pos g, if_pos h]
    · rw [if_neg (fun q => q.2.elim (by decide) g), if_neg g]
  · rw [if_neg (fun q => h q.1)]
    rw [if_neg h]
    split <;> rfl
abbrev brE (E : Nat → Nat) (i j : Nat) : Prop := E i = 29 ∧ E (j - 1) = 30
theorem sW_mG (E : Nat → Nat) (G : Nat → Int32) (lt : Nat → Nat → Bool) (L : Nat → Nat → Nat) (i j : Nat) : ∀ c, sW (mG E G lt L i j) (2 * c) = kS (fun k => lt k 0) (fun k => wi E G L k i j) c + if brE E i j then kS (fun k => lt k 1) (fun k => wi E G L k (i + 1) (j - 1)) c else 0
  | 0 => by
    show 0 = 0 + if brE E i j then 0 else 0
    split <;> rfl
  | c + 1 => by
    show sW (mG E G lt L i j) (2 * c) + mG E G lt L i j (2 * c) + mG E G lt L i j (2 * c + 1) = (kS (fun k => lt k 0) (fun k => wi E G L k i j) c + (if lt c 0 = true then wi E G L c i j else 0)) + if brE E i j then kS (fun k => lt k 1) (fun k => wi E G L k (i + 1) (j - 1)) c + (if lt c 1 = true then wi E G L c (i + 1) (j - 1) else 0) else 0
    rw [sW_mG E G lt L i j c, mG_e, mG_o]
    by_cases g : brE E i j
    · simp only [if_pos g]
      omega
    · simp only [if_neg g]
      omega
/-- all READINGS of a span -/
def tS (E : Nat → Nat) (G : Nat → Int32) (lt : Nat → Nat → Bool) (L : Nat → Nat → Nat) (i j : Nat) : Nat := bS E G L (fun k => lt k 0) i j + if brE E i j then bS E G L (fun k => lt k 1) (i + 1) (j - 1) else 0
theorem sW_tS (E : Nat → Nat) (G : Nat → Int32) (lt : Nat → Nat → Bool) (L : Nat → Nat → Nat) (i j : Nat) : sW (mG E G lt L i j) 20 = tS E G lt L i j := sW_mG E G lt L i j 10
theorem kS_0 {K : Nat → Bool} {w : Nat → Nat} (h : ∀ k, w k = 0) : ∀ c, kS K w c = 0
  | 0 => rfl
  | c + 1 => by
    show kS K w c + _ = 0
    rw [kS_0 h c, h c]
    split <;> rfl
theorem bS_n {E : Nat → Nat} {G : Nat → Int32} {L : Nat → Nat → Nat} {i j : Nat} (K : Nat → Bool) (h : j ≤ i) : bS E G L K i j = 0 := kS_0 (fun _ => wi_n h) 10
theorem BD_in {L : Nat → Nat → Nat} {i j i' j' : Nat} (h : BD L i j) (h1 : i ≤ i') (h2 : j' ≤ j) : BD L i' j' := fun a b q1 q2 q3 q4 => h a b (by omega) q2 (by omega) (by omega)
theorem tS_le {E : Nat → Nat} {G : Nat → Int32} {L : Nat → Nat → Nat} {i j : Nat} (h : BD L i j) (hij : i < j) (hw : j - i ≤ 20) (lt : Nat → Nat → Bool) : tS E G lt L i j ≤ 5 ^ (j - i - 1) := by
  unfold tS
  have h1 := bS_le (E := E) (G := G) h hij hw (fun k => lt k 0)
  have h2 : (if brE E i j then bS E G L (fun k => lt k 1) (i + 1) (j - 1) else 0) ≤ if 2 < j - i then hB5 (j - i - 2) else 0 := by
    split
    · split
      · have := bS_le (E := E) (G := G) (i := i + 1) (j := j - 1) (BD_in h (by omega) (by omega)) (by omega) (by omega) (fun k => lt k 1)
        rwa [show j - 1 - (i + 1) = j - i - 2 by omega] at this
      · rw [bS_n _ (by omega)]
        exact Nat.le_refl _
    · exact Nat.zero_le _
  unfold hB5 at h1 h2
  rcases Nat.lt_or_ge (j - i) 3 with g | g
  · rw [if_pos g] at h1
    rw [if_neg (show ¬ 2 < j - i by omega)] at h2
    have : 1 ≤ 5 ^ (j - i - 1) := Nat.one_le_pow _ _ (by decide)
    omega
  · rw [if_neg (show ¬ j - i < 3 by omega)] at h1
    rw [if_pos (show 2 < j - i by omega)] at h2
    have e1 : 5 ^ (j - i - 1) = 25 * 5 ^ (j - i - 3) := by
      rw [show j - i - 1 = j - i - 3 + 2 by omega, Nat.pow_add]
      omega
    have e2 : 1 ≤ 5 ^ (j - i - 3) := Nat.one_le_pow _ _ (by decide)
    rcases Nat.lt_or_ge (j - i - 2) 3 with g2 | g2
    · rw [if_pos g2] at h2
      omega
    · rw [if_neg (show ¬ j - i - 2 < 3 by omega)] at h2
      have e3 : 5 ^ (j - i - 3) = 25 * 5 ^ (j - i - 2 - 3) := by
        rw [show j - i - 3 = j - i - 2 - 3 + 2 by omega, Nat.pow_add]
        omega
      omega
theorem pow5_cap1 {n : Nat} (h : n ≤ 19) : 5 ^ n ≤ cap := Nat.le_trans (pow5 h) (by decide)
/-- counts that are consistent are small, and no cap was reached -/
theorem L_le {E : Nat → Nat} {G : Nat → Int32} {lt : Nat → Nat → Bool} {L : Nat → Nat → Nat} {h : Nat} (hh : h ≤ 20) (hL : ∀ i j, i < j → j ≤ h → L i j = csW (mG E G lt L i j) 20) : ∀ (d i j : Nat), i < j → j ≤ h → j - i ≤ d → L i j ≤ 5 ^ (j - i - 1) ∧ L i j = tS E G lt L i j
  | 0, i, j, h1, h2, h3 => absurd h1 (by omega)
  | d + 1, i, j, h1, h2, h3 => by
    have hb : BD L i j := fun a b q1 q2 q3 q4 => (L_le hh hL d a b q2 (by omega) (by omega)).1
    have ht := tS_le (E := E) (G := G) hb h1 (by omega) lt
    have e : L i j = tS E G lt L i j := by
      rw [hL i j h1 h2, csW_eq 20 (by rw [sW_tS]; exact Nat.le_trans ht (pow5_cap1 (by omega))), sW_tS]
    exact ⟨by rw [e]; exact ht, e⟩
theorem mG_cg {E : Nat → Nat} {G : Nat → Int32} {lt : Nat → Nat → Bool} {L L' : Nat → Nat → Nat} {i j c : Nat} (e : ∀ a b, i ≤ a → a < b → b ≤ j → b - a < j - i → L a b = L' a b) : mG E G lt L i j c = mG E G lt L' i j c := by
  unfold mG
  split
  · exact wi_cg (fun a b h1 h2 h3 h4 => e a b (by omega) h2 (by omega) (by omega))
  · rfl
theorem sW_cg {g g' : Nat → Nat} : ∀ c, (∀ d, d < c → g d = g' d) → sW g c = sW g' c
  | 0, _ => rfl
  | c + 1, h => by
    show sW g c + g c = sW g' c + g' c
    rw [sW_cg c (fun d hd => h d (by omega)), h c (by omega)]
theorem tS_cg {E : Nat → Nat} {G : Nat → Int32} {lt : Nat → Nat → Bool} {L L' : Nat → Nat → Nat} {i j : Nat} (e : ∀ a b, i ≤ a → a < b → b ≤ j → b - a < j - i → L a b = L' a b) : tS E G lt L i j = tS E G lt L' i j := by
  rw [← sW_tS, ← sW_tS]
  exact sW_cg 20 (fun d _ => mG_cg e)
theorem L_uq {E : Nat → Nat} {G : Nat → Int32} {lt : Nat → Nat → Bool} {L L' : Nat → Nat → Nat} {h : Nat} (hL : ∀ i j, i < j → j ≤ h → L i j = tS E G lt L i j) (hL' : ∀ i j, i < j → j ≤ h → L' i j = tS E G lt L' i j) : ∀ (d i j : Nat), i < j → j ≤ h → j - i ≤ d → L i j = L' i j
  | 0, i, j, h1, h2, h3 => absurd h1 (by omega)
  | d + 1, i, j, h1, h2, h3 => by
    rw [hL i j h1 h2, hL' i j h1 h2]
    exact tS_cg (fun a b q1 q2 q3 q4 => L_uq hL hL' d a b q2 (by omega) (by omega))
end
section
/-- the NUMBER that words say -/
def nvN (E : Nat → Nat) : Nat → Nat → Nat → Nat
  | 0, _, t => t
  | c + 1, m, t => nvN E c (m + 1) (10 * t + E m - 10)
/-- a row of KINDS and v's, each PART ahead of what it is a PART of, that reads the words a .. b by a KIND k, PLACE q -/
def RK (E : Nat → Nat) (L : Nat → Nat → Nat) (R : Nat → Nat → Nat → List (Nat × Nat) → Prop) (k a b q : Nat) (T : List (Nat × Nat)) : Prop :=
  (k < 2 ∧ T = [(k, if k = 0 then E a else nvN E (b - a) a 0)]) ∨
  (7 ≤ k ∧ ∃ X, T = X ++ [(k, E a)] ∧ R (pfN k a) (ptN k b) q X) ∨
  (2 ≤ k ∧ k ≤ 6 ∧ ∃ c r X Y, a + 1 + c + 1 < b ∧ E (a + 1 + c) = 18 + k ∧ q = pfS E L k a b c + r ∧ r < tmW (L a (a + 1 + c)) (L (a + 1 + c + 1) b) ∧ T = X ++ Y ++ [(k, 0)] ∧ R a (a + 1 + c) (r / L (a + 1 + c + 1) b) X ∧ R (a + 1 + c + 1) b (r % L (a + 1 + c + 1) b) Y)
/-- such a row is READING p of the words i .. j -/
def RT (E : Nat → Nat) (M : Nat → Nat → Nat → Nat) (L : Nat → Nat → Nat) : Nat → Nat → Nat → Nat → List (Nat × Nat) → Prop
  | 0, _, _, _, _ => False
  | f + 1, i, j, p, T => ∃ c q, c < 20 ∧ p = sW (M i j) c + q ∧ q < M i j c ∧ RK E L (RT E M L f) (c / 2) (i + c % 2) (j - c % 2) q T
theorem sW_mono (g : Nat → Nat) (d : Nat) : ∀ c, sW g d ≤ sW g (d + c)
  | 0 => Nat.le_refl _
  | c + 1 => Nat.le_trans (sW_mono g d c) (Nat.le_add_right _ _)
theorem sW_uq {g : Nat → Nat} {c q c' q' : Nat} (h : sW g c + q = sW g c' + q') (hq : q < g c) (hq' : q' < g c') : c = c' ∧ q = q' := by
  rcases Nat.lt_trichotomy c c' with e | e | e
  · have := sW_mono g (c + 1) (c' - (c + 1))
    rw [show c + 1 + (c' - (c + 1)) = c' by omega] at this
    have h2 : sW g (c + 1) = sW g c + g c := rfl
    omega
  · subst e
    exact ⟨rfl, by omega⟩
  · have := sW_mono g (c' + 1) (c - (c' + 1))
    rw [show c' + 1 + (c - (c' + 1)) = c by omega] at this
    have h2 : sW g (c' + 1) = sW g c' + g c' := rfl
    omega
theorem pfS_at {E : Nat → Nat} {L : Nat → Nat → Nat} {k a b c : Nat} (h : E (a + 1 + c) = 18 + k) : pfS E L k a b (c + 1) = pfS E L k a b c + tmW (L a (a + 1 + c)) (L (a + 1 + c + 1) b) := by
  show pfS E L k a b c + _ = _
  rw [if_pos h]
theorem pfS_uq {E : Nat → Nat} {L : Nat → Nat → Nat} {k a b c r c' r' : Nat} (h : pfS E L k a b c + r = pfS E L k a b c' + r') (he : E (a + 1 + c) = 18 + k) (he' : E (a + 1 + c') = 18 + k) (hr : r < tmW (L a (a + 1 + c)) (L (a + 1 + c + 1) b)) (hr' : r' < tmW (L a (a + 1 + c')) (L (a + 1 + c' + 1) b)) : c = c' ∧ r = r' := by
  rcases Nat.lt_trichotomy c c' with e | e | e
  · have := pfS_mono (E := E) (L := L) (k := k) (a := a) (b := b) (c + 1) (c' - (c + 1))
    rw [show c + 1 + (c' - (c + 1)) = c' by omega, pfS_at he] at this
    omega
  · subst e
    exact ⟨rfl, by omega⟩
  · have := pfS_mono (E := E) (L := L) (k := k) (a := a) (b := b) (c' + 1) (c - (c' + 1))
    rw [show c' + 1 + (c - (c' + 1)) = c by omega, pfS_at he'] at this
    omega
/-- a PLACE has one READING -/
theorem RT_uq {E : Nat → Nat} {M : Nat → Nat → Nat → Nat} {L : Nat → Nat → Nat} : ∀ (f i j p : Nat) (T T' : List (Nat × Nat)), RT E M L f i j p T → RT E M L f i j p T' → T = T'
  | 0, _, _, _, _, _, h, _ => h.elim
  | f + 1, i, j, p, T, T', ⟨c, q, h1, h2, h3, h4⟩, ⟨c', q', g1, g2, g3, g4⟩ => by
    obtain ⟨e1, e2⟩ := sW_uq (h2.symm.trans g2) h3 g3
    subst e1 e2
    rcases h4 with ⟨a1, a2⟩ | ⟨a1, X, a2, a3⟩ | ⟨a1, a2, d, r, X, Y, b1, b2, b3, b4, b5, b6, b7⟩
    · rcases g4 with ⟨k1, k2⟩ | ⟨k1, _⟩ | ⟨k1, _⟩
      · rw [a2, k2]
      · omega
      · omega
    · rcases g4 with ⟨k1, k2⟩ | ⟨k1, X', k2, k3⟩ | ⟨k1, k2, _⟩
      · omega
      · rw [a2, k2, RT_uq f _ _ _ _ _ a3 k3]
      · omega
    · rcases g4 with ⟨k1, k2⟩ | ⟨k1, _⟩ | ⟨k1, k2, d', r', X', Y', c1, c2, c3, c4, c5, c6, c7⟩
      · omega
      · omega
      · obtain ⟨e1, e2⟩ := pfS_uq (b3.symm.trans c3) b2 c2 b4 c4
        subst e1 e2
        rw [b5, c5, RT_uq f _ _ _ _ _ b6 c6, RT_uq f _ _ _ _ _ b7 c7]
theorem sW_find {g : Nat → Nat} {p : Nat} : ∀ n, p < sW g n → ∃ c q, c < n ∧ p = sW g c + q ∧ q < g c
  | 0, h => absurd h (Nat.not_lt_zero _)
  | n + 1, h => by
    rcases Nat.lt_or_ge p (sW g n) with e | e
    · obtain ⟨c, q, h1, h2, h3⟩ := sW_find n e
      exact ⟨c, q, by omega, h2, h3⟩
    · have h2 : sW g (n + 1) = sW g n + g n := rfl
      exact ⟨n, p - sW g n, by omega, by omega, by omega⟩
theorem pfS_find {E : Nat → Nat} {L : Nat → Nat → Nat} {k a b p : Nat} : ∀ n, p < pfS E L k a b n → ∃ c r, c < n ∧ E (a + 1 + c) = 18 + k ∧ p = pfS E L k a b c + r ∧ r < tmW (L a (a + 1 + c)) (L (a + 1 + c + 1) b)
  | 0, h => absurd h (Nat.not_lt_zero _)
  | n + 1, h => by
    rcases Nat.lt_or_ge p (pfS E L k a b n) with e | e
    · obtain ⟨c, q, h1, h2⟩ := pfS_find n e
      exact ⟨c, q, by omega, h2⟩
    · have h2 : pfS E L k a b (n + 1) = pfS E L k a b n + (if E (a + 1 + n) = 18 + k then tmW (L a (a + 1 + n)) (L (a + 1 + n + 1) b) else 0) := rfl
      split at h2
      · rename_i g
        exact ⟨n, p - pfS E L k a b n, by omega, g, by omega, by omega⟩
      · omega
theorem tm_dm {x y r : Nat} (h : r < tmW x y) : 0 < y ∧ r / y < x ∧ r % y < y := by
  have ht := (tmW_le x y).2
  have h0 : 0 < y := by
    rcases Nat.eq_zero_or_pos y with e | e
    · rw [e, Nat.mul_zero] at ht
      rw [e] at h
      omega
    · exact e
  exact ⟨h0, (Nat.div_lt_iff_lt_mul h0).mpr (by omega), Nat.mod_lt _ h0⟩
theorem mG_pos {E : Nat → Nat} {G : Nat → Int32} {lt : Nat → Nat → Bool} {L : Nat → Nat → Nat} {i j c p : Nat} (h : p < mG E G lt L i j c) : p < wi E G L (c / 2) (i + c % 2) (j - c % 2) ∧ lt (c / 2) (c % 2) = true ∧ (c % 2 = 0 ∨ (E i = 29 ∧ E (j - 1) = 30)) := by
  unfold mG at h
  split at h
  · rename_i e
    exact ⟨h, e⟩
  · omega
theorem wi_un {E : Nat → Nat} {G : Nat → Int32} {L : Nat → Nat → Nat} {k a b p : Nat} (k7 : 7 ≤ k) (k9 : k < 10) (h : p < wi E G L k a b) : a < b ∧ p < L (pfN k a) (ptN k b) ∧ a < pfN k a ∧ pfN k a < ptN k b ∧ ptN k b ≤ b ∧ keV E G a b = k := by
  have hab : a < b := by
    rcases Nat.lt_or_ge a b with e | e
    · exact e
    · rw [wi_n e] at h
      omega
  rw [keV_c hab L k (by omega)] at h
  split at h
  · rename_i e
    rw [if_neg (by omega)] at h
    have q : k = 7 ∨ k = 8 ∨ k = 9 := by omega
    have w := keV_in E G a b
    refine ⟨hab, h, ?_⟩
    rcases q with rfl | rfl | rfl
    · exact ⟨by show a < a + 1; omega, by show a + 1 < b; omega, Nat.le_refl _, e⟩
    · exact ⟨by show a < a + 1; omega, by show a + 1 < b - 1; omega, by show b - 1 ≤ b; omega, e⟩
    · exact ⟨by show a < a + 2; omega, by show a + 2 < b; omega, Nat.le_refl _, e⟩
  · omega
/-- each PLACE has a READING -/
theorem RT_ex {E : Nat → Nat} {G : Nat → Int32} {lt : Nat → Nat → Bool} {L : Nat → Nat → Nat} {h : Nat} (hh : h ≤ 20) (hL : ∀ i j, i < j → j ≤ h → L i j = tS E G lt L i j) : ∀ (f i j p : Nat), i < j → j ≤ h → j - i ≤ f → p < L i j → ∃ T, RT E (mG E G lt L) L f i j p T ∧ T.length ≤ j - i
  | 0, i, j, p, h1, h2, h3, h4 => absurd h1 (by omega)
  | f + 1, i, j, p, h1, h2, h3, h4 => by
    rw [hL i j h1 h2, ← sW_tS] at h4
    obtain ⟨c, q, c1, c2, c3⟩ := sW_find 20 h4
    obtain ⟨d1, d2, d3⟩ := mG_pos c3
    have hab : i + c % 2 < j - c % 2 := by
      rcases Nat.lt_or_ge (i + c % 2) (j - c % 2) with e | e
      · exact e
      · rw [wi_n e] at d1
        omega
    have pr : ∀ T, RK E L (RT E (mG E G lt L) L f) (c / 2) (i + c % 2) (j - c % 2) q T → T.length ≤ j - i → ∃ T, RT E (mG E G lt L) L (f + 1) i j p T ∧ T.length ≤ j - i := fun T hT hl => ⟨T, ⟨c, q, c1, c2, c3, hT⟩, hl⟩
    rcases Nat.lt_or_ge (c / 2) 2 with k2 | k2
    · exact pr _ (Or.inl ⟨k2, rfl⟩) (by show 1 ≤ j - i; omega)
    · rcases Nat.lt_or_ge (c / 2) 7 with k7 | k7
      · rw [wi_2 hab k2 (by omega)] at d1
        have hp := wiP_pf (E := E) (L := L) (k := c / 2) (a := i + c % 2) (b := j - c % 2) (j - c % 2 - 1 - (i + c % 2 + 1)) 0 0 (Nat.zero_le _)
        rw [Nat.zero_add] at hp
        obtain ⟨d, r, e1, e2, e3, e4⟩ := pfS_find _ (Nat.lt_of_lt_of_le d1 hp)
        obtain ⟨g0, g1, g2⟩ := tm_dm e4
        obtain ⟨X, x1, x2⟩ := RT_ex hh hL f (i + c % 2) (i + c % 2 + 1 + d) _ (by omega) (by omega) (by omega) g1
        obtain ⟨Y, y1, y2⟩ := RT_ex hh hL f (i + c % 2 + 1 + d + 1) (j - c % 2) _ (by omega) (by omega) (by omega) g2
        refine pr (X ++ Y ++ [(c / 2, 0)]) (Or.inr (Or.inr ⟨k2, by omega, d, r, X, Y, by omega, e2, e3, e4, rfl, x1, y1⟩)) ?_
        rw [List.length_append, List.length_append]
        show X.length + Y.length + 1 ≤ _
        omega
      · obtain ⟨_, w1, w2, w3, w4, _⟩ := wi_un k7 (by omega) d1
        obtain ⟨X, x1, x2⟩ := RT_ex hh hL f (pfN (c / 2) (i + c % 2)) (ptN (c / 2) (j - c % 2)) q w3 (by omega) (by omega) w1
        refine pr (X ++ [(c / 2, E (i + c % 2))]) (Or.inr (Or.inl ⟨k7, X, rfl, x1⟩)) ?_
        rw [List.length_append]
        show X.length + 1 ≤ _
        omega
end
