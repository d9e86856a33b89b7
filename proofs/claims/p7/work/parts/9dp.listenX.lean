/-- what speaking may change of the class -/
def spV (O : Nat → Int32) (P : Nat → Nat → Int32) (O' : Nat → Int32) (P' : Nat → Nat → Int32) : Prop := (∀ j, j < 3 ∨ 9 < j → O' j = O j) ∧ (∀ i, i ≠ 28 → i ≠ 30 → i ≠ 32 → P' i = P i)
def sameE (O : Nat → Int32) (P : Nat → Nat → Int32) (O' : Nat → Int32) (P' : Nat → Nat → Int32) : Prop := O' 9 = O 9 ∧ P' 32 = P 32
def sameM (o : Nat → Int32) (A : Nat → Nat → Int32) (o' : Nat → Int32) (A' : Nat → Nat → Int32) : Prop := o' 10 = o 10 ∧ A' 8 = A 8
/-- words that come to THE EAR, or are too many for it -/
def hsR (ws : List Int32) (e : Int32) (g : Nat → Int32) (R : Int32) (same : Prop) : Prop := (20 < ws.length ∧ R = c8 (-2) ∧ same) ∨ (ws.length ≤ 20 ∧ R = nI ws.length ∧ e = nI ws.length ∧ hasW g ws)
noncomputable abbrev spL (O : Nat → Int32) (P : Nat → Nat → Int32) (n : Nat) : List Int32 := tlW (O 1) (O 4) (Int32.ofInt 1) P 41 (nI n) (Int32.ofInt 0)
noncomputable abbrev syL (O : Nat → Int32) (P : Nat → Nat → Int32) (s n : Nat) : List Int32 := tlW (O 1) (P 75 s) (Int32.ofInt 0) P 41 (nI n) (hbW (P 75 s) (P 2 n))
def cfR (O : Nat → Int32) (P : Nat → Nat → Int32) (u : Nat) (x : Int32) (O' : Nat → Int32) (P' : Nat → Nat → Int32) (R : Int32) : Prop :=
  (R = Int32.ofInt (-1) ∧ ¬ isN u x ∧ sameE O P O' P') ∨ ∃ n, n < u ∧ x = nI n ∧ ((R = c8 (-3) ∧ ¬ (P 10 n &&& O 0 = 0 ∧ P 11 n &&& (O 0 ^^^ Int32.ofInt (-1)) = 0) ∧ sameE O P O' P') ∨ ((P 10 n &&& O 0 = 0 ∧ P 11 n &&& (O 0 ^^^ Int32.ofInt (-1)) = 0) ∧ ((R = c8 (-5) ∧ ¬ P 9 n ≤ c8 8 ∧ sameE O P O' P') ∨ (P 9 n ≤ c8 8 ∧ hsR (spL O P n) (O' 9) (P' 32) R (sameE O P O' P')))))
def clR (O : Nat → Int32) (P : Nat → Nat → Int32) (u : Nat) (x y : Int32) (O' : Nat → Int32) (P' : Nat → Nat → Int32) (R : Int32) : Prop :=
  (R = Int32.ofInt (-1) ∧ ¬ ((0 ≤ x.toInt ∧ x.toInt ≤ 7) ∧ isN u y) ∧ sameE O P O' P') ∨ ∃ s n, s < 8 ∧ n < u ∧ x = nI s ∧ y = nI n ∧ ((R = c8 (-5) ∧ 80 < (syL O P s n).length ∧ sameE O P O' P') ∨ ((syL O P s n).length ≤ 80 ∧ hsR (syL O P s n) (O' 9) (P' 32) R (sameE O P O' P')))
def mlR (o : Nat → Int32) (A : Nat → Nat → Int32) (u : Nat) (x y : Int32) (o' : Nat → Int32) (A' : Nat → Nat → Int32) (R : Int32) : Prop :=
  (R = Int32.ofInt (-1) ∧ ¬ ((0 ≤ x.toInt ∧ x.toInt ≤ 7) ∧ isN u y) ∧ sameM o A o' A') ∨ ∃ s n, s < 8 ∧ n < u ∧ x = nI s ∧ y = nI n ∧ ((R = c8 (-5) ∧ 80 < (wdW A s 40 (nI n)).length ∧ sameM o A o' A') ∨ ((wdW A s 40 (nI n)).length ≤ 80 ∧ hsR (wdW A s 40 (nI n)) (o' 10) (A' 8) R (sameM o A o' A')))
theorem has_cp {P : Nat → Nat → Int32} {ws : List Int32} {g : Nat → Int32} (h : ws.length ≤ 20) : hasW (cpR g (ap8 (P 28) 0 ws) ws.length) ws := fun t v e => by
  have ht : t < ws.length := (List.getElem?_eq_some_iff.mp e).1
  unfold cpR
  rw [if_pos ht]
  have := ap8_at ws (P 28) 0 t e (by omega)
  rwa [Nat.zero_add] at this
set_option maxHeartbeats 1000000 in
set_option maxRecDepth 20000 in
theorem cFewestX (O : Nat → Int32) (P : Nat → Nat → Int32) (Y : Nat → Nat → Int64) (g : Nat → zC) {u : Nat} (hu : u ≤ 120) (h1 : O 1 = nI u) (hp : pgI u (P 2) (P 4) (P 5) (P 6)) {l : Nat} (hl : l ≤ 20) (hO : O 9 = nI l) (x : Int32) : zK 86 zX6_fewest [.ref 0, .int x] (wX O P Y g) (fun r w' => ∃ (O' : Nat → Int32) (P' : Nat → Nat → Int32) (R : Int32), r = some (.int R) ∧ w' = wX O' P' Y g ∧ spV O P O' P' ∧ cfR O P u x O' P' R) := by
  refine zK_of qX6_fewest (by decide +kernel) rfl ?_
  iterate 3 (refine zv_step (bX6_fewest 86) rfl rfl trivial ?_)
  refine zv_V1 (bX6_fewest 86) rfl rfl rfl rfl rfl rfl rfl ⟨rfl, rfl, rfl⟩ ⟨by decide, by decide⟩ ⟨Nat.zero_le _, Nat.zero_le _⟩ (pHas1 O P Y g _) ?_
  rintro _ _ ⟨rfl, ⟨hh, rfl⟩ | ⟨hh, rfl⟩⟩
  · have hh1 : isN u x := by
      have h9 := hh
      rw [h1, nI_toInt (by omega)] at h9
      exact h9
    obtain ⟨n, hn, rfl⟩ := has_j hu h1 hh
    iterate 1 (refine zv_step (bX6_fewest 86) rfl rfl trivial ?_)
    refine zv_ift (by decide) ?_
    iterate 5 (refine zv_step (bX6_fewest 86) rfl rfl trivial ?_)
    refine zv_V2 (bX6_fewest 86) rfl rfl rfl rfl rfl rfl rfl ⟨rfl, rfl, rfl⟩ ⟨by decide, by decide⟩ ⟨Nat.zero_le _, Nat.zero_le _⟩ (pRight1 O P Y g _ (show vp_in (nI n) 120 from vp_in_nI (by omega) (by decide))) ?_
    rintro _ _ ⟨rfl, ⟨hrt, rfl⟩ | ⟨hrt, rfl⟩⟩
    · rw [nI_clamp (show n < 2 ^ 31 by omega)] at hrt
      iterate 1 (refine zv_step (bX6_fewest 86) rfl rfl trivial ?_)
      refine zv_ift (by decide) ?_
      iterate 4 (refine zv_step (bX6_fewest 86) rfl rfl trivial ?_)
      refine zv_iale (bX6_fewest 86) rfl rfl (show vp_in (nI n) 120 from vp_in_nI (by omega) (by decide)) (show P 9 (nI n).toNatClampNeg = P 9 n by rw [nI_clamp (by omega)]) ?_
      iterate 2 (refine zv_step (bX6_fewest 86) rfl rfl trivial ?_)
      refine zv_ifb (fun h42 => ?_) (fun h42 => ?_)
      · iterate 5 (refine zv_step (bX6_fewest 86) rfl rfl trivial ?_)
        refine zv_V2 (bX6_fewest 86) rfl rfl rfl rfl rfl rfl rfl ⟨rfl, rfl, rfl⟩ ⟨by decide, by decide⟩ ⟨Nat.zero_le _, Nat.zero_le _⟩ (sSparing27 O P Y g hu h1 hp hn) ?_
        rintro _ _ ⟨rfl, rfl⟩
        have hln : (spL O P n).length ≤ 6 * szq (P 6) (nI n) := by
          show (tlW (O 1) (O 4) (Int32.ofInt 1) P 41 (nI n) (Int32.ofInt 0)).length ≤ _
          rw [h1]
          exact tlW_len hu hp 41 _ _
        have hsz := szq_le hp hn hu
        refine zv_world (show wX (upd (upd O 5 (Int32.ofInt 1)) 3 (nI (spL O P n).length)) (updA P 28 (ap8 (P 28) 0 (spL O P n))) Y g = wX (upd (upd (upd O 5 (Int32.ofInt 1)) 3 (nI (spL O P n).length)) 9 (nI l)) (updA P 28 (ap8 (P 28) 0 (spL O P n))) Y g by rw [upd_same (show (upd (upd O 5 (Int32.ofInt 1)) 3 (nI (spL O P n).length)) 9 = nI l from hO)]) ?_
        iterate 1 (refine zv_step (bX6_fewest 86) rfl rfl trivial ?_)
        refine zv_V0 (bX6_fewest 86) rfl rfl rfl rfl rfl rfl rfl ⟨rfl, rfl, rfl⟩ ⟨by decide, by decide⟩ ⟨Nat.zero_le _, Nat.zero_le _⟩ (cHearSpeechX (upd (upd O 5 (Int32.ofInt 1)) 3 (nI (spL O P n).length)) (updA P 28 (ap8 (P 28) 0 (spL O P n))) Y g (q := (spL O P n).length) (l := l) (by omega) rfl) ?_
        rintro _ _ (⟨g1, rfl, rfl⟩ | ⟨g1, rfl, rfl⟩)
        · skip
          exact zv_iret (bX6_fewest 86) rfl (Or.inl rfl) (Nat.zero_le _) (Nat.zero_le _) ⟨_, _, _, rfl, rfl, ⟨fun j hj => by rw [upd_ne _ _ (by omega), upd_ne _ _ (by omega), upd_ne _ _ (by omega)], fun i a b c => updA_ne _ _ a⟩, Or.inr ⟨n, hn, rfl, Or.inr ⟨hrt, Or.inr ⟨h42, Or.inl ⟨g1, rfl, (upd_self _ _ _).trans hO.symm, updA_ne _ _ (by decide)⟩⟩⟩⟩⟩
        · skip
          exact zv_iret (bX6_fewest 86) rfl (Or.inl rfl) (Nat.zero_le _) (Nat.zero_le _) ⟨_, _, _, rfl, rfl, ⟨fun j hj => by rw [upd_ne _ _ (by omega), upd_ne _ _ (by omega), upd_ne _ _ (by omega)], fun i a b c => (updA_ne _ _ c).trans (updA_ne _ _ a)⟩, Or.inr ⟨n, hn, rfl, Or.inr ⟨hrt, Or.inr ⟨h42, Or.inr ⟨g1, rfl, upd_self _ _ _, by rw [updA_self, updA_self]; exact has_cp g1⟩⟩⟩⟩⟩
      · iterate 1 (refine zv_step (bX6_fewest 86) rfl rfl trivial ?_)
        exact zv_iret (bX6_fewest 86) rfl (Or.inl rfl) (Nat.zero_le _) (Nat.zero_le _) ⟨O, P, _, rfl, rfl, ⟨fun _ _ => rfl, fun _ _ _ _ => rfl⟩, Or.inr ⟨n, hn, rfl, Or.inr ⟨hrt, Or.inl ⟨rfl, h42, rfl, rfl⟩⟩⟩⟩
    · rw [nI_clamp (show n < 2 ^ 31 by omega)] at hrt
      iterate 1 (refine zv_step (bX6_fewest 86) rfl rfl trivial ?_)
      refine zv_iff (by decide) ?_
      iterate 1 (refine zv_step (bX6_fewest 86) rfl rfl trivial ?_)
      exact zv_iret (bX6_fewest 86) rfl (Or.inl rfl) (Nat.zero_le _) (Nat.zero_le _) ⟨O, P, _, rfl, rfl, ⟨fun _ _ => rfl, fun _ _ _ _ => rfl⟩, Or.inr ⟨n, hn, rfl, Or.inl ⟨rfl, hrt, rfl, rfl⟩⟩⟩
  · have hh1 : ¬ isN u x := fun q => hh (by rw [h1, nI_toInt (by omega)]; exact q)
    iterate 1 (refine zv_step (bX6_fewest 86) rfl rfl trivial ?_)
    refine zv_iff (by decide) ?_
    iterate 1 (refine zv_step (bX6_fewest 86) rfl rfl trivial ?_)
    exact zv_iret (bX6_fewest 86) rfl (Or.inl rfl) (Nat.zero_le _) (Nat.zero_le _) ⟨O, P, _, rfl, rfl, ⟨fun _ _ => rfl, fun _ _ _ _ => rfl⟩, Or.inl ⟨rfl, hh1, rfl, rfl⟩⟩
set_option maxHeartbeats 1000000 in
set_option maxRecDepth 20000 in
theorem cListenX (O : Nat → Int32) (P : Nat → Nat → Int32) (Y : Nat → Nat → Int64) (g : Nat → zC) {u : Nat} (hu : u ≤ 120) (h1 : O 1 = nI u) (hp : pgI u (P 2) (P 4) (P 5) (P 6)) {l : Nat} (hl : l ≤ 20) (hO : O 9 = nI l) (x y : Int32) : zK 86 zX6_listen [.ref 0, .int x, .int y] (wX O P Y g) (fun r w' => ∃ (O' : Nat → Int32) (P' : Nat → Nat → Int32) (R : Int32), r = some (.int R) ∧ w' = wX O' P' Y g ∧ spV O P O' P' ∧ clR O P u x y O' P' R) := by
  refine zK_of qX6_listen (by decide +kernel) rfl ?_
  iterate 1 (refine zv_step (bX6_listen 86) rfl rfl trivial ?_)
  refine zv_S1 (bX6_listen 86) rfl rfl rfl rfl ⟨rfl, rfl, rfl⟩ ⟨by decide, by decide⟩ ⟨Nat.zero_le _, Nat.zero_le _⟩ (hX6_isStyle _ _) ?_
  rintro _ _ ⟨rfl, ⟨hx, rfl⟩ | ⟨hx, rfl⟩⟩
  · obtain ⟨s, hs, rfl⟩ := in_nat (x := x) (b := 7) (by decide) hx
    iterate 1 (refine zv_step (bX6_listen 86) rfl rfl trivial ?_)
    refine zv_iff (by decide) ?_
    iterate 3 (refine zv_step (bX6_listen 86) rfl rfl trivial ?_)
    refine zv_V1 (bX6_listen 86) rfl rfl rfl rfl rfl rfl rfl ⟨rfl, rfl, rfl⟩ ⟨by decide, by decide⟩ ⟨Nat.zero_le _, Nat.zero_le _⟩ (pHas1 O P Y g _) ?_
    rintro _ _ ⟨rfl, ⟨hh, rfl⟩ | ⟨hh, rfl⟩⟩
    · have hh1 : isN u y := by
        have h9 := hh
        rw [h1, nI_toInt (by omega)] at h9
        exact h9
      obtain ⟨n, hn, rfl⟩ := has_j hu h1 hh
      iterate 1 (refine zv_step (bX6_listen 86) rfl rfl trivial ?_)
      refine zv_ift (by decide) ?_
      iterate 8 (refine zv_step (bX6_listen 86) rfl rfl trivial ?_)
      refine zv_iale (bX6_listen 86) rfl rfl (show vp_in (nI s) 8 from vp_in_nI (by omega) (by decide)) (show P 75 (nI s).toNatClampNeg = P 75 s by rw [nI_clamp (by omega)]) ?_
      iterate 1 (refine zv_step (bX6_listen 86) rfl rfl trivial ?_)
      refine zv_V4 (bX6_listen 86) rfl rfl rfl rfl rfl rfl rfl ⟨rfl, rfl, rfl⟩ ⟨by decide, by decide⟩ ⟨Nat.zero_le _, Nat.zero_le _⟩ (sStyle27 O P Y g hu h1 hp hn (f := 41) (by decide) rfl) ?_
      rintro _ _ ⟨rfl, rfl⟩
      have hln : (syL O P s n).length ≤ 6 * szq (P 6) (nI n) := by
        show (tlW (O 1) (P 75 s) (Int32.ofInt 0) P 41 (nI n) (hbW (P 75 s) (P 2 n))).length ≤ _
        rw [h1]
        exact tlW_len hu hp 41 _ _
      have hsz := szq_le hp hn hu
      iterate 2 (refine zv_step (bX6_listen 86) rfl rfl trivial ?_)
      refine zv_V0 (bX6_listen 86) rfl rfl rfl rfl rfl rfl rfl ⟨rfl, rfl, rfl⟩ ⟨by decide, by decide⟩ ⟨Nat.zero_le _, Nat.zero_le _⟩ (sLong27 _ _ _ _) ?_
      rintro _ _ ⟨rfl, ⟨hg, rfl⟩ | ⟨hg, rfl⟩⟩
      · have hg2 : 80 < (syL O P s n).length := by
          have h9 : 80 < (nI (syL O P s n).length).toInt := hg
          rw [nI_toInt (by omega)] at h9
          omega
        iterate 1 (refine zv_step (bX6_listen 86) rfl rfl trivial ?_)
        refine zv_iff (by decide) ?_
        iterate 1 (refine zv_step (bX6_listen 86) rfl rfl trivial ?_)
        exact zv_iret (bX6_listen 86) rfl (Or.inl rfl) (Nat.zero_le _) (Nat.zero_le _) ⟨_, _, _, rfl, rfl, ⟨fun j hj => by rw [upd_ne _ _ (by omega), upd_ne _ _ (by omega), upd_ne _ _ (by omega)], fun i a b c => updA_ne _ _ a⟩, Or.inr ⟨s, n, by omega, hn, rfl, rfl, Or.inl ⟨rfl, hg2, by rw [upd_ne _ _ (by decide), upd_ne _ _ (by decide), upd_ne _ _ (by decide)], updA_ne _ _ (by decide)⟩⟩⟩
      · have hg2 : ¬ 80 < (syL O P s n).length := fun q => hg (by show 80 < (nI (syL O P s n).length).toInt; rw [nI_toInt (by omega)]; omega)
        iterate 1 (refine zv_step (bX6_listen 86) rfl rfl trivial ?_)
        refine zv_ift (by decide) ?_
        refine zv_world (show wX (upd (upd (upd O 4 (P 75 s)) 5 (Int32.ofInt 0)) 3 (nI (syL O P s n).length)) (updA P 28 (ap8 (P 28) 0 (syL O P s n))) Y g = wX (upd (upd (upd (upd O 4 (P 75 s)) 5 (Int32.ofInt 0)) 3 (nI (syL O P s n).length)) 9 (nI l)) (updA P 28 (ap8 (P 28) 0 (syL O P s n))) Y g by rw [upd_same (show (upd (upd (upd O 4 (P 75 s)) 5 (Int32.ofInt 0)) 3 (nI (syL O P s n).length)) 9 = nI l from hO)]) ?_
        iterate 1 (refine zv_step (bX6_listen 86) rfl rfl trivial ?_)
        refine zv_V0 (bX6_listen 86) rfl rfl rfl rfl rfl rfl rfl ⟨rfl, rfl, rfl⟩ ⟨by decide, by decide⟩ ⟨Nat.zero_le _, Nat.zero_le _⟩ (cHearSpeechX (upd (upd (upd O 4 (P 75 s)) 5 (Int32.ofInt 0)) 3 (nI (syL O P s n).length)) (updA P 28 (ap8 (P 28) 0 (syL O P s n))) Y g (q := (syL O P s n).length) (l := l) (by omega) rfl) ?_
        rintro _ _ (⟨g1, rfl, rfl⟩ | ⟨g1, rfl, rfl⟩)
        · skip
          exact zv_iret (bX6_listen 86) rfl (Or.inl rfl) (Nat.zero_le _) (Nat.zero_le _) ⟨_, _, _, rfl, rfl, ⟨fun j hj => by rw [upd_ne _ _ (by omega), upd_ne _ _ (by omega), upd_ne _ _ (by omega), upd_ne _ _ (by omega)], fun i a b c => updA_ne _ _ a⟩, Or.inr ⟨s, n, by omega, hn, rfl, rfl, Or.inr ⟨by omega, Or.inl ⟨g1, rfl, (upd_self _ _ _).trans hO.symm, updA_ne _ _ (by decide)⟩⟩⟩⟩
        · skip
          exact zv_iret (bX6_listen 86) rfl (Or.inl rfl) (Nat.zero_le _) (Nat.zero_le _) ⟨_, _, _, rfl, rfl, ⟨fun j hj => by rw [upd_ne _ _ (by omega), upd_ne _ _ (by omega), upd_ne _ _ (by omega), upd_ne _ _ (by omega)], fun i a b c => (updA_ne _ _ c).trans (updA_ne _ _ a)⟩, Or.inr ⟨s, n, by omega, hn, rfl, rfl, Or.inr ⟨by omega, Or.inr ⟨g1, rfl, upd_self _ _ _, by rw [updA_self, updA_self]; exact has_cp g1⟩⟩⟩⟩
    · have hh1 : ¬ isN u y := fun q => hh (by rw [h1, nI_toInt (by omega)]; exact q)
      iterate 1 (refine zv_step (bX6_listen 86) rfl rfl trivial ?_)
      refine zv_iff (by decide) ?_
      iterate 1 (refine zv_step (bX6_listen 86) rfl rfl trivial ?_)
      exact zv_iret (bX6_listen 86) rfl (Or.inl rfl) (Nat.zero_le _) (Nat.zero_le _) ⟨O, P, _, rfl, rfl, ⟨fun _ _ => rfl, fun _ _ _ _ => rfl⟩, Or.inl ⟨rfl, fun q => hh1 q.2, rfl, rfl⟩⟩
  · skip
    iterate 1 (refine zv_step (bX6_listen 86) rfl rfl trivial ?_)
    refine zv_ift (by decide) ?_
    iterate 1 (refine zv_step (bX6_listen 86) rfl rfl trivial ?_)
    exact zv_iret (bX6_listen 86) rfl (Or.inl rfl) (Nat.zero_le _) (Nat.zero_le _) ⟨O, P, _, rfl, rfl, ⟨fun _ _ => rfl, fun _ _ _ _ => rfl⟩, Or.inl ⟨rfl, fun q => hx q.1, rfl, rfl⟩⟩
theorem wdW_sm {u : Nat} (hu : u ≤ 450) {A : Nat → Nat → Int32} (hT : tbI 0 u A) (s : Nat) : ∀ (z n : Nat), n < u → szN A n ≤ z → smL (wdW A s z (nI n))
  | 0, n, hn, hz => by have := (rN_sz (hT n (Nat.zero_le _) hn)).1; omega
  | z + 1, n, hn, hz => by
    obtain ⟨k, h0, hk, hs, h40, hv⟩ := rN_val (hT n (Nat.zero_le _) hn)
    have c8s : ∀ c : Nat, c ≤ 31 → ∃ e : Nat, e ≤ 31 ∧ nI c = nI e := fun c hc => ⟨c, hc, rfl⟩
    have hb : ∀ (c : Int32) (L : List Int32), smL L → smL (brL c L) := fun c L h => by
      unfold brL
      split
      · exact h
      · exact smL_cons (c8s 29 (by decide)) (smL_app h (smL_cons (c8s 30 (by decide)) smL_nil))
    rw [wdW_nI (by omega) hk h0]
    refine hb _ _ ?_
    rcases hs with ⟨k1, h2, h3, es⟩ | ⟨k1, k6, c, d, h2, la, hc, h3, lb, hd, es⟩ | ⟨k1, c, h2, la, hc, h3, es⟩
    · rcases (show k = 0 ∨ k = 1 by omega) with rfl | rfl
      · rw [coL_0 h0]
        obtain ⟨v, hv9, e⟩ := hv.1 (Or.inl rfl)
        exact smL_cons ⟨v, by omega, e⟩ smL_nil
      · rw [coL_1 h0]
        obtain ⟨v, hv9, e⟩ := hv.2.1 rfl
        rw [e]
        exact smL_dg hv9 _ (dgN_le _).2
    · rw [coL_2 k1 k6 h0, h2, h3]
      exact smL_app (wdW_sm hu hT s z c (by omega) (by omega)) (smL_cons ⟨18 + k, by omega, by rw [show c8 18 = nI 18 from rfl, nI_add]⟩ (wdW_sm hu hT s z d (by omega) (by omega)))
    · have q := wdW_sm hu hT s z c (by omega) (by omega)
      rcases (show k = 7 ∨ k = 8 ∨ k = 9 by omega) with rfl | rfl | rfl
      · rw [coL_7 h0, h2]
        exact smL_cons (c8s 25 (by decide)) q
      · rw [coL_8 h0, h2]
        exact smL_cons (c8s 26 (by decide)) (smL_app q (smL_cons (c8s 27 (by decide)) smL_nil))
      · rw [coL_9 h0, h2]
        obtain ⟨v, hv9, e⟩ := hv.1 (Or.inr rfl)
        exact smL_cons ⟨v, by omega, e⟩ (smL_cons (c8s 28 (by decide)) q)
set_option maxHeartbeats 1000000 in
set_option maxRecDepth 20000 in
theorem mListenX (f : Nat → zC) (o : Nat → Int32) (A : Nat → Nat → Int32) (J : Nat → Nat → Int64) {u : Nat} (hu : u ≤ 120) (ho : o 0 = nI u) (hT : tbI 0 u A) (hB : blI A) {h : Nat} (hh : h ≤ 20) (ho10 : o 10 = nI h) (hw : nnW h (A 8)) (x y : Int32) : zK 44 zX7_listen [.ref 76, .int x, .int y] (wR f o A J) (fun r w' => ∃ (o' : Nat → Int32) (A' : Nat → Nat → Int32) (R : Int32), r = some (.int R) ∧ w' = wR f o' A' J ∧ eX o A o' A' ∧ mlR o A u x y o' A' R) := by
  refine zK_of qX7_listen (by decide +kernel) rfl ?_
  iterate 1 (refine zv_step (bX7_listen 44) rfl rfl trivial ?_)
  refine zv_S1 (bX7_listen 44) rfl rfl rfl rfl ⟨rfl, rfl, rfl⟩ ⟨by decide, by decide⟩ ⟨Nat.zero_le _, Nat.zero_le _⟩ (hX7_isStyle _ _) ?_
  rintro _ _ ⟨rfl, ⟨g1, rfl⟩ | ⟨g1, rfl⟩⟩
  · obtain ⟨s, hs, rfl⟩ := in_nat (x := x) (b := 7) (by decide) g1
    iterate 1 (refine zv_step (bX7_listen 44) rfl rfl trivial ?_)
    refine zv_iff (by decide) ?_
    iterate 2 (refine zv_step (bX7_listen 44) rfl rfl trivial ?_)
    refine zv_V1 (bX7_listen 44) rfl rfl rfl rfl rfl rfl rfl ⟨rfl, rfl, rfl⟩ ⟨by decide, by decide⟩ ⟨Nat.zero_le _, Nat.zero_le _⟩ (mIsNode f o A J hu ho _) ?_
    rintro _ _ ⟨rfl, ⟨g2, rfl⟩ | ⟨g2, rfl⟩⟩
    · obtain ⟨n, hn, rfl⟩ := nd_of (by omega) g2
      iterate 1 (refine zv_step (bX7_listen 44) rfl rfl trivial ?_)
      refine zv_ift (by decide) ?_
      iterate 3 (refine zv_step (bX7_listen 44) rfl rfl trivial ?_)
      refine zv_V2 (bX7_listen 44) rfl rfl rfl rfl rfl rfl rfl ⟨rfl, rfl, rfl⟩ ⟨by decide, by decide⟩ ⟨Nat.zero_le _, Nat.zero_le _⟩ (mLength f o A J (by omega) hT (s := s) (by omega) 40 _ (pt_of hT (Nat.zero_le _) hn)) ?_
      rintro _ _ ⟨rfl, rfl⟩
      have hlw := wdW_len (by omega) hT s 40 (nI n) (pt_of hT (Nat.zero_le _) hn)
      have hl9 := lnW_le (by omega) hT s 40 (nI n) (pt_of hT (Nat.zero_le _) hn)
      have hz9 := (rN_sz (hT n (Nat.zero_le _) hn)).2.1
      rw [if_neg (nI_pos (by omega)), nI_clamp (show n < 2 ^ 31 by omega)] at hl9
      iterate 4 (refine zv_step (bX7_listen 44) rfl rfl trivial ?_)
      refine zv_ifb (fun h27 => ?_) (fun h27 => ?_)
      · have q27 : (wdW A s 40 (nI n)).length ≤ 80 := by
          have h9 : nI (lnW A s 40 (nI n)) ≤ nI 80 := h27
          rw [nI_leI (by omega) (by decide)] at h9
          omega
        iterate 3 (refine zv_step (bX7_listen 44) rfl rfl trivial ?_)
        refine zv_ifb (fun h36 => ?_) (fun h36 => ?_)
        · have q36 : (wdW A s 40 (nI n)).length ≤ 20 := by
            have h9 : nI (lnW A s 40 (nI n)) ≤ nI 20 := h36
            rw [nI_leI (by omega) (by decide)] at h9
            omega
          iterate 3 (refine zv_step (bX7_listen 44) rfl rfl trivial ?_)
          refine zv_V2 (bX7_listen 44) rfl rfl rfl rfl rfl rfl rfl ⟨rfl, rfl, rfl⟩ ⟨by decide, by decide⟩ ⟨Nat.zero_le _, Nat.zero_le _⟩ (mSayAllX f o A J (by omega) hT hB (s := s) (by omega) (Nat.zero_le _) hn) ?_
          rintro _ _ ⟨rfl, m9, rfl⟩
          refine zv_world (show _ = wR f (upd (upd (upd o 19 (Int32.ofInt (-1))) 20 m9) 18 (nI (wdW A s 40 (nI n)).length)) (updA A 14 (appA (A 14) 0 (wdW A s 40 (nI n)))) J from rfl) ?_
          iterate 1 (refine zv_step (bX7_listen 44) rfl rfl trivial ?_)
          refine zv_V0 (bX7_listen 44) rfl rfl rfl rfl rfl rfl rfl ⟨rfl, rfl, rfl⟩ ⟨by decide, by decide⟩ ⟨Nat.zero_le _, Nat.zero_le _⟩ (mHearsX f (upd (upd (upd o 19 (Int32.ofInt (-1))) 20 m9) 18 (nI (wdW A s 40 (nI n)).length)) (updA A 14 (appA (A 14) 0 (wdW A s 40 (nI n)))) J (q := (wdW A s 40 (nI n)).length) q36 rfl) ?_
          rintro _ _ ⟨rfl, rfl⟩
          iterate 2 (refine zv_step (bX7_listen 44) rfl rfl trivial ?_)
          have hrow : ∀ i, i < (wdW A s 40 (nI n)).length → cpR ((updA A 14 (appA (A 14) 0 (wdW A s 40 (nI n)))) 8) ((updA A 14 (appA (A 14) 0 (wdW A s 40 (nI n)))) 14) (wdW A s 40 (nI n)).length i = appA (A 14) 0 (wdW A s 40 (nI n)) i := fun i hi => by
            unfold cpR
            rw [if_pos hi, updA_self]
          have hsm := wdW_sm (by omega) hT s 40 n hn (rN_sz (hT n (Nat.zero_le _) hn)).2.1
          have hnn : nnW (wdW A s 40 (nI n)).length (cpR ((updA A 14 (appA (A 14) 0 (wdW A s 40 (nI n)))) 8) ((updA A 14 (appA (A 14) 0 (wdW A s 40 (nI n)))) 14) (wdW A s 40 (nI n)).length) := fun i hi => by
            rw [hrow i hi]
            exact nn_app (fun t v e => hsm v (List.mem_of_getElem? e)) i hi
          refine zv_iret (bX7_listen 44) rfl (Or.inl rfl) (Nat.zero_le _) (Nat.zero_le _) ⟨_, _, nI (wdW A s 40 (nI n)).length, rfl, rfl, ⟨⟨_, q36, upd_self _ _ _, by rw [updA_self]; exact hnn⟩, fun j a b => by rw [upd_ne _ _ a, upd_ne _ _ (by omega), upd_ne _ _ (by omega), upd_ne _ _ (by omega)], fun r a b c => (updA_ne _ _ a).trans (updA_ne _ _ b)⟩, Or.inr ⟨s, n, by omega, hn, rfl, rfl, Or.inr ⟨by omega, Or.inr ⟨q36, rfl, upd_self _ _ _, fun t v e => ?_⟩⟩⟩⟩
          have ht : t < (wdW A s 40 (nI n)).length := (List.getElem?_eq_some_iff.mp e).1
          rw [updA_self, hrow t ht]
          have := appA_at (wdW A s 40 (nI n)) (A 14) 0 t e
          rwa [Nat.zero_add] at this
        · have q36 : ¬ (wdW A s 40 (nI n)).length ≤ 20 := fun q => h36 (show nI (lnW A s 40 (nI n)) ≤ nI 20 by rw [nI_leI (by omega) (by decide)]; omega)
          iterate 1 (refine zv_step (bX7_listen 44) rfl rfl trivial ?_)
          exact zv_iret (bX7_listen 44) rfl (Or.inl rfl) (Nat.zero_le _) (Nat.zero_le _) ⟨o, A, _, rfl, rfl, eX_q hh ho10 hw (qX_refl o A), Or.inr ⟨s, n, by omega, hn, rfl, rfl, Or.inr ⟨by omega, Or.inl ⟨by omega, rfl, rfl, rfl⟩⟩⟩⟩
      · have q27 : ¬ (wdW A s 40 (nI n)).length ≤ 80 := fun q => h27 (show nI (lnW A s 40 (nI n)) ≤ nI 80 by rw [nI_leI (by omega) (by decide)]; omega)
        iterate 1 (refine zv_step (bX7_listen 44) rfl rfl trivial ?_)
        exact zv_iret (bX7_listen 44) rfl (Or.inl rfl) (Nat.zero_le _) (Nat.zero_le _) ⟨o, A, _, rfl, rfl, eX_q hh ho10 hw (qX_refl o A), Or.inr ⟨s, n, by omega, hn, rfl, rfl, Or.inl ⟨rfl, by omega, rfl, rfl⟩⟩⟩
    · skip
      iterate 1 (refine zv_step (bX7_listen 44) rfl rfl trivial ?_)
      refine zv_iff (by decide) ?_
      iterate 1 (refine zv_step (bX7_listen 44) rfl rfl trivial ?_)
      exact zv_iret (bX7_listen 44) rfl (Or.inl rfl) (Nat.zero_le _) (Nat.zero_le _) ⟨o, A, _, rfl, rfl, eX_q hh ho10 hw (qX_refl o A), Or.inl ⟨rfl, fun q => g2 (by omega), rfl, rfl⟩⟩
  · skip
    iterate 1 (refine zv_step (bX7_listen 44) rfl rfl trivial ?_)
    refine zv_ift (by decide) ?_
    iterate 1 (refine zv_step (bX7_listen 44) rfl rfl trivial ?_)
    exact zv_iret (bX7_listen 44) rfl (Or.inl rfl) (Nat.zero_le _) (Nat.zero_le _) ⟨o, A, _, rfl, rfl, eX_q hh ho10 hw (qX_refl o A), Or.inl ⟨rfl, fun q => g1 q.1, rfl, rfl⟩⟩
