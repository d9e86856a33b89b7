theorem ls_eq {ws ws' : List Int32} {g g' : Nat → Int32} (h : hasW g ws) (h' : hasW g' ws') : (ws.length = ws'.length ∧ ∀ i, i < ws.length → g i = g' i) ↔ ws = ws' := by
  constructor
  · rintro ⟨e, q⟩
    refine List.ext_getElem e (fun i h1 h2 => ?_)
    have a := h i _ (List.getElem?_eq_getElem h1)
    have b := h' i _ (List.getElem?_eq_getElem h2)
    rw [← a, ← b]
    exact q i h1
  · rintro rfl
    exact ⟨rfl, has_eq h h'⟩
theorem has_ap8 {ws : List Int32} (h : ws.length ≤ 80) (g : Nat → Int32) : hasW (ap8 g 0 ws) ws := fun t v e => by
  have ht : t < ws.length := (List.getElem?_eq_some_iff.mp e).1
  have := ap8_at ws g 0 t e (by omega)
  rwa [Nat.zero_add] at this
theorem has_appA (ws : List Int32) (g : Nat → Int32) : hasW (appA g 0 ws) ws := fun t v e => by
  have := appA_at ws g 0 t e
  rwa [Nat.zero_add] at this
theorem has_cpA {ws : List Int32} {s g : Nat → Int32} {n : Nat} (hn : ws.length = n) (h : hasW s ws) : hasW (cpR g s n) ws := fun t v e => by
  have ht : t < ws.length := (List.getElem?_eq_some_iff.mp e).1
  unfold cpR
  rw [if_pos (by omega)]
  exact h t v e
theorem tlW_fr {u kk sp : Int32} {P P' : Nat → Nat → Int32} (h : ∀ i, i ≤ 5 → P' i = P i) : ∀ (f : Nat) (n kept : Int32), tlW u kk sp P' f n kept = tlW u kk sp P f n kept
  | 0, n, kept => rfl
  | f + 1, n, kept => by
    have e1 : pkW u kk sp P' = pkW u kk sp P := by
      funext a b c
      unfold pkW
      rw [h 2 (by decide)]
    have e2 : tlW u kk sp P' f = tlW u kk sp P f := by
      funext a b
      exact tlW_fr h f a b
    have e3 : ∀ i, coW P' (pkW u kk sp P) (tlW u kk sp P f) i = coW P (pkW u kk sp P) (tlW u kk sp P f) i := fun i => by
      unfold coW
      rw [h 2 (by decide), h 3 (by decide), h 4 (by decide), h 5 (by decide)]
    rw [tlW_s, tlW_s, e1, e2, e3]
theorem wdW_fr {A A' : Nat → Nat → Int32} (h : ∀ r, r ≤ 7 → A' r = A r) (s : Nat) : ∀ (z : Nat) (x : Int32), wdW A' s z x = wdW A s z x
  | 0, x => rfl
  | z + 1, x => by
    have e2 : wdW A' s z = wdW A s z := by
      funext a
      exact wdW_fr h s z a
    have e3 : ∀ i, coL A' (wdW A s z) i = coL A (wdW A s z) i := fun i => by
      unfold coL
      rw [h 0 (by decide), h 1 (by decide), h 2 (by decide), h 3 (by decide)]
    show (if x < 0 then [] else brL (A' 7 (10 * s + (A' 0 x.toNatClampNeg).toNatClampNeg)) (coL A' (wdW A' s z) x.toNatClampNeg)) = (if x < 0 then [] else brL (A 7 (10 * s + (A 0 x.toNatClampNeg).toNatClampNeg)) (coL A (wdW A s z) x.toNatClampNeg))
    rw [e2, e3, h 7 (by decide), h 0 (by decide)]
/-- whether two are SAID with the same words, or a refusal -/
def soR (u : Nat) (x y z : Int32) (L : Nat → Nat → List Int32) (R : Int32) : Prop :=
  (R = Int32.ofInt (-1) ∧ ¬ ((0 ≤ x.toInt ∧ x.toInt ≤ 7) ∧ isN u y ∧ isN u z)) ∨ ∃ s n m, s < 8 ∧ n < u ∧ m < u ∧ x = nI s ∧ y = nI n ∧ z = nI m ∧ ((R = c8 (-5) ∧ ¬ ((L s n).length ≤ 80 ∧ (L s m).length ≤ 80)) ∨ (((L s n).length ≤ 80 ∧ (L s m).length ≤ 80) ∧ ((R = Int32.ofInt 1 ∧ L s n = L s m) ∨ (R = Int32.ofInt 0 ∧ ¬ L s n = L s m))))
theorem soR_same {u : Nat} (hu : u ≤ 120) {x y z R R' : Int32} {L L' : Nat → Nat → List Int32} (g : soR u x y z L R) (g' : soR u x y z L' R') (e : ∀ s n, s < 8 → n < u → L s n = L' s n) : R = R' := by
  rcases g with ⟨r1, q1⟩ | ⟨s, n, m, hs, hn, hm, ex, ey, ez, q1⟩ <;> rcases g' with ⟨r2, q2⟩ | ⟨s', n', m', hs', hn', hm', ex', ey', ez', q2⟩
  · rw [r1, r2]
  · exact absurd ⟨by rw [ex', nI_toInt (by omega)]; omega, by rw [ey']; exact isN_nI hu hn', by rw [ez']; exact isN_nI hu hm'⟩ q1
  · exact absurd ⟨by rw [ex, nI_toInt (by omega)]; omega, by rw [ey]; exact isN_nI hu hn, by rw [ez]; exact isN_nI hu hm⟩ q2
  · have es : s = s' := (nI_eq (by omega) (by omega)).mp (ex.symm.trans ex')
    have en : n = n' := (nI_eq (by omega) (by omega)).mp (ey.symm.trans ey')
    have em : m = m' := (nI_eq (by omega) (by omega)).mp (ez.symm.trans ez')
    subst es
    subst en
    subst em
    rw [← e s n hs hn, ← e s m hs hm] at q2
    rcases q1 with ⟨r1, k1⟩ | ⟨k1, ⟨r1, d1⟩ | ⟨r1, d1⟩⟩ <;> rcases q2 with ⟨r2, k2⟩ | ⟨k2, ⟨r2, d2⟩ | ⟨r2, d2⟩⟩
    · rw [r1, r2]
    · exact absurd k2 k1
    · exact absurd k2 k1
    · exact absurd k1 k2
    · rw [r1, r2]
    · exact absurd d1 d2
    · exact absurd k1 k2
    · exact absurd d2 d1
    · rw [r1, r2]
set_option maxHeartbeats 1000000 in
set_option maxRecDepth 20000 in
theorem sSameLX (O : Nat → Int32) (P : Nat → Nat → Int32) (Y : Nat → Nat → Int64) (g : Nat → zC) {q q' : Nat} (hq : q ≤ 80) (he : q = q') (hO : O 3 = nI q) {n0 : Nat} : ∀ (c i : Nat), i + c = q → (∀ j, j < i → P 28 j = P 30 j) → ∀ {x2 : Int32}, x2 = nI i → zV (zMo 1 zX4_isSameAs) false n0 0 0 22 [(2, .int x2), (0, .ref 27), (1, .ref 29)] [] (wX O P Y g) (fun r w' => w' = wX O P Y g ∧ (((q = q' ∧ ∀ i, i < q → P 28 i = P 30 i) ∧ r = some (.int 1)) ∨ (¬ (q = q' ∧ ∀ i, i < q → P 28 i = P 30 i) ∧ r = some (.int 0)))) := by
  intro c
  induction c with
  | zero =>
    intro i hc hpre x2 e2
    subst e2
    iterate 4 (refine zv_step (bX4_isSameAs 1) rfl rfl trivial ?_)
    refine zv_ift (show O 3 ≤ nI i by rw [hO]; exact nI_le (by omega) (by omega)) ?_
    iterate 1 (refine zv_step (bX4_isSameAs 1) rfl rfl trivial ?_)
    exact zv_iret (bX4_isSameAs 1) rfl (Or.inr ⟨rfl, Or.inr rfl⟩) (Nat.zero_le _) (Nat.zero_le _) ⟨rfl, Or.inl ⟨⟨he, fun j hj => hpre j (by omega)⟩, rfl⟩⟩
  | succ c ih =>
    intro i hc hpre x2 e2
    subst e2
    iterate 4 (refine zv_step (bX4_isSameAs 1) rfl rfl trivial ?_)
    refine zv_iff (show ¬ O 3 ≤ nI i by rw [hO]; exact nI_ge (by omega) (by omega)) ?_
    iterate 3 (refine zv_step (bX4_isSameAs 1) rfl rfl trivial ?_)
    refine zv_iale (bX4_isSameAs 1) rfl rfl (show vp_in (nI i) 80 from vp_in_nI (by omega) (by decide)) (show P 28 (nI i).toNatClampNeg = P 28 i by rw [nI_clamp (by omega)]) ?_
    iterate 3 (refine zv_step (bX4_isSameAs 1) rfl rfl trivial ?_)
    refine zv_iale (bX4_isSameAs 1) rfl rfl (show vp_in (nI i) 80 from vp_in_nI (by omega) (by decide)) (show P 30 (nI i).toNatClampNeg = P 30 i by rw [nI_clamp (by omega)]) ?_
    iterate 1 (refine zv_step (bX4_isSameAs 1) rfl rfl trivial ?_)
    refine zv_ifb (fun h42 => ?_) (fun h42 => ?_)
    · iterate 2 (refine zv_step (bX4_isSameAs 1) rfl rfl trivial ?_)
      exact ih (i + 1) (by omega) (fun j hj => by
        by_cases w : j = i
        · rw [w]; exact h42
        · exact hpre j (by omega)) (nI_1 i)
    · iterate 1 (refine zv_step (bX4_isSameAs 1) rfl rfl trivial ?_)
      exact zv_iret (bX4_isSameAs 1) rfl (Or.inr ⟨rfl, Or.inl rfl⟩) (Nat.zero_le _) (Nat.zero_le _) ⟨rfl, Or.inr ⟨fun w => h42 (w.2 i (by omega)), rfl⟩⟩
set_option maxHeartbeats 1000000 in
set_option maxRecDepth 20000 in
theorem sSameX (O : Nat → Int32) (P : Nat → Nat → Int32) (Y : Nat → Nat → Int64) (g : Nat → zC) {q q' : Nat} (hq : q ≤ 80) (hq' : q' < 2 ^ 30) (hO : O 3 = nI q) (hO6 : O 6 = nI q') : zK 1 zX4_isSameAs [.ref 27, .ref 29] (wX O P Y g) (fun r w' => w' = wX O P Y g ∧ (((q = q' ∧ ∀ i, i < q → P 28 i = P 30 i) ∧ r = some (.int 1)) ∨ (¬ (q = q' ∧ ∀ i, i < q → P 28 i = P 30 i) ∧ r = some (.int 0)))) := by
  refine zK_of qX4_isSameAs (by decide +kernel) rfl ?_
  iterate 5 (refine zv_step (bX4_isSameAs 1) rfl rfl trivial ?_)
  refine zv_ifb (fun h8 => ?_) (fun h8 => ?_)
  · iterate 1 (refine zv_step (bX4_isSameAs 1) rfl rfl trivial ?_)
    exact zv_iret (bX4_isSameAs 1) rfl (Or.inr ⟨rfl, Or.inl rfl⟩) (Nat.zero_le _) (Nat.zero_le _) ⟨rfl, Or.inr ⟨fun w => h8 (show O 3 = O 6 by rw [hO, hO6, w.1]), rfl⟩⟩
  · have he : q = q' := (nI_eq (by omega) (by omega)).mp (by have h9 : O 3 = O 6 := Decidable.not_not.mp h8; rwa [hO, hO6] at h9)
    iterate 1 (refine zv_step (bX4_isSameAs 1) rfl rfl trivial ?_)
    refine zv_V0 (bX4_isSameAs 1) rfl rfl rfl rfl rfl rfl rfl ⟨rfl, rfl, rfl⟩ ⟨by decide, by decide⟩ ⟨Nat.zero_le _, Nat.zero_le _⟩ (sLong27 O P Y g) ?_
    rintro _ _ ⟨rfl, ⟨hh, rfl⟩ | ⟨hh, rfl⟩⟩
    · skip
      exfalso
      rw [hO, nI_toInt (by omega)] at hh
      omega
    · skip
      iterate 1 (refine zv_step (bX4_isSameAs 1) rfl rfl trivial ?_)
      refine zv_ift (by decide) ?_
      iterate 2 (refine zv_step (bX4_isSameAs 1) rfl rfl trivial ?_)
      exact sSameLX O P Y g hq he hO q 0 (by omega) (fun j hj => absurd hj (Nat.not_lt_zero j)) rfl
set_option maxHeartbeats 1000000 in
set_option maxRecDepth 20000 in
theorem cSoundX (O : Nat → Int32) (P : Nat → Nat → Int32) (Y : Nat → Nat → Int64) (g : Nat → zC) {u : Nat} (hu : u ≤ 120) (h1 : O 1 = nI u) (hp : pgI u (P 2) (P 4) (P 5) (P 6)) {l : Nat} (hl : l ≤ 20) (hO : O 9 = nI l) (x y z : Int32) : zK 86 zX6_sound [.ref 0, .int x, .int y, .int z] (wX O P Y g) (fun r w' => ∃ (O' : Nat → Int32) (P' : Nat → Nat → Int32) (R : Int32), r = some (.int R) ∧ w' = wX O' P' Y g ∧ spT O P O' P' ∧ soR u x y z (syL O P) R) := by
  refine zK_of qX6_sound (by decide +kernel) rfl ?_
  iterate 1 (refine zv_step (bX6_sound 86) rfl rfl trivial ?_)
  refine zv_S1 (bX6_sound 86) rfl rfl rfl rfl ⟨rfl, rfl, rfl⟩ ⟨by decide, by decide⟩ ⟨Nat.zero_le _, Nat.zero_le _⟩ (hX6_isStyle _ _) ?_
  rintro _ _ ⟨rfl, ⟨hx, rfl⟩ | ⟨hx, rfl⟩⟩
  · obtain ⟨s, hs, rfl⟩ := in_nat (x := x) (b := 7) (by decide) hx
    iterate 1 (refine zv_step (bX6_sound 86) rfl rfl trivial ?_)
    refine zv_iff (by decide) ?_
    iterate 3 (refine zv_step (bX6_sound 86) rfl rfl trivial ?_)
    refine zv_V1 (bX6_sound 86) rfl rfl rfl rfl rfl rfl rfl ⟨rfl, rfl, rfl⟩ ⟨by decide, by decide⟩ ⟨Nat.zero_le _, Nat.zero_le _⟩ (pHas1 O P Y g _) ?_
    rintro _ _ ⟨rfl, ⟨hh, rfl⟩ | ⟨hh, rfl⟩⟩
    · have hh1 : isN u y := by
        have h9 := hh
        rw [h1, nI_toInt (by omega)] at h9
        exact h9
      obtain ⟨n, hn, rfl⟩ := has_j hu h1 hh
      iterate 1 (refine zv_step (bX6_sound 86) rfl rfl trivial ?_)
      refine zv_iff (by decide) ?_
      iterate 3 (refine zv_step (bX6_sound 86) rfl rfl trivial ?_)
      refine zv_V1 (bX6_sound 86) rfl rfl rfl rfl rfl rfl rfl ⟨rfl, rfl, rfl⟩ ⟨by decide, by decide⟩ ⟨Nat.zero_le _, Nat.zero_le _⟩ (pHas1 O P Y g _) ?_
      rintro _ _ ⟨rfl, ⟨hj, rfl⟩ | ⟨hj, rfl⟩⟩
      · have hj1 : isN u z := by
          have h9 := hj
          rw [h1, nI_toInt (by omega)] at h9
          exact h9
        obtain ⟨m, hm, rfl⟩ := has_j hu h1 hj
        iterate 1 (refine zv_step (bX6_sound 86) rfl rfl trivial ?_)
        refine zv_ift (by decide) ?_
        iterate 8 (refine zv_step (bX6_sound 86) rfl rfl trivial ?_)
        refine zv_iale (bX6_sound 86) rfl rfl (show vp_in (nI s) 8 from vp_in_nI (by omega) (by decide)) (show P 75 (nI s).toNatClampNeg = P 75 s by rw [nI_clamp (by omega)]) ?_
        iterate 1 (refine zv_step (bX6_sound 86) rfl rfl trivial ?_)
        refine zv_V4 (bX6_sound 86) rfl rfl rfl rfl rfl rfl rfl ⟨rfl, rfl, rfl⟩ ⟨by decide, by decide⟩ ⟨Nat.zero_le _, Nat.zero_le _⟩ (sStyle27 O P Y g hu h1 hp hn (f := 41) (by decide) rfl) ?_
        rintro _ _ ⟨rfl, rfl⟩
        have hln : (syL O P s n).length ≤ 6 * szq (P 6) (nI n) := by
          show (tlW (O 1) (P 75 s) (Int32.ofInt 0) P 41 (nI n) (hbW (P 75 s) (P 2 n))).length ≤ _
          rw [h1]
          exact tlW_len hu hp 41 _ _
        have hzn := szq_le hp hn hu
        have hlm : (syL O P s m).length ≤ 6 * szq (P 6) (nI m) := by
          show (tlW (O 1) (P 75 s) (Int32.ofInt 0) P 41 (nI m) (hbW (P 75 s) (P 2 m))).length ≤ _
          rw [h1]
          exact tlW_len hu hp 41 _ _
        have hzm := szq_le hp hm hu
        refine zv_world (show _ = wX (upd (upd (upd O 4 (P 75 s)) 5 (Int32.ofInt 0)) 3 (nI (syL O P s n).length)) (updA P 28 (ap8 (P 28) 0 (syL O P s n))) Y g from rfl) ?_
        have e2 : tlW ((upd (upd (upd O 4 (P 75 s)) 5 (Int32.ofInt 0)) 3 (nI (syL O P s n).length)) 1) (P 75 s) (Int32.ofInt 0) (updA P 28 (ap8 (P 28) 0 (syL O P s n))) 41 (nI m) (hbW (P 75 s) ((updA P 28 (ap8 (P 28) 0 (syL O P s n))) 2 m)) = syL O P s m := tlW_fr (fun i hi => updA_ne _ _ (by omega)) 41 _ _
        iterate 8 (refine zv_step (bX6_sound 86) rfl rfl trivial ?_)
        refine zv_iale (bX6_sound 86) rfl rfl (show vp_in (nI s) 8 from vp_in_nI (by omega) (by decide)) (show P 75 (nI s).toNatClampNeg = P 75 s by rw [nI_clamp (by omega)]) ?_
        iterate 1 (refine zv_step (bX6_sound 86) rfl rfl trivial ?_)
        refine zv_V4 (bX6_sound 86) rfl rfl rfl rfl rfl rfl rfl ⟨rfl, rfl, rfl⟩ ⟨by decide, by decide⟩ ⟨Nat.zero_le _, Nat.zero_le _⟩ (sStyle29 (upd (upd (upd O 4 (P 75 s)) 5 (Int32.ofInt 0)) 3 (nI (syL O P s n).length)) (updA P 28 (ap8 (P 28) 0 (syL O P s n))) Y g hu h1 hp hm (f := 41) (by decide) rfl) ?_
        rintro _ _ ⟨rfl, rfl⟩
        rw [e2]
        refine zv_world (show _ = wX (upd (upd (upd (upd (upd (upd O 4 (P 75 s)) 5 (Int32.ofInt 0)) 3 (nI (syL O P s n).length)) 7 (P 75 s)) 8 (Int32.ofInt 0)) 6 (nI (syL O P s m).length)) (updA (updA P 28 (ap8 (P 28) 0 (syL O P s n))) 30 (ap8 (P 30) 0 (syL O P s m))) Y g from rfl) ?_
        iterate 2 (refine zv_step (bX6_sound 86) rfl rfl trivial ?_)
        refine zv_V0 (bX6_sound 86) rfl rfl rfl rfl rfl rfl rfl ⟨rfl, rfl, rfl⟩ ⟨by decide, by decide⟩ ⟨Nat.zero_le _, Nat.zero_le _⟩ (sLong27 (upd (upd (upd (upd (upd (upd O 4 (P 75 s)) 5 (Int32.ofInt 0)) 3 (nI (syL O P s n).length)) 7 (P 75 s)) 8 (Int32.ofInt 0)) 6 (nI (syL O P s m).length)) (updA (updA P 28 (ap8 (P 28) 0 (syL O P s n))) 30 (ap8 (P 30) 0 (syL O P s m))) Y g) ?_
        rintro _ _ ⟨rfl, ⟨ha, rfl⟩ | ⟨ha, rfl⟩⟩
        · have ha2 : 80 < (syL O P s n).length := by
            have h9 : 80 < (nI (syL O P s n).length).toInt := ha
            rw [nI_toInt (by omega)] at h9
            omega
          iterate 1 (refine zv_step (bX6_sound 86) rfl rfl trivial ?_)
          refine zv_ift (by decide) ?_
          iterate 1 (refine zv_step (bX6_sound 86) rfl rfl trivial ?_)
          exact zv_iret (bX6_sound 86) rfl (Or.inl rfl) (Nat.zero_le _) (Nat.zero_le _) ⟨_, _, _, rfl, rfl, spT_two _ _ _ _ _ _ _ _, Or.inr ⟨s, n, m, by omega, hn, hm, rfl, rfl, rfl, Or.inl ⟨rfl, fun q => by omega⟩⟩⟩
        · have ha2 : (syL O P s n).length ≤ 80 := Nat.not_lt.mp (fun q => ha (by show 80 < (nI (syL O P s n).length).toInt; rw [nI_toInt (by omega)]; omega))
          iterate 1 (refine zv_step (bX6_sound 86) rfl rfl trivial ?_)
          refine zv_iff (by decide) ?_
          iterate 2 (refine zv_step (bX6_sound 86) rfl rfl trivial ?_)
          refine zv_V0 (bX6_sound 86) rfl rfl rfl rfl rfl rfl rfl ⟨rfl, rfl, rfl⟩ ⟨by decide, by decide⟩ ⟨Nat.zero_le _, Nat.zero_le _⟩ (sLong29 (upd (upd (upd (upd (upd (upd O 4 (P 75 s)) 5 (Int32.ofInt 0)) 3 (nI (syL O P s n).length)) 7 (P 75 s)) 8 (Int32.ofInt 0)) 6 (nI (syL O P s m).length)) (updA (updA P 28 (ap8 (P 28) 0 (syL O P s n))) 30 (ap8 (P 30) 0 (syL O P s m))) Y g) ?_
          rintro _ _ ⟨rfl, ⟨hb, rfl⟩ | ⟨hb, rfl⟩⟩
          · have hb2 : 80 < (syL O P s m).length := by
              have h9 : 80 < (nI (syL O P s m).length).toInt := hb
              rw [nI_toInt (by omega)] at h9
              omega
            iterate 1 (refine zv_step (bX6_sound 86) rfl rfl trivial ?_)
            refine zv_iff (by decide) ?_
            iterate 1 (refine zv_step (bX6_sound 86) rfl rfl trivial ?_)
            exact zv_iret (bX6_sound 86) rfl (Or.inl rfl) (Nat.zero_le _) (Nat.zero_le _) ⟨_, _, _, rfl, rfl, spT_two _ _ _ _ _ _ _ _, Or.inr ⟨s, n, m, by omega, hn, hm, rfl, rfl, rfl, Or.inl ⟨rfl, fun q => by omega⟩⟩⟩
          · have hb2 : (syL O P s m).length ≤ 80 := Nat.not_lt.mp (fun q => hb (by show 80 < (nI (syL O P s m).length).toInt; rw [nI_toInt (by omega)]; omega))
            iterate 1 (refine zv_step (bX6_sound 86) rfl rfl trivial ?_)
            refine zv_ift (by decide) ?_
            iterate 4 (refine zv_step (bX6_sound 86) rfl rfl trivial ?_)
            refine zv_V1 (bX6_sound 86) rfl rfl rfl rfl rfl rfl rfl ⟨rfl, rfl, rfl⟩ ⟨by decide, by decide⟩ ⟨Nat.zero_le _, Nat.zero_le _⟩ (sSameX (upd (upd (upd (upd (upd (upd O 4 (P 75 s)) 5 (Int32.ofInt 0)) 3 (nI (syL O P s n).length)) 7 (P 75 s)) 8 (Int32.ofInt 0)) 6 (nI (syL O P s m).length)) (updA (updA P 28 (ap8 (P 28) 0 (syL O P s n))) 30 (ap8 (P 30) 0 (syL O P s m))) Y g (q := (syL O P s n).length) (q' := (syL O P s m).length) ha2 (by omega) rfl rfl) ?_
            rintro _ _ ⟨rfl, ⟨hc, rfl⟩ | ⟨hc, rfl⟩⟩
            · have hc2 := (ls_eq (has_ap8 ha2 (P 28)) (has_ap8 hb2 (P 30))).mp hc
              iterate 1 (refine zv_step (bX6_sound 86) rfl rfl trivial ?_)
              refine zv_iff (by decide) ?_
              iterate 2 (refine zv_step (bX6_sound 86) rfl rfl trivial ?_)
              exact zv_iret (bX6_sound 86) rfl (Or.inl rfl) (Nat.zero_le _) (Nat.zero_le _) ⟨_, _, _, rfl, rfl, spT_two _ _ _ _ _ _ _ _, Or.inr ⟨s, n, m, by omega, hn, hm, rfl, rfl, rfl, Or.inr ⟨⟨ha2, hb2⟩, Or.inl ⟨rfl, hc2⟩⟩⟩⟩
            · have hc2 := fun q => hc ((ls_eq (has_ap8 ha2 (P 28)) (has_ap8 hb2 (P 30))).mpr q)
              iterate 1 (refine zv_step (bX6_sound 86) rfl rfl trivial ?_)
              refine zv_ift (by decide) ?_
              iterate 1 (refine zv_step (bX6_sound 86) rfl rfl trivial ?_)
              exact zv_iret (bX6_sound 86) rfl (Or.inl rfl) (Nat.zero_le _) (Nat.zero_le _) ⟨_, _, _, rfl, rfl, spT_two _ _ _ _ _ _ _ _, Or.inr ⟨s, n, m, by omega, hn, hm, rfl, rfl, rfl, Or.inr ⟨⟨ha2, hb2⟩, Or.inr ⟨rfl, hc2⟩⟩⟩⟩
      · have hj1 : ¬ isN u z := fun q => hj (by rw [h1, nI_toInt (by omega)]; exact q)
        iterate 1 (refine zv_step (bX6_sound 86) rfl rfl trivial ?_)
        refine zv_iff (by decide) ?_
        iterate 1 (refine zv_step (bX6_sound 86) rfl rfl trivial ?_)
        exact zv_iret (bX6_sound 86) rfl (Or.inl rfl) (Nat.zero_le _) (Nat.zero_le _) ⟨O, P, _, rfl, rfl, ⟨fun _ _ => rfl, fun _ _ _ => rfl⟩, Or.inl ⟨rfl, fun q => hj1 q.2.2⟩⟩
    · have hh1 : ¬ isN u y := fun q => hh (by rw [h1, nI_toInt (by omega)]; exact q)
      iterate 1 (refine zv_step (bX6_sound 86) rfl rfl trivial ?_)
      refine zv_ift (by decide) ?_
      iterate 1 (refine zv_step (bX6_sound 86) rfl rfl trivial ?_)
      exact zv_iret (bX6_sound 86) rfl (Or.inl rfl) (Nat.zero_le _) (Nat.zero_le _) ⟨O, P, _, rfl, rfl, ⟨fun _ _ => rfl, fun _ _ _ => rfl⟩, Or.inl ⟨rfl, fun q => hh1 q.2.1⟩⟩
  · skip
    iterate 1 (refine zv_step (bX6_sound 86) rfl rfl trivial ?_)
    refine zv_ift (by decide) ?_
    iterate 1 (refine zv_step (bX6_sound 86) rfl rfl trivial ?_)
    exact zv_iret (bX6_sound 86) rfl (Or.inl rfl) (Nat.zero_le _) (Nat.zero_le _) ⟨O, P, _, rfl, rfl, ⟨fun _ _ => rfl, fun _ _ _ => rfl⟩, Or.inl ⟨rfl, fun q => hx q.1⟩⟩
set_option maxHeartbeats 1000000 in
set_option maxRecDepth 20000 in
theorem sound1X (f : Nat → zC) (o : Nat → Int32) (A : Nat → Nat → Int32) (J : Nat → Nat → Int64) {n m : Nat} (hn : n ≤ 80) {x y z : Int32} {n0 : Nat} {Q : Option Value → zW → Prop} (kk : zV (zMo 44 zX7_sound) false n0 0 0 94 [(6, .int (nI n)), (5, .int (nI m)), (4, .int (nI n)), (0, .ref 76), (1, .int x), (2, .int y), (3, .int z)] [] (wR f o (updA A 15 (cpR (A 15) (A 14) n)) J) Q) : ∀ (c k : Nat), k + c = n → ∀ {x6 : Int32}, x6 = nI k → zV (zMo 44 zX7_sound) false n0 0 0 67 [(6, .int x6), (5, .int (nI m)), (4, .int (nI n)), (0, .ref 76), (1, .int x), (2, .int y), (3, .int z)] [] (wR f o (updA A 15 (cpR (A 15) (A 14) k)) J) Q := by
  intro c
  induction c with
  | zero =>
    intro k hc x6 e6
    subst e6
    obtain rfl : k = n := by omega
    iterate 3 (refine zv_step (bX7_sound 44) rfl rfl trivial ?_)
    refine zv_ift (nI_le (by omega) (by omega)) ?_
    exact kk
  | succ c ih =>
    intro k hc x6 e6
    subst e6
    iterate 3 (refine zv_step (bX7_sound 44) rfl rfl trivial ?_)
    refine zv_iff (fun h => absurd ((nI_leI (by omega) (by omega)).mp h) (by omega)) ?_
    iterate 6 (refine zv_step (bX7_sound 44) rfl rfl trivial ?_)
    refine zv_iale (bX7_sound 44) rfl rfl (vp_in_nI (by omega) (by decide)) (show (updA A 15 (cpR (A 15) (A 14) k)) 14 (nI k).toNatClampNeg = A 14 k by rw [updA_ne _ _ (by decide), nI_clamp (by omega)]) ?_
    refine zv_step (bX7_sound 44) rfl rfl (vp_in_nI (by omega) (by decide)) ?_
    iterate 2 (refine zv_step (bX7_sound 44) rfl rfl trivial ?_)
    refine zv_world (show _ = wR f o (updA A 15 (cpR (A 15) (A 14) (k + 1))) J from by rw [← cpR_s, show upd (cpR (A 15) (A 14) k) k (A 14 k) = upd (cpR (A 15) (A 14) k) (nI k).toNatClampNeg (A 14 k) by rw [nI_clamp (by omega)]]; rfl) ?_
    exact ih (k + 1) (by omega) (nI_1 k)
set_option maxHeartbeats 1000000 in
set_option maxRecDepth 20000 in
theorem sound2X (f : Nat → zC) (o : Nat → Int32) (A : Nat → Nat → Int32) (J : Nat → Nat → Int64) {n m : Nat} (hn : n ≤ 80) {x y z : Int32} {n0 : Nat} {Q : Option Value → zW → Prop} (hQ1 : (n = m ∧ ∀ j, j < n → A 15 j = A 14 j) → Q (some (.int (Int32.ofInt 1))) (wR f o A J)) (hQ0 : ¬ (n = m ∧ ∀ j, j < n → A 15 j = A 14 j) → Q (some (.int (Int32.ofInt 0))) (wR f o A J)) : ∀ (c k : Nat), k + c = n → ∀ {x7 b : Int32}, x7 = nI k → (b = Int32.ofInt 1 ∧ (n = m ∧ ∀ j, j < k → A 15 j = A 14 j) ∨ b = Int32.ofInt 0 ∧ ¬ (n = m ∧ ∀ j, j < n → A 15 j = A 14 j)) → zV (zMo 44 zX7_sound) false n0 0 0 117 [(7, .int x7), (6, .int b), (5, .int (nI m)), (4, .int (nI n)), (0, .ref 76), (1, .int x), (2, .int y), (3, .int z)] [] (wR f o A J) Q := by
  intro c
  induction c with
  | zero =>
    intro k hc x7 b e7 hb
    subst e7
    obtain rfl : k = n := by omega
    rcases hb with ⟨rfl, hE⟩ | ⟨rfl, hE⟩
    · iterate 3 (refine zv_step (bX7_sound 44) rfl rfl trivial ?_)
      refine zv_ift (nI_le (by omega) (by omega)) ?_
      iterate 2 (refine zv_step (bX7_sound 44) rfl rfl trivial ?_)
      refine zv_iff (by decide) ?_
      iterate 2 (refine zv_step (bX7_sound 44) rfl rfl trivial ?_)
      exact zv_iret (bX7_sound 44) rfl (Or.inl rfl) (Nat.zero_le _) (Nat.zero_le _) (hQ1 hE)
    · iterate 3 (refine zv_step (bX7_sound 44) rfl rfl trivial ?_)
      refine zv_ift (nI_le (by omega) (by omega)) ?_
      iterate 2 (refine zv_step (bX7_sound 44) rfl rfl trivial ?_)
      refine zv_ift (by decide) ?_
      iterate 1 (refine zv_step (bX7_sound 44) rfl rfl trivial ?_)
      exact zv_iret (bX7_sound 44) rfl (Or.inl rfl) (Nat.zero_le _) (Nat.zero_le _) (hQ0 hE)
  | succ c ih =>
    intro k hc x7 b e7 hb
    subst e7
    rcases hb with ⟨rfl, hE⟩ | ⟨rfl, hE⟩
    · iterate 3 (refine zv_step (bX7_sound 44) rfl rfl trivial ?_)
      refine zv_iff (fun h => absurd ((nI_leI (by omega) (by omega)).mp h) (by omega)) ?_
      iterate 2 (refine zv_step (bX7_sound 44) rfl rfl trivial ?_)
      refine zv_iff (by decide) ?_
      iterate 3 (refine zv_step (bX7_sound 44) rfl rfl trivial ?_)
      refine zv_iale (bX7_sound 44) rfl rfl (vp_in_nI (by omega) (by decide)) (show A 15 (nI k).toNatClampNeg = A 15 k by rw [nI_clamp (by omega)]) ?_
      iterate 3 (refine zv_step (bX7_sound 44) rfl rfl trivial ?_)
      refine zv_iale (bX7_sound 44) rfl rfl (vp_in_nI (by omega) (by decide)) (show A 14 (nI k).toNatClampNeg = A 14 k by rw [nI_clamp (by omega)]) ?_
      iterate 1 (refine zv_step (bX7_sound 44) rfl rfl trivial ?_)
      refine zv_ifb (fun h143 => ?_) (fun h143 => ?_)
      · iterate 4 (refine zv_step (bX7_sound 44) rfl rfl trivial ?_)
        refine zv_locals (l := [(7, .int (nI k + Int32.ofInt 1)), (6, .int (Int32.ofInt 0)), (5, .int (nI m)), (4, .int (nI n)), (0, .ref 76), (1, .int x), (2, .int y), (3, .int z)]) (l' := [(7, .int (nI k + Int32.ofInt 1)), (6, .int (Int32.ofInt 0)), (5, .int (nI m)), (4, .int (nI n)), (0, .ref 76), (1, .int x), (2, .int y), (3, .int z)]) ?_ (ih (k + 1) (by omega) (nI_1 k) (Or.inr ⟨rfl, fun w => h143 (w.2 k (by omega))⟩))
        simp
      · iterate 5 (refine zv_step (bX7_sound 44) rfl rfl trivial ?_)
        refine zv_locals (l := [(7, .int (nI k + Int32.ofInt 1)), (6, .int (Int32.ofInt 1)), (5, .int (nI m)), (4, .int (nI n)), (0, .ref 76), (1, .int x), (2, .int y), (3, .int z)]) (l' := [(7, .int (nI k + Int32.ofInt 1)), (6, .int (Int32.ofInt 1)), (5, .int (nI m)), (4, .int (nI n)), (0, .ref 76), (1, .int x), (2, .int y), (3, .int z)]) ?_ (ih (k + 1) (by omega) (nI_1 k) (Or.inl ⟨rfl, hE.1, fun j hj => by
          by_cases w : j = k
          · rw [w]; exact Decidable.not_not.mp h143
          · exact hE.2 j (by omega)⟩))
        simp
    · iterate 3 (refine zv_step (bX7_sound 44) rfl rfl trivial ?_)
      refine zv_iff (fun h => absurd ((nI_leI (by omega) (by omega)).mp h) (by omega)) ?_
      iterate 2 (refine zv_step (bX7_sound 44) rfl rfl trivial ?_)
      refine zv_ift (by decide) ?_
      iterate 2 (refine zv_step (bX7_sound 44) rfl rfl trivial ?_)
      refine zv_ift (by decide) ?_
      iterate 1 (refine zv_step (bX7_sound 44) rfl rfl trivial ?_)
      exact zv_iret (bX7_sound 44) rfl (Or.inl rfl) (Nat.zero_le _) (Nat.zero_le _) (hQ0 hE)
set_option maxHeartbeats 1000000 in
set_option maxRecDepth 20000 in
theorem mSoundX (f : Nat → zC) (o : Nat → Int32) (A : Nat → Nat → Int32) (J : Nat → Nat → Int64) {u : Nat} (hu : u ≤ 120) (ho : o 0 = nI u) (hT : tbI 0 u A) (hB : blI A) (x y z : Int32) : zK 44 zX7_sound [.ref 76, .int x, .int y, .int z] (wR f o A J) (fun r w' => ∃ (o' : Nat → Int32) (A' : Nat → Nat → Int32) (R : Int32), r = some (.int R) ∧ w' = wR f o' A' J ∧ qX o A o' A' ∧ soR u x y z (fun s n => wdW A s 40 (nI n)) R) := by
  refine zK_of qX7_sound (by decide +kernel) rfl ?_
  iterate 1 (refine zv_step (bX7_sound 44) rfl rfl trivial ?_)
  refine zv_S1 (bX7_sound 44) rfl rfl rfl rfl ⟨rfl, rfl, rfl⟩ ⟨by decide, by decide⟩ ⟨Nat.zero_le _, Nat.zero_le _⟩ (hX7_isStyle _ _) ?_
  rintro _ _ ⟨rfl, ⟨g1, rfl⟩ | ⟨g1, rfl⟩⟩
  · obtain ⟨s, hs, rfl⟩ := in_nat (x := x) (b := 7) (by decide) g1
    iterate 1 (refine zv_step (bX7_sound 44) rfl rfl trivial ?_)
    refine zv_iff (by decide) ?_
    iterate 2 (refine zv_step (bX7_sound 44) rfl rfl trivial ?_)
    refine zv_V1 (bX7_sound 44) rfl rfl rfl rfl rfl rfl rfl ⟨rfl, rfl, rfl⟩ ⟨by decide, by decide⟩ ⟨Nat.zero_le _, Nat.zero_le _⟩ (mIsNode f o A J hu ho _) ?_
    rintro _ _ ⟨rfl, ⟨g2, rfl⟩ | ⟨g2, rfl⟩⟩
    · obtain ⟨n, hn, rfl⟩ := nd_of (by omega) g2
      iterate 1 (refine zv_step (bX7_sound 44) rfl rfl trivial ?_)
      refine zv_iff (by decide) ?_
      iterate 2 (refine zv_step (bX7_sound 44) rfl rfl trivial ?_)
      refine zv_V1 (bX7_sound 44) rfl rfl rfl rfl rfl rfl rfl ⟨rfl, rfl, rfl⟩ ⟨by decide, by decide⟩ ⟨Nat.zero_le _, Nat.zero_le _⟩ (mIsNode f o A J hu ho _) ?_
      rintro _ _ ⟨rfl, ⟨g3, rfl⟩ | ⟨g3, rfl⟩⟩
      · obtain ⟨m, hm, rfl⟩ := nd_of (by omega) g3
        iterate 1 (refine zv_step (bX7_sound 44) rfl rfl trivial ?_)
        refine zv_ift (by decide) ?_
        iterate 3 (refine zv_step (bX7_sound 44) rfl rfl trivial ?_)
        refine zv_V2 (bX7_sound 44) rfl rfl rfl rfl rfl rfl rfl ⟨rfl, rfl, rfl⟩ ⟨by decide, by decide⟩ ⟨Nat.zero_le _, Nat.zero_le _⟩ (mLength f o A J (by omega) hT (s := s) (by omega) 40 _ (pt_of hT (Nat.zero_le _) hn)) ?_
        rintro _ _ ⟨rfl, rfl⟩
        have hlwn := wdW_len (by omega) hT s 40 (nI n) (pt_of hT (Nat.zero_le _) hn)
        have hln := lnW_le (by omega) hT s 40 (nI n) (pt_of hT (Nat.zero_le _) hn)
        have hzn := (rN_sz (hT n (Nat.zero_le _) hn)).2.1
        rw [if_neg (nI_pos (by omega)), nI_clamp (show n < 2 ^ 31 by omega)] at hln
        iterate 4 (refine zv_step (bX7_sound 44) rfl rfl trivial ?_)
        refine zv_V2 (bX7_sound 44) rfl rfl rfl rfl rfl rfl rfl ⟨rfl, rfl, rfl⟩ ⟨by decide, by decide⟩ ⟨Nat.zero_le _, Nat.zero_le _⟩ (mLength f o A J (by omega) hT (s := s) (by omega) 40 _ (pt_of hT (Nat.zero_le _) hm)) ?_
        rintro _ _ ⟨rfl, rfl⟩
        have hlwm := wdW_len (by omega) hT s 40 (nI m) (pt_of hT (Nat.zero_le _) hm)
        have hlm := lnW_le (by omega) hT s 40 (nI m) (pt_of hT (Nat.zero_le _) hm)
        have hzm := (rN_sz (hT m (Nat.zero_le _) hm)).2.1
        rw [if_neg (nI_pos (by omega)), nI_clamp (show m < 2 ^ 31 by omega)] at hlm
        iterate 4 (refine zv_step (bX7_sound 44) rfl rfl trivial ?_)
        refine zv_ifb (fun h45 => ?_) (fun h45 => ?_)
        · have k45 : ¬ (lnW A s 40 (nI n)) ≤ 80 := fun q => absurd h45 (Int32.not_lt.mpr (show nI (lnW A s 40 (nI n)) ≤ nI 80 by rw [nI_leI (by omega) (by decide)]; exact q))
          iterate 1 (refine zv_step (bX7_sound 44) rfl rfl trivial ?_)
          exact zv_iret (bX7_sound 44) rfl (Or.inl rfl) (Nat.zero_le _) (Nat.zero_le _) ⟨o, A, _, rfl, rfl, qX_refl o A, Or.inr ⟨s, n, m, by omega, hn, hm, rfl, rfl, rfl, Or.inl ⟨rfl, fun q => k45 (by have := q.1; rwa [hlwn] at this)⟩⟩⟩
        · have k45 : (lnW A s 40 (nI n)) ≤ 80 := by
            have h9 : nI (lnW A s 40 (nI n)) ≤ nI 80 := Int32.not_lt.mp h45
            rwa [nI_leI (by omega) (by decide)] at h9
          iterate 3 (refine zv_step (bX7_sound 44) rfl rfl trivial ?_)
          refine zv_ifb (fun h52 => ?_) (fun h52 => ?_)
          · have k52 : (lnW A s 40 (nI m)) ≤ 80 := by
              have h9 : nI (lnW A s 40 (nI m)) ≤ nI 80 := h52
              rwa [nI_leI (by omega) (by decide)] at h9
            iterate 3 (refine zv_step (bX7_sound 44) rfl rfl trivial ?_)
            refine zv_V2 (bX7_sound 44) rfl rfl rfl rfl rfl rfl rfl ⟨rfl, rfl, rfl⟩ ⟨by decide, by decide⟩ ⟨Nat.zero_le _, Nat.zero_le _⟩ (mSayAllX f o A J (by omega) hT hB (s := s) (by omega) (Nat.zero_le _) hn) ?_
            rintro _ _ ⟨rfl, m9, rfl⟩
            iterate 2 (refine zv_step (bX7_sound 44) rfl rfl trivial ?_)
            refine zv_world (show _ = wR f (upd (upd (upd o 19 (Int32.ofInt (-1))) 20 m9) 18 (nI (wdW A s 40 (nI n)).length)) (updA (updA A 14 (appA (A 14) 0 (wdW A s 40 (nI n)))) 15 (cpR ((updA A 14 (appA (A 14) 0 (wdW A s 40 (nI n)))) 15) ((updA A 14 (appA (A 14) 0 (wdW A s 40 (nI n)))) 14) 0)) J from by rw [cpR_0, updA_same (updA A 14 (appA (A 14) 0 (wdW A s 40 (nI n)))) 15]) ?_
            refine zv_locals (l := [(6, .int (Int32.ofInt 0)), (5, .int (nI (lnW A s 40 (nI m)))), (4, .int (nI (lnW A s 40 (nI n)))), (0, .ref 76), (1, .int (nI s)), (2, .int (nI n)), (3, .int (nI m))]) (l' := [(6, .int (Int32.ofInt 0)), (5, .int (nI (lnW A s 40 (nI m)))), (4, .int (nI (lnW A s 40 (nI n)))), (0, .ref 76), (1, .int (nI s)), (2, .int (nI n)), (3, .int (nI m))]) (fun q h => h) (sound1X f (upd (upd (upd o 19 (Int32.ofInt (-1))) 20 m9) 18 (nI (wdW A s 40 (nI n)).length)) (updA A 14 (appA (A 14) 0 (wdW A s 40 (nI n)))) J k45 ?_ (lnW A s 40 (nI n)) 0 (by omega) rfl)
            have hq1 : qX o A (upd (upd (upd o 19 (Int32.ofInt (-1))) 20 m9) 18 (nI (wdW A s 40 (nI n)).length)) (updA (updA A 14 (appA (A 14) 0 (wdW A s 40 (nI n)))) 15 (cpR ((updA A 14 (appA (A 14) 0 (wdW A s 40 (nI n)))) 15) ((updA A 14 (appA (A 14) 0 (wdW A s 40 (nI n)))) 14) (lnW A s 40 (nI n)))) := qX_trans (qX_say o A (Int32.ofInt (-1)) m9 _ _) (qX_15 _ _ _)
            have e3 : wdW (updA (updA A 14 (appA (A 14) 0 (wdW A s 40 (nI n)))) 15 (cpR ((updA A 14 (appA (A 14) 0 (wdW A s 40 (nI n)))) 15) ((updA A 14 (appA (A 14) 0 (wdW A s 40 (nI n)))) 14) (lnW A s 40 (nI n)))) s 40 (nI m) = (wdW A s 40 (nI m)) := wdW_fr (fun r hr => (updA_ne _ _ (by omega)).trans (updA_ne _ _ (by omega))) s 40 _
            iterate 3 (refine zv_step (bX7_sound 44) rfl rfl trivial ?_)
            refine zv_V2 (bX7_sound 44) rfl rfl rfl rfl rfl rfl rfl ⟨rfl, rfl, rfl⟩ ⟨by decide, by decide⟩ ⟨Nat.zero_le _, Nat.zero_le _⟩ (mSayAllX f (upd (upd (upd o 19 (Int32.ofInt (-1))) 20 m9) 18 (nI (wdW A s 40 (nI n)).length)) (updA (updA A 14 (appA (A 14) 0 (wdW A s 40 (nI n)))) 15 (cpR ((updA A 14 (appA (A 14) 0 (wdW A s 40 (nI n)))) 15) ((updA A 14 (appA (A 14) 0 (wdW A s 40 (nI n)))) 14) (lnW A s 40 (nI n)))) J (by omega) (tbI_u (tbI_u hT (by decide) _) (by decide) _) (blI_q hB hq1) (s := s) (by omega) (Nat.zero_le _) hm) ?_
            rintro _ _ ⟨rfl, m3, rfl⟩
            rw [e3]
            refine zv_world (show _ = wR f (upd (upd (upd (upd (upd (upd o 19 (Int32.ofInt (-1))) 20 m9) 18 (nI (wdW A s 40 (nI n)).length)) 19 (Int32.ofInt (-1))) 20 m3) 18 (nI (wdW A s 40 (nI m)).length)) (updA (updA (updA A 14 (appA (A 14) 0 (wdW A s 40 (nI n)))) 15 (cpR ((updA A 14 (appA (A 14) 0 (wdW A s 40 (nI n)))) 15) ((updA A 14 (appA (A 14) 0 (wdW A s 40 (nI n)))) 14) (lnW A s 40 (nI n)))) 14 (appA ((updA (updA A 14 (appA (A 14) 0 (wdW A s 40 (nI n)))) 15 (cpR ((updA A 14 (appA (A 14) 0 (wdW A s 40 (nI n)))) 15) ((updA A 14 (appA (A 14) 0 (wdW A s 40 (nI n)))) 14) (lnW A s 40 (nI n)))) 14) 0 (wdW A s 40 (nI m)))) J from rfl) ?_
            have hq3 : qX o A (upd (upd (upd (upd (upd (upd o 19 (Int32.ofInt (-1))) 20 m9) 18 (nI (wdW A s 40 (nI n)).length)) 19 (Int32.ofInt (-1))) 20 m3) 18 (nI (wdW A s 40 (nI m)).length)) (updA (updA (updA A 14 (appA (A 14) 0 (wdW A s 40 (nI n)))) 15 (cpR ((updA A 14 (appA (A 14) 0 (wdW A s 40 (nI n)))) 15) ((updA A 14 (appA (A 14) 0 (wdW A s 40 (nI n)))) 14) (lnW A s 40 (nI n)))) 14 (appA ((updA (updA A 14 (appA (A 14) 0 (wdW A s 40 (nI n)))) 15 (cpR ((updA A 14 (appA (A 14) 0 (wdW A s 40 (nI n)))) 15) ((updA A 14 (appA (A 14) 0 (wdW A s 40 (nI n)))) 14) (lnW A s 40 (nI n)))) 14) 0 (wdW A s 40 (nI m)))) := qX_trans hq1 (qX_say _ _ (Int32.ofInt (-1)) m3 _ _)
            have hEE : ((lnW A s 40 (nI n)) = (lnW A s 40 (nI m)) ∧ ∀ j, j < (lnW A s 40 (nI n)) → (updA (updA (updA A 14 (appA (A 14) 0 (wdW A s 40 (nI n)))) 15 (cpR ((updA A 14 (appA (A 14) 0 (wdW A s 40 (nI n)))) 15) ((updA A 14 (appA (A 14) 0 (wdW A s 40 (nI n)))) 14) (lnW A s 40 (nI n)))) 14 (appA ((updA (updA A 14 (appA (A 14) 0 (wdW A s 40 (nI n)))) 15 (cpR ((updA A 14 (appA (A 14) 0 (wdW A s 40 (nI n)))) 15) ((updA A 14 (appA (A 14) 0 (wdW A s 40 (nI n)))) 14) (lnW A s 40 (nI n)))) 14) 0 (wdW A s 40 (nI m)))) 15 j = (updA (updA (updA A 14 (appA (A 14) 0 (wdW A s 40 (nI n)))) 15 (cpR ((updA A 14 (appA (A 14) 0 (wdW A s 40 (nI n)))) 15) ((updA A 14 (appA (A 14) 0 (wdW A s 40 (nI n)))) 14) (lnW A s 40 (nI n)))) 14 (appA ((updA (updA A 14 (appA (A 14) 0 (wdW A s 40 (nI n)))) 15 (cpR ((updA A 14 (appA (A 14) 0 (wdW A s 40 (nI n)))) 15) ((updA A 14 (appA (A 14) 0 (wdW A s 40 (nI n)))) 14) (lnW A s 40 (nI n)))) 14) 0 (wdW A s 40 (nI m)))) 14 j) ↔ (wdW A s 40 (nI n)) = (wdW A s 40 (nI m)) := by
              have a1 : hasW ((updA (updA (updA A 14 (appA (A 14) 0 (wdW A s 40 (nI n)))) 15 (cpR ((updA A 14 (appA (A 14) 0 (wdW A s 40 (nI n)))) 15) ((updA A 14 (appA (A 14) 0 (wdW A s 40 (nI n)))) 14) (lnW A s 40 (nI n)))) 14 (appA ((updA (updA A 14 (appA (A 14) 0 (wdW A s 40 (nI n)))) 15 (cpR ((updA A 14 (appA (A 14) 0 (wdW A s 40 (nI n)))) 15) ((updA A 14 (appA (A 14) 0 (wdW A s 40 (nI n)))) 14) (lnW A s 40 (nI n)))) 14) 0 (wdW A s 40 (nI m)))) 15) (wdW A s 40 (nI n)) := has_cpA hlwn (has_appA (wdW A s 40 (nI n)) (A 14))
              have a2 : hasW ((updA (updA (updA A 14 (appA (A 14) 0 (wdW A s 40 (nI n)))) 15 (cpR ((updA A 14 (appA (A 14) 0 (wdW A s 40 (nI n)))) 15) ((updA A 14 (appA (A 14) 0 (wdW A s 40 (nI n)))) 14) (lnW A s 40 (nI n)))) 14 (appA ((updA (updA A 14 (appA (A 14) 0 (wdW A s 40 (nI n)))) 15 (cpR ((updA A 14 (appA (A 14) 0 (wdW A s 40 (nI n)))) 15) ((updA A 14 (appA (A 14) 0 (wdW A s 40 (nI n)))) 14) (lnW A s 40 (nI n)))) 14) 0 (wdW A s 40 (nI m)))) 14) (wdW A s 40 (nI m)) := has_appA (wdW A s 40 (nI m)) ((updA (updA A 14 (appA (A 14) 0 (wdW A s 40 (nI n)))) 15 (cpR ((updA A 14 (appA (A 14) 0 (wdW A s 40 (nI n)))) 15) ((updA A 14 (appA (A 14) 0 (wdW A s 40 (nI n)))) 14) (lnW A s 40 (nI n)))) 14)
              rw [← ls_eq a1 a2, hlwn, hlwm]
            iterate 3 (refine zv_step (bX7_sound 44) rfl rfl trivial ?_)
            refine zv_ifb (fun h104 => ?_) (fun h104 => ?_)
            · iterate 4 (refine zv_step (bX7_sound 44) rfl rfl trivial ?_)
              refine zv_locals (l := [(7, .int (Int32.ofInt 0)), (6, .int (Int32.ofInt 0)), (5, .int (nI (lnW A s 40 (nI m)))), (4, .int (nI (lnW A s 40 (nI n)))), (0, .ref 76), (1, .int (nI s)), (2, .int (nI n)), (3, .int (nI m))]) (l' := [(7, .int (Int32.ofInt 0)), (6, .int (Int32.ofInt 0)), (5, .int (nI (lnW A s 40 (nI m)))), (4, .int (nI (lnW A s 40 (nI n)))), (0, .ref 76), (1, .int (nI s)), (2, .int (nI n)), (3, .int (nI m))]) (fun q h => h) (sound2X f _ _ J k45 (fun w => ⟨_, _, _, rfl, rfl, hq3, Or.inr ⟨s, n, m, by omega, hn, hm, rfl, rfl, rfl, Or.inr ⟨⟨by rw [hlwn]; exact k45, by rw [hlwm]; exact k52⟩, Or.inl ⟨rfl, hEE.mp w⟩⟩⟩⟩) (fun w => ⟨_, _, _, rfl, rfl, hq3, Or.inr ⟨s, n, m, by omega, hn, hm, rfl, rfl, rfl, Or.inr ⟨⟨by rw [hlwn]; exact k45, by rw [hlwm]; exact k52⟩, Or.inr ⟨rfl, fun e => w (hEE.mpr e)⟩⟩⟩⟩) (lnW A s 40 (nI n)) 0 (by omega) rfl (Or.inr ⟨rfl, fun w => h104 (by rw [w.1])⟩))
            · iterate 5 (refine zv_step (bX7_sound 44) rfl rfl trivial ?_)
              refine zv_locals (l := [(7, .int (Int32.ofInt 0)), (6, .int (Int32.ofInt 1)), (5, .int (nI (lnW A s 40 (nI m)))), (4, .int (nI (lnW A s 40 (nI n)))), (0, .ref 76), (1, .int (nI s)), (2, .int (nI n)), (3, .int (nI m))]) (l' := [(7, .int (Int32.ofInt 0)), (6, .int (Int32.ofInt 1)), (5, .int (nI (lnW A s 40 (nI m)))), (4, .int (nI (lnW A s 40 (nI n)))), (0, .ref 76), (1, .int (nI s)), (2, .int (nI n)), (3, .int (nI m))]) (fun q h => h) (sound2X f _ _ J k45 (fun w => ⟨_, _, _, rfl, rfl, hq3, Or.inr ⟨s, n, m, by omega, hn, hm, rfl, rfl, rfl, Or.inr ⟨⟨by rw [hlwn]; exact k45, by rw [hlwm]; exact k52⟩, Or.inl ⟨rfl, hEE.mp w⟩⟩⟩⟩) (fun w => ⟨_, _, _, rfl, rfl, hq3, Or.inr ⟨s, n, m, by omega, hn, hm, rfl, rfl, rfl, Or.inr ⟨⟨by rw [hlwn]; exact k45, by rw [hlwm]; exact k52⟩, Or.inr ⟨rfl, fun e => w (hEE.mpr e)⟩⟩⟩⟩) (lnW A s 40 (nI n)) 0 (by omega) rfl (Or.inl ⟨rfl, (nI_eq (by omega) (by omega)).mp (Decidable.not_not.mp h104), fun j hj => absurd hj (Nat.not_lt_zero j)⟩))
          · have k52 : ¬ (lnW A s 40 (nI m)) ≤ 80 := fun q => h52 (show nI (lnW A s 40 (nI m)) ≤ nI 80 by rw [nI_leI (by omega) (by decide)]; exact q)
            iterate 1 (refine zv_step (bX7_sound 44) rfl rfl trivial ?_)
            exact zv_iret (bX7_sound 44) rfl (Or.inl rfl) (Nat.zero_le _) (Nat.zero_le _) ⟨o, A, _, rfl, rfl, qX_refl o A, Or.inr ⟨s, n, m, by omega, hn, hm, rfl, rfl, rfl, Or.inl ⟨rfl, fun q => k52 (by have := q.2; rwa [hlwm] at this)⟩⟩⟩
      · skip
        iterate 1 (refine zv_step (bX7_sound 44) rfl rfl trivial ?_)
        refine zv_iff (by decide) ?_
        iterate 1 (refine zv_step (bX7_sound 44) rfl rfl trivial ?_)
        exact zv_iret (bX7_sound 44) rfl (Or.inl rfl) (Nat.zero_le _) (Nat.zero_le _) ⟨o, A, _, rfl, rfl, qX_refl o A, Or.inl ⟨rfl, fun q => g3 (by have := q.2.2.1; have := q.2.2.2; omega)⟩⟩
    · skip
      iterate 1 (refine zv_step (bX7_sound 44) rfl rfl trivial ?_)
      refine zv_ift (by decide) ?_
      iterate 1 (refine zv_step (bX7_sound 44) rfl rfl trivial ?_)
      exact zv_iret (bX7_sound 44) rfl (Or.inl rfl) (Nat.zero_le _) (Nat.zero_le _) ⟨o, A, _, rfl, rfl, qX_refl o A, Or.inl ⟨rfl, fun q => g2 (by have := q.2.1.1; have := q.2.1.2; omega)⟩⟩
  · skip
    iterate 1 (refine zv_step (bX7_sound 44) rfl rfl trivial ?_)
    refine zv_ift (by decide) ?_
    iterate 1 (refine zv_step (bX7_sound 44) rfl rfl trivial ?_)
    exact zv_iret (bX7_sound 44) rfl (Or.inl rfl) (Nat.zero_le _) (Nat.zero_le _) ⟨o, A, _, rfl, rfl, qX_refl o A, Or.inl ⟨rfl, fun q => g1 q.1⟩⟩
