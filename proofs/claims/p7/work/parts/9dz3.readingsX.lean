abbrev tQLX (O : Nat → Int32) (P : Nat → Nat → Int32) (Y : Nat → Nat → Int64) (o : Nat → Int32) (A : Nat → Nat → Int32) (J : Nat → Nat → Int64) (n : Nat) (x : Int32) : Option Value → zW → Prop := fun r w' => ∃ (s : Nat) (a b : Int32) (Y' : Nat → Nat → Int64), s ≤ 8 ∧ x = nI s ∧ r = some (.long (lN (ctY n Y'))) ∧ w' = wX (upd (upd (upd O 10 a) 11 b) 12 (O 0)) P Y' (gR o A J) ∧ okZ Y n (eW A) (A 6) (ltW A s) Y' (n + 1) 0
abbrev tXAX (O : Nat → Int32) (P : Nat → Nat → Int32) (Y : Nat → Nat → Int64) (o : Nat → Int32) (A : Nat → Nat → Int32) (J : Nat → Nat → Int64) (x : Int32) : String → zW → Prop := fun E w' => E = "java/lang/IllegalArgumentException" ∧ ¬ (0 ≤ x.toInt ∧ x.toInt ≤ 8) ∧ w' = (wX O P Y (gR o A J))
theorem bxRX (O : Nat → Int32) (P : Nat → Nat → Int32) (Y : Nat → Nat → Int64) (o : Nat → Int32) (A : Nat → Nat → Int32) (J : Nat → Nat → Int64) (l : Nat) (x : Int32) (n : Nat) : zTb (zMx 7 zX6_readings (tXAX O P Y o A J x) (tQLX O P Y o A J l x) n) tX6_readings := ⟨fRX6, gRX6, oX6_readings⟩
set_option maxHeartbeats 1000000 in
set_option maxRecDepth 20000 in
theorem tReadingsX (O : Nat → Int32) (P : Nat → Nat → Int32) (Y : Nat → Nat → Int64) (o : Nat → Int32) (A : Nat → Nat → Int32) (J : Nat → Nat → Int64) {l : Nat} (hE : eaR l P (eW A)) (hO : O 9 = nI l) (hl : l ≤ 20) (hG : gfR (O 0) (A 6)) (hy : ∀ s, s ≤ 8 → syR P s (ltW A s)) (x : Int32) : zKt 7 zX6_readings [.ref 0, .int x] (wX O P Y (gR o A J)) (tQLX O P Y o A J l x) (tXAX O P Y o A J x) := by
  refine zKt_of (by decide +kernel) rfl ?_
  iterate 1 (refine zv_step (bxRX O P Y o A J l _ _) rfl rfl trivial ?_)
  refine zv_S1 (bxRX O P Y o A J l _ _) rfl rfl rfl rfl ⟨rfl, rfl, rfl⟩ ⟨Nat.le_of_ble_eq_true rfl, Nat.le_of_ble_eq_true rfl⟩ ⟨Nat.zero_le _, Nat.zero_le _⟩ (hX6_isStyleOrFree _ _) ?_
  rintro _ _ ⟨rfl, ⟨hh, rfl⟩ | ⟨hh, rfl⟩⟩
  · obtain ⟨s, hs, rfl⟩ := in_nat (x := x) (b := 8) (by decide) hh
    iterate 1 (refine zv_step (bxRX O P Y o A J l _ _) rfl rfl trivial ?_)
    refine zv_ift (by decide) ?_
    iterate 2 (refine zv_step (bxRX O P Y o A J l _ _) rfl rfl trivial ?_)
    refine zv_V1 (bxRX O P Y o A J l _ _) rfl rfl rfl rfl rfl rfl rfl ⟨rfl, rfl, rfl⟩ ⟨Nat.le_of_ble_eq_true rfl, Nat.le_of_ble_eq_true rfl⟩ ⟨Nat.zero_le _, Nat.zero_le _⟩ (cTallyInX O P Y (gR o A J) hE hO hl hG hs (hy s hs)) ?_
    rintro _ _ ⟨a, b, Y', rfl, rfl, hZ, _, _⟩
    exact zv_lret (bxRX O P Y o A J l _ _) rfl rfl (Nat.zero_le _) (Nat.zero_le _) ⟨s, a, b, Y', hs, rfl, rfl, rfl, hZ⟩
  · skip
    iterate 1 (refine zv_step (bxRX O P Y o A J l _ _) rfl rfl trivial ?_)
    refine zv_iff (by decide) ?_
    exact zv_throwS (text := "no such style") (names := ["java/lang/RuntimeException", "java/lang/Exception"]) (by decide +kernel) (by decide +kernel) (by decide +kernel) (by decide +kernel) (by decide +kernel) fIAE kIAE aIAE gIAE (fun A U H h => ⟨h.2.2.1, h.2.2.2.2.2.2.2.1⟩) ⟨by decide, by decide⟩ ⟨rfl, hh, rfl⟩
set_option maxHeartbeats 1000000 in
set_option maxRecDepth 20000 in
theorem hL_readingsX (O : Nat → Int32) (P : Nat → Nat → Int32) (Y : Nat → Nat → Int64) (o : Nat → Int32) (A : Nat → Nat → Int32) (J : Nat → Nat → Int64) {l : Nat} (hE : eaR l P (eW A)) (hO : O 9 = nI l) (hl : l ≤ 20) (hG : gfR (O 0) (A 6)) (hy : ∀ s, s ≤ 8 → syR P s (ltW A s)) (x : Int32) : zKh 9 zL_readings [(0, 8, 11, 13)] [.ref 0, .int x, .ref 99] (wX O P Y (gR o A J)) (fun r w' => (∃ (s : Nat) (a b : Int32) (Y' : Nat → Nat → Int64), s ≤ 8 ∧ x = nI s ∧ r = some (.int (Int32.ofInt 0)) ∧ w' = wX (upd (upd (upd O 10 a) 11 b) 12 (O 0)) P Y' (gR o A (updJ J 2 (vp_updL (J 2) (Int32.ofInt 0).toNatClampNeg (lN (ctY l Y'))))) ∧ okZ Y l (eW A) (A 6) (ltW A s) Y' (l + 1) 0) ∨ (¬ (0 ≤ x.toInt ∧ x.toInt ≤ 8) ∧ r = some (.int (Int32.ofInt 1)) ∧ w' = (wX O P Y (gR o A J)))) := by
  refine zKh_of (by decide +kernel) rfl ?_
  iterate 4 (refine zv_step bL_readings rfl rfl trivial ?_)
  refine zv_callX bL_readings rfl rfl (As := [.int x]) (rest := [.int (Int32.ofInt 0), .ref 99]) rfl rfl rfl rfl rfl rfl (by decide) ⟨by decide, by decide⟩ (tReadingsX O P Y o A J hE hO hl hG hy x) ?_ ?_
  · rintro _ _ ⟨s, a, b, Y', hs, ex, rfl, rfl, hZ⟩
    refine zv_last bL_readings rfl (show (wX (upd (upd (upd O 10 a) 11 b) 12 (O 0)) P Y' (gR o A J))[99]? = some (zJ 1 (J 2)) from rfl) (show vp_in (nI 0) 1 from vp_in_nI (by decide) (by decide)) ?_
    refine zv_world (show _ = wX (upd (upd (upd O 10 a) 11 b) 12 (O 0)) P Y' (gR o A (updJ J 2 (vp_updL (J 2) (Int32.ofInt 0).toNatClampNeg (lN (ctY l Y'))))) from rfl) ?_
    iterate 2 (refine zv_step bL_readings rfl rfl trivial ?_)
    exact zv_iret bL_readings rfl (Or.inl rfl) (Nat.le_refl 1) (Nat.le_refl 6) (Or.inl ⟨s, a, b, Y', hs, ex, rfl, rfl, hZ⟩)
  · rintro E _ ⟨rfl, hn, rfl⟩
    refine ⟨3, 12, ⟨[], ⟨0, 8, 11, 13⟩, [], "java/lang/IllegalArgumentException", rfl, fun y h => absurd h List.not_mem_nil, by decide, by decide, cl13, fun A U H h => h.2.2.2.2.2.2.2.1, by decide, Or.inl ⟨3, rfl, by decide +kernel, rfl⟩⟩, ?_⟩
    iterate 1 (refine zv_step bL_readings rfl rfl trivial ?_)
    exact zv_iret bL_readings rfl (Or.inl rfl) (Nat.le_refl 1) (Nat.le_refl 6) (Or.inr ⟨hn, rfl, rfl⟩)
set_option maxHeartbeats 1000000 in
set_option maxRecDepth 20000 in
theorem rkIF (f : Nat → zC) (o : Nat → Int32) (A : Nat → Nat → Int32) {h : Nat} (hh : h ≤ 20) (hw : nnW h (A 8)) (ho10 : o 10 = nI h) {s : Nat} (hs : s ≤ 8) (ho : o 28 = nI s) {K : Nat → Int64} {n : Nat} (hn : 1 ≤ n) (hnh : n ≤ h) {n0 : Nat} {Q : Option Value → zW → Prop} (kk : ∀ J', J' 2 = K → okN h A s J' (n + 1) 0 → zV (zMo 3 zX7_reckons) false n0 0 0 210 [(2, .int (nI n)), (0, .ref 76), (1, .int (nI s))] [] (wR f o A J') Q) : ∀ (c i : Nat) (J : Nat → Nat → Int64), i + c + n = h + 1 → J 2 = K → okN h A s J n i → ∀ {x3 : Int32}, x3 = nI i → zV (zMo 3 zX7_reckons) false n0 0 0 17 [(3, .int x3), (2, .int (nI n)), (0, .ref 76), (1, .int (nI s))] [] (wR f o A J) Q := by
  intro c
  induction c with
  | zero =>
    intro i J hc hK hN x3 e3
    subst e3
    iterate 6 (refine zv_step (bX7_reckons 3) rfl rfl trivial ?_)
    refine zv_ift (show o 10 < nI i + nI n by rw [ho10, nI_add]; exact nI_lt (by omega) (by omega)) ?_
    refine zv_locals (l := [(3, .int (nI i)), (2, .int (nI n)), (0, .ref 76), (1, .int (nI s))]) (l' := [(2, .int (nI n)), (0, .ref 76), (1, .int (nI s))]) ?_ (kk J hK (fun a b h1 h2 h3 => hN a b h1 h2 (by omega)))
    simp
  | succ c ih =>
    intro i J hc hK hN x3 e3
    subst e3
    iterate 6 (refine zv_step (bX7_reckons 3) rfl rfl trivial ?_)
    refine zv_iff (show ¬ o 10 < nI i + nI n by rw [ho10, nI_add]; exact nI_nlt (by omega) (by omega)) ?_
    iterate 8 (refine zv_step (bX7_reckons 3) rfl rfl trivial ?_)
    refine zv_world (show _ = wR f o A (updJ J 0 (J 0)) from rfl) ?_
    refine zv_locals (l := [(7, .int (Int32.ofInt 0)), (5, .long (lN 0)), (4, .int (nI i + nI n)), (3, .int (nI i)), (2, .int (nI n)), (0, .ref 76), (1, .int (nI s))]) (l' := [(7, .int (Int32.ofInt 0)), (5, .long (lN 0)), (4, .int (nI i + nI n)), (3, .int (nI i)), (2, .int (nI n)), (0, .ref 76), (1, .int (nI s))]) (fun q h => h) ?_
    rw [nI_add]
    refine rkC f o A J hh hw hs ho (i := i) (j := i + n) rfl hn (by omega) hN (fun g hg1 hg2 => ?_) 20 0 (J 0) (by omega) (fun _ _ => rfl) (fun x hx => absurd hx (by omega)) rfl
    iterate 8 (refine zv_step (bX7_reckons 3) rfl rfl trivial ?_)
    refine zv_step (bX7_reckons 3) rfl rfl (show vp_in (c8 21 * nI i + nI (i + n)) 441 by rw [ix21]; exact vp_in_nI (by omega) (by decide)) ?_
    iterate 2 (refine zv_step (bX7_reckons 3) rfl rfl trivial ?_)
    refine zv_world (show _ = wR f o A (updJ (updJ J 0 g) 1 (vp_updL (J 1) (21 * i + (i + n)) (lN (csW (mW A s (lW J) i (i + n)) 20)))) from by rw [show 21 * i + (i + n) = (c8 21 * nI i + nI (i + n)).toNatClampNeg by rw [ix21, nI_clamp (by omega)]]; rfl) ?_
    refine zv_locals (l := [(3, .int (nI i + Int32.ofInt 1)), (5, .long (lN (csW (mW A s (lW J) i (i + n)) 20))), (4, .int (nI (i + n))), (2, .int (nI n)), (0, .ref 76), (1, .int (nI s))]) (l' := [(3, .int (nI i + Int32.ofInt 1)), (2, .int (nI n)), (0, .ref 76), (1, .int (nI s))]) ?_ (ih (i + 1) (updJ (updJ J 0 g) 1 (vp_updL (J 1) (21 * i + (i + n)) (lN (csW (mW A s (lW J) i (i + n)) 20)))) (by omega) hK (okN_step hh rfl hn (by omega) hN hg1 hg2) (nI_1 i))
    simp
set_option maxHeartbeats 1000000 in
set_option maxRecDepth 20000 in
theorem rkNF (f : Nat → zC) (o : Nat → Int32) (A : Nat → Nat → Int32) {h : Nat} (hh : h ≤ 20) (hw : nnW h (A 8)) (ho10 : o 10 = nI h) {s : Nat} (hs : s ≤ 8) (ho : o 28 = nI s) {K : Nat → Int64} {n0 : Nat} : ∀ (c n : Nat) (J : Nat → Nat → Int64), n + c = h + 1 → 1 ≤ n → J 2 = K → okN h A s J n 0 → ∀ {x2 : Int32}, x2 = nI n → zV (zMo 3 zX7_reckons) false n0 0 0 7 [(2, .int x2), (0, .ref 76), (1, .int (nI s))] [] (wR f o A J) (fun r w' => r = none ∧ ∃ J', w' = wR f o A J' ∧ J' 2 = K ∧ okJ h A s J') := by
  intro c
  induction c with
  | zero =>
    intro n J hc hn hK hN x2 e2
    subst e2
    iterate 4 (refine zv_step (bX7_reckons 3) rfl rfl trivial ?_)
    refine zv_ift (show o 10 < nI n by rw [ho10]; exact nI_lt (by omega) (by omega)) ?_
    exact zv_ret (bX7_reckons 3) rfl rfl (Nat.zero_le _) (Nat.zero_le _) ⟨rfl, J, rfl, hK, fun i j h1 h2 => hN i j h1 h2 (Or.inl (by omega))⟩
  | succ c ih =>
    intro n J hc hn hK hN x2 e2
    subst e2
    iterate 4 (refine zv_step (bX7_reckons 3) rfl rfl trivial ?_)
    refine zv_iff (show ¬ o 10 < nI n by rw [ho10]; exact nI_nlt (by omega) (by omega)) ?_
    iterate 2 (refine zv_step (bX7_reckons 3) rfl rfl trivial ?_)
    refine zv_locals (l := [(3, .int (Int32.ofInt 0)), (2, .int (nI n)), (0, .ref 76), (1, .int (nI s))]) (l' := [(3, .int (Int32.ofInt 0)), (2, .int (nI n)), (0, .ref 76), (1, .int (nI s))]) (fun q h => h) (rkIF f o A hh hw ho10 hs ho hn (by omega) (fun J' hK' hN' => ?_) (h + 1 - n) 0 J (by omega) hK hN rfl)
    iterate 2 (refine zv_step (bX7_reckons 3) rfl rfl trivial ?_)
    exact ih (n + 1) J' (by omega) (by omega) hK' hN' (nI_1 n)
set_option maxHeartbeats 1000000 in
set_option maxRecDepth 20000 in
theorem mReckonsF (f : Nat → zC) (o : Nat → Int32) (A : Nat → Nat → Int32) (J : Nat → Nat → Int64) {h : Nat} (hh : h ≤ 20) (hw : nnW h (A 8)) (ho10 : o 10 = nI h) {s : Nat} (hs : s ≤ 8) {x : Int32} (ex : x = nI s) : zK 3 zX7_reckons [.ref 76, .int x] (wR f o A J) (fun r w' => r = none ∧ ∃ J', w' = wR f (upd o 28 (nI s)) A J' ∧ J' 2 = J 2 ∧ okJ h A s J') := by
  subst ex
  refine zK_of qX7_reckons (by decide +kernel) rfl ?_
  iterate 5 (refine zv_step (bX7_reckons 3) rfl rfl trivial ?_)
  refine zv_world (show _ = wR f (upd o 28 (nI s)) A J from rfl) ?_
  exact rkNF f (upd o 28 (nI s)) A hh hw ho10 hs rfl h 1 J (by omega) (Nat.le_refl _) rfl (fun a b h1 h2 h3 => absurd h3 (by omega)) rfl
set_option maxHeartbeats 1000000 in
set_option maxRecDepth 20000 in
theorem mCountedF (f : Nat → zC) (o : Nat → Int32) (A : Nat → Nat → Int32) (J : Nat → Nat → Int64) {h : Nat} (hh : h ≤ 20) (hw : nnW h (A 8)) (ho10 : o 10 = nI h) {s : Nat} (hs : s ≤ 8) {x : Int32} (ex : x = nI s) : zK 4 zX7_counted [.ref 76, .int x] (wR f o A J) (fun r w' => ∃ J', r = some (.long (lN (ctW h J'))) ∧ w' = wR f (upd o 28 (nI s)) A J' ∧ J' 2 = J 2 ∧ okJ h A s J') := by
  refine zK_of qX7_counted (by decide +kernel) rfl ?_
  iterate 2 (refine zv_step (bX7_counted 4) rfl rfl trivial ?_)
  refine zv_V1 (bX7_counted 4) rfl rfl rfl rfl rfl rfl rfl ⟨rfl, rfl, rfl⟩ ⟨by decide, by decide⟩ ⟨Nat.zero_le _, Nat.zero_le _⟩ (mReckonsF f o A J hh hw ho10 hs ex) ?_
  rintro _ _ ⟨rfl, J', rfl, hK, hJ⟩
  iterate 3 (refine zv_step (bX7_counted 4) rfl rfl trivial ?_)
  refine zv_ifb (fun h9 => ?_) (fun h9 => ?_)
  · have q9 : h ≠ 0 := fun e => h9 (by show o 10 = 0; rw [ho10, e]; rfl)
    iterate 4 (refine zv_step (bX7_counted 4) rfl rfl trivial ?_)
    refine zv_lale (bX7_counted 4) rfl rfl (show vp_in (o 10) 441 by rw [ho10]; exact vp_in_nI (by omega) (by decide)) (show J' 1 (o 10).toNatClampNeg = lN (ctW h J') by rw [ho10, nI_clamp (by omega)]; unfold ctW; rw [if_neg q9]; have := (okS_l (hJ 0 h (by omega) (Nat.le_refl _))).2.2; rw [show 21 * 0 + h = h by omega] at this; exact this) ?_
    exact zv_lret (bX7_counted 4) rfl rfl (Nat.zero_le _) (Nat.zero_le _) ⟨J', rfl, rfl, hK, hJ⟩
  · have q9 : h = 0 := (nI_eq (by omega) (by decide)).mp (show nI h = nI 0 by rw [← ho10]; exact Decidable.not_not.mp h9)
    iterate 2 (refine zv_step (bX7_counted 4) rfl rfl trivial ?_)
    exact zv_lret (bX7_counted 4) rfl rfl (Nat.zero_le _) (Nat.zero_le _) ⟨J', by unfold ctW; rw [if_pos q9]; rfl, rfl, hK, hJ⟩
set_option maxHeartbeats 1000000 in
set_option maxRecDepth 20000 in
theorem mReadingsX (f : Nat → zC) (o : Nat → Int32) (A : Nat → Nat → Int32) (J : Nat → Nat → Int64) {h : Nat} (hh : h ≤ 20) (hw : nnW h (A 8)) (ho10 : o 10 = nI h) (x : Int32) : zK 5 zX7_readings [.ref 76, .int x] (wR f o A J) (fun r w' => (∃ (s : Nat) (J' : Nat → Nat → Int64), s ≤ 8 ∧ x = nI s ∧ r = some (.long (lN (ctW h J'))) ∧ w' = wR f (upd (upd o 16 (Int32.ofInt 0)) 28 (nI s)) A J' ∧ J' 2 = J 2 ∧ okJ h A s J') ∨ (¬ (0 ≤ x.toInt ∧ x.toInt ≤ 8) ∧ r = some (.long (Int64.ofInt 0)) ∧ w' = wR f (upd o 16 (Int32.ofInt 1)) A J)) := by
  refine zK_of qX7_readings (by decide +kernel) rfl ?_
  iterate 5 (refine zv_step (bX7_readings 5) rfl rfl trivial ?_)
  refine zv_S3 (bX7_readings 5) rfl rfl rfl rfl ⟨rfl, rfl, rfl⟩ ⟨by decide, by decide⟩ ⟨Nat.zero_le _, Nat.zero_le _⟩ (mIn _ _ _ _ (a := 0) (b := 8) (by decide) (by decide)) ?_
  rintro _ _ ⟨rfl, ⟨g1, rfl⟩ | ⟨g1, rfl⟩⟩
  · obtain ⟨s, hs, rfl⟩ := in_nat (x := x) (b := 8) (by decide) g1
    iterate 1 (refine zv_step (bX7_readings 5) rfl rfl trivial ?_)
    refine zv_iff (by decide) ?_
    iterate 6 (refine zv_step (bX7_readings 5) rfl rfl trivial ?_)
    refine zv_iff (by decide) ?_
    iterate 2 (refine zv_step (bX7_readings 5) rfl rfl trivial ?_)
    refine zv_V1 (bX7_readings 5) rfl rfl rfl rfl rfl rfl rfl ⟨rfl, rfl, rfl⟩ ⟨by decide, by decide⟩ ⟨Nat.zero_le _, Nat.zero_le _⟩ (mCountedF f (upd o 16 (Int32.ofInt 0)) A J hh hw ho10 hs rfl) ?_
    rintro _ _ ⟨J', rfl, rfl, hK, hJ⟩
    iterate 1 (refine zv_step (bX7_readings 5) rfl rfl trivial ?_)
    exact zv_lret (bX7_readings 5) rfl rfl (Nat.zero_le _) (Nat.zero_le _) (Or.inl ⟨s, J', hs, rfl, rfl, rfl, hK, hJ⟩)
  · skip
    iterate 1 (refine zv_step (bX7_readings 5) rfl rfl trivial ?_)
    refine zv_ift (by decide) ?_
    iterate 5 (refine zv_step (bX7_readings 5) rfl rfl trivial ?_)
    refine zv_ift (by decide) ?_
    iterate 1 (refine zv_step (bX7_readings 5) rfl rfl trivial ?_)
    exact zv_lret (bX7_readings 5) rfl rfl (Nat.zero_le _) (Nat.zero_le _) (Or.inr ⟨g1, rfl, rfl⟩)
