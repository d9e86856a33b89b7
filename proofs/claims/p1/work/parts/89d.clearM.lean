set_option maxHeartbeats 1000000 in
set_option maxRecDepth 20000 in
theorem growL (f : Nat → zC) (o : Nat → Int32) (J : Nat → Nat → Int64) {s n : Nat} (hn : n ≤ 4) {Q : Option Value → zW → Prop} {n0 : Nat} (kk : ∀ (A : Nat → Nat → Int32) (m : Nat), gI A00 (tabs (n - 1)) A m → zV (zMo 290 zX7_clear) false n0 0 0 64 [(0, .ref 76), (1, .int (nI s)), (2, .int (nI n))] [] (wR f (upd o 23 (nI m)) A J) Q) : ∀ (c j : Nat), j + 2 + c = n + 1 → ∀ {x3 : Int32} {A : Nat → Nat → Int32} {m : Nat}, x3 = nI (j + 2) → gI A00 (tabs j) A m → zV (zMo 290 zX7_clear) false n0 0 0 48 [(3, .int x3), (0, .ref 76), (1, .int (nI s)), (2, .int (nI n))] [] (wR f (upd o 23 (nI m)) A J) Q := by
  intro c
  induction c with
  | zero =>
    intro j hj x3 A m e3 hI
    iterate 3 (refine zv_step (bX7_clear 290) rfl rfl trivial ?_)
    refine zv_ift (by rw [e3]; exact nI_lt (by omega) (by omega)) ?_
    have e : n - 1 = j := by omega
    rw [e] at kk
    exact zv_locals (fun q hq => List.mem_cons_of_mem _ hq) (kk A m hI)
  | succ c ih =>
    intro j hj x3 A m e3 hI
    subst e3
    iterate 3 (refine zv_step (bX7_clear 290) rfl rfl trivial ?_)
    refine zv_iff (nI_nlt (by omega) (by omega)) ?_
    iterate 2 (refine zv_step (bX7_clear 290) rfl rfl trivial ?_)
    refine zv_V1 (bX7_clear 290) rfl rfl rfl rfl rfl rfl rfl ⟨rfl, rfl, rfl⟩ ⟨Nat.le_of_ble_eq_true rfl, Nat.le_of_ble_eq_true rfl⟩ ⟨Nat.zero_le _, Nat.zero_le _⟩ (mGrows f o A00 J (j + 2) (by omega) (by omega) hI (by have h1 : (tabs (j + 1)).length = _ := tabs_len (show j + 1 < 4 by omega); have h2 := lnT_le (show j + 1 < 4 by omega); show (tabs (j + 1)).length ≤ 280; omega)) ?_
    rintro _ _ ⟨rfl, A', m', rfl, hI'⟩
    iterate 2 (refine zv_step (bX7_clear 290) rfl rfl trivial ?_)
    exact ih (j + 1) (by omega) (nI_1 (j + 2)) hI'
set_option maxHeartbeats 1000000 in
set_option maxRecDepth 20000 in
theorem clearM (f : Nat → zC) {s n : Nat} (h1 : 1 ≤ n) (hn : n ≤ 4) (hs : s < 8) {kp : Nat → Bool} {WL : List (List Int32)} (hc : chk kp WL T4 = true) (hk : ∀ k, k < 10 → A00 7 (10 * s + k) = if kp k then 1 else 0) {Q : Option Value → zW → Prop} {n0 : Nat} (q0 : (∃ x y, y < x ∧ x < lnT (n - 1) ∧ WL.getD x [] = WL.getD y []) → ∀ w, Q (some (.int 0)) w) (q1 : (∀ x y, y < x → x < lnT (n - 1) → WL.getD x [] ≠ WL.getD y []) → ∀ w, Q (some (.int 1)) w) : zV (zMo 290 zX7_clear) false n0 0 0 21 (lv_args 0 [.ref 76, .int (nI s), .int (nI n)]) [] (wR f o00 A00 (fun _ _ => 0)) Q := by
  have hj : n - 1 < 4 := by omega
  have hTl := tabs_len hj
  have hT2 := lnT_le hj
  have I0 : gI A00 [] A00 0 := ⟨rfl, (fun a k v x y z h => by cases h), (fun a => by unfold szT; rw [List.getElem?_nil]; decide), fun _ _ => rfl⟩
  have I1 := gI_snoc (k := 0) (v := Int32.ofInt 0) (x := c8 (-2)) (y := c8 (-2)) (xi := 0) (yi := 0) (z := 1) I0 (fun h => absurd h (by decide)) (fun h => absurd h (by decide)) (by rw [rdv_m2]; decide) (by decide)
  have I2 := gI_snoc (k := 1) (v := Int32.ofInt 1) (x := c8 (-2)) (y := c8 (-2)) (xi := 0) (yi := 0) (z := 1) I1 (fun h => absurd h (by decide)) (fun h => absurd h (by decide)) (by rw [rdv_m2]; decide) (by decide)
  iterate 3 (refine zv_step (bX7_clear 290) rfl rfl trivial ?_)
  iterate 5 (refine zv_step (bX7_clear 290) rfl rfl trivial ?_)
  refine zv_V4 (bX7_clear 290) rfl rfl rfl rfl rfl rfl rfl ⟨rfl, rfl, rfl⟩ ⟨Nat.le_of_ble_eq_true rfl, Nat.le_of_ble_eq_true rfl⟩ ⟨Nat.zero_le _, Nat.zero_le _⟩ (mAdds f (upd o00 23 (Int32.ofInt 0)) A00 (fun _ _ => 0) (n := 0) rfl (by decide) vpm2 vpm2) ?_
  rintro _ _ ⟨rfl, rfl⟩
  iterate 5 (refine zv_step (bX7_clear 290) rfl rfl trivial ?_)
  refine zv_V4 (bX7_clear 290) rfl rfl rfl rfl rfl rfl rfl ⟨rfl, rfl, rfl⟩ ⟨Nat.le_of_ble_eq_true rfl, Nat.le_of_ble_eq_true rfl⟩ ⟨Nat.zero_le _, Nat.zero_le _⟩ (mAdds f (upd o00 23 (nI 1)) (setsA A00 (120 + 0) (nI 0) (Int32.ofInt 0) (c8 (-2)) (c8 (-2))) (fun _ _ => 0) (n := 1) rfl (by decide) vpm2 vpm2) ?_
  rintro _ _ ⟨rfl, rfl⟩
  iterate 2 (refine zv_step (bX7_clear 290) rfl rfl trivial ?_)
  refine growL f o00 (fun _ _ => 0) hn (fun A m hI => ?_) (n - 1) 0 (by omega) rfl I2
  iterate 2 (refine zv_step (bX7_clear 290) rfl rfl trivial ?_)
  refine sayL f (fun _ _ => 0) (T := tabs (n - 1)) (K7 := A00 7) (Ws := fun a => WL.getD a []) (kp := kp) (by omega) (fun a ha => (chk_ok hc (tabs_pre hj (List.getElem?_eq_getElem ha))).2.2) (fun a e he => (chk_ok hc (tabs_pre hj he)).1) hs hk (fun a e he => (chk_ok hc (tabs_pre hj he)).2.1) (fun o A hI => ?_) (tabs (n - 1)).length 0 (by omega) rfl ⟨by show nI m = _; rw [hI.1], hI.2.1, hI.2.2.2 7 (by decide), fun j hj => absurd hj (by omega)⟩
  iterate 2 (refine zv_step (bX7_clear 290) rfl rfl trivial ?_)
  exact cmpA f (fun _ _ => 0) (T := tabs (n - 1)) (K7 := A00 7) (Ws := fun a => WL.getD a []) (by omega) (fun a ha => (chk_ok hc (tabs_pre hj (List.getElem?_eq_getElem ha))).2.2) (by rw [hTl]; exact q0) (by rw [hTl]; exact q1) hI (tabs (n - 1)).length 0 (by omega) rfl (fun x y h2 h3 => absurd h3 (by omega))
theorem in14 (x : Int32) : (Int64.ofNat ((1 : Fin 2) : Nat)).toInt ≤ x.toInt64.toInt ∧ x.toInt64.toInt ≤ (Int64.ofInt 4).toInt ↔ 1 ≤ x.toInt ∧ x.toInt ≤ 4 := by
  rw [l1c, Int32.toInt_toInt64, i64c 4 (by decide)]
theorem nIof4 {x : Int32} (h : 1 ≤ x.toInt ∧ x.toInt ≤ 4) : ∃ m : Nat, 1 ≤ m ∧ m ≤ 4 ∧ x = nI m := by
  obtain ⟨j, hj, e⟩ := vp_in_of (x := x) (n := 5) (vp_in_iff.mpr ⟨by omega, by omega⟩) (by decide)
  have : x.toInt = j := by rw [e]; exact nI_toInt (by omega)
  exact ⟨j, by omega, by omega, e⟩
theorem lnT_46 {j : Nat} (h : j < 3) : lnT j ≤ 46 := by
  match j, h with
  | 0, _ => decide
  | 1, _ => decide
  | 2, _ => decide
theorem WL0_len : WL0.length = 280 := by decide +kernel
theorem WL1_len : WL1.length = 280 := by decide +kernel
theorem ne1 {x y : Nat} (h : y < x) (hx : x < 46) : WL1.getD x [] ≠ WL1.getD y [] := by
  have hl : (WL1.take 46).length = 46 := by rw [List.length_take, WL1_len]; decide
  have h1 := nd_ne nd1 h (by rw [hl]; exact hx)
  rw [List.getD_eq_getElem?_getD, List.getD_eq_getElem?_getD, List.getElem?_take, List.getElem?_take, if_pos hx, if_pos (by omega)] at h1
  rw [List.getD_eq_getElem?_getD, List.getD_eq_getElem?_getD]
  exact h1
set_option maxHeartbeats 1000000 in
set_option maxRecDepth 20000 in
theorem cM_clear (p1 p2 : Int32) {w : zW} (h : ∀ j, 76 ≤ j → w[j]? = w0[j]?) : zK 290 zX7_clear [.ref 76, .int p1, .int p2] w (fun r w' => ∃ a, r = some (.int a) ∧ R_clear p1 p2 a) := by
  obtain ⟨f, rfl⟩ := wM_of h
  clear h
  refine zK_of qX7_clear (by decide +kernel) rfl ?_
  iterate 1 (refine zv_step (bX7_clear 290) rfl rfl trivial ?_)
  refine zv_S1 (bX7_clear 290) rfl rfl rfl rfl ⟨rfl, rfl, rfl⟩ ⟨Nat.le_of_ble_eq_true rfl, Nat.le_of_ble_eq_true rfl⟩ ⟨Nat.zero_le _, Nat.zero_le _⟩ (hX7_isStyle _ _) ?_
  rintro _ _ ⟨rfl, ⟨hh, rfl⟩ | ⟨hh, rfl⟩⟩
  · iterate 1 (refine zv_step (bX7_clear 290) rfl rfl trivial ?_)
    refine zv_iff (by decide) ?_
    iterate 4 (refine zv_step (bX7_clear 290) rfl rfl trivial ?_)
    refine zv_S3 (bX7_clear 290) rfl rfl rfl rfl ⟨rfl, rfl, rfl⟩ ⟨Nat.le_of_ble_eq_true rfl, Nat.le_of_ble_eq_true rfl⟩ ⟨Nat.zero_le _, Nat.zero_le _⟩ (hX7_in _ _ _ _) ?_
    rintro _ _ ⟨rfl, ⟨h2, rfl⟩ | ⟨h2, rfl⟩⟩
    · rw [in14] at h2
      obtain ⟨n, n1, n4, rfl⟩ := nIof4 h2
      obtain ⟨s, hs, rfl⟩ := nIof7 hh
      have en : (nI n).toInt = n := nI_toInt (by omega)
      have es : (nI s).toInt = s := nI_toInt (by omega)
      iterate 1 (refine zv_step (bX7_clear 290) rfl rfl trivial ?_)
      refine zv_ift (by decide) ?_
      rw [wM_R]
      by_cases s0 : s = 0
      · subst s0
        refine clearM f n1 n4 hs chk0 kept00 (fun hd w => ?_) (fun _ w => ⟨_, rfl, Or.inr (Or.inl ⟨⟨hh, h2⟩, by omega, rfl⟩)⟩)
        obtain ⟨x, y, hxy, hx, he⟩ := hd
        exact absurd he (nd_ne nd0 hxy (by rw [WL0_len]; have := lnT_le (show n - 1 < 4 by omega); omega))
      · by_cases n3 : n < 4
        · refine clearM f n1 n4 hs chk1 (kept01 s hs s0) (fun hd w => ?_) (fun _ w => ⟨_, rfl, Or.inr (Or.inl ⟨⟨hh, h2⟩, by omega, rfl⟩)⟩)
          obtain ⟨x, y, hxy, hx, he⟩ := hd
          exact absurd he (ne1 hxy (by have := lnT_46 (show n - 1 < 3 by omega); omega))
        · have e4 : n = 4 := by omega
          subst e4
          refine clearM f n1 n4 hs chk1 (kept01 s hs s0) (fun _ w => ⟨_, rfl, Or.inr (Or.inr ⟨⟨hh, h2⟩, by omega, rfl⟩)⟩) (fun hd w => ?_)
          exact absurd dup1 (hd 166 106 (by decide) (by decide))
    · rw [in14] at h2
      iterate 1 (refine zv_step (bX7_clear 290) rfl rfl trivial ?_)
      refine zv_iff (by decide) ?_
      iterate 1 (refine zv_step (bX7_clear 290) rfl rfl trivial ?_)
      exact zv_iret (bX7_clear 290) rfl (Or.inl rfl) (Nat.zero_le _) (Nat.zero_le _) ⟨_, rfl, Or.inl ⟨fun q => h2 q.2, rfl⟩⟩
  · iterate 1 (refine zv_step (bX7_clear 290) rfl rfl trivial ?_)
    refine zv_ift (by decide) ?_
    iterate 1 (refine zv_step (bX7_clear 290) rfl rfl trivial ?_)
    exact zv_iret (bX7_clear 290) rfl (Or.inl rfl) (Nat.zero_le _) (Nat.zero_le _) ⟨_, rfl, Or.inl ⟨fun q => hh q.1, rfl⟩⟩
set_option maxHeartbeats 4000000 in
set_option maxRecDepth 20000 in
theorem lop_clear {b : Nat} {xs : Nat → Int32} {kc ks : Nat} (hk : kc ≤ room_1.cells ∧ ks ≤ room_1.slots) : zV (zLw b 6 xs) true 0 kc ks 659 zl0 [] w0 (fun r _ => r = some (.int 1)) := by
  repeat' (first
    | refine zv_step (bLw b 6 xs) rfl rfl trivial ?_
    | refine zv_sld rfl (by unfold vp_in; decide) ?_)
  refine zv_V2 (bLw b 6 xs) rfl rfl rfl rfl rfl rfl rfl ⟨rfl, rfl, rfl⟩ ⟨Nat.le_of_ble_eq_true rfl, Nat.le_of_ble_eq_true rfl⟩ hk (cX_clear _ _) ?_
  rintro _ w ⟨⟨a1, rfl, h1⟩, hw⟩
  repeat' (first
    | refine zv_step (bLw b 6 xs) rfl rfl trivial ?_
    | refine zv_sld rfl (by unfold vp_in; decide) ?_)
  refine zv_V2 (bLw b 6 xs) rfl rfl rfl ((hw 76 (by decide)).trans rfl) rfl rfl rfl ⟨rfl, rfl, rfl⟩ ⟨Nat.le_of_ble_eq_true rfl, Nat.le_of_ble_eq_true rfl⟩ hk (cM_clear _ _ hw) ?_
  rintro _ w' ⟨a2, rfl, h2⟩
  have ha := F_clear h1 h2
  subst ha
  refine zv_step (bLw b 6 xs) rfl rfl trivial ?_
  dsimp only
  rw [if_pos rfl]
  exact law_tail hk w'

