def swf (x : Int32) : Nat := (((40 : Nat) : Int) + (if x.toInt < 0 ∨ 34 < x.toInt then 1540 else (#[156, 193, 242, 255, 308, 345, 382, 419, 484, 521, 570, 619, 656, 693, 730, 743, 768, 796, 865, 902, 1015, 1040, 1065, 1090, 1118, 1143, 1180, 1217, 1254, 1279, 1328, 1377, 1417, 1490, 1515] : Array Int).getD (x.toInt - 0).toNat 0)).toNat
def swp : List Nat := [196, 233, 282, 295, 348, 385, 422, 459, 524, 561, 610, 659, 696, 733, 770, 783, 808, 836, 905, 942, 1055, 1080, 1105, 1130, 1158, 1183, 1220, 1257, 1294, 1319, 1368, 1417, 1457, 1530, 1555]
theorem swk : ∀ j, j < 64 → swf (nI j) = if j < 35 then swp.getD j 0 else 1580 := by decide +kernel
set_option maxHeartbeats 4000000 in
set_option maxRecDepth 100000 in
/-- from the law's entry to its loop's head: the two objects and the long row are made -/
theorem law_start2 {b L : Nat} {xs : Nat → Int32} {Q : Option Value → zW → Prop} (k : ∀ kc ks, kc + 520 ≤ room_1.cells ∧ ks + 3120 ≤ room_1.slots → zV (zLw b L xs) true 0 kc ks 23 [(4, .int (Int32.ofInt 0)), (3, .ref 99), (2, .ref 76), (1, .ref 0), (0, .ref zsent)] [] w0 Q) : zV (zLw b L xs) true 0 0 0 0 [(0, .ref zsent)] [] [] Q := by
  refine zv_new (bLw b L xs) rfl (ci := 5) rfl zCl_RL_8 zIn5.1 zIn5.2 [.null, .null, .null, .null, .null, .null, .null, .null, .int 0] (by decide +kernel) rfl ⟨by decide, by decide, rfl, rfl, rfl⟩ (Nat.le_of_ble_eq_true rfl) (Nat.le_of_ble_eq_true rfl) ?_
  refine zv_step (bLw b L xs) rfl rfl trivial ?_
  refine zv_callI (bLw b L xs) rfl rfl (As := []) rfl rfl rfl (by decide) (Or.inr ⟨rfl, by decide, rfl, rfl⟩) ⟨Nat.le_of_ble_eq_true rfl, Nat.le_of_ble_eq_true rfl⟩ ⟨Nat.le_of_ble_eq_true rfl, Nat.le_of_ble_eq_true rfl⟩ iX (fun r w' hw => ?_)
  obtain ⟨rfl, rfl⟩ := hw
  refine zv_step (bLw b L xs) rfl rfl trivial ?_
  refine zv_new (bLw b L xs) rfl (ci := 6) rfl zCl_RL_26 zIn6.1 zIn6.2 [.int 0, .null, .null, .null, .null, .null, .null, .null, .null, .null, .int 0, .null, .null, .null, .null, .null, .int 0, .null, .int 0, .int 0, .int 0, .int 0, .null, .int 0, .null, .null, .null, .null, .int 0, .int 0, .int 0, .null, .null, .int 0, .int 0] (by decide +kernel) rfl ⟨by decide, by decide, rfl, rfl, rfl⟩ (Nat.le_of_ble_eq_true rfl) (Nat.le_of_ble_eq_true rfl) ?_
  refine zv_step (bLw b L xs) rfl rfl trivial ?_
  refine zv_callI (bLw b L xs) rfl rfl (As := []) rfl rfl rfl (by decide) (Or.inr ⟨rfl, by decide, rfl, rfl⟩) ⟨Nat.le_of_ble_eq_true rfl, Nat.le_of_ble_eq_true rfl⟩ ⟨Nat.le_of_ble_eq_true rfl, Nat.le_of_ble_eq_true rfl⟩ iM (fun r w' hw => ?_)
  obtain ⟨rfl, rfl⟩ := hw
  refine zv_step (bLw b L xs) rfl rfl trivial ?_
  refine zv_step (bLw b L xs) rfl rfl trivial ?_
  refine zv_newJ (bLw b L xs) rfl 1 (by decide) (by decide) (by decide) zAJ ⟨by decide, by decide, rfl, rfl, rfl⟩ (Nat.le_of_ble_eq_true rfl) (Nat.le_of_ble_eq_true rfl) ?_
  iterate 3 (refine zv_step (bLw b L xs) rfl rfl trivial ?_)
  exact k _ _ ⟨Nat.le_of_ble_eq_true rfl, Nat.le_of_ble_eq_true rfl⟩
set_option maxHeartbeats 4000000 in
set_option maxRecDepth 100000 in
theorem law_exit {b L : Nat} {xs : Nat → Int32} {i kc ks : Nat} (hL : L ≤ 3072) (hi : i ≤ 4000) (h : L < i + 6) (hk : kc ≤ room_1.cells ∧ ks ≤ room_1.slots) (w : zW) : zV (zLw b L xs) true 0 kc ks 23 (zlw i) [] w (fun r _ => r = some (.int 1)) := by
  iterate 2 (refine zv_step (bLw b L xs) rfl rfl trivial ?_)
  refine zv_slen rfl ?_
  iterate 3 (refine zv_step (bLw b L xs) rfl rfl trivial ?_)
  refine zv_ift (show nI L - c8 6 < nI i by rw [Int32.lt_iff_toInt_lt, Int32.toInt_sub, nI_toInt (by omega), nI_toInt (by omega), show (c8 6).toInt = 6 from rfl, Int.bmod_eq_of_le (by omega) (by omega)]; omega) ?_
  iterate 1 (refine zv_step (bLw b L xs) rfl rfl trivial ?_)
  exact zv_iret (bLw b L xs) rfl (Or.inr ⟨rfl, Or.inr rfl⟩) hk.1 hk.2 rfl
set_option maxHeartbeats 4000000 in
set_option maxRecDepth 100000 in
theorem law_one {b L : Nat} {xs : Nat → Int32} {i kc ks : Nat} (hi : i + 6 ≤ L) (hL : L ≤ 3072) (hk : kc + 1 ≤ room_1.cells ∧ ks + 6 ≤ room_1.slots) {O : Nat → Int32} {P : Nat → Nat → Int32} {Y : Nat → Nat → Int64} {o : Nat → Int32} {A : Nat → Nat → Int32} {J : Nat → Nat → Int64} (hI : LI5 O P Y o A) {Q : Option Value → zW → Prop} (kk : ∀ (kc' ks' : Nat) (O : Nat → Int32) (P : Nat → Nat → Int32) (Y : Nat → Nat → Int64) (o : Nat → Int32) (A : Nat → Nat → Int32) (J : Nat → Nat → Int64), kc' ≤ kc + 1 → ks' ≤ ks + 6 → LI5 O P Y o A → zV (zLw b L xs) true 0 kc' ks' 1580 (zlw i) [] (wX O P Y (gR o A J)) Q) : zV (zLw b L xs) true 0 kc ks 33 (zlw i) [] (wX O P Y (gR o A J)) Q := by
  iterate 2 (refine zv_step (bLw b L xs) rfl rfl trivial ?_)
  refine zv_sld rfl (show vp_in (nI i) L from vp_in_nI (by omega) (by omega)) ?_
  iterate 2 (refine zv_step (bLw b L xs) rfl rfl trivial ?_)
  obtain ⟨j, hj, hx⟩ := pk_andE (xs (nI i).toNatClampNeg) (m := (Int8.ofInt 63).toInt32) 6 (by decide +kernel)
  dsimp only
  rw [hx]
  refine zv_step (bLw b L xs) rfl rfl (by decide) ?_
  show zV (zLw b L xs) true 0 kc ks (swf (nI j)) (zlw i) [] (wX O P Y (gR o A J)) Q
  rw [swk j hj]
  by_cases h : j < 35
  · rw [if_pos h]
    match j, h with
    | 0, _ => exact lop_leaf hi hL hk hI kk
    | 1, _ => exact lop_node hi hL hk hI kk
    | 2, _ => exact lop_undo hi hL hk hI kk
    | 3, _ => exact lop_means hi hL hk hI kk
    | 4, _ => exact lop_look hi hL hk hI kk
    | 5, _ => exact lop_alike hi hL hk hI kk
    | 6, _ => exact lop_times hi hL hk hI kk
    | 7, _ => exact lop_keeps hi hL hk hI kk
    | 8, _ => exact lop_words hi hL hk hI kk
    | 9, _ => exact lop_word hi hL hk hI kk
    | 10, _ => exact lop_sound hi hL hk hI kk
    | 11, _ => exact lop_clear hi hL hk hI kk
    | 12, _ => exact lop_hear hi hL hk hI kk
    | 13, _ => exact lop_listen hi hL hk hI kk
    | 14, _ => exact lop_hush hi hL hk hI kk
    | 15, _ => exact lop_ear hi hL hk hI kk
    | 16, _ => exact lop_readings hi hL hk hI kk
    | 17, _ => exact lop_write hi hL hk hI kk
    | 18, _ => exact lop_place hi hL hk hI kk
    | 19, _ => exact lop_doubt hi hL hk hI kk
    | 20, _ => exact lop_fewest hi hL hk hI kk
    | 21, _ => exact lop_walk hi hL hk hI kk
    | 22, _ => exact lop_go hi hL hk hI kk
    | 23, _ => exact lop_where hi hL hk hI kk
    | 24, _ => exact lop_lead hi hL hk hI kk
    | 25, _ => exact lop_glance hi hL hk hI kk
    | 26, _ => exact lop_changed hi hL hk hI kk
    | 27, _ => exact lop_exchanged hi hL hk hI kk
    | 28, _ => exact lop_count hi hL hk hI kk
    | 29, _ => exact lop_keep hi hL hk hI kk
    | 30, _ => exact lop_make hi hL hk hI kk
    | 31, _ => exact lop_element hi hL hk hI kk
    | 32, _ => exact lop_copy hi hL hk hI kk
    | 33, _ => exact lop_weight hi hL hk hI kk
    | 34, _ => exact lop_toss hi hL hk hI kk
    | j + 35, h => exact absurd h (by omega)
  · rw [if_neg h]
    exact kk _ _ _ _ _ _ _ _ (Nat.le_add_right _ _) (Nat.le_add_right _ _) hI
set_option maxHeartbeats 4000000 in
set_option maxRecDepth 100000 in
theorem law_loop {b L : Nat} {xs : Nat → Int32} (hL : L ≤ 3072) : ∀ (n i kc ks : Nat) (O : Nat → Int32) (P : Nat → Nat → Int32) (Y : Nat → Nat → Int64) (o : Nat → Int32) (A : Nat → Nat → Int32) (J : Nat → Nat → Int64), L < i + 6 * n + 6 → i ≤ 3200 → kc + n ≤ room_1.cells → ks + 6 * n ≤ room_1.slots → LI5 O P Y o A → zV (zLw b L xs) true 0 kc ks 23 (zlw i) [] (wX O P Y (gR o A J)) (fun r _ => r = some (.int 1)) := by
  intro n
  induction n with
  | zero =>
    intro i kc ks O P Y o A J h hi h1 h2 hI
    exact law_exit hL (by omega) (by omega) ⟨by omega, by omega⟩ _
  | succ n ih =>
    intro i kc ks O P Y o A J h hi h1 h2 hI
    by_cases h6 : i + 6 ≤ L
    · iterate 2 (refine zv_step (bLw b L xs) rfl rfl trivial ?_)
      refine zv_slen rfl ?_
      iterate 3 (refine zv_step (bLw b L xs) rfl rfl trivial ?_)
      refine zv_iff (show ¬ nI L - c8 6 < nI i by rw [Int32.lt_iff_toInt_lt, Int32.toInt_sub, nI_toInt (by omega), nI_toInt (by omega), show (c8 6).toInt = 6 from rfl, Int.bmod_eq_of_le (by omega) (by omega)]; omega) ?_
      refine law_one h6 hL ⟨by omega, by omega⟩ hI (fun kc' ks' O P Y o A J a1 a2 hI' => ?_)
      iterate 2 (refine zv_step (bLw b L xs) rfl rfl trivial ?_)
      have hn := ih (i + 6) kc' ks' O P Y o A J (by omega) (by omega) (by omega) (by omega) hI'
      rw [show zlw (i + 6) = [(4, .int (nI i + Int32.ofInt 6)), (3, .ref 99), (2, .ref 76), (1, .ref 0), (0, .ref zsent)] by rw [show nI i + Int32.ofInt 6 = nI (i + 6) from nI_add i 6]] at hn
      exact hn
    · exact law_exit hL (by omega) (by omega) ⟨by omega, by omega⟩ _
theorem law_all {b L : Nat} {xs : Nat → Int32} (hL : L ≤ 3072) : zV (zLw b L xs) true 0 0 0 0 [(0, .ref zsent)] [] [] (fun r _ => r = some (.int 1)) := by
  refine law_start2 (fun kc ks hk => ?_)
  refine zv_world w0_X ?_
  exact law_loop hL 512 0 kc ks O00 P00 (fun _ _ => 0) o00 A00 (fun _ _ => 0) (by omega) (by omega) (by omega) (by omega) LI5_0
