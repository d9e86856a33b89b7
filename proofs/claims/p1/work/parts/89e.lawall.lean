set_option maxHeartbeats 4000000 in
set_option maxRecDepth 100000 in
/-- from the law's entry to its loop's head: the two objects and the long row are made -/
theorem law_start2 {b L : Nat} {xs : Nat → Int32} {Q : Option Value → zW → Prop} (k : ∀ kc ks, kc + 1 ≤ room_1.cells ∧ ks + 6 ≤ room_1.slots → zV (zLw b L xs) true 0 kc ks 23 zl0 [] w0 Q) : zV (zLw b L xs) true 0 0 0 0 [(0, .ref zsent)] [] [] Q := by
  refine zv_new (bLw b L xs) rfl (ci := 5) rfl zCl_RL_8 zIn5.1 zIn5.2 [.null, .null, .null, .null, .null, .null, .null, .null, .int 0] (by decide +kernel) rfl ⟨by decide, by decide, rfl, rfl, rfl⟩ (Nat.le_of_ble_eq_true rfl) (Nat.le_of_ble_eq_true rfl) ?_
  refine zv_step (bLw b L xs) rfl rfl trivial ?_
  refine zv_callI (bLw b L xs) rfl rfl (As := []) rfl rfl rfl (by decide) (Or.inr ⟨rfl, by decide, rfl, rfl⟩) ⟨Nat.le_of_ble_eq_true rfl, Nat.le_of_ble_eq_true rfl⟩ ⟨Nat.le_of_ble_eq_true rfl, Nat.le_of_ble_eq_true rfl⟩ iX (fun r w' hw => ?_)
  obtain ⟨rfl, rfl⟩ := hw
  refine zv_step (bLw b L xs) rfl rfl trivial ?_
  refine zv_new (bLw b L xs) rfl (ci := 6) rfl zCl_RL_26 zIn6.1 zIn6.2 [.int 0, .null, .null, .null, .null, .null, .null, .null, .null, .null, .int 0, .null, .null, .null, .null, .null, .int 0, .null, .int 0, .int 0, .int 0, .int 0, .null, .int 0, .null, .null, .null, .null, .int 0, .int 0, .int 0, .null, .null, .int 0, .int 0] (by decide +kernel) rfl ⟨by decide, by decide, rfl, rfl, rfl⟩ (Nat.le_of_ble_eq_true rfl) (Nat.le_of_ble_eq_true rfl) ?_
  refine zv_step (bLw b L xs) rfl rfl trivial ?_
  refine zv_callI (bLw b L xs) rfl rfl (As := []) rfl rfl rfl (by decide) (Or.inr ⟨rfl, by decide, rfl, rfl⟩) ⟨Nat.le_of_ble_eq_true rfl, Nat.le_of_ble_eq_true rfl⟩ ⟨Nat.le_of_ble_eq_true rfl, Nat.le_of_ble_eq_true rfl⟩ iM (fun r w' hw => ?_)
  obtain ⟨rfl, rfl⟩ := hw
  refine zv_step (bLw b L xs) rfl rfl trivial ?_
  refine zv_step (bLw b L xs) rfl rfl trivial ?_
  refine zv_newJ (bLw b L xs) rfl 1 (by decide) (by decide) (by decide) zAJ ⟨by decide, by decide, rfl, rfl, rfl⟩ (Nat.le_of_ble_eq_true rfl) (Nat.le_of_ble_eq_true rfl) ?_
  iterate 3 (refine zv_step (bLw b L xs) rfl rfl trivial ?_)
  exact k _ _ ⟨Nat.le_of_ble_eq_true rfl, Nat.le_of_ble_eq_true rfl⟩

set_option maxHeartbeats 4000000 in
set_option maxRecDepth 100000 in
theorem law_all {b L : Nat} {xs : Nat → Int32} (hL : L ≤ 6) : zV (zLw b L xs) true 0 0 0 0 [(0, .ref zsent)] [] [] (fun r _ => r = some (.int 1)) := by
  refine law_start2 (fun kc ks hk => ?_)
  have hk1 : kc ≤ room_1.cells ∧ ks ≤ room_1.slots := ⟨Nat.le_of_succ_le hk.1, Nat.le_trans (Nat.le_add_right ks 6) hk.2⟩
  iterate 2 (refine zv_step (bLw b L xs) rfl rfl trivial ?_)
  refine zv_slen rfl ?_
  iterate 3 (refine zv_step (bLw b L xs) rfl rfl trivial ?_)
  have key : ∀ n, n ≤ 6 → (n = 6 ∧ ¬ (Int32.ofNat n - (Int8.ofInt 6).toInt32 < Int32.ofInt 0)) ∨ (n < 6 ∧ Int32.ofNat n - (Int8.ofInt 6).toInt32 < Int32.ofInt 0) := by decide +kernel
  rcases key L hL with ⟨rfl, h⟩ | ⟨h0, h⟩
  · refine zv_iff h ?_
    refine law_one hk1 (fun j hj => ?_)
    match j, hj with
    | 0, _ => exact lop_leaf hk1
    | 1, _ => exact lop_node hk1
    | 2, _ => exact lop_undo hk1
    | 3, _ => exact lop_means hk1
    | 4, _ => exact lop_look hk1
    | 5, _ => exact lop_alike hk1
    | 6, _ => exact lop_times hk1
    | 7, _ => exact lop_keeps hk1
    | 8, _ => exact lop_words hk1
    | 9, _ => exact lop_word hk1
    | 10, _ => exact lop_sound hk1
    | 11, _ => exact lop_clear hk1
    | 12, _ => exact lop_hear hk1
    | 13, _ => exact lop_listen hk1
    | 14, _ => exact lop_hush hk1
    | 15, _ => exact lop_ear hk1
    | 16, _ => exact lop_readings hk
    | 17, _ => exact lop_write hk1
    | 18, _ => exact lop_place hk1
    | 19, _ => exact lop_doubt hk1
    | 20, _ => exact lop_fewest hk1
    | 21, _ => exact lop_walk hk1
    | 22, _ => exact lop_go hk1
    | 23, _ => exact lop_where hk
    | 24, _ => exact lop_lead hk1
    | 25, _ => exact lop_glance hk1
    | 26, _ => exact lop_changed hk1
    | 27, _ => exact lop_exchanged hk1
    | 28, _ => exact lop_count hk1
    | 29, _ => exact lop_keep hk1
    | 30, _ => exact lop_make hk1
    | 31, _ => exact lop_element hk
    | 32, _ => exact lop_copy hk1
    | 33, _ => exact lop_weight hk1
    | 34, _ => exact lop_toss hk1
    | n + 35, h => exact absurd h (by omega)
  · refine zv_ift h ?_
    iterate 1 (refine zv_step (bLw b L xs) rfl rfl trivial ?_)
    exact zv_iret (bLw b L xs) rfl (Or.inr ⟨rfl, Or.inr rfl⟩) hk1.1 hk1.2 rfl
