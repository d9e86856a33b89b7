set_option maxHeartbeats 4000000 in
set_option maxRecDepth 100000 in
/-- from the law's entry to its loop's head: the two objects and the long row are made -/
theorem law_start {b L : Nat} {xs : Nat → Int32} {Q : Option Value → zW → Prop} (k : ∀ kc ks, kc ≤ room_1.cells ∧ ks ≤ room_1.slots → zV (zLw b L xs) true 0 kc ks 23 zl0 [] w0 Q) : zV (zLw b L xs) true 0 0 0 0 [(0, .ref zsent)] [] [] Q := by
  refine zv_new (bLw b L xs) rfl (ci := 5) rfl zCl_RL_8 zIn5.1 zIn5.2 [.null, .null, .null, .null, .null, .null, .null, .null, .int 0] (by decide +kernel) rfl ⟨by decide, by decide, rfl, rfl, rfl⟩ (Nat.le_of_ble_eq_true rfl) (Nat.le_of_ble_eq_true rfl) ?_
  refine zv_step (bLw b L xs) rfl rfl trivial ?_
  refine zv_callI (bLw b L xs) rfl rfl (As := []) rfl rfl rfl (by decide) (Or.inr ⟨rfl, by decide, rfl, rfl⟩) ⟨Nat.le_of_ble_eq_true rfl, Nat.le_of_ble_eq_true rfl⟩ ⟨Nat.le_of_ble_eq_true rfl, Nat.le_of_ble_eq_true rfl⟩ iX (fun r w' hw => ?_)
  obtain ⟨rfl, rfl⟩ := hw
  refine zv_step (bLw b L xs) rfl rfl trivial ?_
  refine zv_new (bLw b L xs) rfl (ci := 6) rfl zCl_RL_26 zIn6.1 zIn6.2 [.int 0, .null, .null, .null, .null, .null, .null, .null, .null, .null, .int 0, .null, .null, .null, .null, .null, .int 0, .null, .int 0, .int 0, .int 0, .int 0, .null, .int 0, .null, .null, .null, .null, .int 0, .int 0, .int 0, .null, .null, .int 0, .int 0] (by decide +kernel) rfl ⟨by decide, by decide, rfl, rfl, rfl⟩ (Nat.le_of_ble_eq_true rfl) (Nat.le_of_ble_eq_true rfl) ?_
  refine zv_step (bLw b L xs) rfl rfl trivial ?_
  refine zv_callI (bLw b L xs) rfl rfl (As := []) rfl rfl rfl (by decide) (Or.inr ⟨rfl, by decide, rfl, rfl⟩) ⟨Nat.le_of_ble_eq_true rfl, Nat.le_of_ble_eq_true rfl⟩ ⟨Nat.le_of_ble_eq_true rfl, Nat.le_of_ble_eq_true rfl⟩ iM (fun r w' hw => ?_)
  obtain ⟨rfl, rfl⟩ := hw
  refine zv_step (bLw b L xs) rfl rfl trivial ?_
  refine zv_step (bLw b L xs) rfl rfl trivial ?_
  refine zv_newJ (bLw b L xs) rfl 1 (by decide) (by decide) (by decide) zAJ ⟨by decide, by decide, rfl, rfl, rfl⟩ (Nat.le_of_ble_eq_true rfl) (Nat.le_of_ble_eq_true rfl) ?_
  iterate 3 (refine zv_step (bLw b L xs) rfl rfl trivial ?_)
  exact k _ _ ⟨Nat.le_of_ble_eq_true rfl, Nat.le_of_ble_eq_true rfl⟩
