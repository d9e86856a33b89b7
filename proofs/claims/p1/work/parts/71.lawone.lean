def swf (x : Int32) : Nat := (((40 : Nat) : Int) + (if x.toInt < 0 ∨ 34 < x.toInt then 1623 else (#[156, 193, 242, 255, 308, 345, 382, 419, 484, 521, 570, 619, 656, 693, 730, 743, 768, 823, 892, 930, 1043, 1068, 1093, 1118, 1174, 1199, 1236, 1273, 1310, 1335, 1384, 1433, 1500, 1573, 1598] : Array Int).getD (x.toInt - 0).toNat 0)).toNat
def swp : List Nat := [196, 233, 282, 295, 348, 385, 422, 459, 524, 561, 610, 659, 696, 733, 770, 783, 808, 863, 932, 970, 1083, 1108, 1133, 1158, 1214, 1239, 1276, 1313, 1350, 1375, 1424, 1473, 1540, 1613, 1638]
theorem swk : ∀ j, j < 64 → swf (nI j) = if j < 35 then swp.getD j 0 else 1663 := by decide +kernel
set_option maxHeartbeats 4000000 in
set_option maxRecDepth 100000 in
/-- one call, whichever it is -/
theorem law_one {b : Nat} {xs : Nat → Int32} {kc ks : Nat} (hk : kc ≤ room_1.cells ∧ ks ≤ room_1.slots) (ops : ∀ j : Nat, j < 35 → zV (zLw b 6 xs) true 0 kc ks (swp.getD j 0) zl0 [] w0 (fun r _ => r = some (.int 1))) : zV (zLw b 6 xs) true 0 kc ks 33 zl0 [] w0 (fun r _ => r = some (.int 1)) := by
  iterate 2 (refine zv_step (bLw b 6 xs) rfl rfl trivial ?_)
  refine zv_sld rfl (by unfold vp_in; decide) ?_
  iterate 2 (refine zv_step (bLw b 6 xs) rfl rfl trivial ?_)
  obtain ⟨j, hj, hx⟩ := pk_andE (xs (Int32.ofInt 0).toNatClampNeg) (m := (Int8.ofInt 63).toInt32) 6 (by decide +kernel)
  dsimp only
  rw [hx]
  refine zv_step (bLw b 6 xs) rfl rfl (by decide) ?_
  show zV (zLw b 6 xs) true 0 kc ks (swf (nI j)) zl0 [] w0 _
  rw [swk j hj]
  by_cases h : j < 35
  · rw [if_pos h]; exact ops j h
  · rw [if_neg h]; exact law_tail hk w0
set_option maxHeartbeats 4000000 in
set_option maxRecDepth 100000 in
theorem law_open {b L : Nat} {xs : Nat → Int32} (hL : L ≤ 6) (ops : ∀ (kc ks : Nat), kc ≤ room_1.cells ∧ ks ≤ room_1.slots → ∀ j : Nat, j < 35 → zV (zLw b 6 xs) true 0 kc ks (swp.getD j 0) zl0 [] w0 (fun r _ => r = some (.int 1))) : zV (zLw b L xs) true 0 0 0 0 [(0, .ref zsent)] [] [] (fun r _ => r = some (.int 1)) := by
  refine law_start (fun kc ks hk => ?_)
  iterate 2 (refine zv_step (bLw b L xs) rfl rfl trivial ?_)
  refine zv_slen rfl ?_
  iterate 3 (refine zv_step (bLw b L xs) rfl rfl trivial ?_)
  have key : ∀ n, n ≤ 6 → (n = 6 ∧ ¬ (Int32.ofNat n - (Int8.ofInt 6).toInt32 < Int32.ofInt 0)) ∨ (n < 6 ∧ Int32.ofNat n - (Int8.ofInt 6).toInt32 < Int32.ofInt 0) := by decide +kernel
  rcases key L hL with ⟨rfl, h⟩ | ⟨h0, h⟩
  · refine zv_iff h ?_
    exact law_one hk (ops kc ks hk)
  · refine zv_ift h ?_
    iterate 1 (refine zv_step (bLw b L xs) rfl rfl trivial ?_)
    exact zv_iret (bLw b L xs) rfl (Or.inr ⟨rfl, Or.inr rfl⟩) hk.1 hk.2 rfl
