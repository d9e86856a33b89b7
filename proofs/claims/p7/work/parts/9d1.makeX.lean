def mkV (x k n : Int32) : Int32 := if (0 ≤ x.toInt ∧ x.toInt ≤ 7) ∧ (3 ≤ k.toInt ∧ k.toInt ≤ 4) ∧ n.toInt ≤ 60 then (if n.toInt < 0 then c8 (-14) else Int32.ofInt 0) else Int32.ofInt (-1)
theorem mkV_x {x k n : Int32} (h : ¬ (0 ≤ x.toInt ∧ x.toInt ≤ 7)) : Int32.ofInt (-1) = mkV x k n := (if_neg (fun q => h q.1)).symm
theorem mkV_k {x k n : Int32} (h : ¬ (3 ≤ k.toInt ∧ k.toInt ≤ 4)) : Int32.ofInt (-1) = mkV x k n := (if_neg (fun q => h q.2.1)).symm
theorem le60 {n : Int32} : n ≤ c8 60 ↔ n.toInt ≤ 60 := by rw [Int32.le_iff_toInt_le, show (c8 60).toInt = 60 from rfl]
theorem mkV_n {x k n : Int32} (h : ¬ n ≤ c8 60) : Int32.ofInt (-1) = mkV x k n := (if_neg (fun q => h (le60.mpr q.2.2))).symm
theorem ge0 {n : Int32} : 0 ≤ n ↔ 0 ≤ n.toInt := by rw [Int32.le_iff_toInt_le, Int32.toInt_zero]
theorem mkV_14 {x k n : Int32} (h1 : 0 ≤ x.toInt ∧ x.toInt ≤ 7) (h2 : 3 ≤ k.toInt ∧ k.toInt ≤ 4) (h3 : n ≤ c8 60) (h4 : ¬ 0 ≤ n) : c8 (-14) = mkV x k n := by
  unfold mkV
  rw [if_pos ⟨h1, h2, le60.mp h3⟩, if_pos (by rw [ge0] at h4; omega)]
theorem mkV_0 {x k n : Int32} (h1 : 0 ≤ x.toInt ∧ x.toInt ≤ 7) (h2 : 3 ≤ k.toInt ∧ k.toInt ≤ 4) (h3 : n ≤ c8 60) (h4 : 0 ≤ n) : Int32.ofInt 0 = mkV x k n := by
  unfold mkV
  rw [if_pos ⟨h1, h2, le60.mp h3⟩, if_neg (by rw [ge0] at h4; omega)]
theorem k34 {k : Int32} : (k = Int32.ofInt 3 ∨ k = Int32.ofInt 4) ↔ (3 ≤ k.toInt ∧ k.toInt ≤ 4) := by
  constructor
  · rintro (rfl | rfl) <;> decide
  · intro h
    have : k.toInt = 3 ∨ k.toInt = 4 := by omega
    rcases this with e | e
    · exact Or.inl (Int32.toInt_inj.mp (e.trans (by decide)))
    · exact Or.inr (Int32.toInt_inj.mp (e.trans (by decide)))
theorem n60 {n : Int32} (h3 : n ≤ c8 60) (h4 : 0 ≤ n) : ∃ m : Nat, m ≤ 60 ∧ n = nI m := by
  rw [le60] at h3
  rw [ge0] at h4
  refine ⟨n.toInt.toNat, by omega, ?_⟩
  rw [← Int32.toInt_inj, nI_toInt (by omega)]
  omega
set_option maxHeartbeats 1000000 in
set_option maxRecDepth 20000 in
theorem cMakeX (O : Nat → Int32) (P : Nat → Nat → Int32) (Y : Nat → Nat → Int64) (g : Nat → zC) (x k n : Int32) : zK 1 zX6_make [.ref 0, .int x, .int k, .int n] (wX O P Y g) (fun r w' => r = some (.int (mkV x k n)) ∧ (w' = wX O P Y g ∨ ∃ (s : Nat) (a : Int32) (m : Nat) (P' : Nat → Nat → Int32), s < 8 ∧ m ≤ 60 ∧ w' = wX (upd (upd O (20 + 10 * s) a) (24 + 10 * s) (nI m)) P' Y g ∧ ∀ j, j ≠ 60 + 2 * s → P' j = P j)) := by
  refine zK_of qX6_make (by decide +kernel) rfl ?_
  iterate 1 (refine zv_step (bX6_make 1) rfl rfl trivial ?_)
  refine zv_S1 (bX6_make 1) rfl rfl rfl rfl ⟨rfl, rfl, rfl⟩ ⟨by decide, by decide⟩ ⟨Nat.zero_le _, Nat.zero_le _⟩ (hX6_isShelf _ _) ?_
  rintro _ _ ⟨rfl, ⟨hx, rfl⟩ | ⟨hx, rfl⟩⟩
  · obtain ⟨s, hs, rfl⟩ := sh_of hx
    iterate 1 (refine zv_step (bX6_make 1) rfl rfl trivial ?_)
    refine zv_iff (by decide) ?_
    iterate 3 (refine zv_step (bX6_make 1) rfl rfl trivial ?_)
    refine zv_ifb (fun h9 => ?_) (fun h9 => ?_)
    · iterate 3 (refine zv_step (bX6_make 1) rfl rfl trivial ?_)
      refine zv_ifb (fun h20 => ?_) (fun h20 => ?_)
      · iterate 2 (refine zv_step (bX6_make 1) rfl rfl trivial ?_)
        refine zv_ifb (fun h26 => ?_) (fun h26 => ?_)
        · have e9 := mkV_0 hx (k34.mp (Or.inl h9)) h20 h26
          obtain ⟨m, hm, rfl⟩ := n60 h20 h26
          iterate 1 (refine zv_step (bX6_make 1) rfl rfl trivial ?_)
          refine zv_getf (bX6_make 1) rfl (rfl) rfl ?_
          iterate 1 (refine zv_step (bX6_make 1) rfl rfl trivial ?_)
          refine zv_aald (bX6_make 1) rfl (Or.inl rfl) rfl (show vp_in (nI s) 8 from vp_in_nI (by omega) (by decide)) (show ([some 59, some 61, some 63, some 65, some 67, some 69, some 71, some 73] : List (Option Nat)).getD (nI s).toNatClampNeg none = some (59 + 2 * s) by rw [nI_clamp (by omega)]; exact dSs hs) ?_
          iterate 2 (refine zv_step (bX6_make 1) rfl rfl trivial ?_)
          refine zv_V2 (bX6_make 1) rfl rfl rfl (wS O P Y g hs) rfl rfl rfl ⟨rfl, rfl, rfl⟩ ⟨by decide, by decide⟩ ⟨Nat.zero_le _, Nat.zero_le _⟩ (hNoughts O P Y g hs _ _) ?_
          rintro _ _ ⟨rfl, P1, rfl, hP1⟩
          iterate 1 (refine zv_step (bX6_make 1) rfl rfl trivial ?_)
          exact zv_iret (bX6_make 1) rfl (Or.inl rfl) (Nat.zero_le _) (Nat.zero_le _) ⟨congrArg (fun v => some (Value.int v)) e9, Or.inr ⟨s, _, m, P1, hs, hm, rfl, hP1⟩⟩
        · iterate 1 (refine zv_step (bX6_make 1) rfl rfl trivial ?_)
          exact zv_iret (bX6_make 1) rfl (Or.inl rfl) (Nat.zero_le _) (Nat.zero_le _) ⟨congrArg (fun v => some (Value.int v)) (mkV_14 hx (k34.mp (Or.inl h9)) h20 h26), Or.inl rfl⟩
      · iterate 1 (refine zv_step (bX6_make 1) rfl rfl trivial ?_)
        exact zv_iret (bX6_make 1) rfl (Or.inl rfl) (Nat.zero_le _) (Nat.zero_le _) ⟨congrArg (fun v => some (Value.int v)) (mkV_n h20), Or.inl rfl⟩
    · iterate 3 (refine zv_step (bX6_make 1) rfl rfl trivial ?_)
      refine zv_ifb (fun h14 => ?_) (fun h14 => ?_)
      · iterate 1 (refine zv_step (bX6_make 1) rfl rfl trivial ?_)
        exact zv_iret (bX6_make 1) rfl (Or.inl rfl) (Nat.zero_le _) (Nat.zero_le _) ⟨congrArg (fun v => some (Value.int v)) (mkV_k (fun q => (k34.mpr q).elim h9 h14)), Or.inl rfl⟩
      · iterate 3 (refine zv_step (bX6_make 1) rfl rfl trivial ?_)
        refine zv_ifb (fun h20 => ?_) (fun h20 => ?_)
        · iterate 2 (refine zv_step (bX6_make 1) rfl rfl trivial ?_)
          refine zv_ifb (fun h26 => ?_) (fun h26 => ?_)
          · have e9 := mkV_0 hx (k34.mp (Or.inr (Decidable.not_not.mp h14))) h20 h26
            obtain ⟨m, hm, rfl⟩ := n60 h20 h26
            iterate 1 (refine zv_step (bX6_make 1) rfl rfl trivial ?_)
            refine zv_getf (bX6_make 1) rfl (rfl) rfl ?_
            iterate 1 (refine zv_step (bX6_make 1) rfl rfl trivial ?_)
            refine zv_aald (bX6_make 1) rfl (Or.inl rfl) rfl (show vp_in (nI s) 8 from vp_in_nI (by omega) (by decide)) (show ([some 59, some 61, some 63, some 65, some 67, some 69, some 71, some 73] : List (Option Nat)).getD (nI s).toNatClampNeg none = some (59 + 2 * s) by rw [nI_clamp (by omega)]; exact dSs hs) ?_
            iterate 2 (refine zv_step (bX6_make 1) rfl rfl trivial ?_)
            refine zv_V2 (bX6_make 1) rfl rfl rfl (wS O P Y g hs) rfl rfl rfl ⟨rfl, rfl, rfl⟩ ⟨by decide, by decide⟩ ⟨Nat.zero_le _, Nat.zero_le _⟩ (hNoughts O P Y g hs _ _) ?_
            rintro _ _ ⟨rfl, P1, rfl, hP1⟩
            iterate 1 (refine zv_step (bX6_make 1) rfl rfl trivial ?_)
            exact zv_iret (bX6_make 1) rfl (Or.inl rfl) (Nat.zero_le _) (Nat.zero_le _) ⟨congrArg (fun v => some (Value.int v)) e9, Or.inr ⟨s, _, m, P1, hs, hm, rfl, hP1⟩⟩
          · iterate 1 (refine zv_step (bX6_make 1) rfl rfl trivial ?_)
            exact zv_iret (bX6_make 1) rfl (Or.inl rfl) (Nat.zero_le _) (Nat.zero_le _) ⟨congrArg (fun v => some (Value.int v)) (mkV_14 hx (k34.mp (Or.inr (Decidable.not_not.mp h14))) h20 h26), Or.inl rfl⟩
        · iterate 1 (refine zv_step (bX6_make 1) rfl rfl trivial ?_)
          exact zv_iret (bX6_make 1) rfl (Or.inl rfl) (Nat.zero_le _) (Nat.zero_le _) ⟨congrArg (fun v => some (Value.int v)) (mkV_n h20), Or.inl rfl⟩
  · skip
    iterate 1 (refine zv_step (bX6_make 1) rfl rfl trivial ?_)
    refine zv_ift (by decide) ?_
    iterate 1 (refine zv_step (bX6_make 1) rfl rfl trivial ?_)
    exact zv_iret (bX6_make 1) rfl (Or.inl rfl) (Nat.zero_le _) (Nat.zero_le _) ⟨congrArg (fun v => some (Value.int v)) (mkV_x hx), Or.inl rfl⟩
set_option maxHeartbeats 1000000 in
set_option maxRecDepth 20000 in
theorem mMakeX (f : Nat → zC) (o : Nat → Int32) (A : Nat → Nat → Int32) (J : Nat → Nat → Int64) (hS : szS A) (d y x : Int32) : zK 2 zX7_make [.ref 76, .int d, .int y, .int x] (wR f o A J) (fun r w' => ∃ (o' : Nat → Int32) (A' : Nat → Nat → Int32), r = some (.int (mkV d y x)) ∧ w' = wR f o' A' J ∧ shM o A o' A') := by
  refine zK_of qX7_make (by decide +kernel) rfl ?_
  iterate 1 (refine zv_step (bX7_make 2) rfl rfl trivial ?_)
  refine zv_S1 (bX7_make 2) rfl rfl rfl rfl ⟨rfl, rfl, rfl⟩ ⟨by decide, by decide⟩ ⟨Nat.zero_le _, Nat.zero_le _⟩ (hX7_isShelf _ _) ?_
  rintro _ _ ⟨rfl, ⟨g2, rfl⟩ | ⟨g2, rfl⟩⟩
  · obtain ⟨s, hs, rfl⟩ := in_nat (b := 7) (by decide) g2
    iterate 1 (refine zv_step (bX7_make 2) rfl rfl trivial ?_)
    refine zv_iff (by decide) ?_
    iterate 4 (refine zv_step (bX7_make 2) rfl rfl trivial ?_)
    refine zv_S3 (bX7_make 2) rfl rfl rfl rfl ⟨rfl, rfl, rfl⟩ ⟨by decide, by decide⟩ ⟨Nat.zero_le _, Nat.zero_le _⟩ (mIn _ _ _ _ (a := 3) (b := 4) (by decide) (by decide)) ?_
    rintro _ _ ⟨rfl, ⟨g3, rfl⟩ | ⟨g3, rfl⟩⟩
    · try rw [Int32.toInt_toInt64] at g3
      iterate 1 (refine zv_step (bX7_make 2) rfl rfl trivial ?_)
      refine zv_iff (by decide) ?_
      iterate 3 (refine zv_step (bX7_make 2) rfl rfl trivial ?_)
      refine zv_ifb (fun h24 => ?_) (fun h24 => ?_)
      · iterate 2 (refine zv_step (bX7_make 2) rfl rfl trivial ?_)
        refine zv_ifb (fun h30 => ?_) (fun h30 => ?_)
        · have e9 := mkV_0 g2 g3 h24 h30
          obtain ⟨n, hn, rfl⟩ := n60 h24 h30
          iterate 4 (refine zv_step (bX7_make 2) rfl rfl trivial ?_)
          refine zv_step (bX7_make 2) rfl rfl (show vp_in (nI s) 8 from vp_in_nI (by omega) (by decide)) ?_
          iterate 4 (refine zv_step (bX7_make 2) rfl rfl trivial ?_)
          refine zv_step (bX7_make 2) rfl rfl (show vp_in (nI s) 8 from vp_in_nI (by omega) (by decide)) ?_
          iterate 2 (refine zv_step (bX7_make 2) rfl rfl trivial ?_)
          refine zv_world (show _ = wR f o (updA (updA (updA A 9 (upd (A 9) (nI s).toNatClampNeg y)) 12 (upd (A 12) (nI s).toNatClampNeg (nI n))) 13 (A 13)) J from rfl) ?_
          exact makeL f o _ J hn (by omega) (fun g => ⟨o, _, congrArg (fun v => some (Value.int v)) e9, rfl, fun _ _ => rfl, fun r a b => by rw [updA_ne _ _ (by omega), updA_ne _ _ (by omega), updA_ne _ _ (by omega)], up12 hS ⟨n, hn, rfl⟩⟩) n 0 (A 13) (by omega) rfl
        · iterate 1 (refine zv_step (bX7_make 2) rfl rfl trivial ?_)
          exact zv_iret (bX7_make 2) rfl (Or.inl rfl) (Nat.zero_le _) (Nat.zero_le _) ⟨o, A, congrArg (fun v => some (Value.int v)) (mkV_14 g2 g3 h24 h30), rfl, shM_refl hS⟩
      · iterate 1 (refine zv_step (bX7_make 2) rfl rfl trivial ?_)
        exact zv_iret (bX7_make 2) rfl (Or.inl rfl) (Nat.zero_le _) (Nat.zero_le _) ⟨o, A, congrArg (fun v => some (Value.int v)) (mkV_n h24), rfl, shM_refl hS⟩
    · try rw [Int32.toInt_toInt64] at g3
      iterate 1 (refine zv_step (bX7_make 2) rfl rfl trivial ?_)
      refine zv_ift (by decide) ?_
      iterate 1 (refine zv_step (bX7_make 2) rfl rfl trivial ?_)
      exact zv_iret (bX7_make 2) rfl (Or.inl rfl) (Nat.zero_le _) (Nat.zero_le _) ⟨o, A, congrArg (fun v => some (Value.int v)) (mkV_k g3), rfl, shM_refl hS⟩
  · skip
    iterate 1 (refine zv_step (bX7_make 2) rfl rfl trivial ?_)
    refine zv_ift (by decide) ?_
    iterate 1 (refine zv_step (bX7_make 2) rfl rfl trivial ?_)
    exact zv_iret (bX7_make 2) rfl (Or.inl rfl) (Nat.zero_le _) (Nat.zero_le _) ⟨o, A, congrArg (fun v => some (Value.int v)) (mkV_x g2), rfl, shM_refl hS⟩
