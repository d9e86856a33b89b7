def mkG (x k n : Int32) : Prop := (0 ≤ x.toInt ∧ x.toInt ≤ 7) ∧ (3 ≤ k.toInt ∧ k.toInt ≤ 4) ∧ (0 ≤ n.toInt ∧ n.toInt ≤ 60)
/-- what make leaves of the class, and of the reference -/
def mkC (O : Nat → Int32) (P : Nat → Nat → Int32) (x k n : Int32) (O' : Nat → Int32) (P' : Nat → Nat → Int32) : Prop := (¬ mkG x k n ∧ O' = O ∧ P' = P) ∨ ∃ s m, s < 8 ∧ m ≤ 60 ∧ x = nI s ∧ n = nI m ∧ mkG x k n ∧ O' = upd (upd O (20 + 10 * s) k) (24 + 10 * s) (nI m) ∧ (∀ j, j ≠ 60 + 2 * s → P' j = P j) ∧ ∀ j, j < 60 → P' (60 + 2 * s) j = Int32.ofInt 0
def mkM (o : Nat → Int32) (A : Nat → Nat → Int32) (x k n : Int32) (o' : Nat → Int32) (A' : Nat → Nat → Int32) : Prop := (¬ mkG x k n ∧ o' = o ∧ A' = A) ∨ ∃ s m, s < 8 ∧ m ≤ 60 ∧ x = nI s ∧ n = nI m ∧ mkG x k n ∧ shF s A A' ∧ A' 9 s = k ∧ A' 12 s = nI m ∧ ∀ i, i < m → A' 13 (60 * s + i) = Int32.ofInt 0
set_option maxHeartbeats 1000000 in
set_option maxRecDepth 20000 in
theorem cMakeY (O : Nat → Int32) (P : Nat → Nat → Int32) (Y : Nat → Nat → Int64) (g : Nat → zC) (x k n : Int32) : zK 1 zX6_make [.ref 0, .int x, .int k, .int n] (wX O P Y g) (fun r w' => ∃ (O' : Nat → Int32) (P' : Nat → Nat → Int32), r = some (.int (mkV x k n)) ∧ w' = wX O' P' Y g ∧ mkC O P x k n O' P') := by
  refine zK_of qX6_make (by decide +kernel) rfl ?_
  iterate 1 (refine zv_step (bX6_make 1) rfl rfl trivial ?_)
  refine zv_S1 (bX6_make 1) rfl rfl rfl rfl ⟨rfl, rfl, rfl⟩ ⟨by decide, by decide⟩ ⟨Nat.zero_le _, Nat.zero_le _⟩ (hX6_isShelf _ _) ?_
  rintro _ _ ⟨rfl, ⟨hx, rfl⟩ | ⟨hx, rfl⟩⟩
  · obtain ⟨s, hs, rfl⟩ := sh_of hx
    iterate 1 (refine zv_step (bX6_make 1) rfl rfl trivial ?_)
    refine zv_iff (by decide) ?_
    iterate 3 (refine zv_step (bX6_make 1) rfl rfl trivial ?_)
    refine zv_ifb (fun h9 => ?_) (fun h9 => ?_)
    · iterate 3 (refine zv_step (bX6_make 1) rfl rfl trivial ?_)
      refine zv_ifb (fun h20 => ?_) (fun h20 => ?_)
      · iterate 2 (refine zv_step (bX6_make 1) rfl rfl trivial ?_)
        refine zv_ifb (fun h26 => ?_) (fun h26 => ?_)
        · have e9 := mkV_0 hx (k34.mp (Or.inl h9)) h20 h26
          have hG : mkG (nI s) k n := ⟨hx, (k34.mp (Or.inl h9)), ge0.mp h26, le60.mp h20⟩
          obtain ⟨m, hm, rfl⟩ := n60 h20 h26
          iterate 1 (refine zv_step (bX6_make 1) rfl rfl trivial ?_)
          refine zv_getf (bX6_make 1) rfl (rfl) rfl ?_
          iterate 1 (refine zv_step (bX6_make 1) rfl rfl trivial ?_)
          refine zv_aald (bX6_make 1) rfl (Or.inl rfl) rfl (show vp_in (nI s) 8 from vp_in_nI (by omega) (by decide)) (show ([some 59, some 61, some 63, some 65, some 67, some 69, some 71, some 73] : List (Option Nat)).getD (nI s).toNatClampNeg none = some (59 + 2 * s) by rw [nI_clamp (by omega)]; exact dSs hs) ?_
          iterate 2 (refine zv_step (bX6_make 1) rfl rfl trivial ?_)
          refine zv_V2 (bX6_make 1) rfl rfl rfl (wS O P Y g hs) rfl rfl rfl ⟨rfl, rfl, rfl⟩ ⟨by decide, by decide⟩ ⟨Nat.zero_le _, Nat.zero_le _⟩ (hNoughtsX O P Y g hs _ _) ?_
          rintro _ _ ⟨rfl, P1, rfl, hP1, hD1⟩
          iterate 1 (refine zv_step (bX6_make 1) rfl rfl trivial ?_)
          exact zv_iret (bX6_make 1) rfl (Or.inl rfl) (Nat.zero_le _) (Nat.zero_le _) ⟨_, P1, congrArg (fun v => some (Value.int v)) e9, rfl, Or.inr ⟨s, m, hs, hm, rfl, rfl, hG, rfl, hP1, hD1⟩⟩
        · iterate 1 (refine zv_step (bX6_make 1) rfl rfl trivial ?_)
          exact zv_iret (bX6_make 1) rfl (Or.inl rfl) (Nat.zero_le _) (Nat.zero_le _) ⟨O, P, congrArg (fun v => some (Value.int v)) (mkV_14 hx (k34.mp (Or.inl h9)) h20 h26), rfl, Or.inl ⟨fun q => h26 (ge0.mpr q.2.2.1), rfl, rfl⟩⟩
      · iterate 1 (refine zv_step (bX6_make 1) rfl rfl trivial ?_)
        exact zv_iret (bX6_make 1) rfl (Or.inl rfl) (Nat.zero_le _) (Nat.zero_le _) ⟨O, P, congrArg (fun v => some (Value.int v)) (mkV_n h20), rfl, Or.inl ⟨fun q => h20 (le60.mpr q.2.2.2), rfl, rfl⟩⟩
    · iterate 3 (refine zv_step (bX6_make 1) rfl rfl trivial ?_)
      refine zv_ifb (fun h14 => ?_) (fun h14 => ?_)
      · iterate 1 (refine zv_step (bX6_make 1) rfl rfl trivial ?_)
        exact zv_iret (bX6_make 1) rfl (Or.inl rfl) (Nat.zero_le _) (Nat.zero_le _) ⟨O, P, congrArg (fun v => some (Value.int v)) (mkV_k (fun q => (k34.mpr q).elim h9 h14)), rfl, Or.inl ⟨fun q => (k34.mpr q.2.1).elim h9 h14, rfl, rfl⟩⟩
      · iterate 3 (refine zv_step (bX6_make 1) rfl rfl trivial ?_)
        refine zv_ifb (fun h20 => ?_) (fun h20 => ?_)
        · iterate 2 (refine zv_step (bX6_make 1) rfl rfl trivial ?_)
          refine zv_ifb (fun h26 => ?_) (fun h26 => ?_)
          · have e9 := mkV_0 hx (k34.mp (Or.inr (Decidable.not_not.mp h14))) h20 h26
            have hG : mkG (nI s) k n := ⟨hx, (k34.mp (Or.inr (Decidable.not_not.mp h14))), ge0.mp h26, le60.mp h20⟩
            obtain ⟨m, hm, rfl⟩ := n60 h20 h26
            iterate 1 (refine zv_step (bX6_make 1) rfl rfl trivial ?_)
            refine zv_getf (bX6_make 1) rfl (rfl) rfl ?_
            iterate 1 (refine zv_step (bX6_make 1) rfl rfl trivial ?_)
            refine zv_aald (bX6_make 1) rfl (Or.inl rfl) rfl (show vp_in (nI s) 8 from vp_in_nI (by omega) (by decide)) (show ([some 59, some 61, some 63, some 65, some 67, some 69, some 71, some 73] : List (Option Nat)).getD (nI s).toNatClampNeg none = some (59 + 2 * s) by rw [nI_clamp (by omega)]; exact dSs hs) ?_
            iterate 2 (refine zv_step (bX6_make 1) rfl rfl trivial ?_)
            refine zv_V2 (bX6_make 1) rfl rfl rfl (wS O P Y g hs) rfl rfl rfl ⟨rfl, rfl, rfl⟩ ⟨by decide, by decide⟩ ⟨Nat.zero_le _, Nat.zero_le _⟩ (hNoughtsX O P Y g hs _ _) ?_
            rintro _ _ ⟨rfl, P1, rfl, hP1, hD1⟩
            iterate 1 (refine zv_step (bX6_make 1) rfl rfl trivial ?_)
            exact zv_iret (bX6_make 1) rfl (Or.inl rfl) (Nat.zero_le _) (Nat.zero_le _) ⟨_, P1, congrArg (fun v => some (Value.int v)) e9, rfl, Or.inr ⟨s, m, hs, hm, rfl, rfl, hG, rfl, hP1, hD1⟩⟩
          · iterate 1 (refine zv_step (bX6_make 1) rfl rfl trivial ?_)
            exact zv_iret (bX6_make 1) rfl (Or.inl rfl) (Nat.zero_le _) (Nat.zero_le _) ⟨O, P, congrArg (fun v => some (Value.int v)) (mkV_14 hx (k34.mp (Or.inr (Decidable.not_not.mp h14))) h20 h26), rfl, Or.inl ⟨fun q => h26 (ge0.mpr q.2.2.1), rfl, rfl⟩⟩
        · iterate 1 (refine zv_step (bX6_make 1) rfl rfl trivial ?_)
          exact zv_iret (bX6_make 1) rfl (Or.inl rfl) (Nat.zero_le _) (Nat.zero_le _) ⟨O, P, congrArg (fun v => some (Value.int v)) (mkV_n h20), rfl, Or.inl ⟨fun q => h20 (le60.mpr q.2.2.2), rfl, rfl⟩⟩
  · skip
    iterate 1 (refine zv_step (bX6_make 1) rfl rfl trivial ?_)
    refine zv_ift (by decide) ?_
    iterate 1 (refine zv_step (bX6_make 1) rfl rfl trivial ?_)
    exact zv_iret (bX6_make 1) rfl (Or.inl rfl) (Nat.zero_le _) (Nat.zero_le _) ⟨O, P, congrArg (fun v => some (Value.int v)) (mkV_x hx), rfl, Or.inl ⟨fun q => hx q.1, rfl, rfl⟩⟩
set_option maxHeartbeats 1000000 in
set_option maxRecDepth 20000 in
theorem makeLX (f : Nat → zC) (o : Nat → Int32) (A : Nat → Nat → Int32) (J : Nat → Nat → Int64) {n s : Nat} (hn : n ≤ 60) (hs : s < 8) {y : Int32} {n0 : Nat} {Q : Option Value → zW → Prop} (hQ : Q (some (.int (Int32.ofInt 0))) (wR f o (updA A 13 (cpO (A 13) (fun _ => Int32.ofInt 0) (60 * s) n)) J)) : ∀ (c i : Nat), i + c = n → ∀ {x4 : Int32}, x4 = nI i → zV (zMo 2 zX7_make) false n0 0 0 53 [(4, .int x4), (0, .ref 76), (1, .int (nI s)), (2, .int y), (3, .int (nI n))] [] (wR f o (updA A 13 (cpO (A 13) (fun _ => Int32.ofInt 0) (60 * s) i)) J) Q := by
  intro c
  induction c with
  | zero =>
    intro i hc x4 e4
    subst e4
    iterate 3 (refine zv_step (bX7_make 2) rfl rfl trivial ?_)
    refine zv_ift (nI_le (by omega) (by omega)) ?_
    iterate 1 (refine zv_step (bX7_make 2) rfl rfl trivial ?_)
    obtain rfl : i = n := by omega
    exact zv_iret (bX7_make 2) rfl (Or.inl rfl) (Nat.zero_le _) (Nat.zero_le _) hQ
  | succ c ih =>
    intro i hc x4 e4
    subst e4
    iterate 3 (refine zv_step (bX7_make 2) rfl rfl trivial ?_)
    refine zv_iff (fun h => absurd ((nI_leI (by omega) (by omega)).mp h) (by omega)) ?_
    iterate 8 (refine zv_step (bX7_make 2) rfl rfl trivial ?_)
    refine zv_step (bX7_make 2) rfl rfl (show vp_in (c8 60 * nI s + nI i) 480 by rw [ix60]; exact vp_in_nI (by omega) (by decide)) ?_
    iterate 2 (refine zv_step (bX7_make 2) rfl rfl trivial ?_)
    refine zv_world (show _ = wR f o (updA A 13 (cpO (A 13) (fun _ => Int32.ofInt 0) (60 * s) (i + 1))) J from by rw [← cpO_s, ← cl60 hs (show i ≤ 60 by omega)]; rfl) ?_
    exact ih (i + 1) (by omega) (nI_1 i)
set_option maxHeartbeats 1000000 in
set_option maxRecDepth 20000 in
theorem mMakeY (f : Nat → zC) (o : Nat → Int32) (A : Nat → Nat → Int32) (J : Nat → Nat → Int64) (hS : szS A) (d y x : Int32) : zK 2 zX7_make [.ref 76, .int d, .int y, .int x] (wR f o A J) (fun r w' => ∃ (o' : Nat → Int32) (A' : Nat → Nat → Int32), r = some (.int (mkV d y x)) ∧ w' = wR f o' A' J ∧ shM o A o' A' ∧ mkM o A d y x o' A') := by
  refine zK_of qX7_make (by decide +kernel) rfl ?_
  iterate 1 (refine zv_step (bX7_make 2) rfl rfl trivial ?_)
  refine zv_S1 (bX7_make 2) rfl rfl rfl rfl ⟨rfl, rfl, rfl⟩ ⟨by decide, by decide⟩ ⟨Nat.zero_le _, Nat.zero_le _⟩ (hX7_isShelf _ _) ?_
  rintro _ _ ⟨rfl, ⟨g2, rfl⟩ | ⟨g2, rfl⟩⟩
  · obtain ⟨s, hs, rfl⟩ := in_nat (b := 7) (by decide) g2
    iterate 1 (refine zv_step (bX7_make 2) rfl rfl trivial ?_)
    refine zv_iff (by decide) ?_
    iterate 4 (refine zv_step (bX7_make 2) rfl rfl trivial ?_)
    refine zv_S3 (bX7_make 2) rfl rfl rfl rfl ⟨rfl, rfl, rfl⟩ ⟨by decide, by decide⟩ ⟨Nat.zero_le _, Nat.zero_le _⟩ (mIn _ _ _ _ (a := 3) (b := 4) (by decide) (by decide)) ?_
    rintro _ _ ⟨rfl, ⟨g3, rfl⟩ | ⟨g3, rfl⟩⟩
    · try rw [Int32.toInt_toInt64] at g3
      iterate 1 (refine zv_step (bX7_make 2) rfl rfl trivial ?_)
      refine zv_iff (by decide) ?_
      iterate 3 (refine zv_step (bX7_make 2) rfl rfl trivial ?_)
      refine zv_ifb (fun h24 => ?_) (fun h24 => ?_)
      · iterate 2 (refine zv_step (bX7_make 2) rfl rfl trivial ?_)
        refine zv_ifb (fun h30 => ?_) (fun h30 => ?_)
        · have e9 := mkV_0 g2 g3 h24 h30
          have hG : mkG (nI s) y x := ⟨g2, g3, ge0.mp h30, le60.mp h24⟩
          obtain ⟨n, hn, rfl⟩ := n60 h24 h30
          iterate 4 (refine zv_step (bX7_make 2) rfl rfl trivial ?_)
          refine zv_step (bX7_make 2) rfl rfl (show vp_in (nI s) 8 from vp_in_nI (by omega) (by decide)) ?_
          iterate 4 (refine zv_step (bX7_make 2) rfl rfl trivial ?_)
          refine zv_step (bX7_make 2) rfl rfl (show vp_in (nI s) 8 from vp_in_nI (by omega) (by decide)) ?_
          iterate 2 (refine zv_step (bX7_make 2) rfl rfl trivial ?_)
          refine zv_world (show _ = wR f o (updA (updA (updA A 9 (upd (A 9) (nI s).toNatClampNeg y)) 12 (upd (A 12) (nI s).toNatClampNeg (nI n))) 13 (cpO (A 13) (fun _ => Int32.ofInt 0) (60 * s) 0)) J from by rw [cpO_0]; rfl) ?_
          exact makeLX f o (updA (updA A 9 (upd (A 9) (nI s).toNatClampNeg y)) 12 (upd (A 12) (nI s).toNatClampNeg (nI n))) J hn (by omega) ⟨o, _, congrArg (fun v => some (Value.int v)) e9, rfl, ⟨fun _ _ => rfl, fun r a b => by rw [updA_ne _ _ (by omega), updA_ne _ _ (by omega), updA_ne _ _ (by omega)], up12 hS ⟨n, hn, rfl⟩⟩, Or.inr ⟨s, n, by omega, hn, rfl, rfl, hG, shF_of (by omega) (a9 := y) (a10 := 0) (a11 := 0) (a12 := nI n) (g := cpO (A 13) (fun _ => Int32.ofInt 0) (60 * s) n) false false true (fun j hj => cpO_out (by omega)) rfl rfl rfl rfl rfl, upd_at (by omega), upd_at (by omega), fun i hi => cpO_in (g := A 13) (s := fun _ => Int32.ofInt 0) (b := 60 * s) hi⟩⟩ n 0 (by omega) rfl
        · iterate 1 (refine zv_step (bX7_make 2) rfl rfl trivial ?_)
          exact zv_iret (bX7_make 2) rfl (Or.inl rfl) (Nat.zero_le _) (Nat.zero_le _) ⟨o, A, congrArg (fun v => some (Value.int v)) (mkV_14 g2 g3 h24 h30), rfl, shM_refl hS, Or.inl ⟨fun q => h30 (ge0.mpr q.2.2.1), rfl, rfl⟩⟩
      · iterate 1 (refine zv_step (bX7_make 2) rfl rfl trivial ?_)
        exact zv_iret (bX7_make 2) rfl (Or.inl rfl) (Nat.zero_le _) (Nat.zero_le _) ⟨o, A, congrArg (fun v => some (Value.int v)) (mkV_n h24), rfl, shM_refl hS, Or.inl ⟨fun q => h24 (le60.mpr q.2.2.2), rfl, rfl⟩⟩
    · try rw [Int32.toInt_toInt64] at g3
      iterate 1 (refine zv_step (bX7_make 2) rfl rfl trivial ?_)
      refine zv_ift (by decide) ?_
      iterate 1 (refine zv_step (bX7_make 2) rfl rfl trivial ?_)
      exact zv_iret (bX7_make 2) rfl (Or.inl rfl) (Nat.zero_le _) (Nat.zero_le _) ⟨o, A, congrArg (fun v => some (Value.int v)) (mkV_k g3), rfl, shM_refl hS, Or.inl ⟨fun q => g3 q.2.1, rfl, rfl⟩⟩
  · skip
    iterate 1 (refine zv_step (bX7_make 2) rfl rfl trivial ?_)
    refine zv_ift (by decide) ?_
    iterate 1 (refine zv_step (bX7_make 2) rfl rfl trivial ?_)
    exact zv_iret (bX7_make 2) rfl (Or.inl rfl) (Nat.zero_le _) (Nat.zero_le _) ⟨o, A, congrArg (fun v => some (Value.int v)) (mkV_x g2), rfl, shM_refl hS, Or.inl ⟨fun q => g2 q.1, rfl, rfl⟩⟩
def sp3 (i n m : Int32) : Prop := 0 ≤ i ∧ 0 ≤ n ∧ i ≤ m - n
def sh7 (x : Int32) : Prop := 0 ≤ x.toInt ∧ x.toInt ≤ 7
/-- what copy answers, by what shelves hold (H) and how long their ROWS are (L) -/
def cyR (H L : Nat → Int32) (x i y j n R : Int32) (same : Prop) (ok : Nat → Nat → Prop) : Prop :=
  (R = Int32.ofInt (-1) ∧ ¬ (sh7 x ∧ sh7 y) ∧ same) ∨ ∃ s t, s < 8 ∧ t < 8 ∧ x = nI s ∧ y = nI t ∧ (((H s = nI 0 ∨ H t = nI 0) ∧ R = c8 (-11) ∧ same) ∨ (¬ (H s = nI 0 ∨ H t = nI 0) ∧ ((¬ ((H s = nI 3 ∨ H s = nI 4) ∧ H s = H t) ∧ R = c8 (-12) ∧ same) ∨ (((H s = nI 3 ∨ H s = nI 4) ∧ H s = H t) ∧ ((¬ (sp3 i n (L s) ∧ sp3 j n (L t)) ∧ R = c8 (-13) ∧ same) ∨ ((sp3 i n (L s) ∧ sp3 j n (L t)) ∧ R = n ∧ ok s t))))))
theorem cyR_same {H L H' L' : Nat → Int32} {x i y j n R R' : Int32} {same same' : Prop} {ok ok' : Nat → Nat → Prop} (hH : ∀ s, s < 8 → H s = H' s) (hL : ∀ s, s < 8 → (H s = nI 3 ∨ H s = nI 4) → L s = L' s) (g : cyR H L x i y j n R same ok) (g' : cyR H' L' x i y j n R' same' ok') : R = R' ∧ ((same ∧ same') ∨ ∃ s t, s < 8 ∧ t < 8 ∧ (H s = nI 3 ∨ H s = nI 4) ∧ H s = H t ∧ sp3 i n (L s) ∧ sp3 j n (L t) ∧ ok s t ∧ ok' s t) := by
  have sh : ∀ s, s < 8 → sh7 (nI s) := fun s hs => by
    unfold sh7
    rw [nI_toInt (by omega)]
    omega
  rcases g with ⟨r1, q1, z1⟩ | ⟨s, t, hs, ht, ex, ey, g⟩ <;> rcases g' with ⟨r2, q2, z2⟩ | ⟨s', t', hs', ht', ex', ey', g'⟩
  · exact ⟨by rw [r1, r2], Or.inl ⟨z1, z2⟩⟩
  · exact absurd ⟨by rw [ex']; exact sh _ hs', by rw [ey']; exact sh _ ht'⟩ q1
  · exact absurd ⟨by rw [ex]; exact sh _ hs, by rw [ey]; exact sh _ ht⟩ q2
  · have es : s = s' := (nI_eq (by omega) (by omega)).mp (ex.symm.trans ex')
    have et : t = t' := (nI_eq (by omega) (by omega)).mp (ey.symm.trans ey')
    subst es
    subst et
    rw [← hH s hs, ← hH t ht] at g'
    rcases g with ⟨c1, r1, z1⟩ | ⟨c1, g⟩ <;> rcases g' with ⟨c2, r2, z2⟩ | ⟨c2, g'⟩
    · exact ⟨by rw [r1, r2], Or.inl ⟨z1, z2⟩⟩
    · exact absurd c1 c2
    · exact absurd c2 c1
    · rcases g with ⟨d1, r1, z1⟩ | ⟨d1, g⟩ <;> rcases g' with ⟨d2, r2, z2⟩ | ⟨d2, g'⟩
      · exact ⟨by rw [r1, r2], Or.inl ⟨z1, z2⟩⟩
      · exact absurd d2 d1
      · exact absurd d1 d2
      · have l1 := hL s hs d1.1
        have l2 := hL t ht (by rw [← d1.2]; exact d1.1)
        rw [← l1, ← l2] at g'
        rcases g with ⟨e1, r1, z1⟩ | ⟨e1, r1, z1⟩ <;> rcases g' with ⟨e2, r2, z2⟩ | ⟨e2, r2, z2⟩
        · exact ⟨by rw [r1, r2], Or.inl ⟨z1, z2⟩⟩
        · exact absurd e2 e1
        · exact absurd e1 e2
        · exact ⟨by rw [r1, r2], Or.inr ⟨s, t, hs, ht, d1.1, d1.2, e1.1, e1.2, z1, z2⟩⟩
theorem cyR_no {H L : Nat → Int32} {x i y j n R : Int32} {same : Prop} {ok : Nat → Nat → Prop} (h : ¬ (sh7 x ∧ sh7 y)) (e : R = Int32.ofInt (-1)) (z : same) : cyR H L x i y j n R same ok := Or.inl ⟨e, h, z⟩
set_option maxHeartbeats 1000000 in
set_option maxRecDepth 20000 in
theorem cCopyX (O : Nat → Int32) (P : Nat → Nat → Int32) (Y : Nat → Nat → Int64) (g : Nat → zC) (hsh : ∀ s, s < 8 → ∃ m : Nat, m ≤ 60 ∧ O (24 + 10 * s) = nI m) (x i y j n : Int32) : zK 1 zX6_copy [.ref 0, .int x, .int i, .int y, .int j, .int n] (wX O P Y g) (fun r w' => ∃ (P' : Nat → Nat → Int32) (R : Int32), r = some (.int R) ∧ w' = wX O P' Y g ∧ cyR (fun s => O (20 + 10 * s)) (fun s => O (24 + 10 * s)) x i y j n R (P' = P) (fun s t => P' = updA P (60 + 2 * t) (va_cpy (P (60 + 2 * s)) (P (60 + 2 * t)) i.toNatClampNeg j.toNatClampNeg n.toNatClampNeg))) := by
  refine zK_of qX6_copy (by decide +kernel) rfl ?_
  iterate 1 (refine zv_step (bX6_copy 1) rfl rfl trivial ?_)
  refine zv_S1 (bX6_copy 1) rfl rfl rfl rfl ⟨rfl, rfl, rfl⟩ ⟨by decide, by decide⟩ ⟨Nat.zero_le _, Nat.zero_le _⟩ (hX6_isShelf _ _) ?_
  rintro _ _ ⟨rfl, ⟨q1, rfl⟩ | ⟨q1, rfl⟩⟩
  · obtain ⟨s, hs, rfl⟩ := sh_of q1
    iterate 1 (refine zv_step (bX6_copy 1) rfl rfl trivial ?_)
    refine zv_iff (by decide) ?_
    iterate 1 (refine zv_step (bX6_copy 1) rfl rfl trivial ?_)
    refine zv_S1 (bX6_copy 1) rfl rfl rfl rfl ⟨rfl, rfl, rfl⟩ ⟨by decide, by decide⟩ ⟨Nat.zero_le _, Nat.zero_le _⟩ (hX6_isShelf _ _) ?_
    rintro _ _ ⟨rfl, ⟨q2, rfl⟩ | ⟨q2, rfl⟩⟩
    · obtain ⟨t, ht, rfl⟩ := sh_of q2
      iterate 1 (refine zv_step (bX6_copy 1) rfl rfl trivial ?_)
      refine zv_ift (by decide) ?_
      iterate 1 (refine zv_step (bX6_copy 1) rfl rfl trivial ?_)
      refine zv_getf (bX6_copy 1) rfl (rfl) rfl ?_
      iterate 1 (refine zv_step (bX6_copy 1) rfl rfl trivial ?_)
      refine zv_aald (bX6_copy 1) rfl (Or.inl rfl) rfl (show vp_in (nI s) 8 from vp_in_nI (by omega) (by decide)) (show ([some 59, some 61, some 63, some 65, some 67, some 69, some 71, some 73] : List (Option Nat)).getD (nI s).toNatClampNeg none = some (59 + 2 * s) by rw [nI_clamp (by omega)]; exact dSs hs) ?_
      iterate 2 (refine zv_step (bX6_copy 1) rfl rfl trivial ?_)
      refine zv_getf (bX6_copy 1) rfl (rfl) rfl ?_
      iterate 1 (refine zv_step (bX6_copy 1) rfl rfl trivial ?_)
      refine zv_aald (bX6_copy 1) rfl (Or.inl rfl) rfl (show vp_in (nI t) 8 from vp_in_nI (by omega) (by decide)) (show ([some 59, some 61, some 63, some 65, some 67, some 69, some 71, some 73] : List (Option Nat)).getD (nI t).toNatClampNeg none = some (59 + 2 * t) by rw [nI_clamp (by omega)]; exact dSs ht) ?_
      iterate 2 (refine zv_step (bX6_copy 1) rfl rfl trivial ?_)
      refine zv_getf (bX6_copy 1) rfl (wS O P Y g hs) rfl ?_
      iterate 1 (refine zv_step (bX6_copy 1) rfl rfl trivial ?_)
      refine zv_ifb (fun h37 => ?_) (fun h37 => ?_)
      · iterate 1 (refine zv_step (bX6_copy 1) rfl rfl trivial ?_)
        exact zv_iret (bX6_copy 1) rfl (Or.inl rfl) (Nat.zero_le _) (Nat.zero_le _) ⟨P, _, rfl, rfl, Or.inr ⟨s, t, hs, ht, rfl, rfl, Or.inl ⟨Or.inl h37, rfl, rfl⟩⟩⟩
      · iterate 1 (refine zv_step (bX6_copy 1) rfl rfl trivial ?_)
        refine zv_getf (bX6_copy 1) rfl (wS O P Y g ht) rfl ?_
        iterate 1 (refine zv_step (bX6_copy 1) rfl rfl trivial ?_)
        refine zv_ifb (fun h45 => ?_) (fun h45 => ?_)
        · iterate 1 (refine zv_step (bX6_copy 1) rfl rfl trivial ?_)
          refine zv_V0 (bX6_copy 1) rfl rfl rfl (wS O P Y g hs) rfl rfl rfl ⟨rfl, rfl, rfl⟩ ⟨by decide, by decide⟩ ⟨Nat.zero_le _, Nat.zero_le _⟩ (hHasRow O P Y g hs) ?_
          rintro _ _ ⟨rfl, ⟨q3, rfl⟩ | ⟨q3, rfl⟩⟩
          · skip
            iterate 1 (refine zv_step (bX6_copy 1) rfl rfl trivial ?_)
            refine zv_iff (by decide) ?_
            iterate 1 (refine zv_step (bX6_copy 1) rfl rfl trivial ?_)
            refine zv_getf (bX6_copy 1) rfl (wS O P Y g hs) rfl ?_
            iterate 1 (refine zv_step (bX6_copy 1) rfl rfl trivial ?_)
            refine zv_getf (bX6_copy 1) rfl (wS O P Y g ht) rfl ?_
            iterate 1 (refine zv_step (bX6_copy 1) rfl rfl trivial ?_)
            refine zv_ifb (fun h69 => ?_) (fun h69 => ?_)
            · iterate 3 (refine zv_step (bX6_copy 1) rfl rfl trivial ?_)
              refine zv_V2 (bX6_copy 1) rfl rfl rfl (wS O P Y g hs) rfl rfl rfl ⟨rfl, rfl, rfl⟩ ⟨by decide, by decide⟩ ⟨Nat.zero_le _, Nat.zero_le _⟩ (hHasSpan O P Y g hs _ _) ?_
              rintro _ _ ⟨rfl, ⟨q4, rfl⟩ | ⟨q4, rfl⟩⟩
              · skip
                iterate 1 (refine zv_step (bX6_copy 1) rfl rfl trivial ?_)
                refine zv_iff (by decide) ?_
                iterate 3 (refine zv_step (bX6_copy 1) rfl rfl trivial ?_)
                refine zv_V2 (bX6_copy 1) rfl rfl rfl (wS O P Y g ht) rfl rfl rfl ⟨rfl, rfl, rfl⟩ ⟨by decide, by decide⟩ ⟨Nat.zero_le _, Nat.zero_le _⟩ (hHasSpan O P Y g ht _ _) ?_
                rintro _ _ ⟨rfl, ⟨q5, rfl⟩ | ⟨q5, rfl⟩⟩
                · skip
                  iterate 1 (refine zv_step (bX6_copy 1) rfl rfl trivial ?_)
                  refine zv_ift (by decide) ?_
                  iterate 1 (refine zv_step (bX6_copy 1) rfl rfl trivial ?_)
                  refine zv_getf (bX6_copy 1) rfl (wS O P Y g hs) rfl ?_
                  iterate 2 (refine zv_step (bX6_copy 1) rfl rfl trivial ?_)
                  refine zv_getf (bX6_copy 1) rfl (wS O P Y g ht) rfl ?_
                  iterate 2 (refine zv_step (bX6_copy 1) rfl rfl trivial ?_)
                  obtain ⟨m1, hm1, e1⟩ := hsh s hs
                  obtain ⟨m2, hm2, e2⟩ := hsh t ht
                  have q4b := q4
                  have q5b := q5
                  rw [e1] at q4
                  rw [e2] at q5
                  have k4 := span_le hm1 q4
                  have k5 := span_le hm2 q5
                  refine zv_copyI (bX6_copy 1) rfl zCopyM rfl ⟨by decide, by decide⟩ (wSr O P Y g hs) (wSr O P Y g ht) k4.2.1 k5.2.1 k4.2.2 k4.1 k5.1 ?_
                  rw [wSrset O P Y g _ ht]
                  iterate 1 (refine zv_step (bX6_copy 1) rfl rfl trivial ?_)
                  exact zv_iret (bX6_copy 1) rfl (Or.inl rfl) (Nat.zero_le _) (Nat.zero_le _) ⟨_, _, rfl, rfl, Or.inr ⟨s, t, hs, ht, rfl, rfl, Or.inr ⟨(fun w => w.elim h37 h45), Or.inr ⟨⟨q3, h69⟩, Or.inr ⟨⟨q4b, q5b⟩, rfl, rfl⟩⟩⟩⟩⟩
                · skip
                  iterate 1 (refine zv_step (bX6_copy 1) rfl rfl trivial ?_)
                  refine zv_iff (by decide) ?_
                  iterate 1 (refine zv_step (bX6_copy 1) rfl rfl trivial ?_)
                  exact zv_iret (bX6_copy 1) rfl (Or.inl rfl) (Nat.zero_le _) (Nat.zero_le _) ⟨P, _, rfl, rfl, Or.inr ⟨s, t, hs, ht, rfl, rfl, Or.inr ⟨(fun w => w.elim h37 h45), Or.inr ⟨⟨q3, h69⟩, Or.inl ⟨fun w => q5 w.2, rfl, rfl⟩⟩⟩⟩⟩
              · skip
                iterate 1 (refine zv_step (bX6_copy 1) rfl rfl trivial ?_)
                refine zv_ift (by decide) ?_
                iterate 1 (refine zv_step (bX6_copy 1) rfl rfl trivial ?_)
                exact zv_iret (bX6_copy 1) rfl (Or.inl rfl) (Nat.zero_le _) (Nat.zero_le _) ⟨P, _, rfl, rfl, Or.inr ⟨s, t, hs, ht, rfl, rfl, Or.inr ⟨(fun w => w.elim h37 h45), Or.inr ⟨⟨q3, h69⟩, Or.inl ⟨fun w => q4 w.1, rfl, rfl⟩⟩⟩⟩⟩
            · iterate 1 (refine zv_step (bX6_copy 1) rfl rfl trivial ?_)
              exact zv_iret (bX6_copy 1) rfl (Or.inl rfl) (Nat.zero_le _) (Nat.zero_le _) ⟨P, _, rfl, rfl, Or.inr ⟨s, t, hs, ht, rfl, rfl, Or.inr ⟨(fun w => w.elim h37 h45), Or.inl ⟨fun w => h69 w.2, rfl, rfl⟩⟩⟩⟩
          · skip
            iterate 1 (refine zv_step (bX6_copy 1) rfl rfl trivial ?_)
            refine zv_ift (by decide) ?_
            iterate 1 (refine zv_step (bX6_copy 1) rfl rfl trivial ?_)
            exact zv_iret (bX6_copy 1) rfl (Or.inl rfl) (Nat.zero_le _) (Nat.zero_le _) ⟨P, _, rfl, rfl, Or.inr ⟨s, t, hs, ht, rfl, rfl, Or.inr ⟨(fun w => w.elim h37 h45), Or.inl ⟨fun w => q3 w.1, rfl, rfl⟩⟩⟩⟩
        · iterate 1 (refine zv_step (bX6_copy 1) rfl rfl trivial ?_)
          exact zv_iret (bX6_copy 1) rfl (Or.inl rfl) (Nat.zero_le _) (Nat.zero_le _) ⟨P, _, rfl, rfl, Or.inr ⟨s, t, hs, ht, rfl, rfl, Or.inl ⟨Or.inr (Decidable.not_not.mp h45), rfl, rfl⟩⟩⟩
    · skip
      iterate 1 (refine zv_step (bX6_copy 1) rfl rfl trivial ?_)
      refine zv_iff (by decide) ?_
      iterate 1 (refine zv_step (bX6_copy 1) rfl rfl trivial ?_)
      exact zv_iret (bX6_copy 1) rfl (Or.inl rfl) (Nat.zero_le _) (Nat.zero_le _) ⟨P, _, rfl, rfl, Or.inl ⟨rfl, fun q => q2 q.2, rfl⟩⟩
  · skip
    iterate 1 (refine zv_step (bX6_copy 1) rfl rfl trivial ?_)
    refine zv_ift (by decide) ?_
    iterate 1 (refine zv_step (bX6_copy 1) rfl rfl trivial ?_)
    exact zv_iret (bX6_copy 1) rfl (Or.inl rfl) (Nat.zero_le _) (Nat.zero_le _) ⟨P, _, rfl, rfl, Or.inl ⟨rfl, fun q => q1 q.1, rfl⟩⟩
theorem cl60b {s a i : Nat} (hs : s < 8) (h : a + i ≤ 60) : (c8 60 * nI s + nI a + nI i).toNatClampNeg = 60 * s + a + i := by
  rw [ix60, nI_add, nI_clamp (by omega)]
set_option maxHeartbeats 1000000 in
set_option maxRecDepth 20000 in
theorem copyL2X (f : Nat → zC) (o : Nat → Int32) (A : Nat → Nat → Int32) (J : Nat → Nat → Int64) {n s a t b : Nat} (hs : s < 8) (ht : t < 8) (ha : a + n ≤ 60) (hb : b + n ≤ 60) {n0 : Nat} {Q : Option Value → zW → Prop} (hQ : Q (some (.int (nI n))) (wR f o (updA A 13 (cpO (A 13) (A 15) (60 * t + b) n)) J)) : ∀ (c i : Nat), i + c = n → ∀ {x6 : Int32}, x6 = nI i → zV (zMo 2 zX7_copy) false n0 0 0 149 [(6, .int x6), (0, .ref 76), (1, .int (nI s)), (2, .int (nI a)), (3, .int (nI t)), (4, .int (nI b)), (5, .int (nI n))] [] (wR f o (updA A 13 (cpO (A 13) (A 15) (60 * t + b) i)) J) Q := by
  intro c
  induction c with
  | zero =>
    intro i hc x6 e6
    subst e6
    iterate 3 (refine zv_step (bX7_copy 2) rfl rfl trivial ?_)
    refine zv_ift (nI_le (by omega) (by omega)) ?_
    iterate 1 (refine zv_step (bX7_copy 2) rfl rfl trivial ?_)
    obtain rfl : i = n := by omega
    exact zv_iret (bX7_copy 2) rfl (Or.inl rfl) (Nat.zero_le _) (Nat.zero_le _) hQ
  | succ c ih =>
    intro i hc x6 e6
    subst e6
    iterate 3 (refine zv_step (bX7_copy 2) rfl rfl trivial ?_)
    refine zv_iff (fun h => absurd ((nI_leI (by omega) (by omega)).mp h) (by omega)) ?_
    iterate 12 (refine zv_step (bX7_copy 2) rfl rfl trivial ?_)
    refine zv_iale (bX7_copy 2) rfl rfl (vp_in_nI (by omega) (by decide)) (show A 15 (nI i).toNatClampNeg = A 15 i by rw [nI_clamp (by omega)]) ?_
    refine zv_step (bX7_copy 2) rfl rfl (show vp_in (c8 60 * nI t + nI b + nI i) 480 by rw [ix60, nI_add]; exact vp_in_nI (by omega) (by decide)) ?_
    iterate 2 (refine zv_step (bX7_copy 2) rfl rfl trivial ?_)
    refine zv_world (show _ = wR f o (updA A 13 (cpO (A 13) (A 15) (60 * t + b) (i + 1))) J from by rw [← cpO_s, ← cl60b ht (show b + i ≤ 60 by omega)]; rfl) ?_
    exact ih (i + 1) (by omega) (nI_1 i)
set_option maxHeartbeats 1000000 in
set_option maxRecDepth 20000 in
theorem copyL1X (f : Nat → zC) (o : Nat → Int32) (A : Nat → Nat → Int32) (J : Nat → Nat → Int64) {n s a t b : Nat} (hs : s < 8) (ht : t < 8) (ha : a + n ≤ 60) (hb : b + n ≤ 60) {n0 : Nat} {Q : Option Value → zW → Prop} (hQ : Q (some (.int (nI n))) (wR f o (updA (updA A 15 (cpO (A 15) (fun k => A 13 (60 * s + a + k)) 0 n)) 13 (cpO (A 13) ((updA A 15 (cpO (A 15) (fun k => A 13 (60 * s + a + k)) 0 n)) 15) (60 * t + b) n)) J)) : ∀ (c i : Nat), i + c = n → ∀ {x6 : Int32}, x6 = nI i → zV (zMo 2 zX7_copy) false n0 0 0 112 [(6, .int x6), (0, .ref 76), (1, .int (nI s)), (2, .int (nI a)), (3, .int (nI t)), (4, .int (nI b)), (5, .int (nI n))] [] (wR f o (updA A 15 (cpO (A 15) (fun k => A 13 (60 * s + a + k)) 0 i)) J) Q := by
  intro c
  induction c with
  | zero =>
    intro i hc x6 e6
    subst e6
    iterate 3 (refine zv_step (bX7_copy 2) rfl rfl trivial ?_)
    refine zv_ift (nI_le (by omega) (by omega)) ?_
    iterate 2 (refine zv_step (bX7_copy 2) rfl rfl trivial ?_)
    obtain rfl : i = n := by omega
    refine zv_world (show _ = wR f o (updA (updA A 15 (cpO (A 15) (fun k => A 13 (60 * s + a + k)) 0 i)) 13 (cpO (A 13) ((updA A 15 (cpO (A 15) (fun k => A 13 (60 * s + a + k)) 0 i)) 15) (60 * t + b) 0)) J from by rw [cpO_0]; rfl) ?_
    exact copyL2X f o (updA A 15 (cpO (A 15) (fun k => A 13 (60 * s + a + k)) 0 i)) J hs ht ha hb hQ i 0 (by omega) rfl
  | succ c ih =>
    intro i hc x6 e6
    subst e6
    iterate 3 (refine zv_step (bX7_copy 2) rfl rfl trivial ?_)
    refine zv_iff (fun h => absurd ((nI_leI (by omega) (by omega)).mp h) (by omega)) ?_
    iterate 12 (refine zv_step (bX7_copy 2) rfl rfl trivial ?_)
    refine zv_iale (bX7_copy 2) rfl rfl (show vp_in (c8 60 * nI s + nI a + nI i) 480 by rw [ix60, nI_add]; exact vp_in_nI (by omega) (by decide)) (show A 13 (c8 60 * nI s + nI a + nI i).toNatClampNeg = A 13 (60 * s + a + i) by rw [cl60b hs (show a + i ≤ 60 by omega)]) ?_
    refine zv_step (bX7_copy 2) rfl rfl (vp_in_nI (by omega) (by decide)) ?_
    iterate 2 (refine zv_step (bX7_copy 2) rfl rfl trivial ?_)
    refine zv_world (show _ = wR f o (updA A 15 (cpO (A 15) (fun k => A 13 (60 * s + a + k)) 0 (i + 1))) J from by rw [← cpO_s, show 0 + i = (nI i).toNatClampNeg by rw [nI_clamp (by omega)]; omega]; rfl) ?_
    exact ih (i + 1) (by omega) (nI_1 i)
theorem cpO_cg {g s s' : Nat → Int32} {b n : Nat} (h : ∀ k, k < n → s k = s' k) : cpO g s b n = cpO g s' b n := by
  funext j
  unfold cpO
  by_cases w : b ≤ j ∧ j < b + n
  · rw [if_pos w, if_pos w, h _ (by omega)]
  · rw [if_neg w, if_neg w]
set_option maxHeartbeats 1000000 in
set_option maxRecDepth 20000 in
theorem mCopyX (f : Nat → zC) (o : Nat → Int32) (A : Nat → Nat → Int32) (J : Nat → Nat → Int64) (hS : szS A) (hH : ∀ s, s < 8 → (A 9 s = nI 0 ∨ A 9 s = nI 1 ∨ A 9 s = nI 3 ∨ A 9 s = nI 4)) (d x e y z : Int32) : zK 2 zX7_copy [.ref 76, .int d, .int x, .int e, .int y, .int z] (wR f o A J) (fun r w' => ∃ (o' : Nat → Int32) (A' : Nat → Nat → Int32) (R : Int32), r = some (.int R) ∧ w' = wR f o' A' J ∧ shM o A o' A' ∧ cyR (A 9) (A 12) d x e y z R (A' = A) (fun s t => ∃ a b c, x = nI a ∧ y = nI b ∧ z = nI c ∧ a + c ≤ 60 ∧ b + c ≤ 60 ∧ A' 13 = cpO (A 13) (fun k => A 13 (60 * s + a + k)) (60 * t + b) c ∧ ∀ r, r ≠ 13 → r ≠ 15 → A' r = A r)) := by
  refine zK_of qX7_copy (by decide +kernel) rfl ?_
  iterate 1 (refine zv_step (bX7_copy 2) rfl rfl trivial ?_)
  refine zv_S1 (bX7_copy 2) rfl rfl rfl rfl ⟨rfl, rfl, rfl⟩ ⟨by decide, by decide⟩ ⟨Nat.zero_le _, Nat.zero_le _⟩ (hX7_isShelf _ _) ?_
  rintro _ _ ⟨rfl, ⟨g1, rfl⟩ | ⟨g1, rfl⟩⟩
  · obtain ⟨s, hs, rfl⟩ := in_nat (b := 7) (by decide) g1
    obtain ⟨m, hm, em⟩ := hS s (by omega)
    iterate 1 (refine zv_step (bX7_copy 2) rfl rfl trivial ?_)
    refine zv_iff (by decide) ?_
    iterate 1 (refine zv_step (bX7_copy 2) rfl rfl trivial ?_)
    refine zv_S1 (bX7_copy 2) rfl rfl rfl rfl ⟨rfl, rfl, rfl⟩ ⟨by decide, by decide⟩ ⟨Nat.zero_le _, Nat.zero_le _⟩ (hX7_isShelf _ _) ?_
    rintro _ _ ⟨rfl, ⟨g2, rfl⟩ | ⟨g2, rfl⟩⟩
    · obtain ⟨t, ht, rfl⟩ := in_nat (b := 7) (by decide) g2
      obtain ⟨l, hl, el⟩ := hS t (by omega)
      iterate 1 (refine zv_step (bX7_copy 2) rfl rfl trivial ?_)
      refine zv_ift (by decide) ?_
      iterate 3 (refine zv_step (bX7_copy 2) rfl rfl trivial ?_)
      refine zv_iale (bX7_copy 2) rfl rfl (show vp_in (nI s) 8 from vp_in_nI (by omega) (by decide)) (show A 9 (nI s).toNatClampNeg = A 9 s by rw [nI_clamp (by omega)]) ?_
      iterate 1 (refine zv_step (bX7_copy 2) rfl rfl trivial ?_)
      refine zv_ifb (fun h22 => ?_) (fun h22 => ?_)
      · iterate 1 (refine zv_step (bX7_copy 2) rfl rfl trivial ?_)
        exact zv_iret (bX7_copy 2) rfl (Or.inl rfl) (Nat.zero_le _) (Nat.zero_le _) ⟨o, A, _, rfl, rfl, shM_refl hS, Or.inr ⟨s, t, by omega, by omega, rfl, rfl, Or.inl ⟨Or.inl h22, rfl, rfl⟩⟩⟩
      · iterate 3 (refine zv_step (bX7_copy 2) rfl rfl trivial ?_)
        refine zv_iale (bX7_copy 2) rfl rfl (show vp_in (nI t) 8 from vp_in_nI (by omega) (by decide)) (show A 9 (nI t).toNatClampNeg = A 9 t by rw [nI_clamp (by omega)]) ?_
        iterate 1 (refine zv_step (bX7_copy 2) rfl rfl trivial ?_)
        refine zv_ifb (fun h31 => ?_) (fun h31 => ?_)
        · iterate 3 (refine zv_step (bX7_copy 2) rfl rfl trivial ?_)
          refine zv_iale (bX7_copy 2) rfl rfl (show vp_in (nI s) 8 from vp_in_nI (by omega) (by decide)) (show A 9 (nI s).toNatClampNeg = A 9 s by rw [nI_clamp (by omega)]) ?_
          iterate 2 (refine zv_step (bX7_copy 2) rfl rfl trivial ?_)
          refine zv_ifb (fun h44 => ?_) (fun h44 => ?_)
          · have q44 : ¬ (A 9 s = nI 3 ∨ A 9 s = nI 4) := fun w => w.elim (fun e => absurd (show A 9 s < Int32.ofInt 3 from h44) (by rw [e]; decide)) (fun e => absurd (show A 9 s < Int32.ofInt 3 from h44) (by rw [e]; decide))
            iterate 1 (refine zv_step (bX7_copy 2) rfl rfl trivial ?_)
            exact zv_iret (bX7_copy 2) rfl (Or.inl rfl) (Nat.zero_le _) (Nat.zero_le _) ⟨o, A, _, rfl, rfl, shM_refl hS, Or.inr ⟨s, t, by omega, by omega, rfl, rfl, Or.inr ⟨(fun w => w.elim h22 h31), Or.inl ⟨fun w => q44 w.1, rfl, rfl⟩⟩⟩⟩
          · have q44 : A 9 s = nI 3 ∨ A 9 s = nI 4 := by
              rcases hH s (by omega) with e | e | e | e
              · exact absurd e h22
              · exact absurd (show A 9 s < Int32.ofInt 3 by rw [e]; decide) h44
              · exact Or.inl e
              · exact Or.inr e
            iterate 3 (refine zv_step (bX7_copy 2) rfl rfl trivial ?_)
            refine zv_iale (bX7_copy 2) rfl rfl (show vp_in (nI s) 8 from vp_in_nI (by omega) (by decide)) (show A 9 (nI s).toNatClampNeg = A 9 s by rw [nI_clamp (by omega)]) ?_
            iterate 3 (refine zv_step (bX7_copy 2) rfl rfl trivial ?_)
            refine zv_iale (bX7_copy 2) rfl rfl (show vp_in (nI t) 8 from vp_in_nI (by omega) (by decide)) (show A 9 (nI t).toNatClampNeg = A 9 t by rw [nI_clamp (by omega)]) ?_
            iterate 1 (refine zv_step (bX7_copy 2) rfl rfl trivial ?_)
            refine zv_ifb (fun h59 => ?_) (fun h59 => ?_)
            · iterate 2 (refine zv_step (bX7_copy 2) rfl rfl trivial ?_)
              refine zv_ifb (fun h67 => ?_) (fun h67 => ?_)
              · iterate 1 (refine zv_step (bX7_copy 2) rfl rfl trivial ?_)
                exact zv_iret (bX7_copy 2) rfl (Or.inl rfl) (Nat.zero_le _) (Nat.zero_le _) ⟨o, A, _, rfl, rfl, shM_refl hS, Or.inr ⟨s, t, by omega, by omega, rfl, rfl, Or.inr ⟨(fun w => w.elim h22 h31), Or.inr ⟨⟨q44, h59⟩, Or.inl ⟨fun w => absurd h67 (Int32.not_lt.mpr w.1.2.1), rfl, rfl⟩⟩⟩⟩⟩
              · iterate 2 (refine zv_step (bX7_copy 2) rfl rfl trivial ?_)
                refine zv_ifb (fun h71 => ?_) (fun h71 => ?_)
                · iterate 1 (refine zv_step (bX7_copy 2) rfl rfl trivial ?_)
                  exact zv_iret (bX7_copy 2) rfl (Or.inl rfl) (Nat.zero_le _) (Nat.zero_le _) ⟨o, A, _, rfl, rfl, shM_refl hS, Or.inr ⟨s, t, by omega, by omega, rfl, rfl, Or.inr ⟨(fun w => w.elim h22 h31), Or.inr ⟨⟨q44, h59⟩, Or.inl ⟨fun w => absurd h71 (Int32.not_lt.mpr w.1.1), rfl, rfl⟩⟩⟩⟩⟩
                · iterate 2 (refine zv_step (bX7_copy 2) rfl rfl trivial ?_)
                  refine zv_ifb (fun h76 => ?_) (fun h76 => ?_)
                  · iterate 1 (refine zv_step (bX7_copy 2) rfl rfl trivial ?_)
                    exact zv_iret (bX7_copy 2) rfl (Or.inl rfl) (Nat.zero_le _) (Nat.zero_le _) ⟨o, A, _, rfl, rfl, shM_refl hS, Or.inr ⟨s, t, by omega, by omega, rfl, rfl, Or.inr ⟨(fun w => w.elim h22 h31), Or.inr ⟨⟨q44, h59⟩, Or.inl ⟨fun w => absurd h76 (Int32.not_lt.mpr w.2.1), rfl, rfl⟩⟩⟩⟩⟩
                  · iterate 4 (refine zv_step (bX7_copy 2) rfl rfl trivial ?_)
                    refine zv_iale (bX7_copy 2) rfl rfl (show vp_in (nI s) 8 from vp_in_nI (by omega) (by decide)) (show A 12 (nI s).toNatClampNeg = A 12 s by rw [nI_clamp (by omega)]) ?_
                    iterate 3 (refine zv_step (bX7_copy 2) rfl rfl trivial ?_)
                    refine zv_ifb (fun h89 => ?_) (fun h89 => ?_)
                    · iterate 1 (refine zv_step (bX7_copy 2) rfl rfl trivial ?_)
                      exact zv_iret (bX7_copy 2) rfl (Or.inl rfl) (Nat.zero_le _) (Nat.zero_le _) ⟨o, A, _, rfl, rfl, shM_refl hS, Or.inr ⟨s, t, by omega, by omega, rfl, rfl, Or.inr ⟨(fun w => w.elim h22 h31), Or.inr ⟨⟨q44, h59⟩, Or.inl ⟨fun w => absurd h89 (Int32.not_lt.mpr w.1.2.2), rfl, rfl⟩⟩⟩⟩⟩
                    · iterate 4 (refine zv_step (bX7_copy 2) rfl rfl trivial ?_)
                      refine zv_iale (bX7_copy 2) rfl rfl (show vp_in (nI t) 8 from vp_in_nI (by omega) (by decide)) (show A 12 (nI t).toNatClampNeg = A 12 t by rw [nI_clamp (by omega)]) ?_
                      iterate 3 (refine zv_step (bX7_copy 2) rfl rfl trivial ?_)
                      refine zv_ifb (fun h103 => ?_) (fun h103 => ?_)
                      · have q4b : sp3 x z (A 12 s) := ⟨Int32.not_lt.mp h71, Int32.not_lt.mp h67, Int32.not_lt.mp h89⟩
                        have q5b : sp3 y z (A 12 t) := ⟨Int32.not_lt.mp h76, Int32.not_lt.mp h67, h103⟩
                        obtain ⟨a, n, rfl, rfl, ha⟩ := span_ab hm h71 h67 (em ▸ Int32.not_lt.mp h89)
                        obtain ⟨b, n2, rfl, e9, hb⟩ := span_ab hl h76 h67 (el ▸ h103)
                        have hb2 : b + n ≤ 60 := by
                          have : n = n2 := (nI_eq (by omega) (by omega)).mp e9
                          omega
                        iterate 2 (refine zv_step (bX7_copy 2) rfl rfl trivial ?_)
                        refine zv_world (show _ = wR f o (updA A 15 (cpO (A 15) (fun k => A 13 (60 * s + a + k)) 0 0)) J from by rw [cpO_0]; rfl) ?_
                        exact copyL1X f o A J (by omega) (by omega) ha hb2 ⟨o, _, _, rfl, rfl, ⟨fun _ _ => rfl, fun r a b => by rw [updA_ne _ _ (by omega), updA_ne _ _ (by omega)], hS⟩, Or.inr ⟨s, t, by omega, by omega, rfl, rfl, Or.inr ⟨(fun w => w.elim h22 h31), Or.inr ⟨⟨q44, h59⟩, Or.inr ⟨⟨q4b, q5b⟩, rfl, a, b, n, rfl, rfl, rfl, ha, hb2, cpO_cg (fun k hk => by rw [updA_self]; exact (congrArg (cpO (A 15) _ 0 n) (Nat.zero_add k).symm).trans (cpO_in hk)), fun r a b => by rw [updA_ne _ _ a, updA_ne _ _ b]⟩⟩⟩⟩⟩ n 0 (by omega) rfl
                      · iterate 1 (refine zv_step (bX7_copy 2) rfl rfl trivial ?_)
                        exact zv_iret (bX7_copy 2) rfl (Or.inl rfl) (Nat.zero_le _) (Nat.zero_le _) ⟨o, A, _, rfl, rfl, shM_refl hS, Or.inr ⟨s, t, by omega, by omega, rfl, rfl, Or.inr ⟨(fun w => w.elim h22 h31), Or.inr ⟨⟨q44, h59⟩, Or.inl ⟨fun w => h103 w.2.2.2, rfl, rfl⟩⟩⟩⟩⟩
            · iterate 1 (refine zv_step (bX7_copy 2) rfl rfl trivial ?_)
              exact zv_iret (bX7_copy 2) rfl (Or.inl rfl) (Nat.zero_le _) (Nat.zero_le _) ⟨o, A, _, rfl, rfl, shM_refl hS, Or.inr ⟨s, t, by omega, by omega, rfl, rfl, Or.inr ⟨(fun w => w.elim h22 h31), Or.inl ⟨fun w => h59 w.2, rfl, rfl⟩⟩⟩⟩
        · iterate 1 (refine zv_step (bX7_copy 2) rfl rfl trivial ?_)
          exact zv_iret (bX7_copy 2) rfl (Or.inl rfl) (Nat.zero_le _) (Nat.zero_le _) ⟨o, A, _, rfl, rfl, shM_refl hS, Or.inr ⟨s, t, by omega, by omega, rfl, rfl, Or.inl ⟨Or.inr (Decidable.not_not.mp h31), rfl, rfl⟩⟩⟩
    · skip
      iterate 1 (refine zv_step (bX7_copy 2) rfl rfl trivial ?_)
      refine zv_iff (by decide) ?_
      iterate 1 (refine zv_step (bX7_copy 2) rfl rfl trivial ?_)
      exact zv_iret (bX7_copy 2) rfl (Or.inl rfl) (Nat.zero_le _) (Nat.zero_le _) ⟨o, A, _, rfl, rfl, shM_refl hS, Or.inl ⟨rfl, fun q => g2 q.2, rfl⟩⟩
  · skip
    iterate 1 (refine zv_step (bX7_copy 2) rfl rfl trivial ?_)
    refine zv_ift (by decide) ?_
    iterate 1 (refine zv_step (bX7_copy 2) rfl rfl trivial ?_)
    exact zv_iret (bX7_copy 2) rfl (Or.inl rfl) (Nat.zero_le _) (Nat.zero_le _) ⟨o, A, _, rfl, rfl, shM_refl hS, Or.inl ⟨rfl, fun q => g1 q.1, rfl⟩⟩
