abbrev tQIX (O : Nat → Int32) (P : Nat → Nat → Int32) (Y : Nat → Nat → Int64) (o : Nat → Int32) (A : Nat → Nat → Int32) (J : Nat → Nat → Int64) (d : Nat) (x : Int32) : Option Value → zW → Prop := fun r w' => ∃ R : Int32, r = some (.int R) ∧ whR (O 13 = 1) d (P 56 d) (anW (P 57) d (Int32.ofInt 0)) x false R ∧ w' = (wX O P Y (gR o A J))
abbrev tXSX (O : Nat → Int32) (P : Nat → Nat → Int32) (Y : Nat → Nat → Int64) (o : Nat → Int32) (A : Nat → Nat → Int32) (J : Nat → Nat → Int64) (d : Nat) (x : Int32) : String → zW → Prop := fun E w' => E = "java/lang/IllegalStateException" ∧ whR (O 13 = 1) d (P 56 d) (anW (P 57) d (Int32.ofInt 0)) x true 0 ∧ w' = (wX O P Y (gR o A J))
theorem bxWX (O : Nat → Int32) (P : Nat → Nat → Int32) (Y : Nat → Nat → Int64) (o : Nat → Int32) (A : Nat → Nat → Int32) (J : Nat → Nat → Int64) (d : Nat) (x : Int32) (n : Nat) : zTb (zMx 7 zX6_where (tXSX O P Y o A J d x) (tQIX O P Y o A J d x) n) tX6_where := ⟨fRX6, gRX6, oX6_where⟩
set_option maxHeartbeats 1000000 in
set_option maxRecDepth 20000 in
theorem tWhereX (O : Nat → Int32) (P : Nat → Nat → Int32) (Y : Nat → Nat → Int64) (o : Nat → Int32) (A : Nat → Nat → Int32) (J : Nat → Nat → Int64) {d : Nat} (hd : d < 40) (h14 : O 14 = nI d) (hb : O 13 = 0 ∨ O 13 = 1) (x : Int32) : zKt 7 zX6_where [.ref 0, .int x] (wX O P Y (gR o A J)) (tQIX O P Y o A J d x) (tXSX O P Y o A J d x) := by
  refine zKt_of (by decide +kernel) rfl ?_
  iterate 2 (refine zv_step (bxWX O P Y o A J d _ _) rfl rfl trivial ?_)
  refine zv_ifb (fun h1 => ?_) (fun h1 => ?_)
  · iterate 1 (refine zv_step (bxWX O P Y o A J d _ _) rfl rfl trivial ?_)
    exact zv_iret (bxWX O P Y o A J d _ _) rfl (Or.inl rfl) (Nat.zero_le _) (Nat.zero_le _) ⟨_, rfl, Or.inl ⟨fun q => by have h9 := er_0.mp h1; omega, rfl, rfl⟩, rfl⟩
  · have h1a : ¬ x < 0 := h1
    iterate 3 (refine zv_step (bxWX O P Y o A J d _ _) rfl rfl trivial ?_)
    refine zv_ifb (fun h6 => ?_) (fun h6 => ?_)
    · have g1 : 0 ≤ x.toInt ∧ x.toInt ≤ 2 := ⟨by have h9 : ¬ x.toInt < 0 := fun q => h1a (er_0.mpr q); omega, by have h9 : x ≤ Int32.ofInt 2 := h6; rwa [Int32.le_iff_toInt_le, show (Int32.ofInt 2).toInt = 2 from rfl] at h9⟩
      obtain ⟨c, hc, ec⟩ := in_nat (x := x) (b := 2) (by decide) g1
      iterate 2 (refine zv_step (bxWX O P Y o A J d _ _) rfl rfl trivial ?_)
      refine zv_V0 (bxWX O P Y o A J d _ _) rfl rfl rfl rfl rfl rfl rfl ⟨rfl, rfl, rfl⟩ ⟨Nat.le_of_ble_eq_true rfl, Nat.le_of_ble_eq_true rfl⟩ ⟨Nat.zero_le _, Nat.zero_le _⟩ (wBegun O P Y (gR o A J) hb) ?_
      rintro _ _ ⟨rfl, rfl⟩
      iterate 1 (refine zv_step (bxWX O P Y o A J d _ _) rfl rfl trivial ?_)
      refine zv_ifb (fun h18 => ?_) (fun h18 => ?_)
      · have hb1 : O 13 = 1 := hb.resolve_left h18
        iterate 3 (refine zv_step (bxWX O P Y o A J d _ _) rfl rfl trivial ?_)
        refine zv_ifb (fun h26 => ?_) (fun h26 => ?_)
        · iterate 3 (refine zv_step (bxWX O P Y o A J d _ _) rfl rfl trivial ?_)
          refine zv_ifb (fun h39 => ?_) (fun h39 => ?_)
          · have hx0 : x = nI 0 := by
              have h8 : ¬ x = nI 1 := h26
              have h9 : ¬ x = nI 2 := h39
              rw [ec, nI_eq (by omega) (by decide)] at h8 h9
              rw [ec, show c = 0 by omega]
            iterate 5 (refine zv_step (bxWX O P Y o A J d _ _) rfl rfl trivial ?_)
            refine zv_ifb (fun h59 => ?_) (fun h59 => ?_)
            · have q59 : d ≤ 19 := by
                have h9 : O 14 ≤ nI 19 := h59
                rw [h14, nI_leI (by omega) (by decide)] at h9
                exact h9
              iterate 2 (refine zv_step (bxWX O P Y o A J d _ _) rfl rfl trivial ?_)
              refine zv_V0 (bxWX O P Y o A J d _ _) rfl rfl rfl rfl rfl rfl rfl ⟨rfl, rfl, rfl⟩ ⟨Nat.le_of_ble_eq_true rfl, Nat.le_of_ble_eq_true rfl⟩ ⟨Nat.zero_le _, Nat.zero_le _⟩ (wNum O P Y (gR o A J) hd h14) ?_
              rintro _ _ ⟨rfl, rfl⟩
              exact zv_iret (bxWX O P Y o A J d _ _) rfl (Or.inl rfl) (Nat.zero_le _) (Nat.zero_le _) ⟨_, rfl, Or.inr ⟨g1, Or.inr ⟨hb1, Or.inr (Or.inr (Or.inr ⟨hx0, q59, rfl, by rw [if_neg (show ¬ 19 < d by omega)]⟩))⟩⟩, rfl⟩
            · have q59 : ¬ d ≤ 19 := fun q => h59 (show O 14 ≤ nI 19 by rw [h14, nI_leI (by omega) (by decide)]; exact q)
              exact zv_throwS (text := "the walk is too deep for a path") (names := ["java/lang/RuntimeException", "java/lang/Exception"]) (by decide +kernel) (by decide +kernel) (by decide +kernel) (by decide +kernel) (by decide +kernel) fISE kISE aISE gISE (fun A U H h => ⟨h.2.2.2.2.2.2.1, h.2.2.2.2.2.2.2.2.1⟩) ⟨by decide, by decide⟩ ⟨rfl, Or.inr ⟨g1, Or.inr ⟨hb1, Or.inr (Or.inr (Or.inl ⟨hx0, by omega, rfl⟩))⟩⟩, rfl⟩
          · have hx2 : x = nI 2 := Decidable.not_not.mp h39
            iterate 2 (refine zv_step (bxWX O P Y o A J d _ _) rfl rfl trivial ?_)
            refine zv_V0 (bxWX O P Y o A J d _ _) rfl rfl rfl rfl rfl rfl rfl ⟨rfl, rfl, rfl⟩ ⟨Nat.le_of_ble_eq_true rfl, Nat.le_of_ble_eq_true rfl⟩ ⟨Nat.zero_le _, Nat.zero_le _⟩ (wHereG O P Y (gR o A J) hd h14) ?_
            rintro _ _ ⟨rfl, rfl⟩
            exact zv_iret (bxWX O P Y o A J d _ _) rfl (Or.inl rfl) (Nat.zero_le _) (Nat.zero_le _) ⟨_, rfl, Or.inr ⟨g1, Or.inr ⟨hb1, Or.inr (Or.inl ⟨hx2, rfl, rfl⟩)⟩⟩, rfl⟩
        · have hx1 : x = nI 1 := Decidable.not_not.mp h26
          iterate 3 (refine zv_step (bxWX O P Y o A J d _ _) rfl rfl trivial ?_)
          exact zv_iret (bxWX O P Y o A J d _ _) rfl (Or.inl rfl) (Nat.zero_le _) (Nat.zero_le _) ⟨nI d, congrArg (fun v => some (Value.int v)) (h14), Or.inr ⟨g1, Or.inr ⟨hb1, Or.inl ⟨hx1, rfl, rfl⟩⟩⟩, rfl⟩
      · iterate 1 (refine zv_step (bxWX O P Y o A J d _ _) rfl rfl trivial ?_)
        exact zv_iret (bxWX O P Y o A J d _ _) rfl (Or.inl rfl) (Nat.zero_le _) (Nat.zero_le _) ⟨_, rfl, Or.inr ⟨g1, Or.inl ⟨fun q => h18 (fun w => absurd (q.symm.trans w) (by decide)), rfl, rfl⟩⟩, rfl⟩
    · iterate 1 (refine zv_step (bxWX O P Y o A J d _ _) rfl rfl trivial ?_)
      exact zv_iret (bxWX O P Y o A J d _ _) rfl (Or.inl rfl) (Nat.zero_le _) (Nat.zero_le _) ⟨_, rfl, Or.inl ⟨fun q => h6 (show x ≤ Int32.ofInt 2 by rw [Int32.le_iff_toInt_le, show (Int32.ofInt 2).toInt = 2 from rfl]; exact q.2), rfl, rfl⟩, rfl⟩
set_option maxHeartbeats 1000000 in
set_option maxRecDepth 20000 in
theorem hL_whereX (O : Nat → Int32) (P : Nat → Nat → Int32) (Y : Nat → Nat → Int64) (o : Nat → Int32) (A : Nat → Nat → Int32) (J : Nat → Nat → Int64) {d : Nat} (hd : d < 40) (h14 : O 14 = nI d) (hb : O 13 = 0 ∨ O 13 = 1) (x : Int32) : zKh 9 zL_where [(0, 9, 12, 19)] [.ref 0, .int x, .ref 99] (wX O P Y (gR o A J)) (fun r w' => ∃ (thr : Bool) (R : Int32) (J' : Nat → Nat → Int64), r = some (.int (if thr then Int32.ofInt 1 else Int32.ofInt 0)) ∧ w' = wX O P Y (gR o A J') ∧ whR (O 13 = 1) d (P 56 d) (anW (P 57) d (Int32.ofInt 0)) x thr R ∧ (thr = false → J' 2 (Int32.ofInt 0).toNatClampNeg = R.toInt64)) := by
  refine zKh_of (by decide +kernel) rfl ?_
  iterate 4 (refine zv_step bL_where rfl rfl trivial ?_)
  refine zv_callX bL_where rfl rfl (As := [.int x]) (rest := [.int (Int32.ofInt 0), .ref 99]) rfl rfl rfl rfl rfl rfl (by decide) ⟨by decide, by decide⟩ (tWhereX O P Y o A J hd h14 hb x) ?_ ?_
  · rintro _ _ ⟨v, rfl, hv, rfl⟩
    iterate 1 (refine zv_step bL_where rfl rfl trivial ?_)
    refine zv_last bL_where rfl (show (wX O P Y (gR o A J))[99]? = some (zJ 1 (J 2)) from rfl) (show vp_in (nI 0) 1 from vp_in_nI (by decide) (by decide)) ?_
    refine zv_world (show _ = wX O P Y (gR o A (updJ J 2 (vp_updL (J 2) (Int32.ofInt 0).toNatClampNeg v.toInt64))) from rfl) ?_
    iterate 2 (refine zv_step bL_where rfl rfl trivial ?_)
    exact zv_iret bL_where rfl (Or.inl rfl) (Nat.le_refl 1) (Nat.le_refl 6) ⟨false, v, _, rfl, rfl, hv, fun _ => rfl⟩
  · rintro E _ ⟨rfl, hv, rfl⟩
    refine ⟨3, 13, ⟨[], ⟨0, 9, 12, 19⟩, [], "java/lang/IllegalStateException", rfl, fun y h => absurd h List.not_mem_nil, by decide, by decide, cl19, fun A U H h => h.2.2.2.2.2.2.2.2.1, by decide, Or.inl ⟨3, rfl, by decide +kernel, rfl⟩⟩, ?_⟩
    iterate 1 (refine zv_step bL_where rfl rfl trivial ?_)
    exact zv_iret bL_where rfl (Or.inl rfl) (Nat.le_refl 1) (Nat.le_refl 6) ⟨true, 0, J, rfl, rfl, hv, fun q => absurd q (by decide)⟩
/-- an element of a ROW; t: 1 no such SHELF, 2 no ROW or no such place -/
def elR (H L : Nat → Int32) (ro : Nat → Nat → Int32) (x i : Int32) (t : Nat) (R : Int64) : Prop := (t = 1 ∧ ¬ sh7 x) ∨ ∃ s, s < 8 ∧ x = nI s ∧ ((t = 2 ∧ ¬ ((H s = nI 3 ∨ H s = nI 4) ∧ sp3 i (Int32.ofInt 1) (L s))) ∨ (t = 0 ∧ ((H s = nI 3 ∨ H s = nI 4) ∧ sp3 i (Int32.ofInt 1) (L s)) ∧ R = (ro s i.toNatClampNeg).toInt64))
theorem elR_same {H L H' L' : Nat → Int32} {ro ro' : Nat → Nat → Int32} {x i : Int32} {t t' : Nat} {R R' : Int64} (hH : ∀ s, s < 8 → H s = H' s) (hL : ∀ s, s < 8 → (H s = nI 3 ∨ H s = nI 4) → L s = L' s ∧ (sp3 i (Int32.ofInt 1) (L s) → ro s i.toNatClampNeg = ro' s i.toNatClampNeg)) (g : elR H L ro x i t R) (g' : elR H' L' ro' x i t' R') : t = t' ∧ (t = 0 → R = R') := by
  have sh : ∀ s, s < 8 → sh7 (nI s) := fun s hs => by
    unfold sh7
    rw [nI_toInt (by omega)]
    omega
  rcases g with ⟨e, q⟩ | ⟨s, hs, ex, g⟩ <;> rcases g' with ⟨e', q'⟩ | ⟨s', hs', ex', g'⟩
  · exact ⟨by rw [e, e'], fun w => by omega⟩
  · exact absurd (by rw [ex']; exact sh _ hs') q
  · exact absurd (by rw [ex]; exact sh _ hs) q'
  · have es : s = s' := (nI_eq (by omega) (by omega)).mp (ex.symm.trans ex')
    subst es
    rw [← hH s hs] at g'
    rcases g with ⟨e, q⟩ | ⟨e, q, r⟩ <;> rcases g' with ⟨e', q'⟩ | ⟨e', q', r'⟩
    · exact ⟨by rw [e, e'], fun w => by omega⟩
    · exact absurd ⟨q'.1, by rw [(hL s hs q'.1).1]; exact q'.2⟩ q
    · exact absurd ⟨q.1, by rw [← (hL s hs q.1).1]; exact q.2⟩ q'
    · exact ⟨by rw [e, e'], fun _ => by rw [r, r', (hL s hs q.1).2 q.2]⟩
abbrev tQEX (O : Nat → Int32) (P : Nat → Nat → Int32) (Y : Nat → Nat → Int64) (o : Nat → Int32) (A : Nat → Nat → Int32) (J : Nat → Nat → Int64) (x i : Int32) : Option Value → zW → Prop := fun r w' => ∃ R : Int64, r = some (.long R) ∧ elR (fun s => O (20 + 10 * s)) (fun s => O (24 + 10 * s)) (fun s => P (60 + 2 * s)) x i 0 R ∧ w' = (wX O P Y (gR o A J))
abbrev tXEX (O : Nat → Int32) (P : Nat → Nat → Int32) (Y : Nat → Nat → Int64) (o : Nat → Int32) (A : Nat → Nat → Int32) (J : Nat → Nat → Int64) (x i : Int32) : String → zW → Prop := fun E w' => ((E = "java/lang/IllegalArgumentException" ∧ elR (fun s => O (20 + 10 * s)) (fun s => O (24 + 10 * s)) (fun s => P (60 + 2 * s)) x i 1 0) ∨ (E = "java/lang/IllegalStateException" ∧ elR (fun s => O (20 + 10 * s)) (fun s => O (24 + 10 * s)) (fun s => P (60 + 2 * s)) x i 2 0)) ∧ w' = (wX O P Y (gR o A J))
theorem bxEX (O : Nat → Int32) (P : Nat → Nat → Int32) (Y : Nat → Nat → Int64) (o : Nat → Int32) (A : Nat → Nat → Int32) (J : Nat → Nat → Int64) (x i : Int32) (n : Nat) : zTb (zMx 7 zX6_element (tXEX O P Y o A J x i) (tQEX O P Y o A J x i) n) tX6_element := ⟨fRX6, gRX6, oX6_element⟩
set_option maxHeartbeats 1000000 in
set_option maxRecDepth 20000 in
theorem tElementX (O : Nat → Int32) (P : Nat → Nat → Int32) (Y : Nat → Nat → Int64) (o : Nat → Int32) (A : Nat → Nat → Int32) (J : Nat → Nat → Int64) (hsh : ∀ s, s < 8 → ∃ m : Nat, m ≤ 60 ∧ O (24 + 10 * s) = nI m) (x i : Int32) : zKt 7 zX6_element [.ref 0, .int x, .int i] (wX O P Y (gR o A J)) (tQEX O P Y o A J x i) (tXEX O P Y o A J x i) := by
  refine zKt_of (by decide +kernel) rfl ?_
  iterate 1 (refine zv_step (bxEX O P Y o A J _ _ _) rfl rfl trivial ?_)
  refine zv_S1 (bxEX O P Y o A J _ _ _) rfl rfl rfl rfl ⟨rfl, rfl, rfl⟩ ⟨Nat.le_of_ble_eq_true rfl, Nat.le_of_ble_eq_true rfl⟩ ⟨Nat.zero_le _, Nat.zero_le _⟩ (hX6_isShelf _ _) ?_
  rintro _ _ ⟨rfl, ⟨q1, rfl⟩ | ⟨q1, rfl⟩⟩
  · obtain ⟨s, hs, rfl⟩ := sh_of q1
    iterate 1 (refine zv_step (bxEX O P Y o A J _ _ _) rfl rfl trivial ?_)
    refine zv_ift (by decide) ?_
    iterate 1 (refine zv_step (bxEX O P Y o A J _ _ _) rfl rfl trivial ?_)
    refine zv_getf (bxEX O P Y o A J _ _ _) rfl (rfl) rfl ?_
    iterate 1 (refine zv_step (bxEX O P Y o A J _ _ _) rfl rfl trivial ?_)
    refine zv_aald (bxEX O P Y o A J _ _ _) rfl (Or.inl rfl) rfl (show vp_in (nI s) 8 from vp_in_nI (by omega) (by decide)) (show ([some 59, some 61, some 63, some 65, some 67, some 69, some 71, some 73] : List (Option Nat)).getD (nI s).toNatClampNeg none = some (59 + 2 * s) by rw [nI_clamp (by omega)]; exact dSs hs) ?_
    iterate 2 (refine zv_step (bxEX O P Y o A J _ _ _) rfl rfl trivial ?_)
    refine zv_V0 (bxEX O P Y o A J _ _ _) rfl rfl rfl (wS O P Y (gR o A J) hs) rfl rfl rfl ⟨rfl, rfl, rfl⟩ ⟨Nat.le_of_ble_eq_true rfl, Nat.le_of_ble_eq_true rfl⟩ ⟨Nat.zero_le _, Nat.zero_le _⟩ (hHasRow O P Y (gR o A J) hs) ?_
    rintro _ _ ⟨rfl, ⟨q3, rfl⟩ | ⟨q3, rfl⟩⟩
    · skip
      iterate 1 (refine zv_step (bxEX O P Y o A J _ _ _) rfl rfl trivial ?_)
      refine zv_ift (by decide) ?_
      iterate 3 (refine zv_step (bxEX O P Y o A J _ _ _) rfl rfl trivial ?_)
      refine zv_V2 (bxEX O P Y o A J _ _ _) rfl rfl rfl (wS O P Y (gR o A J) hs) rfl rfl rfl ⟨rfl, rfl, rfl⟩ ⟨Nat.le_of_ble_eq_true rfl, Nat.le_of_ble_eq_true rfl⟩ ⟨Nat.zero_le _, Nat.zero_le _⟩ (hHasSpan O P Y (gR o A J) hs _ _) ?_
      rintro _ _ ⟨rfl, ⟨q4, rfl⟩ | ⟨q4, rfl⟩⟩
      · skip
        iterate 1 (refine zv_step (bxEX O P Y o A J _ _ _) rfl rfl trivial ?_)
        refine zv_ift (by decide) ?_
        iterate 1 (refine zv_step (bxEX O P Y o A J _ _ _) rfl rfl trivial ?_)
        refine zv_getf (bxEX O P Y o A J _ _ _) rfl (wS O P Y (gR o A J) hs) rfl ?_
        iterate 1 (refine zv_step (bxEX O P Y o A J _ _ _) rfl rfl trivial ?_)
        obtain ⟨m, hm, em⟩ := hsh s hs
        have q4b := q4
        rw [em] at q4
        have k4 := (span_le hm q4).1
        refine zv_iald (bxEX O P Y o A J _ _ _) rfl (wSr O P Y (gR o A J) hs) (vp_in_iff.mpr (by have a1 := q4.1; rw [Int32.le_iff_toInt_le, Int32.toInt_zero] at a1; have k5 : i.toInt.toNat + (Int32.ofInt 1).toNatClampNeg ≤ 60 := k4; rw [show (Int32.ofInt 1).toNatClampNeg = 1 from rfl] at k5; omega)) ?_
        iterate 1 (refine zv_step (bxEX O P Y o A J _ _ _) rfl rfl trivial ?_)
        exact zv_lret (bxEX O P Y o A J _ _ _) rfl rfl (Nat.zero_le _) (Nat.zero_le _) ⟨_, rfl, Or.inr ⟨s, hs, rfl, Or.inr ⟨rfl, ⟨q3, q4b⟩, rfl⟩⟩, rfl⟩
      · skip
        iterate 1 (refine zv_step (bxEX O P Y o A J _ _ _) rfl rfl trivial ?_)
        refine zv_iff (by decide) ?_
        exact zv_throwSW (text := "the row has no such place") (names := ["java/lang/RuntimeException", "java/lang/Exception"]) (by decide +kernel) (by decide +kernel) (by decide +kernel) (by decide +kernel) (by decide +kernel) fISE kISE aISE gISE (fun A U H h => ⟨h.2.2.2.2.2.1, h.2.2.2.2.2.2.2.2.1⟩) ⟨by decide, by decide⟩ ⟨Or.inr ⟨rfl, Or.inr ⟨s, hs, rfl, Or.inl ⟨rfl, fun q => q4 q.2⟩⟩⟩, rfl⟩
    · skip
      iterate 1 (refine zv_step (bxEX O P Y o A J _ _ _) rfl rfl trivial ?_)
      refine zv_iff (by decide) ?_
      exact zv_throwSW (text := "the shelf holds no row") (names := ["java/lang/RuntimeException", "java/lang/Exception"]) (by decide +kernel) (by decide +kernel) (by decide +kernel) (by decide +kernel) (by decide +kernel) fISE kISE aISE gISE (fun A U H h => ⟨h.2.2.2.2.1, h.2.2.2.2.2.2.2.2.1⟩) ⟨by decide, by decide⟩ ⟨Or.inr ⟨rfl, Or.inr ⟨s, hs, rfl, Or.inl ⟨rfl, fun q => q3 q.1⟩⟩⟩, rfl⟩
  · skip
    iterate 1 (refine zv_step (bxEX O P Y o A J _ _ _) rfl rfl trivial ?_)
    refine zv_iff (by decide) ?_
    exact zv_throwSW (text := "no such shelf") (names := ["java/lang/RuntimeException", "java/lang/Exception"]) (by decide +kernel) (by decide +kernel) (by decide +kernel) (by decide +kernel) (by decide +kernel) fIAE kIAE aIAE gIAE (fun A U H h => ⟨h.2.2.2.1, h.2.2.2.2.2.2.2.1⟩) ⟨by decide, by decide⟩ ⟨Or.inl ⟨rfl, Or.inl ⟨rfl, q1⟩⟩, rfl⟩
set_option maxHeartbeats 1000000 in
set_option maxRecDepth 20000 in
theorem hL_elementX (O : Nat → Int32) (P : Nat → Nat → Int32) (Y : Nat → Nat → Int64) (o : Nat → Int32) (A : Nat → Nat → Int32) (J : Nat → Nat → Int64) (hsh : ∀ s, s < 8 → ∃ m : Nat, m ≤ 60 ∧ O (24 + 10 * s) = nI m) (x i : Int32) : zKh 9 zL_element [(0, 9, 12, 13), (0, 9, 16, 19)] [.ref 0, .int x, .int i, .ref 99] (wX O P Y (gR o A J)) (fun r w' => ∃ (t : Nat) (R : Int64) (J' : Nat → Nat → Int64), t < 3 ∧ r = some (.int (nI t)) ∧ w' = wX O P Y (gR o A J') ∧ elR (fun s => O (20 + 10 * s)) (fun s => O (24 + 10 * s)) (fun s => P (60 + 2 * s)) x i t R ∧ (t = 0 → J' 2 (Int32.ofInt 0).toNatClampNeg = R)) := by
  refine zKh_of (by decide +kernel) rfl ?_
  iterate 5 (refine zv_step bL_element rfl rfl trivial ?_)
  refine zv_callX bL_element rfl rfl (As := [.int x, .int i]) (rest := [.int (Int32.ofInt 0), .ref 99]) rfl rfl rfl rfl rfl rfl (by decide) ⟨by decide, by decide⟩ (tElementX O P Y o A J hsh x i) ?_ ?_
  · rintro _ _ ⟨v, rfl, hv, rfl⟩
    refine zv_last bL_element rfl (show (wX O P Y (gR o A J))[99]? = some (zJ 1 (J 2)) from rfl) (show vp_in (nI 0) 1 from vp_in_nI (by decide) (by decide)) ?_
    refine zv_world (show _ = wX O P Y (gR o A (updJ J 2 (vp_updL (J 2) (Int32.ofInt 0).toNatClampNeg v))) from rfl) ?_
    iterate 2 (refine zv_step bL_element rfl rfl trivial ?_)
    exact zv_iret bL_element rfl (Or.inl rfl) (Nat.le_refl 1) (Nat.le_refl 6) ⟨0, v, _, by decide, rfl, rfl, hv, fun _ => rfl⟩
  · rintro E _ ⟨⟨rfl, hv⟩ | ⟨rfl, hv⟩, rfl⟩
    · refine ⟨4, 14, ⟨[], ⟨0, 9, 12, 13⟩, [⟨0, 9, 16, 19⟩], "java/lang/IllegalArgumentException", rfl, fun y h => absurd h List.not_mem_nil, by decide, by decide, cl13, fun A U H h => h.2.2.2.2.2.2.2.1, by decide, Or.inr ⟨by decide +kernel, rfl⟩⟩, ?_⟩
      iterate 1 (refine zv_step bL_element rfl rfl trivial ?_)
      exact zv_iret bL_element rfl (Or.inl rfl) (Nat.le_refl 1) (Nat.le_refl 6) ⟨1, 0, J, by decide, rfl, rfl, hv, fun q => absurd q (by decide)⟩
    · refine ⟨4, 18, ⟨[⟨0, 9, 12, 13⟩], ⟨0, 9, 16, 19⟩, [], "java/lang/IllegalStateException", rfl, fun y h => Or.inr (by
        cases h with
        | head => exact ⟨by decide, "java/lang/IllegalArgumentException", cl13, fun A U H h => h.2.2.2.2.2.2.2.2.2⟩
        | tail _ h => cases h), by decide, by decide, cl19, fun A U H h => h.2.2.2.2.2.2.2.2.1, by decide, Or.inr ⟨by decide +kernel, rfl⟩⟩, ?_⟩
      iterate 1 (refine zv_step bL_element rfl rfl trivial ?_)
      exact zv_iret bL_element rfl (Or.inl rfl) (Nat.le_refl 1) (Nat.le_refl 6) ⟨2, 0, J, by decide, rfl, rfl, hv, fun q => absurd q (by decide)⟩
set_option maxHeartbeats 1000000 in
set_option maxRecDepth 20000 in
theorem mElementX (f : Nat → zC) (o : Nat → Int32) (A : Nat → Nat → Int32) (J : Nat → Nat → Int64) (hS : szS A) (hH : ∀ s, s < 8 → (A 9 s = nI 0 ∨ A 9 s = nI 1 ∨ A 9 s = nI 3 ∨ A 9 s = nI 4)) (d x : Int32) : zK 2 zX7_element [.ref 76, .int d, .int x] (wR f o A J) (fun r w' => ∃ (t : Nat) (R : Int64), t < 3 ∧ r = some (.long R) ∧ w' = wR f (upd o 16 (nI t)) A J ∧ elR (A 9) (A 12) (fun s i => A 13 (60 * s + i)) d x t R) := by
  refine zK_of qX7_element (by decide +kernel) rfl ?_
  iterate 2 (refine zv_step (bX7_element 2) rfl rfl trivial ?_)
  refine zv_S1 (bX7_element 2) rfl rfl rfl rfl ⟨rfl, rfl, rfl⟩ ⟨by decide, by decide⟩ ⟨Nat.zero_le _, Nat.zero_le _⟩ (hX7_isShelf _ _) ?_
  rintro _ _ ⟨rfl, ⟨g2, rfl⟩ | ⟨g2, rfl⟩⟩
  · obtain ⟨s, hs, rfl⟩ := in_nat (b := 7) (by decide) g2
    obtain ⟨m, hm, em⟩ := hS s (by omega)
    iterate 1 (refine zv_step (bX7_element 2) rfl rfl trivial ?_)
    refine zv_ift (by decide) ?_
    iterate 3 (refine zv_step (bX7_element 2) rfl rfl trivial ?_)
    refine zv_iale (bX7_element 2) rfl rfl (show vp_in (nI s) 8 from vp_in_nI (by omega) (by decide)) (show A 9 (nI s).toNatClampNeg = A 9 s by rw [nI_clamp (by omega)]) ?_
    iterate 2 (refine zv_step (bX7_element 2) rfl rfl trivial ?_)
    refine zv_ifb (fun h19 => ?_) (fun h19 => ?_)
    · iterate 6 (refine zv_step (bX7_element 2) rfl rfl trivial ?_)
      refine zv_ift (by decide) ?_
      iterate 1 (refine zv_step (bX7_element 2) rfl rfl trivial ?_)
      exact zv_lret (bX7_element 2) rfl rfl (Nat.zero_le _) (Nat.zero_le _) ⟨2, _, by decide, rfl, rfl, Or.inr ⟨s, by omega, rfl, Or.inl ⟨rfl, (fun q => q.1.elim (fun e => absurd (show A 9 s < Int32.ofInt 3 from h19) (by rw [e]; decide)) (fun e => absurd (show A 9 s < Int32.ofInt 3 from h19) (by rw [e]; decide)))⟩⟩⟩
    · iterate 6 (refine zv_step (bX7_element 2) rfl rfl trivial ?_)
      refine zv_iale (bX7_element 2) rfl rfl (show vp_in (nI s) 8 from vp_in_nI (by omega) (by decide)) (show A 12 (nI s).toNatClampNeg = nI m by rw [nI_clamp (by omega)]; exact em) ?_
      iterate 3 (refine zv_step (bX7_element 2) rfl rfl trivial ?_)
      refine zv_S3 (bX7_element 2) rfl rfl rfl rfl ⟨rfl, rfl, rfl⟩ ⟨by decide, by decide⟩ ⟨Nat.zero_le _, Nat.zero_le _⟩ (mIn _ _ _ _ (a := 0) (b := (m : Int) - 1) (by decide) (by rw [Int32.toInt_toInt64]; exact pred_toInt (by omega))) ?_
      rintro _ _ ⟨rfl, ⟨g3, rfl⟩ | ⟨g3, rfl⟩⟩
      · try rw [Int32.toInt_toInt64] at g3
        obtain ⟨i, hi, rfl⟩ := nd_of (u := m) (by omega) g3
        iterate 1 (refine zv_step (bX7_element 2) rfl rfl trivial ?_)
        refine zv_ift (by decide) ?_
        iterate 5 (refine zv_step (bX7_element 2) rfl rfl trivial ?_)
        refine zv_iff (by decide) ?_
        iterate 7 (refine zv_step (bX7_element 2) rfl rfl trivial ?_)
        refine zv_iale (bX7_element 2) rfl rfl (show vp_in (c8 60 * nI s + nI i) 480 by rw [ix60]; exact vp_in_nI (by omega) (by decide)) (show A 13 (c8 60 * nI s + nI i).toNatClampNeg = A 13 (60 * s + (nI i).toNatClampNeg) by rw [cl60 (by omega) (by omega), nI_clamp (by omega)]) ?_
        iterate 2 (refine zv_step (bX7_element 2) rfl rfl trivial ?_)
        exact zv_lret (bX7_element 2) rfl rfl (Nat.zero_le _) (Nat.zero_le _) ⟨0, _, by decide, rfl, rfl, Or.inr ⟨s, by omega, rfl, Or.inr ⟨rfl, ⟨(by
          rcases hH s (by omega) with e | e | e | e
          · exact absurd (show A 9 s < Int32.ofInt 3 by rw [e]; decide) h19
          · exact absurd (show A 9 s < Int32.ofInt 3 by rw [e]; decide) h19
          · exact Or.inl e
          · exact Or.inr e), ⟨Int32.le_iff_toInt_le.mpr (by rw [Int32.toInt_zero, nI_toInt (by omega)]; omega), by decide, by rw [em, show nI m - Int32.ofInt 1 = nI (m - 1) from sub_1 (by omega), nI_leI (by omega) (by omega)]; omega⟩⟩, rfl⟩⟩⟩
      · try rw [Int32.toInt_toInt64] at g3
        iterate 1 (refine zv_step (bX7_element 2) rfl rfl trivial ?_)
        refine zv_iff (by decide) ?_
        iterate 6 (refine zv_step (bX7_element 2) rfl rfl trivial ?_)
        refine zv_ift (by decide) ?_
        iterate 1 (refine zv_step (bX7_element 2) rfl rfl trivial ?_)
        exact zv_lret (bX7_element 2) rfl rfl (Nat.zero_le _) (Nat.zero_le _) ⟨2, _, by decide, rfl, rfl, Or.inr ⟨s, by omega, rfl, Or.inl ⟨rfl, (fun q => g3 (by
          have a1 := Int32.le_iff_toInt_le.mp q.2.1
          have a2 := q.2.2.2
          rw [em] at a2
          rw [Int32.toInt_zero] at a1
          rw [Int32.le_iff_toInt_le, pred_toInt (by omega)] at a2
          exact ⟨a1, a2⟩))⟩⟩⟩
  · skip
    iterate 1 (refine zv_step (bX7_element 2) rfl rfl trivial ?_)
    refine zv_iff (by decide) ?_
    iterate 6 (refine zv_step (bX7_element 2) rfl rfl trivial ?_)
    refine zv_ift (by decide) ?_
    iterate 1 (refine zv_step (bX7_element 2) rfl rfl trivial ?_)
    exact zv_lret (bX7_element 2) rfl rfl (Nat.zero_le _) (Nat.zero_le _) ⟨1, _, by decide, rfl, rfl, Or.inl ⟨rfl, g2⟩⟩
