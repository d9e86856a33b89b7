abbrev tQL (O : Nat → Int32) (P : Nat → Nat → Int32) (Y : Nat → Nat → Int64) (o : Nat → Int32) (A : Nat → Nat → Int32) (J : Nat → Nat → Int64) : Option Value → zW → Prop := fun r w' => ∃ (O' : Nat → Int32) (P' : Nat → Nat → Int32) (Y' : Nat → Nat → Int64) (v : Int64), r = some (.long v) ∧ w' = wX O' P' Y' (gR o A J) ∧ (cInv O' P' Y' ∧ cSt O P O' P')
abbrev tQI (O : Nat → Int32) (P : Nat → Nat → Int32) (Y : Nat → Nat → Int64) (o : Nat → Int32) (A : Nat → Nat → Int32) (J : Nat → Nat → Int64) : Option Value → zW → Prop := fun r w' => ∃ v : Int32, r = some (.int v) ∧ w' = (wX O P Y (gR o A J))
abbrev tXA (O : Nat → Int32) (P : Nat → Nat → Int32) (Y : Nat → Nat → Int64) (o : Nat → Int32) (A : Nat → Nat → Int32) (J : Nat → Nat → Int64) : String → zW → Prop := fun E w' => E = "java/lang/IllegalArgumentException" ∧ w' = (wX O P Y (gR o A J))
abbrev tXS (O : Nat → Int32) (P : Nat → Nat → Int32) (Y : Nat → Nat → Int64) (o : Nat → Int32) (A : Nat → Nat → Int32) (J : Nat → Nat → Int64) : String → zW → Prop := fun E w' => E = "java/lang/IllegalStateException" ∧ w' = (wX O P Y (gR o A J))
abbrev tXE (O : Nat → Int32) (P : Nat → Nat → Int32) (Y : Nat → Nat → Int64) (o : Nat → Int32) (A : Nat → Nat → Int32) (J : Nat → Nat → Int64) : String → zW → Prop := fun E w' => (E = "java/lang/IllegalArgumentException" ∨ E = "java/lang/IllegalStateException") ∧ w' = (wX O P Y (gR o A J))
theorem bxR (O : Nat → Int32) (P : Nat → Nat → Int32) (Y : Nat → Nat → Int64) (o : Nat → Int32) (A : Nat → Nat → Int32) (J : Nat → Nat → Int64) (n : Nat) : zTb (zMx 7 zX6_readings (tXA O P Y o A J) (tQL O P Y o A J) n) tX6_readings := ⟨fRX6, gRX6, oX6_readings⟩
theorem bxW (O : Nat → Int32) (P : Nat → Nat → Int32) (Y : Nat → Nat → Int64) (o : Nat → Int32) (A : Nat → Nat → Int32) (J : Nat → Nat → Int64) (n : Nat) : zTb (zMx 7 zX6_where (tXS O P Y o A J) (tQI O P Y o A J) n) tX6_where := ⟨fRX6, gRX6, oX6_where⟩
theorem bxE (O : Nat → Int32) (P : Nat → Nat → Int32) (Y : Nat → Nat → Int64) (o : Nat → Int32) (A : Nat → Nat → Int32) (J : Nat → Nat → Int64) (n : Nat) : zTb (zMx 7 zX6_element (tXE O P Y o A J) (tQL O P Y o A J) n) tX6_element := ⟨fRX6, gRX6, oX6_element⟩
set_option maxHeartbeats 1000000 in
set_option maxRecDepth 20000 in
theorem tReadings (O : Nat → Int32) (P : Nat → Nat → Int32) (Y : Nat → Nat → Int64) (o : Nat → Int32) (A : Nat → Nat → Int32) (J : Nat → Nat → Int64) {u l d : Nat} (hI : cI u l d O P Y) (x : Int32) : zKt 7 zX6_readings [.ref 0, .int x] (wX O P Y (gR o A J)) (tQL O P Y o A J) (tXA O P Y o A J) := by
  refine zKt_of (by decide +kernel) rfl ?_
  iterate 1 (refine zv_step (bxR O P Y o A J _) rfl rfl trivial ?_)
  refine zv_S1 (bxR O P Y o A J _) rfl rfl rfl rfl ⟨rfl, rfl, rfl⟩ ⟨Nat.le_of_ble_eq_true rfl, Nat.le_of_ble_eq_true rfl⟩ ⟨Nat.zero_le _, Nat.zero_le _⟩ (hX6_isStyleOrFree _ _) ?_
  rintro _ _ ⟨rfl, ⟨hh, rfl⟩ | ⟨hh, rfl⟩⟩
  · skip
    iterate 1 (refine zv_step (bxR O P Y o A J _) rfl rfl trivial ?_)
    refine zv_ift (by decide) ?_
    iterate 2 (refine zv_step (bxR O P Y o A J _) rfl rfl trivial ?_)
    refine zv_V1 (bxR O P Y o A J _) rfl rfl rfl rfl rfl rfl rfl ⟨rfl, rfl, rfl⟩ ⟨Nat.le_of_ble_eq_true rfl, Nat.le_of_ble_eq_true rfl⟩ ⟨Nat.zero_le _, Nat.zero_le _⟩ (cTallyIn O P Y (gR o A J) hI.2.2.2.1 hI.2.2.2.2.1 hh) ?_
    rintro _ _ ⟨a, b, Y', v, rfl, rfl, hY⟩
    exact zv_lret (bxR O P Y o A J _) rfl rfl (Nat.zero_le _) (Nat.zero_le _) ⟨_, P, Y', v, rfl, rfl, cI_ty hI hY (fun j a b c => by rw [upd_ne _ _ c, upd_ne _ _ b, upd_ne _ _ a])⟩
  · skip
    iterate 1 (refine zv_step (bxR O P Y o A J _) rfl rfl trivial ?_)
    refine zv_iff (by decide) ?_
    exact zv_throwS (text := "no such style") (names := ["java/lang/RuntimeException", "java/lang/Exception"]) (by decide +kernel) (by decide +kernel) (by decide +kernel) (by decide +kernel) (by decide +kernel) fIAE kIAE aIAE gIAE (fun A U H h => ⟨h.2.2.1, h.2.2.2.2.2.2.2.1⟩) ⟨by decide, by decide⟩ ⟨rfl, rfl⟩
set_option maxHeartbeats 1000000 in
set_option maxRecDepth 20000 in
theorem tWhere (O : Nat → Int32) (P : Nat → Nat → Int32) (Y : Nat → Nat → Int64) (o : Nat → Int32) (A : Nat → Nat → Int32) (J : Nat → Nat → Int64) {u l d : Nat} (hI : cI u l d O P Y) (x : Int32) : zKt 7 zX6_where [.ref 0, .int x] (wX O P Y (gR o A J)) (tQI O P Y o A J) (tXS O P Y o A J) := by
  refine zKt_of (by decide +kernel) rfl ?_
  iterate 2 (refine zv_step (bxW O P Y o A J _) rfl rfl trivial ?_)
  refine zv_ifb (fun h1 => ?_) (fun h1 => ?_)
  · iterate 1 (refine zv_step (bxW O P Y o A J _) rfl rfl trivial ?_)
    exact zv_iret (bxW O P Y o A J _) rfl (Or.inl rfl) (Nat.zero_le _) (Nat.zero_le _) ⟨_, rfl, rfl⟩
  · iterate 3 (refine zv_step (bxW O P Y o A J _) rfl rfl trivial ?_)
    refine zv_ifb (fun h6 => ?_) (fun h6 => ?_)
    · iterate 2 (refine zv_step (bxW O P Y o A J _) rfl rfl trivial ?_)
      refine zv_V0 (bxW O P Y o A J _) rfl rfl rfl rfl rfl rfl rfl ⟨rfl, rfl, rfl⟩ ⟨Nat.le_of_ble_eq_true rfl, Nat.le_of_ble_eq_true rfl⟩ ⟨Nat.zero_le _, Nat.zero_le _⟩ (wBegun O P Y (gR o A J) hI.2.2.2.2.2.2.2.2.1) ?_
      rintro _ _ ⟨rfl, rfl⟩
      iterate 1 (refine zv_step (bxW O P Y o A J _) rfl rfl trivial ?_)
      refine zv_ifb (fun h18 => ?_) (fun h18 => ?_)
      · iterate 3 (refine zv_step (bxW O P Y o A J _) rfl rfl trivial ?_)
        refine zv_ifb (fun h26 => ?_) (fun h26 => ?_)
        · iterate 3 (refine zv_step (bxW O P Y o A J _) rfl rfl trivial ?_)
          refine zv_ifb (fun h39 => ?_) (fun h39 => ?_)
          · iterate 5 (refine zv_step (bxW O P Y o A J _) rfl rfl trivial ?_)
            refine zv_ifb (fun h59 => ?_) (fun h59 => ?_)
            · iterate 2 (refine zv_step (bxW O P Y o A J _) rfl rfl trivial ?_)
              refine zv_V0 (bxW O P Y o A J _) rfl rfl rfl rfl rfl rfl rfl ⟨rfl, rfl, rfl⟩ ⟨Nat.le_of_ble_eq_true rfl, Nat.le_of_ble_eq_true rfl⟩ ⟨Nat.zero_le _, Nat.zero_le _⟩ (wNum O P Y (gR o A J) hI.2.2.2.2.2.2.1 hI.2.2.2.2.2.2.2.1) ?_
              rintro _ _ ⟨rfl, rfl⟩
              exact zv_iret (bxW O P Y o A J _) rfl (Or.inl rfl) (Nat.zero_le _) (Nat.zero_le _) ⟨_, rfl, rfl⟩
            · exact zv_throwS (text := "the walk is too deep for a path") (names := ["java/lang/RuntimeException", "java/lang/Exception"]) (by decide +kernel) (by decide +kernel) (by decide +kernel) (by decide +kernel) (by decide +kernel) fISE kISE aISE gISE (fun A U H h => ⟨h.2.2.2.2.2.2.1, h.2.2.2.2.2.2.2.2.1⟩) ⟨by decide, by decide⟩ ⟨rfl, rfl⟩
          · iterate 2 (refine zv_step (bxW O P Y o A J _) rfl rfl trivial ?_)
            refine zv_V0 (bxW O P Y o A J _) rfl rfl rfl rfl rfl rfl rfl ⟨rfl, rfl, rfl⟩ ⟨Nat.le_of_ble_eq_true rfl, Nat.le_of_ble_eq_true rfl⟩ ⟨Nat.zero_le _, Nat.zero_le _⟩ (wHereG O P Y (gR o A J) hI.2.2.2.2.2.2.1 hI.2.2.2.2.2.2.2.1) ?_
            rintro _ _ ⟨rfl, rfl⟩
            exact zv_iret (bxW O P Y o A J _) rfl (Or.inl rfl) (Nat.zero_le _) (Nat.zero_le _) ⟨_, rfl, rfl⟩
        · iterate 3 (refine zv_step (bxW O P Y o A J _) rfl rfl trivial ?_)
          exact zv_iret (bxW O P Y o A J _) rfl (Or.inl rfl) (Nat.zero_le _) (Nat.zero_le _) ⟨_, rfl, rfl⟩
      · iterate 1 (refine zv_step (bxW O P Y o A J _) rfl rfl trivial ?_)
        exact zv_iret (bxW O P Y o A J _) rfl (Or.inl rfl) (Nat.zero_le _) (Nat.zero_le _) ⟨_, rfl, rfl⟩
    · iterate 1 (refine zv_step (bxW O P Y o A J _) rfl rfl trivial ?_)
      exact zv_iret (bxW O P Y o A J _) rfl (Or.inl rfl) (Nat.zero_le _) (Nat.zero_le _) ⟨_, rfl, rfl⟩
set_option maxHeartbeats 1000000 in
set_option maxRecDepth 20000 in
theorem tElement (O : Nat → Int32) (P : Nat → Nat → Int32) (Y : Nat → Nat → Int64) (o : Nat → Int32) (A : Nat → Nat → Int32) (J : Nat → Nat → Int64) {u l d : Nat} (hI : cI u l d O P Y) (x i : Int32) : zKt 7 zX6_element [.ref 0, .int x, .int i] (wX O P Y (gR o A J)) (tQL O P Y o A J) (tXE O P Y o A J) := by
  refine zKt_of (by decide +kernel) rfl ?_
  iterate 1 (refine zv_step (bxE O P Y o A J _) rfl rfl trivial ?_)
  refine zv_S1 (bxE O P Y o A J _) rfl rfl rfl rfl ⟨rfl, rfl, rfl⟩ ⟨Nat.le_of_ble_eq_true rfl, Nat.le_of_ble_eq_true rfl⟩ ⟨Nat.zero_le _, Nat.zero_le _⟩ (hX6_isShelf _ _) ?_
  rintro _ _ ⟨rfl, ⟨q1, rfl⟩ | ⟨q1, rfl⟩⟩
  · obtain ⟨s, hs, rfl⟩ := sh_of q1
    iterate 1 (refine zv_step (bxE O P Y o A J _) rfl rfl trivial ?_)
    refine zv_ift (by decide) ?_
    iterate 1 (refine zv_step (bxE O P Y o A J _) rfl rfl trivial ?_)
    refine zv_getf (bxE O P Y o A J _) rfl (rfl) rfl ?_
    iterate 1 (refine zv_step (bxE O P Y o A J _) rfl rfl trivial ?_)
    refine zv_aald (bxE O P Y o A J _) rfl (Or.inl rfl) rfl (show vp_in (nI s) 8 from vp_in_nI (by omega) (by decide)) (show ([some 59, some 61, some 63, some 65, some 67, some 69, some 71, some 73] : List (Option Nat)).getD (nI s).toNatClampNeg none = some (59 + 2 * s) by rw [nI_clamp (by omega)]; exact dSs hs) ?_
    iterate 2 (refine zv_step (bxE O P Y o A J _) rfl rfl trivial ?_)
    refine zv_V0 (bxE O P Y o A J _) rfl rfl rfl (wS O P Y (gR o A J) hs) rfl rfl rfl ⟨rfl, rfl, rfl⟩ ⟨Nat.le_of_ble_eq_true rfl, Nat.le_of_ble_eq_true rfl⟩ ⟨Nat.zero_le _, Nat.zero_le _⟩ (hHasRow O P Y (gR o A J) hs) ?_
    rintro _ _ ⟨rfl, ⟨q3, rfl⟩ | ⟨q3, rfl⟩⟩
    · skip
      iterate 1 (refine zv_step (bxE O P Y o A J _) rfl rfl trivial ?_)
      refine zv_ift (by decide) ?_
      iterate 3 (refine zv_step (bxE O P Y o A J _) rfl rfl trivial ?_)
      refine zv_V2 (bxE O P Y o A J _) rfl rfl rfl (wS O P Y (gR o A J) hs) rfl rfl rfl ⟨rfl, rfl, rfl⟩ ⟨Nat.le_of_ble_eq_true rfl, Nat.le_of_ble_eq_true rfl⟩ ⟨Nat.zero_le _, Nat.zero_le _⟩ (hHasSpan O P Y (gR o A J) hs _ _) ?_
      rintro _ _ ⟨rfl, ⟨q4, rfl⟩ | ⟨q4, rfl⟩⟩
      · skip
        iterate 1 (refine zv_step (bxE O P Y o A J _) rfl rfl trivial ?_)
        refine zv_ift (by decide) ?_
        iterate 1 (refine zv_step (bxE O P Y o A J _) rfl rfl trivial ?_)
        refine zv_getf (bxE O P Y o A J _) rfl (wS O P Y (gR o A J) hs) rfl ?_
        iterate 1 (refine zv_step (bxE O P Y o A J _) rfl rfl trivial ?_)
        obtain ⟨m, hm, em⟩ := hI.2.2.2.2.2.2.2.2.2.2 s hs
        rw [em] at q4
        have k4 := (span_le hm q4).1
        refine zv_iald (bxE O P Y o A J _) rfl (wSr O P Y (gR o A J) hs) (vp_in_iff.mpr (by have a1 := q4.1; rw [Int32.le_iff_toInt_le, Int32.toInt_zero] at a1; have k5 : i.toInt.toNat + (Int32.ofInt 1).toNatClampNeg ≤ 60 := k4; rw [show (Int32.ofInt 1).toNatClampNeg = 1 from rfl] at k5; omega)) ?_
        iterate 1 (refine zv_step (bxE O P Y o A J _) rfl rfl trivial ?_)
        exact zv_lret (bxE O P Y o A J _) rfl rfl (Nat.zero_le _) (Nat.zero_le _) ⟨O, P, Y, _, rfl, rfl, ⟨u, l, d, hI⟩, cSt_refl O P⟩
      · skip
        iterate 1 (refine zv_step (bxE O P Y o A J _) rfl rfl trivial ?_)
        refine zv_iff (by decide) ?_
        exact zv_throwSW (text := "the row has no such place") (names := ["java/lang/RuntimeException", "java/lang/Exception"]) (by decide +kernel) (by decide +kernel) (by decide +kernel) (by decide +kernel) (by decide +kernel) fISE kISE aISE gISE (fun A U H h => ⟨h.2.2.2.2.2.1, h.2.2.2.2.2.2.2.2.1⟩) ⟨by decide, by decide⟩ ⟨Or.inr rfl, rfl⟩
    · skip
      iterate 1 (refine zv_step (bxE O P Y o A J _) rfl rfl trivial ?_)
      refine zv_iff (by decide) ?_
      exact zv_throwSW (text := "the shelf holds no row") (names := ["java/lang/RuntimeException", "java/lang/Exception"]) (by decide +kernel) (by decide +kernel) (by decide +kernel) (by decide +kernel) (by decide +kernel) fISE kISE aISE gISE (fun A U H h => ⟨h.2.2.2.2.1, h.2.2.2.2.2.2.2.2.1⟩) ⟨by decide, by decide⟩ ⟨Or.inr rfl, rfl⟩
  · skip
    iterate 1 (refine zv_step (bxE O P Y o A J _) rfl rfl trivial ?_)
    refine zv_iff (by decide) ?_
    exact zv_throwSW (text := "no such shelf") (names := ["java/lang/RuntimeException", "java/lang/Exception"]) (by decide +kernel) (by decide +kernel) (by decide +kernel) (by decide +kernel) (by decide +kernel) fIAE kIAE aIAE gIAE (fun A U H h => ⟨h.2.2.2.1, h.2.2.2.2.2.2.2.1⟩) ⟨by decide, by decide⟩ ⟨Or.inl rfl, rfl⟩
set_option maxHeartbeats 1000000 in
set_option maxRecDepth 20000 in
theorem hL_readings (O : Nat → Int32) (P : Nat → Nat → Int32) (Y : Nat → Nat → Int64) (o : Nat → Int32) (A : Nat → Nat → Int32) (J : Nat → Nat → Int64) {u l d : Nat} (hI : cI u l d O P Y) (x : Int32) : zKh 9 zL_readings [(0, 8, 11, 13)] [.ref 0, .int x, .ref 99] (wX O P Y (gR o A J)) (fun r w' => (∃ R : Int32, r = some (.int R)) ∧ ∃ (O' : Nat → Int32) (P' : Nat → Nat → Int32) (Y' : Nat → Nat → Int64) (J' : Nat → Nat → Int64), w' = wX O' P' Y' (gR o A J') ∧ (cInv O' P' Y' ∧ cSt O P O' P')) := by
  refine zKh_of (by decide +kernel) rfl ?_
  iterate 4 (refine zv_step bL_readings rfl rfl trivial ?_)
  refine zv_callX bL_readings rfl rfl (As := [.int x]) (rest := [.int (Int32.ofInt 0), .ref 99]) rfl rfl rfl rfl rfl rfl (by decide) ⟨by decide, by decide⟩ (tReadings O P Y o A J hI x) ?_ ?_
  · rintro _ _ ⟨O', P', Y', v, rfl, rfl, hc⟩
    refine zv_last bL_readings rfl (show (wX O' P' Y' (gR o A J))[99]? = some (zJ 1 (J 2)) from rfl) (show vp_in (nI 0) 1 from vp_in_nI (by decide) (by decide)) ?_
    refine zv_world (show _ = wX O' P' Y' (gR o A (updJ J 2 (vp_updL (J 2) (Int32.ofInt 0).toNatClampNeg v))) from rfl) ?_
    iterate 2 (refine zv_step bL_readings rfl rfl trivial ?_)
    exact zv_iret bL_readings rfl (Or.inl rfl) (Nat.le_refl 1) (Nat.le_refl 6) ⟨⟨_, rfl⟩, O', P', Y', _, rfl, hc⟩
  · rintro E _ ⟨rfl, rfl⟩
    refine ⟨3, 12, ⟨[], ⟨0, 8, 11, 13⟩, [], "java/lang/IllegalArgumentException", rfl, fun y h => absurd h List.not_mem_nil, by decide, by decide, cl13, fun A U H h => h.2.2.2.2.2.2.2.1, by decide, Or.inl ⟨3, rfl, by decide +kernel, rfl⟩⟩, ?_⟩
    iterate 1 (refine zv_step bL_readings rfl rfl trivial ?_)
    exact zv_iret bL_readings rfl (Or.inl rfl) (Nat.le_refl 1) (Nat.le_refl 6) ⟨⟨_, rfl⟩, O, P, Y, J, rfl, ⟨u, l, d, hI⟩, cSt_refl O P⟩
set_option maxHeartbeats 1000000 in
set_option maxRecDepth 20000 in
theorem hL_where (O : Nat → Int32) (P : Nat → Nat → Int32) (Y : Nat → Nat → Int64) (o : Nat → Int32) (A : Nat → Nat → Int32) (J : Nat → Nat → Int64) {u l d : Nat} (hI : cI u l d O P Y) (x : Int32) : zKh 9 zL_where [(0, 9, 12, 19)] [.ref 0, .int x, .ref 99] (wX O P Y (gR o A J)) (fun r w' => (∃ R : Int32, r = some (.int R)) ∧ ∃ (O' : Nat → Int32) (P' : Nat → Nat → Int32) (Y' : Nat → Nat → Int64) (J' : Nat → Nat → Int64), w' = wX O' P' Y' (gR o A J') ∧ (cInv O' P' Y' ∧ cSt O P O' P')) := by
  refine zKh_of (by decide +kernel) rfl ?_
  iterate 4 (refine zv_step bL_where rfl rfl trivial ?_)
  refine zv_callX bL_where rfl rfl (As := [.int x]) (rest := [.int (Int32.ofInt 0), .ref 99]) rfl rfl rfl rfl rfl rfl (by decide) ⟨by decide, by decide⟩ (tWhere O P Y o A J hI x) ?_ ?_
  · rintro _ _ ⟨v, rfl, rfl⟩
    iterate 1 (refine zv_step bL_where rfl rfl trivial ?_)
    refine zv_last bL_where rfl (show (wX O P Y (gR o A J))[99]? = some (zJ 1 (J 2)) from rfl) (show vp_in (nI 0) 1 from vp_in_nI (by decide) (by decide)) ?_
    refine zv_world (show _ = wX O P Y (gR o A (updJ J 2 (vp_updL (J 2) (Int32.ofInt 0).toNatClampNeg v.toInt64))) from rfl) ?_
    iterate 2 (refine zv_step bL_where rfl rfl trivial ?_)
    exact zv_iret bL_where rfl (Or.inl rfl) (Nat.le_refl 1) (Nat.le_refl 6) ⟨⟨_, rfl⟩, O, P, Y, _, rfl, ⟨u, l, d, hI⟩, cSt_refl O P⟩
  · rintro E _ ⟨rfl, rfl⟩
    refine ⟨3, 13, ⟨[], ⟨0, 9, 12, 19⟩, [], "java/lang/IllegalStateException", rfl, fun y h => absurd h List.not_mem_nil, by decide, by decide, cl19, fun A U H h => h.2.2.2.2.2.2.2.2.1, by decide, Or.inl ⟨3, rfl, by decide +kernel, rfl⟩⟩, ?_⟩
    iterate 1 (refine zv_step bL_where rfl rfl trivial ?_)
    exact zv_iret bL_where rfl (Or.inl rfl) (Nat.le_refl 1) (Nat.le_refl 6) ⟨⟨_, rfl⟩, O, P, Y, J, rfl, ⟨u, l, d, hI⟩, cSt_refl O P⟩
set_option maxHeartbeats 1000000 in
set_option maxRecDepth 20000 in
theorem hL_element (O : Nat → Int32) (P : Nat → Nat → Int32) (Y : Nat → Nat → Int64) (o : Nat → Int32) (A : Nat → Nat → Int32) (J : Nat → Nat → Int64) {u l d : Nat} (hI : cI u l d O P Y) (x i : Int32) : zKh 9 zL_element [(0, 9, 12, 13), (0, 9, 16, 19)] [.ref 0, .int x, .int i, .ref 99] (wX O P Y (gR o A J)) (fun r w' => (∃ R : Int32, r = some (.int R)) ∧ ∃ (O' : Nat → Int32) (P' : Nat → Nat → Int32) (Y' : Nat → Nat → Int64) (J' : Nat → Nat → Int64), w' = wX O' P' Y' (gR o A J') ∧ (cInv O' P' Y' ∧ cSt O P O' P')) := by
  refine zKh_of (by decide +kernel) rfl ?_
  iterate 5 (refine zv_step bL_element rfl rfl trivial ?_)
  refine zv_callX bL_element rfl rfl (As := [.int x, .int i]) (rest := [.int (Int32.ofInt 0), .ref 99]) rfl rfl rfl rfl rfl rfl (by decide) ⟨by decide, by decide⟩ (tElement O P Y o A J hI x i) ?_ ?_
  · rintro _ _ ⟨O', P', Y', v, rfl, rfl, hc⟩
    refine zv_last bL_element rfl (show (wX O' P' Y' (gR o A J))[99]? = some (zJ 1 (J 2)) from rfl) (show vp_in (nI 0) 1 from vp_in_nI (by decide) (by decide)) ?_
    refine zv_world (show _ = wX O' P' Y' (gR o A (updJ J 2 (vp_updL (J 2) (Int32.ofInt 0).toNatClampNeg v))) from rfl) ?_
    iterate 2 (refine zv_step bL_element rfl rfl trivial ?_)
    exact zv_iret bL_element rfl (Or.inl rfl) (Nat.le_refl 1) (Nat.le_refl 6) ⟨⟨_, rfl⟩, O', P', Y', _, rfl, hc⟩
  · rintro E _ ⟨rfl | rfl, rfl⟩
    · refine ⟨4, 14, ⟨[], ⟨0, 9, 12, 13⟩, [⟨0, 9, 16, 19⟩], "java/lang/IllegalArgumentException", rfl, fun y h => absurd h List.not_mem_nil, by decide, by decide, cl13, fun A U H h => h.2.2.2.2.2.2.2.1, by decide, Or.inr ⟨by decide +kernel, rfl⟩⟩, ?_⟩
      iterate 1 (refine zv_step bL_element rfl rfl trivial ?_)
      exact zv_iret bL_element rfl (Or.inl rfl) (Nat.le_refl 1) (Nat.le_refl 6) ⟨⟨_, rfl⟩, O, P, Y, J, rfl, ⟨u, l, d, hI⟩, cSt_refl O P⟩
    · refine ⟨4, 18, ⟨[⟨0, 9, 12, 13⟩], ⟨0, 9, 16, 19⟩, [], "java/lang/IllegalStateException", rfl, fun y h => Or.inr (by
        cases h with
        | head => exact ⟨by decide, "java/lang/IllegalArgumentException", cl13, fun A U H h => h.2.2.2.2.2.2.2.2.2⟩
        | tail _ h => cases h), by decide, by decide, cl19, fun A U H h => h.2.2.2.2.2.2.2.2.1, by decide, Or.inr ⟨by decide +kernel, rfl⟩⟩, ?_⟩
      iterate 1 (refine zv_step bL_element rfl rfl trivial ?_)
      exact zv_iret bL_element rfl (Or.inl rfl) (Nat.le_refl 1) (Nat.le_refl 6) ⟨⟨_, rfl⟩, O, P, Y, J, rfl, ⟨u, l, d, hI⟩, cSt_refl O P⟩
