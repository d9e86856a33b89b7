section ZCP
variable {M : zM} {al : Bool} {n0 kc ks pc nxt a b : Nat} {c0 : Int} {l : zL} {st rest : List Value} {w : zW} {Q : Option Value → zW → Prop} {tb : List zE}
theorem zv_copyI (ok : zTb M tb) {idx : Nat} (hlook : zlook tb pc = some (.invokestatic idx, pc + 3, a, b, c0)) (hm : Cond.methodLink M.1 idx arraycopyName ∈ zG ∧ Cond.native arraycopyName ∈ zG ∧ Cond.static arraycopyName ∈ zG ∧ Cond.initialized "java/lang/System" ∈ zG) (hcat : Nat.ble (rest.map fun v => v.category).sum 8 = true) (hR : 1 ≤ M.2.2.2.2.1.frames ∧ 8 + (nativeFrameWords "java/lang/System" "arraycopy" 5 + 11) ≤ M.2.2.2.2.1.locals) {k0 k1 m0 m1 : Nat} {f g : Nat → Int32} (hw0 : w[k0]? = some (zI 0 m0 f)) (hw1 : w[k1]? = some (zI 0 m1 g)) {sp dp n : Int32} (h1 : ¬ sp < 0) (h2 : ¬ dp < 0) (h3 : ¬ n < 0) (h4 : sp.toNatClampNeg + n.toNatClampNeg ≤ m0) (h5 : dp.toNatClampNeg + n.toNatClampNeg ≤ m1)
    (kk : zV M al n0 kc ks (pc + 3) l rest (w.set k1 (zI 0 m1 (va_cpy f g sp.toNatClampNeg dp.toNatClampNeg n.toNatClampNeg))) Q) : zV M al n0 kc ks pc l (.int n :: .int dp :: .ref k1 :: .int sp :: .ref k0 :: rest) w Q := by
  intro p l0 e s m args below meth c dC dI dA ad0 A Z h9t hctx hfin ad H locs ls hrel hl
  obtain ⟨F, hF, ok⟩ := ok
  have h0 := ok _ (zlook_mem hlook)
  simp only [zgood, Bool.and_eq_true, decide_eq_true_eq, Nat.add_sub_cancel_left] at h0
  obtain ⟨hx, hbb, hml, hown, hts, hKc, hA, hxn⟩ := id hctx
  refine va_copyi (rest := rest.map (zv ad)) hx hbb (hml.trans hl.1.symm) hown (hts _ hm.1) (hts _ hm.2.1) (hts _ hm.2.2.1) (hts _ hm.2.2.2) hKc.1 hrel.2.2.1 hrel.2.2.2.1 hrel.2.2.2.2 k0 k1 0 0 (zw_at hw0) (zw_at hw1) rfl rfl rfl h1 h2 h3 h4 h5 (fun i hi => rfl) hR.1 ?_ h0.1.1 (fun H1 locs1 hP1 hD1 hS1 => kk p l0 e s m args below meth c dC dI dA ad0 A Z h9t hctx hfin ad H1 locs1 ls ⟨hrel.1, hrel.2.1, (zw_set dA ad w k1 _) ▸ hP1, (zw_set dA ad w k1 _) ▸ hD1, hS1⟩ hl)
  rw [zcats]
  have := Nat.le_of_ble_eq_true hcat
  omega
end ZCP
set_option maxRecDepth 100000 in
theorem zCopyM : Cond.methodLink RX6 278 arraycopyName ∈ zG ∧ Cond.native arraycopyName ∈ zG ∧ Cond.static arraycopyName ∈ zG ∧ Cond.initialized "java/lang/System" ∈ zG := by decide +kernel
theorem span_le {m : Nat} {i n : Int32} (hm : m ≤ 60) (h : 0 ≤ i ∧ 0 ≤ n ∧ i ≤ nI m - n) : i.toNatClampNeg + n.toNatClampNeg ≤ 60 ∧ ¬ i < 0 ∧ ¬ n < 0 := by
  obtain ⟨a, b, c⟩ := h
  have hn := Int32.toInt_lt n
  rw [Int32.le_iff_toInt_le, Int32.toInt_zero] at a b
  rw [Int32.le_iff_toInt_le, Int32.toInt_sub, nI_toInt (by omega), Int.bmod_eq_of_le (by omega) (by omega)] at c
  refine ⟨?_, ?_, ?_⟩
  · show i.toInt.toNat + n.toInt.toNat ≤ 60
    omega
  · rw [Int32.lt_iff_toInt_lt, Int32.toInt_zero]
    omega
  · rw [Int32.lt_iff_toInt_lt, Int32.toInt_zero]
    omega
theorem shW_refl (O : Nat → Int32) (P : Nat → Nat → Int32) (s : Nat) : shW O P s O P := ⟨fun _ _ => rfl, fun _ _ => rfl, Or.inl rfl⟩
set_option maxHeartbeats 1000000 in
set_option maxRecDepth 20000 in
theorem hBitC (w : zW) (x : Int32) : zK 0 zJ6_bitCount_0f7a4 [.int x] w (fun r w' => w' = w ∧ ∃ v : Int32, r = some (.int v)) := by
  refine zK_of qJ6_bitCount_0f7a4 (by decide +kernel) rfl ?_
  iterate 41 (refine zv_step (bJ6_bitCount_0f7a4 0) rfl rfl trivial ?_)
  exact zv_iret (bJ6_bitCount_0f7a4 0) rfl (Or.inl rfl) (Nat.zero_le _) (Nat.zero_le _) ⟨rfl, _, rfl⟩
set_option maxHeartbeats 1000000 in
set_option maxRecDepth 20000 in
theorem cCount (O : Nat → Int32) (P : Nat → Nat → Int32) (Y : Nat → Nat → Int64) (g : Nat → zC) (x : Int32) : zK 1 zX6_count [.ref 0, .int x] (wX O P Y g) (fun r w' => w' = wX O P Y g ∧ ∃ v : Int32, r = some (.int v)) := by
  refine zK_of qX6_count (by decide +kernel) rfl ?_
  refine zv_step (bX6_count 1) rfl rfl trivial ?_
  by_cases hd : x.toInt < 0 ∨ 2 < x.toInt
  · refine zv_step (bX6_count 1) rfl rfl (by decide) ?_
    rw [if_pos hd]
    iterate 1 (refine zv_step (bX6_count 1) rfl rfl trivial ?_)
    exact zv_iret (bX6_count 1) rfl (Or.inl rfl) (Nat.zero_le _) (Nat.zero_le _) ⟨rfl, _, rfl⟩
  · obtain ⟨c, hc, rfl⟩ : ∃ c : Nat, c < 3 ∧ x = nI c := by
      refine ⟨x.toInt.toNat, by omega, ?_⟩
      rw [← Int32.toInt_inj, nI_toInt (by omega)]
      omega
    match c, hc with
    | 0, _ =>
      refine zv_step (bX6_count 1) rfl rfl (by decide) ?_
      iterate 3 (refine zv_step (bX6_count 1) rfl rfl trivial ?_)
      exact zv_iret (bX6_count 1) rfl (Or.inl rfl) (Nat.zero_le _) (Nat.zero_le _) ⟨rfl, _, rfl⟩
    | 1, _ =>
      refine zv_step (bX6_count 1) rfl rfl (by decide) ?_
      iterate 3 (refine zv_step (bX6_count 1) rfl rfl trivial ?_)
      exact zv_iret (bX6_count 1) rfl (Or.inl rfl) (Nat.zero_le _) (Nat.zero_le _) ⟨rfl, _, rfl⟩
    | 2, _ =>
      refine zv_step (bX6_count 1) rfl rfl (by decide) ?_
      iterate 2 (refine zv_step (bX6_count 1) rfl rfl trivial ?_)
      refine zv_S1 (bX6_count 1) rfl rfl rfl rfl ⟨rfl, rfl, rfl⟩ ⟨by decide, by decide⟩ ⟨Nat.zero_le _, Nat.zero_le _⟩ (hBitC _ _) ?_
      rintro _ _ ⟨rfl, v, rfl⟩
      exact zv_iret (bX6_count 1) rfl (Or.inl rfl) (Nat.zero_le _) (Nat.zero_le _) ⟨rfl, _, rfl⟩
    | c + 3, h => exact absurd h (by omega)
set_option maxHeartbeats 1000000 in
set_option maxRecDepth 20000 in
theorem wHereX (O : Nat → Int32) (P : Nat → Nat → Int32) (Y : Nat → Nat → Int64) (g : Nat → zC) {dd : Nat} (hd : dd < 40) (h14 : O 14 = nI dd) {x : Int32} (hx : P 56 dd = x) : zK 0 zX5_here [.ref 55] (wX O P Y g) (fun r w' => w' = wX O P Y g ∧ r = some (.int x)) := by
  refine zK_of qX5_here (by decide +kernel) rfl ?_
  iterate 4 (refine zv_step (bX5_here 0) rfl rfl trivial ?_)
  refine zv_iale (bX5_here 0) rfl rfl (show vp_in (O 14) 40 by rw [h14]; exact vp_in_nI hd (by decide)) (show P 56 (O 14).toNatClampNeg = x by rw [h14, nI_clamp (by omega)]; exact hx) ?_
  exact zv_iret (bX5_here 0) rfl (Or.inl rfl) (Nat.zero_le _) (Nat.zero_le _) ⟨rfl, rfl⟩
set_option maxHeartbeats 1000000 in
set_option maxRecDepth 20000 in
theorem cGlance (O : Nat → Int32) (P : Nat → Nat → Int32) (Y : Nat → Nat → Int64) (g : Nat → zC) {u : Nat} (hu : u ≤ 120) (h1 : O 1 = nI u) (hp : pgI u (P 2) (P 4) (P 5) (P 6)) {l : Nat} (hl : l ≤ 20) (hO : O 9 = nI l) {dd : Nat} (hd : dd < 40) (hO14 : O 14 = nI dd) (hb : O 13 = 0 ∨ O 13 = 1) (hr : O 13 = 1 → ∃ t, t < u ∧ rtN t dd (P 56)) (x n : Int32) : zK 30 zX6_glance [.ref 0, .int x, .int n] (wX O P Y g) (fun r w' => ∃ (O' : Nat → Int32) (P' : Nat → Nat → Int32) (R : Int32), r = some (.int R) ∧ w' = wX O' P' Y g ∧ spW O P O' P') := by
  refine zK_of qX6_glance (by decide +kernel) rfl ?_
  iterate 1 (refine zv_step (bX6_glance 30) rfl rfl trivial ?_)
  refine zv_S1 (bX6_glance 30) rfl rfl rfl rfl ⟨rfl, rfl, rfl⟩ ⟨by decide, by decide⟩ ⟨Nat.zero_le _, Nat.zero_le _⟩ (hX6_isStyle _ _) ?_
  rintro _ _ ⟨rfl, ⟨hx, rfl⟩ | ⟨hx, rfl⟩⟩
  · skip
    iterate 1 (refine zv_step (bX6_glance 30) rfl rfl trivial ?_)
    refine zv_iff (by decide) ?_
    iterate 2 (refine zv_step (bX6_glance 30) rfl rfl trivial ?_)
    refine zv_ifb (fun h8 => ?_) (fun h8 => ?_)
    · iterate 1 (refine zv_step (bX6_glance 30) rfl rfl trivial ?_)
      exact zv_iret (bX6_glance 30) rfl (Or.inl rfl) (Nat.zero_le _) (Nat.zero_le _) ⟨O, P, _, rfl, rfl, ⟨l, hl, hO⟩, fun _ _ => rfl, fun _ _ _ _ => rfl⟩
    · iterate 3 (refine zv_step (bX6_glance 30) rfl rfl trivial ?_)
      refine zv_ifb (fun h14 => ?_) (fun h14 => ?_)
      · obtain ⟨m, hm, rfl⟩ : ∃ m : Nat, m ≤ 9 ∧ n = nI m := by
          have a1 : ¬ n < 0 := h8
          have a2 : n ≤ c8 9 := h14
          rw [Int32.lt_iff_toInt_lt, Int32.toInt_zero] at a1
          rw [show c8 9 = nI 9 from rfl, Int32.le_iff_toInt_le, nI_toInt (by decide)] at a2
          refine ⟨n.toInt.toNat, by omega, ?_⟩
          rw [← Int32.toInt_inj, nI_toInt (by omega)]
          omega
        iterate 2 (refine zv_step (bX6_glance 30) rfl rfl trivial ?_)
        refine zv_V0 (bX6_glance 30) rfl rfl rfl rfl rfl rfl rfl ⟨rfl, rfl, rfl⟩ ⟨by decide, by decide⟩ ⟨Nat.zero_le _, Nat.zero_le _⟩ (wBegun O P Y g hb) ?_
        rintro _ _ ⟨rfl, rfl⟩
        iterate 1 (refine zv_step (bX6_glance 30) rfl rfl trivial ?_)
        refine zv_ifb (fun h26 => ?_) (fun h26 => ?_)
        · obtain ⟨t, ht, hrt⟩ := hr (hb.resolve_left h26)
          obtain ⟨j, hjt, ej⟩ := hrt.2 dd (Nat.le_refl _)
          have hj : j < u := by omega
          iterate 6 (refine zv_step (bX6_glance 30) rfl rfl trivial ?_)
          refine zv_V0 (bX6_glance 30) rfl rfl rfl rfl rfl rfl rfl ⟨rfl, rfl, rfl⟩ ⟨by decide, by decide⟩ ⟨Nat.zero_le _, Nat.zero_le _⟩ (wHereX O P Y g hd hO14 ej) ?_
          rintro _ _ ⟨rfl, rfl⟩
          iterate 3 (refine zv_step (bX6_glance 30) rfl rfl trivial ?_)
          refine zv_step (bX6_glance 30) rfl rfl (vp_in_iff.mpr ⟨hx.1, Int.lt_of_le_of_lt hx.2 (by decide)⟩) ?_
          iterate 1 (refine zv_step (bX6_glance 30) rfl rfl trivial ?_)
          refine zv_V4 (bX6_glance 30) rfl rfl rfl rfl rfl rfl rfl ⟨rfl, rfl, rfl⟩ ⟨by show 2 * (m + 1) + 3 + 1 ≤ 30; omega, by show 8 + (5 + 11) + 64 * (2 * (m + 1) + 3) ≤ 64 * (30); omega⟩ ⟨Nat.zero_le _, Nat.zero_le _⟩ (sStyle27 O P Y g hu h1 hp hj (f := m + 1) (by omega) (sub_1 (b := m + 1) (by omega)).symm) ?_
          rintro _ _ ⟨rfl, rfl⟩
          generalize (tlW (O 1) (P 75 x.toNatClampNeg) (Int32.ofInt 0) P (m + 1) (nI j) (hbW (P 75 x.toNatClampNeg) (P 2 j))) = ws
          iterate 2 (refine zv_step (bX6_glance 30) rfl rfl trivial ?_)
          refine zv_V0 (bX6_glance 30) rfl rfl rfl rfl rfl rfl rfl ⟨rfl, rfl, rfl⟩ ⟨by decide, by decide⟩ ⟨Nat.zero_le _, Nat.zero_le _⟩ (sLong27 _ _ _ _) ?_
          rintro _ _ ⟨rfl, ⟨hg, rfl⟩ | ⟨hg, rfl⟩⟩
          · skip
            iterate 1 (refine zv_step (bX6_glance 30) rfl rfl trivial ?_)
            refine zv_iff (by decide) ?_
            iterate 2 (refine zv_step (bX6_glance 30) rfl rfl trivial ?_)
            exact zv_iret (bX6_glance 30) rfl (Or.inl rfl) (Nat.zero_le _) (Nat.zero_le _) ⟨_, _, _, rfl, rfl, spW_say hl hO _ _ _ _⟩
          · skip
            iterate 1 (refine zv_step (bX6_glance 30) rfl rfl trivial ?_)
            refine zv_ift (by decide) ?_
            iterate 3 (refine zv_step (bX6_glance 30) rfl rfl trivial ?_)
            exact zv_iret (bX6_glance 30) rfl (Or.inl rfl) (Nat.zero_le _) (Nat.zero_le _) ⟨_, _, _, rfl, rfl, spW_say hl hO _ _ _ _⟩
        · iterate 1 (refine zv_step (bX6_glance 30) rfl rfl trivial ?_)
          exact zv_iret (bX6_glance 30) rfl (Or.inl rfl) (Nat.zero_le _) (Nat.zero_le _) ⟨O, P, _, rfl, rfl, ⟨l, hl, hO⟩, fun _ _ => rfl, fun _ _ _ _ => rfl⟩
      · iterate 1 (refine zv_step (bX6_glance 30) rfl rfl trivial ?_)
        exact zv_iret (bX6_glance 30) rfl (Or.inl rfl) (Nat.zero_le _) (Nat.zero_le _) ⟨O, P, _, rfl, rfl, ⟨l, hl, hO⟩, fun _ _ => rfl, fun _ _ _ _ => rfl⟩
  · skip
    iterate 1 (refine zv_step (bX6_glance 30) rfl rfl trivial ?_)
    refine zv_ift (by decide) ?_
    iterate 1 (refine zv_step (bX6_glance 30) rfl rfl trivial ?_)
    exact zv_iret (bX6_glance 30) rfl (Or.inl rfl) (Nat.zero_le _) (Nat.zero_le _) ⟨O, P, _, rfl, rfl, ⟨l, hl, hO⟩, fun _ _ => rfl, fun _ _ _ _ => rfl⟩
set_option maxHeartbeats 1000000 in
set_option maxRecDepth 20000 in
theorem cCopy (O : Nat → Int32) (P : Nat → Nat → Int32) (Y : Nat → Nat → Int64) (g : Nat → zC) (hsh : ∀ s, s < 8 → ∃ m : Nat, m ≤ 60 ∧ O (24 + 10 * s) = nI m) (x i y j n : Int32) : zK 1 zX6_copy [.ref 0, .int x, .int i, .int y, .int j, .int n] (wX O P Y g) (fun r w' => ∃ (O' : Nat → Int32) (P' : Nat → Nat → Int32) (R : Int32) (s : Nat), s < 8 ∧ r = some (.int R) ∧ w' = wX O' P' Y g ∧ shW O P s O' P') := by
  refine zK_of qX6_copy (by decide +kernel) rfl ?_
  iterate 1 (refine zv_step (bX6_copy 1) rfl rfl trivial ?_)
  refine zv_S1 (bX6_copy 1) rfl rfl rfl rfl ⟨rfl, rfl, rfl⟩ ⟨by decide, by decide⟩ ⟨Nat.zero_le _, Nat.zero_le _⟩ (hX6_isShelf _ _) ?_
  rintro _ _ ⟨rfl, ⟨q1, rfl⟩ | ⟨q1, rfl⟩⟩
  · obtain ⟨s, hs, rfl⟩ := sh_of q1
    iterate 1 (refine zv_step (bX6_copy 1) rfl rfl trivial ?_)
    refine zv_iff (by decide) ?_
    iterate 1 (refine zv_step (bX6_copy 1) rfl rfl trivial ?_)
    refine zv_S1 (bX6_copy 1) rfl rfl rfl rfl ⟨rfl, rfl, rfl⟩ ⟨by decide, by decide⟩ ⟨Nat.zero_le _, Nat.zero_le _⟩ (hX6_isShelf _ _) ?_
    rintro _ _ ⟨rfl, ⟨q2, rfl⟩ | ⟨q2, rfl⟩⟩
    · obtain ⟨t, ht, rfl⟩ := sh_of q2
      iterate 1 (refine zv_step (bX6_copy 1) rfl rfl trivial ?_)
      refine zv_ift (by decide) ?_
      iterate 1 (refine zv_step (bX6_copy 1) rfl rfl trivial ?_)
      refine zv_getf (bX6_copy 1) rfl (rfl) rfl ?_
      iterate 1 (refine zv_step (bX6_copy 1) rfl rfl trivial ?_)
      refine zv_aald (bX6_copy 1) rfl (Or.inl rfl) rfl (show vp_in (nI s) 8 from vp_in_nI (by omega) (by decide)) (show ([some 59, some 61, some 63, some 65, some 67, some 69, some 71, some 73] : List (Option Nat)).getD (nI s).toNatClampNeg none = some (59 + 2 * s) by rw [nI_clamp (by omega)]; exact dSs hs) ?_
      iterate 2 (refine zv_step (bX6_copy 1) rfl rfl trivial ?_)
      refine zv_getf (bX6_copy 1) rfl (rfl) rfl ?_
      iterate 1 (refine zv_step (bX6_copy 1) rfl rfl trivial ?_)
      refine zv_aald (bX6_copy 1) rfl (Or.inl rfl) rfl (show vp_in (nI t) 8 from vp_in_nI (by omega) (by decide)) (show ([some 59, some 61, some 63, some 65, some 67, some 69, some 71, some 73] : List (Option Nat)).getD (nI t).toNatClampNeg none = some (59 + 2 * t) by rw [nI_clamp (by omega)]; exact dSs ht) ?_
      iterate 2 (refine zv_step (bX6_copy 1) rfl rfl trivial ?_)
      refine zv_getf (bX6_copy 1) rfl (wS O P Y g hs) rfl ?_
      iterate 1 (refine zv_step (bX6_copy 1) rfl rfl trivial ?_)
      refine zv_ifb (fun h37 => ?_) (fun h37 => ?_)
      · iterate 1 (refine zv_step (bX6_copy 1) rfl rfl trivial ?_)
        exact zv_iret (bX6_copy 1) rfl (Or.inl rfl) (Nat.zero_le _) (Nat.zero_le _) ⟨O, P, _, 0, by decide, rfl, rfl, shW_refl O P 0⟩
      · iterate 1 (refine zv_step (bX6_copy 1) rfl rfl trivial ?_)
        refine zv_getf (bX6_copy 1) rfl (wS O P Y g ht) rfl ?_
        iterate 1 (refine zv_step (bX6_copy 1) rfl rfl trivial ?_)
        refine zv_ifb (fun h45 => ?_) (fun h45 => ?_)
        · iterate 1 (refine zv_step (bX6_copy 1) rfl rfl trivial ?_)
          refine zv_V0 (bX6_copy 1) rfl rfl rfl (wS O P Y g hs) rfl rfl rfl ⟨rfl, rfl, rfl⟩ ⟨by decide, by decide⟩ ⟨Nat.zero_le _, Nat.zero_le _⟩ (hHasRow O P Y g hs) ?_
          rintro _ _ ⟨rfl, ⟨q3, rfl⟩ | ⟨q3, rfl⟩⟩
          · skip
            iterate 1 (refine zv_step (bX6_copy 1) rfl rfl trivial ?_)
            refine zv_iff (by decide) ?_
            iterate 1 (refine zv_step (bX6_copy 1) rfl rfl trivial ?_)
            refine zv_getf (bX6_copy 1) rfl (wS O P Y g hs) rfl ?_
            iterate 1 (refine zv_step (bX6_copy 1) rfl rfl trivial ?_)
            refine zv_getf (bX6_copy 1) rfl (wS O P Y g ht) rfl ?_
            iterate 1 (refine zv_step (bX6_copy 1) rfl rfl trivial ?_)
            refine zv_ifb (fun h69 => ?_) (fun h69 => ?_)
            · iterate 3 (refine zv_step (bX6_copy 1) rfl rfl trivial ?_)
              refine zv_V2 (bX6_copy 1) rfl rfl rfl (wS O P Y g hs) rfl rfl rfl ⟨rfl, rfl, rfl⟩ ⟨by decide, by decide⟩ ⟨Nat.zero_le _, Nat.zero_le _⟩ (hHasSpan O P Y g hs _ _) ?_
              rintro _ _ ⟨rfl, ⟨q4, rfl⟩ | ⟨q4, rfl⟩⟩
              · skip
                iterate 1 (refine zv_step (bX6_copy 1) rfl rfl trivial ?_)
                refine zv_iff (by decide) ?_
                iterate 3 (refine zv_step (bX6_copy 1) rfl rfl trivial ?_)
                refine zv_V2 (bX6_copy 1) rfl rfl rfl (wS O P Y g ht) rfl rfl rfl ⟨rfl, rfl, rfl⟩ ⟨by decide, by decide⟩ ⟨Nat.zero_le _, Nat.zero_le _⟩ (hHasSpan O P Y g ht _ _) ?_
                rintro _ _ ⟨rfl, ⟨q5, rfl⟩ | ⟨q5, rfl⟩⟩
                · skip
                  iterate 1 (refine zv_step (bX6_copy 1) rfl rfl trivial ?_)
                  refine zv_ift (by decide) ?_
                  iterate 1 (refine zv_step (bX6_copy 1) rfl rfl trivial ?_)
                  refine zv_getf (bX6_copy 1) rfl (wS O P Y g hs) rfl ?_
                  iterate 2 (refine zv_step (bX6_copy 1) rfl rfl trivial ?_)
                  refine zv_getf (bX6_copy 1) rfl (wS O P Y g ht) rfl ?_
                  iterate 2 (refine zv_step (bX6_copy 1) rfl rfl trivial ?_)
                  obtain ⟨m1, hm1, e1⟩ := hsh s hs
                  obtain ⟨m2, hm2, e2⟩ := hsh t ht
                  rw [e1] at q4
                  rw [e2] at q5
                  have k4 := span_le hm1 q4
                  have k5 := span_le hm2 q5
                  refine zv_copyI (bX6_copy 1) rfl zCopyM rfl ⟨by decide, by decide⟩ (wSr O P Y g hs) (wSr O P Y g ht) k4.2.1 k5.2.1 k4.2.2 k4.1 k5.1 ?_
                  rw [wSrset O P Y g _ ht]
                  iterate 1 (refine zv_step (bX6_copy 1) rfl rfl trivial ?_)
                  exact zv_iret (bX6_copy 1) rfl (Or.inl rfl) (Nat.zero_le _) (Nat.zero_le _) ⟨O, _, _, t, ht, rfl, rfl, fun _ _ => rfl, fun i hi => updA_ne _ _ hi, Or.inl rfl⟩
                · skip
                  iterate 1 (refine zv_step (bX6_copy 1) rfl rfl trivial ?_)
                  refine zv_iff (by decide) ?_
                  iterate 1 (refine zv_step (bX6_copy 1) rfl rfl trivial ?_)
                  exact zv_iret (bX6_copy 1) rfl (Or.inl rfl) (Nat.zero_le _) (Nat.zero_le _) ⟨O, P, _, 0, by decide, rfl, rfl, shW_refl O P 0⟩
              · skip
                iterate 1 (refine zv_step (bX6_copy 1) rfl rfl trivial ?_)
                refine zv_ift (by decide) ?_
                iterate 1 (refine zv_step (bX6_copy 1) rfl rfl trivial ?_)
                exact zv_iret (bX6_copy 1) rfl (Or.inl rfl) (Nat.zero_le _) (Nat.zero_le _) ⟨O, P, _, 0, by decide, rfl, rfl, shW_refl O P 0⟩
            · iterate 1 (refine zv_step (bX6_copy 1) rfl rfl trivial ?_)
              exact zv_iret (bX6_copy 1) rfl (Or.inl rfl) (Nat.zero_le _) (Nat.zero_le _) ⟨O, P, _, 0, by decide, rfl, rfl, shW_refl O P 0⟩
          · skip
            iterate 1 (refine zv_step (bX6_copy 1) rfl rfl trivial ?_)
            refine zv_ift (by decide) ?_
            iterate 1 (refine zv_step (bX6_copy 1) rfl rfl trivial ?_)
            exact zv_iret (bX6_copy 1) rfl (Or.inl rfl) (Nat.zero_le _) (Nat.zero_le _) ⟨O, P, _, 0, by decide, rfl, rfl, shW_refl O P 0⟩
        · iterate 1 (refine zv_step (bX6_copy 1) rfl rfl trivial ?_)
          exact zv_iret (bX6_copy 1) rfl (Or.inl rfl) (Nat.zero_le _) (Nat.zero_le _) ⟨O, P, _, 0, by decide, rfl, rfl, shW_refl O P 0⟩
    · skip
      iterate 1 (refine zv_step (bX6_copy 1) rfl rfl trivial ?_)
      refine zv_iff (by decide) ?_
      iterate 1 (refine zv_step (bX6_copy 1) rfl rfl trivial ?_)
      exact zv_iret (bX6_copy 1) rfl (Or.inl rfl) (Nat.zero_le _) (Nat.zero_le _) ⟨O, P, _, 0, by decide, rfl, rfl, shW_refl O P 0⟩
  · skip
    iterate 1 (refine zv_step (bX6_copy 1) rfl rfl trivial ?_)
    refine zv_ift (by decide) ?_
    iterate 1 (refine zv_step (bX6_copy 1) rfl rfl trivial ?_)
    exact zv_iret (bX6_copy 1) rfl (Or.inl rfl) (Nat.zero_le _) (Nat.zero_le _) ⟨O, P, _, 0, by decide, rfl, rfl, shW_refl O P 0⟩
