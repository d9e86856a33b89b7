section ZLR
variable {M : zM} {al : Bool} {n0 kc ks pc nxt a b : Nat} {c0 : Int} {l : zL} {st : List Value} {w : zW} {Q : Option Value → zW → Prop} {tb : List zE}
theorem zv_lasth (ok : zTb M tb) (hlook : zlook tb pc = some (.lastore, nxt, a, b, c0)) {k n : Nat} {f : Nat → Int64} {i : Int32} {x : Int64} (hw : w[k]? = some (zJ n f)) (hi : vp_in i n) (kk : zV M al n0 kc ks nxt l st (w.set k (zJ n (vp_updL f i.toNatClampNeg x))) Q) : zV M al n0 kc ks pc l (.long x :: .int i :: .ref k :: st) w Q := by
  refine zv_step ok hlook (P := vp_in i n) (pc' := nxt) (l' := l) (st' := st) (w' := w.set k (zJ n (vp_updL f i.toNatClampNeg x))) ?_ hi kk
  simp only [zstep, hw]
theorem zv_laldh (ok : zTb M tb) (hlook : zlook tb pc = some (.laload, nxt, a, b, c0)) {k n : Nat} {f : Nat → Int64} {i : Int32} (hw : w[k]? = some (zJ n f)) (hi : vp_in i n) (kk : zV M al n0 kc ks nxt l (.long (f i.toNatClampNeg) :: st) w Q) : zV M al n0 kc ks pc l (.int i :: .ref k :: st) w Q := by
  refine zv_step ok hlook (P := vp_in i n) (pc' := nxt) (l' := l) (st' := .long (f i.toNatClampNeg) :: st) (w' := w) ?_ hi kk
  simp only [zstep, hw]
/-- fewer locals do -/
theorem zv_locals {l' : zL} (hs : ∀ q ∈ l', q ∈ l) (h : zV M al n0 kc ks pc l' st w Q) : zV M al n0 kc ks pc l st w Q := by
  intro p l0 e s m args below meth c dC dI dA ad0 A Z h9t hctx hfin ad H locs ls hrel hl
  refine h p l0 e s m args below meth c dC dI dA ad0 A Z h9t hctx hfin ad H locs ls hrel ⟨hl.1, hl.2.1, fun q hq => hl.2.2 q ?_⟩
  obtain ⟨x, hx, rfl⟩ := List.mem_map.mp hq
  exact List.mem_map.mpr ⟨x, hs x hx, rfl⟩
end ZLR
theorem updL0 : vp_updL (fun _ => 0) (Int32.ofInt 0).toNatClampNeg 0 = fun _ => 0 := by
  funext j
  unfold vp_updL
  split <;> rfl
def sf (p : Int32) : Prop := 0 ≤ p.toInt ∧ p.toInt ≤ 8
abbrev QR (p : Int32) : Option Value → zW → Prop := fun r w' => sf p ∧ r = some (.long 0) ∧ ∀ j, 76 ≤ j → w'[j]? = w0[j]?
abbrev XR (p : Int32) : String → zW → Prop := fun E w' => ¬ sf p ∧ E = "java/lang/IllegalArgumentException" ∧ w' = w0
theorem bxR (p : Int32) (n : Nat) : zTb (zMx 7 zX6_readings (XR p) (QR p) n) tX6_readings := ⟨fRX6, gRX6, oX6_readings⟩
set_option maxHeartbeats 4000000 in
set_option maxRecDepth 100000 in
theorem cX_readings (p : Int32) : zKt 7 zX6_readings [.ref 0, .int p] w0 (QR p) (XR p) := by
  refine zKt_of (by decide +kernel) rfl ?_
  iterate 1 (refine zv_step (bxR p _) rfl rfl trivial ?_)
  refine zv_S1 (bxR p _) rfl rfl rfl rfl ⟨rfl, rfl, rfl⟩ ⟨Nat.le_of_ble_eq_true rfl, Nat.le_of_ble_eq_true rfl⟩ ⟨Nat.zero_le _, Nat.zero_le _⟩ (hX6_isStyleOrFree _ _) ?_
  rintro _ _ ⟨rfl, ⟨hh, rfl⟩ | ⟨hh, rfl⟩⟩
  · iterate 1 (refine zv_step (bxR p _) rfl rfl trivial ?_)
    refine zv_ift (by decide) ?_
    iterate 2 (refine zv_step (bxR p _) rfl rfl trivial ?_)
    refine zv_V1 (bxR p _) rfl rfl rfl rfl rfl rfl rfl ⟨rfl, rfl, rfl⟩ ⟨Nat.le_of_ble_eq_true rfl, Nat.le_of_ble_eq_true rfl⟩ ⟨Nat.zero_le _, Nat.zero_le _⟩ (hTallyIn _ hh) ?_
    rintro _ w1 ⟨rfl, hw1⟩
    exact zv_lret (bxR p _) rfl rfl (Nat.zero_le _) (Nat.zero_le _) ⟨hh, rfl, hw1⟩
  · iterate 1 (refine zv_step (bxR p _) rfl rfl trivial ?_)
    refine zv_iff (by decide) ?_
    exact zv_throwS (text := "no such style") (names := ["java/lang/RuntimeException", "java/lang/Exception"]) (by decide +kernel) (by decide +kernel) (by decide +kernel) (by decide +kernel) (by decide +kernel) fIAE kIAE aIAE gIAE (fun A U H h => ⟨h.2.2.1, h.2.2.2.2.2.2.2.1⟩) ⟨by decide, by decide⟩ ⟨hh, rfl, rfl⟩
set_option maxHeartbeats 4000000 in
set_option maxRecDepth 100000 in
theorem hL_readings (p : Int32) : zKh 9 zL_readings [(0, 8, 11, 13)] [.ref 0, .int p, .ref 99] w0 (fun r w' => ((sf p ∧ r = some (.int 0)) ∨ (¬ sf p ∧ r = some (.int 1))) ∧ ∀ j, 76 ≤ j → w'[j]? = w0[j]?) := by
  refine zKh_of (by decide +kernel) rfl ?_
  iterate 4 (refine zv_step bL_readings rfl rfl trivial ?_)
  refine zv_callX bL_readings rfl rfl (As := [.int p]) (rest := [.int (Int32.ofInt 0), .ref 99]) rfl rfl rfl rfl rfl rfl (by decide) ⟨by decide, by decide⟩ (cX_readings p) ?_ ?_
  · rintro _ w1 ⟨hs, rfl, hw1⟩
    refine zv_lasth bL_readings rfl ((hw1 99 (by decide)).trans rfl) (by unfold vp_in; decide) ?_
    iterate 2 (refine zv_step bL_readings rfl rfl trivial ?_)
    refine zv_iret bL_readings rfl (Or.inl rfl) (Nat.le_refl 1) (Nat.le_refl 6) ⟨Or.inl ⟨hs, rfl⟩, fun j hj => ?_⟩
    by_cases h9 : j = 99
    · subst h9
      rw [zset_self ((hw1 99 (by decide)).trans rfl), updL0]
      rfl
    · exact (List.getElem?_set_ne (Ne.symm h9)).trans (hw1 j hj)
  · rintro E w1 ⟨hs, rfl, rfl⟩
    refine ⟨3, 12, ⟨[], ⟨0, 8, 11, 13⟩, [], "java/lang/IllegalArgumentException", rfl, fun y h => absurd h List.not_mem_nil, by decide, by decide, cl13, fun A U H h => h.2.2.2.2.2.2.2.1, by decide, Or.inl ⟨3, rfl, by decide +kernel, rfl⟩⟩, ?_⟩
    iterate 1 (refine zv_step bL_readings rfl rfl trivial ?_)
    exact zv_iret bL_readings rfl (Or.inl rfl) (Nat.le_refl 1) (Nat.le_refl 6) ⟨Or.inr ⟨hs, rfl⟩, fun j hj => rfl⟩
theorem in8s (x : Int32) : (Int64.ofNat ((0 : Fin 2) : Nat)).toInt ≤ x.toInt64.toInt ∧ x.toInt64.toInt ≤ (Int64.ofInt 8).toInt ↔ sf x := by
  unfold sf
  rw [l0c, Int32.toInt_toInt64, i64c 8 (by decide)]
theorem in02 (x : Int32) : (Int64.ofNat ((0 : Fin 2) : Nat)).toInt ≤ x.toInt64.toInt ∧ x.toInt64.toInt ≤ (Int64.ofInt 2).toInt ↔ 0 ≤ x.toInt ∧ x.toInt ≤ 2 := by
  rw [l0c, Int32.toInt_toInt64, i64c 2 (by decide)]
/-- the reference's object with its word 'thrown' -/
def thr (w : zW) (t : Int32) : Prop := ∃ fs : List Value, w[76]? = some (zO 6 fs) ∧ fs[16]? = some (.int t)
set_option maxHeartbeats 4000000 in
set_option maxRecDepth 100000 in
theorem cM_readings (p : Int32) {w : zW} (h : ∀ j, 76 ≤ j → w[j]? = w0[j]?) : zK 3 zX7_readings [.ref 76, .int p] w (fun r w' => r = some (.long 0) ∧ ((sf p ∧ thr w' 0) ∨ (¬ sf p ∧ thr w' 1)) ∧ w'[99]? = w0[99]?) := by
  obtain ⟨f, rfl⟩ := wM_of h
  clear h
  refine zK_of qX7_readings (by decide +kernel) rfl ?_
  iterate 5 (refine zv_step (bX7_readings 3) rfl rfl trivial ?_)
  refine zv_S3 (bX7_readings 3) rfl rfl rfl rfl ⟨rfl, rfl, rfl⟩ ⟨Nat.le_of_ble_eq_true rfl, Nat.le_of_ble_eq_true rfl⟩ ⟨Nat.zero_le _, Nat.zero_le _⟩ (hX7_in _ _ _ _) ?_
  rintro _ _ ⟨rfl, ⟨hh, rfl⟩ | ⟨hh, rfl⟩⟩
  · rw [in8s] at hh
    iterate 1 (refine zv_step (bX7_readings 3) rfl rfl trivial ?_)
    refine zv_iff (by decide) ?_
    iterate 6 (refine zv_step (bX7_readings 3) rfl rfl trivial ?_)
    refine zv_iff (by decide) ?_
    iterate 2 (refine zv_step (bX7_readings 3) rfl rfl trivial ?_)
    refine zv_V1 (bX7_readings 3) rfl rfl rfl rfl rfl rfl rfl ⟨rfl, rfl, rfl⟩ ⟨Nat.le_of_ble_eq_true rfl, Nat.le_of_ble_eq_true rfl⟩ ⟨Nat.zero_le _, Nat.zero_le _⟩ (mCount _ rfl rfl rfl) ?_
    rintro _ _ ⟨rfl, rfl⟩
    iterate 1 (refine zv_step (bX7_readings 3) rfl rfl trivial ?_)
    exact zv_lret (bX7_readings 3) rfl rfl (Nat.zero_le _) (Nat.zero_le _) ⟨rfl, Or.inl ⟨hh, _, rfl, rfl⟩, rfl⟩
  · rw [in8s] at hh
    iterate 1 (refine zv_step (bX7_readings 3) rfl rfl trivial ?_)
    refine zv_ift (by decide) ?_
    iterate 5 (refine zv_step (bX7_readings 3) rfl rfl trivial ?_)
    refine zv_ift (by decide) ?_
    iterate 1 (refine zv_step (bX7_readings 3) rfl rfl trivial ?_)
    exact zv_lret (bX7_readings 3) rfl rfl (Nat.zero_le _) (Nat.zero_le _) ⟨rfl, Or.inr ⟨hh, _, rfl, rfl⟩, rfl⟩
set_option maxHeartbeats 4000000 in
set_option maxRecDepth 100000 in
theorem cM_thrown {w : zW} {t : Int32} (h : thr w t) : zK 0 zX7_thrown [.ref 76] w (fun r w' => r = some (.int t) ∧ w' = w) := by
  obtain ⟨fs, h1, h2⟩ := h
  refine zK_of qX7_thrown (by decide +kernel) rfl ?_
  iterate 1 (refine zv_step (bX7_thrown 0) rfl rfl trivial ?_)
  refine zv_getf (bX7_thrown 0) rfl h1 h2 ?_
  exact zv_iret (bX7_thrown 0) rfl (Or.inl rfl) (Nat.zero_le _) (Nat.zero_le _) ⟨rfl, rfl⟩
def R_where (p a : Int32) : Prop := ((0 ≤ p.toInt ∧ p.toInt ≤ 2) ∧ a = -2) ∨ (¬ (0 ≤ p.toInt ∧ p.toInt ≤ 2) ∧ a = -1)
theorem F_where {p a b : Int32} (h1 : R_where p a) (h2 : R_where p b) : a = b := by
  rcases h1 with ⟨c1, rfl⟩ | ⟨c1, rfl⟩ <;> rcases h2 with ⟨c2, rfl⟩ | ⟨c2, rfl⟩ <;> first | rfl | exact absurd c1 c2 | exact absurd c2 c1
set_option maxHeartbeats 4000000 in
set_option maxRecDepth 100000 in
theorem cX_where (p : Int32) : zK 3 zX6_where [.ref 0, .int p] w0 (fun r w' => (∃ a, r = some (.int a) ∧ R_where p a) ∧ w' = w0) := by
  refine zK_of qX6_where (by decide +kernel) rfl ?_
  iterate 2 (refine zv_step (bX6_where 3) rfl rfl trivial ?_)
  refine zv_ifb (fun hc => ?_) (fun hc => ?_)
  · rw [Int32.lt_iff_toInt_lt, Int32.toInt_zero] at hc
    iterate 1 (refine zv_step (bX6_where 3) rfl rfl trivial ?_)
    exact zv_iret (bX6_where 3) rfl (Or.inl rfl) (Nat.zero_le _) (Nat.zero_le _) ⟨⟨_, rfl, Or.inr ⟨by omega, rfl⟩⟩, rfl⟩
  · rw [Int32.lt_iff_toInt_lt, Int32.toInt_zero] at hc
    iterate 3 (refine zv_step (bX6_where 3) rfl rfl trivial ?_)
    refine zv_ifb (fun hd => ?_) (fun hd => ?_)
    · rw [Int32.le_iff_toInt_le, i32c 2 (by decide)] at hd
      iterate 2 (refine zv_step (bX6_where 3) rfl rfl trivial ?_)
      refine zv_V0 (bX6_where 3) rfl rfl rfl rfl rfl rfl rfl ⟨rfl, rfl, rfl⟩ ⟨Nat.le_of_ble_eq_true rfl, Nat.le_of_ble_eq_true rfl⟩ ⟨Nat.zero_le _, Nat.zero_le _⟩ hBegun ?_
      rintro _ _ ⟨rfl, rfl⟩
      iterate 1 (refine zv_step (bX6_where 3) rfl rfl trivial ?_)
      refine zv_iff (by decide) ?_
      iterate 1 (refine zv_step (bX6_where 3) rfl rfl trivial ?_)
      exact zv_iret (bX6_where 3) rfl (Or.inl rfl) (Nat.zero_le _) (Nat.zero_le _) ⟨⟨_, rfl, Or.inl ⟨by omega, rfl⟩⟩, rfl⟩
    · rw [Int32.le_iff_toInt_le, i32c 2 (by decide)] at hd
      iterate 1 (refine zv_step (bX6_where 3) rfl rfl trivial ?_)
      exact zv_iret (bX6_where 3) rfl (Or.inl rfl) (Nat.zero_le _) (Nat.zero_le _) ⟨⟨_, rfl, Or.inr ⟨by omega, rfl⟩⟩, rfl⟩
set_option maxHeartbeats 4000000 in
set_option maxRecDepth 100000 in
theorem hL_where (p : Int32) : zKh 9 zL_where [(0, 9, 12, 19)] [.ref 0, .int p, .ref 99] w0 (fun r w' => r = some (.int 0) ∧ ∃ a, R_where p a ∧ w' = w0.set 99 (zJ 1 (vp_updL (fun _ => 0) (Int32.ofInt 0).toNatClampNeg a.toInt64))) := by
  refine zKh_of (by decide +kernel) rfl ?_
  iterate 4 (refine zv_step bL_where rfl rfl trivial ?_)
  refine zv_V1 bL_where rfl rfl rfl rfl rfl rfl rfl ⟨rfl, rfl, rfl⟩ ⟨Nat.le_of_ble_eq_true rfl, Nat.le_of_ble_eq_true rfl⟩ ⟨Nat.zero_le _, Nat.zero_le _⟩ (cX_where p) ?_
  rintro _ _ ⟨⟨a, rfl, ha⟩, rfl⟩
  iterate 1 (refine zv_step bL_where rfl rfl trivial ?_)
  refine zv_step bL_where rfl rfl (by unfold vp_in; decide) ?_
  iterate 2 (refine zv_step bL_where rfl rfl trivial ?_)
  exact zv_iret bL_where rfl (Or.inl rfl) (Nat.zero_le _) (Nat.zero_le _) ⟨rfl, a, ha, rfl⟩
set_option maxHeartbeats 4000000 in
set_option maxRecDepth 100000 in
theorem cM_where (p : Int32) (f : Nat → zC) (c : zC) : zK 3 zX7_where [.ref 76, .int p] ((wM f).set 99 c) (fun r w' => (∃ a, r = some (.int a) ∧ R_where p a) ∧ thr w' 0 ∧ w'[99]? = some c) := by
  refine zK_of qX7_where (by decide +kernel) rfl ?_
  iterate 7 (refine zv_step (bX7_where 3) rfl rfl trivial ?_)
  refine zv_S3 (bX7_where 3) rfl rfl rfl rfl ⟨rfl, rfl, rfl⟩ ⟨Nat.le_of_ble_eq_true rfl, Nat.le_of_ble_eq_true rfl⟩ ⟨Nat.zero_le _, Nat.zero_le _⟩ (hX7_in _ _ _ _) ?_
  rintro _ _ ⟨rfl, ⟨hh, rfl⟩ | ⟨hh, rfl⟩⟩
  · rw [in02] at hh
    iterate 1 (refine zv_step (bX7_where 3) rfl rfl trivial ?_)
    refine zv_ift (by decide) ?_
    iterate 3 (refine zv_step (bX7_where 3) rfl rfl trivial ?_)
    refine zv_iff (by decide) ?_
    iterate 1 (refine zv_step (bX7_where 3) rfl rfl trivial ?_)
    exact zv_iret (bX7_where 3) rfl (Or.inl rfl) (Nat.zero_le _) (Nat.zero_le _) ⟨⟨_, rfl, Or.inl ⟨hh, rfl⟩⟩, ⟨_, rfl, rfl⟩, rfl⟩
  · rw [in02] at hh
    iterate 1 (refine zv_step (bX7_where 3) rfl rfl trivial ?_)
    refine zv_iff (by decide) ?_
    iterate 1 (refine zv_step (bX7_where 3) rfl rfl trivial ?_)
    exact zv_iret (bX7_where 3) rfl (Or.inl rfl) (Nat.zero_le _) (Nat.zero_le _) ⟨⟨_, rfl, Or.inr ⟨hh, rfl⟩⟩, ⟨_, rfl, rfl⟩, rfl⟩
def sh7 (p : Int32) : Prop := 0 ≤ p.toInt ∧ p.toInt ≤ 7
abbrev QE : Option Value → zW → Prop := fun _ _ => False
abbrev XE (p : Int32) : String → zW → Prop := fun E w' => ((¬ sh7 p ∧ E = "java/lang/IllegalArgumentException") ∨ (sh7 p ∧ E = "java/lang/IllegalStateException")) ∧ w' = w0
theorem bxE (p : Int32) (n : Nat) : zTb (zMx 7 zX6_element (XE p) QE n) tX6_element := ⟨fRX6, gRX6, oX6_element⟩
set_option maxHeartbeats 4000000 in
set_option maxRecDepth 100000 in
theorem hHasRow0 {w : zW} {s : Nat} {fs : List Value} (hs : w[s]? = some (zO 2 (.int 0 :: fs))) : zK 0 zX3_hasRow [.ref s] w (fun r w' => w' = w ∧ r = some (.int 0)) := by
  refine zK_of qX3_hasRow (by decide +kernel) rfl ?_
  repeat' (first
    | refine zv_ift (by decide) ?_
    | refine zv_iff (by decide) ?_
    | refine zv_getf (bX3_hasRow 0) rfl hs rfl ?_
    | refine zv_step (bX3_hasRow 0) rfl rfl trivial ?_
    | refine zv_iret (bX3_hasRow 0) rfl (Or.inr ⟨rfl, Or.inl rfl⟩) (Nat.zero_le _) (Nat.zero_le _) ?_)
  all_goals exact ⟨rfl, rfl⟩
set_option maxHeartbeats 4000000 in
set_option maxRecDepth 100000 in
theorem cX_element (p q : Int32) : zKt 7 zX6_element [.ref 0, .int p, .int q] w0 QE (XE p) := by
  refine zKt_of (by decide +kernel) rfl ?_
  iterate 1 (refine zv_step (bxE p _) rfl rfl trivial ?_)
  refine zv_S1 (bxE p _) rfl rfl rfl rfl ⟨rfl, rfl, rfl⟩ ⟨Nat.le_of_ble_eq_true rfl, Nat.le_of_ble_eq_true rfl⟩ ⟨Nat.zero_le _, Nat.zero_le _⟩ (hX6_isShelf _ _) ?_
  rintro _ _ ⟨rfl, ⟨hh, rfl⟩ | ⟨hh, rfl⟩⟩
  · obtain ⟨s1, q1, ls, lq, hsq, g1, c1, r1⟩ := shelf_at2 hh
    iterate 1 (refine zv_step (bxE p _) rfl rfl trivial ?_)
    refine zv_ift (by decide) ?_
    iterate 3 (refine zv_step (bxE p _) rfl rfl trivial ?_)
    refine zv_aald (bxE p _) rfl (Or.inl rfl) rfl (vp_in_iff.mpr ⟨hh.1, Int.lt_of_le_of_lt hh.2 (by decide)⟩) g1 ?_
    iterate 2 (refine zv_step (bxE p _) rfl rfl trivial ?_)
    refine zv_V0 (bxE p _) rfl rfl rfl c1 rfl rfl rfl ⟨rfl, rfl, rfl⟩ ⟨Nat.le_of_ble_eq_true rfl, Nat.le_of_ble_eq_true rfl⟩ ⟨Nat.zero_le _, Nat.zero_le _⟩ (hHasRow0 c1) ?_
    rintro _ _ ⟨rfl, rfl⟩
    iterate 1 (refine zv_step (bxE p _) rfl rfl trivial ?_)
    refine zv_iff (by decide) ?_
    exact zv_throwSW (text := "the shelf holds no row") (names := ["java/lang/RuntimeException", "java/lang/Exception"]) (by decide +kernel) (by decide +kernel) (by decide +kernel) (by decide +kernel) (by decide +kernel) fISE kISE aISE gISE (fun A U H h => ⟨h.2.2.2.2.1, h.2.2.2.2.2.2.2.2.1⟩) ⟨by decide, by decide⟩ ⟨Or.inr ⟨hh, rfl⟩, rfl⟩
  · iterate 1 (refine zv_step (bxE p _) rfl rfl trivial ?_)
    refine zv_iff (by decide) ?_
    exact zv_throwSW (text := "no such shelf") (names := ["java/lang/RuntimeException", "java/lang/Exception"]) (by decide +kernel) (by decide +kernel) (by decide +kernel) (by decide +kernel) (by decide +kernel) fIAE kIAE aIAE gIAE (fun A U H h => ⟨h.2.2.2.1, h.2.2.2.2.2.2.2.1⟩) ⟨by decide, by decide⟩ ⟨Or.inl ⟨hh, rfl⟩, rfl⟩
set_option maxHeartbeats 4000000 in
set_option maxRecDepth 100000 in
theorem hL_element (p q : Int32) : zKh 9 zL_element [(0, 9, 12, 13), (0, 9, 16, 19)] [.ref 0, .int p, .int q, .ref 99] w0 (fun r w' => ((sh7 p ∧ r = some (.int 2)) ∨ (¬ sh7 p ∧ r = some (.int 1))) ∧ w' = w0) := by
  refine zKh_of (by decide +kernel) rfl ?_
  iterate 5 (refine zv_step bL_element rfl rfl trivial ?_)
  refine zv_callX bL_element rfl rfl (As := [.int p, .int q]) (rest := [.int (Int32.ofInt 0), .ref 99]) rfl rfl rfl rfl rfl rfl (by decide) ⟨by decide, by decide⟩ (cX_element p q) ?_ ?_
  · intro r w1 hf
    exact hf.elim
  · rintro E w1 ⟨⟨hs, rfl⟩ | ⟨hs, rfl⟩, rfl⟩
    · refine ⟨4, 14, ⟨[], ⟨0, 9, 12, 13⟩, [⟨0, 9, 16, 19⟩], "java/lang/IllegalArgumentException", rfl, fun y h => absurd h List.not_mem_nil, by decide, by decide, cl13, fun A U H h => h.2.2.2.2.2.2.2.1, by decide, Or.inr ⟨by decide +kernel, rfl⟩⟩, ?_⟩
      iterate 1 (refine zv_step bL_element rfl rfl trivial ?_)
      exact zv_iret bL_element rfl (Or.inl rfl) (Nat.le_refl 1) (Nat.le_refl 6) ⟨Or.inr ⟨hs, rfl⟩, rfl⟩
    · refine ⟨4, 18, ⟨[⟨0, 9, 12, 13⟩], ⟨0, 9, 16, 19⟩, [], "java/lang/IllegalStateException", rfl, fun y h => Or.inr (by
        cases h with
        | head => exact ⟨by decide, "java/lang/IllegalArgumentException", cl13, fun A U H h => h.2.2.2.2.2.2.2.2.2⟩
        | tail _ h => cases h), by decide, by decide, cl19, fun A U H h => h.2.2.2.2.2.2.2.2.1, by decide, Or.inr ⟨by decide +kernel, rfl⟩⟩, ?_⟩
      iterate 1 (refine zv_step bL_element rfl rfl trivial ?_)
      exact zv_iret bL_element rfl (Or.inl rfl) (Nat.le_refl 1) (Nat.le_refl 6) ⟨Or.inl ⟨hs, rfl⟩, rfl⟩
set_option maxHeartbeats 4000000 in
set_option maxRecDepth 100000 in
theorem cM_element (p q : Int32) (f : Nat → zC) : zK 3 zX7_element [.ref 76, .int p, .int q] (wM f) (fun r w' => r = some (.long 0) ∧ ((sh7 p ∧ thr w' 2) ∨ (¬ sh7 p ∧ thr w' 1))) := by
  refine zK_of qX7_element (by decide +kernel) rfl ?_
  iterate 2 (refine zv_step (bX7_element 3) rfl rfl trivial ?_)
  refine zv_S1 (bX7_element 3) rfl rfl rfl rfl ⟨rfl, rfl, rfl⟩ ⟨Nat.le_of_ble_eq_true rfl, Nat.le_of_ble_eq_true rfl⟩ ⟨Nat.zero_le _, Nat.zero_le _⟩ (hX7_isShelf _ _) ?_
  rintro _ _ ⟨rfl, ⟨hh, rfl⟩ | ⟨hh, rfl⟩⟩
  · iterate 1 (refine zv_step (bX7_element 3) rfl rfl trivial ?_)
    refine zv_ift (by decide) ?_
    iterate 3 (refine zv_step (bX7_element 3) rfl rfl trivial ?_)
    refine zv_iale (bX7_element 3) rfl rfl (vp_in_iff.mpr ⟨hh.1, Int.lt_of_le_of_lt hh.2 (by decide)⟩) (v := 0) rfl ?_
    iterate 2 (refine zv_step (bX7_element 3) rfl rfl trivial ?_)
    refine zv_ift (by decide) ?_
    iterate 6 (refine zv_step (bX7_element 3) rfl rfl trivial ?_)
    refine zv_ift (by decide) ?_
    iterate 1 (refine zv_step (bX7_element 3) rfl rfl trivial ?_)
    exact zv_lret (bX7_element 3) rfl rfl (Nat.zero_le _) (Nat.zero_le _) ⟨rfl, Or.inl ⟨hh, _, rfl, rfl⟩⟩
  · iterate 1 (refine zv_step (bX7_element 3) rfl rfl trivial ?_)
    refine zv_iff (by decide) ?_
    iterate 6 (refine zv_step (bX7_element 3) rfl rfl trivial ?_)
    refine zv_ift (by decide) ?_
    iterate 1 (refine zv_step (bX7_element 3) rfl rfl trivial ?_)
    exact zv_lret (bX7_element 3) rfl rfl (Nat.zero_le _) (Nat.zero_le _) ⟨rfl, Or.inr ⟨hh, _, rfl, rfl⟩⟩
