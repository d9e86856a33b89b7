/-- what a shelf refuses where a NODE is wanted: 0 if there is one -/
def rfR (H : Nat → Int32) (x v : Int32) : Prop := (v = Int32.ofInt (-1) ∧ ¬ sh7 x) ∨ ∃ s, s < 8 ∧ x = nI s ∧ ((v = c8 (-11) ∧ H s = nI 0) ∨ (v = c8 (-12) ∧ ¬ H s = nI 0 ∧ ¬ H s = nI 1) ∨ (v = Int32.ofInt 0 ∧ H s = nI 1))
theorem rfR_0 {H : Nat → Int32} {x v : Int32} (h : rfR H x v) : (¬ 0 ≤ v ∧ ¬ v = 0) ∨ (v = Int32.ofInt 0 ∧ ∃ s, s < 8 ∧ x = nI s ∧ H s = nI 1) := by
  rcases h with ⟨e, _⟩ | ⟨s, hs, ex, ⟨e, _⟩ | ⟨e, _⟩ | ⟨e, q⟩⟩
  · exact Or.inl (by rw [e]; decide)
  · exact Or.inl (by rw [e]; decide)
  · exact Or.inl (by rw [e]; decide)
  · exact Or.inr ⟨e, s, hs, ex, q⟩
theorem rfR_same {H H' : Nat → Int32} {x v v' : Int32} (hH : ∀ s, s < 8 → H s = H' s) (h : rfR H x v) (h' : rfR H' x v') : v = v' := by
  have sh : ∀ s, s < 8 → sh7 (nI s) := fun s hs => by
    unfold sh7
    rw [nI_toInt (by omega)]
    omega
  rcases h with ⟨e, q⟩ | ⟨s, hs, ex, h⟩ <;> rcases h' with ⟨e', q'⟩ | ⟨s', hs', ex', h'⟩
  · rw [e, e']
  · exact absurd (by rw [ex']; exact sh _ hs') q
  · exact absurd (by rw [ex]; exact sh _ hs) q'
  · have es : s = s' := (nI_eq (by omega) (by omega)).mp (ex.symm.trans ex')
    subst es
    rw [← hH s hs] at h'
    rcases h with ⟨e, q⟩ | ⟨e, q⟩ | ⟨e, q⟩ <;> rcases h' with ⟨e', q'⟩ | ⟨e', q'⟩ | ⟨e', q'⟩
    · rw [e, e']
    · exact absurd q q'.1
    · exact absurd (q.symm.trans q') (by decide)
    · exact absurd q' q.1
    · rw [e, e']
    · exact absurd q' q.2
    · exact absurd (q'.symm.trans q) (by decide)
    · exact absurd q q'.2
    · rw [e, e']
/-- the answer: a refusal, or what the shelf's NODE tells -/
def nvR (H : Nat → Int32) (V : Nat → Int32) (x R : Int32) : Prop := ∃ v, rfR H x v ∧ ((¬ v = 0 ∧ R = v) ∨ (v = 0 ∧ ∃ s, s < 8 ∧ x = nI s ∧ H s = nI 1 ∧ R = V s))
theorem nvR_same {H H' V V' : Nat → Int32} {x R R' : Int32} (hH : ∀ s, s < 8 → H s = H' s) (hV : ∀ s, s < 8 → H s = nI 1 → V s = V' s) (g : nvR H V x R) (g' : nvR H' V' x R') : R = R' := by
  obtain ⟨v, h, g⟩ := g
  obtain ⟨v', h', g'⟩ := g'
  have e := rfR_same hH h h'
  subst e
  rcases g with ⟨q, r⟩ | ⟨q, s, hs, ex, hh, r⟩ <;> rcases g' with ⟨q', r'⟩ | ⟨q', s', hs', ex', hh', r'⟩
  · rw [r, r']
  · exact absurd q' q
  · exact absurd q q'
  · have es : s = s' := (nI_eq (by omega) (by omega)).mp (ex.symm.trans ex')
    subst es
    rw [r, r', hV s hs hh]
def wgV (k v z : Int32) : Int32 := if k = nI 1 then z + c8 10 + v else if k = nI 5 ∨ k = nI 6 then z + c8 10 + c8 100 else if k = nI 8 then (z + c8 10) * Int32.ofInt 2 else if k = nI 9 then z + c8 10 + (Int16.ofInt 1000).toInt32 else z + c8 10
theorem wgV_o {k v z : Int32} (h : ∀ c, c = 1 ∨ c = 5 ∨ c = 6 ∨ c = 8 ∨ c = 9 → ¬ k = nI c) : wgV k v z = z + c8 10 := by
  unfold wgV
  rw [if_neg (h 1 (by omega)), if_neg (fun q => q.elim (h 5 (by omega)) (h 6 (by omega))), if_neg (h 8 (by omega)), if_neg (h 9 (by omega))]
theorem wgV_d {k v z : Int32} (h : k.toInt < 1 ∨ 9 < k.toInt) : wgV k v z = z + c8 10 := wgV_o (fun c hc e => by
  rw [e, nI_toInt (by omega)] at h
  omega)
def tsV (v : Int32) (n : Int32) : Int32 := if v = n then c8 (-15) else v
set_option maxHeartbeats 1000000 in
set_option maxRecDepth 20000 in
theorem cRefusalX (O : Nat → Int32) (P : Nat → Nat → Int32) (Y : Nat → Nat → Int64) (g : Nat → zC) (x : Int32) : zK 1 zX6_nodeRefusal [.ref 0, .int x] (wX O P Y g) (fun r w' => w' = wX O P Y g ∧ ∃ v : Int32, r = some (.int v) ∧ rfR (fun s => O (20 + 10 * s)) x v) := by
  refine zK_of qX6_nodeRefusal (by decide +kernel) rfl ?_
  iterate 1 (refine zv_step (bX6_nodeRefusal 1) rfl rfl trivial ?_)
  refine zv_S1 (bX6_nodeRefusal 1) rfl rfl rfl rfl ⟨rfl, rfl, rfl⟩ ⟨by decide, by decide⟩ ⟨Nat.zero_le _, Nat.zero_le _⟩ (hX6_isShelf _ _) ?_
  rintro _ _ ⟨rfl, ⟨hx, rfl⟩ | ⟨hx, rfl⟩⟩
  · obtain ⟨s, hs, rfl⟩ := sh_of hx
    iterate 1 (refine zv_step (bX6_nodeRefusal 1) rfl rfl trivial ?_)
    refine zv_ift (by decide) ?_
    iterate 1 (refine zv_step (bX6_nodeRefusal 1) rfl rfl trivial ?_)
    refine zv_getf (bX6_nodeRefusal 1) rfl (rfl) rfl ?_
    iterate 1 (refine zv_step (bX6_nodeRefusal 1) rfl rfl trivial ?_)
    refine zv_aald (bX6_nodeRefusal 1) rfl (Or.inl rfl) rfl (show vp_in (nI s) 8 from vp_in_nI (by omega) (by decide)) (show ([some 59, some 61, some 63, some 65, some 67, some 69, some 71, some 73] : List (Option Nat)).getD (nI s).toNatClampNeg none = some (59 + 2 * s) by rw [nI_clamp (by omega)]; exact dSs hs) ?_
    refine zv_getf (bX6_nodeRefusal 1) rfl (wS O P Y g hs) rfl ?_
    iterate 1 (refine zv_step (bX6_nodeRefusal 1) rfl rfl trivial ?_)
    refine zv_ifb (fun h18 => ?_) (fun h18 => ?_)
    · iterate 1 (refine zv_step (bX6_nodeRefusal 1) rfl rfl trivial ?_)
      refine zv_getf (bX6_nodeRefusal 1) rfl (rfl) rfl ?_
      iterate 1 (refine zv_step (bX6_nodeRefusal 1) rfl rfl trivial ?_)
      refine zv_aald (bX6_nodeRefusal 1) rfl (Or.inl rfl) rfl (show vp_in (nI s) 8 from vp_in_nI (by omega) (by decide)) (show ([some 59, some 61, some 63, some 65, some 67, some 69, some 71, some 73] : List (Option Nat)).getD (nI s).toNatClampNeg none = some (59 + 2 * s) by rw [nI_clamp (by omega)]; exact dSs hs) ?_
      refine zv_getf (bX6_nodeRefusal 1) rfl (wS O P Y g hs) rfl ?_
      iterate 2 (refine zv_step (bX6_nodeRefusal 1) rfl rfl trivial ?_)
      refine zv_ifb (fun h34 => ?_) (fun h34 => ?_)
      · iterate 1 (refine zv_step (bX6_nodeRefusal 1) rfl rfl trivial ?_)
        exact zv_iret (bX6_nodeRefusal 1) rfl (Or.inl rfl) (Nat.zero_le _) (Nat.zero_le _) ⟨rfl, _, rfl, Or.inr ⟨s, hs, rfl, Or.inr (Or.inl ⟨rfl, h18, h34⟩)⟩⟩
      · iterate 2 (refine zv_step (bX6_nodeRefusal 1) rfl rfl trivial ?_)
        exact zv_iret (bX6_nodeRefusal 1) rfl (Or.inl rfl) (Nat.zero_le _) (Nat.zero_le _) ⟨rfl, _, rfl, Or.inr ⟨s, hs, rfl, Or.inr (Or.inr ⟨rfl, Decidable.not_not.mp h34⟩)⟩⟩
    · iterate 1 (refine zv_step (bX6_nodeRefusal 1) rfl rfl trivial ?_)
      exact zv_iret (bX6_nodeRefusal 1) rfl (Or.inl rfl) (Nat.zero_le _) (Nat.zero_le _) ⟨rfl, _, rfl, Or.inr ⟨s, hs, rfl, Or.inl ⟨rfl, Decidable.not_not.mp h18⟩⟩⟩
  · skip
    iterate 1 (refine zv_step (bX6_nodeRefusal 1) rfl rfl trivial ?_)
    refine zv_iff (by decide) ?_
    iterate 1 (refine zv_step (bX6_nodeRefusal 1) rfl rfl trivial ?_)
    exact zv_iret (bX6_nodeRefusal 1) rfl (Or.inl rfl) (Nat.zero_le _) (Nat.zero_le _) ⟨rfl, _, rfl, Or.inl ⟨rfl, hx⟩⟩
set_option maxHeartbeats 1000000 in
set_option maxRecDepth 20000 in
theorem cTossX (O : Nat → Int32) (P : Nat → Nat → Int32) (Y : Nat → Nat → Int64) (g : Nat → zC) (x : Int32) : zK 2 zX6_toss [.ref 0, .int x] (wX O P Y g) (fun r w' => w' = wX O P Y g ∧ ∃ R : Int32, r = some (.int R) ∧ nvR (fun s => O (20 + 10 * s)) (fun s => tsV (O (21 + 10 * s)) (Int32.ofInt (-1))) x R) := by
  refine zK_of qX6_toss (by decide +kernel) rfl ?_
  iterate 2 (refine zv_step (bX6_toss 2) rfl rfl trivial ?_)
  refine zv_V1 (bX6_toss 2) rfl rfl rfl rfl rfl rfl rfl ⟨rfl, rfl, rfl⟩ ⟨by decide, by decide⟩ ⟨Nat.zero_le _, Nat.zero_le _⟩ (cRefusalX O P Y g _) ?_
  rintro _ _ ⟨rfl, v, rfl, hv⟩
  have hv0 := rfR_0 hv
  iterate 3 (refine zv_step (bX6_toss 2) rfl rfl trivial ?_)
  refine zv_ifb (fun h7 => ?_) (fun h7 => ?_)
  · obtain ⟨ev, s, hs, rfl, q1⟩ := hv0.resolve_left (fun q => q.1 h7)
    iterate 1 (refine zv_step (bX6_toss 2) rfl rfl trivial ?_)
    refine zv_getf (bX6_toss 2) rfl (rfl) rfl ?_
    iterate 1 (refine zv_step (bX6_toss 2) rfl rfl trivial ?_)
    refine zv_aald (bX6_toss 2) rfl (Or.inl rfl) rfl (show vp_in (nI s) 8 from vp_in_nI (by omega) (by decide)) (show ([some 59, some 61, some 63, some 65, some 67, some 69, some 71, some 73] : List (Option Nat)).getD (nI s).toNatClampNeg none = some (59 + 2 * s) by rw [nI_clamp (by omega)]; exact dSs hs) ?_
    refine zv_getf (bX6_toss 2) rfl (wS O P Y g hs) rfl ?_
    iterate 2 (refine zv_step (bX6_toss 2) rfl rfl trivial ?_)
    refine zv_ifb (fun h22 => ?_) (fun h22 => ?_)
    · iterate 1 (refine zv_step (bX6_toss 2) rfl rfl trivial ?_)
      refine zv_getf (bX6_toss 2) rfl (rfl) rfl ?_
      iterate 1 (refine zv_step (bX6_toss 2) rfl rfl trivial ?_)
      refine zv_aald (bX6_toss 2) rfl (Or.inl rfl) rfl (show vp_in (nI s) 8 from vp_in_nI (by omega) (by decide)) (show ([some 59, some 61, some 63, some 65, some 67, some 69, some 71, some 73] : List (Option Nat)).getD (nI s).toNatClampNeg none = some (59 + 2 * s) by rw [nI_clamp (by omega)]; exact dSs hs) ?_
      refine zv_getf (bX6_toss 2) rfl (wS O P Y g hs) rfl ?_
      exact zv_iret (bX6_toss 2) rfl (Or.inl rfl) (Nat.zero_le _) (Nat.zero_le _) ⟨rfl, _, rfl, v, hv, Or.inr ⟨ev, s, hs, rfl, q1, (if_neg h22).symm⟩⟩
    · iterate 2 (refine zv_step (bX6_toss 2) rfl rfl trivial ?_)
      exact zv_iret (bX6_toss 2) rfl (Or.inl rfl) (Nat.zero_le _) (Nat.zero_le _) ⟨rfl, _, rfl, v, hv, Or.inr ⟨ev, s, hs, rfl, q1, (if_pos (Decidable.not_not.mp h22)).symm⟩⟩
  · have hn : ¬ v = 0 := fun e => h7 (by rw [e]; decide)
    iterate 1 (refine zv_step (bX6_toss 2) rfl rfl trivial ?_)
    exact zv_iret (bX6_toss 2) rfl (Or.inl rfl) (Nat.zero_le _) (Nat.zero_le _) ⟨rfl, _, rfl, v, hv, Or.inl ⟨hn, rfl⟩⟩
set_option maxHeartbeats 1000000 in
set_option maxRecDepth 20000 in
theorem cWeighTX (O : Nat → Int32) (P : Nat → Nat → Int32) (Y : Nat → Nat → Int64) (g : Nat → zC) {s : Nat} (hs : s < 8) {n0 : Nat} : zV (zMo 0 zX3_weighNode) false n0 0 0 12 [(1, .int (O (23 + 10 * s) + c8 10)), (0, .ref (59 + 2 * s))] [.int (O (22 + 10 * s))] (wX O P Y g) (fun r w' => w' = wX O P Y g ∧ r = some (.int (wgV (O (22 + 10 * s)) (O (21 + 10 * s)) (O (23 + 10 * s))))) := by
  by_cases hd : (O (22 + 10 * s)).toInt < 1 ∨ 9 < (O (22 + 10 * s)).toInt
  · refine zv_step (bX3_weighNode 0) rfl rfl (by decide) ?_
    rw [if_pos hd]
    iterate 1 (refine zv_step (bX3_weighNode 0) rfl rfl trivial ?_)
    exact zv_iret (bX3_weighNode 0) rfl (Or.inl rfl) (Nat.zero_le _) (Nat.zero_le _) ⟨rfl, congrArg (fun v => some (Value.int v)) ((wgV_d hd).symm)⟩
  · obtain ⟨c, hc, e⟩ : ∃ c : Nat, c < 9 ∧ O (22 + 10 * s) = nI (c + 1) := by
      refine ⟨(O (22 + 10 * s)).toInt.toNat - 1, by omega, ?_⟩
      rw [← Int32.toInt_inj, nI_toInt (by omega)]
      omega
    have e0 := e
    rw [show ([Value.int (O (22 + 10 * s))] : List Value) = [Value.int (nI (c + 1))] by rw [e]]
    match c, hc, e with
    | 0, _, e =>
      refine zv_step (bX3_weighNode 0) rfl rfl (by decide) ?_
      iterate 2 (refine zv_step (bX3_weighNode 0) rfl rfl trivial ?_)
      refine zv_getf (bX3_weighNode 0) rfl (wS O P Y g hs) rfl ?_
      iterate 1 (refine zv_step (bX3_weighNode 0) rfl rfl trivial ?_)
      exact zv_iret (bX3_weighNode 0) rfl (Or.inl rfl) (Nat.zero_le _) (Nat.zero_le _) ⟨rfl, congrArg (fun v => some (Value.int v)) (show _ = wgV (O (22 + 10 * s)) (O (21 + 10 * s)) (O (23 + 10 * s)) by rw [e]; unfold wgV; rw [if_pos rfl])⟩
    | 1, _, e =>
      refine zv_step (bX3_weighNode 0) rfl rfl (by decide) ?_
      iterate 1 (refine zv_step (bX3_weighNode 0) rfl rfl trivial ?_)
      exact zv_iret (bX3_weighNode 0) rfl (Or.inl rfl) (Nat.zero_le _) (Nat.zero_le _) ⟨rfl, congrArg (fun v => some (Value.int v)) (show _ = wgV (O (22 + 10 * s)) (O (21 + 10 * s)) (O (23 + 10 * s)) by rw [e]; exact (wgV_o (fun c hc => by rcases hc with rfl | rfl | rfl | rfl | rfl <;> decide)).symm)⟩
    | 2, _, e =>
      refine zv_step (bX3_weighNode 0) rfl rfl (by decide) ?_
      iterate 1 (refine zv_step (bX3_weighNode 0) rfl rfl trivial ?_)
      exact zv_iret (bX3_weighNode 0) rfl (Or.inl rfl) (Nat.zero_le _) (Nat.zero_le _) ⟨rfl, congrArg (fun v => some (Value.int v)) (show _ = wgV (O (22 + 10 * s)) (O (21 + 10 * s)) (O (23 + 10 * s)) by rw [e]; exact (wgV_o (fun c hc => by rcases hc with rfl | rfl | rfl | rfl | rfl <;> decide)).symm)⟩
    | 3, _, e =>
      refine zv_step (bX3_weighNode 0) rfl rfl (by decide) ?_
      iterate 1 (refine zv_step (bX3_weighNode 0) rfl rfl trivial ?_)
      exact zv_iret (bX3_weighNode 0) rfl (Or.inl rfl) (Nat.zero_le _) (Nat.zero_le _) ⟨rfl, congrArg (fun v => some (Value.int v)) (show _ = wgV (O (22 + 10 * s)) (O (21 + 10 * s)) (O (23 + 10 * s)) by rw [e]; exact (wgV_o (fun c hc => by rcases hc with rfl | rfl | rfl | rfl | rfl <;> decide)).symm)⟩
    | 4, _, e =>
      refine zv_step (bX3_weighNode 0) rfl rfl (by decide) ?_
      iterate 3 (refine zv_step (bX3_weighNode 0) rfl rfl trivial ?_)
      exact zv_iret (bX3_weighNode 0) rfl (Or.inl rfl) (Nat.zero_le _) (Nat.zero_le _) ⟨rfl, congrArg (fun v => some (Value.int v)) (show _ = wgV (O (22 + 10 * s)) (O (21 + 10 * s)) (O (23 + 10 * s)) by rw [e]; unfold wgV; rw [if_neg (by decide), if_pos (Or.inl rfl)])⟩
    | 5, _, e =>
      refine zv_step (bX3_weighNode 0) rfl rfl (by decide) ?_
      iterate 3 (refine zv_step (bX3_weighNode 0) rfl rfl trivial ?_)
      exact zv_iret (bX3_weighNode 0) rfl (Or.inl rfl) (Nat.zero_le _) (Nat.zero_le _) ⟨rfl, congrArg (fun v => some (Value.int v)) (show _ = wgV (O (22 + 10 * s)) (O (21 + 10 * s)) (O (23 + 10 * s)) by rw [e]; unfold wgV; rw [if_neg (by decide), if_pos (Or.inr rfl)])⟩
    | 6, _, e =>
      refine zv_step (bX3_weighNode 0) rfl rfl (by decide) ?_
      iterate 1 (refine zv_step (bX3_weighNode 0) rfl rfl trivial ?_)
      exact zv_iret (bX3_weighNode 0) rfl (Or.inl rfl) (Nat.zero_le _) (Nat.zero_le _) ⟨rfl, congrArg (fun v => some (Value.int v)) (show _ = wgV (O (22 + 10 * s)) (O (21 + 10 * s)) (O (23 + 10 * s)) by rw [e]; exact (wgV_o (fun c hc => by rcases hc with rfl | rfl | rfl | rfl | rfl <;> decide)).symm)⟩
    | 7, _, e =>
      refine zv_step (bX3_weighNode 0) rfl rfl (by decide) ?_
      iterate 3 (refine zv_step (bX3_weighNode 0) rfl rfl trivial ?_)
      exact zv_iret (bX3_weighNode 0) rfl (Or.inl rfl) (Nat.zero_le _) (Nat.zero_le _) ⟨rfl, congrArg (fun v => some (Value.int v)) (show _ = wgV (O (22 + 10 * s)) (O (21 + 10 * s)) (O (23 + 10 * s)) by rw [e]; unfold wgV; rw [if_neg (by decide), if_neg (by decide), if_pos rfl])⟩
    | 8, _, e =>
      refine zv_step (bX3_weighNode 0) rfl rfl (by decide) ?_
      iterate 3 (refine zv_step (bX3_weighNode 0) rfl rfl trivial ?_)
      exact zv_iret (bX3_weighNode 0) rfl (Or.inl rfl) (Nat.zero_le _) (Nat.zero_le _) ⟨rfl, congrArg (fun v => some (Value.int v)) (show _ = wgV (O (22 + 10 * s)) (O (21 + 10 * s)) (O (23 + 10 * s)) by rw [e]; unfold wgV; rw [if_neg (by decide), if_neg (by decide), if_neg (by decide), if_pos rfl])⟩
    | c + 9, h, _ => exact absurd h (by omega)
set_option maxHeartbeats 1000000 in
set_option maxRecDepth 20000 in
theorem cWeighX (O : Nat → Int32) (P : Nat → Nat → Int32) (Y : Nat → Nat → Int64) (g : Nat → zC) {s : Nat} (hs : s < 8) : zK 0 zX3_weighNode [.ref (59 + 2 * s)] (wX O P Y g) (fun r w' => w' = wX O P Y g ∧ r = some (.int (wgV (O (22 + 10 * s)) (O (21 + 10 * s)) (O (23 + 10 * s))))) := by
  refine zK_of qX3_weighNode (by decide +kernel) rfl ?_
  iterate 1 (refine zv_step (bX3_weighNode 0) rfl rfl trivial ?_)
  refine zv_getf (bX3_weighNode 0) rfl (wS O P Y g hs) rfl ?_
  iterate 4 (refine zv_step (bX3_weighNode 0) rfl rfl trivial ?_)
  refine zv_getf (bX3_weighNode 0) rfl (wS O P Y g hs) rfl ?_
  exact cWeighTX O P Y g hs
set_option maxHeartbeats 1000000 in
set_option maxRecDepth 20000 in
theorem cWeightX (O : Nat → Int32) (P : Nat → Nat → Int32) (Y : Nat → Nat → Int64) (g : Nat → zC) (x : Int32) : zK 2 zX6_weight [.ref 0, .int x] (wX O P Y g) (fun r w' => w' = wX O P Y g ∧ ∃ R : Int32, r = some (.int R) ∧ nvR (fun s => O (20 + 10 * s)) (fun s => wgV (O (22 + 10 * s)) (O (21 + 10 * s)) (O (23 + 10 * s))) x R) := by
  refine zK_of qX6_weight (by decide +kernel) rfl ?_
  iterate 2 (refine zv_step (bX6_weight 2) rfl rfl trivial ?_)
  refine zv_V1 (bX6_weight 2) rfl rfl rfl rfl rfl rfl rfl ⟨rfl, rfl, rfl⟩ ⟨by decide, by decide⟩ ⟨Nat.zero_le _, Nat.zero_le _⟩ (cRefusalX O P Y g _) ?_
  rintro _ _ ⟨rfl, v, rfl, hv⟩
  have hv0 := rfR_0 hv
  iterate 3 (refine zv_step (bX6_weight 2) rfl rfl trivial ?_)
  refine zv_ifb (fun h7 => ?_) (fun h7 => ?_)
  · obtain ⟨ev, s, hs, rfl, q1⟩ := hv0.resolve_left (fun q => q.1 h7)
    iterate 1 (refine zv_step (bX6_weight 2) rfl rfl trivial ?_)
    refine zv_getf (bX6_weight 2) rfl (rfl) rfl ?_
    iterate 1 (refine zv_step (bX6_weight 2) rfl rfl trivial ?_)
    refine zv_aald (bX6_weight 2) rfl (Or.inl rfl) rfl (show vp_in (nI s) 8 from vp_in_nI (by omega) (by decide)) (show ([some 59, some 61, some 63, some 65, some 67, some 69, some 71, some 73] : List (Option Nat)).getD (nI s).toNatClampNeg none = some (59 + 2 * s) by rw [nI_clamp (by omega)]; exact dSs hs) ?_
    refine zv_V0 (bX6_weight 2) rfl rfl rfl (wS O P Y g hs) rfl rfl rfl ⟨rfl, rfl, rfl⟩ ⟨by decide, by decide⟩ ⟨Nat.zero_le _, Nat.zero_le _⟩ (cWeighX O P Y g hs) ?_
    rintro _ _ ⟨rfl, rfl⟩
    exact zv_iret (bX6_weight 2) rfl (Or.inl rfl) (Nat.zero_le _) (Nat.zero_le _) ⟨rfl, _, rfl, v, hv, Or.inr ⟨ev, s, hs, rfl, q1, rfl⟩⟩
  · have hn : ¬ v = 0 := fun e => h7 (by rw [e]; decide)
    iterate 2 (refine zv_step (bX6_weight 2) rfl rfl trivial ?_)
    exact zv_iret (bX6_weight 2) rfl (Or.inl rfl) (Nat.zero_le _) (Nat.zero_le _) ⟨rfl, _, rfl, v, hv, Or.inl ⟨hn, rfl⟩⟩
set_option maxHeartbeats 1000000 in
set_option maxRecDepth 20000 in
theorem mHeldX (f : Nat → zC) (o : Nat → Int32) (A : Nat → Nat → Int32) (J : Nat → Nat → Int64) (d : Int32) : zK 2 zX7_held [.ref 76, .int d] (wR f o A J) (fun r w' => w' = (wR f o A J) ∧ ∃ v : Int32, r = some (.int v) ∧ rfR (A 9) d v) := by
  refine zK_of qX7_held (by decide +kernel) rfl ?_
  iterate 1 (refine zv_step (bX7_held 2) rfl rfl trivial ?_)
  refine zv_S1 (bX7_held 2) rfl rfl rfl rfl ⟨rfl, rfl, rfl⟩ ⟨by decide, by decide⟩ ⟨Nat.zero_le _, Nat.zero_le _⟩ (hX7_isShelf _ _) ?_
  rintro _ _ ⟨rfl, ⟨g1, rfl⟩ | ⟨g1, rfl⟩⟩
  · obtain ⟨s, hs, rfl⟩ := in_nat (b := 7) (by decide) g1
    iterate 1 (refine zv_step (bX7_held 2) rfl rfl trivial ?_)
    refine zv_ift (by decide) ?_
    iterate 3 (refine zv_step (bX7_held 2) rfl rfl trivial ?_)
    refine zv_iale (bX7_held 2) rfl rfl (show vp_in (nI s) 8 from vp_in_nI (by omega) (by decide)) (show A 9 (nI s).toNatClampNeg = A 9 s by rw [nI_clamp (by omega)]) ?_
    iterate 1 (refine zv_step (bX7_held 2) rfl rfl trivial ?_)
    refine zv_ifb (fun h17 => ?_) (fun h17 => ?_)
    · iterate 3 (refine zv_step (bX7_held 2) rfl rfl trivial ?_)
      refine zv_iale (bX7_held 2) rfl rfl (show vp_in (nI s) 8 from vp_in_nI (by omega) (by decide)) (show A 9 (nI s).toNatClampNeg = A 9 s by rw [nI_clamp (by omega)]) ?_
      iterate 2 (refine zv_step (bX7_held 2) rfl rfl trivial ?_)
      refine zv_ifb (fun h32 => ?_) (fun h32 => ?_)
      · iterate 1 (refine zv_step (bX7_held 2) rfl rfl trivial ?_)
        exact zv_iret (bX7_held 2) rfl (Or.inl rfl) (Nat.zero_le _) (Nat.zero_le _) ⟨rfl, _, rfl, Or.inr ⟨s, by omega, rfl, Or.inr (Or.inr ⟨rfl, h32⟩)⟩⟩
      · iterate 2 (refine zv_step (bX7_held 2) rfl rfl trivial ?_)
        exact zv_iret (bX7_held 2) rfl (Or.inl rfl) (Nat.zero_le _) (Nat.zero_le _) ⟨rfl, _, rfl, Or.inr ⟨s, by omega, rfl, Or.inr (Or.inl ⟨rfl, h17, h32⟩)⟩⟩
    · iterate 2 (refine zv_step (bX7_held 2) rfl rfl trivial ?_)
      exact zv_iret (bX7_held 2) rfl (Or.inl rfl) (Nat.zero_le _) (Nat.zero_le _) ⟨rfl, _, rfl, Or.inr ⟨s, by omega, rfl, Or.inl ⟨rfl, Decidable.not_not.mp h17⟩⟩⟩
  · skip
    iterate 1 (refine zv_step (bX7_held 2) rfl rfl trivial ?_)
    refine zv_iff (by decide) ?_
    iterate 2 (refine zv_step (bX7_held 2) rfl rfl trivial ?_)
    exact zv_iret (bX7_held 2) rfl (Or.inl rfl) (Nat.zero_le _) (Nat.zero_le _) ⟨rfl, _, rfl, Or.inl ⟨rfl, g1⟩⟩
set_option maxHeartbeats 1000000 in
set_option maxRecDepth 20000 in
theorem mTossX (f : Nat → zC) (o : Nat → Int32) (A : Nat → Nat → Int32) (J : Nat → Nat → Int64) (d : Int32) : zK 3 zX7_toss [.ref 76, .int d] (wR f o A J) (fun r w' => w' = (wR f o A J) ∧ ∃ R : Int32, r = some (.int R) ∧ nvR (A 9) (fun s => if A 11 s < 0 then c8 (-15) else A 11 s) d R) := by
  refine zK_of qX7_toss (by decide +kernel) rfl ?_
  iterate 2 (refine zv_step (bX7_toss 3) rfl rfl trivial ?_)
  refine zv_V1 (bX7_toss 3) rfl rfl rfl rfl rfl rfl rfl ⟨rfl, rfl, rfl⟩ ⟨by decide, by decide⟩ ⟨Nat.zero_le _, Nat.zero_le _⟩ (mHeldX f o A J _) ?_
  rintro _ _ ⟨rfl, v, rfl, hv⟩
  have hv0 := rfR_0 hv
  iterate 3 (refine zv_step (bX7_toss 3) rfl rfl trivial ?_)
  refine zv_ifb (fun h7 => ?_) (fun h7 => ?_)
  · obtain ⟨ev, s, hs, rfl, q1⟩ := hv0.resolve_left (fun q => q.2 h7)
    iterate 3 (refine zv_step (bX7_toss 3) rfl rfl trivial ?_)
    refine zv_iale (bX7_toss 3) rfl rfl (show vp_in (nI s) 8 from vp_in_nI (by omega) (by decide)) (show A 11 (nI s).toNatClampNeg = A 11 s by rw [nI_clamp (by omega)]) ?_
    iterate 1 (refine zv_step (bX7_toss 3) rfl rfl trivial ?_)
    refine zv_ifb (fun h20 => ?_) (fun h20 => ?_)
    · iterate 3 (refine zv_step (bX7_toss 3) rfl rfl trivial ?_)
      refine zv_iale (bX7_toss 3) rfl rfl (show vp_in (nI s) 8 from vp_in_nI (by omega) (by decide)) (show A 11 (nI s).toNatClampNeg = A 11 s by rw [nI_clamp (by omega)]) ?_
      exact zv_iret (bX7_toss 3) rfl (Or.inl rfl) (Nat.zero_le _) (Nat.zero_le _) ⟨rfl, _, rfl, v, hv, Or.inr ⟨ev, s, hs, rfl, q1, (if_neg (Int32.not_lt.mpr h20)).symm⟩⟩
    · iterate 2 (refine zv_step (bX7_toss 3) rfl rfl trivial ?_)
      exact zv_iret (bX7_toss 3) rfl (Or.inl rfl) (Nat.zero_le _) (Nat.zero_le _) ⟨rfl, _, rfl, v, hv, Or.inr ⟨ev, s, hs, rfl, q1, (if_pos (Int32.not_le.mp h20)).symm⟩⟩
  · have hn : ¬ v = 0 := h7
    iterate 2 (refine zv_step (bX7_toss 3) rfl rfl trivial ?_)
    exact zv_iret (bX7_toss 3) rfl (Or.inl rfl) (Nat.zero_le _) (Nat.zero_le _) ⟨rfl, _, rfl, v, hv, Or.inl ⟨hn, rfl⟩⟩
set_option maxHeartbeats 1000000 in
set_option maxRecDepth 20000 in
theorem mWeightTX (f : Nat → zC) (o : Nat → Int32) (A : Nat → Nat → Int32) (J : Nat → Nat → Int64) {s : Nat} (hs : s < 8) (v : Int32) {n0 : Nat} : zV (zMo 3 zX7_weight) false n0 0 0 28 [(3, .int (A 12 s + c8 10)), (2, .int v), (0, .ref 76), (1, .int (nI s))] [.int (A 10 s)] (wR f o A J) (fun r w' => w' = (wR f o A J) ∧ r = some (.int (wgV (A 10 s) (A 11 s) (A 12 s)))) := by
  by_cases hd : (A 10 s).toInt < 1 ∨ 9 < (A 10 s).toInt
  · refine zv_step (bX7_weight 3) rfl rfl (by decide) ?_
    rw [if_pos hd]
    iterate 1 (refine zv_step (bX7_weight 3) rfl rfl trivial ?_)
    exact zv_iret (bX7_weight 3) rfl (Or.inl rfl) (Nat.zero_le _) (Nat.zero_le _) ⟨rfl, congrArg (fun v => some (Value.int v)) ((wgV_d hd).symm)⟩
  · obtain ⟨c, hc, e⟩ : ∃ c : Nat, c < 9 ∧ A 10 s = nI (c + 1) := by
      refine ⟨(A 10 s).toInt.toNat - 1, by omega, ?_⟩
      rw [← Int32.toInt_inj, nI_toInt (by omega)]
      omega
    rw [show ([Value.int (A 10 s)] : List Value) = [Value.int (nI (c + 1))] by rw [e]]
    match c, hc, e with
    | 0, _, e =>
      refine zv_step (bX7_weight 3) rfl rfl (by decide) ?_
      iterate 4 (refine zv_step (bX7_weight 3) rfl rfl trivial ?_)
      refine zv_iale (bX7_weight 3) rfl rfl (show vp_in (nI s) 8 from vp_in_nI (by omega) (by decide)) (show A 11 (nI s).toNatClampNeg = A 11 s by rw [nI_clamp (by omega)]) ?_
      iterate 1 (refine zv_step (bX7_weight 3) rfl rfl trivial ?_)
      exact zv_iret (bX7_weight 3) rfl (Or.inl rfl) (Nat.zero_le _) (Nat.zero_le _) ⟨rfl, congrArg (fun v => some (Value.int v)) (show _ = wgV (A 10 s) (A 11 s) (A 12 s) by rw [e]; unfold wgV; rw [if_pos rfl])⟩
    | 1, _, e =>
      refine zv_step (bX7_weight 3) rfl rfl (by decide) ?_
      iterate 1 (refine zv_step (bX7_weight 3) rfl rfl trivial ?_)
      exact zv_iret (bX7_weight 3) rfl (Or.inl rfl) (Nat.zero_le _) (Nat.zero_le _) ⟨rfl, congrArg (fun v => some (Value.int v)) (show _ = wgV (A 10 s) (A 11 s) (A 12 s) by rw [e]; exact (wgV_o (fun c hc => by rcases hc with rfl | rfl | rfl | rfl | rfl <;> decide)).symm)⟩
    | 2, _, e =>
      refine zv_step (bX7_weight 3) rfl rfl (by decide) ?_
      iterate 1 (refine zv_step (bX7_weight 3) rfl rfl trivial ?_)
      exact zv_iret (bX7_weight 3) rfl (Or.inl rfl) (Nat.zero_le _) (Nat.zero_le _) ⟨rfl, congrArg (fun v => some (Value.int v)) (show _ = wgV (A 10 s) (A 11 s) (A 12 s) by rw [e]; exact (wgV_o (fun c hc => by rcases hc with rfl | rfl | rfl | rfl | rfl <;> decide)).symm)⟩
    | 3, _, e =>
      refine zv_step (bX7_weight 3) rfl rfl (by decide) ?_
      iterate 1 (refine zv_step (bX7_weight 3) rfl rfl trivial ?_)
      exact zv_iret (bX7_weight 3) rfl (Or.inl rfl) (Nat.zero_le _) (Nat.zero_le _) ⟨rfl, congrArg (fun v => some (Value.int v)) (show _ = wgV (A 10 s) (A 11 s) (A 12 s) by rw [e]; exact (wgV_o (fun c hc => by rcases hc with rfl | rfl | rfl | rfl | rfl <;> decide)).symm)⟩
    | 4, _, e =>
      refine zv_step (bX7_weight 3) rfl rfl (by decide) ?_
      iterate 3 (refine zv_step (bX7_weight 3) rfl rfl trivial ?_)
      exact zv_iret (bX7_weight 3) rfl (Or.inl rfl) (Nat.zero_le _) (Nat.zero_le _) ⟨rfl, congrArg (fun v => some (Value.int v)) (show _ = wgV (A 10 s) (A 11 s) (A 12 s) by rw [e]; unfold wgV; rw [if_neg (by decide), if_pos (Or.inl rfl)])⟩
    | 5, _, e =>
      refine zv_step (bX7_weight 3) rfl rfl (by decide) ?_
      iterate 3 (refine zv_step (bX7_weight 3) rfl rfl trivial ?_)
      exact zv_iret (bX7_weight 3) rfl (Or.inl rfl) (Nat.zero_le _) (Nat.zero_le _) ⟨rfl, congrArg (fun v => some (Value.int v)) (show _ = wgV (A 10 s) (A 11 s) (A 12 s) by rw [e]; unfold wgV; rw [if_neg (by decide), if_pos (Or.inr rfl)])⟩
    | 6, _, e =>
      refine zv_step (bX7_weight 3) rfl rfl (by decide) ?_
      iterate 1 (refine zv_step (bX7_weight 3) rfl rfl trivial ?_)
      exact zv_iret (bX7_weight 3) rfl (Or.inl rfl) (Nat.zero_le _) (Nat.zero_le _) ⟨rfl, congrArg (fun v => some (Value.int v)) (show _ = wgV (A 10 s) (A 11 s) (A 12 s) by rw [e]; exact (wgV_o (fun c hc => by rcases hc with rfl | rfl | rfl | rfl | rfl <;> decide)).symm)⟩
    | 7, _, e =>
      refine zv_step (bX7_weight 3) rfl rfl (by decide) ?_
      iterate 3 (refine zv_step (bX7_weight 3) rfl rfl trivial ?_)
      exact zv_iret (bX7_weight 3) rfl (Or.inl rfl) (Nat.zero_le _) (Nat.zero_le _) ⟨rfl, congrArg (fun v => some (Value.int v)) (show _ = wgV (A 10 s) (A 11 s) (A 12 s) by rw [e]; unfold wgV; rw [if_neg (by decide), if_neg (by decide), if_pos rfl, Int32.mul_comm])⟩
    | 8, _, e =>
      refine zv_step (bX7_weight 3) rfl rfl (by decide) ?_
      iterate 3 (refine zv_step (bX7_weight 3) rfl rfl trivial ?_)
      exact zv_iret (bX7_weight 3) rfl (Or.inl rfl) (Nat.zero_le _) (Nat.zero_le _) ⟨rfl, congrArg (fun v => some (Value.int v)) (show _ = wgV (A 10 s) (A 11 s) (A 12 s) by rw [e]; unfold wgV; rw [if_neg (by decide), if_neg (by decide), if_neg (by decide), if_pos rfl])⟩
    | c + 9, h, _ => exact absurd h (by omega)
set_option maxHeartbeats 1000000 in
set_option maxRecDepth 20000 in
theorem mWeightX (f : Nat → zC) (o : Nat → Int32) (A : Nat → Nat → Int32) (J : Nat → Nat → Int64) (d : Int32) : zK 3 zX7_weight [.ref 76, .int d] (wR f o A J) (fun r w' => w' = (wR f o A J) ∧ ∃ R : Int32, r = some (.int R) ∧ nvR (A 9) (fun s => wgV (A 10 s) (A 11 s) (A 12 s)) d R) := by
  refine zK_of qX7_weight (by decide +kernel) rfl ?_
  iterate 2 (refine zv_step (bX7_weight 3) rfl rfl trivial ?_)
  refine zv_V1 (bX7_weight 3) rfl rfl rfl rfl rfl rfl rfl ⟨rfl, rfl, rfl⟩ ⟨by decide, by decide⟩ ⟨Nat.zero_le _, Nat.zero_le _⟩ (mHeldX f o A J _) ?_
  rintro _ _ ⟨rfl, v, rfl, hv⟩
  have hv0 := rfR_0 hv
  iterate 3 (refine zv_step (bX7_weight 3) rfl rfl trivial ?_)
  refine zv_ifb (fun h7 => ?_) (fun h7 => ?_)
  · obtain ⟨ev, s, hs, rfl, q1⟩ := hv0.resolve_left (fun q => q.2 h7)
    iterate 3 (refine zv_step (bX7_weight 3) rfl rfl trivial ?_)
    refine zv_iale (bX7_weight 3) rfl rfl (show vp_in (nI s) 8 from vp_in_nI (by omega) (by decide)) (show A 12 (nI s).toNatClampNeg = A 12 s by rw [nI_clamp (by omega)]) ?_
    iterate 6 (refine zv_step (bX7_weight 3) rfl rfl trivial ?_)
    refine zv_iale (bX7_weight 3) rfl rfl (show vp_in (nI s) 8 from vp_in_nI (by omega) (by decide)) (show A 10 (nI s).toNatClampNeg = A 10 s by rw [nI_clamp (by omega)]) ?_
    refine zv_weak (fun r w q => ⟨q.1, _, q.2, v, hv, Or.inr ⟨ev, s, hs, rfl, q1, rfl⟩⟩) (mWeightTX f o A J hs _)
  · have hn : ¬ v = 0 := h7
    iterate 1 (refine zv_step (bX7_weight 3) rfl rfl trivial ?_)
    exact zv_iret (bX7_weight 3) rfl (Or.inl rfl) (Nat.zero_le _) (Nat.zero_le _) ⟨rfl, _, rfl, v, hv, Or.inl ⟨hn, rfl⟩⟩
