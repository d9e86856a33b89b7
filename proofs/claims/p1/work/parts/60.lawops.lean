abbrev zl0 : zL := [(4, .int (Int32.ofInt 0)), (3, .ref 99), (2, .ref 76), (1, .ref 0), (0, .ref zsent)]
set_option maxRecDepth 20000 in
theorem law_tail {b : Nat} {xs : Nat → Int32} {kc ks : Nat} (hk : kc ≤ room_1.cells ∧ ks ≤ room_1.slots) (w : zW) : zV (zLw b 6 xs) true 0 kc ks 1663 zl0 [] w (fun r _ => r = some (.int 1)) := by
  repeat (first
    | refine zv_step (bLw b 6 xs) rfl rfl trivial ?_
    | refine zv_slen rfl ?_)
  exact zv_iret (bLw b 6 xs) rfl (Or.inr ⟨rfl, Or.inr rfl⟩) hk.1 hk.2 rfl
set_option maxHeartbeats 4000000 in
set_option maxRecDepth 20000 in
theorem lop_node {b : Nat} {xs : Nat → Int32} {kc ks : Nat} (hk : kc ≤ room_1.cells ∧ ks ≤ room_1.slots) : zV (zLw b 6 xs) true 0 kc ks 233 zl0 [] w0 (fun r _ => r = some (.int 1)) := by
  repeat' (first
    | refine zv_step (bLw b 6 xs) rfl rfl trivial ?_
    | refine zv_sld rfl (by unfold vp_in; decide) ?_)
  refine zv_V3 (bLw b 6 xs) rfl rfl rfl rfl rfl rfl rfl ⟨rfl, rfl, rfl⟩ ⟨Nat.le_of_ble_eq_true rfl, Nat.le_of_ble_eq_true rfl⟩ hk (cX_node _ _ _) ?_
  rintro _ w ⟨⟨a1, rfl, h1⟩, hw⟩
  repeat' (first
    | refine zv_step (bLw b 6 xs) rfl rfl trivial ?_
    | refine zv_sld rfl (by unfold vp_in; decide) ?_)
  refine zv_V3 (bLw b 6 xs) rfl rfl rfl ((hw 76 (by decide)).trans rfl) rfl rfl rfl ⟨rfl, rfl, rfl⟩ ⟨Nat.le_of_ble_eq_true rfl, Nat.le_of_ble_eq_true rfl⟩ hk (cM_node _ _ _ hw) ?_
  rintro _ w' ⟨a2, rfl, h2⟩
  have ha := F_node h1 h2
  subst ha
  refine zv_step (bLw b 6 xs) rfl rfl trivial ?_
  dsimp only
  rw [if_pos rfl]
  exact law_tail hk w'

set_option maxHeartbeats 4000000 in
set_option maxRecDepth 20000 in
theorem lop_undo {b : Nat} {xs : Nat → Int32} {kc ks : Nat} (hk : kc ≤ room_1.cells ∧ ks ≤ room_1.slots) : zV (zLw b 6 xs) true 0 kc ks 282 zl0 [] w0 (fun r _ => r = some (.int 1)) := by
  repeat' (first
    | refine zv_step (bLw b 6 xs) rfl rfl trivial ?_
    | refine zv_sld rfl (by unfold vp_in; decide) ?_)
  refine zv_V0 (bLw b 6 xs) rfl rfl rfl rfl rfl rfl rfl ⟨rfl, rfl, rfl⟩ ⟨Nat.le_of_ble_eq_true rfl, Nat.le_of_ble_eq_true rfl⟩ hk (cX_undo ) ?_
  rintro _ w ⟨⟨a1, rfl, h1⟩, hw⟩
  repeat' (first
    | refine zv_step (bLw b 6 xs) rfl rfl trivial ?_
    | refine zv_sld rfl (by unfold vp_in; decide) ?_)
  refine zv_V0 (bLw b 6 xs) rfl rfl rfl ((hw 76 (by decide)).trans rfl) rfl rfl rfl ⟨rfl, rfl, rfl⟩ ⟨Nat.le_of_ble_eq_true rfl, Nat.le_of_ble_eq_true rfl⟩ hk (cM_undo  hw) ?_
  rintro _ w' ⟨a2, rfl, h2⟩
  have ha := F_undo h1 h2
  subst ha
  refine zv_step (bLw b 6 xs) rfl rfl trivial ?_
  dsimp only
  rw [if_pos rfl]
  exact law_tail hk w'

set_option maxHeartbeats 4000000 in
set_option maxRecDepth 20000 in
theorem lop_look {b : Nat} {xs : Nat → Int32} {kc ks : Nat} (hk : kc ≤ room_1.cells ∧ ks ≤ room_1.slots) : zV (zLw b 6 xs) true 0 kc ks 348 zl0 [] w0 (fun r _ => r = some (.int 1)) := by
  repeat' (first
    | refine zv_step (bLw b 6 xs) rfl rfl trivial ?_
    | refine zv_sld rfl (by unfold vp_in; decide) ?_)
  refine zv_V2 (bLw b 6 xs) rfl rfl rfl rfl rfl rfl rfl ⟨rfl, rfl, rfl⟩ ⟨Nat.le_of_ble_eq_true rfl, Nat.le_of_ble_eq_true rfl⟩ hk (cX_look _ _) ?_
  rintro _ w ⟨⟨a1, rfl, h1⟩, hw⟩
  repeat' (first
    | refine zv_step (bLw b 6 xs) rfl rfl trivial ?_
    | refine zv_sld rfl (by unfold vp_in; decide) ?_)
  refine zv_V2 (bLw b 6 xs) rfl rfl rfl ((hw 76 (by decide)).trans rfl) rfl rfl rfl ⟨rfl, rfl, rfl⟩ ⟨Nat.le_of_ble_eq_true rfl, Nat.le_of_ble_eq_true rfl⟩ hk (cM_look _ _ hw) ?_
  rintro _ w' ⟨a2, rfl, h2⟩
  have ha := F_look h1 h2
  subst ha
  refine zv_step (bLw b 6 xs) rfl rfl trivial ?_
  dsimp only
  rw [if_pos rfl]
  exact law_tail hk w'

set_option maxHeartbeats 4000000 in
set_option maxRecDepth 20000 in
theorem lop_alike {b : Nat} {xs : Nat → Int32} {kc ks : Nat} (hk : kc ≤ room_1.cells ∧ ks ≤ room_1.slots) : zV (zLw b 6 xs) true 0 kc ks 385 zl0 [] w0 (fun r _ => r = some (.int 1)) := by
  repeat' (first
    | refine zv_step (bLw b 6 xs) rfl rfl trivial ?_
    | refine zv_sld rfl (by unfold vp_in; decide) ?_)
  refine zv_V2 (bLw b 6 xs) rfl rfl rfl rfl rfl rfl rfl ⟨rfl, rfl, rfl⟩ ⟨Nat.le_of_ble_eq_true rfl, Nat.le_of_ble_eq_true rfl⟩ hk (cX_alike _ _) ?_
  rintro _ w ⟨⟨a1, rfl, h1⟩, hw⟩
  repeat' (first
    | refine zv_step (bLw b 6 xs) rfl rfl trivial ?_
    | refine zv_sld rfl (by unfold vp_in; decide) ?_)
  refine zv_V2 (bLw b 6 xs) rfl rfl rfl ((hw 76 (by decide)).trans rfl) rfl rfl rfl ⟨rfl, rfl, rfl⟩ ⟨Nat.le_of_ble_eq_true rfl, Nat.le_of_ble_eq_true rfl⟩ hk (cM_alike _ _ hw) ?_
  rintro _ w' ⟨a2, rfl, h2⟩
  have ha := F_alike h1 h2
  subst ha
  refine zv_step (bLw b 6 xs) rfl rfl trivial ?_
  dsimp only
  rw [if_pos rfl]
  exact law_tail hk w'

set_option maxHeartbeats 4000000 in
set_option maxRecDepth 20000 in
theorem lop_times {b : Nat} {xs : Nat → Int32} {kc ks : Nat} (hk : kc ≤ room_1.cells ∧ ks ≤ room_1.slots) : zV (zLw b 6 xs) true 0 kc ks 422 zl0 [] w0 (fun r _ => r = some (.int 1)) := by
  repeat' (first
    | refine zv_step (bLw b 6 xs) rfl rfl trivial ?_
    | refine zv_sld rfl (by unfold vp_in; decide) ?_)
  refine zv_V2 (bLw b 6 xs) rfl rfl rfl rfl rfl rfl rfl ⟨rfl, rfl, rfl⟩ ⟨Nat.le_of_ble_eq_true rfl, Nat.le_of_ble_eq_true rfl⟩ hk (cX_times _ _) ?_
  rintro _ w ⟨⟨a1, rfl, h1⟩, hw⟩
  repeat' (first
    | refine zv_step (bLw b 6 xs) rfl rfl trivial ?_
    | refine zv_sld rfl (by unfold vp_in; decide) ?_)
  refine zv_V2 (bLw b 6 xs) rfl rfl rfl ((hw 76 (by decide)).trans rfl) rfl rfl rfl ⟨rfl, rfl, rfl⟩ ⟨Nat.le_of_ble_eq_true rfl, Nat.le_of_ble_eq_true rfl⟩ hk (cM_times _ _ hw) ?_
  rintro _ w' ⟨a2, rfl, h2⟩
  have ha := F_times h1 h2
  subst ha
  refine zv_step (bLw b 6 xs) rfl rfl trivial ?_
  dsimp only
  rw [if_pos rfl]
  exact law_tail hk w'

set_option maxHeartbeats 4000000 in
set_option maxRecDepth 20000 in
theorem lop_words {b : Nat} {xs : Nat → Int32} {kc ks : Nat} (hk : kc ≤ room_1.cells ∧ ks ≤ room_1.slots) : zV (zLw b 6 xs) true 0 kc ks 524 zl0 [] w0 (fun r _ => r = some (.int 1)) := by
  repeat' (first
    | refine zv_step (bLw b 6 xs) rfl rfl trivial ?_
    | refine zv_sld rfl (by unfold vp_in; decide) ?_)
  refine zv_V2 (bLw b 6 xs) rfl rfl rfl rfl rfl rfl rfl ⟨rfl, rfl, rfl⟩ ⟨Nat.le_of_ble_eq_true rfl, Nat.le_of_ble_eq_true rfl⟩ hk (cX_words _ _) ?_
  rintro _ w ⟨⟨a1, rfl, h1⟩, hw⟩
  repeat' (first
    | refine zv_step (bLw b 6 xs) rfl rfl trivial ?_
    | refine zv_sld rfl (by unfold vp_in; decide) ?_)
  refine zv_V2 (bLw b 6 xs) rfl rfl rfl ((hw 76 (by decide)).trans rfl) rfl rfl rfl ⟨rfl, rfl, rfl⟩ ⟨Nat.le_of_ble_eq_true rfl, Nat.le_of_ble_eq_true rfl⟩ hk (cM_words _ _ hw) ?_
  rintro _ w' ⟨a2, rfl, h2⟩
  have ha := F_words h1 h2
  subst ha
  refine zv_step (bLw b 6 xs) rfl rfl trivial ?_
  dsimp only
  rw [if_pos rfl]
  exact law_tail hk w'

set_option maxHeartbeats 4000000 in
set_option maxRecDepth 20000 in
theorem lop_word {b : Nat} {xs : Nat → Int32} {kc ks : Nat} (hk : kc ≤ room_1.cells ∧ ks ≤ room_1.slots) : zV (zLw b 6 xs) true 0 kc ks 561 zl0 [] w0 (fun r _ => r = some (.int 1)) := by
  repeat' (first
    | refine zv_step (bLw b 6 xs) rfl rfl trivial ?_
    | refine zv_sld rfl (by unfold vp_in; decide) ?_)
  refine zv_V3 (bLw b 6 xs) rfl rfl rfl rfl rfl rfl rfl ⟨rfl, rfl, rfl⟩ ⟨Nat.le_of_ble_eq_true rfl, Nat.le_of_ble_eq_true rfl⟩ hk (cX_word _ _ _) ?_
  rintro _ w ⟨⟨a1, rfl, h1⟩, hw⟩
  repeat' (first
    | refine zv_step (bLw b 6 xs) rfl rfl trivial ?_
    | refine zv_sld rfl (by unfold vp_in; decide) ?_)
  refine zv_V3 (bLw b 6 xs) rfl rfl rfl ((hw 76 (by decide)).trans rfl) rfl rfl rfl ⟨rfl, rfl, rfl⟩ ⟨Nat.le_of_ble_eq_true rfl, Nat.le_of_ble_eq_true rfl⟩ hk (cM_word _ _ _ hw) ?_
  rintro _ w' ⟨a2, rfl, h2⟩
  have ha := F_word h1 h2
  subst ha
  refine zv_step (bLw b 6 xs) rfl rfl trivial ?_
  dsimp only
  rw [if_pos rfl]
  exact law_tail hk w'

set_option maxHeartbeats 4000000 in
set_option maxRecDepth 20000 in
theorem lop_sound {b : Nat} {xs : Nat → Int32} {kc ks : Nat} (hk : kc ≤ room_1.cells ∧ ks ≤ room_1.slots) : zV (zLw b 6 xs) true 0 kc ks 610 zl0 [] w0 (fun r _ => r = some (.int 1)) := by
  repeat' (first
    | refine zv_step (bLw b 6 xs) rfl rfl trivial ?_
    | refine zv_sld rfl (by unfold vp_in; decide) ?_)
  refine zv_V3 (bLw b 6 xs) rfl rfl rfl rfl rfl rfl rfl ⟨rfl, rfl, rfl⟩ ⟨Nat.le_of_ble_eq_true rfl, Nat.le_of_ble_eq_true rfl⟩ hk (cX_sound _ _ _) ?_
  rintro _ w ⟨⟨a1, rfl, h1⟩, hw⟩
  repeat' (first
    | refine zv_step (bLw b 6 xs) rfl rfl trivial ?_
    | refine zv_sld rfl (by unfold vp_in; decide) ?_)
  refine zv_V3 (bLw b 6 xs) rfl rfl rfl ((hw 76 (by decide)).trans rfl) rfl rfl rfl ⟨rfl, rfl, rfl⟩ ⟨Nat.le_of_ble_eq_true rfl, Nat.le_of_ble_eq_true rfl⟩ hk (cM_sound _ _ _ hw) ?_
  rintro _ w' ⟨a2, rfl, h2⟩
  have ha := F_sound h1 h2
  subst ha
  refine zv_step (bLw b 6 xs) rfl rfl trivial ?_
  dsimp only
  rw [if_pos rfl]
  exact law_tail hk w'

set_option maxHeartbeats 4000000 in
set_option maxRecDepth 20000 in
theorem lop_listen {b : Nat} {xs : Nat → Int32} {kc ks : Nat} (hk : kc ≤ room_1.cells ∧ ks ≤ room_1.slots) : zV (zLw b 6 xs) true 0 kc ks 733 zl0 [] w0 (fun r _ => r = some (.int 1)) := by
  repeat' (first
    | refine zv_step (bLw b 6 xs) rfl rfl trivial ?_
    | refine zv_sld rfl (by unfold vp_in; decide) ?_)
  refine zv_V2 (bLw b 6 xs) rfl rfl rfl rfl rfl rfl rfl ⟨rfl, rfl, rfl⟩ ⟨Nat.le_of_ble_eq_true rfl, Nat.le_of_ble_eq_true rfl⟩ hk (cX_listen _ _) ?_
  rintro _ w ⟨⟨a1, rfl, h1⟩, hw⟩
  repeat' (first
    | refine zv_step (bLw b 6 xs) rfl rfl trivial ?_
    | refine zv_sld rfl (by unfold vp_in; decide) ?_)
  refine zv_V2 (bLw b 6 xs) rfl rfl rfl ((hw 76 (by decide)).trans rfl) rfl rfl rfl ⟨rfl, rfl, rfl⟩ ⟨Nat.le_of_ble_eq_true rfl, Nat.le_of_ble_eq_true rfl⟩ hk (cM_listen _ _ hw) ?_
  rintro _ w' ⟨a2, rfl, h2⟩
  have ha := F_listen h1 h2
  subst ha
  refine zv_step (bLw b 6 xs) rfl rfl trivial ?_
  dsimp only
  rw [if_pos rfl]
  exact law_tail hk w'

set_option maxHeartbeats 4000000 in
set_option maxRecDepth 20000 in
theorem lop_fewest {b : Nat} {xs : Nat → Int32} {kc ks : Nat} (hk : kc ≤ room_1.cells ∧ ks ≤ room_1.slots) : zV (zLw b 6 xs) true 0 kc ks 1083 zl0 [] w0 (fun r _ => r = some (.int 1)) := by
  repeat' (first
    | refine zv_step (bLw b 6 xs) rfl rfl trivial ?_
    | refine zv_sld rfl (by unfold vp_in; decide) ?_)
  refine zv_V1 (bLw b 6 xs) rfl rfl rfl rfl rfl rfl rfl ⟨rfl, rfl, rfl⟩ ⟨Nat.le_of_ble_eq_true rfl, Nat.le_of_ble_eq_true rfl⟩ hk (cX_fewest _) ?_
  rintro _ w ⟨⟨a1, rfl, h1⟩, hw⟩
  repeat' (first
    | refine zv_step (bLw b 6 xs) rfl rfl trivial ?_
    | refine zv_sld rfl (by unfold vp_in; decide) ?_)
  refine zv_V1 (bLw b 6 xs) rfl rfl rfl ((hw 76 (by decide)).trans rfl) rfl rfl rfl ⟨rfl, rfl, rfl⟩ ⟨Nat.le_of_ble_eq_true rfl, Nat.le_of_ble_eq_true rfl⟩ hk (cM_fewest _ hw) ?_
  rintro _ w' ⟨a2, rfl, h2⟩
  have ha := F_fewest h1 h2
  subst ha
  refine zv_step (bLw b 6 xs) rfl rfl trivial ?_
  dsimp only
  rw [if_pos rfl]
  exact law_tail hk w'

set_option maxHeartbeats 4000000 in
set_option maxRecDepth 20000 in
theorem lop_walk {b : Nat} {xs : Nat → Int32} {kc ks : Nat} (hk : kc ≤ room_1.cells ∧ ks ≤ room_1.slots) : zV (zLw b 6 xs) true 0 kc ks 1108 zl0 [] w0 (fun r _ => r = some (.int 1)) := by
  repeat' (first
    | refine zv_step (bLw b 6 xs) rfl rfl trivial ?_
    | refine zv_sld rfl (by unfold vp_in; decide) ?_)
  refine zv_V1 (bLw b 6 xs) rfl rfl rfl rfl rfl rfl rfl ⟨rfl, rfl, rfl⟩ ⟨Nat.le_of_ble_eq_true rfl, Nat.le_of_ble_eq_true rfl⟩ hk (cX_walk _) ?_
  rintro _ w ⟨⟨a1, rfl, h1⟩, hw⟩
  repeat' (first
    | refine zv_step (bLw b 6 xs) rfl rfl trivial ?_
    | refine zv_sld rfl (by unfold vp_in; decide) ?_)
  refine zv_V1 (bLw b 6 xs) rfl rfl rfl ((hw 76 (by decide)).trans rfl) rfl rfl rfl ⟨rfl, rfl, rfl⟩ ⟨Nat.le_of_ble_eq_true rfl, Nat.le_of_ble_eq_true rfl⟩ hk (cM_walk _ hw) ?_
  rintro _ w' ⟨a2, rfl, h2⟩
  have ha := F_walk h1 h2
  subst ha
  refine zv_step (bLw b 6 xs) rfl rfl trivial ?_
  dsimp only
  rw [if_pos rfl]
  exact law_tail hk w'

set_option maxHeartbeats 4000000 in
set_option maxRecDepth 20000 in
theorem lop_changed {b : Nat} {xs : Nat → Int32} {kc ks : Nat} (hk : kc ≤ room_1.cells ∧ ks ≤ room_1.slots) : zV (zLw b 6 xs) true 0 kc ks 1276 zl0 [] w0 (fun r _ => r = some (.int 1)) := by
  repeat' (first
    | refine zv_step (bLw b 6 xs) rfl rfl trivial ?_
    | refine zv_sld rfl (by unfold vp_in; decide) ?_)
  refine zv_V2 (bLw b 6 xs) rfl rfl rfl rfl rfl rfl rfl ⟨rfl, rfl, rfl⟩ ⟨Nat.le_of_ble_eq_true rfl, Nat.le_of_ble_eq_true rfl⟩ hk (cX_changed _ _) ?_
  rintro _ w ⟨⟨a1, rfl, h1⟩, hw⟩
  repeat' (first
    | refine zv_step (bLw b 6 xs) rfl rfl trivial ?_
    | refine zv_sld rfl (by unfold vp_in; decide) ?_)
  refine zv_V2 (bLw b 6 xs) rfl rfl rfl ((hw 76 (by decide)).trans rfl) rfl rfl rfl ⟨rfl, rfl, rfl⟩ ⟨Nat.le_of_ble_eq_true rfl, Nat.le_of_ble_eq_true rfl⟩ hk (cM_changed _ _ hw) ?_
  rintro _ w' ⟨a2, rfl, h2⟩
  have ha := F_changed h1 h2
  subst ha
  refine zv_step (bLw b 6 xs) rfl rfl trivial ?_
  dsimp only
  rw [if_pos rfl]
  exact law_tail hk w'

set_option maxHeartbeats 4000000 in
set_option maxRecDepth 20000 in
theorem lop_exchanged {b : Nat} {xs : Nat → Int32} {kc ks : Nat} (hk : kc ≤ room_1.cells ∧ ks ≤ room_1.slots) : zV (zLw b 6 xs) true 0 kc ks 1313 zl0 [] w0 (fun r _ => r = some (.int 1)) := by
  repeat' (first
    | refine zv_step (bLw b 6 xs) rfl rfl trivial ?_
    | refine zv_sld rfl (by unfold vp_in; decide) ?_)
  refine zv_V2 (bLw b 6 xs) rfl rfl rfl rfl rfl rfl rfl ⟨rfl, rfl, rfl⟩ ⟨Nat.le_of_ble_eq_true rfl, Nat.le_of_ble_eq_true rfl⟩ hk (cX_exchanged _ _) ?_
  rintro _ w ⟨⟨a1, rfl, h1⟩, hw⟩
  repeat' (first
    | refine zv_step (bLw b 6 xs) rfl rfl trivial ?_
    | refine zv_sld rfl (by unfold vp_in; decide) ?_)
  refine zv_V2 (bLw b 6 xs) rfl rfl rfl ((hw 76 (by decide)).trans rfl) rfl rfl rfl ⟨rfl, rfl, rfl⟩ ⟨Nat.le_of_ble_eq_true rfl, Nat.le_of_ble_eq_true rfl⟩ hk (cM_exchanged _ _ hw) ?_
  rintro _ w' ⟨a2, rfl, h2⟩
  have ha := F_exchanged h1 h2
  subst ha
  refine zv_step (bLw b 6 xs) rfl rfl trivial ?_
  dsimp only
  rw [if_pos rfl]
  exact law_tail hk w'

set_option maxHeartbeats 4000000 in
set_option maxRecDepth 20000 in
theorem lop_ear {b : Nat} {xs : Nat → Int32} {kc ks : Nat} (hk : kc ≤ room_1.cells ∧ ks ≤ room_1.slots) : zV (zLw b 6 xs) true 0 kc ks 783 zl0 [] w0 (fun r _ => r = some (.int 1)) := by
  repeat' (first
    | refine zv_step (bLw b 6 xs) rfl rfl trivial ?_
    | refine zv_sld rfl (by unfold vp_in; decide) ?_)
  refine zv_V1 (bLw b 6 xs) rfl rfl rfl rfl rfl rfl rfl ⟨rfl, rfl, rfl⟩ ⟨Nat.le_of_ble_eq_true rfl, Nat.le_of_ble_eq_true rfl⟩ hk (cX_ear _) ?_
  rintro _ w ⟨⟨a1, rfl, h1⟩, hw⟩
  repeat' (first
    | refine zv_step (bLw b 6 xs) rfl rfl trivial ?_
    | refine zv_sld rfl (by unfold vp_in; decide) ?_)
  refine zv_V1 (bLw b 6 xs) rfl rfl rfl ((hw 76 (by decide)).trans rfl) rfl rfl rfl ⟨rfl, rfl, rfl⟩ ⟨Nat.le_of_ble_eq_true rfl, Nat.le_of_ble_eq_true rfl⟩ hk (cM_ear _ hw) ?_
  rintro _ w' ⟨a2, rfl, h2⟩
  have ha := F_ear h1 h2
  subst ha
  refine zv_step (bLw b 6 xs) rfl rfl trivial ?_
  dsimp only
  rw [if_pos rfl]
  exact law_tail hk w'

set_option maxHeartbeats 4000000 in
set_option maxRecDepth 20000 in
theorem lop_hush {b : Nat} {xs : Nat → Int32} {kc ks : Nat} (hk : kc ≤ room_1.cells ∧ ks ≤ room_1.slots) : zV (zLw b 6 xs) true 0 kc ks 770 zl0 [] w0 (fun r _ => r = some (.int 1)) := by
  repeat' (first
    | refine zv_step (bLw b 6 xs) rfl rfl trivial ?_
    | refine zv_sld rfl (by unfold vp_in; decide) ?_)
  refine zv_V0 (bLw b 6 xs) rfl rfl rfl rfl rfl rfl rfl ⟨rfl, rfl, rfl⟩ ⟨Nat.le_of_ble_eq_true rfl, Nat.le_of_ble_eq_true rfl⟩ hk (cX_hush ) ?_
  rintro _ w ⟨⟨a1, rfl, h1⟩, hw⟩
  repeat' (first
    | refine zv_step (bLw b 6 xs) rfl rfl trivial ?_
    | refine zv_sld rfl (by unfold vp_in; decide) ?_)
  refine zv_V0 (bLw b 6 xs) rfl rfl rfl ((hw 76 (by decide)).trans rfl) rfl rfl rfl ⟨rfl, rfl, rfl⟩ ⟨Nat.le_of_ble_eq_true rfl, Nat.le_of_ble_eq_true rfl⟩ hk (cM_hush  hw) ?_
  rintro _ w' ⟨a2, rfl, h2⟩
  have ha := F_hush h1 h2
  subst ha
  refine zv_step (bLw b 6 xs) rfl rfl trivial ?_
  dsimp only
  rw [if_pos rfl]
  exact law_tail hk w'

set_option maxHeartbeats 4000000 in
set_option maxRecDepth 20000 in
theorem lop_go {b : Nat} {xs : Nat → Int32} {kc ks : Nat} (hk : kc ≤ room_1.cells ∧ ks ≤ room_1.slots) : zV (zLw b 6 xs) true 0 kc ks 1133 zl0 [] w0 (fun r _ => r = some (.int 1)) := by
  repeat' (first
    | refine zv_step (bLw b 6 xs) rfl rfl trivial ?_
    | refine zv_sld rfl (by unfold vp_in; decide) ?_)
  refine zv_V1 (bLw b 6 xs) rfl rfl rfl rfl rfl rfl rfl ⟨rfl, rfl, rfl⟩ ⟨Nat.le_of_ble_eq_true rfl, Nat.le_of_ble_eq_true rfl⟩ hk (cX_go _) ?_
  rintro _ w ⟨⟨a1, rfl, h1⟩, hw⟩
  repeat' (first
    | refine zv_step (bLw b 6 xs) rfl rfl trivial ?_
    | refine zv_sld rfl (by unfold vp_in; decide) ?_)
  refine zv_V1 (bLw b 6 xs) rfl rfl rfl ((hw 76 (by decide)).trans rfl) rfl rfl rfl ⟨rfl, rfl, rfl⟩ ⟨Nat.le_of_ble_eq_true rfl, Nat.le_of_ble_eq_true rfl⟩ hk (cM_go _ hw) ?_
  rintro _ w' ⟨a2, rfl, h2⟩
  have ha := F_go h1 h2
  subst ha
  refine zv_step (bLw b 6 xs) rfl rfl trivial ?_
  dsimp only
  rw [if_pos rfl]
  exact law_tail hk w'

set_option maxHeartbeats 4000000 in
set_option maxRecDepth 20000 in
theorem lop_lead {b : Nat} {xs : Nat → Int32} {kc ks : Nat} (hk : kc ≤ room_1.cells ∧ ks ≤ room_1.slots) : zV (zLw b 6 xs) true 0 kc ks 1214 zl0 [] w0 (fun r _ => r = some (.int 1)) := by
  repeat' (first
    | refine zv_step (bLw b 6 xs) rfl rfl trivial ?_
    | refine zv_sld rfl (by unfold vp_in; decide) ?_)
  refine zv_V1 (bLw b 6 xs) rfl rfl rfl rfl rfl rfl rfl ⟨rfl, rfl, rfl⟩ ⟨Nat.le_of_ble_eq_true rfl, Nat.le_of_ble_eq_true rfl⟩ hk (cX_lead _) ?_
  rintro _ w ⟨⟨a1, rfl, h1⟩, hw⟩
  repeat' (first
    | refine zv_step (bLw b 6 xs) rfl rfl trivial ?_
    | refine zv_sld rfl (by unfold vp_in; decide) ?_)
  refine zv_V1 (bLw b 6 xs) rfl rfl rfl ((hw 76 (by decide)).trans rfl) rfl rfl rfl ⟨rfl, rfl, rfl⟩ ⟨Nat.le_of_ble_eq_true rfl, Nat.le_of_ble_eq_true rfl⟩ hk (cM_lead _ hw) ?_
  rintro _ w' ⟨a2, rfl, h2⟩
  have ha := F_lead h1 h2
  subst ha
  refine zv_step (bLw b 6 xs) rfl rfl trivial ?_
  dsimp only
  rw [if_pos rfl]
  exact law_tail hk w'

set_option maxHeartbeats 4000000 in
set_option maxRecDepth 20000 in
theorem lop_glance {b : Nat} {xs : Nat → Int32} {kc ks : Nat} (hk : kc ≤ room_1.cells ∧ ks ≤ room_1.slots) : zV (zLw b 6 xs) true 0 kc ks 1239 zl0 [] w0 (fun r _ => r = some (.int 1)) := by
  repeat' (first
    | refine zv_step (bLw b 6 xs) rfl rfl trivial ?_
    | refine zv_sld rfl (by unfold vp_in; decide) ?_)
  refine zv_V2 (bLw b 6 xs) rfl rfl rfl rfl rfl rfl rfl ⟨rfl, rfl, rfl⟩ ⟨Nat.le_of_ble_eq_true rfl, Nat.le_of_ble_eq_true rfl⟩ hk (cX_glance _ _) ?_
  rintro _ w ⟨⟨a1, rfl, h1⟩, hw⟩
  repeat' (first
    | refine zv_step (bLw b 6 xs) rfl rfl trivial ?_
    | refine zv_sld rfl (by unfold vp_in; decide) ?_)
  refine zv_V2 (bLw b 6 xs) rfl rfl rfl ((hw 76 (by decide)).trans rfl) rfl rfl rfl ⟨rfl, rfl, rfl⟩ ⟨Nat.le_of_ble_eq_true rfl, Nat.le_of_ble_eq_true rfl⟩ hk (cM_glance _ _ hw) ?_
  rintro _ w' ⟨a2, rfl, h2⟩
  have ha := F_glance h1 h2
  subst ha
  refine zv_step (bLw b 6 xs) rfl rfl trivial ?_
  dsimp only
  rw [if_pos rfl]
  exact law_tail hk w'

set_option maxHeartbeats 4000000 in
set_option maxRecDepth 20000 in
theorem lop_count {b : Nat} {xs : Nat → Int32} {kc ks : Nat} (hk : kc ≤ room_1.cells ∧ ks ≤ room_1.slots) : zV (zLw b 6 xs) true 0 kc ks 1350 zl0 [] w0 (fun r _ => r = some (.int 1)) := by
  repeat' (first
    | refine zv_step (bLw b 6 xs) rfl rfl trivial ?_
    | refine zv_sld rfl (by unfold vp_in; decide) ?_)
  refine zv_V1 (bLw b 6 xs) rfl rfl rfl rfl rfl rfl rfl ⟨rfl, rfl, rfl⟩ ⟨Nat.le_of_ble_eq_true rfl, Nat.le_of_ble_eq_true rfl⟩ hk (cX_count _) ?_
  rintro _ w ⟨⟨a1, rfl, h1⟩, hw⟩
  repeat' (first
    | refine zv_step (bLw b 6 xs) rfl rfl trivial ?_
    | refine zv_sld rfl (by unfold vp_in; decide) ?_)
  refine zv_V1 (bLw b 6 xs) rfl rfl rfl ((hw 76 (by decide)).trans rfl) rfl rfl rfl ⟨rfl, rfl, rfl⟩ ⟨Nat.le_of_ble_eq_true rfl, Nat.le_of_ble_eq_true rfl⟩ hk (cM_count _ hw) ?_
  rintro _ w' ⟨a2, rfl, h2⟩
  have ha := F_count h1 h2
  subst ha
  refine zv_step (bLw b 6 xs) rfl rfl trivial ?_
  dsimp only
  rw [if_pos rfl]
  exact law_tail hk w'

