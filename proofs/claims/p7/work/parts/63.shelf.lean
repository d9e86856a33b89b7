theorem zv_world {M : zM} {al : Bool} {n0 kc ks pc : Nat} {l : zL} {st : List Value} {w w' : zW} {Q : Option Value → zW → Prop} (e : w = w') (h : zV M al n0 kc ks pc l st w' Q) : zV M al n0 kc ks pc l st w Q := e ▸ h
set_option maxRecDepth 20000 in
theorem wS (O : Nat → Int32) (P : Nat → Nat → Int32) (Y : Nat → Nat → Int64) (g : Nat → zC) : ∀ {s : Nat}, s < 8 → (wX O P Y g)[59 + 2 * s]? = some (zO 2 [.int (O (20 + 10 * s)), .int (O (21 + 10 * s)), .int (O (22 + 10 * s)), .int (O (23 + 10 * s)), .ref (60 + 2 * s), .int (O (24 + 10 * s))]) := by
  intro s hs
  match s, hs with
  | 0, _ => rfl
  | 1, _ => rfl
  | 2, _ => rfl
  | 3, _ => rfl
  | 4, _ => rfl
  | 5, _ => rfl
  | 6, _ => rfl
  | 7, _ => rfl
  | n + 8, h => exact absurd h (by omega)
set_option maxRecDepth 20000 in
theorem wSr (O : Nat → Int32) (P : Nat → Nat → Int32) (Y : Nat → Nat → Int64) (g : Nat → zC) : ∀ {s : Nat}, s < 8 → (wX O P Y g)[60 + 2 * s]? = some (zI 0 60 (P (60 + 2 * s))) := by
  intro s hs
  match s, hs with
  | 0, _ => rfl
  | 1, _ => rfl
  | 2, _ => rfl
  | 3, _ => rfl
  | 4, _ => rfl
  | 5, _ => rfl
  | 6, _ => rfl
  | 7, _ => rfl
  | n + 8, h => exact absurd h (by omega)
set_option maxRecDepth 20000 in
theorem wSset0 (O : Nat → Int32) (P : Nat → Nat → Int32) (Y : Nat → Nat → Int64) (g : Nat → zC) (x : Int32) : ∀ {s : Nat}, s < 8 → (wX O P Y g).set (59 + 2 * s) (zO 2 [.int x, .int (O (21 + 10 * s)), .int (O (22 + 10 * s)), .int (O (23 + 10 * s)), .ref (60 + 2 * s), .int (O (24 + 10 * s))]) = wX (upd O (20 + 10 * s) x) P Y g := by
  intro s hs
  match s, hs with
  | 0, _ => rfl
  | 1, _ => rfl
  | 2, _ => rfl
  | 3, _ => rfl
  | 4, _ => rfl
  | 5, _ => rfl
  | 6, _ => rfl
  | 7, _ => rfl
  | n + 8, h => exact absurd h (by omega)
set_option maxRecDepth 20000 in
theorem wSset1 (O : Nat → Int32) (P : Nat → Nat → Int32) (Y : Nat → Nat → Int64) (g : Nat → zC) (x : Int32) : ∀ {s : Nat}, s < 8 → (wX O P Y g).set (59 + 2 * s) (zO 2 [.int (O (20 + 10 * s)), .int x, .int (O (22 + 10 * s)), .int (O (23 + 10 * s)), .ref (60 + 2 * s), .int (O (24 + 10 * s))]) = wX (upd O (21 + 10 * s) x) P Y g := by
  intro s hs
  match s, hs with
  | 0, _ => rfl
  | 1, _ => rfl
  | 2, _ => rfl
  | 3, _ => rfl
  | 4, _ => rfl
  | 5, _ => rfl
  | 6, _ => rfl
  | 7, _ => rfl
  | n + 8, h => exact absurd h (by omega)
set_option maxRecDepth 20000 in
theorem wSset2 (O : Nat → Int32) (P : Nat → Nat → Int32) (Y : Nat → Nat → Int64) (g : Nat → zC) (x : Int32) : ∀ {s : Nat}, s < 8 → (wX O P Y g).set (59 + 2 * s) (zO 2 [.int (O (20 + 10 * s)), .int (O (21 + 10 * s)), .int x, .int (O (23 + 10 * s)), .ref (60 + 2 * s), .int (O (24 + 10 * s))]) = wX (upd O (22 + 10 * s) x) P Y g := by
  intro s hs
  match s, hs with
  | 0, _ => rfl
  | 1, _ => rfl
  | 2, _ => rfl
  | 3, _ => rfl
  | 4, _ => rfl
  | 5, _ => rfl
  | 6, _ => rfl
  | 7, _ => rfl
  | n + 8, h => exact absurd h (by omega)
set_option maxRecDepth 20000 in
theorem wSset3 (O : Nat → Int32) (P : Nat → Nat → Int32) (Y : Nat → Nat → Int64) (g : Nat → zC) (x : Int32) : ∀ {s : Nat}, s < 8 → (wX O P Y g).set (59 + 2 * s) (zO 2 [.int (O (20 + 10 * s)), .int (O (21 + 10 * s)), .int (O (22 + 10 * s)), .int x, .ref (60 + 2 * s), .int (O (24 + 10 * s))]) = wX (upd O (23 + 10 * s) x) P Y g := by
  intro s hs
  match s, hs with
  | 0, _ => rfl
  | 1, _ => rfl
  | 2, _ => rfl
  | 3, _ => rfl
  | 4, _ => rfl
  | 5, _ => rfl
  | 6, _ => rfl
  | 7, _ => rfl
  | n + 8, h => exact absurd h (by omega)
set_option maxRecDepth 20000 in
theorem wSset5 (O : Nat → Int32) (P : Nat → Nat → Int32) (Y : Nat → Nat → Int64) (g : Nat → zC) (x : Int32) : ∀ {s : Nat}, s < 8 → (wX O P Y g).set (59 + 2 * s) (zO 2 [.int (O (20 + 10 * s)), .int (O (21 + 10 * s)), .int (O (22 + 10 * s)), .int (O (23 + 10 * s)), .ref (60 + 2 * s), .int x]) = wX (upd O (24 + 10 * s) x) P Y g := by
  intro s hs
  match s, hs with
  | 0, _ => rfl
  | 1, _ => rfl
  | 2, _ => rfl
  | 3, _ => rfl
  | 4, _ => rfl
  | 5, _ => rfl
  | 6, _ => rfl
  | 7, _ => rfl
  | n + 8, h => exact absurd h (by omega)
set_option maxRecDepth 20000 in
theorem wSrset (O : Nat → Int32) (P : Nat → Nat → Int32) (Y : Nat → Nat → Int64) (g : Nat → zC) (h : Nat → Int32) : ∀ {s : Nat}, s < 8 → (wX O P Y g).set (60 + 2 * s) (zI 0 60 h) = wX O (updA P (60 + 2 * s) h) Y g := by
  intro s hs
  match s, hs with
  | 0, _ => rfl
  | 1, _ => rfl
  | 2, _ => rfl
  | 3, _ => rfl
  | 4, _ => rfl
  | 5, _ => rfl
  | 6, _ => rfl
  | 7, _ => rfl
  | n + 8, h => exact absurd h (by omega)
set_option maxHeartbeats 1000000 in
set_option maxRecDepth 20000 in
theorem hDrop (O : Nat → Int32) (P : Nat → Nat → Int32) (Y : Nat → Nat → Int64) (g : Nat → zC) {s : Nat} (hs : s < 8) : zK 0 zX3_drop [.ref (59 + 2 * s)] (wX O P Y g) (fun r w' => r = none ∧ w' = wX (upd O (20 + 10 * s) (Int32.ofInt 0)) P Y g) := by
  refine zK_of qX3_drop (by decide +kernel) rfl ?_
  iterate 2 (refine zv_step (bX3_drop 0) rfl rfl trivial ?_)
  refine zv_putf (bX3_drop 0) rfl (wS O P Y g hs) rfl rfl ?_
  refine zv_world (wSset0 O P Y g (Int32.ofInt 0) hs) ?_
  exact zv_ret (bX3_drop 0) rfl rfl (Nat.zero_le _) (Nat.zero_le _) ⟨rfl, rfl⟩
set_option maxHeartbeats 1000000 in
set_option maxRecDepth 20000 in
theorem hHoldNode (O : Nat → Int32) (P : Nat → Nat → Int32) (Y : Nat → Nat → Int64) (g : Nat → zC) {s : Nat} (hs : s < 8) (k v z : Int32) : zK 0 zX3_holdNode [.ref (59 + 2 * s), .int k, .int v, .int z] (wX O P Y g) (fun r w' => r = none ∧ w' = wX (upd (upd (upd (upd O (20 + 10 * s) (Int32.ofInt 1)) (22 + 10 * s) k) (21 + 10 * s) v) (23 + 10 * s) z) P Y g) := by
  refine zK_of qX3_holdNode (by decide +kernel) rfl ?_
  iterate 2 (refine zv_step (bX3_holdNode 0) rfl rfl trivial ?_)
  refine zv_putf (bX3_holdNode 0) rfl (wS O P Y g hs) rfl rfl ?_
  refine zv_world (wSset0 O P Y g (Int32.ofInt 1) hs) ?_
  iterate 2 (refine zv_step (bX3_holdNode 0) rfl rfl trivial ?_)
  refine zv_putf (bX3_holdNode 0) rfl (wS (upd O (20 + 10 * s) (Int32.ofInt 1)) P Y g hs) rfl rfl ?_
  refine zv_world (wSset2 (upd O (20 + 10 * s) (Int32.ofInt 1)) P Y g k hs) ?_
  iterate 2 (refine zv_step (bX3_holdNode 0) rfl rfl trivial ?_)
  refine zv_putf (bX3_holdNode 0) rfl (wS (upd (upd O (20 + 10 * s) (Int32.ofInt 1)) (22 + 10 * s) k) P Y g hs) rfl rfl ?_
  refine zv_world (wSset1 (upd (upd O (20 + 10 * s) (Int32.ofInt 1)) (22 + 10 * s) k) P Y g v hs) ?_
  iterate 2 (refine zv_step (bX3_holdNode 0) rfl rfl trivial ?_)
  refine zv_putf (bX3_holdNode 0) rfl (wS (upd (upd (upd O (20 + 10 * s) (Int32.ofInt 1)) (22 + 10 * s) k) (21 + 10 * s) v) P Y g hs) rfl rfl ?_
  refine zv_world (wSset3 (upd (upd (upd O (20 + 10 * s) (Int32.ofInt 1)) (22 + 10 * s) k) (21 + 10 * s) v) P Y g z hs) ?_
  exact zv_ret (bX3_holdNode 0) rfl rfl (Nat.zero_le _) (Nat.zero_le _) ⟨rfl, rfl⟩
set_option maxHeartbeats 1000000 in
set_option maxRecDepth 20000 in
theorem hNouL (O : Nat → Int32) (P0 : Nat → Nat → Int32) (Y : Nat → Nat → Int64) (g : Nat → zC) {s : Nat} (hs : s < 8) (a b : Int32) {n0 : Nat} : ∀ (c i : Nat), i + c = 60 → ∀ {P : Nat → Nat → Int32}, (∀ j, j ≠ 60 + 2 * s → P j = P0 j) → ∀ {x3 : Int32}, x3 = nI i → zV (zMo 0 zX3_holdNoughts) false n0 0 0 12 [(3, .int x3), (0, .ref (59 + 2 * s)), (1, .int a), (2, .int b)] [] (wX O P Y g) (fun r w' => r = none ∧ ∃ P' : Nat → Nat → Int32, w' = wX O P' Y g ∧ ∀ j, j ≠ 60 + 2 * s → P' j = P0 j) := by
  intro c
  induction c with
  | zero =>
    intro i hc P hP x3 e3
    subst e3
    iterate 3 (refine zv_step (bX3_holdNoughts 0) rfl rfl trivial ?_)
    refine zv_ift (show c8 60 ≤ nI i by rw [show c8 60 = nI 60 from rfl]; exact nI_le (by omega) (by omega)) ?_
    exact zv_ret (bX3_holdNoughts 0) rfl rfl (Nat.zero_le _) (Nat.zero_le _) ⟨rfl, P, rfl, hP⟩
  | succ c ih =>
    intro i hc P hP x3 e3
    subst e3
    iterate 3 (refine zv_step (bX3_holdNoughts 0) rfl rfl trivial ?_)
    refine zv_iff (show ¬ c8 60 ≤ nI i by rw [show c8 60 = nI 60 from rfl]; exact nI_ge (by omega) (by omega)) ?_
    iterate 1 (refine zv_step (bX3_holdNoughts 0) rfl rfl trivial ?_)
    refine zv_getf (bX3_holdNoughts 0) rfl (wS O P Y g hs) rfl ?_
    iterate 2 (refine zv_step (bX3_holdNoughts 0) rfl rfl trivial ?_)
    refine zv_iast (bX3_holdNoughts 0) rfl (wSr O P Y g hs) (show vp_in (nI i) 60 from vp_in_nI (by omega) (by decide)) ?_
    refine zv_world (wSrset O P Y g _ hs) ?_
    iterate 2 (refine zv_step (bX3_holdNoughts 0) rfl rfl trivial ?_)
    exact ih (i + 1) (by omega) (fun j hj => (updA_ne _ _ hj).trans (hP j hj)) (nI_1 i)
set_option maxHeartbeats 1000000 in
set_option maxRecDepth 20000 in
theorem hNoughts (O : Nat → Int32) (P : Nat → Nat → Int32) (Y : Nat → Nat → Int64) (g : Nat → zC) {s : Nat} (hs : s < 8) (a b : Int32) : zK 0 zX3_holdNoughts [.ref (59 + 2 * s), .int a, .int b] (wX O P Y g) (fun r w' => r = none ∧ ∃ P' : Nat → Nat → Int32, w' = wX (upd (upd O (20 + 10 * s) a) (24 + 10 * s) b) P' Y g ∧ ∀ j, j ≠ 60 + 2 * s → P' j = P j) := by
  refine zK_of qX3_holdNoughts (by decide +kernel) rfl ?_
  iterate 2 (refine zv_step (bX3_holdNoughts 0) rfl rfl trivial ?_)
  refine zv_putf (bX3_holdNoughts 0) rfl (wS O P Y g hs) rfl rfl ?_
  refine zv_world (wSset0 O P Y g a hs) ?_
  iterate 2 (refine zv_step (bX3_holdNoughts 0) rfl rfl trivial ?_)
  refine zv_putf (bX3_holdNoughts 0) rfl (wS (upd O (20 + 10 * s) a) P Y g hs) rfl rfl ?_
  refine zv_world (wSset5 (upd O (20 + 10 * s) a) P Y g b hs) ?_
  iterate 2 (refine zv_step (bX3_holdNoughts 0) rfl rfl trivial ?_)
  exact hNouL (upd (upd O (20 + 10 * s) a) (24 + 10 * s) b) P Y g hs a b 60 0 rfl (fun _ _ => rfl) rfl
set_option maxHeartbeats 1000000 in
set_option maxRecDepth 20000 in
theorem hRowL (O : Nat → Int32) (P0 : Nat → Nat → Int32) (Y : Nat → Nat → Int64) (g : Nat → zC) {s : Nat} (hs : s < 8) (a : Int32) {n : Nat} (hn : n ≤ 20) {n0 : Nat} : ∀ (c i : Nat), i + c = n → ∀ {P : Nat → Nat → Int32}, (∀ j, j ≠ 60 + 2 * s → P j = P0 j) → ∀ {x4 : Int32}, x4 = nI i → zV (zMo 0 zX3_holdRow) false n0 0 0 13 [(4, .int x4), (0, .ref (59 + 2 * s)), (1, .int a), (2, .ref 32), (3, .int (nI n))] [] (wX O P Y g) (fun r w' => r = none ∧ ∃ P' : Nat → Nat → Int32, w' = wX O P' Y g ∧ ∀ j, j ≠ 60 + 2 * s → P' j = P0 j) := by
  intro c
  induction c with
  | zero =>
    intro i hc P hP x3 e3
    subst e3
    iterate 3 (refine zv_step (bX3_holdRow 0) rfl rfl trivial ?_)
    refine zv_ift (nI_le (by omega) (by omega)) ?_
    exact zv_ret (bX3_holdRow 0) rfl rfl (Nat.zero_le _) (Nat.zero_le _) ⟨rfl, P, rfl, hP⟩
  | succ c ih =>
    intro i hc P hP x3 e3
    subst e3
    iterate 3 (refine zv_step (bX3_holdRow 0) rfl rfl trivial ?_)
    refine zv_iff (nI_ge (by omega) (by omega)) ?_
    iterate 3 (refine zv_step (bX3_holdRow 0) rfl rfl trivial ?_)
    refine zv_iff (show ¬ c8 60 ≤ nI i by rw [show c8 60 = nI 60 from rfl]; exact nI_ge (by omega) (by omega)) ?_
    iterate 4 (refine zv_step (bX3_holdRow 0) rfl rfl trivial ?_)
    refine zv_iff (show ¬ Int32.ofNat 20 ≤ nI i by rw [show Int32.ofNat 20 = nI 20 from rfl]; exact nI_ge (by omega) (by omega)) ?_
    iterate 1 (refine zv_step (bX3_holdRow 0) rfl rfl trivial ?_)
    refine zv_getf (bX3_holdRow 0) rfl (wS O P Y g hs) rfl ?_
    iterate 3 (refine zv_step (bX3_holdRow 0) rfl rfl trivial ?_)
    refine zv_step (bX3_holdRow 0) rfl rfl (show vp_in (nI i) 20 from vp_in_nI (by omega) (by decide)) ?_
    refine zv_iast (bX3_holdRow 0) rfl (wSr O P Y g hs) (show vp_in (nI i) 60 from vp_in_nI (by omega) (by decide)) ?_
    refine zv_world (wSrset O P Y g _ hs) ?_
    iterate 2 (refine zv_step (bX3_holdRow 0) rfl rfl trivial ?_)
    exact ih (i + 1) (by omega) (fun j hj => (updA_ne _ _ hj).trans (hP j hj)) (nI_1 i)
set_option maxHeartbeats 1000000 in
set_option maxRecDepth 20000 in
theorem hHoldRow (O : Nat → Int32) (P : Nat → Nat → Int32) (Y : Nat → Nat → Int64) (g : Nat → zC) {s : Nat} (hs : s < 8) (a : Int32) {n : Nat} (hn : n ≤ 20) : zK 0 zX3_holdRow [.ref (59 + 2 * s), .int a, .ref 32, .int (nI n)] (wX O P Y g) (fun r w' => r = none ∧ ∃ P' : Nat → Nat → Int32, w' = wX (upd (upd O (20 + 10 * s) a) (24 + 10 * s) (nI n)) P' Y g ∧ ∀ j, j ≠ 60 + 2 * s → P' j = P j) := by
  refine zK_of qX3_holdRow (by decide +kernel) rfl ?_
  iterate 2 (refine zv_step (bX3_holdRow 0) rfl rfl trivial ?_)
  refine zv_putf (bX3_holdRow 0) rfl (wS O P Y g hs) rfl rfl ?_
  refine zv_world (wSset0 O P Y g a hs) ?_
  iterate 2 (refine zv_step (bX3_holdRow 0) rfl rfl trivial ?_)
  refine zv_putf (bX3_holdRow 0) rfl (wS (upd O (20 + 10 * s) a) P Y g hs) rfl rfl ?_
  refine zv_world (wSset5 (upd O (20 + 10 * s) a) P Y g (nI n) hs) ?_
  iterate 2 (refine zv_step (bX3_holdRow 0) rfl rfl trivial ?_)
  exact hRowL (upd (upd O (20 + 10 * s) a) (24 + 10 * s) (nI n)) P Y g hs a hn n 0 (by omega) (fun _ _ => rfl) rfl
set_option maxHeartbeats 1000000 in
set_option maxRecDepth 20000 in
theorem hHasRow (O : Nat → Int32) (P : Nat → Nat → Int32) (Y : Nat → Nat → Int64) (g : Nat → zC) {s : Nat} (hs : s < 8) : zK 0 zX3_hasRow [.ref (59 + 2 * s)] (wX O P Y g) (fun r w' => w' = wX O P Y g ∧ (((O (20 + 10 * s) = Int32.ofInt 3 ∨ O (20 + 10 * s) = Int32.ofInt 4) ∧ r = some (.int 1)) ∨ (¬ (O (20 + 10 * s) = Int32.ofInt 3 ∨ O (20 + 10 * s) = Int32.ofInt 4) ∧ r = some (.int 0)))) := by
  refine zK_of qX3_hasRow (by decide +kernel) rfl ?_
  iterate 1 (refine zv_step (bX3_hasRow 0) rfl rfl trivial ?_)
  refine zv_getf (bX3_hasRow 0) rfl (wS O P Y g hs) rfl ?_
  iterate 2 (refine zv_step (bX3_hasRow 0) rfl rfl trivial ?_)
  refine zv_ifb (fun h1 => ?_) (fun h1 => ?_)
  · iterate 2 (refine zv_step (bX3_hasRow 0) rfl rfl trivial ?_)
    exact zv_iret (bX3_hasRow 0) rfl (Or.inr ⟨rfl, Or.inr rfl⟩) (Nat.zero_le _) (Nat.zero_le _) ⟨rfl, Or.inl ⟨Or.inl h1, rfl⟩⟩
  · iterate 1 (refine zv_step (bX3_hasRow 0) rfl rfl trivial ?_)
    refine zv_getf (bX3_hasRow 0) rfl (wS O P Y g hs) rfl ?_
    iterate 2 (refine zv_step (bX3_hasRow 0) rfl rfl trivial ?_)
    refine zv_ifb (fun h2 => ?_) (fun h2 => ?_)
    · iterate 1 (refine zv_step (bX3_hasRow 0) rfl rfl trivial ?_)
      exact zv_iret (bX3_hasRow 0) rfl (Or.inr ⟨rfl, Or.inl rfl⟩) (Nat.zero_le _) (Nat.zero_le _) ⟨rfl, Or.inr ⟨fun q => q.elim h1 h2, rfl⟩⟩
    · iterate 2 (refine zv_step (bX3_hasRow 0) rfl rfl trivial ?_)
      exact zv_iret (bX3_hasRow 0) rfl (Or.inr ⟨rfl, Or.inr rfl⟩) (Nat.zero_le _) (Nat.zero_le _) ⟨rfl, Or.inl ⟨Or.inr (Decidable.not_not.mp h2), rfl⟩⟩
set_option maxHeartbeats 1000000 in
set_option maxRecDepth 20000 in
theorem hHasSpan (O : Nat → Int32) (P : Nat → Nat → Int32) (Y : Nat → Nat → Int64) (g : Nat → zC) {s : Nat} (hs : s < 8) (x y : Int32) : zK 0 zX3_hasSpan [.ref (59 + 2 * s), .int x, .int y] (wX O P Y g) (fun r w' => w' = wX O P Y g ∧ (((0 ≤ x ∧ 0 ≤ y ∧ x ≤ O (24 + 10 * s) - y) ∧ r = some (.int 1)) ∨ (¬ (0 ≤ x ∧ 0 ≤ y ∧ x ≤ O (24 + 10 * s) - y) ∧ r = some (.int 0)))) := by
  refine zK_of qX3_hasSpan (by decide +kernel) rfl ?_
  iterate 2 (refine zv_step (bX3_hasSpan 0) rfl rfl trivial ?_)
  refine zv_ifb (fun h1 => ?_) (fun h1 => ?_)
  · iterate 1 (refine zv_step (bX3_hasSpan 0) rfl rfl trivial ?_)
    exact zv_iret (bX3_hasSpan 0) rfl (Or.inr ⟨rfl, Or.inl rfl⟩) (Nat.zero_le _) (Nat.zero_le _) ⟨rfl, Or.inr ⟨fun q => absurd h1 (Int32.not_lt.mpr q.1), rfl⟩⟩
  · iterate 2 (refine zv_step (bX3_hasSpan 0) rfl rfl trivial ?_)
    refine zv_ifb (fun h2 => ?_) (fun h2 => ?_)
    · iterate 1 (refine zv_step (bX3_hasSpan 0) rfl rfl trivial ?_)
      exact zv_iret (bX3_hasSpan 0) rfl (Or.inr ⟨rfl, Or.inl rfl⟩) (Nat.zero_le _) (Nat.zero_le _) ⟨rfl, Or.inr ⟨fun q => absurd h2 (Int32.not_lt.mpr q.2.1), rfl⟩⟩
    · iterate 2 (refine zv_step (bX3_hasSpan 0) rfl rfl trivial ?_)
      refine zv_getf (bX3_hasSpan 0) rfl (wS O P Y g hs) rfl ?_
      iterate 3 (refine zv_step (bX3_hasSpan 0) rfl rfl trivial ?_)
      refine zv_ifb (fun h3 => ?_) (fun h3 => ?_)
      · iterate 1 (refine zv_step (bX3_hasSpan 0) rfl rfl trivial ?_)
        exact zv_iret (bX3_hasSpan 0) rfl (Or.inr ⟨rfl, Or.inl rfl⟩) (Nat.zero_le _) (Nat.zero_le _) ⟨rfl, Or.inr ⟨fun q => absurd h3 (Int32.not_lt.mpr q.2.2), rfl⟩⟩
      · iterate 2 (refine zv_step (bX3_hasSpan 0) rfl rfl trivial ?_)
        exact zv_iret (bX3_hasSpan 0) rfl (Or.inr ⟨rfl, Or.inr rfl⟩) (Nat.zero_le _) (Nat.zero_le _) ⟨rfl, Or.inl ⟨⟨Int32.not_lt.mp h1, Int32.not_lt.mp h2, Int32.not_lt.mp h3⟩, rfl⟩⟩
