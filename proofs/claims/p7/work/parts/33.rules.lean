section ZX
variable {M : zM} {al : Bool} {n0 kc ks pc nxt a b : Nat} {c0 : Int} {l : zL} {st rest : List Value} {w : zW} {Q : Option Value → zW → Prop} {tb : List zE}
theorem zv_V0 (ok : zTb M tb) {idx : Nat} (hlook : zlook tb pc = some (.invokevirtual idx, pc + 3, a, 0, c0)) {z : zMt} (hz : zms[a]? = some z) (ha : Nat.ble 9000 a = false) {o d : Nat} {Qc : Option Value → zW → Prop} {ci : Nat} {fs : List Value} {r0 : vw_C} (ho : w[o]? = some (zO ci fs)) (hci : vwCl[ci]? = some r0) (hcl : r0.1 = z.1.cls) (hcat : Nat.ble (rest.map fun v => v.category).sum 8 = true)
    (hal : z.2.2.2.2.1 = false ∧ z.2.2.2.2.2.1 = 0 ∧ z.2.2.2.2.2.2.1 = 0) (hR : d + 1 ≤ M.2.2.2.2.1.frames ∧ 8 + (z.2.2.1 + 11) + 64 * d ≤ M.2.2.2.2.1.locals) (hf : kc ≤ M.2.2.2.2.1.cells ∧ ks ≤ M.2.2.2.2.1.slots)
    (hK : zK d z [.ref o] w Qc) (kk : ∀ (r : Option Value) (w' : zW), Qc r w' → zV M al n0 kc ks (pc + 3) l (r.toList ++ rest) w' Q) : zV M al n0 kc ks pc l (.ref o :: rest) w Q :=
  zv_callV ok hlook hz (As := []) (rest := rest) rfl rfl ha ho hci hcl (Nat.le_of_ble_eq_true hcat) (Or.inl hal.1) hR (by rw [hal.2.1, hal.2.2]; exact hf) hK (by rw [hal.2.1, hal.2.2]; exact kk)
theorem zv_V1 (ok : zTb M tb) {idx : Nat} (hlook : zlook tb pc = some (.invokevirtual idx, pc + 3, a, 1, c0)) {z : zMt} (hz : zms[a]? = some z) (ha : Nat.ble 9000 a = false) {o d : Nat} {v1 : Value} {Qc : Option Value → zW → Prop} {ci : Nat} {fs : List Value} {r0 : vw_C} (ho : w[o]? = some (zO ci fs)) (hci : vwCl[ci]? = some r0) (hcl : r0.1 = z.1.cls) (hcat : Nat.ble (rest.map fun v => v.category).sum 8 = true)
    (hal : z.2.2.2.2.1 = false ∧ z.2.2.2.2.2.1 = 0 ∧ z.2.2.2.2.2.2.1 = 0) (hR : d + 1 ≤ M.2.2.2.2.1.frames ∧ 8 + (z.2.2.1 + 11) + 64 * d ≤ M.2.2.2.2.1.locals) (hf : kc ≤ M.2.2.2.2.1.cells ∧ ks ≤ M.2.2.2.2.1.slots)
    (hK : zK d z [.ref o, v1] w Qc) (kk : ∀ (r : Option Value) (w' : zW), Qc r w' → zV M al n0 kc ks (pc + 3) l (r.toList ++ rest) w' Q) : zV M al n0 kc ks pc l (v1 :: .ref o :: rest) w Q :=
  zv_callV ok hlook hz (As := [v1]) (rest := rest) rfl rfl ha ho hci hcl (Nat.le_of_ble_eq_true hcat) (Or.inl hal.1) hR (by rw [hal.2.1, hal.2.2]; exact hf) hK (by rw [hal.2.1, hal.2.2]; exact kk)
theorem zv_V2 (ok : zTb M tb) {idx : Nat} (hlook : zlook tb pc = some (.invokevirtual idx, pc + 3, a, 2, c0)) {z : zMt} (hz : zms[a]? = some z) (ha : Nat.ble 9000 a = false) {o d : Nat} {v1 v2 : Value} {Qc : Option Value → zW → Prop} {ci : Nat} {fs : List Value} {r0 : vw_C} (ho : w[o]? = some (zO ci fs)) (hci : vwCl[ci]? = some r0) (hcl : r0.1 = z.1.cls) (hcat : Nat.ble (rest.map fun v => v.category).sum 8 = true)
    (hal : z.2.2.2.2.1 = false ∧ z.2.2.2.2.2.1 = 0 ∧ z.2.2.2.2.2.2.1 = 0) (hR : d + 1 ≤ M.2.2.2.2.1.frames ∧ 8 + (z.2.2.1 + 11) + 64 * d ≤ M.2.2.2.2.1.locals) (hf : kc ≤ M.2.2.2.2.1.cells ∧ ks ≤ M.2.2.2.2.1.slots)
    (hK : zK d z [.ref o, v1, v2] w Qc) (kk : ∀ (r : Option Value) (w' : zW), Qc r w' → zV M al n0 kc ks (pc + 3) l (r.toList ++ rest) w' Q) : zV M al n0 kc ks pc l (v2 :: v1 :: .ref o :: rest) w Q :=
  zv_callV ok hlook hz (As := [v1, v2]) (rest := rest) rfl rfl ha ho hci hcl (Nat.le_of_ble_eq_true hcat) (Or.inl hal.1) hR (by rw [hal.2.1, hal.2.2]; exact hf) hK (by rw [hal.2.1, hal.2.2]; exact kk)
theorem zv_V3 (ok : zTb M tb) {idx : Nat} (hlook : zlook tb pc = some (.invokevirtual idx, pc + 3, a, 3, c0)) {z : zMt} (hz : zms[a]? = some z) (ha : Nat.ble 9000 a = false) {o d : Nat} {v1 v2 v3 : Value} {Qc : Option Value → zW → Prop} {ci : Nat} {fs : List Value} {r0 : vw_C} (ho : w[o]? = some (zO ci fs)) (hci : vwCl[ci]? = some r0) (hcl : r0.1 = z.1.cls) (hcat : Nat.ble (rest.map fun v => v.category).sum 8 = true)
    (hal : z.2.2.2.2.1 = false ∧ z.2.2.2.2.2.1 = 0 ∧ z.2.2.2.2.2.2.1 = 0) (hR : d + 1 ≤ M.2.2.2.2.1.frames ∧ 8 + (z.2.2.1 + 11) + 64 * d ≤ M.2.2.2.2.1.locals) (hf : kc ≤ M.2.2.2.2.1.cells ∧ ks ≤ M.2.2.2.2.1.slots)
    (hK : zK d z [.ref o, v1, v2, v3] w Qc) (kk : ∀ (r : Option Value) (w' : zW), Qc r w' → zV M al n0 kc ks (pc + 3) l (r.toList ++ rest) w' Q) : zV M al n0 kc ks pc l (v3 :: v2 :: v1 :: .ref o :: rest) w Q :=
  zv_callV ok hlook hz (As := [v1, v2, v3]) (rest := rest) rfl rfl ha ho hci hcl (Nat.le_of_ble_eq_true hcat) (Or.inl hal.1) hR (by rw [hal.2.1, hal.2.2]; exact hf) hK (by rw [hal.2.1, hal.2.2]; exact kk)
theorem zv_V4 (ok : zTb M tb) {idx : Nat} (hlook : zlook tb pc = some (.invokevirtual idx, pc + 3, a, 4, c0)) {z : zMt} (hz : zms[a]? = some z) (ha : Nat.ble 9000 a = false) {o d : Nat} {v1 v2 v3 v4 : Value} {Qc : Option Value → zW → Prop} {ci : Nat} {fs : List Value} {r0 : vw_C} (ho : w[o]? = some (zO ci fs)) (hci : vwCl[ci]? = some r0) (hcl : r0.1 = z.1.cls) (hcat : Nat.ble (rest.map fun v => v.category).sum 8 = true)
    (hal : z.2.2.2.2.1 = false ∧ z.2.2.2.2.2.1 = 0 ∧ z.2.2.2.2.2.2.1 = 0) (hR : d + 1 ≤ M.2.2.2.2.1.frames ∧ 8 + (z.2.2.1 + 11) + 64 * d ≤ M.2.2.2.2.1.locals) (hf : kc ≤ M.2.2.2.2.1.cells ∧ ks ≤ M.2.2.2.2.1.slots)
    (hK : zK d z [.ref o, v1, v2, v3, v4] w Qc) (kk : ∀ (r : Option Value) (w' : zW), Qc r w' → zV M al n0 kc ks (pc + 3) l (r.toList ++ rest) w' Q) : zV M al n0 kc ks pc l (v4 :: v3 :: v2 :: v1 :: .ref o :: rest) w Q :=
  zv_callV ok hlook hz (As := [v1, v2, v3, v4]) (rest := rest) rfl rfl ha ho hci hcl (Nat.le_of_ble_eq_true hcat) (Or.inl hal.1) hR (by rw [hal.2.1, hal.2.2]; exact hf) hK (by rw [hal.2.1, hal.2.2]; exact kk)
theorem zv_V5 (ok : zTb M tb) {idx : Nat} (hlook : zlook tb pc = some (.invokevirtual idx, pc + 3, a, 5, c0)) {z : zMt} (hz : zms[a]? = some z) (ha : Nat.ble 9000 a = false) {o d : Nat} {v1 v2 v3 v4 v5 : Value} {Qc : Option Value → zW → Prop} {ci : Nat} {fs : List Value} {r0 : vw_C} (ho : w[o]? = some (zO ci fs)) (hci : vwCl[ci]? = some r0) (hcl : r0.1 = z.1.cls) (hcat : Nat.ble (rest.map fun v => v.category).sum 8 = true)
    (hal : z.2.2.2.2.1 = false ∧ z.2.2.2.2.2.1 = 0 ∧ z.2.2.2.2.2.2.1 = 0) (hR : d + 1 ≤ M.2.2.2.2.1.frames ∧ 8 + (z.2.2.1 + 11) + 64 * d ≤ M.2.2.2.2.1.locals) (hf : kc ≤ M.2.2.2.2.1.cells ∧ ks ≤ M.2.2.2.2.1.slots)
    (hK : zK d z [.ref o, v1, v2, v3, v4, v5] w Qc) (kk : ∀ (r : Option Value) (w' : zW), Qc r w' → zV M al n0 kc ks (pc + 3) l (r.toList ++ rest) w' Q) : zV M al n0 kc ks pc l (v5 :: v4 :: v3 :: v2 :: v1 :: .ref o :: rest) w Q :=
  zv_callV ok hlook hz (As := [v1, v2, v3, v4, v5]) (rest := rest) rfl rfl ha ho hci hcl (Nat.le_of_ble_eq_true hcat) (Or.inl hal.1) hR (by rw [hal.2.1, hal.2.2]; exact hf) hK (by rw [hal.2.1, hal.2.2]; exact kk)
theorem zv_S1 (ok : zTb M tb) {idx : Nat} (hlook : zlook tb pc = some (.invokestatic idx, pc + 3, a, 1, c0)) {z : zMt} (hz : zms[a]? = some z) (ha : Nat.ble 9000 a = false) {d : Nat} {v1 : Value} {Qc : Option Value → zW → Prop} (hcat : Nat.ble (rest.map fun v => v.category).sum 8 = true)
    (hal : z.2.2.2.2.1 = false ∧ z.2.2.2.2.2.1 = 0 ∧ z.2.2.2.2.2.2.1 = 0) (hR : d + 1 ≤ M.2.2.2.2.1.frames ∧ 8 + (z.2.2.1 + 11) + 64 * d ≤ M.2.2.2.2.1.locals) (hf : kc ≤ M.2.2.2.2.1.cells ∧ ks ≤ M.2.2.2.2.1.slots)
    (hK : zK d z [v1] w Qc) (kk : ∀ (r : Option Value) (w' : zW), Qc r w' → zV M al n0 kc ks (pc + 3) l (r.toList ++ rest) w' Q) : zV M al n0 kc ks pc l (v1 :: rest) w Q :=
  zv_callS ok hlook hz (As := [v1]) (rest := rest) rfl rfl ha (Nat.le_of_ble_eq_true hcat) (Or.inl hal.1) hR (by rw [hal.2.1, hal.2.2]; exact hf) hK (by rw [hal.2.1, hal.2.2]; exact kk)
theorem zv_S2 (ok : zTb M tb) {idx : Nat} (hlook : zlook tb pc = some (.invokestatic idx, pc + 3, a, 2, c0)) {z : zMt} (hz : zms[a]? = some z) (ha : Nat.ble 9000 a = false) {d : Nat} {v1 v2 : Value} {Qc : Option Value → zW → Prop} (hcat : Nat.ble (rest.map fun v => v.category).sum 8 = true)
    (hal : z.2.2.2.2.1 = false ∧ z.2.2.2.2.2.1 = 0 ∧ z.2.2.2.2.2.2.1 = 0) (hR : d + 1 ≤ M.2.2.2.2.1.frames ∧ 8 + (z.2.2.1 + 11) + 64 * d ≤ M.2.2.2.2.1.locals) (hf : kc ≤ M.2.2.2.2.1.cells ∧ ks ≤ M.2.2.2.2.1.slots)
    (hK : zK d z [v1, v2] w Qc) (kk : ∀ (r : Option Value) (w' : zW), Qc r w' → zV M al n0 kc ks (pc + 3) l (r.toList ++ rest) w' Q) : zV M al n0 kc ks pc l (v2 :: v1 :: rest) w Q :=
  zv_callS ok hlook hz (As := [v1, v2]) (rest := rest) rfl rfl ha (Nat.le_of_ble_eq_true hcat) (Or.inl hal.1) hR (by rw [hal.2.1, hal.2.2]; exact hf) hK (by rw [hal.2.1, hal.2.2]; exact kk)
theorem zv_S3 (ok : zTb M tb) {idx : Nat} (hlook : zlook tb pc = some (.invokestatic idx, pc + 3, a, 3, c0)) {z : zMt} (hz : zms[a]? = some z) (ha : Nat.ble 9000 a = false) {d : Nat} {v1 v2 v3 : Value} {Qc : Option Value → zW → Prop} (hcat : Nat.ble (rest.map fun v => v.category).sum 8 = true)
    (hal : z.2.2.2.2.1 = false ∧ z.2.2.2.2.2.1 = 0 ∧ z.2.2.2.2.2.2.1 = 0) (hR : d + 1 ≤ M.2.2.2.2.1.frames ∧ 8 + (z.2.2.1 + 11) + 64 * d ≤ M.2.2.2.2.1.locals) (hf : kc ≤ M.2.2.2.2.1.cells ∧ ks ≤ M.2.2.2.2.1.slots)
    (hK : zK d z [v1, v2, v3] w Qc) (kk : ∀ (r : Option Value) (w' : zW), Qc r w' → zV M al n0 kc ks (pc + 3) l (r.toList ++ rest) w' Q) : zV M al n0 kc ks pc l (v3 :: v2 :: v1 :: rest) w Q :=
  zv_callS ok hlook hz (As := [v1, v2, v3]) (rest := rest) rfl rfl ha (Nat.le_of_ble_eq_true hcat) (Or.inl hal.1) hR (by rw [hal.2.1, hal.2.2]; exact hf) hK (by rw [hal.2.1, hal.2.2]; exact kk)
theorem zv_getf (ok : zTb M tb) {i : Nat} (hlook : zlook tb pc = some (.getfield i, nxt, a, b, c0)) {k : Nat} {fs : List Value} {v : Value} (hw : w[k]? = some (zO a fs)) (hv : fs[b]? = some v) (kk : zV M al n0 kc ks nxt l (v :: st) w Q) : zV M al n0 kc ks pc l (.ref k :: st) w Q := by
  refine zv_step ok hlook (P := True) (pc' := nxt) (l' := l) (st' := v :: st) (w' := w) ?_ trivial kk
  have e : Nat.beq a a = true := Nat.beq_refl a
  simp only [zstep, hw, hv, e, cond]
theorem zv_putf (ok : zTb M tb) {i : Nat} (hlook : zlook tb pc = some (.putfield i, nxt, a, b, c0)) {k : Nat} {fs : List Value} {v : Value} (hw : w[k]? = some (zO a fs)) (hb : Nat.blt b fs.length = true) (hf : zfit (zty a b) v = true) (kk : zV M al n0 kc ks nxt l st (w.set k (zO a (fs.set b v))) Q) : zV M al n0 kc ks pc l (v :: .ref k :: st) w Q := by
  refine zv_step ok hlook (P := True) (pc' := nxt) (l' := l) (st' := st) (w' := w.set k (zO a (fs.set b v))) ?_ trivial kk
  have e : Nat.beq a a = true := Nat.beq_refl a
  simp only [zstep, hw, hb, hf, e, cond, Bool.and_self]
theorem zv_iald (ok : zTb M tb) (hlook : zlook tb pc = some (.iaload, nxt, a, b, c0)) {k n : Nat} {f : Nat → Int32} {i : Int32} (hw : w[k]? = some (zI 0 n f)) (hi : vp_in i n) (kk : zV M al n0 kc ks nxt l (.int (f i.toNatClampNeg) :: st) w Q) : zV M al n0 kc ks pc l (.int i :: .ref k :: st) w Q := by
  refine zv_step ok hlook (P := vp_in i n) (pc' := nxt) (l' := l) (st' := .int (f i.toNatClampNeg) :: st) (w' := w) ?_ hi kk
  simp only [zstep, hw]
theorem zv_zald (ok : zTb M tb) (hlook : zlook tb pc = some (.baload, nxt, a, b, c0)) {k n : Nat} {f : Nat → Int32} {i : Int32} (hw : w[k]? = some (zI 1 n f)) (hi : vp_in i n) (kk : zV M al n0 kc ks nxt l (.int (f i.toNatClampNeg) :: st) w Q) : zV M al n0 kc ks pc l (.int i :: .ref k :: st) w Q := by
  refine zv_step ok hlook (P := vp_in i n) (pc' := nxt) (l' := l) (st' := .int (f i.toNatClampNeg) :: st) (w' := w) ?_ hi kk
  simp only [zstep, hw]
theorem zv_iast (ok : zTb M tb) (hlook : zlook tb pc = some (.iastore, nxt, a, b, c0)) {k n : Nat} {f : Nat → Int32} {i x : Int32} (hw : w[k]? = some (zI 0 n f)) (hi : vp_in i n) (kk : zV M al n0 kc ks nxt l st (w.set k (zI 0 n (upd f i.toNatClampNeg x))) Q) : zV M al n0 kc ks pc l (.int x :: .int i :: .ref k :: st) w Q := by
  refine zv_step ok hlook (P := vp_in i n) (pc' := nxt) (l' := l) (st' := st) (w' := w.set k (zI 0 n (upd f i.toNatClampNeg x))) ?_ hi kk
  simp only [zstep, hw]
theorem zv_zast (ok : zTb M tb) (hlook : zlook tb pc = some (.bastore, nxt, a, b, c0)) {k n : Nat} {f : Nat → Int32} {i x : Int32} (hw : w[k]? = some (zI 1 n f)) (hi : vp_in i n) (kk : zV M al n0 kc ks nxt l st (w.set k (zI 1 n (upd f i.toNatClampNeg (vp_nar .boolean x)))) Q) : zV M al n0 kc ks pc l (.int x :: .int i :: .ref k :: st) w Q := by
  refine zv_step ok hlook (P := vp_in i n) (pc' := nxt) (l' := l) (st' := st) (w' := w.set k (zI 1 n (upd f i.toNatClampNeg (vp_nar .boolean x)))) ?_ hi kk
  simp only [zstep, hw]
end ZX
/-- what a throw rests on: two static fields of Throwable, and the five texts -/
def zTh (A : Nat → Prop) (U : State) (H : Heap) : Prop := vx_Zq Bundle.tN "UNASSIGNED_STACK" Bundle.steD A U H ∧ vx_Zq Bundle.tN "SUPPRESSED_SENTINEL" Bundle.listD A U H ∧ (∃ a, vk_R RX6 171 "no such style" a U) ∧ (∃ a, vk_R RX6 262 "no such shelf" a U) ∧ (∃ a, vk_R RX6 267 "the shelf holds no row" a U) ∧ (∃ a, vk_R RX6 272 "the row has no such place" a U) ∧ (∃ a, vk_R RX6 224 "the walk is too deep for a path" a U) ∧ va_Nw (.castable "java/lang/IllegalArgumentException" "java/lang/IllegalArgumentException") U ∧ va_Nw (.castable "java/lang/IllegalStateException" "java/lang/IllegalStateException") U ∧ va_Nc "java/lang/IllegalStateException" "java/lang/IllegalArgumentException" U
/-! the law's own point of view: its script lies outside the world, at the number zsent -/
abbrev zLw (b L : Nat) (xs : Nat → Int32) : zM := (RL, cL_law, 8, false, room_1, some .boolean, fun _ _ _ s _ _ _ _ _ _ _ _ ad0 A _ => ad0 zsent = b ∧ va_X b L xs s s.heap ∧ b < s.heap.size ∧ ¬ A b ∧ zTh A s s.heap)
theorem bLw (b L : Nat) (xs : Nat → Int32) : zTb (zLw b L xs) tL_law := ⟨fRL, gRL, oL_law⟩
section ZLW
variable {bb L : Nat} {xs : Nat → Int32} {al : Bool} {n0 kc ks pc a b : Nat} {c0 : Int} {l : zL} {st : List Value} {w : zW} {Q : Option Value → zW → Prop}
theorem zv_slen (hlook : zlook tL_law pc = some (.arraylength, pc + 1, a, b, c0)) (kk : zV (zLw bb L xs) al n0 kc ks (pc + 1) l (.int (Int32.ofNat L) :: st) w Q) : zV (zLw bb L xs) al n0 kc ks pc l (.ref zsent :: st) w Q := by
  intro p l0 e s m args below meth c dC dI dA ad0 A Z h9t hctx hfin ad H locs ls hrel hl
  have h0 := oL_law _ (zlook_mem hlook)
  simp only [zgood, Bool.and_eq_true, decide_eq_true_eq, Nat.add_sub_cancel_left] at h0
  have k9 := kk p l0 e s m args below meth c dC dI dA ad0 A Z h9t hctx hfin ad H locs ls hrel hl
  obtain ⟨hx, hbb, hml, hown, hts, hKc, hA, hxn, hE1, hE2, hE3, hE4, -⟩ := id hctx
  have ee : ad zsent = bb := (hrel.2.1 zsent (Or.inr (Nat.le_refl _))).trans hE1
  show W p l0 e room_1 s m args below meth c H locs kc ks Z (F0 m pc ls (.ref (ad zsent) :: st.map (zv ad)))
  rw [ee]
  exact va_slen hx hbb hE2 hE3 hE4 hrel.2.2.2.2 h0.1.1 k9
theorem zv_sld (hlook : zlook tL_law pc = some (.iaload, pc + 1, a, b, c0)) {i : Int32} (hi : vp_in i L) (kk : zV (zLw bb L xs) al n0 kc ks (pc + 1) l (.int (xs i.toNatClampNeg) :: st) w Q) : zV (zLw bb L xs) al n0 kc ks pc l (.int i :: .ref zsent :: st) w Q := by
  intro p l0 e s m args below meth c dC dI dA ad0 A Z h9t hctx hfin ad H locs ls hrel hl
  have h0 := oL_law _ (zlook_mem hlook)
  simp only [zgood, Bool.and_eq_true, decide_eq_true_eq, Nat.add_sub_cancel_left] at h0
  have k9 := kk p l0 e s m args below meth c dC dI dA ad0 A Z h9t hctx hfin ad H locs ls hrel hl
  obtain ⟨hx, hbb, hml, hown, hts, hKc, hA, hxn, hE1, hE2, hE3, hE4, -⟩ := id hctx
  have ee : ad zsent = bb := (hrel.2.1 zsent (Or.inr (Nat.le_refl _))).trans hE1
  show W p l0 e room_1 s m args below meth c H locs kc ks Z (F0 m pc ls (.int i :: .ref (ad zsent) :: st.map (zv ad)))
  rw [ee]
  exact va_sld hx hbb hE2 hE3 hE4 hrel.2.2.2.2 hi h0.1.1 k9
end ZLW
