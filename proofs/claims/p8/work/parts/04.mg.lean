section
/-! A pure machine over the kit's rows: worlds whose cells are numbered 0, 1, 2 .. in the order of their making; a value '.ref k' means cell k; 'ad k' is its address -/
abbrev zC : Type := (Nat × Nat × (Nat → Int32)) ⊕ ((Nat × (Nat → Int64)) ⊕ ((Nat × List (Option Nat)) ⊕ (Nat × List Value)))
abbrev zW : Type := List zC
abbrev zL : Type := List (Nat × Value)
/-- an array of ints (t = 0) or booleans (t = 1) -/
abbrev zI (t n : Nat) (f : Nat → Int32) : zC := .inl (t, n, f)
/-- an array of longs -/
abbrev zJ (n : Nat) (f : Nat → Int64) : zC := .inr (.inl (n, f))
/-- an array of references (t = 3: of Shelf, t = 4: of long rows) -/
abbrev zR (t : Nat) (es : List (Option Nat)) : zC := .inr (.inr (.inl (t, es)))
/-- an object of class number ci of vwCl -/
abbrev zO (ci : Nat) (fs : List Value) : zC := .inr (.inr (.inr (ci, fs)))
def zv (ad : Nat → Nat) : Value → Value
  | .ref k => .ref (ad k)
  | .int x => .int x
  | .long x => .long x
  | .float x => .float x
  | .double x => .double x
  | .null => .null
  | .retAddr x => .retAddr x
def zc (dA : Nat → ClassId) (ad : Nat → Nat) : zC → va_E
  | .inl (t, n, f) => .inl (dA t, n, .inl f)
  | .inr (.inl (n, f)) => .inl (dA 2, n, .inr (.inl f))
  | .inr (.inr (.inl (t, es))) => .inl (dA t, es.length, .inr (.inr (.inr (.inr (fun i => (es.getD i none).map ad)))))
  | .inr (.inr (.inr (ci, fs))) => .inr (ci, fs.map (zv ad))
def zw (dA : Nat → ClassId) (ad : Nat → Nat) (w : zW) : va_W := w.mapIdx (fun k c => (ad k, zc dA ad c))
def zl (ad : Nat → Nat) (l : zL) : zL := l.map (fun q => (q.1, zv ad q.2))
def ztys (dA : Nat → ClassId) : List (ClassId × FieldType) := [(dA 0, .int), (dA 1, .boolean), (dA 2, .long), (dA 3, .object RX3), (dA 4, .array .long)]
theorem zw_at {dA : Nat → ClassId} {ad : Nat → Nat} {w : zW} {k : Nat} {c : zC} (h : w[k]? = some c) : (zw dA ad w)[k]? = some (ad k, zc dA ad c) := by
  unfold zw
  rw [List.getElem?_mapIdx, h]
  rfl
theorem zw_len (dA : Nat → ClassId) (ad : Nat → Nat) (w : zW) : (zw dA ad w).length = w.length := by
  unfold zw; rw [List.length_mapIdx]
theorem zw_set (dA : Nat → ClassId) (ad : Nat → Nat) (w : zW) (k : Nat) (c : zC) : (zw dA ad w).set k (ad k, zc dA ad c) = zw dA ad (w.set k c) := by
  apply List.ext_getElem?
  intro i
  unfold zw
  rw [List.getElem?_mapIdx]
  by_cases hi : k = i
  · subst hi
    by_cases hl : k < w.length
    · rw [List.getElem?_set_self (by rw [List.length_mapIdx]; exact hl), List.getElem?_set_self hl]; rfl
    · rw [List.getElem?_eq_none (by rw [List.length_set, List.length_mapIdx]; omega), List.getElem?_eq_none (by rw [List.length_set]; omega)]; rfl
  · rw [List.getElem?_set_ne hi, List.getElem?_set_ne hi, List.getElem?_mapIdx]
theorem zv_cat (ad : Nat → Nat) (v : Value) : (zv ad v).category = v.category := by cases v <;> rfl
theorem zl_filter (ad : Nat → Nat) (f : Nat → Nat → Bool) : ∀ l : zL, (zl ad l).filter (fun q => f q.1 q.2.category) = zl ad (l.filter (fun q => f q.1 q.2.category))
  | [] => rfl
  | q :: l => by
    have ih := zl_filter ad f l
    unfold zl at ih ⊢
    rw [List.map_cons, List.filter_cons, List.filter_cons]
    dsimp only
    rw [zv_cat]
    split
    · rw [List.map_cons, ih]
    · exact ih
/-- a local's value -/
def zget : zL → Nat → Option Value
  | [], _ => none
  | q :: l, i => bif Nat.beq q.1 i then some q.2 else zget l i
theorem zget_mem {i : Nat} {v : Value} : ∀ {l : zL}, zget l i = some v → (i, v) ∈ l
  | [], h => by cases h
  | q :: l, h => by
    unfold zget at h
    cases hb : Nat.beq q.1 i with
    | true =>
      rw [hb] at h
      have e := Nat.eq_of_beq_eq_true hb
      have h2 : q.2 = v := Option.some.inj h
      rw [← e, ← h2]
      exact List.mem_cons_self
    | false =>
      rw [hb] at h
      exact List.mem_cons_of_mem _ (zget_mem h)
theorem zl_at {ad : Nat → Nat} {ls : Array Slot} {nL i : Nat} {v : Value} {l : zL} (h : lv_has ls nL (zl ad l)) (hg : zget l i = some v) : ls[i]? = some (.val (zv ad v)) :=
  h.2.2 (i, zv ad v) (List.mem_map.mpr ⟨(i, v), zget_mem hg, rfl⟩)
def zset1 (l : zL) (i : Nat) (v : Value) : zL := (i, v) :: l.filter (fun q => !(q.1 == i) && !(q.1 + 1 == i && q.2.category == 2))
def zset2 (l : zL) (i : Nat) (v : Value) : zL := (i, v) :: l.filter (fun q => !(q.1 == i) && (!(q.1 == i + 1) && !(q.1 + 1 == i && q.2.category == 2)))
theorem zl_set1 (ad : Nat → Nat) (l : zL) (i : Nat) (v : Value) : (i, zv ad v) :: (zl ad l).filter (fun q => !(q.1 == i) && !(q.1 + 1 == i && q.2.category == 2)) = zl ad (zset1 l i v) := by
  rw [zl_filter ad (fun a b => !(a == i) && !(a + 1 == i && b == 2)) l]; rfl
theorem zl_set2 (ad : Nat → Nat) (l : zL) (i : Nat) (v : Value) : (i, zv ad v) :: (zl ad l).filter (fun q => !(q.1 == i) && (!(q.1 == i + 1) && !(q.1 + 1 == i && q.2.category == 2))) = zl ad (zset2 l i v) := by
  rw [zl_filter ad (fun a b => !(a == i) && (!(a == i + 1) && !(a + 1 == i && b == 2))) l]; rfl
/-- the words that every method is given beside its own code -/
def zG : List Cond := lw_tbl.filter goodWord
theorem zG_good {w : Cond} (h : w ∈ zG) : goodWord w = true := (List.mem_filter.mp h).2
/-- the tables of the classes -/
def zty (ci : Nat) : Nat → FieldType := match ci with
  | 0 => tyX0
  | 1 => tyX2
  | 2 => tyX3
  | 3 => tyX4
  | 4 => tyX5
  | 5 => tyX6
  | _ => tyX7
theorem zty_ok : ∀ ci, ci < 7 → ∀ r, vwCl[ci]? = some r → ∀ k, k < r.2.2 → parseFieldDescriptor (r.2.1 k).2.2.1 = some (zty ci k) := by
  intro ci h r hr
  match ci, h, hr with
  | 0, _, hr => cases hr; exact tyX0_ok
  | 1, _, hr => cases hr; exact tyX2_ok
  | 2, _, hr => cases hr; exact tyX3_ok
  | 3, _, hr => cases hr; exact tyX4_ok
  | 4, _, hr => cases hr; exact tyX5_ok
  | 5, _, hr => cases hr; exact tyX6_ok
  | 6, _, hr => cases hr; exact tyX7_ok
theorem znm_ok : ∀ ci, ci < 7 → ∀ r, vwCl[ci]? = some r → ∀ a, a < r.2.2 → ∀ b, b < r.2.2 → a ≠ b → (r.2.1 a).2.1 ≠ (r.2.1 b).2.1 := by
  intro ci h r hr
  match ci, h, hr with
  | 0, _, hr => cases hr; exact nmX0
  | 1, _, hr => cases hr; exact nmX2
  | 2, _, hr => cases hr; exact nmX3
  | 3, _, hr => cases hr; exact nmX4
  | 4, _, hr => cases hr; exact nmX5
  | 5, _, hr => cases hr; exact nmX6
  | 6, _, hr => cases hr; exact nmX7
theorem zin0 : ∀ w ∈ wsX00, w ∈ zG := by decide +kernel
theorem zin1 : ∀ w ∈ wsX20, w ∈ zG := by decide +kernel
theorem zin2 : ∀ w ∈ wsX30, w ∈ zG := by decide +kernel
theorem zin3 : ∀ w ∈ wsX40, w ∈ zG := by decide +kernel
theorem zin4 : ∀ w ∈ wsX50, w ∈ zG := by decide +kernel
theorem zin5 : ∀ w ∈ wsX60, w ∈ zG := by decide +kernel
theorem zin6 : ∀ w ∈ wsX70, w ∈ zG := by decide +kernel
theorem zlt7 {ci : Nat} {r : vw_C} (h : vwCl[ci]? = some r) : ci < 7 := (List.getElem?_eq_some_iff.mp h).1
theorem zin_ok {ci : Nat} {r : vw_C} (hr : vwCl[ci]? = some r) : ∀ w ∈ u_ws r.1 r.2.1 r.2.2, w ∈ zG := by
  have h := zlt7 hr
  match ci, h, hr with
  | 0, _, hr => cases hr; exact zin0
  | 1, _, hr => cases hr; exact zin1
  | 2, _, hr => cases hr; exact zin2
  | 3, _, hr => cases hr; exact zin3
  | 4, _, hr => cases hr; exact zin4
  | 5, _, hr => cases hr; exact zin5
  | 6, _, hr => cases hr; exact zin6
end
section
/-! one step of the pure machine -/
abbrev zE : Type := Nat × Instr × Nat × Nat × Nat × Int
abbrev zN : Type := Prop × Nat × zL × List Value × zW
def zlook : List zE → Nat → Option (Instr × Nat × Nat × Nat × Int)
  | [], _ => none
  | e :: t, pc => bif Nat.beq e.1 pc then some e.2 else zlook t pc
theorem zlook_mem {pc : Nat} {x : Instr × Nat × Nat × Nat × Int} : ∀ {t : List zE}, zlook t pc = some x → (pc, x) ∈ t
  | [], h => by cases h
  | q :: l, h => by
    unfold zlook at h
    cases hb : Nat.beq q.1 pc with
    | true =>
      rw [hb] at h
      have e := Nat.eq_of_beq_eq_true hb
      have h2 : q.2 = x := Option.some.inj h
      rw [← e, ← h2]
      exact List.mem_cons_self
    | false =>
      rw [hb] at h
      exact List.mem_cons_of_mem _ (zlook_mem h)
def zlen : Instr → Nat
  | .iload _ => 2
  | .aload _ => 2
  | .lload _ => 2
  | .istore _ => 2
  | .astore _ => 2
  | .lstore _ => 2
  | .bipush _ => 2
  | .newarray _ => 2
  | .ldc _ => 2
  | .iinc _ _ => 3
  | .sipush _ => 3
  | .ldc_w _ => 3
  | .ldc2_w _ => 3
  | .ifCond _ _ => 3
  | .if_icmp _ _ => 3
  | .goto _ => 3
  | .getfield _ => 3
  | .putfield _ => 3
  | .invokevirtual _ => 3
  | .invokestatic _ => 3
  | .invokespecial _ => 3
  | .new _ => 3
  | .anewarray _ => 3
  | .multianewarray _ _ => 4
  | _ => 1
/-- the methods by their numbers: name, bytes, locals, answer, makes cells?, cells and slots that it may make, 0 virtual 1 static 2 constructor, number of parameters -/
abbrev zMt : Type := MethodName × ByteArray × Nat × Option FieldType × Bool × Nat × Nat × Nat × Nat
/-- a class's links: fields (index, class, place, final), methods (index, number), ints, longs, Object's constructor -/
abbrev zFT : Type := List (Nat × Nat × Nat × Nat) × List (Nat × Nat) × List (Nat × Int) × List (Nat × Int) × List Nat
def zMok (z : zMt) : Prop := Cond.code z.1 z.2.1 z.2.2.1 z.2.2.2.1 ∈ zG ∧ (z.1.cls ≠ "java/lang/invoke/MethodHandle" ∧ z.1.cls ≠ "java/lang/invoke/VarHandle" ∧ (parseMethodDescriptor z.1.desc).map (fun d => d.parameters.length) = some z.2.2.2.2.2.2.2.2) ∧ Cond.initialized z.1.cls ∈ zG ∧
  (z.2.2.2.2.2.2.2.1 = 0 → Cond.instanceMethod z.1 ∈ zG ∧ Cond.selects z.1.cls z.1 z.1 ∈ zG) ∧ (z.2.2.2.2.2.2.2.1 = 1 → Cond.static z.1 ∈ zG) ∧ (z.2.2.2.2.2.2.2.1 = 2 → Cond.instanceMethod z.1 ∈ zG ∧ z.1.name = "<init>" ∧ z.2.2.2.1 = none)
theorem zmemT {x : Cond} (i : Nat) (h : tables_1[i]? = some x) (hg : goodWord x = true) : x ∈ zG := List.mem_filter.mpr ⟨List.mem_append_right _ (List.mem_of_getElem? h), hg⟩
theorem zmemS {x : Cond} (i : Nat) (h : (k2_sels lw_privs)[i]? = some x) (hg : goodWord x = true) : x ∈ zG := List.mem_filter.mpr ⟨List.mem_append_left _ (List.mem_of_getElem? h), hg⟩
theorem zapp {α : Type} {a b : List α} {f : α → Prop} (h1 : ∀ e ∈ a, f e) (h2 : ∀ e ∈ b, f e) : ∀ e ∈ a ++ b, f e := List.forall_mem_append.mpr ⟨h1, h2⟩
theorem zcons {α : Type} {a : α} {b : List α} {f : α → Prop} (h1 : f a) (h2 : ∀ e ∈ b, f e) : ∀ e ∈ a :: b, f e := List.forall_mem_cons.mpr ⟨h1, h2⟩
theorem znil {α : Type} {f : α → Prop} : ∀ e ∈ ([] : List α), f e := fun _ h => absurd h List.not_mem_nil
end
