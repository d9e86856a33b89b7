/-! one step of the pure machine -/
abbrev zE : Type := Nat × Instr × Nat × Nat × Nat × Int
abbrev zN : Type := Prop × Nat × zL × List Value × zW
def zlook : List zE → Nat → Option (Instr × Nat × Nat × Nat × Int)
  | [], _ => none
  | e :: t, pc => bif Nat.beq e.1 pc then some e.2 else zlook t pc
theorem zlook_mem {pc : Nat} {x : Instr × Nat × Nat × Nat × Int} : ∀ {t : List zE}, zlook t pc = some x → (pc, x) ∈ t
  | [], h => by cases h
  | q :: l, h => by
    unfold zlook at h
    cases hb : Nat.beq q.1 pc with
    | true =>
      rw [hb] at h
      have e := Nat.eq_of_beq_eq_true hb
      have h2 : q.2 = x := Option.some.inj h
      rw [← e, ← h2]
      exact List.mem_cons_self
    | false =>
      rw [hb] at h
      exact List.mem_cons_of_mem _ (zlook_mem h)
def zlen : Instr → Nat
  | .iload _ => 2
  | .aload _ => 2
  | .lload _ => 2
  | .istore _ => 2
  | .astore _ => 2
  | .lstore _ => 2
  | .bipush _ => 2
  | .newarray _ => 2
  | .ldc _ => 2
  | .iinc _ _ => 3
  | .sipush _ => 3
  | .ldc_w _ => 3
  | .ldc2_w _ => 3
  | .ifCond _ _ => 3
  | .if_icmp _ _ => 3
  | .goto _ => 3
  | .getfield _ => 3
  | .putfield _ => 3
  | .invokevirtual _ => 3
  | .invokestatic _ => 3
  | .invokespecial _ => 3
  | .new _ => 3
  | .anewarray _ => 3
  | .multianewarray _ _ => 4
  | _ => 1
/-- the methods by their numbers: name, bytes, locals, answer, makes cells?, cells and slots that it may make, 0 virtual 1 static 2 constructor, number of parameters -/
abbrev zMt : Type := MethodName × ByteArray × Nat × Option FieldType × Bool × Nat × Nat × Nat × Nat
/-- a class's links: fields (index, class, place, final), methods (index, number), ints, longs, Object's constructor -/
abbrev zFT : Type := List (Nat × Nat × Nat × Nat) × List (Nat × Nat) × List (Nat × Int) × List (Nat × Int) × List Nat
def zMok (z : zMt) : Prop := Cond.code z.1 z.2.1 z.2.2.1 z.2.2.2.1 ∈ zG ∧ (z.1.cls ≠ "java/lang/invoke/MethodHandle" ∧ z.1.cls ≠ "java/lang/invoke/VarHandle" ∧ (parseMethodDescriptor z.1.desc).map (fun d => d.parameters.length) = some z.2.2.2.2.2.2.2.2) ∧ Cond.initialized z.1.cls ∈ zG ∧
  (z.2.2.2.2.2.2.2.1 = 0 → Cond.instanceMethod z.1 ∈ zG ∧ Cond.selects z.1.cls z.1 z.1 ∈ zG) ∧ (z.2.2.2.2.2.2.2.1 = 1 → Cond.static z.1 ∈ zG) ∧ (z.2.2.2.2.2.2.2.1 = 2 → Cond.instanceMethod z.1 ∈ zG ∧ z.1.name = "<init>" ∧ z.2.2.2.1 = none)
theorem zmemT {x : Cond} (i : Nat) (h : tables_1[i]? = some x) (hg : goodWord x = true) : x ∈ zG := List.mem_filter.mpr ⟨List.mem_append_right _ (List.mem_of_getElem? h), hg⟩
theorem zmemS {x : Cond} (i : Nat) (h : (k2_sels lw_privs)[i]? = some x) (hg : goodWord x = true) : x ∈ zG := List.mem_filter.mpr ⟨List.mem_append_left _ (List.mem_of_getElem? h), hg⟩
theorem zapp {α : Type} {a b : List α} {f : α → Prop} (h1 : ∀ e ∈ a, f e) (h2 : ∀ e ∈ b, f e) : ∀ e ∈ a ++ b, f e := List.forall_mem_append.mpr ⟨h1, h2⟩
theorem zcons {α : Type} {a : α} {b : List α} {f : α → Prop} (h1 : f a) (h2 : ∀ e ∈ b, f e) : ∀ e ∈ a :: b, f e := List.forall_mem_cons.mpr ⟨h1, h2⟩
theorem znil {α : Type} {f : α → Prop} : ∀ e ∈ ([] : List α), f e := fun _ h => absurd h List.not_mem_nil
