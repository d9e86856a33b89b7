def zfit : FieldType → Value → Bool
  | .int, .int _ => true
  | .long, .long _ => true
  | .boolean, .int x => (x == 0 || x == 1)
  | .array _, .ref _ => true
  | .object _, .ref _ => true
  | _, _ => false
theorem zfit_ok (ad : Nat → Nat) {ty : FieldType} {v : Value} (h : zfit ty v = true) : narrow ty (zv ad v) = zv ad v ∧ fits ty (zv ad v) = true := by
  cases ty <;> cases v <;> first | exact ⟨rfl, rfl⟩ | (cases h; done) | skip
  rename_i x
  have h2 : x = 0 ∨ x = 1 := by simpa [zfit] using h
  rcases h2 with rfl | rfl
  · exact ⟨(by decide +kernel : narrow FieldType.boolean (Value.int 0) = Value.int 0), (by decide +kernel : fits FieldType.boolean (Value.int 0) = true)⟩
  · exact ⟨(by decide +kernel : narrow FieldType.boolean (Value.int 1) = Value.int 1), (by decide +kernel : fits FieldType.boolean (Value.int 1) = true)⟩
def zldI (v : Option Value) (nxt : Nat) (l : zL) (st : List Value) (w : zW) : Option zN := match v with
  | some (.int x) => some (True, nxt, l, .int x :: st, w)
  | _ => none
def zldJ (v : Option Value) (nxt : Nat) (l : zL) (st : List Value) (w : zW) : Option zN := match v with
  | some (.long x) => some (True, nxt, l, .long x :: st, w)
  | _ => none
def zldA (v : Option Value) (nxt : Nat) (l : zL) (st : List Value) (w : zW) : Option zN := match v with
  | some (.ref x) => some (True, nxt, l, .ref x :: st, w)
  | _ => none
def zstI (i nxt : Nat) (l : zL) (st : List Value) (w : zW) : Option zN := match st with
  | .int x :: r => some (True, nxt, zset1 l i (.int x), r, w)
  | _ => none
def zstA (i nxt : Nat) (l : zL) (st : List Value) (w : zW) : Option zN := match st with
  | .ref x :: r => some (True, nxt, zset1 l i (.ref x), r, w)
  | _ => none
def zstJ (i nxt : Nat) (l : zL) (st : List Value) (w : zW) : Option zN := match st with
  | .long x :: r => some (True, nxt, zset2 l i (.long x), r, w)
  | _ => none
def zbI (P : Int32 → Int32 → Prop) (f : Int32 → Int32 → Int32) (nxt : Nat) (l : zL) (st : List Value) (w : zW) : Option zN := match st with
  | .int y :: .int x :: r => some (P x y, nxt, l, .int (f x y) :: r, w)
  | _ => none
def zbJ (P : Int64 → Int64 → Prop) (f : Int64 → Int64 → Int64) (nxt : Nat) (l : zL) (st : List Value) (w : zW) : Option zN := match st with
  | .long y :: .long x :: r => some (P x y, nxt, l, .long (f x y) :: r, w)
  | _ => none
def zbr1 (f : Int32 → Nat) (l : zL) (st : List Value) (w : zW) : Option zN := match st with
  | .int x :: r => some (True, f x, l, r, w)
  | _ => none
def zbr2 (f : Int32 → Int32 → Nat) (l : zL) (st : List Value) (w : zW) : Option zN := match st with
  | .int y :: .int x :: r => some (True, f x y, l, r, w)
  | _ => none
def zstep (ins : Instr) (pc nxt a b : Nat) (c : Int) (l : zL) (st : List Value) (w : zW) : Option zN := match ins with
  | .iload_n i => zldI (zget l i) nxt l st w
  | .iload i => zldI (zget l i) nxt l st w
  | .lload_n i => zldJ (zget l i) nxt l st w
  | .lload i => zldJ (zget l i) nxt l st w
  | .aload_n i => zldA (zget l i) nxt l st w
  | .aload i => zldA (zget l i) nxt l st w
  | .istore_n i => zstI i nxt l st w
  | .istore i => zstI i nxt l st w
  | .astore_n i => zstA i nxt l st w
  | .astore i => zstA i nxt l st w
  | .lstore_n i => zstJ i nxt l st w
  | .lstore i => zstJ i nxt l st w
  | .iinc i n => match zget l i with
    | some (.int x) => some (True, nxt, zset1 l i (.int (x + Int32.ofInt n)), st, w)
    | _ => none
  | .iconst n => some (True, nxt, l, .int (Int32.ofInt n) :: st, w)
  | .bipush n => some (True, nxt, l, .int (Int8.ofInt n).toInt32 :: st, w)
  | .sipush n => some (True, nxt, l, .int (Int16.ofInt n).toInt32 :: st, w)
  | .lconst n => some (True, nxt, l, .long (Int64.ofNat (n : Nat)) :: st, w)
  | .ldc _ => some (True, nxt, l, .int (Int32.ofInt c) :: st, w)
  | .ldc_w _ => some (True, nxt, l, .int (Int32.ofInt c) :: st, w)
  | .ldc2_w _ => some (True, nxt, l, .long (Int64.ofInt c) :: st, w)
  | .iadd => zbI (fun _ _ => True) (fun x y => x + y) nxt l st w
  | .isub => zbI (fun _ _ => True) (fun x y => x - y) nxt l st w
  | .imul => zbI (fun _ _ => True) (fun x y => x * y) nxt l st w
  | .idiv => zbI (fun _ y => ¬ y = 0) (fun x y => x / y) nxt l st w
  | .irem => zbI (fun _ y => ¬ y = 0) (fun x y => x - x / y * y) nxt l st w
  | .iand => zbI (fun _ _ => True) (fun x y => x &&& y) nxt l st w
  | .ior => zbI (fun _ _ => True) (fun x y => x ||| y) nxt l st w
  | .ixor => zbI (fun _ _ => True) (fun x y => x ^^^ y) nxt l st w
  | .ishl => zbI (fun _ _ => True) (fun x y => x <<< (y &&& 31)) nxt l st w
  | .ishr => zbI (fun _ _ => True) (fun x y => x >>> (y &&& 31)) nxt l st w
  | .iushr => zbI (fun _ _ => True) (fun x y => (x.toUInt32 >>> (y.toUInt32 &&& Int32.toUInt32 31)).toInt32) nxt l st w
  | .ladd => zbJ (fun _ _ => True) (fun x y => x + y) nxt l st w
  | .lsub => zbJ (fun _ _ => True) (fun x y => x - y) nxt l st w
  | .lmul => zbJ (fun _ _ => True) (fun x y => x * y) nxt l st w
  | .ldiv => zbJ (fun _ y => ¬ y = 0) (fun x y => x / y) nxt l st w
  | .lrem => zbJ (fun _ y => ¬ y = 0) (fun x y => x - x / y * y) nxt l st w
  | .land => zbJ (fun _ _ => True) (fun x y => x &&& y) nxt l st w
  | .lor => zbJ (fun _ _ => True) (fun x y => x ||| y) nxt l st w
  | .lshl => match st with
    | .int y :: .long x :: r => some (True, nxt, l, .long (x <<< (y.toInt64 &&& 63)) :: r, w)
    | _ => none
  | .i2l => match st with
    | .int x :: r => some (True, nxt, l, .long x.toInt64 :: r, w)
    | _ => none
  | .lcmp => match st with
    | .long y :: .long x :: r => some (True, nxt, l, .int (lg_cmp x y) :: r, w)
    | _ => none
  | .dup => match st with
    | v :: r => bif Nat.beq v.category 1 then some (True, nxt, l, v :: v :: r, w) else none
    | _ => none
  | .dup2 => match st with
    | .long x :: r => some (True, nxt, l, .long x :: .long x :: r, w)
    | .int y :: .ref x :: r => some (True, nxt, l, .int y :: .ref x :: .int y :: .ref x :: r, w)
    | .int y :: .int x :: r => some (True, nxt, l, .int y :: .int x :: .int y :: .int x :: r, w)
    | _ => none
  | .pop => match st with
    | v :: r => bif Nat.beq v.category 1 then some (True, nxt, l, r, w) else none
    | _ => none
  | .pop2 => match st with
    | .long _ :: r => some (True, nxt, l, r, w)
    | _ => none
  | .ifCond .eq _ => zbr1 (fun x => if x = 0 then a else nxt) l st w
  | .ifCond .ne _ => zbr1 (fun x => if ¬ x = 0 then a else nxt) l st w
  | .ifCond .lt _ => zbr1 (fun x => if x < 0 then a else nxt) l st w
  | .ifCond .ge _ => zbr1 (fun x => if 0 ≤ x then a else nxt) l st w
  | .ifCond .gt _ => zbr1 (fun x => if 0 < x then a else nxt) l st w
  | .ifCond .le _ => zbr1 (fun x => if x ≤ 0 then a else nxt) l st w
  | .if_icmp .eq _ => zbr2 (fun x y => if x = y then a else nxt) l st w
  | .if_icmp .ne _ => zbr2 (fun x y => if ¬ x = y then a else nxt) l st w
  | .if_icmp .lt _ => zbr2 (fun x y => if x < y then a else nxt) l st w
  | .if_icmp .ge _ => zbr2 (fun x y => if y ≤ x then a else nxt) l st w
  | .if_icmp .gt _ => zbr2 (fun x y => if y < x then a else nxt) l st w
  | .if_icmp .le _ => zbr2 (fun x y => if x ≤ y then a else nxt) l st w
  | .goto _ => some (True, a, l, st, w)
  | .tableswitch dflt lo hi offs => match st with
    | .int x :: r => some ((0 ≤ (pc : Int) + dflt ∧ ∀ o ∈ offs.toList, 0 ≤ (pc : Int) + o) ∧ (hi - lo).toNat < offs.size, (((pc : Int) + (if x.toInt < lo ∨ hi < x.toInt then dflt else offs.getD (x.toInt - lo).toNat 0)).toNat), l, r, w)
    | _ => none
  | .lookupswitch dflt ps => match st with
    | .int x :: r => some ((ps.toList.zip (ps.toList.drop 1)).all (fun (a, next) => a.1 < next.1) = true ∧ 0 ≤ (pc : Int) + Op.lookupswitch.offset ps.toList dflt x.toInt, ((pc : Int) + Op.lookupswitch.offset ps.toList dflt x.toInt).toNat, l, r, w)
    | _ => none
  | .getfield _ => match st with
    | .ref k :: r => match w[k]? with
      | some (.inr (.inr (.inr (ci, fs)))) => bif Nat.beq ci a then (match fs[b]? with
        | some v => some (True, nxt, l, v :: r, w)
        | none => none) else none
      | _ => none
    | _ => none
  | .putfield _ => match st with
    | v :: .ref k :: r => match w[k]? with
      | some (.inr (.inr (.inr (ci, fs)))) => bif (Nat.beq ci a && (Nat.blt b fs.length && zfit (zty a b) v)) then some (True, nxt, l, r, w.set k (.inr (.inr (.inr (ci, fs.set b v))))) else none
      | _ => none
    | _ => none
  | .iaload => match st with
    | .int i :: .ref k :: r => match w[k]? with
      | some (.inl (0, n, f)) => some (vp_in i n, nxt, l, .int (f i.toNatClampNeg) :: r, w)
      | _ => none
    | _ => none
  | .baload => match st with
    | .int i :: .ref k :: r => match w[k]? with
      | some (.inl (1, n, f)) => some (vp_in i n, nxt, l, .int (f i.toNatClampNeg) :: r, w)
      | _ => none
    | _ => none
  | .laload => match st with
    | .int i :: .ref k :: r => match w[k]? with
      | some (.inr (.inl (n, f))) => some (vp_in i n, nxt, l, .long (f i.toNatClampNeg) :: r, w)
      | _ => none
    | _ => none
  | .iastore => match st with
    | .int x :: .int i :: .ref k :: r => match w[k]? with
      | some (.inl (0, n, f)) => some (vp_in i n, nxt, l, r, w.set k (.inl (0, n, upd f i.toNatClampNeg x)))
      | _ => none
    | _ => none
  | .bastore => match st with
    | .int x :: .int i :: .ref k :: r => match w[k]? with
      | some (.inl (1, n, f)) => some (vp_in i n, nxt, l, r, w.set k (.inl (1, n, upd f i.toNatClampNeg (vp_nar .boolean x))))
      | _ => none
    | _ => none
  | .lastore => match st with
    | .long x :: .int i :: .ref k :: r => match w[k]? with
      | some (.inr (.inl (n, f))) => some (vp_in i n, nxt, l, r, w.set k (.inr (.inl (n, vp_updL f i.toNatClampNeg x))))
      | _ => none
    | _ => none
  | .arraylength => match st with
    | .ref k :: r => match w[k]? with
      | some (.inl (0, n, _)) => some (True, nxt, l, .int (Int32.ofNat n) :: r, w)
      | _ => none
    | _ => none
  | _ => none
/-! the judgement: from this point of a method, whatever the machine around it, the method comes to a return with an answer and a world that Q takes -/
/-- what the tables say of the classes, and of the two arrays of references -/
def zKx (dC : Nat → ClassId) (dI : Nat → Nat → Nat) (dA : Nat → ClassId) (U : State) : Prop := va_K (dC, dI) vwCl (ztys dA) U ∧ (Cond.arrayOver (.object RX3)).before #[] U = true ∧ (Cond.arrayOver (.array .long)).before #[] U = true
theorem zover {ty : FieldType} {u U : State} (hvm : u.vm.Alike U.vm) (h : (Cond.arrayOver ty).before #[] u = true) : (Cond.arrayOver ty).before #[] U = true :=
  (show (Cond.arrayOver ty).before #[] (u.setVm U.vm) = true by rw [Cond.arrayOver_setVmC hvm]; exact h)
theorem zKx.moved {dC : Nat → ClassId} {dI : Nat → Nat → Nat} {dA : Nat → ClassId} {u U : State} (hvm : u.vm.Alike U.vm) (h : zKx dC dI dA u) : zKx dC dI dA U := ⟨va_K.moved hvm h.1, zover hvm h.2.1, zover hvm h.2.2⟩
def zsent : Nat := 1000000
abbrev zM : Type := String × ByteArray × Nat × Bool × Room × Option FieldType × (Program → Launch → Env → State → MethodId → Array Value → List Frame → Method → Code → (Nat → ClassId) → (Nat → Nat → Nat) → (Nat → ClassId) → (Nat → Nat) → (Nat → Prop) → (State → Prop) → Prop)
def zctx (M : zM) (p : Program) (l0 : Launch) (e : Env) (s : State) (m : MethodId) (args : Array Value) (below : List Frame) (meth : Method) (c : Code) (dC : Nat → ClassId) (dI : Nat → Nat → Nat) (dA : Nat → ClassId) (ad0 : Nat → Nat) (A : Nat → Prop) (Z : State → Prop) : Prop :=
  p.tables.exec = Jvm.exec ∧ c.code = M.2.1 ∧ c.maxLocals = M.2.2.1 ∧ s.vm.findClass M.1 = some m.cls ∧ (∀ w ∈ zG, w.before args s = true) ∧ zKx dC dI dA s ∧ (∀ q, s.heap.size ≤ q → A q) ∧ (M.2.2.2.1 = true → meth.name = "<init>") ∧ M.2.2.2.2.2.2 p l0 e s m args below meth c dC dI dA ad0 A Z
def zrel (dC : Nat → ClassId) (dI : Nat → Nat → Nat) (dA : Nat → ClassId) (ad0 ad : Nat → Nat) (A : Nat → Prop) (n0 : Nat) (al : Bool) (H0 H : Heap) (locs : List Loc) (w : zW) : Prop :=
  (al = false → ad = ad0) ∧ (∀ k, (k < n0 ∨ zsent ≤ k) → ad k = ad0 k) ∧ va_P (dC, dI) vwCl (zw dA ad w) H ∧ va_D A (zw dA ad w) ∧ va_S A H0 H locs
def zrt (cc : ByteArray) (ret : Option FieldType) (pc : Nat) : Option Value → Prop
  | none => ret = none ∧ decode cc pc = .ok (.return_, 1)
  | some (.int x) => ((ret = some .int) ∨ (ret = some .boolean ∧ (x = 0 ∨ x = 1))) ∧ decode cc pc = .ok (.ireturn, 1)
  | some (.long _) => ret = some .long ∧ decode cc pc = .ok (.lreturn, 1)
  | _ => False
def zV (M : zM) (al : Bool) (n0 kc ks pc : Nat) (l : zL) (st : List Value) (w : zW) (Q : Option Value → zW → Prop) : Prop :=
  ∀ (p : Program) (l0 : Launch) (e : Env) (s : State) (m : MethodId) (args : Array Value) (below : List Frame) (meth : Method) (c : Code) (dC : Nat → ClassId) (dI : Nat → Nat → Nat) (dA : Nat → ClassId) (ad0 : Nat → Nat) (A : Nat → Prop) (Z : State → Prop),
    l0.stackTraces = false → zctx M p l0 e s m args below meth c dC dI dA ad0 A Z →
    (∀ (ad : Nat → Nat) (H : Heap) (locs : List Loc) (kc ks pc : Nat) (ls : Array Slot) (v : Option Value) (w : zW), zrel dC dI dA ad0 ad A n0 al s.heap H locs w → Q v w → kc ≤ M.2.2.2.2.1.cells → ks ≤ M.2.2.2.2.1.slots → zrt M.2.1 M.2.2.2.2.2.1 pc v → W p l0 e M.2.2.2.2.1 s m args below meth c H locs kc ks Z (F0 m pc ls (v.map (zv ad)).toList)) →
    ∀ (ad : Nat → Nat) (H : Heap) (locs : List Loc) (ls : Array Slot), zrel dC dI dA ad0 ad A n0 al s.heap H locs w → lv_has ls M.2.2.1 (zl ad l) → W p l0 e M.2.2.2.2.1 s m args below meth c H locs kc ks Z (F0 m pc ls (st.map (zv ad)))
/-- a method's table, and its class's links -/
def zTb (M : zM) (tb : List zE) : Prop := ∃ F, zFTok M.1 F ∧ ∀ e ∈ tb, zgood F M.2.1 M.2.2.1 M.2.2.2.1 e = true
