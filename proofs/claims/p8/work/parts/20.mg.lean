section
def zfit : FieldType → Value → Bool
  | .int, .int _ => true
  | .long, .long _ => true
  | .boolean, .int x => (x == 0 || x == 1)
  | .array _, .ref _ => true
  | .object _, .ref _ => true
  | _, _ => false
theorem zfit_ok (ad : Nat → Nat) {ty : FieldType} {v : Value} (h : zfit ty v = true) : narrow ty (zv ad v) = zv ad v ∧ fits ty (zv ad v) = true := by
  cases ty <;> cases v <;> first | exact ⟨rfl, rfl⟩ | (cases h; done) | skip
  rename_i x
  have h2 : x = 0 ∨ x = 1 := by simpa [zfit] using h
  rcases h2 with rfl | rfl
  · exact ⟨(by decide +kernel : narrow FieldType.boolean (Value.int 0) = Value.int 0), (by decide +kernel : fits FieldType.boolean (Value.int 0) = true)⟩
  · exact ⟨(by decide +kernel : narrow FieldType.boolean (Value.int 1) = Value.int 1), (by decide +kernel : fits FieldType.boolean (Value.int 1) = true)⟩
def zldI (v : Option Value) (nxt : Nat) (l : zL) (st : List Value) (w : zW) : Option zN := match v with
  | some (.int x) => some (True, nxt, l, .int x :: st, w)
  | _ => none
def zldJ (v : Option Value) (nxt : Nat) (l : zL) (st : List Value) (w : zW) : Option zN := match v with
  | some (.long x) => some (True, nxt, l, .long x :: st, w)
  | _ => none
def zldA (v : Option Value) (nxt : Nat) (l : zL) (st : List Value) (w : zW) : Option zN := match v with
  | some (.ref x) => some (True, nxt, l, .ref x :: st, w)
  | _ => none
def zstI (i nxt : Nat) (l : zL) (st : List Value) (w : zW) : Option zN := match st with
  | .int x :: r => some (True, nxt, zset1 l i (.int x), r, w)
  | _ => none
def zstA (i nxt : Nat) (l : zL) (st : List Value) (w : zW) : Option zN := match st with
  | .ref x :: r => some (True, nxt, zset1 l i (.ref x), r, w)
  | _ => none
def zstJ (i nxt : Nat) (l : zL) (st : List Value) (w : zW) : Option zN := match st with
  | .long x :: r => some (True, nxt, zset2 l i (.long x), r, w)
  | _ => none
def zbI (P : Int32 → Int32 → Prop) (f : Int32 → Int32 → Int32) (nxt : Nat) (l : zL) (st : List Value) (w : zW) : Option zN := match st with
  | .int y :: .int x :: r => some (P x y, nxt, l, .int (f x y) :: r, w)
  | _ => none
def zbJ (P : Int64 → Int64 → Prop) (f : Int64 → Int64 → Int64) (nxt : Nat) (l : zL) (st : List Value) (w : zW) : Option zN := match st with
  | .long y :: .long x :: r => some (P x y, nxt, l, .long (f x y) :: r, w)
  | _ => none
def zbr1 (f : Int32 → Nat) (l : zL) (st : List Value) (w : zW) : Option zN := match st with
  | .int x :: r => some (True, f x, l, r, w)
  | _ => none
def zbr2 (f : Int32 → Int32 → Nat) (l : zL) (st : List Value) (w : zW) : Option zN := match st with
  | .int y :: .int x :: r => some (True, f x y, l, r, w)
  | _ => none
def zstep (ins : Instr) (pc nxt a b : Nat) (c : Int) (l : zL) (st : List Value) (w : zW) : Option zN := match ins with
  | .iload_n i => zldI (zget l i) nxt l st w
  | .iload i => zldI (zget l i) nxt l st w
  | .lload_n i => zldJ (zget l i) nxt l st w
  | .lload i => zldJ (zget l i) nxt l st w
  | .aload_n i => zldA (zget l i) nxt l st w
  | .aload i => zldA (zget l i) nxt l st w
  | .istore_n i => zstI i nxt l st w
  | .istore i => zstI i nxt l st w
  | .astore_n i => zstA i nxt l st w
  | .astore i => zstA i nxt l st w
  | .lstore_n i => zstJ i nxt l st w
  | .lstore i => zstJ i nxt l st w
  | .iinc i n => match zget l i with
    | some (.int x) => some (True, nxt, zset1 l i (.int (x + Int32.ofInt n)), st, w)
    | _ => none
  | .iconst n => some (True, nxt, l, .int (Int32.ofInt n) :: st, w)
  | .bipush n => some (True, nxt, l, .int (Int8.ofInt n).toInt32 :: st, w)
  | .sipush n => some (True, nxt, l, .int (Int16.ofInt n).toInt32 :: st, w)
  | .lconst n => some (True, nxt, l, .long (Int64.ofNat (n : Nat)) :: st, w)
  | .ldc _ => some (True, nxt, l, .int (Int32.ofInt c) :: st, w)
  | .ldc_w _ => some (True, nxt, l, .int (Int32.ofInt c) :: st, w)
  | .ldc2_w _ => some (True, nxt, l, .long (Int64.ofInt c) :: st, w)
  | .iadd => zbI (fun _ _ => True) (fun x y => x + y) nxt l st w
  | .isub => zbI (fun _ _ => True) (fun x y => x - y) nxt l st w
  | .imul => zbI (fun _ _ => True) (fun x y => x * y) nxt l st w
  | .idiv => zbI (fun _ y => ¬ y = 0) (fun x y => x / y) nxt l st w
  | .irem => zbI (fun _ y => ¬ y = 0) (fun x y => x - x / y * y) nxt l st w
  | .iand => zbI (fun _ _ => True) (fun x y => x &&& y) nxt l st w
  | .ior => zbI (fun _ _ => True) (fun x y => x ||| y) nxt l st w
  | .ixor => zbI (fun _ _ => True) (fun x y => x ^^^ y) nxt l st w
  | .ishl => zbI (fun _ _ => True) (fun x y => x <<< (y &&& 31)) nxt l st w
  | .ishr => zbI (fun _ _ => True) (fun x y => x >>> (y &&& 31)) nxt l st w
  | .iushr => zbI (fun _ _ => True) (fun x y => (x.toUInt32 >>> (y.toUInt32 &&& Int32.toUInt32 31)).toInt32) nxt l st w
  | .ladd => zbJ (fun _ _ => True) (fun x y => x + y) nxt l st w
  | .lsub => zbJ (fun _ _ => True) (fun x y => x - y) nxt l st w
  | .lmul => zbJ (fun _ _ => True) (fun x y => x * y) nxt l st w
  | .ldiv => zbJ (fun _ y => ¬ y = 0) (fun x y => x / y) nxt l st w
  | .lrem => zbJ (fun _ y => ¬ y = 0) (fun x y => x - x / y * y) nxt l st w
  | .land => zbJ (fun _ _ => True) (fun x y => x &&& y) nxt l st w
  | .lor => zbJ (fun _ _ => True) (fun x y => x ||| y) nxt l st w
  | .lshl => match st with
    | .int y :: .long x :: r => some (True, nxt, l, .long (x <<< (y.toInt64 &&& 63)) :: r, w)
    | _ => none
  | .i2l => match st with
    | .int x :: r => some (True, nxt, l, .long x.toInt64 :: r, w)
    | _ => none
  | .lcmp => match st with
    | .long y :: .long x :: r => some (True, nxt, l, .int (lg_cmp x y) :: r, w)
    | _ => none
  | .dup => match st with
    | v :: r => bif Nat.beq v.category 1 then some (True, nxt, l, v :: v :: r, w) else none
    | _ => none
  | .dup2 => match st with
    | .long x :: r => some (True, nxt, l, .long x :: .long x :: r, w)
    | .int y :: .ref x :: r => some (True, nxt, l, .int y :: .ref x :: .int y :: .ref x :: r, w)
    | .int y :: .int x :: r => some (True, nxt, l, .int y :: .int x :: .int y :: .int x :: r, w)
    | _ => none
  | .pop => match st with
    | v :: r => bif Nat.beq v.category 1 then some (True, nxt, l, r, w) else none
    | _ => none
  | .pop2 => match st with
    | .long _ :: r => some (True, nxt, l, r, w)
    | _ => none
  | .ifCond .eq _ => zbr1 (fun x => if x = 0 then a else nxt) l st w
  | .ifCond .ne _ => zbr1 (fun x => if ¬ x = 0 then a else nxt) l st w
  | .ifCond .lt _ => zbr1 (fun x => if x < 0 then a else nxt) l st w
  | .ifCond .ge _ => zbr1 (fun x => if 0 ≤ x then a else nxt) l st w
  | .ifCond .gt _ => zbr1 (fun x => if 0 < x then a else nxt) l st w
  | .ifCond .le _ => zbr1 (fun x => if x ≤ 0 then a else nxt) l st w
  | .if_icmp .eq _ => zbr2 (fun x y => if x = y then a else nxt) l st w
  | .if_icmp .ne _ => zbr2 (fun x y => if ¬ x = y then a else nxt) l st w
  | .if_icmp .lt _ => zbr2 (fun x y => if x < y then a else nxt) l st w
  | .if_icmp .ge _ => zbr2 (fun x y => if y ≤ x then a else nxt) l st w
  | .if_icmp .gt _ => zbr2 (fun x y => if y < x then a else nxt) l st w
  | .if_icmp .le _ => zbr2 (fun x y => if x ≤ y then a else nxt) l st w
  | .goto _ => some (True, a, l, st, w)
  | .tableswitch dflt lo hi offs => match st with
    | .int x :: r => some ((0 ≤ (pc : Int) + dflt ∧ ∀ o ∈ offs.toList, 0 ≤ (pc : Int) + o) ∧ (hi - lo).toNat < offs.size, (((pc : Int) + (if x.toInt < lo ∨ hi < x.toInt then dflt else offs.getD (x.toInt - lo).toNat 0)).toNat), l, r, w)
    | _ => none
  | .lookupswitch dflt ps => match st with
    | .int x :: r => some ((ps.toList.zip (ps.toList.drop 1)).all (fun (a, next) => a.1 < next.1) = true ∧ 0 ≤ (pc : Int) + Op.lookupswitch.offset ps.toList dflt x.toInt, ((pc : Int) + Op.lookupswitch.offset ps.toList dflt x.toInt).toNat, l, r, w)
    | _ => none
  | .getfield _ => match st with
    | .ref k :: r => match w[k]? with
      | some (.inr (.inr (.inr (ci, fs)))) => bif Nat.beq ci a then (match fs[b]? with
        | some v => some (True, nxt, l, v :: r, w)
        | none => none) else none
      | _ => none
    | _ => none
  | .putfield _ => match st with
    | v :: .ref k :: r => match w[k]? with
      | some (.inr (.inr (.inr (ci, fs)))) => bif (Nat.beq ci a && (Nat.blt b fs.length && zfit (zty a b) v)) then some (True, nxt, l, r, w.set k (.inr (.inr (.inr (ci, fs.set b v))))) else none
      | _ => none
    | _ => none
  | .iaload => match st with
    | .int i :: .ref k :: r => match w[k]? with
      | some (.inl (0, n, f)) => some (vp_in i n, nxt, l, .int (f i.toNatClampNeg) :: r, w)
      | _ => none
    | _ => none
  | .baload => match st with
    | .int i :: .ref k :: r => match w[k]? with
      | some (.inl (1, n, f)) => some (vp_in i n, nxt, l, .int (f i.toNatClampNeg) :: r, w)
      | _ => none
    | _ => none
  | .laload => match st with
    | .int i :: .ref k :: r => match w[k]? with
      | some (.inr (.inl (n, f))) => some (vp_in i n, nxt, l, .long (f i.toNatClampNeg) :: r, w)
      | _ => none
    | _ => none
  | .iastore => match st with
    | .int x :: .int i :: .ref k :: r => match w[k]? with
      | some (.inl (0, n, f)) => some (vp_in i n, nxt, l, r, w.set k (.inl (0, n, upd f i.toNatClampNeg x)))
      | _ => none
    | _ => none
  | .bastore => match st with
    | .int x :: .int i :: .ref k :: r => match w[k]? with
      | some (.inl (1, n, f)) => some (vp_in i n, nxt, l, r, w.set k (.inl (1, n, upd f i.toNatClampNeg (vp_nar .boolean x))))
      | _ => none
    | _ => none
  | .lastore => match st with
    | .long x :: .int i :: .ref k :: r => match w[k]? with
      | some (.inr (.inl (n, f))) => some (vp_in i n, nxt, l, r, w.set k (.inr (.inl (n, vp_updL f i.toNatClampNeg x))))
      | _ => none
    | _ => none
  | .arraylength => match st with
    | .ref k :: r => match w[k]? with
      | some (.inl (0, n, _)) => some (True, nxt, l, .int (Int32.ofNat n) :: r, w)
      | _ => none
    | _ => none
  | _ => none
/-! the judgement: from this point of a method, whatever the machine around it, the method comes to a return with an answer and a world that Q takes -/
/-- what the tables say of the classes, and of the two arrays of references -/
def zKx (dC : Nat → ClassId) (dI : Nat → Nat → Nat) (dA : Nat → ClassId) (U : State) : Prop := va_K (dC, dI) vwCl (ztys dA) U ∧ (Cond.arrayOver (.object RX3)).before #[] U = true ∧ (Cond.arrayOver (.array .long)).before #[] U = true
theorem zover {ty : FieldType} {u U : State} (hvm : u.vm.Alike U.vm) (h : (Cond.arrayOver ty).before #[] u = true) : (Cond.arrayOver ty).before #[] U = true :=
  (show (Cond.arrayOver ty).before #[] (u.setVm U.vm) = true by rw [Cond.arrayOver_setVmC hvm]; exact h)
theorem zKx.moved {dC : Nat → ClassId} {dI : Nat → Nat → Nat} {dA : Nat → ClassId} {u U : State} (hvm : u.vm.Alike U.vm) (h : zKx dC dI dA u) : zKx dC dI dA U := ⟨va_K.moved hvm h.1, zover hvm h.2.1, zover hvm h.2.2⟩
def zsent : Nat := 1000000
abbrev zM : Type := String × ByteArray × Nat × Bool × Room × Option FieldType × (Program → Launch → Env → State → MethodId → Array Value → List Frame → Method → Code → (Nat → ClassId) → (Nat → Nat → Nat) → (Nat → ClassId) → (Nat → Nat) → (Nat → Prop) → (State → Prop) → Prop)
def zctx (M : zM) (p : Program) (l0 : Launch) (e : Env) (s : State) (m : MethodId) (args : Array Value) (below : List Frame) (meth : Method) (c : Code) (dC : Nat → ClassId) (dI : Nat → Nat → Nat) (dA : Nat → ClassId) (ad0 : Nat → Nat) (A : Nat → Prop) (Z : State → Prop) : Prop :=
  p.tables.exec = Jvm.exec ∧ c.code = M.2.1 ∧ c.maxLocals = M.2.2.1 ∧ s.vm.findClass M.1 = some m.cls ∧ (∀ w ∈ zG, w.before args s = true) ∧ zKx dC dI dA s ∧ (∀ q, s.heap.size ≤ q → A q) ∧ (M.2.2.2.1 = true → meth.name = "<init>") ∧ M.2.2.2.2.2.2 p l0 e s m args below meth c dC dI dA ad0 A Z
def zrel (dC : Nat → ClassId) (dI : Nat → Nat → Nat) (dA : Nat → ClassId) (ad0 ad : Nat → Nat) (A : Nat → Prop) (n0 : Nat) (al : Bool) (H0 H : Heap) (locs : List Loc) (w : zW) : Prop :=
  (al = false → ad = ad0) ∧ (∀ k, (k < n0 ∨ zsent ≤ k) → ad k = ad0 k) ∧ va_P (dC, dI) vwCl (zw dA ad w) H ∧ va_D A (zw dA ad w) ∧ va_S A H0 H locs
def zrt (cc : ByteArray) (ret : Option FieldType) (pc : Nat) : Option Value → Prop
  | none => ret = none ∧ decode cc pc = .ok (.return_, 1)
  | some (.int x) => ((ret = some .int) ∨ (ret = some .boolean ∧ (x = 0 ∨ x = 1))) ∧ decode cc pc = .ok (.ireturn, 1)
  | some (.long _) => ret = some .long ∧ decode cc pc = .ok (.lreturn, 1)
  | _ => False
def zV (M : zM) (al : Bool) (n0 kc ks pc : Nat) (l : zL) (st : List Value) (w : zW) (Q : Option Value → zW → Prop) : Prop :=
  ∀ (p : Program) (l0 : Launch) (e : Env) (s : State) (m : MethodId) (args : Array Value) (below : List Frame) (meth : Method) (c : Code) (dC : Nat → ClassId) (dI : Nat → Nat → Nat) (dA : Nat → ClassId) (ad0 : Nat → Nat) (A : Nat → Prop) (Z : State → Prop),
    l0.stackTraces = false → zctx M p l0 e s m args below meth c dC dI dA ad0 A Z →
    (∀ (ad : Nat → Nat) (H : Heap) (locs : List Loc) (kc ks pc : Nat) (ls : Array Slot) (v : Option Value) (w : zW), zrel dC dI dA ad0 ad A n0 al s.heap H locs w → Q v w → kc ≤ M.2.2.2.2.1.cells → ks ≤ M.2.2.2.2.1.slots → zrt M.2.1 M.2.2.2.2.2.1 pc v → W p l0 e M.2.2.2.2.1 s m args below meth c H locs kc ks Z (F0 m pc ls (v.map (zv ad)).toList)) →
    ∀ (ad : Nat → Nat) (H : Heap) (locs : List Loc) (ls : Array Slot), zrel dC dI dA ad0 ad A n0 al s.heap H locs w → lv_has ls M.2.2.1 (zl ad l) → W p l0 e M.2.2.2.2.1 s m args below meth c H locs kc ks Z (F0 m pc ls (st.map (zv ad)))
/-- a method's table, and its class's links -/
def zTb (M : zM) (tb : List zE) : Prop := ∃ F, zFTok M.1 F ∧ ∀ e ∈ tb, zgood F M.2.1 M.2.2.1 M.2.2.2.1 e = true
end
section
section ZS
variable {M : zM} {al : Bool} {n0 kc ks pc nxt a b : Nat} {c0 : Int} {l l' : zL} {st st' : List Value} {w w' : zW} {Q : Option Value → zW → Prop} {P : Prop} {pc' : Nat} {ins : Instr}
theorem zldI_inv {v : Option Value} (h : zldI v nxt l st w = some (P, pc', l', st', w')) : ∃ x, v = some (.int x) ∧ True = P ∧ nxt = pc' ∧ l = l' ∧ .int x :: st = st' ∧ w = w' := by
  unfold zldI at h; split at h
  · rename_i x; cases h; exact ⟨x, rfl, rfl, rfl, rfl, rfl, rfl⟩
  · cases h
theorem zldJ_inv {v : Option Value} (h : zldJ v nxt l st w = some (P, pc', l', st', w')) : ∃ x, v = some (.long x) ∧ True = P ∧ nxt = pc' ∧ l = l' ∧ .long x :: st = st' ∧ w = w' := by
  unfold zldJ at h; split at h
  · rename_i x; cases h; exact ⟨x, rfl, rfl, rfl, rfl, rfl, rfl⟩
  · cases h
theorem zldA_inv {v : Option Value} (h : zldA v nxt l st w = some (P, pc', l', st', w')) : ∃ x, v = some (.ref x) ∧ True = P ∧ nxt = pc' ∧ l = l' ∧ .ref x :: st = st' ∧ w = w' := by
  unfold zldA at h; split at h
  · rename_i x; cases h; exact ⟨x, rfl, rfl, rfl, rfl, rfl, rfl⟩
  · cases h
theorem zstI_inv {i : Nat} (h : zstI i nxt l st w = some (P, pc', l', st', w')) : ∃ x, st = .int x :: st' ∧ True = P ∧ nxt = pc' ∧ zset1 l i (.int x) = l' ∧ w = w' := by
  unfold zstI at h; split at h
  · rename_i x r; cases h; exact ⟨x, rfl, rfl, rfl, rfl, rfl⟩
  · cases h
theorem zstA_inv {i : Nat} (h : zstA i nxt l st w = some (P, pc', l', st', w')) : ∃ x, st = .ref x :: st' ∧ True = P ∧ nxt = pc' ∧ zset1 l i (.ref x) = l' ∧ w = w' := by
  unfold zstA at h; split at h
  · rename_i x r; cases h; exact ⟨x, rfl, rfl, rfl, rfl, rfl⟩
  · cases h
theorem zstJ_inv {i : Nat} (h : zstJ i nxt l st w = some (P, pc', l', st', w')) : ∃ x, st = .long x :: st' ∧ True = P ∧ nxt = pc' ∧ zset2 l i (.long x) = l' ∧ w = w' := by
  unfold zstJ at h; split at h
  · rename_i x r; cases h; exact ⟨x, rfl, rfl, rfl, rfl, rfl⟩
  · cases h
theorem zbI_inv {Pf : Int32 → Int32 → Prop} {f : Int32 → Int32 → Int32} (h : zbI Pf f nxt l st w = some (P, pc', l', st', w')) : ∃ x y r, st = .int y :: .int x :: r ∧ Pf x y = P ∧ nxt = pc' ∧ l = l' ∧ .int (f x y) :: r = st' ∧ w = w' := by
  unfold zbI at h; split at h
  · rename_i y x r; cases h; exact ⟨x, y, r, rfl, rfl, rfl, rfl, rfl, rfl⟩
  · cases h
theorem zbJ_inv {Pf : Int64 → Int64 → Prop} {f : Int64 → Int64 → Int64} (h : zbJ Pf f nxt l st w = some (P, pc', l', st', w')) : ∃ x y r, st = .long y :: .long x :: r ∧ Pf x y = P ∧ nxt = pc' ∧ l = l' ∧ .long (f x y) :: r = st' ∧ w = w' := by
  unfold zbJ at h; split at h
  · rename_i y x r; cases h; exact ⟨x, y, r, rfl, rfl, rfl, rfl, rfl, rfl⟩
  · cases h
theorem zbr1_inv {f : Int32 → Nat} (h : zbr1 f l st w = some (P, pc', l', st', w')) : ∃ x, st = .int x :: st' ∧ True = P ∧ f x = pc' ∧ l = l' ∧ w = w' := by
  unfold zbr1 at h; split at h
  · rename_i x r; cases h; exact ⟨x, rfl, rfl, rfl, rfl, rfl⟩
  · cases h
theorem zbr2_inv {f : Int32 → Int32 → Nat} (h : zbr2 f l st w = some (P, pc', l', st', w')) : ∃ x y, st = .int y :: .int x :: st' ∧ True = P ∧ f x y = pc' ∧ l = l' ∧ w = w' := by
  unfold zbr2 at h; split at h
  · rename_i y x r; cases h; exact ⟨x, y, rfl, rfl, rfl, rfl, rfl⟩
  · cases h
set_option maxHeartbeats 4000000 in
/-- one step, sound -/
theorem zv_st (hd : decode M.2.1 pc = .ok (ins, nxt - pc)) (hn : zlenok ins pc nxt = true) {F : zFT} (hF : zFTok M.1 F) (hg : zgd F M.2.2.1 M.2.2.2.1 pc ins a b c0 = true)
    (h : zstep ins pc nxt a b c0 l st w = some (P, pc', l', st', w')) (hp : P) (k : zV M al n0 kc ks pc' l' st' w' Q) : zV M al n0 kc ks pc l st w Q := by
  intro p l0 e s m args below meth c dC dI dA ad0 A Z h9t hctx hfin ad H locs ls hrel hl
  have kk := k p l0 e s m args below meth c dC dI dA ad0 A Z h9t hctx hfin ad
  obtain ⟨hx, hb, hml, hown, hts, ⟨hK, -⟩, hA, hin⟩ := hctx
  cases ins with
  | iload_n i =>
    have hnx : nxt = pc + 1 := of_decide_eq_true hn
    subst hnx
    rw [Nat.add_sub_cancel_left] at hd
    obtain ⟨x, hv, rfl, rfl, rfl, rfl, rfl⟩ := zldI_inv h
    exact lv_iload_n hx hb hd rfl (zl_at hl hv) (kk H locs ls hrel hl)
  | iload i =>
    have hnx : nxt = pc + 2 := of_decide_eq_true hn
    subst hnx
    rw [Nat.add_sub_cancel_left] at hd
    obtain ⟨x, hv, rfl, rfl, rfl, rfl, rfl⟩ := zldI_inv h
    exact lv_iload hx hb hd (zl_at hl hv) (kk H locs ls hrel hl)
  | lload_n i =>
    have hnx : nxt = pc + 1 := of_decide_eq_true hn
    subst hnx
    rw [Nat.add_sub_cancel_left] at hd
    obtain ⟨x, hv, rfl, rfl, rfl, rfl, rfl⟩ := zldJ_inv h
    exact lv_lload_n hx hb hd rfl (zl_at hl hv) (kk H locs ls hrel hl)
  | lload i =>
    have hnx : nxt = pc + 2 := of_decide_eq_true hn
    subst hnx
    rw [Nat.add_sub_cancel_left] at hd
    obtain ⟨x, hv, rfl, rfl, rfl, rfl, rfl⟩ := zldJ_inv h
    exact lv_lload hx hb hd (zl_at hl hv) (kk H locs ls hrel hl)
  | aload_n i =>
    have hnx : nxt = pc + 1 := of_decide_eq_true hn
    subst hnx
    rw [Nat.add_sub_cancel_left] at hd
    obtain ⟨x, hv, rfl, rfl, rfl, rfl, rfl⟩ := zldA_inv h
    exact lv_aload_n hx hb hd rfl (zl_at hl hv) (kk H locs ls hrel hl)
  | aload i =>
    have hnx : nxt = pc + 2 := of_decide_eq_true hn
    subst hnx
    rw [Nat.add_sub_cancel_left] at hd
    obtain ⟨x, hv, rfl, rfl, rfl, rfl, rfl⟩ := zldA_inv h
    exact lv_aload hx hb hd (zl_at hl hv) (kk H locs ls hrel hl)
  | istore_n i =>
    have hnx : nxt = pc + 1 := of_decide_eq_true hn
    subst hnx
    rw [Nat.add_sub_cancel_left] at hd
    obtain ⟨x, rfl, rfl, rfl, rfl, rfl⟩ := zstI_inv h
    exact lv_istore_n hx hb hd rfl hl (of_decide_eq_true hg) (zl_set1 ad l _ (.int x)) (fun ls' hl' => kk H locs ls' hrel hl')
  | istore i =>
    have hnx : nxt = pc + 2 := of_decide_eq_true hn
    subst hnx
    rw [Nat.add_sub_cancel_left] at hd
    obtain ⟨x, rfl, rfl, rfl, rfl, rfl⟩ := zstI_inv h
    exact lv_istore hx hb hd hl (of_decide_eq_true hg) (zl_set1 ad l _ (.int x)) (fun ls' hl' => kk H locs ls' hrel hl')
  | astore_n i =>
    have hnx : nxt = pc + 1 := of_decide_eq_true hn
    subst hnx
    rw [Nat.add_sub_cancel_left] at hd
    obtain ⟨x, rfl, rfl, rfl, rfl, rfl⟩ := zstA_inv h
    exact lv_astore_n hx hb hd rfl hl (of_decide_eq_true hg) (zl_set1 ad l _ (.ref x)) (fun ls' hl' => kk H locs ls' hrel hl')
  | astore i =>
    have hnx : nxt = pc + 2 := of_decide_eq_true hn
    subst hnx
    rw [Nat.add_sub_cancel_left] at hd
    obtain ⟨x, rfl, rfl, rfl, rfl, rfl⟩ := zstA_inv h
    exact lv_astore hx hb hd hl (of_decide_eq_true hg) (zl_set1 ad l _ (.ref x)) (fun ls' hl' => kk H locs ls' hrel hl')
  | lstore_n i =>
    have hnx : nxt = pc + 1 := of_decide_eq_true hn
    subst hnx
    rw [Nat.add_sub_cancel_left] at hd
    obtain ⟨x, rfl, rfl, rfl, rfl, rfl⟩ := zstJ_inv h
    exact lv_lstore_n hx hb hd rfl hl (of_decide_eq_true hg) (zl_set2 ad l _ (.long x)) (fun ls' hl' => kk H locs ls' hrel hl')
  | lstore i =>
    have hnx : nxt = pc + 2 := of_decide_eq_true hn
    subst hnx
    rw [Nat.add_sub_cancel_left] at hd
    obtain ⟨x, rfl, rfl, rfl, rfl, rfl⟩ := zstJ_inv h
    exact lv_lstore hx hb hd hl (of_decide_eq_true hg) (zl_set2 ad l _ (.long x)) (fun ls' hl' => kk H locs ls' hrel hl')
  | iinc i n =>
    have hnx : nxt = pc + 3 := of_decide_eq_true hn
    subst hnx
    rw [Nat.add_sub_cancel_left] at hd
    simp only [zstep] at h
    split at h
    · rename_i x hv
      cases h
      obtain ⟨j, hj⟩ := List.getElem?_of_mem (List.mem_map.mpr ⟨(i, Value.int x), zget_mem hv, rfl⟩ : ((i, zv ad (.int x)) : Nat × Value) ∈ zl ad l)
      exact lv_iinc hx hb hd hl hj rfl (of_decide_eq_true hg) (zl_set1 ad l i (.int (x + Int32.ofInt n))) (fun ls' hl' => kk H locs ls' hrel hl')
    · cases h
  | iconst n =>
    have hnx : nxt = pc + 1 := of_decide_eq_true hn
    subst hnx
    rw [Nat.add_sub_cancel_left] at hd
    cases h
    exact lv_iconst hx hb hd rfl (kk H locs ls hrel hl)
  | bipush n =>
    have hnx : nxt = pc + 2 := of_decide_eq_true hn
    subst hnx
    rw [Nat.add_sub_cancel_left] at hd
    cases h
    exact lv_bipush hx hb hd rfl (kk H locs ls hrel hl)
  | sipush n =>
    have hnx : nxt = pc + 3 := of_decide_eq_true hn
    subst hnx
    rw [Nat.add_sub_cancel_left] at hd
    cases h
    exact lv_sipush hx hb hd rfl (kk H locs ls hrel hl)
  | lconst n =>
    have hnx : nxt = pc + 1 := of_decide_eq_true hn
    subst hnx
    rw [Nat.add_sub_cancel_left] at hd
    cases h
    exact lv_lconst hx hb hd rfl (kk H locs ls hrel hl)
  | ldc i =>
    have hnx : nxt = pc + 2 := of_decide_eq_true hn
    subst hnx
    rw [Nat.add_sub_cancel_left] at hd
    cases h
    exact lv_ldc hx hb hown (hts (Cond.constant M.1 i (Int32.ofInt c0)) (hF.2.2.1 (i, c0) (by simpa only [zgd, decide_eq_true_eq] using hg))) hd (kk H locs ls hrel hl)
  | ldc_w i =>
    have hnx : nxt = pc + 3 := of_decide_eq_true hn
    subst hnx
    rw [Nat.add_sub_cancel_left] at hd
    cases h
    exact lv_ldcw hx hb hown (hts (Cond.constant M.1 i (Int32.ofInt c0)) (hF.2.2.1 (i, c0) (by simpa only [zgd, decide_eq_true_eq] using hg))) hd (kk H locs ls hrel hl)
  | ldc2_w i =>
    have hnx : nxt = pc + 3 := of_decide_eq_true hn
    subst hnx
    rw [Nat.add_sub_cancel_left] at hd
    cases h
    exact lv_ldc2 hx hb hown (hts (Cond.constantLong M.1 i (Int64.ofInt c0)) (hF.2.2.2.1 (i, c0) (by simpa only [zgd, decide_eq_true_eq] using hg))) hd (kk H locs ls hrel hl)
  | iadd =>
    have hnx : nxt = pc + 1 := of_decide_eq_true hn
    subst hnx
    rw [Nat.add_sub_cancel_left] at hd
    obtain ⟨x, y, r, rfl, rfl, rfl, rfl, rfl, rfl⟩ := zbI_inv h
    exact lv_iadd hx hb hd (kk H locs ls hrel hl)
  | isub =>
    have hnx : nxt = pc + 1 := of_decide_eq_true hn
    subst hnx
    rw [Nat.add_sub_cancel_left] at hd
    obtain ⟨x, y, r, rfl, rfl, rfl, rfl, rfl, rfl⟩ := zbI_inv h
    exact lv_isub hx hb hd (kk H locs ls hrel hl)
  | imul =>
    have hnx : nxt = pc + 1 := of_decide_eq_true hn
    subst hnx
    rw [Nat.add_sub_cancel_left] at hd
    obtain ⟨x, y, r, rfl, rfl, rfl, rfl, rfl, rfl⟩ := zbI_inv h
    exact lv_imul hx hb hd (kk H locs ls hrel hl)
  | iand =>
    have hnx : nxt = pc + 1 := of_decide_eq_true hn
    subst hnx
    rw [Nat.add_sub_cancel_left] at hd
    obtain ⟨x, y, r, rfl, rfl, rfl, rfl, rfl, rfl⟩ := zbI_inv h
    exact lv_iand hx hb hd (kk H locs ls hrel hl)
  | ior =>
    have hnx : nxt = pc + 1 := of_decide_eq_true hn
    subst hnx
    rw [Nat.add_sub_cancel_left] at hd
    obtain ⟨x, y, r, rfl, rfl, rfl, rfl, rfl, rfl⟩ := zbI_inv h
    exact lv_ior hx hb hd (kk H locs ls hrel hl)
  | ixor =>
    have hnx : nxt = pc + 1 := of_decide_eq_true hn
    subst hnx
    rw [Nat.add_sub_cancel_left] at hd
    obtain ⟨x, y, r, rfl, rfl, rfl, rfl, rfl, rfl⟩ := zbI_inv h
    exact lv_ixor hx hb hd (kk H locs ls hrel hl)
  | ishl =>
    have hnx : nxt = pc + 1 := of_decide_eq_true hn
    subst hnx
    rw [Nat.add_sub_cancel_left] at hd
    obtain ⟨x, y, r, rfl, rfl, rfl, rfl, rfl, rfl⟩ := zbI_inv h
    exact lv_ishl hx hb hd (kk H locs ls hrel hl)
  | ishr =>
    have hnx : nxt = pc + 1 := of_decide_eq_true hn
    subst hnx
    rw [Nat.add_sub_cancel_left] at hd
    obtain ⟨x, y, r, rfl, rfl, rfl, rfl, rfl, rfl⟩ := zbI_inv h
    exact lv_ishr hx hb hd (kk H locs ls hrel hl)
  | iushr =>
    have hnx : nxt = pc + 1 := of_decide_eq_true hn
    subst hnx
    rw [Nat.add_sub_cancel_left] at hd
    obtain ⟨x, y, r, rfl, rfl, rfl, rfl, rfl, rfl⟩ := zbI_inv h
    exact lv_iushr hx hb hd rfl (kk H locs ls hrel hl)
  | idiv =>
    have hnx : nxt = pc + 1 := of_decide_eq_true hn
    subst hnx
    rw [Nat.add_sub_cancel_left] at hd
    obtain ⟨x, y, r, rfl, rfl, rfl, rfl, rfl, rfl⟩ := zbI_inv h
    exact lv_idiv hx hb hd hp (kk H locs ls hrel hl)
  | irem =>
    have hnx : nxt = pc + 1 := of_decide_eq_true hn
    subst hnx
    rw [Nat.add_sub_cancel_left] at hd
    obtain ⟨x, y, r, rfl, rfl, rfl, rfl, rfl, rfl⟩ := zbI_inv h
    exact lv_irem hx hb hd hp (kk H locs ls hrel hl)
  | ladd =>
    have hnx : nxt = pc + 1 := of_decide_eq_true hn
    subst hnx
    rw [Nat.add_sub_cancel_left] at hd
    obtain ⟨x, y, r, rfl, rfl, rfl, rfl, rfl, rfl⟩ := zbJ_inv h
    exact lv_ladd hx hb hd (kk H locs ls hrel hl)
  | lsub =>
    have hnx : nxt = pc + 1 := of_decide_eq_true hn
    subst hnx
    rw [Nat.add_sub_cancel_left] at hd
    obtain ⟨x, y, r, rfl, rfl, rfl, rfl, rfl, rfl⟩ := zbJ_inv h
    exact lv_lsub hx hb hd (kk H locs ls hrel hl)
  | lmul =>
    have hnx : nxt = pc + 1 := of_decide_eq_true hn
    subst hnx
    rw [Nat.add_sub_cancel_left] at hd
    obtain ⟨x, y, r, rfl, rfl, rfl, rfl, rfl, rfl⟩ := zbJ_inv h
    exact lv_lmul hx hb hd (kk H locs ls hrel hl)
  | land =>
    have hnx : nxt = pc + 1 := of_decide_eq_true hn
    subst hnx
    rw [Nat.add_sub_cancel_left] at hd
    obtain ⟨x, y, r, rfl, rfl, rfl, rfl, rfl, rfl⟩ := zbJ_inv h
    exact lv_land hx hb hd (kk H locs ls hrel hl)
  | lor =>
    have hnx : nxt = pc + 1 := of_decide_eq_true hn
    subst hnx
    rw [Nat.add_sub_cancel_left] at hd
    obtain ⟨x, y, r, rfl, rfl, rfl, rfl, rfl, rfl⟩ := zbJ_inv h
    exact lv_lor hx hb hd (kk H locs ls hrel hl)
  | ldiv =>
    have hnx : nxt = pc + 1 := of_decide_eq_true hn
    subst hnx
    rw [Nat.add_sub_cancel_left] at hd
    obtain ⟨x, y, r, rfl, rfl, rfl, rfl, rfl, rfl⟩ := zbJ_inv h
    exact lv_ldiv hx hb hd hp (kk H locs ls hrel hl)
  | lrem =>
    have hnx : nxt = pc + 1 := of_decide_eq_true hn
    subst hnx
    rw [Nat.add_sub_cancel_left] at hd
    obtain ⟨x, y, r, rfl, rfl, rfl, rfl, rfl, rfl⟩ := zbJ_inv h
    exact lv_lrem hx hb hd hp (kk H locs ls hrel hl)
  | lshl =>
    have hnx : nxt = pc + 1 := of_decide_eq_true hn
    subst hnx
    rw [Nat.add_sub_cancel_left] at hd
    simp only [zstep] at h
    split at h
    · cases h
      exact lv_lshl hx hb hd rfl (kk H locs ls hrel hl)
    · cases h
  | i2l =>
    have hnx : nxt = pc + 1 := of_decide_eq_true hn
    subst hnx
    rw [Nat.add_sub_cancel_left] at hd
    simp only [zstep] at h
    split at h
    · cases h
      exact lv_i2l hx hb hd rfl (kk H locs ls hrel hl)
    · cases h
  | lcmp =>
    have hnx : nxt = pc + 1 := of_decide_eq_true hn
    subst hnx
    rw [Nat.add_sub_cancel_left] at hd
    simp only [zstep] at h
    split at h
    · cases h
      exact W.lcmp hx hb hd (kk H locs ls hrel hl)
    · cases h
  | dup =>
    have hnx : nxt = pc + 1 := of_decide_eq_true hn
    subst hnx
    rw [Nat.add_sub_cancel_left] at hd
    simp only [zstep] at h
    split at h
    · rename_i v r
      cases hc : Nat.beq v.category 1 with
      | true =>
        rw [hc] at h; cases h
        exact lv_dup hx hb hd ((zv_cat ad v).trans (Nat.eq_of_beq_eq_true hc)) (kk H locs ls hrel hl)
      | false => rw [hc] at h; cases h
    · cases h
  | pop =>
    have hnx : nxt = pc + 1 := of_decide_eq_true hn
    subst hnx
    rw [Nat.add_sub_cancel_left] at hd
    simp only [zstep] at h
    split at h
    · rename_i v r
      cases hc : Nat.beq v.category 1 with
      | true =>
        rw [hc] at h; cases h
        exact lv_pop hx hb hd ((zv_cat ad v).trans (Nat.eq_of_beq_eq_true hc)) (kk H locs ls hrel hl)
      | false => rw [hc] at h; cases h
    · cases h
  | dup2 =>
    have hnx : nxt = pc + 1 := of_decide_eq_true hn
    subst hnx
    rw [Nat.add_sub_cancel_left] at hd
    simp only [zstep] at h
    split at h
    · cases h
      exact lv_dup2_2 (va := .long _) hx hb hd rfl (kk H locs ls hrel hl)
    · cases h
      exact lv_dup2_11 (va := .int _) (vb := .ref _) hx hb hd rfl rfl (kk H locs ls hrel hl)
    · cases h
      exact lv_dup2_11 (va := .int _) (vb := .int _) hx hb hd rfl rfl (kk H locs ls hrel hl)
    · cases h
  | pop2 =>
    have hnx : nxt = pc + 1 := of_decide_eq_true hn
    subst hnx
    rw [Nat.add_sub_cancel_left] at hd
    simp only [zstep] at h
    split at h
    · cases h
      exact lv_pop2_2 (va := .long _) hx hb hd rfl (kk H locs ls hrel hl)
    · cases h
  | ifCond cd off =>
    have hnx : nxt = pc + 3 := of_decide_eq_true hn
    subst hnx
    rw [Nat.add_sub_cancel_left] at hd
    have ht : (pc : Int) + off = (a : Int) := of_decide_eq_true hg
    cases cd with
    | eq =>
      obtain ⟨x, rfl, rfl, rfl, rfl, rfl⟩ := zbr1_inv h
      exact lv_if_eq hx hb hd ht (fun q => by have k2 := kk H locs ls hrel hl; rw [if_pos q] at k2; exact k2) (fun q => by have k2 := kk H locs ls hrel hl; rw [if_neg q] at k2; exact k2)
    | ne =>
      obtain ⟨x, rfl, rfl, rfl, rfl, rfl⟩ := zbr1_inv h
      exact lv_if_ne hx hb hd ht (fun q => by have k2 := kk H locs ls hrel hl; rw [if_pos q] at k2; exact k2) (fun q => by have k2 := kk H locs ls hrel hl; rw [if_neg (fun z => z q)] at k2; exact k2)
    | lt =>
      obtain ⟨x, rfl, rfl, rfl, rfl, rfl⟩ := zbr1_inv h
      exact lv_if_lt hx hb hd ht (fun q => by have k2 := kk H locs ls hrel hl; rw [if_pos q] at k2; exact k2) (fun q => by have k2 := kk H locs ls hrel hl; rw [if_neg q] at k2; exact k2)
    | ge =>
      obtain ⟨x, rfl, rfl, rfl, rfl, rfl⟩ := zbr1_inv h
      exact lv_if_ge hx hb hd ht (fun q => by have k2 := kk H locs ls hrel hl; rw [if_pos q] at k2; exact k2) (fun q => by have k2 := kk H locs ls hrel hl; rw [if_neg q] at k2; exact k2)
    | gt =>
      obtain ⟨x, rfl, rfl, rfl, rfl, rfl⟩ := zbr1_inv h
      exact lv_if_gt hx hb hd ht (fun q => by have k2 := kk H locs ls hrel hl; rw [if_pos q] at k2; exact k2) (fun q => by have k2 := kk H locs ls hrel hl; rw [if_neg q] at k2; exact k2)
    | le =>
      obtain ⟨x, rfl, rfl, rfl, rfl, rfl⟩ := zbr1_inv h
      exact lv_if_le hx hb hd ht (fun q => by have k2 := kk H locs ls hrel hl; rw [if_pos q] at k2; exact k2) (fun q => by have k2 := kk H locs ls hrel hl; rw [if_neg q] at k2; exact k2)
  | if_icmp cd off =>
    have hnx : nxt = pc + 3 := of_decide_eq_true hn
    subst hnx
    rw [Nat.add_sub_cancel_left] at hd
    have ht : (pc : Int) + off = (a : Int) := of_decide_eq_true hg
    cases cd with
    | eq =>
      obtain ⟨x, y, rfl, rfl, rfl, rfl, rfl⟩ := zbr2_inv h
      exact lv_icmp_eq hx hb hd ht (fun q => by have k2 := kk H locs ls hrel hl; rw [if_pos q] at k2; exact k2) (fun q => by have k2 := kk H locs ls hrel hl; rw [if_neg q] at k2; exact k2)
    | ne =>
      obtain ⟨x, y, rfl, rfl, rfl, rfl, rfl⟩ := zbr2_inv h
      exact lv_icmp_ne hx hb hd ht (fun q => by have k2 := kk H locs ls hrel hl; rw [if_pos q] at k2; exact k2) (fun q => by have k2 := kk H locs ls hrel hl; rw [if_neg (fun z => z q)] at k2; exact k2)
    | lt =>
      obtain ⟨x, y, rfl, rfl, rfl, rfl, rfl⟩ := zbr2_inv h
      exact lv_icmp_lt hx hb hd ht (fun q => by have k2 := kk H locs ls hrel hl; rw [if_pos q] at k2; exact k2) (fun q => by have k2 := kk H locs ls hrel hl; rw [if_neg q] at k2; exact k2)
    | ge =>
      obtain ⟨x, y, rfl, rfl, rfl, rfl, rfl⟩ := zbr2_inv h
      exact lv_icmp_ge hx hb hd ht (fun q => by have k2 := kk H locs ls hrel hl; rw [if_pos q] at k2; exact k2) (fun q => by have k2 := kk H locs ls hrel hl; rw [if_neg q] at k2; exact k2)
    | gt =>
      obtain ⟨x, y, rfl, rfl, rfl, rfl, rfl⟩ := zbr2_inv h
      exact lv_icmp_gt hx hb hd ht (fun q => by have k2 := kk H locs ls hrel hl; rw [if_pos q] at k2; exact k2) (fun q => by have k2 := kk H locs ls hrel hl; rw [if_neg q] at k2; exact k2)
    | le =>
      obtain ⟨x, y, rfl, rfl, rfl, rfl, rfl⟩ := zbr2_inv h
      exact lv_icmp_le hx hb hd ht (fun q => by have k2 := kk H locs ls hrel hl; rw [if_pos q] at k2; exact k2) (fun q => by have k2 := kk H locs ls hrel hl; rw [if_neg q] at k2; exact k2)
  | goto off =>
    have hnx : nxt = pc + 3 := of_decide_eq_true hn
    subst hnx
    rw [Nat.add_sub_cancel_left] at hd
    cases h
    exact lv_goto hx hb hd (of_decide_eq_true hg) (kk H locs ls hrel hl)
  | tableswitch dflt lo hi offs =>
    simp only [zstep] at h
    split at h
    · rename_i x r
      cases h
      obtain ⟨⟨p1, p2⟩, p3⟩ := hp
      by_cases hq : x.toInt < lo ∨ hi < x.toInt
      · have k2 := kk H locs ls hrel hl
        rw [if_pos hq] at k2
        exact lv_tableOut hx hb hd hq (Int.toNat_of_nonneg p1).symm k2
      · have k2 := kk H locs ls hrel hl
        rw [if_neg hq] at k2
        have h1 : ¬ x.toInt < lo := fun z => hq (Or.inl z)
        have h2 : ¬ hi < x.toInt := fun z => hq (Or.inr z)
        have h3 : (x.toInt - lo).toNat < offs.size := by omega
        have h4 : offs[(x.toInt - lo).toNat]? = some (offs.getD (x.toInt - lo).toNat 0) := by simp [Array.getD, h3]
        have h5 : 0 ≤ (pc : Int) + offs.getD (x.toInt - lo).toNat 0 := p2 _ (Array.mem_toList_iff.mpr (Array.mem_of_getElem? h4))
        exact lv_tableIn hx hb hd h1 h2 h4 (Int.toNat_of_nonneg h5).symm k2
    · cases h
  | lookupswitch dflt ps =>
    simp only [zstep] at h
    split at h
    · rename_i x r
      cases h
      exact lv_lookup hx hb hd hp.1 rfl (Int.toNat_of_nonneg hp.2).symm (kk H locs ls hrel hl)
    · cases h
  | getfield i =>
    have hnx : nxt = pc + 3 := of_decide_eq_true hn
    subst hnx
    rw [Nat.add_sub_cancel_left] at hd
    simp only [zstep] at h
    split at h
    · rename_i q r
      split at h
      · rename_i ci fs hw
        cases hc : Nat.beq ci a with
        | false => rw [hc] at h; cases h
        | true =>
          rw [hc] at h
          have e0 := Nat.eq_of_beq_eq_true hc
          subst e0
          dsimp only [cond] at h
          split at h
          · rename_i v hv
            cases h
            simp only [zgd, Bool.or_eq_true, decide_eq_true_eq] at hg
            have hg2 : ∃ r, vwCl[ci]? = some r ∧ b < r.2.2 ∧ Cond.fieldLink M.1 i (r.2.1 b).1 (r.2.1 b).2.1 (r.2.1 b).2.2.1 ∈ zG := by
              rcases hg with hg | hg | hg
              · obtain ⟨r, h1, h2, h3, -⟩ := hF.1 _ hg; exact ⟨r, h1, h2, h3⟩
              · obtain ⟨r, h1, h2, h3, -⟩ := hF.1 _ hg; exact ⟨r, h1, h2, h3⟩
              · obtain ⟨r, h1, h2, h3, -⟩ := hF.1 _ hg; exact ⟨r, h1, h2, h3⟩
            obtain ⟨r0, hr0, hg⟩ := hg2
            exact va_get (D := (dC, dI)) (ci := ci) (v := zv ad v) hx hb hts (zin_ok hr0) hown hK hrel.2.2.1 q (zw_at hw) hr0 b hg.1 (hts _ hg.2) (fun _ h9 => h9) (by rw [List.getElem?_map, hv]; rfl) hd (kk H locs ls hrel hl)
          · cases h
      · cases h
    · cases h
  | putfield i =>
    have hnx : nxt = pc + 3 := of_decide_eq_true hn
    subst hnx
    rw [Nat.add_sub_cancel_left] at hd
    simp only [zstep] at h
    split at h
    · rename_i v q r
      split at h
      · rename_i ci fs hw
        cases hc : (Nat.beq ci a && (Nat.blt b fs.length && zfit (zty a b) v)) with
        | false => rw [hc] at h; cases h
        | true =>
          rw [hc] at h
          dsimp only [cond] at h
          simp only [Bool.and_eq_true] at hc
          obtain ⟨c1, c2, c3⟩ := hc
          have e0 := Nat.eq_of_beq_eq_true c1
          subst e0
          have hbl : b < (fs.map (zv ad)).length := by rw [List.length_map]; exact Nat.le_of_ble_eq_true c2
          cases h
          simp only [zgd, Bool.or_eq_true, Bool.and_eq_true, decide_eq_true_eq] at hg
          have hg2 : ∃ r, vwCl[ci]? = some r ∧ b < r.2.2 ∧ Cond.fieldLink M.1 i (r.2.1 b).1 (r.2.1 b).2.1 (r.2.1 b).2.2.1 ∈ zG ∧ ((r.2.1 b).2.2.2 = false ∨ (M.2.2.2.1 = true ∧ (r.2.1 b).1 = M.1)) := by
            rcases hg with hg | ⟨hg1, hg⟩
            · obtain ⟨r, h1, h2, h3, ⟨-, h4⟩ | ⟨h4, -⟩ | h4⟩ := hF.1 _ hg
              · exact ⟨r, h1, h2, h3, Or.inl h4⟩
              · cases h4
              · cases h4
            · obtain ⟨r, h1, h2, h3, ⟨h4, -⟩ | ⟨-, -, h5⟩ | h4⟩ := hF.1 _ hg
              · cases h4
              · exact ⟨r, h1, h2, h3, Or.inr ⟨hg1, h5⟩⟩
              · cases h4
          obtain ⟨r0, hr0, g1, g2, g3⟩ := hg2
          obtain ⟨f1, f2⟩ := zfit_ok ad c3
          have hlt := zlt7 hr0
          have fin : ∀ (H1 : Heap) (locs1 : List Loc), va_P (dC, dI) vwCl ((zw dA ad w).set q (ad q, .inr (ci, (fs.map (zv ad)).set b (zv ad v)))) H1 → va_D A ((zw dA ad w).set q (ad q, .inr (ci, (fs.map (zv ad)).set b (zv ad v)))) → va_S A s.heap H1 locs1 → W p l0 e M.2.2.2.2.1 s m args below meth c H1 locs1 kc ks Z (F0 m (pc + 3) ls (st'.map (zv ad))) := by
            intro H1 locs1 hP1 hD1 hS1
            have ew : (zw dA ad w).set q (ad q, .inr (ci, (fs.map (zv ad)).set b (zv ad v))) = zw dA ad (w.set q (.inr (.inr (.inr (ci, fs.set b v))))) := by rw [← zw_set, ← List.map_set]; rfl
            rw [ew] at hP1 hD1
            exact kk H1 locs1 ls ⟨hrel.1, hrel.2.1, hP1, hD1, hS1⟩ hl
          cases hz : (r0.2.1 b).2.2.2 with
          | false => exact va_put (D := (dC, dI)) (ci := ci) (v := zv ad v) (ty := zty ci b) hx hb hts (zin_ok hr0) (zty ci) (zty_ok ci hlt r0 hr0) (znm_ok ci hlt r0 hr0) hown hK hrel.2.2.1 hrel.2.2.2.1 hrel.2.2.2.2 q (zw_at hw) hr0 b g1 (hts _ g2) (fun _ h9 => h9) hz (zty_ok ci hlt r0 hr0 b g1) f1 f2 hbl hd fin
          | true =>
            rcases g3 with g3 | g3
            · rw [hz] at g3; cases g3
            · exact va_putF (D := (dC, dI)) (ci := ci) (v := zv ad v) (ty := zty ci b) hx hb hts (zin_ok hr0) (zty ci) (zty_ok ci hlt r0 hr0) (znm_ok ci hlt r0 hr0) hown hK hrel.2.2.1 hrel.2.2.2.1 hrel.2.2.2.2 q (zw_at hw) hr0 b g1 (hts _ g2) (fun _ h9 => h9) hz (hin.1 g3.1) g3.2 (zty_ok ci hlt r0 hr0 b g1) f1 f2 hbl hd fin
      · cases h
    · cases h
  | iaload =>
    have hnx : nxt = pc + 1 := of_decide_eq_true hn
    subst hnx
    rw [Nat.add_sub_cancel_left] at hd
    simp only [zstep] at h
    split at h
    · rename_i i q r
      split at h
      · rename_i n f hw
        cases h
        exact va_iald hx hb hK hrel.2.2.1 q 0 (zw_at hw) rfl hp hd (kk H locs ls hrel hl)
      · cases h
    · cases h
  | baload =>
    have hnx : nxt = pc + 1 := of_decide_eq_true hn
    subst hnx
    rw [Nat.add_sub_cancel_left] at hd
    simp only [zstep] at h
    split at h
    · rename_i i q r
      split at h
      · rename_i n f hw
        cases h
        exact va_zald hx hb hK hrel.2.2.1 q 1 (zw_at hw) rfl hp hd (kk H locs ls hrel hl)
      · cases h
    · cases h
  | laload =>
    have hnx : nxt = pc + 1 := of_decide_eq_true hn
    subst hnx
    rw [Nat.add_sub_cancel_left] at hd
    simp only [zstep] at h
    split at h
    · rename_i i q r
      split at h
      · rename_i n f hw
        cases h
        exact va_lald hx hb hK hrel.2.2.1 q 2 (zw_at hw) rfl hp hd (kk H locs ls hrel hl)
      · cases h
    · cases h
  | iastore =>
    have hnx : nxt = pc + 1 := of_decide_eq_true hn
    subst hnx
    rw [Nat.add_sub_cancel_left] at hd
    simp only [zstep] at h
    split at h
    · rename_i x i q r
      split at h
      · rename_i n f hw
        cases h
        exact va_iast hx hb hK hrel.2.2.1 hrel.2.2.2.1 hrel.2.2.2.2 q 0 (zw_at hw) rfl hp hd (fun H1 locs1 hP1 hD1 hS1 => kk H1 locs1 ls ⟨hrel.1, hrel.2.1, (zw_set dA ad w q _) ▸ hP1, (zw_set dA ad w q _) ▸ hD1, hS1⟩ hl)
      · cases h
    · cases h
  | bastore =>
    have hnx : nxt = pc + 1 := of_decide_eq_true hn
    subst hnx
    rw [Nat.add_sub_cancel_left] at hd
    simp only [zstep] at h
    split at h
    · rename_i x i q r
      split at h
      · rename_i n f hw
        cases h
        exact va_zast hx hb hK hrel.2.2.1 hrel.2.2.2.1 hrel.2.2.2.2 q 1 (zw_at hw) rfl hp hd (fun H1 locs1 hP1 hD1 hS1 => kk H1 locs1 ls ⟨hrel.1, hrel.2.1, (zw_set dA ad w q _) ▸ hP1, (zw_set dA ad w q _) ▸ hD1, hS1⟩ hl)
      · cases h
    · cases h
  | lastore =>
    have hnx : nxt = pc + 1 := of_decide_eq_true hn
    subst hnx
    rw [Nat.add_sub_cancel_left] at hd
    simp only [zstep] at h
    split at h
    · rename_i x i q r
      split at h
      · rename_i n f hw
        cases h
        exact va_last hx hb hK hrel.2.2.1 hrel.2.2.2.1 hrel.2.2.2.2 q 2 (zw_at hw) rfl hp hd (fun H1 locs1 hP1 hD1 hS1 => kk H1 locs1 ls ⟨hrel.1, hrel.2.1, (zw_set dA ad w q _) ▸ hP1, (zw_set dA ad w q _) ▸ hD1, hS1⟩ hl)
      · cases h
    · cases h
  | arraylength =>
    have hnx : nxt = pc + 1 := of_decide_eq_true hn
    subst hnx
    rw [Nat.add_sub_cancel_left] at hd
    simp only [zstep] at h
    split at h
    · rename_i q r
      split at h
      · rename_i n f hw
        cases h
        exact va_alen hx hb hK hrel.2.2.1 q 0 (zw_at hw) rfl rfl hd (kk H locs ls hrel hl)
      · cases h
    · cases h
  | _ => cases h
theorem zv_step {tb : List zE} (ok : zTb M tb) (hl : zlook tb pc = some (ins, nxt, a, b, c0)) (h : zstep ins pc nxt a b c0 l st w = some (P, pc', l', st', w')) (hp : P) (k : zV M al n0 kc ks pc' l' st' w' Q) : zV M al n0 kc ks pc l st w Q := by
  obtain ⟨F, hF, ok⟩ := ok
  have h1 := ok _ (zlook_mem hl)
  simp only [zgood, Bool.and_eq_true, decide_eq_true_eq] at h1
  exact zv_st h1.1.1 h1.1.2 hF h1.2 h hp k
end ZS
end
section
def zrm (d : Nat) (z : zMt) : Room := { frames := d, cells := z.2.2.2.2.2.1, slots := z.2.2.2.2.2.2.1, locals := 64 * d }
def zws (z : zMt) : List Cond := Cond.code z.1 z.2.1 z.2.2.1 z.2.2.2.1 :: zG
abbrev zMo (d : Nat) (z : zMt) : zM := (z.1.cls, z.2.1, z.2.2.1, Nat.beq z.2.2.2.2.2.2.2.1 2, zrm d z, z.2.2.2.1, fun _ _ _ _ _ _ _ _ _ _ _ _ _ _ _ => True)
def zQc (dC : Nat → ClassId) (dI : Nat → Nat → Nat) (dA : Nat → ClassId) (ad : Nat → Nat) (A : Nat → Prop) (n0 : Nat) (al : Bool) (Q : Option Value → zW → Prop) : Array Value → State → Outcome → State → Prop := fun _ st oc t =>
  (∃ (r : Option Value) (w' : zW) (ad' : Nat → Nat), oc = .returned (r.map (zv ad')) ∧ Q r w' ∧ (al = false → ad' = ad) ∧ (∀ k, (k < n0 ∨ zsent ≤ k) → ad' k = ad k) ∧ va_P (dC, dI) vwCl (zw dA ad' w') t.heap ∧ zKx dC dI dA t ∧ va_D A (zw dA ad' w')) ∧ va_F A st t
def zPc (dC : Nat → ClassId) (dI : Nat → Nat → Nat) (dA : Nat → ClassId) (ad : Nat → Nat) (as : List Value) (w : zW) (sz : Nat) : Array Value → State → Prop := va_Pc (as.map (zv ad)) (fun U => U.heap.size = sz ∧ va_P (dC, dI) vwCl (zw dA ad w) U.heap ∧ zKx dC dI dA U ∧ va_D (fun _ => True) (zw dA ad w))
/-- a method's contract: called with these arguments in this world, with room for d frames, it returns, and Q takes answer and world -/
def zK (d : Nat) (z : zMt) (as : List Value) (w : zW) (Q : Option Value → zW → Prop) : Prop :=
  ∀ (l0 : Launch), l0.stackTraces = false → ∀ (dC : Nat → ClassId) (dI : Nat → Nat → Nat) (dA : Nat → ClassId) (ad : Nat → Nat) (sz : Nat), Met l0 z.1 (zws z) (zrm d z) (zPc dC dI dA ad as w sz) (zQc dC dI dA ad (va_A (zw dA ad w) sz) w.length z.2.2.2.2.1 Q) z.2.2.2.2.2.1 z.2.2.2.2.2.2.1 (va_A (zw dA ad w) sz)
theorem zargs (ad : Nat → Nat) : ∀ (as : List Value) (i : Nat), lv_args i (as.map (zv ad)) = zl ad (lv_args i as)
  | [], _ => rfl
  | v :: vs, i => by
    simp only [List.map_cons, lv_args, zv_cat]
    rw [zargs ad vs]
    rfl
theorem zsl (ad : Nat → Nat) : ∀ as : List Value, (lg_sl (as.map (zv ad))).length = (lg_sl as).length
  | [] => rfl
  | v :: vs => by
    have ih := zsl ad vs
    unfold lg_sl at ih ⊢
    simp only [List.map_cons, List.flatMap_cons, List.length_append, zv_cat]
    rw [ih]
    split <;> rfl
set_option maxHeartbeats 1000000 in
theorem zK_of {d : Nat} {z : zMt} {as : List Value} {w : zW} {Q : Option Value → zW → Prop} (hq : zMok z) (hy : plainName z.1.cls = true) (hn : Nat.ble (lg_sl as).length z.2.2.1 = true) (h : zV (zMo d z) z.2.2.2.2.1 w.length 0 0 0 (lv_args 0 as) [] w Q) : zK d z as w Q := by
  intro l0 h9t dC dI dA ad sz
  refine Met.ofW (cc := z.2.1) (maxL := z.2.2.1) (ret := z.2.2.2.1) hy rfl ?_
  intro p e s m args below meth c s₁ B hml hv
  obtain ⟨rfl, hsz, hP, hK, hD0⟩ := hv
  have hts := atoms_spec (ws := zws z) B.pre
  have hown : s.vm.findClass z.1.cls = some m.cls := findClass_of_methodNamed B.named
  subst hsz
  have hD := hD0.self (sz := s.heap.size)
  have hA : ∀ q : Nat, s.heap.size ≤ q → va_A (zw dA ad w) s.heap.size q := fun q h => Or.inr h
  have hl := lv_entry (as.map (zv ad)) (n := z.2.2.1) (by rw [zsl]; exact Nat.le_of_ble_eq_true hn)
  rw [lg_entry_eq]
  generalize (lg_sl (as.map (zv ad)) ++ List.replicate (z.2.2.1 - (lg_sl (as.map (zv ad))).length) Slot.unset).toArray = ls at hl ⊢
  rw [zargs] at hl
  have hlk : meth.locks = false := B.notSynchronized
  have hr := B.returns
  refine h p l0 e s m (as.map (zv ad)).toArray below meth c dC dI dA ad (va_A (zw dA ad w) s.heap.size) (MQ below (zQc dC dI dA ad (va_A (zw dA ad w) s.heap.size) w.length z.2.2.2.2.1 Q) (as.map (zv ad)).toArray s z.2.2.2.2.2.1 z.2.2.2.2.2.2.1 (va_A (zw dA ad w) s.heap.size)) h9t ⟨B.exec, B.bytes, hml, hown, fun x hx => hts x (List.mem_cons_of_mem _ hx), hK, hA, fun hi => ?_, trivial⟩ ?_ ad s.heap [] ls ⟨fun _ => rfl, fun _ _ => rfl, hP, hD, va_S.rf⟩ hl
  · have h1 := (name_of_methodNamed B.named B.method).1
    have h2 : z.1.name = "<init>" := (hq.2.2.2.2.2 (Nat.eq_of_beq_eq_true hi)).2.1
    rw [h1, h2]
  · intro ad' H locs kc ks pc ls' v w' hrel hqq hkc hks hrt
    refine W.widen (k := z.2.2.2.2.2.1) (n := z.2.2.2.2.2.2.1) hkc hks ?_
    have fin : ∀ t : State, t.heap = H → s.WarmedH t.vm → zQc dC dI dA ad (va_A (zw dA ad w) s.heap.size) w.length z.2.2.2.2.1 Q (as.map (zv ad)).toArray s (.returned (v.map (zv ad'))) t := fun t ht hW =>
      ⟨⟨v, w', ad', rfl, hqq, hrel.1, hrel.2.1, by rw [ht]; exact hrel.2.2.1, zKx.moved hW.alike hK, hrel.2.2.2.1⟩, hrel.2.2.2.2.F ht⟩
    match v, hrt, fin with
    | none, hrt, fin => exact W.vret B.exec B.bytes (hr.trans hrt.1) fin hrel.2.2.2.2.2.2 hrt.2 hlk
    | some (.int x), hrt, fin =>
      rcases hrt with ⟨h1 | ⟨h1, h2⟩, h3⟩
      · exact W.iret B.exec B.bytes (hr.trans h1) fin hrel.2.2.2.2.2.2 h3 hlk
      · exact W.zret (ty := .boolean) B.exec B.bytes (hr.trans h1) (by rcases h2 with rfl | rfl <;> decide +kernel) fin hrel.2.2.2.2.2.2 h3 hlk
    | some (.long x), hrt, fin => exact W.lret B.exec B.bytes (hr.trans hrt.1) fin hrel.2.2.2.2.2.2 hrt.2 hlk
section ZC
variable {M : zM} {al : Bool} {n0 kc ks pc nxt a b : Nat} {c0 : Int} {l : zL} {st : List Value} {w : zW} {Q : Option Value → zW → Prop} {tb : List zE}
theorem zv_iret (ok : zTb M tb) {x : Int32} (hl : zlook tb pc = some (.ireturn, pc + 1, a, b, c0)) (hr : (M.2.2.2.2.2.1 = some .int) ∨ (M.2.2.2.2.2.1 = some .boolean ∧ (x = 0 ∨ x = 1))) (hk : kc ≤ M.2.2.2.2.1.cells) (hs : ks ≤ M.2.2.2.2.1.slots) (hq : Q (some (.int x)) w) : zV M al n0 kc ks pc l [.int x] w Q := by
  intro p l0 e s m args below meth c dC dI dA ad0 A Z h9t hctx hfin ad H locs ls hrel hlv
  obtain ⟨F, hF, ok⟩ := ok
  have h1 := ok _ (zlook_mem hl)
  simp only [zgood, Bool.and_eq_true, decide_eq_true_eq, Nat.add_sub_cancel_left] at h1
  exact hfin ad H locs kc ks pc ls (some (.int x)) w hrel hq hk hs ⟨hr, h1.1.1⟩
theorem zv_lret (ok : zTb M tb) {x : Int64} (hl : zlook tb pc = some (.lreturn, pc + 1, a, b, c0)) (hr : M.2.2.2.2.2.1 = some .long) (hk : kc ≤ M.2.2.2.2.1.cells) (hs : ks ≤ M.2.2.2.2.1.slots) (hq : Q (some (.long x)) w) : zV M al n0 kc ks pc l [.long x] w Q := by
  intro p l0 e s m args below meth c dC dI dA ad0 A Z h9t hctx hfin ad H locs ls hrel hlv
  obtain ⟨F, hF, ok⟩ := ok
  have h1 := ok _ (zlook_mem hl)
  simp only [zgood, Bool.and_eq_true, decide_eq_true_eq, Nat.add_sub_cancel_left] at h1
  exact hfin ad H locs kc ks pc ls (some (.long x)) w hrel hq hk hs ⟨hr, h1.1.1⟩
theorem zv_ret (ok : zTb M tb) (hl : zlook tb pc = some (.return_, pc + 1, a, b, c0)) (hr : M.2.2.2.2.2.1 = none) (hk : kc ≤ M.2.2.2.2.1.cells) (hs : ks ≤ M.2.2.2.2.1.slots) (hq : Q none w) : zV M al n0 kc ks pc l [] w Q := by
  intro p l0 e s m args below meth c dC dI dA ad0 A Z h9t hctx hfin ad H locs ls hrel hlv
  obtain ⟨F, hF, ok⟩ := ok
  have h1 := ok _ (zlook_mem hl)
  simp only [zgood, Bool.and_eq_true, decide_eq_true_eq, Nat.add_sub_cancel_left] at h1
  exact hfin ad H locs kc ks pc ls none w hrel hq hk hs ⟨hr, h1.1.1⟩
end ZC
section ZA
variable {p : Program} {l0 : Launch} {e : Env} {R : Room} {s : State} {m : MethodId} {args : Array Value} {below : List Frame} {meth : Method} {c : Code} {H H0 : Heap} {locs : List Loc} {cells slots mc ms pc n : Nat} {Z : State → Prop} {ls : Array Slot} {st0 rest : List Value} {dC : Nat → ClassId} {dI : Nat → Nat → Nat} {dA : Nat → ClassId} {ad : Nat → Nat} {A : Nat → Prop} {w : zW} {al : Bool} {Qc : Option Value → zW → Prop} {a : Array Value}
theorem zafter (hr : va_Run p l0 e R s m args below meth c H locs cells slots mc ms (F0 m pc ls st0) rest (zQc dC dI dA ad (va_A (zw dA ad w) H.size) n al Qc a) (va_A (zw dA ad w) H.size)) (hD : va_D A (zw dA ad w)) (hS : va_S A H0 H locs) (hA : ∀ q, H0.size ≤ q → A q)
    (kk : ∀ (r : Option Value) (w' : zW) (ad' : Nat → Nat) (H1 : Heap) (locs1 : List Loc), Qc r w' → (al = false → ad' = ad) → (∀ k, (k < n ∨ zsent ≤ k) → ad' k = ad k) → va_P (dC, dI) vwCl (zw dA ad' w') H1 → va_D A (zw dA ad' w') → va_S A H0 H1 locs1 → W p l0 e R s m args below meth c H1 locs1 (cells + mc) (slots + ms) Z (F0 m (pc + 3) ls ((r.map (zv ad')).toList ++ rest))) : W p l0 e R s m args below meth c H locs cells slots Z (F0 m pc ls st0) := by
  have hF : ∀ q, va_A (zw dA ad w) H.size q → A q := fun q h => by
    rcases h with ⟨k, x, h⟩ | h
    · exact hD.2 k _ h
    · exact hA q (Nat.le_trans hS.1 h)
  intro T hT X
  obtain ⟨v, st₀, t, T', L, h0, X', hL, e1, e2, ⟨⟨r, w', ad', hv, hq, hal, had, hP, hK, hD'⟩, hz, hk⟩, st⟩ := hr T hT X
  cases hv
  rw [h0] at hz hk
  obtain ⟨t2, a1, b1⟩ := kk r w' ad' T'.heap (locs ++ L) hq hal had (by rw [e1]; exact hP) (hD'.weaken (fun _ _ _ h => hF _ h))
    ⟨Nat.le_trans hS.1 (by rw [e1]; exact hz), fun q h1 h2 => by rw [e1, hk q (Nat.lt_of_lt_of_le h1 hS.1) (fun z => h2 (hF q z))]; exact hS.2.1 q h1 h2, fun q hq => by
      rcases List.mem_append.mp hq with h | h
      · exact hS.2.2 q h
      · exact hF _ (hL q h)⟩ T' rfl X'
  exact ⟨t2, st t2 a1, b1⟩
end ZA
theorem zgoodIn (z : zMt) (h : Cond.code z.1 z.2.1 z.2.2.1 z.2.2.2.1 ∈ zG) : GoodIn zG (zws z) := fun x hx => by
  rcases List.mem_cons.mp hx with rfl | hx
  · exact ⟨h, good_of_word (zG_good h)⟩
  · exact ⟨hx, good_of_word (zG_good hx)⟩
theorem zblind (dC : Nat → ClassId) (dI : Nat → Nat → Nat) (dA : Nat → ClassId) (ad : Nat → Nat) (as : List Value) (w : zW) (sz : Nat) : FrameBlind (zPc dC dI dA ad as w sz) := fun a U g mk q => by
  obtain ⟨q0, q1, qP, qK, qD⟩ := q
  exact ⟨q0, q1, qP, zKx.moved (u := U) (U := U.calling g mk a) (Vm.Alike.refl U.vm) qK, qD⟩
theorem zcats (ad : Nat → Nat) : ∀ r : List Value, ((r.map (zv ad)).map fun v => v.category).sum = (r.map fun v => v.category).sum
  | [] => rfl
  | v :: r => by
    simp only [List.map_cons, List.sum_cons, zv_cat]
    have := zcats ad r
    simp only [List.map_map] at this ⊢
    rw [this]
end
section
section ZI
variable {M : zM} {al : Bool} {n0 kc ks pc nxt a b : Nat} {c0 : Int} {l : zL} {st : List Value} {w : zW} {Q : Option Value → zW → Prop} {tb : List zE}
/-- what a value list keeps when cells come -/
def zokv (n : Nat) : Value → Bool
  | .ref k => Nat.blt k n || Nat.ble zsent k
  | _ => true
theorem zokv_eq {n : Nat} {ad ad' : Nat → Nat} (h : ∀ k, (k < n ∨ zsent ≤ k) → ad' k = ad k) {v : Value} (hv : zokv n v = true) : zv ad' v = zv ad v := by
  cases v with
  | ref k =>
    simp only [zokv, Bool.or_eq_true] at hv
    show Value.ref (ad' k) = Value.ref (ad k)
    rw [h k (hv.elim (fun q => Or.inl (Nat.le_of_ble_eq_true q)) (fun q => Or.inr (Nat.le_of_ble_eq_true q)))]
  | _ => rfl
theorem zokv_map {n : Nat} {ad ad' : Nat → Nat} (h : ∀ k, (k < n ∨ zsent ≤ k) → ad' k = ad k) {r : List Value} (hr : r.all (zokv n) = true) : r.map (zv ad') = r.map (zv ad) :=
  List.map_congr_left fun v hv => zokv_eq h (List.all_eq_true.mp hr v hv)
theorem zokv_l {n : Nat} {ad ad' : Nat → Nat} (h : ∀ k, (k < n ∨ zsent ≤ k) → ad' k = ad k) {l : zL} (hr : l.all (fun q => zokv n q.2) = true) : zl ad' l = zl ad l :=
  List.map_congr_left fun q hq => by rw [zokv_eq h (List.all_eq_true.mp hr q hq)]
/-- behind a call: the callee makes no cells, or all references that the caller holds are of cells that were there -/
theorem zjoin {dC : Nat → ClassId} {dI : Nat → Nat → Nat} {dA : Nat → ClassId} {ad0 ad ad' : Nat → Nat} {A : Nat → Prop} {H0 H H1 : Heap} {locs locs1 : List Loc} {w w' : zW} {al' : Bool} {rest : List Value} {ls : Array Slot} {nL : Nat}
    (hrel : zrel dC dI dA ad0 ad A n0 al H0 H locs w) (hl : lv_has ls nL (zl ad l)) (hc : al' = false ∨ (al = true ∧ n0 ≤ w.length ∧ rest.all (zokv w.length) = true ∧ l.all (fun q => zokv w.length q.2) = true)) (hal : al' = false → ad' = ad) (had : ∀ k, (k < w.length ∨ zsent ≤ k) → ad' k = ad k) (hP : va_P (dC, dI) vwCl (zw dA ad' w') H1) (hD : va_D A (zw dA ad' w')) (hS : va_S A H0 H1 locs1) :
    zrel dC dI dA ad0 ad' A n0 al H0 H1 locs1 w' ∧ lv_has ls nL (zl ad' l) ∧ rest.map (zv ad') = rest.map (zv ad) := by
  rcases hc with hc | ⟨h1, h2, h3, h4⟩
  · have e := hal hc
    subst e
    exact ⟨⟨hrel.1, hrel.2.1, hP, hD, hS⟩, hl, rfl⟩
  · refine ⟨⟨(fun q => by rw [h1] at q; cases q), fun k hk => (had k (hk.imp (fun q => Nat.lt_of_lt_of_le q h2) id)).trans (hrel.2.1 k hk), hP, hD, hS⟩, by rw [zokv_l had h4]; exact hl, zokv_map had h3⟩
set_option maxHeartbeats 1000000 in
theorem zv_callV (ok : zTb M tb) {idx : Nat} (hlook : zlook tb pc = some (.invokevirtual idx, pc + 3, a, b, c0)) {z : zMt} (hz : zms[a]? = some z) {As rest : List Value} {o d : Nat} {Qc : Option Value → zW → Prop}
    (hst : st = As.reverse ++ .ref o :: rest) (hn : As.length = b) (ha : Nat.ble 9000 a = false) {ci : Nat} {fs : List Value} {r0 : vw_C} (ho : w[o]? = some (zO ci fs)) (hci : vwCl[ci]? = some r0) (hcl : r0.1 = z.1.cls) (hcat : (rest.map fun v => v.category).sum ≤ 8)
    (hal : z.2.2.2.2.1 = false ∨ (al = true ∧ n0 ≤ w.length ∧ rest.all (zokv w.length) = true ∧ l.all (fun q => zokv w.length q.2) = true)) (hR : d + 1 ≤ M.2.2.2.2.1.frames ∧ 8 + (z.2.2.1 + 11) + 64 * d ≤ M.2.2.2.2.1.locals) (hf : kc + z.2.2.2.2.2.1 ≤ M.2.2.2.2.1.cells ∧ ks + z.2.2.2.2.2.2.1 ≤ M.2.2.2.2.1.slots)
    (hK : zK d z (.ref o :: As) w Qc) (kk : ∀ (r : Option Value) (w' : zW), Qc r w' → zV M al n0 (kc + z.2.2.2.2.2.1) (ks + z.2.2.2.2.2.2.1) (pc + 3) l (r.toList ++ rest) w' Q) : zV M al n0 kc ks pc l st w Q := by
  intro p l0 e s m args below meth c dC dI dA ad0 A Z h9t hctx hfin ad H locs ls hrel hl
  obtain ⟨F, hF, ok⟩ := ok
  have h1 := ok _ (zlook_mem hlook)
  simp only [zgood, Bool.and_eq_true, decide_eq_true_eq, Nat.add_sub_cancel_left] at h1
  obtain ⟨hk0, hkd⟩ : (idx, a) ∈ F.2.1 ∧ (zms[a]?).map (fun z => z.2.2.2.2.2.2.2) = some (0, b) := by
    have h2 := h1.2
    simpa only [zgd, ha, Bool.false_or, Bool.and_eq_true, decide_eq_true_eq] using h2
  obtain ⟨z', hz', k1⟩ := hF.2.1 _ hk0
  rw [show zms[a]? = some z' from hz'] at hz
  cases hz
  rw [show zms[a]? = some z from hz'] at hkd
  have hkd : z.2.2.2.2.2.2.2 = _ := Option.some.inj hkd
  obtain ⟨hc, ⟨k5, k6, k7⟩, k4, m0, m1, m2⟩ := zms_ok z (List.mem_of_getElem? hz')
  have hkk : z.2.2.2.2.2.2.2.1 = 0 := by rw [hkd]
  have hnn : z.2.2.2.2.2.2.2.2 = b := by rw [hkd]
  rw [hnn] at k7
  obtain ⟨k2, k3⟩ := m0 hkk
  obtain ⟨hx, hb, hml, hown, hts, hKc, hA, hin⟩ := id hctx
  obtain ⟨e1, e2, hP, hD, hS⟩ := id hrel
  have hM := hK l0 h9t dC dI dA ad H.size
  subst hst
  subst hn
  have cw : CallW M.2.2.2.2.1 s args M.1 z.1.cls idx z.1 z.2.1 z.2.2.1 z.2.2.2.1 (zws z) (zrm d z) z.2.2.2.2.2.1 z.2.2.2.2.2.2.1 As.length :=
    ⟨callB_of As.length hts (zgoodIn z hc) rfl rfl rfl (hts _ k4) (hts _ k1) ⟨k5, k6, k7⟩ hR, hts _ k2, hts _ k3⟩
  have hp : PreV s H z.1.cls (ad o) (zPc dC dI dA ad (.ref o :: As) w H.size) (As.map (zv ad)) :=
    ⟨zblind dC dI dA ad _ w H.size, hcl ▸ va_recv hKc.1 hP hci (zw_at ho), fun U hU hW => ⟨rfl, by rw [hU], by rw [hU]; exact hP, zKx.moved hW.alike hKc, hD.weaken (fun _ _ _ _ => trivial)⟩⟩
  have hr := va_runV (g := F0 m pc ls ((As.reverse ++ .ref o :: rest).map (zv ad))) (As := As.map (zv ad)) (rest := rest.map (zv ad)) (cells := kc) (slots := ks) (locs := locs) (e := e) (below := below) (meth := meth) ⟨hx, hb, hml, hown, hts⟩ hM cw hp rfl (by rw [List.length_map]) hl.1 (by show List.map (zv ad) (As.reverse ++ .ref o :: rest) = _; rw [List.map_append, List.map_reverse]; rfl) (lv_room (by rw [zcats]; exact hcat)) h1.1.1 hf
  refine zafter hr hD hS hA (fun r w' ad' H1 locs1 hq hal' had hP1 hD1 hS1 => ?_)
  obtain ⟨j1, j2, j3⟩ := zjoin hrel hl hal hal' had hP1 hD1 hS1
  have k9 := kk r w' hq p l0 e s m args below meth c dC dI dA ad0 A Z h9t hctx hfin ad' H1 locs1 ls j1 j2
  rw [← j3]
  rw [List.map_append] at k9
  cases r <;> exact k9
set_option maxHeartbeats 1000000 in
theorem zv_callS (ok : zTb M tb) {idx : Nat} (hlook : zlook tb pc = some (.invokestatic idx, pc + 3, a, b, c0)) {z : zMt} (hz : zms[a]? = some z) {As rest : List Value} {d : Nat} {Qc : Option Value → zW → Prop}
    (hst : st = As.reverse ++ rest) (hn : As.length = b) (ha : Nat.ble 9000 a = false) (hcat : (rest.map fun v => v.category).sum ≤ 8)
    (hal : z.2.2.2.2.1 = false ∨ (al = true ∧ n0 ≤ w.length ∧ rest.all (zokv w.length) = true ∧ l.all (fun q => zokv w.length q.2) = true)) (hR : d + 1 ≤ M.2.2.2.2.1.frames ∧ 8 + (z.2.2.1 + 11) + 64 * d ≤ M.2.2.2.2.1.locals) (hf : kc + z.2.2.2.2.2.1 ≤ M.2.2.2.2.1.cells ∧ ks + z.2.2.2.2.2.2.1 ≤ M.2.2.2.2.1.slots)
    (hK : zK d z As w Qc) (kk : ∀ (r : Option Value) (w' : zW), Qc r w' → zV M al n0 (kc + z.2.2.2.2.2.1) (ks + z.2.2.2.2.2.2.1) (pc + 3) l (r.toList ++ rest) w' Q) : zV M al n0 kc ks pc l st w Q := by
  intro p l0 e s m args below meth c dC dI dA ad0 A Z h9t hctx hfin ad H locs ls hrel hl
  obtain ⟨F, hF, ok⟩ := ok
  have h1 := ok _ (zlook_mem hlook)
  simp only [zgood, Bool.and_eq_true, decide_eq_true_eq, Nat.add_sub_cancel_left] at h1
  obtain ⟨hk0, hkd⟩ : (idx, a) ∈ F.2.1 ∧ (zms[a]?).map (fun z => z.2.2.2.2.2.2.2) = some (1, b) := by
    have h2 := h1.2
    simpa only [zgd, ha, Bool.false_or, Bool.and_eq_true, decide_eq_true_eq] using h2
  obtain ⟨z', hz', k1⟩ := hF.2.1 _ hk0
  rw [show zms[a]? = some z' from hz'] at hz
  cases hz
  rw [show zms[a]? = some z from hz'] at hkd
  have hkd : z.2.2.2.2.2.2.2 = _ := Option.some.inj hkd
  obtain ⟨hc, ⟨k5, k6, k7⟩, k4, m0, m1, m2⟩ := zms_ok z (List.mem_of_getElem? hz')
  have hkk : z.2.2.2.2.2.2.2.1 = 1 := by rw [hkd]
  have hnn : z.2.2.2.2.2.2.2.2 = b := by rw [hkd]
  rw [hnn] at k7
  have k2 := m1 hkk
  obtain ⟨hx, hb, hml, hown, hts, hKc, hA, hin⟩ := id hctx
  obtain ⟨e1, e2, hP, hD, hS⟩ := id hrel
  have hM := hK l0 h9t dC dI dA ad H.size
  subst hst
  subst hn
  have cw : CallB M.2.2.2.2.1 s args M.1 idx z.1 z.2.1 z.2.2.1 z.2.2.2.1 (zws z) (zrm d z) z.2.2.2.2.2.1 z.2.2.2.2.2.2.1 As.length ∧ (Cond.static z.1).before args s = true :=
    ⟨callB_of As.length hts (zgoodIn z hc) rfl rfl rfl (hts _ k4) (hts _ k1) ⟨k5, k6, k7⟩ hR, hts _ k2⟩
  have hp : PreS s H (zPc dC dI dA ad As w H.size) (As.map (zv ad)) :=
    ⟨zblind dC dI dA ad _ w H.size, fun U hU hW => ⟨rfl, by rw [hU], by rw [hU]; exact hP, zKx.moved hW.alike hKc, hD.weaken (fun _ _ _ _ => trivial)⟩⟩
  have hr := va_runS (g := F0 m pc ls ((As.reverse ++ rest).map (zv ad))) (As := As.map (zv ad)) (rest := rest.map (zv ad)) (cells := kc) (slots := ks) (locs := locs) (e := e) (below := below) (meth := meth) ⟨hx, hb, hml, hown, hts⟩ hM cw hp rfl (by rw [List.length_map]) hl.1 (by show List.map (zv ad) (As.reverse ++ rest) = _; rw [List.map_append, List.map_reverse]) (lv_room (by rw [zcats]; exact hcat)) h1.1.1 hf
  refine zafter hr hD hS hA (fun r w' ad' H1 locs1 hq hal' had hP1 hD1 hS1 => ?_)
  obtain ⟨j1, j2, j3⟩ := zjoin hrel hl hal hal' had hP1 hD1 hS1
  have k9 := kk r w' hq p l0 e s m args below meth c dC dI dA ad0 A Z h9t hctx hfin ad' H1 locs1 ls j1 j2
  rw [← j3]
  rw [List.map_append] at k9
  cases r <;> exact k9
set_option maxHeartbeats 1000000 in
theorem zv_callI (ok : zTb M tb) {idx : Nat} (hlook : zlook tb pc = some (.invokespecial idx, pc + 3, a, b, c0)) {z : zMt} (hz : zms[a]? = some z) {As rest : List Value} {o d : Nat} {Qc : Option Value → zW → Prop}
    (hst : st = As.reverse ++ .ref o :: rest) (hn : As.length = b) (ha : Nat.ble 9000 a = false) (hcat : (rest.map fun v => v.category).sum ≤ 8)
    (hal : z.2.2.2.2.1 = false ∨ (al = true ∧ n0 ≤ w.length ∧ rest.all (zokv w.length) = true ∧ l.all (fun q => zokv w.length q.2) = true)) (hR : d + 1 ≤ M.2.2.2.2.1.frames ∧ 8 + (z.2.2.1 + 11) + 64 * d ≤ M.2.2.2.2.1.locals) (hf : kc + z.2.2.2.2.2.1 ≤ M.2.2.2.2.1.cells ∧ ks + z.2.2.2.2.2.2.1 ≤ M.2.2.2.2.1.slots)
    (hK : zK d z (.ref o :: As) w Qc) (kk : ∀ (r : Option Value) (w' : zW), Qc r w' → zV M al n0 (kc + z.2.2.2.2.2.1) (ks + z.2.2.2.2.2.2.1) (pc + 3) l (r.toList ++ rest) w' Q) : zV M al n0 kc ks pc l st w Q := by
  intro p l0 e s m args below meth c dC dI dA ad0 A Z h9t hctx hfin ad H locs ls hrel hl
  obtain ⟨F, hF, ok⟩ := ok
  have h1 := ok _ (zlook_mem hlook)
  simp only [zgood, Bool.and_eq_true, decide_eq_true_eq, Nat.add_sub_cancel_left] at h1
  obtain ⟨hk0, hkd⟩ : (idx, a) ∈ F.2.1 ∧ (zms[a]?).map (fun z => z.2.2.2.2.2.2.2) = some (2, b) := by
    have h2 := h1.2
    have e1 : Nat.beq a 9999 = false := by cases hq : Nat.beq a 9999 with
      | false => rfl
      | true => rw [Nat.eq_of_beq_eq_true hq] at ha; cases ha
    have e2 : Nat.beq a 9998 = false := by cases hq : Nat.beq a 9998 with
      | false => rfl
      | true => rw [Nat.eq_of_beq_eq_true hq] at ha; cases ha
    simpa only [zgd, e1, e2, Bool.false_and, Bool.false_or, Bool.and_eq_true, decide_eq_true_eq] using h2
  obtain ⟨z', hz', k1⟩ := hF.2.1 _ hk0
  rw [show zms[a]? = some z' from hz'] at hz
  cases hz
  rw [show zms[a]? = some z from hz'] at hkd
  have hkd : z.2.2.2.2.2.2.2 = _ := Option.some.inj hkd
  obtain ⟨hc, ⟨k5, k6, k7⟩, k4, m0, m1, m2⟩ := zms_ok z (List.mem_of_getElem? hz')
  have hkk : z.2.2.2.2.2.2.2.1 = 2 := by rw [hkd]
  have hnn : z.2.2.2.2.2.2.2.2 = b := by rw [hkd]
  rw [hnn] at k7
  obtain ⟨k2, k3, k8⟩ := m2 hkk
  obtain ⟨hx, hb, hml, hown, hts, hKc, hA, hin⟩ := id hctx
  obtain ⟨e1, e2, hP, hD, hS⟩ := id hrel
  have hM := hK l0 h9t dC dI dA ad H.size
  subst hst
  subst hn
  have cw : CallB M.2.2.2.2.1 s args M.1 idx z.1 z.2.1 z.2.2.1 none (zws z) (zrm d z) z.2.2.2.2.2.1 z.2.2.2.2.2.2.1 As.length ∧ z.1.name = "<init>" ∧ (Cond.instanceMethod z.1).before args s = true :=
    ⟨k8 ▸ callB_of (ret := z.2.2.2.1) As.length hts (zgoodIn z hc) rfl rfl rfl (hts _ k4) (hts _ k1) ⟨k5, k6, k7⟩ hR, k3, hts _ k2⟩
  have hp : PreS s H (zPc dC dI dA ad (.ref o :: As) w H.size) (.ref (ad o) :: As.map (zv ad)) :=
    ⟨zblind dC dI dA ad _ w H.size, fun U hU hW => ⟨rfl, by rw [hU], by rw [hU]; exact hP, zKx.moved hW.alike hKc, hD.weaken (fun _ _ _ _ => trivial)⟩⟩
  have hr := va_runI (g := F0 m pc ls ((As.reverse ++ .ref o :: rest).map (zv ad))) (As := As.map (zv ad)) (rest := rest.map (zv ad)) (cells := kc) (slots := ks) (locs := locs) (e := e) (below := below) (meth := meth) ⟨hx, hb, hml, hown, hts⟩ hM cw hp rfl (by rw [List.length_map]) hl.1 (by show List.map (zv ad) (As.reverse ++ .ref o :: rest) = _; rw [List.map_append, List.map_reverse]; rfl) (lv_room (by rw [zcats]; exact hcat)) h1.1.1 hf
  refine zafter hr hD hS hA (fun r w' ad' H1 locs1 hq hal' had hP1 hD1 hS1 => ?_)
  obtain ⟨j1, j2, j3⟩ := zjoin hrel hl hal hal' had hP1 hD1 hS1
  have k9 := kk r w' hq p l0 e s m args below meth c dC dI dA ad0 A Z h9t hctx hfin ad' H1 locs1 ls j1 j2
  rw [← j3]
  rw [List.map_append] at k9
  cases r <;> exact k9
/-- Object's own constructor -/
theorem zv_obj (ok : zTb M tb) (hO : Cond.instanceMethod Lib.objectInit ∈ zG ∧ Cond.code Lib.objectInit ⟨#[0xb1]⟩ 1 none ∈ zG) {idx : Nat} (hlook : zlook tb pc = some (.invokespecial idx, pc + 3, 9999, b, c0)) (h99 : zms[9999]? = none) {o : Nat} {rest : List Value} (hcat : (rest.map fun v => v.category).sum ≤ 8) (hR : 1 ≤ M.2.2.2.2.1.frames ∧ 20 ≤ M.2.2.2.2.1.locals)
    (kk : zV M al n0 kc ks (pc + 3) l rest w Q) : zV M al n0 kc ks pc l (.ref o :: rest) w Q := by
  intro p l0 e s m args below meth c dC dI dA ad0 A Z h9t hctx hfin ad H locs ls hrel hl
  obtain ⟨F, hF, ok⟩ := ok
  have h1 := ok _ (zlook_mem hlook)
  simp only [zgood, Bool.and_eq_true, decide_eq_true_eq, Nat.add_sub_cancel_left] at h1
  have h2 := h1.2
  have h3 : idx ∈ F.2.2.2.2 := by
    have e1 : Nat.beq 9999 9999 = true := rfl
    have e2 : Nat.beq 9999 9998 = false := rfl
    simpa only [zgd, e1, e2, h99, Option.map_none, Bool.true_and, Bool.false_or, Bool.or_eq_true, Bool.and_eq_true, decide_eq_true_eq, reduceCtorEq, and_false, or_false] using h2
  obtain ⟨hx, hb, hml, hown, hts, hKc, hA, hin⟩ := id hctx
  refine W.objInit (g := F0 m pc ls (.ref (ad o) :: rest.map (zv ad))) hx hb hown (hts _ (hF.2.2.2.2 _ h3)) (hts _ hO.1) (hts _ hO.2) rfl (hl.1.trans hml.symm) rfl h1.1.1 hR.1 ?_ (kk p l0 e s m args below meth c dC dI dA ad0 A Z h9t hctx hfin ad H locs ls hrel hl)
  have h4 : (((rest.map (zv ad)).map fun v => v.category).sum) ≤ 8 := by rw [zcats]; exact hcat
  have h5 := lv_room (m := m) (pc := pc) (ls := ls) (rest := .ref (ad o) :: rest.map (zv ad)) h4
  omega
end ZI
end
section
section ZN
variable {M : zM} {n0 kc ks pc nxt a b : Nat} {c0 : Int} {l : zL} {st rest : List Value} {w : zW} {Q : Option Value → zW → Prop} {tb : List zE}
def zokc (n : Nat) : zC → Bool
  | .inl _ => true
  | .inr (.inl _) => true
  | .inr (.inr (.inl (_, es))) => es.all (fun e => match e with | none => true | some k => Nat.blt k n || Nat.ble zsent k)
  | .inr (.inr (.inr (_, fs))) => fs.all (zokv n)
theorem zokc_eq {n : Nat} {dA : Nat → ClassId} {ad ad' : Nat → Nat} (h : ∀ k, (k < n ∨ zsent ≤ k) → ad' k = ad k) {c : zC} (hc : zokc n c = true) : zc dA ad' c = zc dA ad c := by
  match c, hc with
  | .inl (t, n, f), _ => rfl
  | .inr (.inl (n, f)), _ => rfl
  | .inr (.inr (.inl (t, es))), hc =>
    have e : (fun i : Nat => (es.getD i none).map ad') = (fun i : Nat => (es.getD i none).map ad) := by
      funext i
      by_cases hi : i < es.length
      · have hm : es.getD i none ∈ es := by rw [List.getD_eq_getElem?_getD, List.getElem?_eq_getElem hi]; exact List.getElem_mem hi
        have := List.all_eq_true.mp hc _ hm
        cases hv : es.getD i none with
        | none => rfl
        | some k =>
          rw [hv] at this
          simp only [Bool.or_eq_true] at this
          show some (ad' k) = some (ad k)
          rw [h k (this.elim (fun q => Or.inl (Nat.le_of_ble_eq_true q)) (fun q => Or.inr (Nat.le_of_ble_eq_true q)))]
      · rw [List.getD_eq_getElem?_getD, List.getElem?_eq_none (by omega)]; rfl
    show Sum.inl (dA t, es.length, Sum.inr (Sum.inr (Sum.inr (Sum.inr _)))) = Sum.inl (dA t, es.length, Sum.inr (Sum.inr (Sum.inr (Sum.inr _))))
    rw [e]
  | .inr (.inr (.inr (ci, fs))), hc => exact congrArg (fun x => Sum.inr (ci, x)) (zokv_map h hc)
theorem zw_push {dA : Nat → ClassId} {ad ad' : Nat → Nat} (h : ∀ k, (k < w.length ∨ zsent ≤ k) → ad' k = ad k) (hw : w.all (zokc w.length) = true) (c : zC) : zw dA ad' (w ++ [c]) = zw dA ad w ++ [(ad' w.length, zc dA ad' c)] := by
  apply List.ext_getElem?
  intro i
  by_cases hi : i < w.length
  · rw [List.getElem?_append_left (by rw [zw_len]; exact hi)]
    have h1 : w[i]? = some w[i] := List.getElem?_eq_getElem hi
    rw [zw_at h1, zw_at (show (w ++ [c])[i]? = some w[i] by rw [List.getElem?_append_left hi]; exact h1), h i (Or.inl hi), zokc_eq h (List.all_eq_true.mp hw _ (List.getElem_mem hi))]
  · rw [List.getElem?_append_right (by rw [zw_len]; omega), zw_len]
    by_cases hj : i = w.length
    · subst hj
      rw [zw_at (show (w ++ [c])[w.length]? = some c by simp), Nat.sub_self]
      rfl
    · rw [List.getElem?_eq_none (by rw [zw_len, List.length_append]; simp; omega), List.getElem?_eq_none (by simp; omega)]
/-- what must hold where a cell is made -/
def zokA (n0 : Nat) (l : zL) (st : List Value) (w : zW) : Prop := n0 ≤ w.length ∧ w.length < zsent ∧ st.all (zokv w.length) = true ∧ l.all (fun q => zokv w.length q.2) = true ∧ w.all (zokc w.length) = true
theorem zpush {dC : Nat → ClassId} {dI : Nat → Nat → Nat} {dA : Nat → ClassId} {ad0 ad : Nat → Nat} {A : Nat → Prop} {H0 H H1 : Heap} {locs : List Loc} {ls : Array Slot} {nL q : Nat} {c : zC} (ok : zokA n0 l st w) (hc : ∀ ad1 ad2, zc dA ad1 c = zc dA ad2 c) (hrel : zrel dC dI dA ad0 ad A n0 true H0 H locs w) (hl : lv_has ls nL (zl ad l))
    (hP : va_P (dC, dI) vwCl (zw dA ad w ++ [(q, zc dA ad c)]) H1) (hD : va_D A (zw dA ad w ++ [(q, zc dA ad c)])) (hS : va_S A H0 H1 locs) :
    zrel dC dI dA ad0 (va_up ad w.length q) A n0 true H0 H1 locs (w ++ [c]) ∧ lv_has ls nL (zl (va_up ad w.length q) l) ∧ st.map (zv (va_up ad w.length q)) = st.map (zv ad) ∧ va_up ad w.length q w.length = q := by
  obtain ⟨o1, o2, o3, o4, o5⟩ := ok
  have h : ∀ k, (k < w.length ∨ zsent ≤ k) → va_up ad w.length q k = ad k := fun k hk => by
    have : k ≠ w.length := by omega
    simp [va_up, this]
  have hq : va_up ad w.length q w.length = q := by simp [va_up]
  have e : zw dA (va_up ad w.length q) (w ++ [c]) = zw dA ad w ++ [(q, zc dA ad c)] := by rw [zw_push h o5, hq, hc _ ad]
  exact ⟨⟨fun q => (by cases q), fun k hk => (h k (hk.imp (fun z => Nat.lt_of_lt_of_le z o1) id)).trans (hrel.2.1 k hk), by rw [e]; exact hP, by rw [e]; exact hD, hS⟩, by rw [zokv_l h o4]; exact hl, zokv_map h o3, hq⟩
def znoref : Value → Bool
  | .ref _ => false
  | _ => true
theorem znoref_map {ad : Nat → Nat} {fs : List Value} (h : fs.all znoref = true) : fs.map (zv ad) = fs := by
  have h2 : fs.map (zv ad) = fs.map id := List.map_congr_left fun v hv => by
    have := List.all_eq_true.mp h v hv
    cases v <;> first | rfl | cases this
  rw [h2, List.map_id]
theorem zv_new (ok : zTb M tb) {idx : Nat} (hlook : zlook tb pc = some (.new idx, pc + 3, a, b, c0)) {ci : Nat} {r0 : vw_C} (hci : vwCl[ci]? = some r0) (h1 : Cond.classLink M.1 idx r0.1 ∈ zG) (h2 : Cond.instantiable r0.1 r0.2.2 ∈ zG) (h3 : Cond.initialized r0.1 ∈ zG) (fs : List Value) (hfs : ∀ j, j < r0.2.2 → defaultValue (zty ci j) = vp_V fs j) (hnr : fs.all znoref = true)
    (hok : zokA n0 l st w) (hk : kc + 1 ≤ M.2.2.2.2.1.cells) (hs : ks + r0.2.2 ≤ M.2.2.2.2.1.slots) (kk : zV M true n0 (kc + 1) (ks + r0.2.2) (pc + 3) l (.ref w.length :: st) (w ++ [zO ci fs]) Q) : zV M true n0 kc ks pc l st w Q := by
  intro p l0 e s m args below meth c dC dI dA ad0 A Z h9t hctx hfin ad H locs ls hrel hl
  obtain ⟨F, hF, ok⟩ := ok
  have h0 := ok _ (zlook_mem hlook)
  simp only [zgood, Bool.and_eq_true, decide_eq_true_eq, Nat.add_sub_cancel_left] at h0
  obtain ⟨hx, hb, hml, hown, hts, hKc, hA, hin⟩ := id hctx
  obtain ⟨e1, e2, hP, hD, hS⟩ := id hrel
  refine va_new (ci := ci) (fs := fs) (C := r0.1) (T := r0.2.1) (N := r0.2.2) hx hb hts (zin_ok hci) (zty ci) (zty_ok ci (zlt7 hci) r0 hci) hown (hts _ h1) (hts _ h2) (hts _ h3) hKc.1 hP hD hS hA hci hfs hk hs h0.1.1 (fun q H1 hP1 hD1 hS1 => ?_)
  have hzc : ∀ a1, zc dA a1 (zO ci fs) = Sum.inr (ci, fs) := fun a1 => congrArg (fun x => Sum.inr (ci, x)) (znoref_map hnr)
  obtain ⟨j1, j2, j3, j4⟩ := zpush (c := zO ci fs) (q := q) hok (fun a1 a2 => (hzc a1).trans (hzc a2).symm) hrel hl (by rw [hzc]; exact hP1) (by rw [hzc]; exact hD1) hS1
  have k9 := kk p l0 e s m args below meth c dC dI dA ad0 A Z h9t hctx hfin _ H1 locs ls j1 j2
  rw [List.map_cons, j3] at k9
  have k10 : zv (va_up ad w.length q) (.ref w.length) = .ref q := congrArg Value.ref j4
  rw [k10] at k9
  exact k9
theorem zv_newI (ok : zTb M tb) {at_ : ArrayType} (hlook : zlook tb pc = some (.newarray at_, pc + 2, a, b, c0)) (t N : Nat) {n : Int32} (hty : (t = 0 ∧ at_ = .int) ∨ (t = 1 ∧ at_ = .boolean)) (hn : ¬ n < 0) (hN : n.toNatClampNeg = N) (hb : N ≤ 100000) (h1 : Cond.arrayClass .int ∈ zG) (h2 : Cond.arrayClass .boolean ∈ zG)
    (hok : zokA n0 l st w) (hk : kc + 1 ≤ M.2.2.2.2.1.cells) (hs : ks + N ≤ M.2.2.2.2.1.slots) (kk : zV M true n0 (kc + 1) (ks + N) (pc + 2) l (.ref w.length :: st) (w ++ [zI t N (fun _ => 0)]) Q) : zV M true n0 kc ks pc l (.int n :: st) w Q := by
  intro p l0 e s m args below meth c dC dI dA ad0 A Z h9t hctx hfin ad H locs ls hrel hl
  obtain ⟨F, hF, ok⟩ := ok
  have h0 := ok _ (zlook_mem hlook)
  simp only [zgood, Bool.and_eq_true, decide_eq_true_eq, Nat.add_sub_cancel_left] at h0
  obtain ⟨hx, hbb, hml, hown, hts, hKc, hA, hin⟩ := id hctx
  obtain ⟨e1, e2, hP, hD, hS⟩ := id hrel
  have key : ∀ (ty : FieldType) (t9 : Nat), newarray.typeOf at_ = ty → Cond.arrayClass ty ∈ zG → (∀ cA : ClassId, vp_cell cA (N, .inl (fun _ => 0)) = arrV cA N (fun _ => defaultValue ty)) → componentBytes ty ≤ 4 → (ztys dA)[t9]? = some (dA t, ty) → va_RA s (dA t) ty → (∀ cA, va_RA s cA ty → va_RA s (dA t) ty → cA = dA t) →
      W p l0 e M.2.2.2.2.1 s m args below meth c H locs kc ks Z (F0 m pc ls ((.int n :: st).map (zv ad))) := by
    intro ty t9 g1 g2 g3 g4 g5 g6 g7
    refine va_newa (atype := at_) (ty := ty) (N' := N) (a0 := (N, .inl (fun _ => 0))) hx hbb (g1 ▸ hts _ g2) g1 hKc.1 hP hD hS hA g3 hn hN (by have := Nat.mul_le_mul hb g4; omega) hk hs h0.1.1 (fun q cA H1 hK1 hP1 hD1 hS1 => ?_)
    have ec : cA = dA t := g7 cA (hK1.2 5 (cA, ty) rfl).2 g6
    subst ec
    obtain ⟨j1, j2, j3, j4⟩ := zpush (c := zI t N (fun _ => 0)) (q := q) hok (fun a1 a2 => rfl) hrel hl hP1 hD1 hS1
    have k9 := kk p l0 e s m args below meth c dC dI dA ad0 A Z h9t hctx hfin _ H1 locs ls j1 j2
    rw [List.map_cons, j3] at k9
    have k10 : zv (va_up ad w.length q) (.ref w.length) = .ref q := congrArg Value.ref j4
    rw [k10] at k9
    exact k9
  rcases hty with ⟨rfl, rfl⟩ | ⟨rfl, rfl⟩
  · exact key .int 0 rfl h1 (fun _ => rfl) (by decide) rfl (hKc.1.2 0 _ rfl).2 (fun cA h1 h2 => Option.some.inj (Eq.trans (Eq.symm (h1 : s.vm.findClass _ = some cA)) h2))
  · exact key .boolean 1 rfl h2 (fun _ => rfl) (by decide) rfl (hKc.1.2 1 _ rfl).2 (fun cA h1 h2 => Option.some.inj (Eq.trans (Eq.symm (h1 : s.vm.findClass _ = some cA)) h2))
theorem zv_newJ (ok : zTb M tb) (hlook : zlook tb pc = some (.newarray .long, pc + 2, a, b, c0)) (N : Nat) {n : Int32} (hn : ¬ n < 0) (hN : n.toNatClampNeg = N) (hb : N ≤ 100000) (h1 : Cond.arrayClass .long ∈ zG)
    (hok : zokA n0 l st w) (hk : kc + 1 ≤ M.2.2.2.2.1.cells) (hs : ks + N ≤ M.2.2.2.2.1.slots) (kk : zV M true n0 (kc + 1) (ks + N) (pc + 2) l (.ref w.length :: st) (w ++ [zJ N (fun _ => 0)]) Q) : zV M true n0 kc ks pc l (.int n :: st) w Q := by
  intro p l0 e s m args below meth c dC dI dA ad0 A Z h9t hctx hfin ad H locs ls hrel hl
  obtain ⟨F, hF, ok⟩ := ok
  have h0 := ok _ (zlook_mem hlook)
  simp only [zgood, Bool.and_eq_true, decide_eq_true_eq, Nat.add_sub_cancel_left] at h0
  obtain ⟨hx, hbb, hml, hown, hts, hKc, hA, hin⟩ := id hctx
  obtain ⟨e1, e2, hP, hD, hS⟩ := id hrel
  refine va_newa (atype := .long) (ty := .long) (N' := N) (a0 := (N, .inr (.inl (fun _ => 0)))) hx hbb (hts _ h1) rfl hKc.1 hP hD hS hA (fun _ => rfl) hn hN (by have := Nat.mul_le_mul hb (show componentBytes .long ≤ 8 by decide); omega) hk hs h0.1.1 (fun q cA H1 hK1 hP1 hD1 hS1 => ?_)
  have g1 : s.vm.findClass _ = some cA := (hK1.2 5 (cA, .long) rfl).2
  have g2 : s.vm.findClass _ = some (dA 2) := (hKc.1.2 2 _ rfl).2
  have ec : cA = dA 2 := Option.some.inj (g1.symm.trans g2)
  subst ec
  obtain ⟨j1, j2, j3, j4⟩ := zpush (c := zJ N (fun _ => 0)) (q := q) hok (fun a1 a2 => rfl) hrel hl hP1 hD1 hS1
  have k9 := kk p l0 e s m args below meth c dC dI dA ad0 A Z h9t hctx hfin _ H1 locs ls j1 j2
  rw [List.map_cons, j3] at k9
  have k10 : zv (va_up ad w.length q) (.ref w.length) = .ref q := congrArg Value.ref j4
  rw [k10] at k9
  exact k9
end ZN
end
section
theorem vr_outer (c : ClassId) (N h0 : Nat) : ∀ i : Nat, Jvm.Free.Multi.outerC c N h0 i = arrV c N (fun j => va_rf (if j < i then some (h0 + 1 + j) else none))
  | 0 => by
    show ({ cls := c, slots := Array.replicate N .null, vm := .none } : Cell) = _
    rw [arrV_new]
    refine congrArg (arrV c N) (funext fun j => ?_)
    simp [va_rf]
  | i + 1 => by
    show (Jvm.Free.Multi.outerC c N h0 i).setSlot i (.ref (h0 + 1 + i)) = _
    rw [vr_outer c N h0 i, arrV_store]
    refine congrArg (arrV c N) (funext fun j => ?_)
    by_cases e : j = i
    · subst e
      simp [updV, va_rf]
    · by_cases h : j < i
      · simp [updV, e, h, Nat.lt_succ_of_lt h]
      · simp [updV, e, h, show ¬ j < i + 1 by omega]
section ZR
variable {M : zM} {al : Bool} {n0 kc ks pc nxt a b : Nat} {c0 : Int} {l : zL} {st rest : List Value} {w : zW} {Q : Option Value → zW → Prop} {tb : List zE}
theorem zv_aald (ok : zTb M tb) (hlook : zlook tb pc = some (.aaload, pc + 1, a, b, c0)) {t k v : Nat} {es : List (Option Nat)} {i : Int32} (ht : t = 3 ∨ t = 4) (hw : w[k]? = some (zR t es)) (hin : vp_in i es.length) (hv : es.getD i.toNatClampNeg none = some v) (kk : zV M al n0 kc ks (pc + 1) l (.ref v :: st) w Q) : zV M al n0 kc ks pc l (.int i :: .ref k :: st) w Q := by
  intro p l0 e s m args below meth c dC dI dA ad0 A Z h9t hctx hfin ad H locs ls hrel hl
  obtain ⟨F, hF, ok⟩ := ok
  have h0 := ok _ (zlook_mem hlook)
  simp only [zgood, Bool.and_eq_true, decide_eq_true_eq, Nat.add_sub_cancel_left] at h0
  have k9 := kk p l0 e s m args below meth c dC dI dA ad0 A Z h9t hctx hfin ad H locs ls hrel hl
  obtain ⟨hx, hbb, hml, hown, hts, hKc, hA, hxn⟩ := id hctx
  obtain ⟨e1, e2, hP, hD, hS⟩ := id hrel
  have hlt : i.toNatClampNeg < es.length := Nat.not_le.mp fun q => hin (Or.inr q)
  have hva : va_rf ((es.getD i.toNatClampNeg none).map ad) = .ref (ad v) := by rw [hv]; rfl
  rcases ht with rfl | rfl
  · refine va_aldq hx hbb hKc.1 hP k 3 (zw_at hw) rfl hin h0.1.1 ?_
    rw [hva]; exact k9
  · refine W.aald (v := va_rf ((es.getD i.toNatClampNeg none).map ad)) (ty := .array .long) (g := F0 m pc ls (.int i :: .ref (ad k) :: st.map (zv ad))) hx hbb (hP k _ (zw_at hw)) ((hKc.1.2 4 _ rfl).1 es.length (fun j => va_rf ((es.getD j none).map ad))) rfl (fun q => by cases q) (by show ¬ (i < 0 ∨ (arrV _ _ _).slots.size ≤ _); rw [arrV_size]; exact hin) (by show (arrV _ _ _).slots[_]? = _; rw [arrV_read _ _ hlt]) rfl rfl h0.1.1 ?_
    rw [hva]; exact k9
theorem zv_aast (ok : zTb M tb) (hlook : zlook tb pc = some (.aastore, pc + 1, a, b, c0)) {k v : Nat} {es : List (Option Nat)} {fs : List Value} {i : Int32} (hw : w[k]? = some (zR 3 es)) (hv : w[v]? = some (zO 2 fs)) (hin : vp_in i es.length) (kk : zV M al n0 kc ks (pc + 1) l st (w.set k (zR 3 (es.set i.toNatClampNeg (some v)))) Q) : zV M al n0 kc ks pc l (.ref v :: .int i :: .ref k :: st) w Q := by
  intro p l0 e s m args below meth c dC dI dA ad0 A Z h9t hctx hfin ad H locs ls hrel hl
  obtain ⟨F, hF, ok⟩ := ok
  have h0 := ok _ (zlook_mem hlook)
  simp only [zgood, Bool.and_eq_true, decide_eq_true_eq, Nat.add_sub_cancel_left] at h0
  obtain ⟨hx, hbb, hml, hown, hts, hKc, hA, hxn⟩ := id hctx
  obtain ⟨e1, e2, hP, hD, hS⟩ := id hrel
  have hlt : i.toNatClampNeg < es.length := Nat.not_le.mp fun q => hin (Or.inr q)
  refine va_astq (r := (RX3, TX3, 6)) hx hbb hKc.1 hP hD hS k 3 v 2 (zw_at hw) rfl (zw_at hv) rfl hin h0.1.1 (fun H1 locs1 hP1 hD1 hS1 => ?_)
  have hfe : va_up (fun j : Nat => (es.getD j none).map ad) i.toNatClampNeg (some (ad v)) = (fun j : Nat => ((es.set i.toNatClampNeg (some v)).getD j none).map ad) := by
    funext j
    by_cases hj : j = i.toNatClampNeg
    · subst hj
      rw [List.getD_eq_getElem?_getD, List.getElem?_set_self hlt]
      simp [va_up]
    · rw [List.getD_eq_getElem?_getD, List.getElem?_set_ne (Ne.symm hj), ← List.getD_eq_getElem?_getD]
      simp [va_up, hj]
  have ew : (zw dA ad w).set k (ad k, .inl (dA 3, es.length, .inr (.inr (.inr (.inr (va_up (fun j : Nat => (es.getD j none).map ad) i.toNatClampNeg (some (ad v)))))))) = zw dA ad (w.set k (zR 3 (es.set i.toNatClampNeg (some v)))) := by
    rw [hfe, ← zw_set]
    show List.set _ _ (ad k, Sum.inl (dA 3, es.length, _)) = List.set _ _ (ad k, Sum.inl (dA 3, (es.set i.toNatClampNeg (some v)).length, _))
    rw [List.length_set]
  rw [ew] at hP1 hD1
  exact kk p l0 e s m args below meth c dC dI dA ad0 A Z h9t hctx hfin ad H1 locs1 ls ⟨e1, e2, hP1, hD1, hS1⟩ hl
theorem zv_anew (ok : zTb M tb) {idx : Nat} (hlook : zlook tb pc = some (.anewarray idx, pc + 3, a, b, c0)) (N : Nat) {n : Int32} (hn : ¬ n < 0) (hN : n.toNatClampNeg = N) (hb : N ≤ 100000) (h1 : Cond.classLink M.1 idx RX3 ∈ zG)
    (hok : zokA n0 l st w) (hk : kc + 1 ≤ M.2.2.2.2.1.cells) (hs : ks + N ≤ M.2.2.2.2.1.slots) (kk : zV M true n0 (kc + 1) (ks + N) (pc + 3) l (.ref w.length :: st) (w ++ [zR 3 (List.replicate N none)]) Q) : zV M true n0 kc ks pc l (.int n :: st) w Q := by
  intro p l0 e s m args below meth c dC dI dA ad0 A Z h9t hctx hfin ad H locs ls hrel hl
  obtain ⟨F, hF, ok⟩ := ok
  have h0 := ok _ (zlook_mem hlook)
  simp only [zgood, Bool.and_eq_true, decide_eq_true_eq, Nat.add_sub_cancel_left] at h0
  obtain ⟨hx, hbb, hml, hown, hts, hKc, hA, hxn⟩ := id hctx
  obtain ⟨e1, e2, hP, hD, hS⟩ := id hrel
  refine va_newq (C := RX3) (N' := N) hx hbb hown (hts _ h1) hKc.2.1 hKc.1 hP hD hS hA hn hN (by omega) hk hs h0.1.1 (fun q cA H1 hK1 hP1 hD1 hS1 => ?_)
  have ec : cA = dA 3 := by
    obtain ⟨_, _, _, _, _, g1⟩ := (hK1.2 5 (cA, .object RX3) rfl).2
    obtain ⟨_, _, _, _, _, g2⟩ := (hKc.1.2 3 _ rfl).2
    exact Option.some.inj (g1.symm.trans g2)
  subst ec
  have hz : ∀ a1, zc dA a1 (zR 3 (List.replicate N none)) = Sum.inl (dA 3, N, Sum.inr (Sum.inr (Sum.inr (Sum.inr (fun _ => none))))) := fun a1 => by
    have e : (fun j : Nat => ((List.replicate N (none : Option Nat)).getD j none).map a1) = (fun _ => none) := by
      funext j
      rw [List.getD_eq_getElem?_getD, List.getElem?_replicate]
      split <;> rfl
    show Sum.inl (dA 3, (List.replicate N (none : Option Nat)).length, _) = _
    rw [e, List.length_replicate]
  obtain ⟨j1, j2, j3, j4⟩ := zpush (c := zR 3 (List.replicate N none)) (q := q) hok (fun a1 a2 => (hz a1).trans (hz a2).symm) hrel hl (by rw [hz]; exact hP1) (by rw [hz]; exact hD1) hS1
  have k9 := kk p l0 e s m args below meth c dC dI dA ad0 A Z h9t hctx hfin _ H1 locs ls j1 j2
  rw [List.map_cons, j3] at k9
  have k10 : zv (va_up ad w.length q) (.ref w.length) = .ref q := congrArg Value.ref j4
  rw [k10] at k9
  exact k9
theorem zw_pushes {dA : Nat → ClassId} {ad ad' : Nat → Nat} (h : ∀ k, (k < w.length ∨ zsent ≤ k) → ad' k = ad k) (hw : w.all (zokc w.length) = true) {cs : zW} {k : Nat} {q : Nat × va_E} (hq : (zw dA ad' (w ++ cs))[k]? = some q) : q.1 = ad' k ∧ ((k < w.length ∧ (zw dA ad w)[k]? = some q) ∨ (w.length ≤ k ∧ ∃ c, cs[k - w.length]? = some c ∧ q = (ad' k, zc dA ad' c))) := by
  by_cases hk : k < w.length
  · have h1 : w[k]? = some w[k] := List.getElem?_eq_getElem hk
    rw [zw_at (show (w ++ cs)[k]? = some w[k] by rw [List.getElem?_append_left hk]; exact h1)] at hq
    cases hq
    refine ⟨rfl, Or.inl ⟨hk, ?_⟩⟩
    rw [zw_at h1, h k (Or.inl hk), zokc_eq h (List.all_eq_true.mp hw _ (List.getElem_mem hk))]
  · cases hc : cs[k - w.length]? with
    | none =>
      have : (zw dA ad' (w ++ cs))[k]? = none := List.getElem?_eq_none (by rw [zw_len, List.length_append]; have := List.getElem?_eq_none_iff.mp hc; omega)
      rw [this] at hq; cases hq
    | some c =>
      rw [zw_at (show (w ++ cs)[k]? = some c by rw [List.getElem?_append_right (by omega)]; exact hc)] at hq
      cases hq
      exact ⟨rfl, Or.inr ⟨by omega, c, rfl, rfl⟩⟩
def zgrid (L N K : Nat) : zW := zR 4 ((List.range N).map (fun i => some (L + 1 + i))) :: List.replicate N (zJ K (fun _ => 0))
set_option maxHeartbeats 1000000 in
theorem zv_mna (ok : zTb M tb) {idx : Nat} (hlook : zlook tb pc = some (.multianewarray idx 2, pc + 4, a, b, c0)) (N K : Nat) {n k : Int32} (hn : ¬ n < 0) (hk : ¬ k < 0) (hN : n.toNatClampNeg = N) (hK : k.toNatClampNeg = K) (hb : N ≤ 1000) (hb' : K ≤ 1000) (h1 : Cond.classLink M.1 idx ("[" ++ (FieldType.array .long).toString) ∈ zG) (h2 : Cond.arrayClass .long ∈ zG)
    (hok : zokA n0 l st w) (hz : w.length + 1 + N ≤ zsent) (hkc : kc + (1 + N) ≤ M.2.2.2.2.1.cells) (hs : ks + (N + N * K) ≤ M.2.2.2.2.1.slots) (kk : zV M true n0 (kc + 1 + N) (ks + N + N * K) (pc + 4) l (.ref w.length :: st) (w ++ zgrid w.length N K) Q) : zV M true n0 kc ks pc l (.int k :: .int n :: st) w Q := by
  subst hN
  subst hK
  intro p l0 e s m args below meth c dC dI dA ad0 A Z h9t hctx hfin ad H locs ls hrel hl
  obtain ⟨F, hF, ok⟩ := ok
  have h0 := ok _ (zlook_mem hlook)
  simp only [zgood, Bool.and_eq_true, decide_eq_true_eq, Nat.add_sub_cancel_left] at h0
  obtain ⟨hx, hbb, hml, hown, hts, hKc, hA, hxn⟩ := id hctx
  obtain ⟨e1, e2, hP, hD, hS⟩ := id hrel
  obtain ⟨o1, o2, o3, o4, o5⟩ := id hok
  intro T hT Xs
  obtain ⟨vm₁, cA, comp, -, fA, fC, hO, -, X', step⟩ := Xs.multianewarray2F (ty := .long) hx hown (hts _ h1) hKc.2.2 (hts _ h2) (g := F0 m pc ls (.int k :: .int n :: st.map (zv ad))) rfl (by rw [hbb]; exact h0.1.1) rfl hn hk (by omega) (by have := Nat.mul_le_mul hb' (show componentBytes .long ≤ 8 by decide); omega) (by omega) rfl rfl hkc hs
  have ec : comp = dA 2 := Option.some.inj (fC.symm.trans (hKc.1.2 2 _ rfl).2)
  have eA : cA = dA 4 := Option.some.inj (fA.symm.trans (hKc.1.2 4 _ rfl).2)
  subst ec
  subst eA
  generalize hFl : Jvm.Free.Multi.fill (T.setVm vm₁) (dA 4) (dA 2) n.toNatClampNeg k.toNatClampNeg (defaultValue .long) n.toNatClampNeg = Fl at X' step
  have hTh : (T.setVm vm₁).heap = H := hT
  obtain ⟨f1, f2, -, -⟩ := Jvm.Free.Multi.fill_facts (T.setVm vm₁) (dA 4) (dA 2) n.toNatClampNeg k.toNatClampNeg (defaultValue .long) n.toNatClampNeg
  rw [hFl, hTh] at f1 f2
  have hold : ∀ x : Nat, x < H.size → Fl.heap[x]? = H[x]? := fun x hx => by
    have := Jvm.Free.Multi.fill_old (T.setVm vm₁) (dA 4) (dA 2) n.toNatClampNeg k.toNatClampNeg (defaultValue .long) (a := x) (by rw [hTh]; exact hx) n.toNatClampNeg
    rw [hFl, hTh] at this
    exact this
  have hrow : ∀ j : Nat, j < n.toNatClampNeg → Fl.heap[H.size + 1 + j]? = some (vp_cell (dA 2) (k.toNatClampNeg, .inr (.inl (fun _ => 0)))) := fun j hj => by
    have := Jvm.Free.Multi.fill_inner (T.setVm vm₁) (dA 4) (dA 2) n.toNatClampNeg k.toNatClampNeg (defaultValue .long) n.toNatClampNeg j hj
    rw [hFl, hTh] at this
    rw [this]
    exact congrArg some (arrV_new (dA 2) k.toNatClampNeg (defaultValue .long))
  rw [vr_outer] at f2
  have had : ∀ j, (j < w.length ∨ zsent ≤ j) → (fun j : Nat => if w.length ≤ j ∧ j < w.length + 1 + n.toNatClampNeg then H.size + (j - w.length) else ad j) j = ad j := fun j hj => by
    show (if w.length ≤ j ∧ j < w.length + 1 + n.toNatClampNeg then H.size + (j - w.length) else ad j) = ad j
    rw [if_neg (by omega)]
  generalize hade : (fun j : Nat => if w.length ≤ j ∧ j < w.length + 1 + n.toNatClampNeg then H.size + (j - w.length) else ad j) = ad' at had
  have hnew : ∀ j, w.length ≤ j → j < w.length + 1 + n.toNatClampNeg → ad' j = H.size + (j - w.length) := fun j h1 h2 => by rw [← hade]; exact if_pos ⟨h1, h2⟩
  have hlen : (zgrid w.length n.toNatClampNeg k.toNatClampNeg).length = 1 + n.toNatClampNeg := by simp [zgrid]; omega
  have hP1 : va_P (dC, dI) vwCl (zw dA ad' (w ++ zgrid w.length n.toNatClampNeg k.toNatClampNeg)) Fl.heap := by
    intro k9 q hq
    obtain ⟨-, ⟨g1, g2⟩ | ⟨g1, cc, g2, rfl⟩⟩ := zw_pushes had o5 hq
    · exact (hP k9 q g2).kept (hold _ (hP k9 q g2).lt)
    · have g3 := (List.getElem?_eq_some_iff.mp g2).1
      rw [hlen] at g3
      rw [hnew k9 g1 (by omega)]
      cases hj : k9 - w.length with
      | zero =>
        rw [hj] at g2
        cases g2
        show Fl.heap[H.size + 0]? = some (vp_cell (dA 4) _)
        rw [Nat.add_zero, f2, vp_cell_q]
        refine congrArg some ?_
        simp only [List.length_map, List.length_range]
        refine congrArg (arrV (dA 4) n.toNatClampNeg) (funext fun j => ?_)
        by_cases hjn : j < n.toNatClampNeg
        · have e5 : ((List.range n.toNatClampNeg).map (fun i => some (w.length + 1 + i))).getD j none = some (w.length + 1 + j) := by
            rw [List.getD_eq_getElem?_getD, List.getElem?_map, List.getElem?_range hjn]; rfl
          rw [e5, if_pos hjn]
          show va_rf (some (H.size + 1 + j)) = va_rf (some (ad' (w.length + 1 + j)))
          rw [hnew _ (by omega) (by omega), show H.size + (w.length + 1 + j - w.length) = H.size + 1 + j by omega]
        · have e5 : ((List.range n.toNatClampNeg).map (fun i => some (w.length + 1 + i))).getD j none = none := by
            rw [List.getD_eq_getElem?_getD, List.getElem?_eq_none (by simp; omega)]; rfl
          rw [e5, if_neg hjn]
          rfl
      | succ j =>
        rw [hj] at g2
        have g4 : (List.replicate n.toNatClampNeg (zJ k.toNatClampNeg (fun _ => 0)))[j]? = some cc := g2
        rw [List.getElem?_replicate] at g4
        split at g4
        · rename_i hjn
          cases g4
          show Fl.heap[H.size + (j + 1)]? = some _
          rw [show H.size + (j + 1) = H.size + 1 + j by omega]
          exact hrow j hjn
        · cases g4
  have hD1 : va_D A (zw dA ad' (w ++ zgrid w.length n.toNatClampNeg k.toNatClampNeg)) := by
    have key : ∀ (k9 : Nat) (q : Nat × va_E), (zw dA ad' (w ++ zgrid w.length n.toNatClampNeg k.toNatClampNeg))[k9]? = some q → (k9 < w.length ∧ (zw dA ad w)[k9]? = some q ∧ q.1 < H.size) ∨ (w.length ≤ k9 ∧ q.1 = H.size + (k9 - w.length)) := by
      intro k9 q hq
      obtain ⟨g0, ⟨g1, g2⟩ | ⟨g1, cc, g2, -⟩⟩ := zw_pushes had o5 hq
      · exact Or.inl ⟨g1, g2, (hP k9 q g2).lt⟩
      · have g3 := (List.getElem?_eq_some_iff.mp g2).1
        rw [hlen] at g3
        exact Or.inr ⟨g1, by rw [g0, hnew k9 g1 (by omega)]⟩
    refine ⟨fun i j x y hi hj hxy => ?_, fun k9 q hq => ?_⟩
    · rcases key i x hi with ⟨a1, a2, a3⟩ | ⟨a1, a2⟩ <;> rcases key j y hj with ⟨b1, b2, b3⟩ | ⟨b1, b2⟩
      · exact hD.1 i j x y a2 b2 hxy
      · omega
      · omega
      · omega
    · rcases key k9 q hq with ⟨a1, a2, -⟩ | ⟨a1, a2⟩
      · exact hD.2 k9 q a2
      · rw [a2]; exact hA _ (by have := hS.1; omega)
  have hS1 : va_S A s.heap Fl.heap locs := ⟨by rw [f1]; have := hS.1; omega, fun x h1 h2 => (hold x (Nat.lt_of_lt_of_le h1 hS.1)).trans (hS.2.1 x h1 h2), hS.2.2⟩
  have k9 := kk p l0 e s m args below meth c dC dI dA ad0 A Z h9t hctx hfin ad' Fl.heap locs ls ⟨fun q => (by cases q), fun j hj => (had j (hj.imp (fun z => Nat.lt_of_lt_of_le z o1) id)).trans (hrel.2.1 j hj), hP1, hD1, hS1⟩ (by rw [zokv_l had o4]; exact hl)
  rw [List.map_cons, zokv_map had o3] at k9
  have k10 : zv ad' (.ref w.length) = .ref H.size := congrArg Value.ref (by rw [hnew _ (Nat.le_refl _) (by omega), Nat.sub_self, Nat.add_zero])
  rw [k10] at k9
  obtain ⟨t, a1, b1⟩ := k9 Fl rfl X'
  refine ⟨t, step t ?_, b1⟩
  have e7 : T.heap.size = H.size := by rw [hT]
  rw [e7]
  exact a1
end ZR
end
section
theorem bX0_init (d : Nat) : zTb (zMo d zX0_init) tX0_init := ⟨fRX0, gRX0, oX0_init⟩
theorem bX0_add (d : Nat) : zTb (zMo d zX0_add) tX0_add := ⟨fRX0, gRX0, oX0_add⟩
theorem bX0_tally (d : Nat) : zTb (zMo d zX0_tally) tX0_tally := ⟨fRX0, gRX0, oX0_tally⟩
theorem bX0_waysOf (d : Nat) : zTb (zMo d zX0_waysOf) tX0_waysOf := ⟨fRX0, gRX0, oX0_waysOf⟩
theorem bX0_isBracketed (d : Nat) : zTb (zMo d zX0_isBracketed) tX0_isBracketed := ⟨fRX0, gRX0, oX0_isBracketed⟩
theorem bX0_bareWays (d : Nat) : zTb (zMo d zX0_bareWays) tX0_bareWays := ⟨fRX0, gRX0, oX0_bareWays⟩
theorem bX0_kindByEnds (d : Nat) : zTb (zMo d zX0_kindByEnds) tX0_kindByEnds := ⟨fRX0, gRX0, oX0_kindByEnds⟩
theorem bX0_partFrom (d : Nat) : zTb (zMo d zX0_partFrom) tX0_partFrom := ⟨fRX0, gRX0, oX0_partFrom⟩
theorem bX0_partTo (d : Nat) : zTb (zMo d zX0_partTo) tX0_partTo := ⟨fRX0, gRX0, oX0_partTo⟩
theorem bX0_numberIn (d : Nat) : zTb (zMo d zX0_numberIn) tX0_numberIn := ⟨fRX0, gRX0, oX0_numberIn⟩
theorem bX0_build (d : Nat) : zTb (zMo d zX0_build) tX0_build := ⟨fRX0, gRX0, oX0_build⟩
theorem bX0_buildSpan (d : Nat) : zTb (zMo d zX0_buildSpan) tX0_buildSpan := ⟨fRX0, gRX0, oX0_buildSpan⟩
theorem bX0_buildBare (d : Nat) : zTb (zMo d zX0_buildBare) tX0_buildBare := ⟨fRX0, gRX0, oX0_buildBare⟩
theorem bX0_buildPair (d : Nat) : zTb (zMo d zX0_buildPair) tX0_buildPair := ⟨fRX0, gRX0, oX0_buildPair⟩
theorem bX0_placeOf (d : Nat) : zTb (zMo d zX0_placeOf) tX0_placeOf := ⟨fRX0, gRX0, oX0_placeOf⟩
theorem bX0_placeIn (d : Nat) : zTb (zMo d zX0_placeIn) tX0_placeIn := ⟨fRX0, gRX0, oX0_placeIn⟩
theorem bX0_placeBare (d : Nat) : zTb (zMo d zX0_placeBare) tX0_placeBare := ⟨fRX0, gRX0, oX0_placeBare⟩
theorem bX0_placePair (d : Nat) : zTb (zMo d zX0_placePair) tX0_placePair := ⟨fRX0, gRX0, oX0_placePair⟩
theorem bX1_isPair (d : Nat) : zTb (zMo d zX1_isPair) tX1_isPair := ⟨fRX1, gRX1, oX1_isPair⟩
theorem bX1_isPrefix (d : Nat) : zTb (zMo d zX1_isPrefix) tX1_isPrefix := ⟨fRX1, gRX1, oX1_isPrefix⟩
theorem bX1_hasBit (d : Nat) : zTb (zMo d zX1_hasBit) tX1_hasBit := ⟨fRX1, gRX1, oX1_hasBit⟩
theorem bX1_withBit (d : Nat) : zTb (zMo d zX1_withBit) tX1_withBit := ⟨fRX1, gRX1, oX1_withBit⟩
theorem bX1_isDoubtful (d : Nat) : zTb (zMo d zX1_isDoubtful) tX1_isDoubtful := ⟨fRX1, gRX1, oX1_isDoubtful⟩
theorem bX2_init (d : Nat) : zTb (zMo d zX2_init) tX2_init := ⟨fRX2, gRX2, oX2_init⟩
theorem bX2_has (d : Nat) : zTb (zMo d zX2_has) tX2_has := ⟨fRX2, gRX2, oX2_has⟩
theorem bX2_isFull (d : Nat) : zTb (zMo d zX2_isFull) tX2_isFull := ⟨fRX2, gRX2, oX2_isFull⟩
theorem bX2_sizeOf (d : Nat) : zTb (zMo d zX2_sizeOf) tX2_sizeOf := ⟨fRX2, gRX2, oX2_sizeOf⟩
theorem bX2_partOf (d : Nat) : zTb (zMo d zX2_partOf) tX2_partOf := ⟨fRX2, gRX2, oX2_partOf⟩
theorem bX2_put (d : Nat) : zTb (zMo d zX2_put) tX2_put := ⟨fRX2, gRX2, oX2_put⟩
theorem bX2_addPart (d : Nat) : zTb (zMo d zX2_addPart) tX2_addPart := ⟨fRX2, gRX2, oX2_addPart⟩
theorem bX2_ownWords (d : Nat) : zTb (zMo d zX2_ownWords) tX2_ownWords := ⟨fRX2, gRX2, oX2_ownWords⟩
theorem bX2_firstAlike (d : Nat) : zTb (zMo d zX2_firstAlike) tX2_firstAlike := ⟨fRX2, gRX2, oX2_firstAlike⟩
theorem bX2_shapeOf (d : Nat) : zTb (zMo d zX2_shapeOf) tX2_shapeOf := ⟨fRX2, gRX2, oX2_shapeOf⟩
theorem bX2_isSameTop (d : Nat) : zTb (zMo d zX2_isSameTop) tX2_isSameTop := ⟨fRX2, gRX2, oX2_isSameTop⟩
theorem bX2_isAlike (d : Nat) : zTb (zMo d zX2_isAlike) tX2_isAlike := ⟨fRX2, gRX2, oX2_isAlike⟩
theorem bX2_isRight (d : Nat) : zTb (zMo d zX2_isRight) tX2_isRight := ⟨fRX2, gRX2, oX2_isRight⟩
theorem bX2_timesWithin (d : Nat) : zTb (zMo d zX2_timesWithin) tX2_timesWithin := ⟨fRX2, gRX2, oX2_timesWithin⟩
theorem bX2_tallyOf (d : Nat) : zTb (zMo d zX2_tallyOf) tX2_tallyOf := ⟨fRX2, gRX2, oX2_tallyOf⟩
theorem bX2_firstUnlike (d : Nat) : zTb (zMo d zX2_firstUnlike) tX2_firstUnlike := ⟨fRX2, gRX2, oX2_firstUnlike⟩
theorem bX2_differenceOf (d : Nat) : zTb (zMo d zX2_differenceOf) tX2_differenceOf := ⟨fRX2, gRX2, oX2_differenceOf⟩
theorem bX2_exchangesOf (d : Nat) : zTb (zMo d zX2_exchangesOf) tX2_exchangesOf := ⟨fRX2, gRX2, oX2_exchangesOf⟩
theorem bX2_layKinds (d : Nat) : zTb (zMo d zX2_layKinds) tX2_layKinds := ⟨fRX2, gRX2, oX2_layKinds⟩
theorem bX2_difference (d : Nat) : zTb (zMo d zX2_difference) tX2_difference := ⟨fRX2, gRX2, oX2_difference⟩
theorem bX2_exchanges (d : Nat) : zTb (zMo d zX2_exchanges) tX2_exchanges := ⟨fRX2, gRX2, oX2_exchanges⟩
theorem bX2_layKindsFrom (d : Nat) : zTb (zMo d zX2_layKindsFrom) tX2_layKindsFrom := ⟨fRX2, gRX2, oX2_layKindsFrom⟩
theorem bX3_init (d : Nat) : zTb (zMo d zX3_init) tX3_init := ⟨fRX3, gRX3, oX3_init⟩
theorem bX3_drop (d : Nat) : zTb (zMo d zX3_drop) tX3_drop := ⟨fRX3, gRX3, oX3_drop⟩
theorem bX3_holdNode (d : Nat) : zTb (zMo d zX3_holdNode) tX3_holdNode := ⟨fRX3, gRX3, oX3_holdNode⟩
theorem bX3_holdNoughts (d : Nat) : zTb (zMo d zX3_holdNoughts) tX3_holdNoughts := ⟨fRX3, gRX3, oX3_holdNoughts⟩
theorem bX3_holdRow (d : Nat) : zTb (zMo d zX3_holdRow) tX3_holdRow := ⟨fRX3, gRX3, oX3_holdRow⟩
theorem bX3_hasRow (d : Nat) : zTb (zMo d zX3_hasRow) tX3_hasRow := ⟨fRX3, gRX3, oX3_hasRow⟩
theorem bX3_hasSpan (d : Nat) : zTb (zMo d zX3_hasSpan) tX3_hasSpan := ⟨fRX3, gRX3, oX3_hasSpan⟩
theorem bX3_weighNode (d : Nat) : zTb (zMo d zX3_weighNode) tX3_weighNode := ⟨fRX3, gRX3, oX3_weighNode⟩
theorem bX4_init (d : Nat) : zTb (zMo d zX4_init) tX4_init := ⟨fRX4, gRX4, oX4_init⟩
theorem bX4_isTooLong (d : Nat) : zTb (zMo d zX4_isTooLong) tX4_isTooLong := ⟨fRX4, gRX4, oX4_isTooLong⟩
theorem bX4_sayInStyle (d : Nat) : zTb (zMo d zX4_sayInStyle) tX4_sayInStyle := ⟨fRX4, gRX4, oX4_sayInStyle⟩
theorem bX4_saySparingly (d : Nat) : zTb (zMo d zX4_saySparingly) tX4_saySparingly := ⟨fRX4, gRX4, oX4_saySparingly⟩
theorem bX4_isSameAs (d : Nat) : zTb (zMo d zX4_isSameAs) tX4_isSameAs := ⟨fRX4, gRX4, oX4_isSameAs⟩
theorem bX4_tell (d : Nat) : zTb (zMo d zX4_tell) tX4_tell := ⟨fRX4, gRX4, oX4_tell⟩
theorem bX4_tellBare (d : Nat) : zTb (zMo d zX4_tellBare) tX4_tellBare := ⟨fRX4, gRX4, oX4_tellBare⟩
theorem bX4_isPartKept (d : Nat) : zTb (zMo d zX4_isPartKept) tX4_isPartKept := ⟨fRX4, gRX4, oX4_isPartKept⟩
theorem bX4_addDigits (d : Nat) : zTb (zMo d zX4_addDigits) tX4_addDigits := ⟨fRX4, gRX4, oX4_addDigits⟩
theorem bX4_add (d : Nat) : zTb (zMo d zX4_add) tX4_add := ⟨fRX4, gRX4, oX4_add⟩
theorem bX5_init (d : Nat) : zTb (zMo d zX5_init) tX5_init := ⟨fRX5, gRX5, oX5_init⟩
theorem bX5_isBegun (d : Nat) : zTb (zMo d zX5_isBegun) tX5_isBegun := ⟨fRX5, gRX5, oX5_isBegun⟩
theorem bX5_top (d : Nat) : zTb (zMo d zX5_top) tX5_top := ⟨fRX5, gRX5, oX5_top⟩
theorem bX5_here (d : Nat) : zTb (zMo d zX5_here) tX5_here := ⟨fRX5, gRX5, oX5_here⟩
theorem bX5_beginAt (d : Nat) : zTb (zMo d zX5_beginAt) tX5_beginAt := ⟨fRX5, gRX5, oX5_beginAt⟩
theorem bX5_stepDown (d : Nat) : zTb (zMo d zX5_stepDown) tX5_stepDown := ⟨fRX5, gRX5, oX5_stepDown⟩
theorem bX5_stepUp (d : Nat) : zTb (zMo d zX5_stepUp) tX5_stepUp := ⟨fRX5, gRX5, oX5_stepUp⟩
theorem bX5_stepBeside (d : Nat) : zTb (zMo d zX5_stepBeside) tX5_stepBeside := ⟨fRX5, gRX5, oX5_stepBeside⟩
theorem bX5_asNumber (d : Nat) : zTb (zMo d zX5_asNumber) tX5_asNumber := ⟨fRX5, gRX5, oX5_asNumber⟩
theorem bX5_follow (d : Nat) : zTb (zMo d zX5_follow) tX5_follow := ⟨fRX5, gRX5, oX5_follow⟩
theorem bX5_leadsSomewhere (d : Nat) : zTb (zMo d zX5_leadsSomewhere) tX5_leadsSomewhere := ⟨fRX5, gRX5, oX5_leadsSomewhere⟩
theorem bX6_init (d : Nat) : zTb (zMo d zX6_init) tX6_init := ⟨fRX6, gRX6, oX6_init⟩
theorem bX6_leaf (d : Nat) : zTb (zMo d zX6_leaf) tX6_leaf := ⟨fRX6, gRX6, oX6_leaf⟩
theorem bX6_node (d : Nat) : zTb (zMo d zX6_node) tX6_node := ⟨fRX6, gRX6, oX6_node⟩
theorem bX6_undo (d : Nat) : zTb (zMo d zX6_undo) tX6_undo := ⟨fRX6, gRX6, oX6_undo⟩
theorem bX6_means (d : Nat) : zTb (zMo d zX6_means) tX6_means := ⟨fRX6, gRX6, oX6_means⟩
theorem bX6_look (d : Nat) : zTb (zMo d zX6_look) tX6_look := ⟨fRX6, gRX6, oX6_look⟩
theorem bX6_alike (d : Nat) : zTb (zMo d zX6_alike) tX6_alike := ⟨fRX6, gRX6, oX6_alike⟩
theorem bX6_times (d : Nat) : zTb (zMo d zX6_times) tX6_times := ⟨fRX6, gRX6, oX6_times⟩
theorem bX6_keeps (d : Nat) : zTb (zMo d zX6_keeps) tX6_keeps := ⟨fRX6, gRX6, oX6_keeps⟩
theorem bX6_words (d : Nat) : zTb (zMo d zX6_words) tX6_words := ⟨fRX6, gRX6, oX6_words⟩
theorem bX6_word (d : Nat) : zTb (zMo d zX6_word) tX6_word := ⟨fRX6, gRX6, oX6_word⟩
theorem bX6_sound (d : Nat) : zTb (zMo d zX6_sound) tX6_sound := ⟨fRX6, gRX6, oX6_sound⟩
theorem bX6_clear (d : Nat) : zTb (zMo d zX6_clear) tX6_clear := ⟨fRX6, gRX6, oX6_clear⟩
theorem bX6_hear (d : Nat) : zTb (zMo d zX6_hear) tX6_hear := ⟨fRX6, gRX6, oX6_hear⟩
theorem bX6_listen (d : Nat) : zTb (zMo d zX6_listen) tX6_listen := ⟨fRX6, gRX6, oX6_listen⟩
theorem bX6_hush (d : Nat) : zTb (zMo d zX6_hush) tX6_hush := ⟨fRX6, gRX6, oX6_hush⟩
theorem bX6_ear (d : Nat) : zTb (zMo d zX6_ear) tX6_ear := ⟨fRX6, gRX6, oX6_ear⟩
theorem bX6_write (d : Nat) : zTb (zMo d zX6_write) tX6_write := ⟨fRX6, gRX6, oX6_write⟩
theorem bX6_place (d : Nat) : zTb (zMo d zX6_place) tX6_place := ⟨fRX6, gRX6, oX6_place⟩
theorem bX6_doubt (d : Nat) : zTb (zMo d zX6_doubt) tX6_doubt := ⟨fRX6, gRX6, oX6_doubt⟩
theorem bX6_fewest (d : Nat) : zTb (zMo d zX6_fewest) tX6_fewest := ⟨fRX6, gRX6, oX6_fewest⟩
theorem bX6_walk (d : Nat) : zTb (zMo d zX6_walk) tX6_walk := ⟨fRX6, gRX6, oX6_walk⟩
theorem bX6_go (d : Nat) : zTb (zMo d zX6_go) tX6_go := ⟨fRX6, gRX6, oX6_go⟩
theorem bX6_lead (d : Nat) : zTb (zMo d zX6_lead) tX6_lead := ⟨fRX6, gRX6, oX6_lead⟩
theorem bX6_glance (d : Nat) : zTb (zMo d zX6_glance) tX6_glance := ⟨fRX6, gRX6, oX6_glance⟩
theorem bX6_changed (d : Nat) : zTb (zMo d zX6_changed) tX6_changed := ⟨fRX6, gRX6, oX6_changed⟩
theorem bX6_exchanged (d : Nat) : zTb (zMo d zX6_exchanged) tX6_exchanged := ⟨fRX6, gRX6, oX6_exchanged⟩
theorem bX6_count (d : Nat) : zTb (zMo d zX6_count) tX6_count := ⟨fRX6, gRX6, oX6_count⟩
theorem bX6_keep (d : Nat) : zTb (zMo d zX6_keep) tX6_keep := ⟨fRX6, gRX6, oX6_keep⟩
theorem bX6_make (d : Nat) : zTb (zMo d zX6_make) tX6_make := ⟨fRX6, gRX6, oX6_make⟩
theorem bX6_copy (d : Nat) : zTb (zMo d zX6_copy) tX6_copy := ⟨fRX6, gRX6, oX6_copy⟩
theorem bX6_weight (d : Nat) : zTb (zMo d zX6_weight) tX6_weight := ⟨fRX6, gRX6, oX6_weight⟩
theorem bX6_toss (d : Nat) : zTb (zMo d zX6_toss) tX6_toss := ⟨fRX6, gRX6, oX6_toss⟩
theorem bX6_isLetter (d : Nat) : zTb (zMo d zX6_isLetter) tX6_isLetter := ⟨fRX6, gRX6, oX6_isLetter⟩
theorem bX6_isStyle (d : Nat) : zTb (zMo d zX6_isStyle) tX6_isStyle := ⟨fRX6, gRX6, oX6_isStyle⟩
theorem bX6_isStyleOrFree (d : Nat) : zTb (zMo d zX6_isStyleOrFree) tX6_isStyleOrFree := ⟨fRX6, gRX6, oX6_isStyleOrFree⟩
theorem bX6_isShelf (d : Nat) : zTb (zMo d zX6_isShelf) tX6_isShelf := ⟨fRX6, gRX6, oX6_isShelf⟩
theorem bX6_orMissing (d : Nat) : zTb (zMo d zX6_orMissing) tX6_orMissing := ⟨fRX6, gRX6, oX6_orMissing⟩
theorem bX6_digitOf (d : Nat) : zTb (zMo d zX6_digitOf) tX6_digitOf := ⟨fRX6, gRX6, oX6_digitOf⟩
theorem bX6_hearSpeech (d : Nat) : zTb (zMo d zX6_hearSpeech) tX6_hearSpeech := ⟨fRX6, gRX6, oX6_hearSpeech⟩
theorem bX6_tallyIn (d : Nat) : zTb (zMo d zX6_tallyIn) tX6_tallyIn := ⟨fRX6, gRX6, oX6_tallyIn⟩
theorem bX6_keepNode (d : Nat) : zTb (zMo d zX6_keepNode) tX6_keepNode := ⟨fRX6, gRX6, oX6_keepNode⟩
theorem bX6_nodeRefusal (d : Nat) : zTb (zMo d zX6_nodeRefusal) tX6_nodeRefusal := ⟨fRX6, gRX6, oX6_nodeRefusal⟩
theorem bX7_init (d : Nat) : zTb (zMo d zX7_init) tX7_init := ⟨fRX7, gRX7, oX7_init⟩
theorem bX7_in (d : Nat) : zTb (zMo d zX7_in) tX7_in := ⟨fRX7, gRX7, oX7_in⟩
theorem bX7_isNode (d : Nat) : zTb (zMo d zX7_isNode) tX7_isNode := ⟨fRX7, gRX7, oX7_isNode⟩
theorem bX7_isTwo (d : Nat) : zTb (zMo d zX7_isTwo) tX7_isTwo := ⟨fRX7, gRX7, oX7_isTwo⟩
theorem bX7_mayKeep (d : Nat) : zTb (zMo d zX7_mayKeep) tX7_mayKeep := ⟨fRX7, gRX7, oX7_mayKeep⟩
theorem bX7_isStyle (d : Nat) : zTb (zMo d zX7_isStyle) tX7_isStyle := ⟨fRX7, gRX7, oX7_isStyle⟩
theorem bX7_sets (d : Nat) : zTb (zMo d zX7_sets) tX7_sets := ⟨fRX7, gRX7, oX7_sets⟩
theorem bX7_leaf (d : Nat) : zTb (zMo d zX7_leaf) tX7_leaf := ⟨fRX7, gRX7, oX7_leaf⟩
theorem bX7_node (d : Nat) : zTb (zMo d zX7_node) tX7_node := ⟨fRX7, gRX7, oX7_node⟩
theorem bX7_undo (d : Nat) : zTb (zMo d zX7_undo) tX7_undo := ⟨fRX7, gRX7, oX7_undo⟩
theorem bX7_means (d : Nat) : zTb (zMo d zX7_means) tX7_means := ⟨fRX7, gRX7, oX7_means⟩
theorem bX7_isRight (d : Nat) : zTb (zMo d zX7_isRight) tX7_isRight := ⟨fRX7, gRX7, oX7_isRight⟩
theorem bX7_look (d : Nat) : zTb (zMo d zX7_look) tX7_look := ⟨fRX7, gRX7, oX7_look⟩
theorem bX7_areAlike (d : Nat) : zTb (zMo d zX7_areAlike) tX7_areAlike := ⟨fRX7, gRX7, oX7_areAlike⟩
theorem bX7_alike (d : Nat) : zTb (zMo d zX7_alike) tX7_alike := ⟨fRX7, gRX7, oX7_alike⟩
theorem bX7_has (d : Nat) : zTb (zMo d zX7_has) tX7_has := ⟨fRX7, gRX7, oX7_has⟩
theorem bX7_times (d : Nat) : zTb (zMo d zX7_times) tX7_times := ⟨fRX7, gRX7, oX7_times⟩
theorem bX7_keeps (d : Nat) : zTb (zMo d zX7_keeps) tX7_keeps := ⟨fRX7, gRX7, oX7_keeps⟩
theorem bX7_digits (d : Nat) : zTb (zMo d zX7_digits) tX7_digits := ⟨fRX7, gRX7, oX7_digits⟩
theorem bX7_own (d : Nat) : zTb (zMo d zX7_own) tX7_own := ⟨fRX7, gRX7, oX7_own⟩
theorem bX7_length (d : Nat) : zTb (zMo d zX7_length) tX7_length := ⟨fRX7, gRX7, oX7_length⟩
theorem bX7_says (d : Nat) : zTb (zMo d zX7_says) tX7_says := ⟨fRX7, gRX7, oX7_says⟩
theorem bX7_keepsIt (d : Nat) : zTb (zMo d zX7_keepsIt) tX7_keepsIt := ⟨fRX7, gRX7, oX7_keepsIt⟩
theorem bX7_say (d : Nat) : zTb (zMo d zX7_say) tX7_say := ⟨fRX7, gRX7, oX7_say⟩
theorem bX7_sayAll (d : Nat) : zTb (zMo d zX7_sayAll) tX7_sayAll := ⟨fRX7, gRX7, oX7_sayAll⟩
theorem bX7_words (d : Nat) : zTb (zMo d zX7_words) tX7_words := ⟨fRX7, gRX7, oX7_words⟩
theorem bX7_word (d : Nat) : zTb (zMo d zX7_word) tX7_word := ⟨fRX7, gRX7, oX7_word⟩
theorem bX7_sound (d : Nat) : zTb (zMo d zX7_sound) tX7_sound := ⟨fRX7, gRX7, oX7_sound⟩
theorem bX7_adds (d : Nat) : zTb (zMo d zX7_adds) tX7_adds := ⟨fRX7, gRX7, oX7_adds⟩
theorem bX7_grows (d : Nat) : zTb (zMo d zX7_grows) tX7_grows := ⟨fRX7, gRX7, oX7_grows⟩
theorem bX7_isSame (d : Nat) : zTb (zMo d zX7_isSame) tX7_isSame := ⟨fRX7, gRX7, oX7_isSame⟩
theorem bX7_clear (d : Nat) : zTb (zMo d zX7_clear) tX7_clear := ⟨fRX7, gRX7, oX7_clear⟩
theorem bX7_hear (d : Nat) : zTb (zMo d zX7_hear) tX7_hear := ⟨fRX7, gRX7, oX7_hear⟩
theorem bX7_listen (d : Nat) : zTb (zMo d zX7_listen) tX7_listen := ⟨fRX7, gRX7, oX7_listen⟩
theorem bX7_hears (d : Nat) : zTb (zMo d zX7_hears) tX7_hears := ⟨fRX7, gRX7, oX7_hears⟩
theorem bX7_hush (d : Nat) : zTb (zMo d zX7_hush) tX7_hush := ⟨fRX7, gRX7, oX7_hush⟩
theorem bX7_ear (d : Nat) : zTb (zMo d zX7_ear) tX7_ear := ⟨fRX7, gRX7, oX7_ear⟩
theorem bX7_times_ (d : Nat) : zTb (zMo d zX7_times_) tX7_times_ := ⟨fRX7, gRX7, oX7_times_⟩
theorem bX7_plus (d : Nat) : zTb (zMo d zX7_plus) tX7_plus := ⟨fRX7, gRX7, oX7_plus⟩
theorem bX7_isLet (d : Nat) : zTb (zMo d zX7_isLet) tX7_isLet := ⟨fRX7, gRX7, oX7_isLet⟩
theorem bX7_isNumber (d : Nat) : zTb (zMo d zX7_isNumber) tX7_isNumber := ⟨fRX7, gRX7, oX7_isNumber⟩
theorem bX7_within (d : Nat) : zTb (zMo d zX7_within) tX7_within := ⟨fRX7, gRX7, oX7_within⟩
theorem bX7_reckons (d : Nat) : zTb (zMo d zX7_reckons) tX7_reckons := ⟨fRX7, gRX7, oX7_reckons⟩
theorem bX7_counted (d : Nat) : zTb (zMo d zX7_counted) tX7_counted := ⟨fRX7, gRX7, oX7_counted⟩
theorem bX7_readings (d : Nat) : zTb (zMo d zX7_readings) tX7_readings := ⟨fRX7, gRX7, oX7_readings⟩
theorem bX7_makes (d : Nat) : zTb (zMo d zX7_makes) tX7_makes := ⟨fRX7, gRX7, oX7_makes⟩
theorem bX7_takes (d : Nat) : zTb (zMo d zX7_takes) tX7_takes := ⟨fRX7, gRX7, oX7_takes⟩
theorem bX7_takesTwo (d : Nat) : zTb (zMo d zX7_takesTwo) tX7_takesTwo := ⟨fRX7, gRX7, oX7_takesTwo⟩
theorem bX7_write (d : Nat) : zTb (zMo d zX7_write) tX7_write := ⟨fRX7, gRX7, oX7_write⟩
theorem bX7_copies (d : Nat) : zTb (zMo d zX7_copies) tX7_copies := ⟨fRX7, gRX7, oX7_copies⟩
theorem bX7_rank (d : Nat) : zTb (zMo d zX7_rank) tX7_rank := ⟨fRX7, gRX7, oX7_rank⟩
theorem bX7_inner (d : Nat) : zTb (zMo d zX7_inner) tX7_inner := ⟨fRX7, gRX7, oX7_inner⟩
theorem bX7_innerTwo (d : Nat) : zTb (zMo d zX7_innerTwo) tX7_innerTwo := ⟨fRX7, gRX7, oX7_innerTwo⟩
theorem bX7_place (d : Nat) : zTb (zMo d zX7_place) tX7_place := ⟨fRX7, gRX7, oX7_place⟩
theorem bX7_doubt (d : Nat) : zTb (zMo d zX7_doubt) tX7_doubt := ⟨fRX7, gRX7, oX7_doubt⟩
theorem bX7_keepable (d : Nat) : zTb (zMo d zX7_keepable) tX7_keepable := ⟨fRX7, gRX7, oX7_keepable⟩
theorem bX7_bits (d : Nat) : zTb (zMo d zX7_bits) tX7_bits := ⟨fRX7, gRX7, oX7_bits⟩
theorem bX7_fewest (d : Nat) : zTb (zMo d zX7_fewest) tX7_fewest := ⟨fRX7, gRX7, oX7_fewest⟩
theorem bX7_isOnly (d : Nat) : zTb (zMo d zX7_isOnly) tX7_isOnly := ⟨fRX7, gRX7, oX7_isOnly⟩
theorem bX7_walk (d : Nat) : zTb (zMo d zX7_walk) tX7_walk := ⟨fRX7, gRX7, oX7_walk⟩
theorem bX7_down (d : Nat) : zTb (zMo d zX7_down) tX7_down := ⟨fRX7, gRX7, oX7_down⟩
theorem bX7_go (d : Nat) : zTb (zMo d zX7_go) tX7_go := ⟨fRX7, gRX7, oX7_go⟩
theorem bX7_where (d : Nat) : zTb (zMo d zX7_where) tX7_where := ⟨fRX7, gRX7, oX7_where⟩
theorem bX7_lead (d : Nat) : zTb (zMo d zX7_lead) tX7_lead := ⟨fRX7, gRX7, oX7_lead⟩
theorem bX7_glanced (d : Nat) : zTb (zMo d zX7_glanced) tX7_glanced := ⟨fRX7, gRX7, oX7_glanced⟩
theorem bX7_glance (d : Nat) : zTb (zMo d zX7_glance) tX7_glance := ⟨fRX7, gRX7, oX7_glance⟩
theorem bX7_inside (d : Nat) : zTb (zMo d zX7_inside) tX7_inside := ⟨fRX7, gRX7, oX7_inside⟩
theorem bX7_difference (d : Nat) : zTb (zMo d zX7_difference) tX7_difference := ⟨fRX7, gRX7, oX7_difference⟩
theorem bX7_wholes (d : Nat) : zTb (zMo d zX7_wholes) tX7_wholes := ⟨fRX7, gRX7, oX7_wholes⟩
theorem bX7_changed (d : Nat) : zTb (zMo d zX7_changed) tX7_changed := ⟨fRX7, gRX7, oX7_changed⟩
theorem bX7_exchanged (d : Nat) : zTb (zMo d zX7_exchanged) tX7_exchanged := ⟨fRX7, gRX7, oX7_exchanged⟩
theorem bX7_functions (d : Nat) : zTb (zMo d zX7_functions) tX7_functions := ⟨fRX7, gRX7, oX7_functions⟩
theorem bX7_count (d : Nat) : zTb (zMo d zX7_count) tX7_count := ⟨fRX7, gRX7, oX7_count⟩
theorem bX7_isShelf (d : Nat) : zTb (zMo d zX7_isShelf) tX7_isShelf := ⟨fRX7, gRX7, oX7_isShelf⟩
theorem bX7_kinds (d : Nat) : zTb (zMo d zX7_kinds) tX7_kinds := ⟨fRX7, gRX7, oX7_kinds⟩
theorem bX7_keep (d : Nat) : zTb (zMo d zX7_keep) tX7_keep := ⟨fRX7, gRX7, oX7_keep⟩
theorem bX7_make (d : Nat) : zTb (zMo d zX7_make) tX7_make := ⟨fRX7, gRX7, oX7_make⟩
theorem bX7_element (d : Nat) : zTb (zMo d zX7_element) tX7_element := ⟨fRX7, gRX7, oX7_element⟩
theorem bX7_copy (d : Nat) : zTb (zMo d zX7_copy) tX7_copy := ⟨fRX7, gRX7, oX7_copy⟩
theorem bX7_held (d : Nat) : zTb (zMo d zX7_held) tX7_held := ⟨fRX7, gRX7, oX7_held⟩
theorem bX7_weight (d : Nat) : zTb (zMo d zX7_weight) tX7_weight := ⟨fRX7, gRX7, oX7_weight⟩
theorem bX7_toss (d : Nat) : zTb (zMo d zX7_toss) tX7_toss := ⟨fRX7, gRX7, oX7_toss⟩
theorem bJ6_bitCount_0f7a4 (d : Nat) : zTb (zMo d zJ6_bitCount_0f7a4) tJ6_bitCount_0f7a4 := ⟨fRJ6, gRJ6, oJ6_bitCount_0f7a4⟩
end
