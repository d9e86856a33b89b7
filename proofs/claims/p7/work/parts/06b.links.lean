def zFTok (own : String) (F : zFT) : Prop :=
  (∀ x ∈ F.1, ∃ r, vwCl[x.2.1]? = some r ∧ x.2.2.1 < r.2.2 ∧ Cond.fieldLink own x.1 (r.2.1 x.2.2.1).1 (r.2.1 x.2.2.1).2.1 (r.2.1 x.2.2.1).2.2.1 ∈ zG ∧ ((x.2.2.2 = 0 ∧ (r.2.1 x.2.2.1).2.2.2 = false) ∨ (x.2.2.2 = 1 ∧ (r.2.1 x.2.2.1).2.2.2 = true ∧ (r.2.1 x.2.2.1).1 = own) ∨ x.2.2.2 = 2)) ∧
  (∀ x ∈ F.2.1, ∃ z, zms[x.2]? = some z ∧ Cond.methodLink own x.1 z.1 ∈ zG) ∧
  (∀ x ∈ F.2.2.1, Cond.constant own x.1 (Int32.ofInt x.2) ∈ zG) ∧
  (∀ x ∈ F.2.2.2.1, Cond.constantLong own x.1 (Int64.ofInt x.2) ∈ zG) ∧
  (∀ x ∈ F.2.2.2.2, Cond.methodLink own x Lib.objectInit ∈ zG)
/-- what a row of a method's table must keep, beside being the decoded instruction -/
def zgd (F : zFT) (nL : Nat) (ini : Bool) (pc : Nat) (ins : Instr) (a b : Nat) (c : Int) : Bool := match ins with
  | .ifCond _ off => decide ((pc : Int) + off = (a : Int))
  | .if_icmp _ off => decide ((pc : Int) + off = (a : Int))
  | .goto off => decide ((pc : Int) + off = (a : Int))
  | .istore i => decide (i < nL)
  | .istore_n i => decide ((i : Nat) < nL)
  | .astore i => decide (i < nL)
  | .astore_n i => decide ((i : Nat) < nL)
  | .lstore i => decide (i + 1 < nL)
  | .lstore_n i => decide ((i : Nat) + 1 < nL)
  | .iinc i _ => decide (i < nL)
  | .ldc i => decide ((i, c) ∈ F.2.2.1)
  | .ldc_w i => decide ((i, c) ∈ F.2.2.1)
  | .ldc2_w i => decide ((i, c) ∈ F.2.2.2.1)
  | .getfield i => decide ((i, a, b, 0) ∈ F.1) || (decide ((i, a, b, 1) ∈ F.1) || decide ((i, a, b, 2) ∈ F.1))
  | .putfield i => decide ((i, a, b, 0) ∈ F.1) || (ini && decide ((i, a, b, 1) ∈ F.1))
  | .invokevirtual i => Nat.ble 9000 a || (decide ((i, a) ∈ F.2.1) && decide ((zms[a]?).map (fun z => z.2.2.2.2.2.2.2) = some (0, b)))
  | .invokestatic i => Nat.ble 9000 a || (decide ((i, a) ∈ F.2.1) && decide ((zms[a]?).map (fun z => z.2.2.2.2.2.2.2) = some (1, b)))
  | .invokespecial i => (Nat.beq a 9999 && decide (i ∈ F.2.2.2.2)) || (Nat.beq a 9998 || (decide ((i, a) ∈ F.2.1) && decide ((zms[a]?).map (fun z => z.2.2.2.2.2.2.2) = some (2, b))))
  | _ => true
def zlenok (ins : Instr) (pc nxt : Nat) : Bool := match ins with
  | .tableswitch _ _ _ _ => true
  | .lookupswitch _ _ => true
  | i => decide (nxt = pc + zlen i)
def zgood (F : zFT) (cc : ByteArray) (nL : Nat) (ini : Bool) (e : zE) : Bool :=
  decide (decode cc e.1 = .ok (e.2.1, e.2.2.1 - e.1)) && zlenok e.2.1 e.1 e.2.2.1 && zgd F nL ini e.1 e.2.1 e.2.2.2.1 e.2.2.2.2.1 e.2.2.2.2.2
