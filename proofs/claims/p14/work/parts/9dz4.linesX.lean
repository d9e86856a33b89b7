noncomputable def eN (A : Nat → Nat → Int32) : Nat → Int32 → Int32 → Nat
  | 0, _, _ => 0
  | z + 1, x, y => if x < 0 then 0 else (if A 0 (nC x) = A 0 (nC y) then eN A z (A 2 (nC x)) (A 2 (nC y)) + eN A z (A 3 (nC x)) (A 3 (nC y)) else 1)