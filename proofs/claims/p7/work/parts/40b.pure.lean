/-- a NODE's number on a page of u -/
def hsP (u x : Int32) : Prop := 0 ≤ x.toInt ∧ x.toInt < u.toInt

def nC (x : Int32) : Nat := x.toNatClampNeg
/-- DIFFERENCE, going down f steps at most -/
noncomputable def dfP (b : Nat) (P : Nat → Nat → Int32) (u : Int32) : Nat → Int32 → Int32 → Int32
  | 0, _, _ => Int32.ofInt 0
  | f + 1, x, y => if 0 ≤ x.toInt ∧ x.toInt < u.toInt then (if 0 ≤ y.toInt ∧ y.toInt < u.toInt then (if P (b + 1) (nC x) = P (b + 1) (nC y) then (if P (b + 2) (nC x) = P (b + 2) (nC y) then Int32.ofInt 0 else Int32.ofInt 1) + dfP b P u f (P (b + 3) (nC x)) (P (b + 3) (nC y)) + dfP b P u f (P (b + 4) (nC x)) (P (b + 4) (nC y)) else P (b + 5) (nC x) + P (b + 5) (nC y)) else Int32.ofInt 0) else Int32.ofInt 0
noncomputable def exP (b : Nat) (P : Nat → Nat → Int32) (u : Int32) : Nat → Int32 → Int32 → Int32
  | 0, _, _ => Int32.ofInt 0
  | f + 1, x, y => if 0 ≤ x.toInt ∧ x.toInt < u.toInt then (if 0 ≤ y.toInt ∧ y.toInt < u.toInt then (if P (b + 1) (nC x) = P (b + 1) (nC y) then exP b P u f (P (b + 3) (nC x)) (P (b + 3) (nC y)) + exP b P u f (P (b + 4) (nC x)) (P (b + 4) (nC y)) else Int32.ofInt 1) else Int32.ofInt 0) else Int32.ofInt 0
theorem dfP_s (b : Nat) (P : Nat → Nat → Int32) (u : Int32) (f : Nat) (x y : Int32) : dfP b P u (f + 1) x y = (if 0 ≤ x.toInt ∧ x.toInt < u.toInt then (if 0 ≤ y.toInt ∧ y.toInt < u.toInt then (if P (b + 1) (nC x) = P (b + 1) (nC y) then (if P (b + 2) (nC x) = P (b + 2) (nC y) then Int32.ofInt 0 else Int32.ofInt 1) + dfP b P u f (P (b + 3) (nC x)) (P (b + 3) (nC y)) + dfP b P u f (P (b + 4) (nC x)) (P (b + 4) (nC y)) else P (b + 5) (nC x) + P (b + 5) (nC y)) else Int32.ofInt 0) else Int32.ofInt 0) := rfl
theorem exP_s (b : Nat) (P : Nat → Nat → Int32) (u : Int32) (f : Nat) (x y : Int32) : exP b P u (f + 1) x y = (if 0 ≤ x.toInt ∧ x.toInt < u.toInt then (if 0 ≤ y.toInt ∧ y.toInt < u.toInt then (if P (b + 1) (nC x) = P (b + 1) (nC y) then exP b P u f (P (b + 3) (nC x)) (P (b + 3) (nC y)) + exP b P u f (P (b + 4) (nC x)) (P (b + 4) (nC y)) else Int32.ofInt 1) else Int32.ofInt 0) else Int32.ofInt 0) := rfl
theorem nI_gt0 {f : Nat} (h : f + 1 < 2 ^ 31) : 0 < nI (f + 1) := by
  rw [← nI_0]
  exact nI_lt (by omega) h
theorem nI_m1 (f : Nat) : nI (f + 1) - Int32.ofInt 1 = nI f := nI_pred f
