/-- firstAlike: the shape of the first NODE alike, or n -/
noncomputable def shQ (U : Int32) (S : Nat → Int32) (x : Int32) : Int32 := @ite _ (0 ≤ x.toInt ∧ x.toInt < U.toInt) (Classical.propDecidable _) (S x.toNatClampNeg) (Int32.ofInt (-1))
theorem shq_of {U : Int32} {S : Nat → Int32} {x : Int32} {r : Option Value} (h : ((0 ≤ x.toInt ∧ x.toInt < U.toInt) ∧ r = some (.int (S x.toNatClampNeg))) ∨ (¬ (0 ≤ x.toInt ∧ x.toInt < U.toInt) ∧ r = some (.int (Int32.ofInt (-1))))) : r = some (.int (shQ U S x)) := by
  unfold shQ
  rcases h with ⟨a, e⟩ | ⟨a, e⟩
  · rw [if_pos a]
    exact e
  · rw [if_neg a]
    exact e
def faT (b : Nat) (U : Int32) (X : Nat → Nat → Int32) (n m : Nat) : Prop := (X (b + 1) (nI m).toNatClampNeg = X (b + 1) (nI n).toNatClampNeg ∧ X (b + 2) (nI m).toNatClampNeg = X (b + 2) (nI n).toNatClampNeg) ∧ shQ U (X (b + 11)) (X (b + 3) (nI m).toNatClampNeg) = shQ U (X (b + 11)) (X (b + 3) (nI n).toNatClampNeg) ∧ shQ U (X (b + 11)) (X (b + 4) (nI m).toNatClampNeg) = shQ U (X (b + 11)) (X (b + 4) (nI n).toNatClampNeg)
noncomputable def faW (b : Nat) (U : Int32) (X : Nat → Nat → Int32) (n : Nat) : Nat → Nat → Int32
  | 0, _ => nI n
  | c + 1, m => @ite _ (faT b U X n m) (Classical.propDecidable _) (X (b + 11) (nI m).toNatClampNeg) (faW b U X n c (m + 1))
theorem faW_yes {b : Nat} {U : Int32} {X : Nat → Nat → Int32} {n c m : Nat} (h : faT b U X n m) : faW b U X n (c + 1) m = X (b + 11) (nI m).toNatClampNeg := @if_pos _ (Classical.propDecidable _) h _ _ _
theorem faW_no {b : Nat} {U : Int32} {X : Nat → Nat → Int32} {n c m : Nat} (h : ¬ faT b U X n m) : faW b U X n (c + 1) m = faW b U X n c (m + 1) := @if_neg _ (Classical.propDecidable _) h _ _ _
