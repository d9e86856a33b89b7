/-- what the sayings may change of the class: speeches, and what is heard -/
def spW (O : Nat → Int32) (P : Nat → Nat → Int32) (O' : Nat → Int32) (P' : Nat → Nat → Int32) : Prop := (∃ l' : Nat, l' ≤ 20 ∧ O' 9 = nI l') ∧ (∀ j, j < 3 ∨ 9 < j → O' j = O j) ∧ (∀ i, i ≠ 28 → i ≠ 30 → i ≠ 32 → P' i = P i)
theorem has_j {u : Nat} {n : Int32} (hu : u ≤ 120) {o1 : Int32} (h1 : o1 = nI u) (h : 0 ≤ n.toInt ∧ n.toInt < o1.toInt) : ∃ j : Nat, j < u ∧ n = nI j := by
  rw [h1, nI_toInt (by omega)] at h
  refine ⟨n.toInt.toNat, by omega, ?_⟩
  rw [← Int32.toInt_inj, nI_toInt (by omega)]
  omega