theorem shelf_at {x : Int32} (hx : 0 ≤ x.toInt ∧ x.toInt ≤ 7) : ∃ s r : Nat, s < 76 ∧ ([some 59, some 61, some 63, some 65, some 67, some 69, some 71, some 73] : List (Option Nat)).getD x.toNatClampNeg none = some s ∧ w0[s]? = some (zO 2 [.int 0, .int (-1), .int 0, .int 0, .ref r, .int 0]) := by
  rcases zcase7 x with rfl | rfl | rfl | rfl | rfl | rfl | rfl | rfl | hc
  · exact ⟨59, 60, by decide, rfl, rfl⟩
  · exact ⟨61, 62, by decide, rfl, rfl⟩
  · exact ⟨63, 64, by decide, rfl, rfl⟩
  · exact ⟨65, 66, by decide, rfl, rfl⟩
  · exact ⟨67, 68, by decide, rfl, rfl⟩
  · exact ⟨69, 70, by decide, rfl, rfl⟩
  · exact ⟨71, 72, by decide, rfl, rfl⟩
  · exact ⟨73, 74, by decide, rfl, rfl⟩
  · omega
