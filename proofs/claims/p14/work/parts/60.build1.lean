theorem cmp_sub {x y : Int64} {n : Nat} (hy : inB y n) (h : 0 ≤ lg_cmp x y) : 0 ≤ lg_cmp (x - y) (Int64.ofInt 0) := by
  rw [lg_cmp_ge, Int64.le_iff_toInt_le] at h
  rw [lg_cmp_ge, Int64.le_iff_toInt_le, Int64.toInt_sub]
  have h1 := hy.1
  have h2 := Int64.toInt_lt x
  rw [Int.bmod_eq_of_le (by omega) (by omega), show (Int64.ofInt 0).toInt = 0 from rfl]
  omega