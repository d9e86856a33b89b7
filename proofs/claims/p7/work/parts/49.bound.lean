/-- a PART's number on a page: none, or one that came before -/
def okp (n : Nat) (x : Int32) : Prop := x = Int32.ofInt (-1) ∨ ∃ j : Nat, j < n ∧ x = nI j
def szq (Sz : Nat → Int32) (x : Int32) : Nat := if 0 ≤ x.toInt then (Sz (nC x)).toNatClampNeg else 0
/-- a page of u NODES -/
def pgI (u : Nat) (Kd Xs Ys Sz : Nat → Int32) : Prop := ∀ n, n < u → (∃ k : Nat, k < 10 ∧ Kd n = nI k) ∧ okp n (Xs n) ∧ okp n (Ys n) ∧ ∃ z : Nat, Sz n = nI z ∧ 1 ≤ z ∧ z ≤ 40 ∧ 1 + szq Sz (Xs n) + szq Sz (Ys n) ≤ z
theorem coW_len {P : Nat → Nat → Int32} {pk : Int32 → Int32 → Int32 → Int32} {T : Int32 → Int32 → List Int32} {n a b : Nat} (hx : ∀ c, (T (P 4 n) c).length ≤ a) (hy : ∀ c, (T (P 5 n) c).length ≤ b) : (coW P pk T n).length ≤ 4 + a + b := by
  unfold coW
  have hd := dgW_len (P 3 n)
  split
  · simp only [List.length_cons, List.length_nil]; omega
  · split
    · omega
    · split
      · have := hx (pk (nI 7) (P 4 n) (Int32.ofInt 1)); simp only [List.length_cons]; omega
      · split
        · have := hx (pk (nI 8) (P 4 n) (Int32.ofInt 1)); simp only [List.length_cons, List.length_append, List.length_nil]; omega
        · split
          · have := hx (pk (nI 9) (P 4 n) (Int32.ofInt 1)); simp only [List.length_cons]; omega
          · have h1 := hx (pk (P 2 n) (P 4 n) (Int32.ofInt 1)); have h2 := hy (pk (P 2 n) (P 5 n) (Int32.ofInt 0)); simp only [List.length_cons, List.length_append]; omega
theorem tlW_len {u : Nat} (hu : u ≤ 120) {kk sp : Int32} {P : Nat → Nat → Int32} (hp : pgI u (P 2) (P 4) (P 5) (P 6)) : ∀ (f : Nat) (x kept : Int32), (tlW (nI u) kk sp P f x kept).length ≤ 6 * szq (P 6) x := by
  intro f
  induction f with
  | zero =>
    intro x kept
    rw [tlW_0]
    split
    · rename_i hh
      rw [nI_toInt (by omega)] at hh
      obtain ⟨j, hj, rfl⟩ := vp_in_of (x := x) (n := u) (vp_in_iff.mpr ⟨hh.1, by omega⟩) (by omega)
      obtain ⟨-, -, -, z, hz, z1, z2, -⟩ := hp j hj
      have e : szq (P 6) (nI j) = z := by unfold szq nC; rw [if_pos hh.1, nI_clamp (by omega), hz, nI_clamp (by omega)]
      rw [e]
      simp only [List.length_cons, List.length_nil]
      omega
    · exact Nat.zero_le _
  | succ f ih =>
    intro x kept
    rw [tlW_s]
    split
    · rename_i hh
      rw [nI_toInt (by omega)] at hh
      obtain ⟨j, hj, rfl⟩ := vp_in_of (x := x) (n := u) (vp_in_iff.mpr ⟨hh.1, by omega⟩) (by omega)
      obtain ⟨-, -, -, z, hz, z1, z2, z3⟩ := hp j hj
      have ej : nC (nI j) = j := nI_clamp (by omega)
      have e : szq (P 6) (nI j) = z := by unfold szq; rw [if_pos hh.1, ej, hz, nI_clamp (by omega)]
      have hc := coW_len (P := P) (pk := pkW (nI u) kk sp P) (T := tlW (nI u) kk sp P f) (n := j) (fun c => ih (P 4 j) c) (fun c => ih (P 5 j) c)
      rw [e, ej]
      split
      · omega
      · simp only [List.length_cons, List.length_append, List.length_nil]
        omega
    · exact Nat.zero_le _
theorem szq_le {u : Nat} {Kd Xs Ys Sz : Nat → Int32} (hp : pgI u Kd Xs Ys Sz) {j : Nat} (hj : j < u) (hu : u ≤ 120) : szq Sz (nI j) ≤ 40 := by
  obtain ⟨-, -, -, z, hz, z1, z2, -⟩ := hp j hj
  unfold szq nC
  rw [if_pos (by rw [nI_toInt (by omega)]; omega), nI_clamp (by omega), hz, nI_clamp (by omega)]
  exact z2
