/-- the world behind the constructors, the class's cells left open -/
def wT : zW := [zO 6 [.int 0, .ref 77, .ref 78, .ref 79, .ref 80, .ref 81, .ref 82, .ref 83, .ref 84, .ref 85, .int 0, .ref 86, .ref 87, .ref 88, .ref 89, .ref 90, .int 0, .ref 91, .int 0, .int (-1), .int 0, .int 0, .ref 92, .int 0, .ref 93, .ref 94, .ref 95, .ref 96, .int 0, .int 0, .int 0, .ref 97, .ref 98, .int 0, .int 0], zI 0 450 (fun _ => 0), zI 0 450 (fun _ => 0), zI 0 450 (fun _ => 0), zI 0 450 (fun _ => 0), zI 0 450 (fun _ => 0), zI 0 450 (fun _ => 0), zI 1 10 (fun _ => 0), zI 1 90 (upd (upd (upd (upd (upd (upd (upd (upd ((fun _ => 0)) 2 1) 3 1) 4 1) 5 1) 6 1) 7 1) 8 0) 9 1), zI 0 20 (fun _ => 0), zI 0 8 (fun _ => 0), zI 0 8 (fun _ => 0), zI 0 8 (fun _ => 0), zI 0 8 (fun _ => 0), zI 0 480 (fun _ => 0), zI 0 256 (fun _ => 0), zI 0 256 (fun _ => 0), zI 0 5600 (fun _ => 0), zI 0 280 (fun _ => 0), zJ 8820 (fun _ => 0), zJ 441 (fun _ => 0), zI 0 41 (fun _ => 0), zI 0 41 (fun _ => 0), zJ 1 (fun _ => 0)]
def wM (f : Nat → zC) : zW := f 0 :: f 1 :: f 2 :: f 3 :: f 4 :: f 5 :: f 6 :: f 7 :: f 8 :: f 9 :: f 10 :: f 11 :: f 12 :: f 13 :: f 14 :: f 15 :: f 16 :: f 17 :: f 18 :: f 19 :: f 20 :: f 21 :: f 22 :: f 23 :: f 24 :: f 25 :: f 26 :: f 27 :: f 28 :: f 29 :: f 30 :: f 31 :: f 32 :: f 33 :: f 34 :: f 35 :: f 36 :: f 37 :: f 38 :: f 39 :: f 40 :: f 41 :: f 42 :: f 43 :: f 44 :: f 45 :: f 46 :: f 47 :: f 48 :: f 49 :: f 50 :: f 51 :: f 52 :: f 53 :: f 54 :: f 55 :: f 56 :: f 57 :: f 58 :: f 59 :: f 60 :: f 61 :: f 62 :: f 63 :: f 64 :: f 65 :: f 66 :: f 67 :: f 68 :: f 69 :: f 70 :: f 71 :: f 72 :: f 73 :: f 74 :: f 75 :: wT
theorem wM_lo (f : Nat → zC) : ∀ j, j < 76 → (wM f)[j]? = some (f j) := by
  intro j hj
  match j, hj with
  | 0, _ => rfl
  | 1, _ => rfl
  | 2, _ => rfl
  | 3, _ => rfl
  | 4, _ => rfl
  | 5, _ => rfl
  | 6, _ => rfl
  | 7, _ => rfl
  | 8, _ => rfl
  | 9, _ => rfl
  | 10, _ => rfl
  | 11, _ => rfl
  | 12, _ => rfl
  | 13, _ => rfl
  | 14, _ => rfl
  | 15, _ => rfl
  | 16, _ => rfl
  | 17, _ => rfl
  | 18, _ => rfl
  | 19, _ => rfl
  | 20, _ => rfl
  | 21, _ => rfl
  | 22, _ => rfl
  | 23, _ => rfl
  | 24, _ => rfl
  | 25, _ => rfl
  | 26, _ => rfl
  | 27, _ => rfl
  | 28, _ => rfl
  | 29, _ => rfl
  | 30, _ => rfl
  | 31, _ => rfl
  | 32, _ => rfl
  | 33, _ => rfl
  | 34, _ => rfl
  | 35, _ => rfl
  | 36, _ => rfl
  | 37, _ => rfl
  | 38, _ => rfl
  | 39, _ => rfl
  | 40, _ => rfl
  | 41, _ => rfl
  | 42, _ => rfl
  | 43, _ => rfl
  | 44, _ => rfl
  | 45, _ => rfl
  | 46, _ => rfl
  | 47, _ => rfl
  | 48, _ => rfl
  | 49, _ => rfl
  | 50, _ => rfl
  | 51, _ => rfl
  | 52, _ => rfl
  | 53, _ => rfl
  | 54, _ => rfl
  | 55, _ => rfl
  | 56, _ => rfl
  | 57, _ => rfl
  | 58, _ => rfl
  | 59, _ => rfl
  | 60, _ => rfl
  | 61, _ => rfl
  | 62, _ => rfl
  | 63, _ => rfl
  | 64, _ => rfl
  | 65, _ => rfl
  | 66, _ => rfl
  | 67, _ => rfl
  | 68, _ => rfl
  | 69, _ => rfl
  | 70, _ => rfl
  | 71, _ => rfl
  | 72, _ => rfl
  | 73, _ => rfl
  | 74, _ => rfl
  | 75, _ => rfl
  | n + 76, h => exact absurd h (by omega)
theorem wM_of {w : zW} (h : ∀ j, 76 ≤ j → w[j]? = w0[j]?) : ∃ f, w = wM f := by
  refine ⟨fun i => (w[i]?).getD (zI 0 0 (fun _ => 0)), List.ext_getElem? (fun j => ?_)⟩
  have hl : 99 < w.length := by
    have h9 : w[99]? = some (zJ 1 (fun _ => 0)) := (h 99 (by decide)).trans rfl
    exact (List.getElem?_eq_some_iff.mp h9).1
  by_cases hj : j < 76
  · rw [wM_lo _ j hj, List.getElem?_eq_getElem (by omega)]
    rfl
  · obtain ⟨k, rfl⟩ : ∃ k, j = k + 76 := ⟨j - 76, by omega⟩
    rw [h _ (by omega)]
    rfl
theorem zcase1 (x : Int32) : x = 0 ∨ x = 1 ∨ (x.toInt < 0 ∨ 1 < x.toInt) := by
  by_cases h : x.toInt < 0 ∨ 1 < x.toInt
  · exact Or.inr (Or.inr (h))
  · have hx : x = Int32.ofInt x.toInt := (Int32.ofInt_toInt x).symm
    obtain ⟨k, hk⟩ : ∃ k : Nat, x.toInt = (k : Int) := ⟨x.toInt.toNat, by omega⟩
    rw [hk] at hx h
    have hk2 : k < 2 := by omega
    match k, hk2, hx with
    | 0, _, hx => exact Or.inl (hx.trans (by decide +kernel))
    | 1, _, hx => exact Or.inr (Or.inl (hx.trans (by decide +kernel)))
section ZIV
variable {M : zM} {al : Bool} {n0 kc ks pc nxt a b : Nat} {c0 : Int} {l : zL} {st : List Value} {w : zW} {Q : Option Value → zW → Prop} {tb : List zE}
/-- an element of a row of ints, by its value -/
theorem zv_iale (ok : zTb M tb) (hlook : zlook tb pc = some (.iaload, nxt, a, b, c0)) {k n : Nat} {f : Nat → Int32} {i v : Int32} (hw : w[k]? = some (zI 0 n f)) (hi : vp_in i n) (hv : f i.toNatClampNeg = v) (kk : zV M al n0 kc ks nxt l (.int v :: st) w Q) : zV M al n0 kc ks pc l (.int i :: .ref k :: st) w Q := by
  subst hv
  exact zv_iald ok hlook hw hi kk
/-- of a row of booleans -/
theorem zv_zale (ok : zTb M tb) (hlook : zlook tb pc = some (.baload, nxt, a, b, c0)) {k n : Nat} {f : Nat → Int32} {i v : Int32} (hw : w[k]? = some (zI 1 n f)) (hi : vp_in i n) (hv : f i.toNatClampNeg = v) (kk : zV M al n0 kc ks nxt l (.int v :: st) w Q) : zV M al n0 kc ks pc l (.int i :: .ref k :: st) w Q := by
  subst hv
  exact zv_zald ok hlook hw hi kk
end ZIV
