/-- the reference's cells and the law's long row, all of them open: o its numbers by their fields, A its rows by their cells behind 77, J its rows of longs -/
def wR (f : Nat → zC) (o : Nat → Int32) (A : Nat → Nat → Int32) (J : Nat → Nat → Int64) : zW := f 0 :: f 1 :: f 2 :: f 3 :: f 4 :: f 5 :: f 6 :: f 7 :: f 8 :: f 9 :: f 10 :: f 11 :: f 12 :: f 13 :: f 14 :: f 15 :: f 16 :: f 17 :: f 18 :: f 19 :: f 20 :: f 21 :: f 22 :: f 23 :: f 24 :: f 25 :: f 26 :: f 27 :: f 28 :: f 29 :: f 30 :: f 31 :: f 32 :: f 33 :: f 34 :: f 35 :: f 36 :: f 37 :: f 38 :: f 39 :: f 40 :: f 41 :: f 42 :: f 43 :: f 44 :: f 45 :: f 46 :: f 47 :: f 48 :: f 49 :: f 50 :: f 51 :: f 52 :: f 53 :: f 54 :: f 55 :: f 56 :: f 57 :: f 58 :: f 59 :: f 60 :: f 61 :: f 62 :: f 63 :: f 64 :: f 65 :: f 66 :: f 67 :: f 68 :: f 69 :: f 70 :: f 71 :: f 72 :: f 73 :: f 74 :: f 75 :: zO 6 [.int (o 0), .ref 77, .ref 78, .ref 79, .ref 80, .ref 81, .ref 82, .ref 83, .ref 84, .ref 85, .int (o 10), .ref 86, .ref 87, .ref 88, .ref 89, .ref 90, .int (o 16), .ref 91, .int (o 18), .int (o 19), .int (o 20), .int (o 21), .ref 92, .int (o 23), .ref 93, .ref 94, .ref 95, .ref 96, .int (o 28), .int (o 29), .int (o 30), .ref 97, .ref 98, .int (o 33), .int (o 34)] :: zI 0 450 (A 0) :: zI 0 450 (A 1) :: zI 0 450 (A 2) :: zI 0 450 (A 3) :: zI 0 450 (A 4) :: zI 0 450 (A 5) :: zI 1 10 (A 6) :: zI 1 90 (A 7) :: zI 0 20 (A 8) :: zI 0 8 (A 9) :: zI 0 8 (A 10) :: zI 0 8 (A 11) :: zI 0 8 (A 12) :: zI 0 480 (A 13) :: zI 0 256 (A 14) :: zI 0 256 (A 15) :: zI 0 5600 (A 16) :: zI 0 280 (A 17) :: zJ 8820 (J 0) :: zJ 441 (J 1) :: zI 0 41 (A 20) :: zI 0 41 (A 21) :: zJ 1 (J 2) :: []
def updA (A : Nat → Nat → Int32) (k : Nat) (g : Nat → Int32) : Nat → Nat → Int32 := fun j => if j = k then g else A j
def o00 : Nat → Int32 := fun i => if i = 19 then -1 else 0
def A00 : Nat → Nat → Int32 := fun k => if k = 7 then (upd (upd (upd (upd (upd (upd (upd (upd ((fun _ => 0)) 2 1) 3 1) 4 1) 5 1) 6 1) 7 1) 8 0) 9 1) else fun _ => 0
theorem wM_R (f : Nat → zC) : wM f = wR f o00 A00 (fun _ _ => 0) := rfl
def rdv (g : Nat → Int32) (x : Int32) : Int32 := if 0 ≤ x then g x.toNatClampNeg else Int32.ofInt 0
def mxv (a b : Int32) : Int32 := if a ≤ b then b else a
/-- what sets writes -/
def setsA (A : Nat → Nat → Int32) (n : Nat) (k v x y : Int32) : Nat → Nat → Int32 := updA (updA (updA (updA (updA (updA A 0 (upd (A 0) n k)) 1 (upd (A 1) n v)) 2 (upd (A 2) n x)) 3 (upd (A 3) n y)) 4 (upd (A 4) n (Int32.ofInt 1 + rdv (A 4) x + rdv (A 4) y))) 5 (upd (A 5) n (Int32.ofInt 1 + mxv (rdv (A 5) x) (rdv (A 5) y)))
set_option maxHeartbeats 1000000 in
set_option maxRecDepth 20000 in
theorem mSets (f : Nat → zC) (o : Nat → Int32) (A : Nat → Nat → Int32) (J : Nat → Nat → Int64) {n k v x y : Int32} (hat : vp_in n 450) (hx : 0 ≤ x → vp_in x 450) (hy : 0 ≤ y → vp_in y 450) : zK 0 zX7_sets [.ref 76, .int n, .int k, .int v, .int x, .int y] (wR f o A J) (fun r w' => r = none ∧ w' = wR f o (setsA A n.toNatClampNeg k v x y) J) := by
  refine zK_of qX7_sets (by decide +kernel) rfl ?_
  iterate 4 (refine zv_step (bX7_sets 0) rfl rfl trivial ?_)
  refine zv_step (bX7_sets 0) rfl rfl (hat) ?_
  iterate 4 (refine zv_step (bX7_sets 0) rfl rfl trivial ?_)
  refine zv_step (bX7_sets 0) rfl rfl (hat) ?_
  iterate 4 (refine zv_step (bX7_sets 0) rfl rfl trivial ?_)
  refine zv_step (bX7_sets 0) rfl rfl (hat) ?_
  iterate 4 (refine zv_step (bX7_sets 0) rfl rfl trivial ?_)
  refine zv_step (bX7_sets 0) rfl rfl (hat) ?_
  iterate 6 (refine zv_step (bX7_sets 0) rfl rfl trivial ?_)
  refine zv_ifb (fun hx0 => ?_) (fun hx0 => ?_)
  · iterate 3 (refine zv_step (bX7_sets 0) rfl rfl trivial ?_)
    refine zv_step (bX7_sets 0) rfl rfl (hx hx0) ?_
    iterate 3 (refine zv_step (bX7_sets 0) rfl rfl trivial ?_)
    refine zv_ifb (fun hy0 => ?_) (fun hy0 => ?_)
    · iterate 3 (refine zv_step (bX7_sets 0) rfl rfl trivial ?_)
      refine zv_step (bX7_sets 0) rfl rfl (hy hy0) ?_
      iterate 1 (refine zv_step (bX7_sets 0) rfl rfl trivial ?_)
      refine zv_step (bX7_sets 0) rfl rfl (hat) ?_
      iterate 2 (refine zv_step (bX7_sets 0) rfl rfl trivial ?_)
      refine zv_ift (hx0) ?_
      iterate 3 (refine zv_step (bX7_sets 0) rfl rfl trivial ?_)
      refine zv_step (bX7_sets 0) rfl rfl (hx hx0) ?_
      iterate 3 (refine zv_step (bX7_sets 0) rfl rfl trivial ?_)
      refine zv_ift (hy0) ?_
      iterate 3 (refine zv_step (bX7_sets 0) rfl rfl trivial ?_)
      refine zv_step (bX7_sets 0) rfl rfl (hy hy0) ?_
      iterate 8 (refine zv_step (bX7_sets 0) rfl rfl trivial ?_)
      refine zv_ifb (fun hc => ?_) (fun hc => ?_)
      · iterate 2 (refine zv_step (bX7_sets 0) rfl rfl trivial ?_)
        refine zv_step (bX7_sets 0) rfl rfl (hat) ?_
        exact zv_ret (bX7_sets 0) rfl rfl (Nat.zero_le _) (Nat.zero_le _) ⟨rfl, by unfold setsA mxv rdv; simp only [hx0, hy0, hc, if_true, if_false]; rfl⟩
      · iterate 3 (refine zv_step (bX7_sets 0) rfl rfl trivial ?_)
        refine zv_step (bX7_sets 0) rfl rfl (hat) ?_
        exact zv_ret (bX7_sets 0) rfl rfl (Nat.zero_le _) (Nat.zero_le _) ⟨rfl, by unfold setsA mxv rdv; simp only [hx0, hy0, hc, if_true, if_false]; rfl⟩
    · iterate 3 (refine zv_step (bX7_sets 0) rfl rfl trivial ?_)
      refine zv_step (bX7_sets 0) rfl rfl (hat) ?_
      iterate 2 (refine zv_step (bX7_sets 0) rfl rfl trivial ?_)
      refine zv_ift (hx0) ?_
      iterate 3 (refine zv_step (bX7_sets 0) rfl rfl trivial ?_)
      refine zv_step (bX7_sets 0) rfl rfl (hx hx0) ?_
      iterate 3 (refine zv_step (bX7_sets 0) rfl rfl trivial ?_)
      refine zv_iff (hy0) ?_
      iterate 10 (refine zv_step (bX7_sets 0) rfl rfl trivial ?_)
      refine zv_ifb (fun hc => ?_) (fun hc => ?_)
      · iterate 2 (refine zv_step (bX7_sets 0) rfl rfl trivial ?_)
        refine zv_step (bX7_sets 0) rfl rfl (hat) ?_
        exact zv_ret (bX7_sets 0) rfl rfl (Nat.zero_le _) (Nat.zero_le _) ⟨rfl, by unfold setsA mxv rdv; simp only [hx0, hy0, hc, if_true, if_false]; rfl⟩
      · iterate 3 (refine zv_step (bX7_sets 0) rfl rfl trivial ?_)
        refine zv_step (bX7_sets 0) rfl rfl (hat) ?_
        exact zv_ret (bX7_sets 0) rfl rfl (Nat.zero_le _) (Nat.zero_le _) ⟨rfl, by unfold setsA mxv rdv; simp only [hx0, hy0, hc, if_true, if_false]; rfl⟩
  · iterate 5 (refine zv_step (bX7_sets 0) rfl rfl trivial ?_)
    refine zv_ifb (fun hy0 => ?_) (fun hy0 => ?_)
    · iterate 3 (refine zv_step (bX7_sets 0) rfl rfl trivial ?_)
      refine zv_step (bX7_sets 0) rfl rfl (hy hy0) ?_
      iterate 1 (refine zv_step (bX7_sets 0) rfl rfl trivial ?_)
      refine zv_step (bX7_sets 0) rfl rfl (hat) ?_
      iterate 2 (refine zv_step (bX7_sets 0) rfl rfl trivial ?_)
      refine zv_iff (hx0) ?_
      iterate 5 (refine zv_step (bX7_sets 0) rfl rfl trivial ?_)
      refine zv_ift (hy0) ?_
      iterate 3 (refine zv_step (bX7_sets 0) rfl rfl trivial ?_)
      refine zv_step (bX7_sets 0) rfl rfl (hy hy0) ?_
      iterate 8 (refine zv_step (bX7_sets 0) rfl rfl trivial ?_)
      refine zv_ifb (fun hc => ?_) (fun hc => ?_)
      · iterate 2 (refine zv_step (bX7_sets 0) rfl rfl trivial ?_)
        refine zv_step (bX7_sets 0) rfl rfl (hat) ?_
        exact zv_ret (bX7_sets 0) rfl rfl (Nat.zero_le _) (Nat.zero_le _) ⟨rfl, by unfold setsA mxv rdv; simp only [hx0, hy0, hc, if_true, if_false]; rfl⟩
      · iterate 3 (refine zv_step (bX7_sets 0) rfl rfl trivial ?_)
        refine zv_step (bX7_sets 0) rfl rfl (hat) ?_
        exact zv_ret (bX7_sets 0) rfl rfl (Nat.zero_le _) (Nat.zero_le _) ⟨rfl, by unfold setsA mxv rdv; simp only [hx0, hy0, hc, if_true, if_false]; rfl⟩
    · iterate 3 (refine zv_step (bX7_sets 0) rfl rfl trivial ?_)
      refine zv_step (bX7_sets 0) rfl rfl (hat) ?_
      iterate 2 (refine zv_step (bX7_sets 0) rfl rfl trivial ?_)
      refine zv_iff (hx0) ?_
      iterate 5 (refine zv_step (bX7_sets 0) rfl rfl trivial ?_)
      refine zv_iff (hy0) ?_
      iterate 10 (refine zv_step (bX7_sets 0) rfl rfl trivial ?_)
      refine zv_ifb (fun hc => ?_) (fun hc => ?_)
      · iterate 2 (refine zv_step (bX7_sets 0) rfl rfl trivial ?_)
        refine zv_step (bX7_sets 0) rfl rfl (hat) ?_
        exact zv_ret (bX7_sets 0) rfl rfl (Nat.zero_le _) (Nat.zero_le _) ⟨rfl, by unfold setsA mxv rdv; simp only [hx0, hy0, hc, if_true, if_false]; rfl⟩
      · iterate 3 (refine zv_step (bX7_sets 0) rfl rfl trivial ?_)
        refine zv_step (bX7_sets 0) rfl rfl (hat) ?_
        exact zv_ret (bX7_sets 0) rfl rfl (Nat.zero_le _) (Nat.zero_le _) ⟨rfl, by unfold setsA mxv rdv; simp only [hx0, hy0, hc, if_true, if_false]; rfl⟩
/-- .. with so many words said, and these -/
abbrev wS (f : Nat → zC) (o : Nat → Int32) (A : Nat → Nat → Int32) (J : Nat → Nat → Int64) (q : Nat) (g : Nat → Int32) : zW := wR f (upd o 18 (nI q)) (updA A 14 g) J
/-- a row with words put behind each other from a place on -/
def appA : (Nat → Int32) → Nat → List Int32 → Nat → Int32
  | g, _, [] => g
  | g, q, v :: L => appA (upd g q v) (q + 1) L
theorem appA_app : ∀ (L M : List Int32) (g : Nat → Int32) (q : Nat), appA g q (L ++ M) = appA (appA g q L) (q + L.length) M
  | [], M, g, q => rfl
  | v :: L, M, g, q => by
    show appA (upd g q v) (q + 1) (L ++ M) = appA (appA (upd g q v) (q + 1) L) (q + (L.length + 1)) M
    rw [appA_app L M, show q + 1 + L.length = q + (L.length + 1) by omega]
theorem appA_lo : ∀ (L : List Int32) (g : Nat → Int32) (q i : Nat), i < q → appA g q L i = g i
  | [], g, q, i, h => rfl
  | v :: L, g, q, i, h => by
    show appA (upd g q v) (q + 1) L i = g i
    rw [appA_lo L _ _ i (by omega)]
    exact if_neg (by omega)
theorem appA_at : ∀ (L : List Int32) (g : Nat → Int32) (q i : Nat) {v : Int32}, L[i]? = some v → appA g q L (q + i) = v
  | [], g, q, i, v, h => by cases h
  | u :: L, g, q, 0, v, h => by
    show appA (upd g q u) (q + 1) L (q + 0) = v
    rw [appA_lo L _ _ _ (by omega)]
    cases h
    exact if_pos rfl
  | u :: L, g, q, i + 1, v, h => by
    show appA (upd g q u) (q + 1) L (q + (i + 1)) = v
    rw [show q + (i + 1) = q + 1 + i by omega]
    exact appA_at L _ _ i h
set_option maxHeartbeats 4000000 in
set_option maxRecDepth 20000 in
theorem mSays (f : Nat → zC) (o : Nat → Int32) (A : Nat → Nat → Int32) (J : Nat → Nat → Int64) (q : Nat) (g : Nat → Int32) (hq : q < 256) (v : Int32) : zK 0 zX7_says [.ref 76, .int v] (wS f o A J q g) (fun r w' => r = none ∧ w' = wS f o A J (q + 1) (upd g q v)) := by
  have e1 : (nI q).toNatClampNeg = q := nI_clamp (by omega)
  have e2 : nI q + Int32.ofInt 1 = nI (q + 1) := nI_1 q
  refine zK_of qX7_says (by decide +kernel) rfl ?_
  iterate 5 (refine zv_step (bX7_says 0) rfl rfl trivial ?_)
  refine zv_step (bX7_says 0) rfl rfl (show vp_in (nI q) 256 from vp_in_nI hq (by decide)) ?_
  iterate 6 (refine zv_step (bX7_says 0) rfl rfl trivial ?_)
  refine zv_ret (bX7_says 0) rfl rfl (Nat.zero_le _) (Nat.zero_le _) ⟨rfl, ?_⟩
  show wR f (upd o 18 (nI q + Int32.ofInt 1)) (updA A 14 (upd g (nI q).toNatClampNeg v)) J = _
  rw [e1, e2]
