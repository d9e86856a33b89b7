/-- a row of 80 words, with one more at place q, if there is room -/
def ap1 (row : Nat → Int32) (q : Nat) (v : Int32) : Nat → Int32 := if q < 80 then upd row q v else row
def ap8 : (Nat → Int32) → Nat → List Int32 → Nat → Int32
  | g, _, [] => g
  | g, q, v :: L => ap8 (ap1 g q v) (q + 1) L
theorem ap8_app : ∀ (L M : List Int32) (g : Nat → Int32) (q : Nat), ap8 g q (L ++ M) = ap8 (ap8 g q L) (q + L.length) M
  | [], M, g, q => rfl
  | v :: L, M, g, q => by
    show ap8 (ap1 g q v) (q + 1) (L ++ M) = ap8 (ap8 (ap1 g q v) (q + 1) L) (q + (L.length + 1)) M
    rw [ap8_app L M, show q + 1 + L.length = q + (L.length + 1) by omega]
theorem e80 : c8 80 = nI 80 := by decide +kernel
/-- whether a PART of this KIND is KEPT -/
def dbW (k p first : Int32) : Int32 := if 2 ≤ p.toInt ∧ p.toInt ≤ 6 then (if (2 ≤ k.toInt ∧ k.toInt ≤ 6) ∨ (k.toInt = 7 ∨ k.toInt = 9) then Int32.ofInt 1 else Int32.ofInt 0) else (if ¬ first = 0 ∧ (p.toInt = 7 ∨ p.toInt = 9) ∧ (2 ≤ k.toInt ∧ k.toInt ≤ 6) then Int32.ofInt 1 else Int32.ofInt 0)
set_option maxHeartbeats 1000000 in
set_option maxRecDepth 20000 in
theorem sDoubt (w : zW) (k p first : Int32) : zK 1 zX1_isDoubtful [.int k, .int p, .int first] w (fun r w' => w' = w ∧ r = some (.int (dbW k p first))) := by
  refine zK_of qX1_isDoubtful (by decide +kernel) rfl ?_
  iterate 1 (refine zv_step (bX1_isDoubtful 1) rfl rfl trivial ?_)
  refine zv_S1 (bX1_isDoubtful 1) rfl rfl rfl rfl ⟨rfl, rfl, rfl⟩ ⟨by decide, by decide⟩ ⟨Nat.zero_le _, Nat.zero_le _⟩ (hX1_isPair _ _) ?_
  rintro _ _ ⟨rfl, ⟨h1, rfl⟩ | ⟨h1, rfl⟩⟩
  · iterate 1 (refine zv_step (bX1_isDoubtful 1) rfl rfl trivial ?_)
    refine zv_iff (by decide) ?_
    iterate 1 (refine zv_step (bX1_isDoubtful 1) rfl rfl trivial ?_)
    refine zv_S1 (bX1_isDoubtful 1) rfl rfl rfl rfl ⟨rfl, rfl, rfl⟩ ⟨by decide, by decide⟩ ⟨Nat.zero_le _, Nat.zero_le _⟩ (hX1_isPair _ _) ?_
    rintro _ _ ⟨rfl, ⟨h2, rfl⟩ | ⟨h2, rfl⟩⟩
    · iterate 1 (refine zv_step (bX1_isDoubtful 1) rfl rfl trivial ?_)
      refine zv_ift (by decide) ?_
      iterate 2 (refine zv_step (bX1_isDoubtful 1) rfl rfl trivial ?_)
      exact zv_iret (bX1_isDoubtful 1) rfl (Or.inr ⟨rfl, Or.inr rfl⟩) (Nat.zero_le _) (Nat.zero_le _) ⟨rfl, by unfold dbW; rw [if_pos h1, if_pos (Or.inl h2)]⟩
    · iterate 1 (refine zv_step (bX1_isDoubtful 1) rfl rfl trivial ?_)
      refine zv_iff (by decide) ?_
      iterate 1 (refine zv_step (bX1_isDoubtful 1) rfl rfl trivial ?_)
      refine zv_S1 (bX1_isDoubtful 1) rfl rfl rfl rfl ⟨rfl, rfl, rfl⟩ ⟨by decide, by decide⟩ ⟨Nat.zero_le _, Nat.zero_le _⟩ (hX1_isPrefix _ _) ?_
      rintro _ _ ⟨rfl, ⟨h3, rfl⟩ | ⟨h3, rfl⟩⟩
      · iterate 1 (refine zv_step (bX1_isDoubtful 1) rfl rfl trivial ?_)
        refine zv_iff (by decide) ?_
        iterate 2 (refine zv_step (bX1_isDoubtful 1) rfl rfl trivial ?_)
        exact zv_iret (bX1_isDoubtful 1) rfl (Or.inr ⟨rfl, Or.inr rfl⟩) (Nat.zero_le _) (Nat.zero_le _) ⟨rfl, by unfold dbW; rw [if_pos h1, if_pos (Or.inr h3)]⟩
      · iterate 1 (refine zv_step (bX1_isDoubtful 1) rfl rfl trivial ?_)
        refine zv_ift (by decide) ?_
        iterate 1 (refine zv_step (bX1_isDoubtful 1) rfl rfl trivial ?_)
        exact zv_iret (bX1_isDoubtful 1) rfl (Or.inr ⟨rfl, Or.inl rfl⟩) (Nat.zero_le _) (Nat.zero_le _) ⟨rfl, by unfold dbW; rw [if_pos h1, if_neg (fun q => q.elim h2 h3)]⟩
  · iterate 1 (refine zv_step (bX1_isDoubtful 1) rfl rfl trivial ?_)
    refine zv_ift (by decide) ?_
    iterate 2 (refine zv_step (bX1_isDoubtful 1) rfl rfl trivial ?_)
    refine zv_ifb (fun hf => ?_) (fun hf => ?_)
    · iterate 1 (refine zv_step (bX1_isDoubtful 1) rfl rfl trivial ?_)
      exact zv_iret (bX1_isDoubtful 1) rfl (Or.inr ⟨rfl, Or.inl rfl⟩) (Nat.zero_le _) (Nat.zero_le _) ⟨rfl, by unfold dbW; rw [if_neg h1, if_neg (fun q => q.1 hf)]⟩
    · iterate 1 (refine zv_step (bX1_isDoubtful 1) rfl rfl trivial ?_)
      refine zv_S1 (bX1_isDoubtful 1) rfl rfl rfl rfl ⟨rfl, rfl, rfl⟩ ⟨by decide, by decide⟩ ⟨Nat.zero_le _, Nat.zero_le _⟩ (hX1_isPrefix _ _) ?_
      rintro _ _ ⟨rfl, ⟨h2, rfl⟩ | ⟨h2, rfl⟩⟩
      · iterate 1 (refine zv_step (bX1_isDoubtful 1) rfl rfl trivial ?_)
        refine zv_iff (by decide) ?_
        iterate 1 (refine zv_step (bX1_isDoubtful 1) rfl rfl trivial ?_)
        refine zv_S1 (bX1_isDoubtful 1) rfl rfl rfl rfl ⟨rfl, rfl, rfl⟩ ⟨by decide, by decide⟩ ⟨Nat.zero_le _, Nat.zero_le _⟩ (hX1_isPair _ _) ?_
        rintro _ _ ⟨rfl, ⟨h3, rfl⟩ | ⟨h3, rfl⟩⟩
        · iterate 1 (refine zv_step (bX1_isDoubtful 1) rfl rfl trivial ?_)
          refine zv_iff (by decide) ?_
          iterate 2 (refine zv_step (bX1_isDoubtful 1) rfl rfl trivial ?_)
          exact zv_iret (bX1_isDoubtful 1) rfl (Or.inr ⟨rfl, Or.inr rfl⟩) (Nat.zero_le _) (Nat.zero_le _) ⟨rfl, by unfold dbW; rw [if_neg h1, if_pos ⟨hf, h2, h3⟩]⟩
        · iterate 1 (refine zv_step (bX1_isDoubtful 1) rfl rfl trivial ?_)
          refine zv_ift (by decide) ?_
          iterate 1 (refine zv_step (bX1_isDoubtful 1) rfl rfl trivial ?_)
          exact zv_iret (bX1_isDoubtful 1) rfl (Or.inr ⟨rfl, Or.inl rfl⟩) (Nat.zero_le _) (Nat.zero_le _) ⟨rfl, by unfold dbW; rw [if_neg h1, if_neg (fun q => h3 q.2.2)]⟩
      · iterate 1 (refine zv_step (bX1_isDoubtful 1) rfl rfl trivial ?_)
        refine zv_ift (by decide) ?_
        iterate 1 (refine zv_step (bX1_isDoubtful 1) rfl rfl trivial ?_)
        exact zv_iret (bX1_isDoubtful 1) rfl (Or.inr ⟨rfl, Or.inl rfl⟩) (Nat.zero_le _) (Nat.zero_le _) ⟨rfl, by unfold dbW; rw [if_neg h1, if_neg (fun q => h2 q.2.1)]⟩
/-- a NUMBER's digits as words -/
def dgW (v : Int32) : List Int32 := if v < (Int16.ofInt 1000).toInt32 then (if v < c8 100 then (if v < c8 10 then [c8 10 + (v / Int32.ofInt 1 - v / Int32.ofInt 1 / c8 10 * c8 10)] else [c8 10 + (v / c8 10 - v / c8 10 / c8 10 * c8 10), c8 10 + (v / (c8 10 / c8 10) - v / (c8 10 / c8 10) / c8 10 * c8 10)]) else [c8 10 + (v / c8 100 - v / c8 100 / c8 10 * c8 10), c8 10 + (v / (c8 100 / c8 10) - v / (c8 100 / c8 10) / c8 10 * c8 10), c8 10 + (v / ((c8 100 / c8 10) / c8 10) - v / ((c8 100 / c8 10) / c8 10) / c8 10 * c8 10)]) else [c8 10 + (v / (Int16.ofInt 1000).toInt32 - v / (Int16.ofInt 1000).toInt32 / c8 10 * c8 10), c8 10 + (v / ((Int16.ofInt 1000).toInt32 / c8 10) - v / ((Int16.ofInt 1000).toInt32 / c8 10) / c8 10 * c8 10), c8 10 + (v / (((Int16.ofInt 1000).toInt32 / c8 10) / c8 10) - v / (((Int16.ofInt 1000).toInt32 / c8 10) / c8 10) / c8 10 * c8 10), c8 10 + (v / ((((Int16.ofInt 1000).toInt32 / c8 10) / c8 10) / c8 10) - v / ((((Int16.ofInt 1000).toInt32 / c8 10) / c8 10) / c8 10) / c8 10 * c8 10)]
theorem dgW_len (v : Int32) : 1 ≤ (dgW v).length ∧ (dgW v).length ≤ 4 := by
  unfold dgW
  split
  · split
    · split
      · exact ⟨Nat.le_of_ble_eq_true rfl, Nat.le_of_ble_eq_true rfl⟩
      · exact ⟨Nat.le_of_ble_eq_true rfl, Nat.le_of_ble_eq_true rfl⟩
    · exact ⟨Nat.le_of_ble_eq_true rfl, Nat.le_of_ble_eq_true rfl⟩
  · exact ⟨Nat.le_of_ble_eq_true rfl, Nat.le_of_ble_eq_true rfl⟩
