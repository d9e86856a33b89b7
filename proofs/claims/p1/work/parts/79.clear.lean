def G_clear (p1 p2 : Int32) : Prop := (0 ≤ p1.toInt ∧ p1.toInt ≤ 7) ∧ (1 ≤ p2.toInt ∧ p2.toInt ≤ 4)
def R_clear (p1 p2 a : Int32) : Prop := (¬ G_clear p1 p2 ∧ a = -1) ∨ (G_clear p1 p2 ∧ (p2.toInt < 4 ∨ p1.toInt = 0) ∧ a = 1) ∨ (G_clear p1 p2 ∧ ¬ (p2.toInt < 4 ∨ p1.toInt = 0) ∧ a = 0)
theorem F_clear {p1 p2 a b : Int32} (h1 : R_clear p1 p2 a) (h2 : R_clear p1 p2 b) : a = b := by
  rcases h1 with ⟨c1, rfl⟩ | ⟨c1, d1, rfl⟩ | ⟨c1, d1, rfl⟩ <;> rcases h2 with ⟨c2, rfl⟩ | ⟨c2, d2, rfl⟩ | ⟨c2, d2, rfl⟩ <;> first | rfl | exact absurd c1 c2 | exact absurd c2 c1 | exact absurd d1 d2 | exact absurd d2 d1
theorem sv764 : ∀ i, i < 8 → (upd (fun _ => 0) 0 764) (nI i).toNatClampNeg = if i = 0 then 764 else 0 := by decide +kernel
set_option maxHeartbeats 1000000 in
set_option maxRecDepth 20000 in
theorem kClear764 (p1 p2 : Int32) (hvp : vp_in p1 8) (hv : (upd (fun _ => 0) 0 764) p1.toNatClampNeg = 764) {n0 : Nat} {Q : Option Value → zW → Prop} (hQ : Q (some (.int 1)) w0) : zV (zMo 3 zX6_clear) false n0 0 0 26 (lv_args 0 [.ref 0, .int p1, .int p2]) [] w0 Q := by
  iterate 6 (refine zv_step (bX6_clear 3) rfl rfl trivial ?_)
  show zV (zMo 3 zX6_clear) false _ 0 0 34 [(5, .int 2), (4, .int 0), (3, .int 0), (0, .ref 0), (1, .int p1), (2, .int p2)] [] w0 _
  iterate 3 (refine zv_step (bX6_clear 3) rfl rfl trivial ?_)
  refine zv_iff (by decide) ?_
  iterate 3 (refine zv_step (bX6_clear 3) rfl rfl trivial ?_)
  refine zv_iale (bX6_clear 3) rfl rfl hvp hv ?_
  iterate 1 (refine zv_step (bX6_clear 3) rfl rfl trivial ?_)
  refine zv_S2 (bX6_clear 3) rfl rfl rfl rfl ⟨rfl, rfl, rfl⟩ ⟨by decide, by decide⟩ ⟨Nat.zero_le _, Nat.zero_le _⟩ (hHasBit _ _ _) ?_
  rintro _ _ ⟨rfl, ⟨hh, rfl⟩ | ⟨hh, rfl⟩⟩
  · exact absurd hh (by decide)
  · iterate 1 (refine zv_step (bX6_clear 3) rfl rfl trivial ?_)
    refine zv_ift (by decide) ?_
    iterate 4 (refine zv_step (bX6_clear 3) rfl rfl trivial ?_)
    refine zv_iff (by decide) ?_
    iterate 2 (refine zv_step (bX6_clear 3) rfl rfl trivial ?_)
    refine zv_ift (by decide) ?_
    iterate 4 (refine zv_step (bX6_clear 3) rfl rfl trivial ?_)
    refine zv_iff (by decide) ?_
    iterate 2 (refine zv_step (bX6_clear 3) rfl rfl trivial ?_)
    refine zv_ift (by decide) ?_
    iterate 4 (refine zv_step (bX6_clear 3) rfl rfl trivial ?_)
    show zV (zMo 3 zX6_clear) false _ 0 0 34 [(5, .int 3), (4, .int 0), (3, .int 0), (6, .int 0), (0, .ref 0), (1, .int p1), (2, .int p2)] [] w0 _
    iterate 3 (refine zv_step (bX6_clear 3) rfl rfl trivial ?_)
    refine zv_iff (by decide) ?_
    iterate 3 (refine zv_step (bX6_clear 3) rfl rfl trivial ?_)
    refine zv_iale (bX6_clear 3) rfl rfl hvp hv ?_
    iterate 1 (refine zv_step (bX6_clear 3) rfl rfl trivial ?_)
    refine zv_S2 (bX6_clear 3) rfl rfl rfl rfl ⟨rfl, rfl, rfl⟩ ⟨by decide, by decide⟩ ⟨Nat.zero_le _, Nat.zero_le _⟩ (hHasBit _ _ _) ?_
    rintro _ _ ⟨rfl, ⟨hh, rfl⟩ | ⟨hh, rfl⟩⟩
    · exact absurd hh (by decide)
    · iterate 1 (refine zv_step (bX6_clear 3) rfl rfl trivial ?_)
      refine zv_ift (by decide) ?_
      iterate 4 (refine zv_step (bX6_clear 3) rfl rfl trivial ?_)
      refine zv_iff (by decide) ?_
      iterate 2 (refine zv_step (bX6_clear 3) rfl rfl trivial ?_)
      refine zv_ift (by decide) ?_
      iterate 4 (refine zv_step (bX6_clear 3) rfl rfl trivial ?_)
      refine zv_iff (by decide) ?_
      iterate 2 (refine zv_step (bX6_clear 3) rfl rfl trivial ?_)
      refine zv_ift (by decide) ?_
      iterate 4 (refine zv_step (bX6_clear 3) rfl rfl trivial ?_)
      show zV (zMo 3 zX6_clear) false _ 0 0 34 [(5, .int 4), (4, .int 0), (3, .int 0), (6, .int 0), (0, .ref 0), (1, .int p1), (2, .int p2)] [] w0 _
      iterate 3 (refine zv_step (bX6_clear 3) rfl rfl trivial ?_)
      refine zv_iff (by decide) ?_
      iterate 3 (refine zv_step (bX6_clear 3) rfl rfl trivial ?_)
      refine zv_iale (bX6_clear 3) rfl rfl hvp hv ?_
      iterate 1 (refine zv_step (bX6_clear 3) rfl rfl trivial ?_)
      refine zv_S2 (bX6_clear 3) rfl rfl rfl rfl ⟨rfl, rfl, rfl⟩ ⟨by decide, by decide⟩ ⟨Nat.zero_le _, Nat.zero_le _⟩ (hHasBit _ _ _) ?_
      rintro _ _ ⟨rfl, ⟨hh, rfl⟩ | ⟨hh, rfl⟩⟩
      · exact absurd hh (by decide)
      · iterate 1 (refine zv_step (bX6_clear 3) rfl rfl trivial ?_)
        refine zv_ift (by decide) ?_
        iterate 4 (refine zv_step (bX6_clear 3) rfl rfl trivial ?_)
        refine zv_iff (by decide) ?_
        iterate 2 (refine zv_step (bX6_clear 3) rfl rfl trivial ?_)
        refine zv_ift (by decide) ?_
        iterate 4 (refine zv_step (bX6_clear 3) rfl rfl trivial ?_)
        refine zv_iff (by decide) ?_
        iterate 2 (refine zv_step (bX6_clear 3) rfl rfl trivial ?_)
        refine zv_ift (by decide) ?_
        iterate 4 (refine zv_step (bX6_clear 3) rfl rfl trivial ?_)
        show zV (zMo 3 zX6_clear) false _ 0 0 34 [(5, .int 5), (4, .int 0), (3, .int 0), (6, .int 0), (0, .ref 0), (1, .int p1), (2, .int p2)] [] w0 _
        iterate 3 (refine zv_step (bX6_clear 3) rfl rfl trivial ?_)
        refine zv_iff (by decide) ?_
        iterate 3 (refine zv_step (bX6_clear 3) rfl rfl trivial ?_)
        refine zv_iale (bX6_clear 3) rfl rfl hvp hv ?_
        iterate 1 (refine zv_step (bX6_clear 3) rfl rfl trivial ?_)
        refine zv_S2 (bX6_clear 3) rfl rfl rfl rfl ⟨rfl, rfl, rfl⟩ ⟨by decide, by decide⟩ ⟨Nat.zero_le _, Nat.zero_le _⟩ (hHasBit _ _ _) ?_
        rintro _ _ ⟨rfl, ⟨hh, rfl⟩ | ⟨hh, rfl⟩⟩
        · exact absurd hh (by decide)
        · iterate 1 (refine zv_step (bX6_clear 3) rfl rfl trivial ?_)
          refine zv_ift (by decide) ?_
          iterate 4 (refine zv_step (bX6_clear 3) rfl rfl trivial ?_)
          refine zv_iff (by decide) ?_
          iterate 2 (refine zv_step (bX6_clear 3) rfl rfl trivial ?_)
          refine zv_ift (by decide) ?_
          iterate 4 (refine zv_step (bX6_clear 3) rfl rfl trivial ?_)
          refine zv_iff (by decide) ?_
          iterate 2 (refine zv_step (bX6_clear 3) rfl rfl trivial ?_)
          refine zv_ift (by decide) ?_
          iterate 4 (refine zv_step (bX6_clear 3) rfl rfl trivial ?_)
          show zV (zMo 3 zX6_clear) false _ 0 0 34 [(5, .int 6), (4, .int 0), (3, .int 0), (6, .int 0), (0, .ref 0), (1, .int p1), (2, .int p2)] [] w0 _
          iterate 3 (refine zv_step (bX6_clear 3) rfl rfl trivial ?_)
          refine zv_iff (by decide) ?_
          iterate 3 (refine zv_step (bX6_clear 3) rfl rfl trivial ?_)
          refine zv_iale (bX6_clear 3) rfl rfl hvp hv ?_
          iterate 1 (refine zv_step (bX6_clear 3) rfl rfl trivial ?_)
          refine zv_S2 (bX6_clear 3) rfl rfl rfl rfl ⟨rfl, rfl, rfl⟩ ⟨by decide, by decide⟩ ⟨Nat.zero_le _, Nat.zero_le _⟩ (hHasBit _ _ _) ?_
          rintro _ _ ⟨rfl, ⟨hh, rfl⟩ | ⟨hh, rfl⟩⟩
          · exact absurd hh (by decide)
          · iterate 1 (refine zv_step (bX6_clear 3) rfl rfl trivial ?_)
            refine zv_ift (by decide) ?_
            iterate 4 (refine zv_step (bX6_clear 3) rfl rfl trivial ?_)
            refine zv_iff (by decide) ?_
            iterate 2 (refine zv_step (bX6_clear 3) rfl rfl trivial ?_)
            refine zv_ift (by decide) ?_
            iterate 4 (refine zv_step (bX6_clear 3) rfl rfl trivial ?_)
            refine zv_iff (by decide) ?_
            iterate 2 (refine zv_step (bX6_clear 3) rfl rfl trivial ?_)
            refine zv_ift (by decide) ?_
            iterate 4 (refine zv_step (bX6_clear 3) rfl rfl trivial ?_)
            show zV (zMo 3 zX6_clear) false _ 0 0 34 [(5, .int 7), (4, .int 0), (3, .int 0), (6, .int 0), (0, .ref 0), (1, .int p1), (2, .int p2)] [] w0 _
            iterate 3 (refine zv_step (bX6_clear 3) rfl rfl trivial ?_)
            refine zv_iff (by decide) ?_
            iterate 3 (refine zv_step (bX6_clear 3) rfl rfl trivial ?_)
            refine zv_iale (bX6_clear 3) rfl rfl hvp hv ?_
            iterate 1 (refine zv_step (bX6_clear 3) rfl rfl trivial ?_)
            refine zv_S2 (bX6_clear 3) rfl rfl rfl rfl ⟨rfl, rfl, rfl⟩ ⟨by decide, by decide⟩ ⟨Nat.zero_le _, Nat.zero_le _⟩ (hHasBit _ _ _) ?_
            rintro _ _ ⟨rfl, ⟨hh, rfl⟩ | ⟨hh, rfl⟩⟩
            · exact absurd hh (by decide)
            · iterate 1 (refine zv_step (bX6_clear 3) rfl rfl trivial ?_)
              refine zv_ift (by decide) ?_
              iterate 4 (refine zv_step (bX6_clear 3) rfl rfl trivial ?_)
              refine zv_iff (by decide) ?_
              iterate 2 (refine zv_step (bX6_clear 3) rfl rfl trivial ?_)
              refine zv_ift (by decide) ?_
              iterate 4 (refine zv_step (bX6_clear 3) rfl rfl trivial ?_)
              refine zv_iff (by decide) ?_
              iterate 2 (refine zv_step (bX6_clear 3) rfl rfl trivial ?_)
              refine zv_ift (by decide) ?_
              iterate 4 (refine zv_step (bX6_clear 3) rfl rfl trivial ?_)
              show zV (zMo 3 zX6_clear) false _ 0 0 34 [(5, .int 8), (4, .int 0), (3, .int 0), (6, .int 0), (0, .ref 0), (1, .int p1), (2, .int p2)] [] w0 _
              iterate 3 (refine zv_step (bX6_clear 3) rfl rfl trivial ?_)
              refine zv_iff (by decide) ?_
              iterate 3 (refine zv_step (bX6_clear 3) rfl rfl trivial ?_)
              refine zv_iale (bX6_clear 3) rfl rfl hvp hv ?_
              iterate 1 (refine zv_step (bX6_clear 3) rfl rfl trivial ?_)
              refine zv_S2 (bX6_clear 3) rfl rfl rfl rfl ⟨rfl, rfl, rfl⟩ ⟨by decide, by decide⟩ ⟨Nat.zero_le _, Nat.zero_le _⟩ (hHasBit _ _ _) ?_
              rintro _ _ ⟨rfl, ⟨hh, rfl⟩ | ⟨hh, rfl⟩⟩
              · iterate 1 (refine zv_step (bX6_clear 3) rfl rfl trivial ?_)
                refine zv_iff (by decide) ?_
                iterate 5 (refine zv_step (bX6_clear 3) rfl rfl trivial ?_)
                refine zv_iff (by decide) ?_
                iterate 2 (refine zv_step (bX6_clear 3) rfl rfl trivial ?_)
                refine zv_iff (by decide) ?_
                iterate 1 (refine zv_step (bX6_clear 3) rfl rfl trivial ?_)
                refine zv_S1 (bX6_clear 3) rfl rfl rfl rfl ⟨rfl, rfl, rfl⟩ ⟨by decide, by decide⟩ ⟨Nat.zero_le _, Nat.zero_le _⟩ (hX1_isPair _ _) ?_
                rintro _ _ ⟨rfl, ⟨hh, rfl⟩ | ⟨hh, rfl⟩⟩
                · exact absurd hh (by decide)
                · iterate 1 (refine zv_step (bX6_clear 3) rfl rfl trivial ?_)
                  refine zv_ift (by decide) ?_
                  iterate 4 (refine zv_step (bX6_clear 3) rfl rfl trivial ?_)
                  refine zv_iff (by decide) ?_
                  iterate 2 (refine zv_step (bX6_clear 3) rfl rfl trivial ?_)
                  refine zv_iff (by decide) ?_
                  iterate 1 (refine zv_step (bX6_clear 3) rfl rfl trivial ?_)
                  refine zv_S1 (bX6_clear 3) rfl rfl rfl rfl ⟨rfl, rfl, rfl⟩ ⟨by decide, by decide⟩ ⟨Nat.zero_le _, Nat.zero_le _⟩ (hX1_isPrefix _ _) ?_
                  rintro _ _ ⟨rfl, ⟨hh, rfl⟩ | ⟨hh, rfl⟩⟩
                  · exact absurd hh (by decide)
                  · iterate 1 (refine zv_step (bX6_clear 3) rfl rfl trivial ?_)
                    refine zv_ift (by decide) ?_
                    iterate 4 (refine zv_step (bX6_clear 3) rfl rfl trivial ?_)
                    show zV (zMo 3 zX6_clear) false _ 0 0 34 [(5, .int 9), (4, .int 0), (3, .int 0), (6, .int 1), (0, .ref 0), (1, .int p1), (2, .int p2)] [] w0 _
                    iterate 3 (refine zv_step (bX6_clear 3) rfl rfl trivial ?_)
                    refine zv_iff (by decide) ?_
                    iterate 3 (refine zv_step (bX6_clear 3) rfl rfl trivial ?_)
                    refine zv_iale (bX6_clear 3) rfl rfl hvp hv ?_
                    iterate 1 (refine zv_step (bX6_clear 3) rfl rfl trivial ?_)
                    refine zv_S2 (bX6_clear 3) rfl rfl rfl rfl ⟨rfl, rfl, rfl⟩ ⟨by decide, by decide⟩ ⟨Nat.zero_le _, Nat.zero_le _⟩ (hHasBit _ _ _) ?_
                    rintro _ _ ⟨rfl, ⟨hh, rfl⟩ | ⟨hh, rfl⟩⟩
                    · exact absurd hh (by decide)
                    · iterate 1 (refine zv_step (bX6_clear 3) rfl rfl trivial ?_)
                      refine zv_ift (by decide) ?_
                      iterate 4 (refine zv_step (bX6_clear 3) rfl rfl trivial ?_)
                      refine zv_iff (by decide) ?_
                      iterate 2 (refine zv_step (bX6_clear 3) rfl rfl trivial ?_)
                      refine zv_ift (by decide) ?_
                      iterate 4 (refine zv_step (bX6_clear 3) rfl rfl trivial ?_)
                      refine zv_iff (by decide) ?_
                      iterate 2 (refine zv_step (bX6_clear 3) rfl rfl trivial ?_)
                      refine zv_ift (by decide) ?_
                      iterate 4 (refine zv_step (bX6_clear 3) rfl rfl trivial ?_)
                      show zV (zMo 3 zX6_clear) false _ 0 0 34 [(5, .int 10), (4, .int 0), (3, .int 0), (6, .int 0), (0, .ref 0), (1, .int p1), (2, .int p2)] [] w0 _
                      iterate 3 (refine zv_step (bX6_clear 3) rfl rfl trivial ?_)
                      refine zv_ift (by decide) ?_
                      iterate 2 (refine zv_step (bX6_clear 3) rfl rfl trivial ?_)
                      refine zv_ift (by decide) ?_
                      iterate 1 (refine zv_step (bX6_clear 3) rfl rfl trivial ?_)
                      exact zv_iret (bX6_clear 3) rfl (Or.inl rfl) (Nat.zero_le _) (Nat.zero_le _) hQ
              · exact absurd (by decide) hh
set_option maxHeartbeats 1000000 in
set_option maxRecDepth 20000 in
theorem kClear0 (p1 p2 : Int32) (hvp : vp_in p1 8) (hv : (upd (fun _ => 0) 0 764) p1.toNatClampNeg = 0) {n0 : Nat} {Q : Option Value → zW → Prop} (hQ : Q (some (.int 0)) w0) : zV (zMo 3 zX6_clear) false n0 0 0 26 (lv_args 0 [.ref 0, .int p1, .int p2]) [] w0 Q := by
  iterate 6 (refine zv_step (bX6_clear 3) rfl rfl trivial ?_)
  show zV (zMo 3 zX6_clear) false _ 0 0 34 [(5, .int 2), (4, .int 0), (3, .int 0), (0, .ref 0), (1, .int p1), (2, .int p2)] [] w0 _
  iterate 3 (refine zv_step (bX6_clear 3) rfl rfl trivial ?_)
  refine zv_iff (by decide) ?_
  iterate 3 (refine zv_step (bX6_clear 3) rfl rfl trivial ?_)
  refine zv_iale (bX6_clear 3) rfl rfl hvp hv ?_
  iterate 1 (refine zv_step (bX6_clear 3) rfl rfl trivial ?_)
  refine zv_S2 (bX6_clear 3) rfl rfl rfl rfl ⟨rfl, rfl, rfl⟩ ⟨by decide, by decide⟩ ⟨Nat.zero_le _, Nat.zero_le _⟩ (hHasBit _ _ _) ?_
  rintro _ _ ⟨rfl, ⟨hh, rfl⟩ | ⟨hh, rfl⟩⟩
  · iterate 1 (refine zv_step (bX6_clear 3) rfl rfl trivial ?_)
    refine zv_iff (by decide) ?_
    iterate 5 (refine zv_step (bX6_clear 3) rfl rfl trivial ?_)
    refine zv_iff (by decide) ?_
    iterate 2 (refine zv_step (bX6_clear 3) rfl rfl trivial ?_)
    refine zv_iff (by decide) ?_
    iterate 1 (refine zv_step (bX6_clear 3) rfl rfl trivial ?_)
    refine zv_S1 (bX6_clear 3) rfl rfl rfl rfl ⟨rfl, rfl, rfl⟩ ⟨by decide, by decide⟩ ⟨Nat.zero_le _, Nat.zero_le _⟩ (hX1_isPair _ _) ?_
    rintro _ _ ⟨rfl, ⟨hh, rfl⟩ | ⟨hh, rfl⟩⟩
    · iterate 1 (refine zv_step (bX6_clear 3) rfl rfl trivial ?_)
      refine zv_iff (by decide) ?_
      iterate 5 (refine zv_step (bX6_clear 3) rfl rfl trivial ?_)
      refine zv_iff (by decide) ?_
      iterate 2 (refine zv_step (bX6_clear 3) rfl rfl trivial ?_)
      refine zv_iff (by decide) ?_
      iterate 1 (refine zv_step (bX6_clear 3) rfl rfl trivial ?_)
      refine zv_S1 (bX6_clear 3) rfl rfl rfl rfl ⟨rfl, rfl, rfl⟩ ⟨by decide, by decide⟩ ⟨Nat.zero_le _, Nat.zero_le _⟩ (hX1_isPrefix _ _) ?_
      rintro _ _ ⟨rfl, ⟨hh, rfl⟩ | ⟨hh, rfl⟩⟩
      · exact absurd hh (by decide)
      · iterate 1 (refine zv_step (bX6_clear 3) rfl rfl trivial ?_)
        refine zv_ift (by decide) ?_
        iterate 4 (refine zv_step (bX6_clear 3) rfl rfl trivial ?_)
        show zV (zMo 3 zX6_clear) false _ 0 0 34 [(5, .int 3), (4, .int 0), (3, .int 1), (6, .int 1), (0, .ref 0), (1, .int p1), (2, .int p2)] [] w0 _
        iterate 3 (refine zv_step (bX6_clear 3) rfl rfl trivial ?_)
        refine zv_iff (by decide) ?_
        iterate 3 (refine zv_step (bX6_clear 3) rfl rfl trivial ?_)
        refine zv_iale (bX6_clear 3) rfl rfl hvp hv ?_
        iterate 1 (refine zv_step (bX6_clear 3) rfl rfl trivial ?_)
        refine zv_S2 (bX6_clear 3) rfl rfl rfl rfl ⟨rfl, rfl, rfl⟩ ⟨by decide, by decide⟩ ⟨Nat.zero_le _, Nat.zero_le _⟩ (hHasBit _ _ _) ?_
        rintro _ _ ⟨rfl, ⟨hh, rfl⟩ | ⟨hh, rfl⟩⟩
        · iterate 1 (refine zv_step (bX6_clear 3) rfl rfl trivial ?_)
          refine zv_iff (by decide) ?_
          iterate 5 (refine zv_step (bX6_clear 3) rfl rfl trivial ?_)
          refine zv_ift (by decide) ?_
          iterate 5 (refine zv_step (bX6_clear 3) rfl rfl trivial ?_)
          refine zv_iff (by decide) ?_
          iterate 2 (refine zv_step (bX6_clear 3) rfl rfl trivial ?_)
          refine zv_iff (by decide) ?_
          iterate 1 (refine zv_step (bX6_clear 3) rfl rfl trivial ?_)
          refine zv_S1 (bX6_clear 3) rfl rfl rfl rfl ⟨rfl, rfl, rfl⟩ ⟨by decide, by decide⟩ ⟨Nat.zero_le _, Nat.zero_le _⟩ (hX1_isPrefix _ _) ?_
          rintro _ _ ⟨rfl, ⟨hh, rfl⟩ | ⟨hh, rfl⟩⟩
          · exact absurd hh (by decide)
          · iterate 1 (refine zv_step (bX6_clear 3) rfl rfl trivial ?_)
            refine zv_ift (by decide) ?_
            iterate 4 (refine zv_step (bX6_clear 3) rfl rfl trivial ?_)
            show zV (zMo 3 zX6_clear) false _ 0 0 34 [(5, .int 4), (4, .int 0), (3, .int 1), (6, .int 1), (0, .ref 0), (1, .int p1), (2, .int p2)] [] w0 _
            iterate 3 (refine zv_step (bX6_clear 3) rfl rfl trivial ?_)
            refine zv_iff (by decide) ?_
            iterate 3 (refine zv_step (bX6_clear 3) rfl rfl trivial ?_)
            refine zv_iale (bX6_clear 3) rfl rfl hvp hv ?_
            iterate 1 (refine zv_step (bX6_clear 3) rfl rfl trivial ?_)
            refine zv_S2 (bX6_clear 3) rfl rfl rfl rfl ⟨rfl, rfl, rfl⟩ ⟨by decide, by decide⟩ ⟨Nat.zero_le _, Nat.zero_le _⟩ (hHasBit _ _ _) ?_
            rintro _ _ ⟨rfl, ⟨hh, rfl⟩ | ⟨hh, rfl⟩⟩
            · iterate 1 (refine zv_step (bX6_clear 3) rfl rfl trivial ?_)
              refine zv_iff (by decide) ?_
              iterate 5 (refine zv_step (bX6_clear 3) rfl rfl trivial ?_)
              refine zv_ift (by decide) ?_
              iterate 5 (refine zv_step (bX6_clear 3) rfl rfl trivial ?_)
              refine zv_iff (by decide) ?_
              iterate 2 (refine zv_step (bX6_clear 3) rfl rfl trivial ?_)
              refine zv_iff (by decide) ?_
              iterate 1 (refine zv_step (bX6_clear 3) rfl rfl trivial ?_)
              refine zv_S1 (bX6_clear 3) rfl rfl rfl rfl ⟨rfl, rfl, rfl⟩ ⟨by decide, by decide⟩ ⟨Nat.zero_le _, Nat.zero_le _⟩ (hX1_isPrefix _ _) ?_
              rintro _ _ ⟨rfl, ⟨hh, rfl⟩ | ⟨hh, rfl⟩⟩
              · exact absurd hh (by decide)
              · iterate 1 (refine zv_step (bX6_clear 3) rfl rfl trivial ?_)
                refine zv_ift (by decide) ?_
                iterate 4 (refine zv_step (bX6_clear 3) rfl rfl trivial ?_)
                show zV (zMo 3 zX6_clear) false _ 0 0 34 [(5, .int 5), (4, .int 0), (3, .int 1), (6, .int 1), (0, .ref 0), (1, .int p1), (2, .int p2)] [] w0 _
                iterate 3 (refine zv_step (bX6_clear 3) rfl rfl trivial ?_)
                refine zv_iff (by decide) ?_
                iterate 3 (refine zv_step (bX6_clear 3) rfl rfl trivial ?_)
                refine zv_iale (bX6_clear 3) rfl rfl hvp hv ?_
                iterate 1 (refine zv_step (bX6_clear 3) rfl rfl trivial ?_)
                refine zv_S2 (bX6_clear 3) rfl rfl rfl rfl ⟨rfl, rfl, rfl⟩ ⟨by decide, by decide⟩ ⟨Nat.zero_le _, Nat.zero_le _⟩ (hHasBit _ _ _) ?_
                rintro _ _ ⟨rfl, ⟨hh, rfl⟩ | ⟨hh, rfl⟩⟩
                · iterate 1 (refine zv_step (bX6_clear 3) rfl rfl trivial ?_)
                  refine zv_iff (by decide) ?_
                  iterate 5 (refine zv_step (bX6_clear 3) rfl rfl trivial ?_)
                  refine zv_ift (by decide) ?_
                  iterate 5 (refine zv_step (bX6_clear 3) rfl rfl trivial ?_)
                  refine zv_iff (by decide) ?_
                  iterate 2 (refine zv_step (bX6_clear 3) rfl rfl trivial ?_)
                  refine zv_iff (by decide) ?_
                  iterate 1 (refine zv_step (bX6_clear 3) rfl rfl trivial ?_)
                  refine zv_S1 (bX6_clear 3) rfl rfl rfl rfl ⟨rfl, rfl, rfl⟩ ⟨by decide, by decide⟩ ⟨Nat.zero_le _, Nat.zero_le _⟩ (hX1_isPrefix _ _) ?_
                  rintro _ _ ⟨rfl, ⟨hh, rfl⟩ | ⟨hh, rfl⟩⟩
                  · exact absurd hh (by decide)
                  · iterate 1 (refine zv_step (bX6_clear 3) rfl rfl trivial ?_)
                    refine zv_ift (by decide) ?_
                    iterate 4 (refine zv_step (bX6_clear 3) rfl rfl trivial ?_)
                    show zV (zMo 3 zX6_clear) false _ 0 0 34 [(5, .int 6), (4, .int 0), (3, .int 1), (6, .int 1), (0, .ref 0), (1, .int p1), (2, .int p2)] [] w0 _
                    iterate 3 (refine zv_step (bX6_clear 3) rfl rfl trivial ?_)
                    refine zv_iff (by decide) ?_
                    iterate 3 (refine zv_step (bX6_clear 3) rfl rfl trivial ?_)
                    refine zv_iale (bX6_clear 3) rfl rfl hvp hv ?_
                    iterate 1 (refine zv_step (bX6_clear 3) rfl rfl trivial ?_)
                    refine zv_S2 (bX6_clear 3) rfl rfl rfl rfl ⟨rfl, rfl, rfl⟩ ⟨by decide, by decide⟩ ⟨Nat.zero_le _, Nat.zero_le _⟩ (hHasBit _ _ _) ?_
                    rintro _ _ ⟨rfl, ⟨hh, rfl⟩ | ⟨hh, rfl⟩⟩
                    · iterate 1 (refine zv_step (bX6_clear 3) rfl rfl trivial ?_)
                      refine zv_iff (by decide) ?_
                      iterate 5 (refine zv_step (bX6_clear 3) rfl rfl trivial ?_)
                      refine zv_ift (by decide) ?_
                      iterate 5 (refine zv_step (bX6_clear 3) rfl rfl trivial ?_)
                      refine zv_iff (by decide) ?_
                      iterate 2 (refine zv_step (bX6_clear 3) rfl rfl trivial ?_)
                      refine zv_iff (by decide) ?_
                      iterate 1 (refine zv_step (bX6_clear 3) rfl rfl trivial ?_)
                      refine zv_S1 (bX6_clear 3) rfl rfl rfl rfl ⟨rfl, rfl, rfl⟩ ⟨by decide, by decide⟩ ⟨Nat.zero_le _, Nat.zero_le _⟩ (hX1_isPrefix _ _) ?_
                      rintro _ _ ⟨rfl, ⟨hh, rfl⟩ | ⟨hh, rfl⟩⟩
                      · exact absurd hh (by decide)
                      · iterate 1 (refine zv_step (bX6_clear 3) rfl rfl trivial ?_)
                        refine zv_ift (by decide) ?_
                        iterate 4 (refine zv_step (bX6_clear 3) rfl rfl trivial ?_)
                        show zV (zMo 3 zX6_clear) false _ 0 0 34 [(5, .int 7), (4, .int 0), (3, .int 1), (6, .int 1), (0, .ref 0), (1, .int p1), (2, .int p2)] [] w0 _
                        iterate 3 (refine zv_step (bX6_clear 3) rfl rfl trivial ?_)
                        refine zv_iff (by decide) ?_
                        iterate 3 (refine zv_step (bX6_clear 3) rfl rfl trivial ?_)
                        refine zv_iale (bX6_clear 3) rfl rfl hvp hv ?_
                        iterate 1 (refine zv_step (bX6_clear 3) rfl rfl trivial ?_)
                        refine zv_S2 (bX6_clear 3) rfl rfl rfl rfl ⟨rfl, rfl, rfl⟩ ⟨by decide, by decide⟩ ⟨Nat.zero_le _, Nat.zero_le _⟩ (hHasBit _ _ _) ?_
                        rintro _ _ ⟨rfl, ⟨hh, rfl⟩ | ⟨hh, rfl⟩⟩
                        · iterate 1 (refine zv_step (bX6_clear 3) rfl rfl trivial ?_)
                          refine zv_iff (by decide) ?_
                          iterate 5 (refine zv_step (bX6_clear 3) rfl rfl trivial ?_)
                          refine zv_ift (by decide) ?_
                          iterate 5 (refine zv_step (bX6_clear 3) rfl rfl trivial ?_)
                          refine zv_iff (by decide) ?_
                          iterate 2 (refine zv_step (bX6_clear 3) rfl rfl trivial ?_)
                          refine zv_iff (by decide) ?_
                          iterate 1 (refine zv_step (bX6_clear 3) rfl rfl trivial ?_)
                          refine zv_S1 (bX6_clear 3) rfl rfl rfl rfl ⟨rfl, rfl, rfl⟩ ⟨by decide, by decide⟩ ⟨Nat.zero_le _, Nat.zero_le _⟩ (hX1_isPrefix _ _) ?_
                          rintro _ _ ⟨rfl, ⟨hh, rfl⟩ | ⟨hh, rfl⟩⟩
                          · iterate 1 (refine zv_step (bX6_clear 3) rfl rfl trivial ?_)
                            refine zv_iff (by decide) ?_
                            iterate 5 (refine zv_step (bX6_clear 3) rfl rfl trivial ?_)
                            show zV (zMo 3 zX6_clear) false _ 0 0 34 [(5, .int 8), (4, .int 1), (3, .int 1), (6, .int 1), (0, .ref 0), (1, .int p1), (2, .int p2)] [] w0 _
                            iterate 3 (refine zv_step (bX6_clear 3) rfl rfl trivial ?_)
                            refine zv_iff (by decide) ?_
                            iterate 3 (refine zv_step (bX6_clear 3) rfl rfl trivial ?_)
                            refine zv_iale (bX6_clear 3) rfl rfl hvp hv ?_
                            iterate 1 (refine zv_step (bX6_clear 3) rfl rfl trivial ?_)
                            refine zv_S2 (bX6_clear 3) rfl rfl rfl rfl ⟨rfl, rfl, rfl⟩ ⟨by decide, by decide⟩ ⟨Nat.zero_le _, Nat.zero_le _⟩ (hHasBit _ _ _) ?_
                            rintro _ _ ⟨rfl, ⟨hh, rfl⟩ | ⟨hh, rfl⟩⟩
                            · iterate 1 (refine zv_step (bX6_clear 3) rfl rfl trivial ?_)
                              refine zv_iff (by decide) ?_
                              iterate 5 (refine zv_step (bX6_clear 3) rfl rfl trivial ?_)
                              refine zv_ift (by decide) ?_
                              iterate 5 (refine zv_step (bX6_clear 3) rfl rfl trivial ?_)
                              refine zv_ift (by decide) ?_
                              iterate 5 (refine zv_step (bX6_clear 3) rfl rfl trivial ?_)
                              show zV (zMo 3 zX6_clear) false _ 0 0 34 [(5, .int 9), (4, .int 1), (3, .int 1), (6, .int 1), (0, .ref 0), (1, .int p1), (2, .int p2)] [] w0 _
                              iterate 3 (refine zv_step (bX6_clear 3) rfl rfl trivial ?_)
                              refine zv_iff (by decide) ?_
                              iterate 3 (refine zv_step (bX6_clear 3) rfl rfl trivial ?_)
                              refine zv_iale (bX6_clear 3) rfl rfl hvp hv ?_
                              iterate 1 (refine zv_step (bX6_clear 3) rfl rfl trivial ?_)
                              refine zv_S2 (bX6_clear 3) rfl rfl rfl rfl ⟨rfl, rfl, rfl⟩ ⟨by decide, by decide⟩ ⟨Nat.zero_le _, Nat.zero_le _⟩ (hHasBit _ _ _) ?_
                              rintro _ _ ⟨rfl, ⟨hh, rfl⟩ | ⟨hh, rfl⟩⟩
                              · iterate 1 (refine zv_step (bX6_clear 3) rfl rfl trivial ?_)
                                refine zv_iff (by decide) ?_
                                iterate 5 (refine zv_step (bX6_clear 3) rfl rfl trivial ?_)
                                refine zv_ift (by decide) ?_
                                iterate 5 (refine zv_step (bX6_clear 3) rfl rfl trivial ?_)
                                refine zv_ift (by decide) ?_
                                iterate 5 (refine zv_step (bX6_clear 3) rfl rfl trivial ?_)
                                show zV (zMo 3 zX6_clear) false _ 0 0 34 [(5, .int 10), (4, .int 1), (3, .int 1), (6, .int 1), (0, .ref 0), (1, .int p1), (2, .int p2)] [] w0 _
                                iterate 3 (refine zv_step (bX6_clear 3) rfl rfl trivial ?_)
                                refine zv_ift (by decide) ?_
                                iterate 2 (refine zv_step (bX6_clear 3) rfl rfl trivial ?_)
                                refine zv_iff (by decide) ?_
                                iterate 2 (refine zv_step (bX6_clear 3) rfl rfl trivial ?_)
                                refine zv_iff (by decide) ?_
                                iterate 2 (refine zv_step (bX6_clear 3) rfl rfl trivial ?_)
                                exact zv_iret (bX6_clear 3) rfl (Or.inl rfl) (Nat.zero_le _) (Nat.zero_le _) hQ
                              · exact absurd (by decide) hh
                            · exact absurd (by decide) hh
                          · exact absurd (by decide) hh
                        · exact absurd (by decide) hh
                    · exact absurd (by decide) hh
                · exact absurd (by decide) hh
            · exact absurd (by decide) hh
        · exact absurd (by decide) hh
    · exact absurd (by decide) hh
  · exact absurd (by decide) hh
set_option maxHeartbeats 4000000 in
set_option maxRecDepth 20000 in
theorem cX_clear (p1 p2 : Int32) : zK 3 zX6_clear [.ref 0, .int p1, .int p2] w0 (fun r w' => (∃ a, r = some (.int a) ∧ R_clear p1 p2 a) ∧ ∀ j, 76 ≤ j → w'[j]? = w0[j]?) := by
  refine zK_of qX6_clear (by decide +kernel) rfl ?_
  iterate 1 (refine zv_step (bX6_clear 3) rfl rfl trivial ?_)
  refine zv_S1 (bX6_clear 3) rfl rfl rfl rfl ⟨rfl, rfl, rfl⟩ ⟨by decide, by decide⟩ ⟨Nat.zero_le _, Nat.zero_le _⟩ (hX6_isStyle _ _) ?_
  rintro _ _ ⟨rfl, ⟨hh, rfl⟩ | ⟨hh, rfl⟩⟩
  · iterate 1 (refine zv_step (bX6_clear 3) rfl rfl trivial ?_)
    refine zv_iff (by decide) ?_
    iterate 3 (refine zv_step (bX6_clear 3) rfl rfl trivial ?_)
    refine zv_ifb (fun hc => ?_) (fun hc => ?_)
    · rw [Int32.lt_iff_toInt_lt, i32c 1 (by decide)] at hc
      iterate 1 (refine zv_step (bX6_clear 3) rfl rfl trivial ?_)
      exact zv_iret (bX6_clear 3) rfl (Or.inl rfl) (Nat.zero_le _) (Nat.zero_le _) ⟨⟨_, rfl, Or.inl ⟨fun q => by have := q.2; omega, rfl⟩⟩, fun j hj => rfl⟩
    · rw [Int32.lt_iff_toInt_lt, i32c 1 (by decide)] at hc
      iterate 3 (refine zv_step (bX6_clear 3) rfl rfl trivial ?_)
      refine zv_ifb (fun hd => ?_) (fun hd => ?_)
      · rw [Int32.le_iff_toInt_le, i32c 4 (by decide)] at hd
        iterate 3 (refine zv_step (bX6_clear 3) rfl rfl trivial ?_)
        refine zv_ifb (fun he => ?_) (fun he => ?_)
        · rw [Int32.le_iff_toInt_le, i32c 4 (by decide)] at he
          obtain ⟨i, hi, e1⟩ := nIof7 hh
          have hv := sv764 i hi
          have ei : p1.toInt = i := by rw [e1]; exact nI_toInt (by omega)
          rw [← e1] at hv
          by_cases h0 : i = 0
          · rw [if_pos h0] at hv
            exact kClear764 p1 p2 (vp_in_iff.mpr ⟨hh.1, Int.lt_of_le_of_lt hh.2 (by decide)⟩) hv ⟨⟨_, rfl, Or.inr (Or.inl ⟨⟨hh, by omega⟩, by omega, rfl⟩)⟩, fun j hj => rfl⟩
          · rw [if_neg h0] at hv
            exact kClear0 p1 p2 (vp_in_iff.mpr ⟨hh.1, Int.lt_of_le_of_lt hh.2 (by decide)⟩) hv ⟨⟨_, rfl, Or.inr (Or.inr ⟨⟨hh, by omega⟩, by omega, rfl⟩)⟩, fun j hj => rfl⟩
        · rw [Int32.le_iff_toInt_le, i32c 4 (by decide)] at he
          iterate 1 (refine zv_step (bX6_clear 3) rfl rfl trivial ?_)
          exact zv_iret (bX6_clear 3) rfl (Or.inl rfl) (Nat.zero_le _) (Nat.zero_le _) ⟨⟨_, rfl, Or.inr (Or.inl ⟨⟨hh, by omega⟩, by omega, rfl⟩)⟩, fun j hj => rfl⟩
      · rw [Int32.le_iff_toInt_le, i32c 4 (by decide)] at hd
        iterate 1 (refine zv_step (bX6_clear 3) rfl rfl trivial ?_)
        exact zv_iret (bX6_clear 3) rfl (Or.inl rfl) (Nat.zero_le _) (Nat.zero_le _) ⟨⟨_, rfl, Or.inl ⟨fun q => by have := q.2; omega, rfl⟩⟩, fun j hj => rfl⟩
  · iterate 1 (refine zv_step (bX6_clear 3) rfl rfl trivial ?_)
    refine zv_ift (by decide) ?_
    iterate 1 (refine zv_step (bX6_clear 3) rfl rfl trivial ?_)
    exact zv_iret (bX6_clear 3) rfl (Or.inl rfl) (Nat.zero_le _) (Nat.zero_le _) ⟨⟨_, rfl, Or.inl ⟨fun q => hh q.1, rfl⟩⟩, fun j hj => rfl⟩
