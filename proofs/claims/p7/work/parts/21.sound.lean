section ZS
variable {M : zM} {al : Bool} {n0 kc ks pc nxt a b : Nat} {c0 : Int} {l l' : zL} {st st' : List Value} {w w' : zW} {Q : Option Value → zW → Prop} {P : Prop} {pc' : Nat} {ins : Instr}
theorem zldI_inv {v : Option Value} (h : zldI v nxt l st w = some (P, pc', l', st', w')) : ∃ x, v = some (.int x) ∧ True = P ∧ nxt = pc' ∧ l = l' ∧ .int x :: st = st' ∧ w = w' := by
  unfold zldI at h; split at h
  · rename_i x; cases h; exact ⟨x, rfl, rfl, rfl, rfl, rfl, rfl⟩
  · cases h
theorem zldJ_inv {v : Option Value} (h : zldJ v nxt l st w = some (P, pc', l', st', w')) : ∃ x, v = some (.long x) ∧ True = P ∧ nxt = pc' ∧ l = l' ∧ .long x :: st = st' ∧ w = w' := by
  unfold zldJ at h; split at h
  · rename_i x; cases h; exact ⟨x, rfl, rfl, rfl, rfl, rfl, rfl⟩
  · cases h
theorem zldA_inv {v : Option Value} (h : zldA v nxt l st w = some (P, pc', l', st', w')) : ∃ x, v = some (.ref x) ∧ True = P ∧ nxt = pc' ∧ l = l' ∧ .ref x :: st = st' ∧ w = w' := by
  unfold zldA at h; split at h
  · rename_i x; cases h; exact ⟨x, rfl, rfl, rfl, rfl, rfl, rfl⟩
  · cases h
theorem zstI_inv {i : Nat} (h : zstI i nxt l st w = some (P, pc', l', st', w')) : ∃ x, st = .int x :: st' ∧ True = P ∧ nxt = pc' ∧ zset1 l i (.int x) = l' ∧ w = w' := by
  unfold zstI at h; split at h
  · rename_i x r; cases h; exact ⟨x, rfl, rfl, rfl, rfl, rfl⟩
  · cases h
theorem zstA_inv {i : Nat} (h : zstA i nxt l st w = some (P, pc', l', st', w')) : ∃ x, st = .ref x :: st' ∧ True = P ∧ nxt = pc' ∧ zset1 l i (.ref x) = l' ∧ w = w' := by
  unfold zstA at h; split at h
  · rename_i x r; cases h; exact ⟨x, rfl, rfl, rfl, rfl, rfl⟩
  · cases h
theorem zstJ_inv {i : Nat} (h : zstJ i nxt l st w = some (P, pc', l', st', w')) : ∃ x, st = .long x :: st' ∧ True = P ∧ nxt = pc' ∧ zset2 l i (.long x) = l' ∧ w = w' := by
  unfold zstJ at h; split at h
  · rename_i x r; cases h; exact ⟨x, rfl, rfl, rfl, rfl, rfl⟩
  · cases h
theorem zbI_inv {Pf : Int32 → Int32 → Prop} {f : Int32 → Int32 → Int32} (h : zbI Pf f nxt l st w = some (P, pc', l', st', w')) : ∃ x y r, st = .int y :: .int x :: r ∧ Pf x y = P ∧ nxt = pc' ∧ l = l' ∧ .int (f x y) :: r = st' ∧ w = w' := by
  unfold zbI at h; split at h
  · rename_i y x r; cases h; exact ⟨x, y, r, rfl, rfl, rfl, rfl, rfl, rfl⟩
  · cases h
theorem zbJ_inv {Pf : Int64 → Int64 → Prop} {f : Int64 → Int64 → Int64} (h : zbJ Pf f nxt l st w = some (P, pc', l', st', w')) : ∃ x y r, st = .long y :: .long x :: r ∧ Pf x y = P ∧ nxt = pc' ∧ l = l' ∧ .long (f x y) :: r = st' ∧ w = w' := by
  unfold zbJ at h; split at h
  · rename_i y x r; cases h; exact ⟨x, y, r, rfl, rfl, rfl, rfl, rfl, rfl⟩
  · cases h
theorem zbr1_inv {f : Int32 → Nat} (h : zbr1 f l st w = some (P, pc', l', st', w')) : ∃ x, st = .int x :: st' ∧ True = P ∧ f x = pc' ∧ l = l' ∧ w = w' := by
  unfold zbr1 at h; split at h
  · rename_i x r; cases h; exact ⟨x, rfl, rfl, rfl, rfl, rfl⟩
  · cases h
theorem zbr2_inv {f : Int32 → Int32 → Nat} (h : zbr2 f l st w = some (P, pc', l', st', w')) : ∃ x y, st = .int y :: .int x :: st' ∧ True = P ∧ f x y = pc' ∧ l = l' ∧ w = w' := by
  unfold zbr2 at h; split at h
  · rename_i y x r; cases h; exact ⟨x, y, rfl, rfl, rfl, rfl, rfl⟩
  · cases h
set_option maxHeartbeats 4000000 in
/-- one step, sound -/
theorem zv_st (hd : decode M.2.1 pc = .ok (ins, nxt - pc)) (hn : zlenok ins pc nxt = true) {F : zFT} (hF : zFTok M.1 F) (hg : zgd F M.2.2.1 M.2.2.2.1 pc ins a b c0 = true)
    (h : zstep ins pc nxt a b c0 l st w = some (P, pc', l', st', w')) (hp : P) (k : zV M al n0 kc ks pc' l' st' w' Q) : zV M al n0 kc ks pc l st w Q := by
  intro p l0 e s m args below meth c dC dI dA ad0 A Z h9t hctx hfin ad H locs ls hrel hl
  have kk := k p l0 e s m args below meth c dC dI dA ad0 A Z h9t hctx hfin ad
  obtain ⟨hx, hb, hml, hown, hts, ⟨hK, -⟩, hA, hin⟩ := hctx
  cases ins with
  | iload_n i =>
    have hnx : nxt = pc + 1 := of_decide_eq_true hn
    subst hnx
    rw [Nat.add_sub_cancel_left] at hd
    obtain ⟨x, hv, rfl, rfl, rfl, rfl, rfl⟩ := zldI_inv h
    exact lv_iload_n hx hb hd rfl (zl_at hl hv) (kk H locs ls hrel hl)
  | iload i =>
    have hnx : nxt = pc + 2 := of_decide_eq_true hn
    subst hnx
    rw [Nat.add_sub_cancel_left] at hd
    obtain ⟨x, hv, rfl, rfl, rfl, rfl, rfl⟩ := zldI_inv h
    exact lv_iload hx hb hd (zl_at hl hv) (kk H locs ls hrel hl)
  | lload_n i =>
    have hnx : nxt = pc + 1 := of_decide_eq_true hn
    subst hnx
    rw [Nat.add_sub_cancel_left] at hd
    obtain ⟨x, hv, rfl, rfl, rfl, rfl, rfl⟩ := zldJ_inv h
    exact lv_lload_n hx hb hd rfl (zl_at hl hv) (kk H locs ls hrel hl)
  | lload i =>
    have hnx : nxt = pc + 2 := of_decide_eq_true hn
    subst hnx
    rw [Nat.add_sub_cancel_left] at hd
    obtain ⟨x, hv, rfl, rfl, rfl, rfl, rfl⟩ := zldJ_inv h
    exact lv_lload hx hb hd (zl_at hl hv) (kk H locs ls hrel hl)
  | aload_n i =>
    have hnx : nxt = pc + 1 := of_decide_eq_true hn
    subst hnx
    rw [Nat.add_sub_cancel_left] at hd
    obtain ⟨x, hv, rfl, rfl, rfl, rfl, rfl⟩ := zldA_inv h
    exact lv_aload_n hx hb hd rfl (zl_at hl hv) (kk H locs ls hrel hl)
  | aload i =>
    have hnx : nxt = pc + 2 := of_decide_eq_true hn
    subst hnx
    rw [Nat.add_sub_cancel_left] at hd
    obtain ⟨x, hv, rfl, rfl, rfl, rfl, rfl⟩ := zldA_inv h
    exact lv_aload hx hb hd (zl_at hl hv) (kk H locs ls hrel hl)
  | istore_n i =>
    have hnx : nxt = pc + 1 := of_decide_eq_true hn
    subst hnx
    rw [Nat.add_sub_cancel_left] at hd
    obtain ⟨x, rfl, rfl, rfl, rfl, rfl⟩ := zstI_inv h
    exact lv_istore_n hx hb hd rfl hl (of_decide_eq_true hg) (zl_set1 ad l _ (.int x)) (fun ls' hl' => kk H locs ls' hrel hl')
  | istore i =>
    have hnx : nxt = pc + 2 := of_decide_eq_true hn
    subst hnx
    rw [Nat.add_sub_cancel_left] at hd
    obtain ⟨x, rfl, rfl, rfl, rfl, rfl⟩ := zstI_inv h
    exact lv_istore hx hb hd hl (of_decide_eq_true hg) (zl_set1 ad l _ (.int x)) (fun ls' hl' => kk H locs ls' hrel hl')
  | astore_n i =>
    have hnx : nxt = pc + 1 := of_decide_eq_true hn
    subst hnx
    rw [Nat.add_sub_cancel_left] at hd
    obtain ⟨x, rfl, rfl, rfl, rfl, rfl⟩ := zstA_inv h
    exact lv_astore_n hx hb hd rfl hl (of_decide_eq_true hg) (zl_set1 ad l _ (.ref x)) (fun ls' hl' => kk H locs ls' hrel hl')
  | astore i =>
    have hnx : nxt = pc + 2 := of_decide_eq_true hn
    subst hnx
    rw [Nat.add_sub_cancel_left] at hd
    obtain ⟨x, rfl, rfl, rfl, rfl, rfl⟩ := zstA_inv h
    exact lv_astore hx hb hd hl (of_decide_eq_true hg) (zl_set1 ad l _ (.ref x)) (fun ls' hl' => kk H locs ls' hrel hl')
  | lstore_n i =>
    have hnx : nxt = pc + 1 := of_decide_eq_true hn
    subst hnx
    rw [Nat.add_sub_cancel_left] at hd
    obtain ⟨x, rfl, rfl, rfl, rfl, rfl⟩ := zstJ_inv h
    exact lv_lstore_n hx hb hd rfl hl (of_decide_eq_true hg) (zl_set2 ad l _ (.long x)) (fun ls' hl' => kk H locs ls' hrel hl')
  | lstore i =>
    have hnx : nxt = pc + 2 := of_decide_eq_true hn
    subst hnx
    rw [Nat.add_sub_cancel_left] at hd
    obtain ⟨x, rfl, rfl, rfl, rfl, rfl⟩ := zstJ_inv h
    exact lv_lstore hx hb hd hl (of_decide_eq_true hg) (zl_set2 ad l _ (.long x)) (fun ls' hl' => kk H locs ls' hrel hl')
  | iinc i n =>
    have hnx : nxt = pc + 3 := of_decide_eq_true hn
    subst hnx
    rw [Nat.add_sub_cancel_left] at hd
    simp only [zstep] at h
    split at h
    · rename_i x hv
      cases h
      obtain ⟨j, hj⟩ := List.getElem?_of_mem (List.mem_map.mpr ⟨(i, Value.int x), zget_mem hv, rfl⟩ : ((i, zv ad (.int x)) : Nat × Value) ∈ zl ad l)
      exact lv_iinc hx hb hd hl hj rfl (of_decide_eq_true hg) (zl_set1 ad l i (.int (x + Int32.ofInt n))) (fun ls' hl' => kk H locs ls' hrel hl')
    · cases h
  | iconst n =>
    have hnx : nxt = pc + 1 := of_decide_eq_true hn
    subst hnx
    rw [Nat.add_sub_cancel_left] at hd
    cases h
    exact lv_iconst hx hb hd rfl (kk H locs ls hrel hl)
  | bipush n =>
    have hnx : nxt = pc + 2 := of_decide_eq_true hn
    subst hnx
    rw [Nat.add_sub_cancel_left] at hd
    cases h
    exact lv_bipush hx hb hd rfl (kk H locs ls hrel hl)
  | sipush n =>
    have hnx : nxt = pc + 3 := of_decide_eq_true hn
    subst hnx
    rw [Nat.add_sub_cancel_left] at hd
    cases h
    exact lv_sipush hx hb hd rfl (kk H locs ls hrel hl)
  | lconst n =>
    have hnx : nxt = pc + 1 := of_decide_eq_true hn
    subst hnx
    rw [Nat.add_sub_cancel_left] at hd
    cases h
    exact lv_lconst hx hb hd rfl (kk H locs ls hrel hl)
  | ldc i =>
    have hnx : nxt = pc + 2 := of_decide_eq_true hn
    subst hnx
    rw [Nat.add_sub_cancel_left] at hd
    cases h
    exact lv_ldc hx hb hown (hts (Cond.constant M.1 i (Int32.ofInt c0)) (hF.2.2.1 (i, c0) (by simpa only [zgd, decide_eq_true_eq] using hg))) hd (kk H locs ls hrel hl)
  | ldc_w i =>
    have hnx : nxt = pc + 3 := of_decide_eq_true hn
    subst hnx
    rw [Nat.add_sub_cancel_left] at hd
    cases h
    exact lv_ldcw hx hb hown (hts (Cond.constant M.1 i (Int32.ofInt c0)) (hF.2.2.1 (i, c0) (by simpa only [zgd, decide_eq_true_eq] using hg))) hd (kk H locs ls hrel hl)
  | ldc2_w i =>
    have hnx : nxt = pc + 3 := of_decide_eq_true hn
    subst hnx
    rw [Nat.add_sub_cancel_left] at hd
    cases h
    exact lv_ldc2 hx hb hown (hts (Cond.constantLong M.1 i (Int64.ofInt c0)) (hF.2.2.2.1 (i, c0) (by simpa only [zgd, decide_eq_true_eq] using hg))) hd (kk H locs ls hrel hl)
  | iadd =>
    have hnx : nxt = pc + 1 := of_decide_eq_true hn
    subst hnx
    rw [Nat.add_sub_cancel_left] at hd
    obtain ⟨x, y, r, rfl, rfl, rfl, rfl, rfl, rfl⟩ := zbI_inv h
    exact lv_iadd hx hb hd (kk H locs ls hrel hl)
  | isub =>
    have hnx : nxt = pc + 1 := of_decide_eq_true hn
    subst hnx
    rw [Nat.add_sub_cancel_left] at hd
    obtain ⟨x, y, r, rfl, rfl, rfl, rfl, rfl, rfl⟩ := zbI_inv h
    exact lv_isub hx hb hd (kk H locs ls hrel hl)
  | imul =>
    have hnx : nxt = pc + 1 := of_decide_eq_true hn
    subst hnx
    rw [Nat.add_sub_cancel_left] at hd
    obtain ⟨x, y, r, rfl, rfl, rfl, rfl, rfl, rfl⟩ := zbI_inv h
    exact lv_imul hx hb hd (kk H locs ls hrel hl)
  | iand =>
    have hnx : nxt = pc + 1 := of_decide_eq_true hn
    subst hnx
    rw [Nat.add_sub_cancel_left] at hd
    obtain ⟨x, y, r, rfl, rfl, rfl, rfl, rfl, rfl⟩ := zbI_inv h
    exact lv_iand hx hb hd (kk H locs ls hrel hl)
  | ior =>
    have hnx : nxt = pc + 1 := of_decide_eq_true hn
    subst hnx
    rw [Nat.add_sub_cancel_left] at hd
    obtain ⟨x, y, r, rfl, rfl, rfl, rfl, rfl, rfl⟩ := zbI_inv h
    exact lv_ior hx hb hd (kk H locs ls hrel hl)
  | ixor =>
    have hnx : nxt = pc + 1 := of_decide_eq_true hn
    subst hnx
    rw [Nat.add_sub_cancel_left] at hd
    obtain ⟨x, y, r, rfl, rfl, rfl, rfl, rfl, rfl⟩ := zbI_inv h
    exact lv_ixor hx hb hd (kk H locs ls hrel hl)
  | ishl =>
    have hnx : nxt = pc + 1 := of_decide_eq_true hn
    subst hnx
    rw [Nat.add_sub_cancel_left] at hd
    obtain ⟨x, y, r, rfl, rfl, rfl, rfl, rfl, rfl⟩ := zbI_inv h
    exact lv_ishl hx hb hd (kk H locs ls hrel hl)
  | ishr =>
    have hnx : nxt = pc + 1 := of_decide_eq_true hn
    subst hnx
    rw [Nat.add_sub_cancel_left] at hd
    obtain ⟨x, y, r, rfl, rfl, rfl, rfl, rfl, rfl⟩ := zbI_inv h
    exact lv_ishr hx hb hd (kk H locs ls hrel hl)
  | iushr =>
    have hnx : nxt = pc + 1 := of_decide_eq_true hn
    subst hnx
    rw [Nat.add_sub_cancel_left] at hd
    obtain ⟨x, y, r, rfl, rfl, rfl, rfl, rfl, rfl⟩ := zbI_inv h
    exact lv_iushr hx hb hd rfl (kk H locs ls hrel hl)
  | idiv =>
    have hnx : nxt = pc + 1 := of_decide_eq_true hn
    subst hnx
    rw [Nat.add_sub_cancel_left] at hd
    obtain ⟨x, y, r, rfl, rfl, rfl, rfl, rfl, rfl⟩ := zbI_inv h
    exact lv_idiv hx hb hd hp (kk H locs ls hrel hl)
  | irem =>
    have hnx : nxt = pc + 1 := of_decide_eq_true hn
    subst hnx
    rw [Nat.add_sub_cancel_left] at hd
    obtain ⟨x, y, r, rfl, rfl, rfl, rfl, rfl, rfl⟩ := zbI_inv h
    exact lv_irem hx hb hd hp (kk H locs ls hrel hl)
  | ladd =>
    have hnx : nxt = pc + 1 := of_decide_eq_true hn
    subst hnx
    rw [Nat.add_sub_cancel_left] at hd
    obtain ⟨x, y, r, rfl, rfl, rfl, rfl, rfl, rfl⟩ := zbJ_inv h
    exact lv_ladd hx hb hd (kk H locs ls hrel hl)
  | lsub =>
    have hnx : nxt = pc + 1 := of_decide_eq_true hn
    subst hnx
    rw [Nat.add_sub_cancel_left] at hd
    obtain ⟨x, y, r, rfl, rfl, rfl, rfl, rfl, rfl⟩ := zbJ_inv h
    exact lv_lsub hx hb hd (kk H locs ls hrel hl)
  | lmul =>
    have hnx : nxt = pc + 1 := of_decide_eq_true hn
    subst hnx
    rw [Nat.add_sub_cancel_left] at hd
    obtain ⟨x, y, r, rfl, rfl, rfl, rfl, rfl, rfl⟩ := zbJ_inv h
    exact lv_lmul hx hb hd (kk H locs ls hrel hl)
  | land =>
    have hnx : nxt = pc + 1 := of_decide_eq_true hn
    subst hnx
    rw [Nat.add_sub_cancel_left] at hd
    obtain ⟨x, y, r, rfl, rfl, rfl, rfl, rfl, rfl⟩ := zbJ_inv h
    exact lv_land hx hb hd (kk H locs ls hrel hl)
  | lor =>
    have hnx : nxt = pc + 1 := of_decide_eq_true hn
    subst hnx
    rw [Nat.add_sub_cancel_left] at hd
    obtain ⟨x, y, r, rfl, rfl, rfl, rfl, rfl, rfl⟩ := zbJ_inv h
    exact lv_lor hx hb hd (kk H locs ls hrel hl)
  | ldiv =>
    have hnx : nxt = pc + 1 := of_decide_eq_true hn
    subst hnx
    rw [Nat.add_sub_cancel_left] at hd
    obtain ⟨x, y, r, rfl, rfl, rfl, rfl, rfl, rfl⟩ := zbJ_inv h
    exact lv_ldiv hx hb hd hp (kk H locs ls hrel hl)
  | lrem =>
    have hnx : nxt = pc + 1 := of_decide_eq_true hn
    subst hnx
    rw [Nat.add_sub_cancel_left] at hd
    obtain ⟨x, y, r, rfl, rfl, rfl, rfl, rfl, rfl⟩ := zbJ_inv h
    exact lv_lrem hx hb hd hp (kk H locs ls hrel hl)
  | lshl =>
    have hnx : nxt = pc + 1 := of_decide_eq_true hn
    subst hnx
    rw [Nat.add_sub_cancel_left] at hd
    simp only [zstep] at h
    split at h
    · cases h
      exact lv_lshl hx hb hd rfl (kk H locs ls hrel hl)
    · cases h
  | i2l =>
    have hnx : nxt = pc + 1 := of_decide_eq_true hn
    subst hnx
    rw [Nat.add_sub_cancel_left] at hd
    simp only [zstep] at h
    split at h
    · cases h
      exact lv_i2l hx hb hd rfl (kk H locs ls hrel hl)
    · cases h
  | lcmp =>
    have hnx : nxt = pc + 1 := of_decide_eq_true hn
    subst hnx
    rw [Nat.add_sub_cancel_left] at hd
    simp only [zstep] at h
    split at h
    · cases h
      exact W.lcmp hx hb hd (kk H locs ls hrel hl)
    · cases h
  | dup =>
    have hnx : nxt = pc + 1 := of_decide_eq_true hn
    subst hnx
    rw [Nat.add_sub_cancel_left] at hd
    simp only [zstep] at h
    split at h
    · rename_i v r
      cases hc : Nat.beq v.category 1 with
      | true =>
        rw [hc] at h; cases h
        exact lv_dup hx hb hd ((zv_cat ad v).trans (Nat.eq_of_beq_eq_true hc)) (kk H locs ls hrel hl)
      | false => rw [hc] at h; cases h
    · cases h
  | pop =>
    have hnx : nxt = pc + 1 := of_decide_eq_true hn
    subst hnx
    rw [Nat.add_sub_cancel_left] at hd
    simp only [zstep] at h
    split at h
    · rename_i v r
      cases hc : Nat.beq v.category 1 with
      | true =>
        rw [hc] at h; cases h
        exact lv_pop hx hb hd ((zv_cat ad v).trans (Nat.eq_of_beq_eq_true hc)) (kk H locs ls hrel hl)
      | false => rw [hc] at h; cases h
    · cases h
  | dup2 =>
    have hnx : nxt = pc + 1 := of_decide_eq_true hn
    subst hnx
    rw [Nat.add_sub_cancel_left] at hd
    simp only [zstep] at h
    split at h
    · cases h
      exact lv_dup2_2 (va := .long _) hx hb hd rfl (kk H locs ls hrel hl)
    · cases h
      exact lv_dup2_11 (va := .int _) (vb := .ref _) hx hb hd rfl rfl (kk H locs ls hrel hl)
    · cases h
      exact lv_dup2_11 (va := .int _) (vb := .int _) hx hb hd rfl rfl (kk H locs ls hrel hl)
    · cases h
  | pop2 =>
    have hnx : nxt = pc + 1 := of_decide_eq_true hn
    subst hnx
    rw [Nat.add_sub_cancel_left] at hd
    simp only [zstep] at h
    split at h
    · cases h
      exact lv_pop2_2 (va := .long _) hx hb hd rfl (kk H locs ls hrel hl)
    · cases h
  | ifCond cd off =>
    have hnx : nxt = pc + 3 := of_decide_eq_true hn
    subst hnx
    rw [Nat.add_sub_cancel_left] at hd
    have ht : (pc : Int) + off = (a : Int) := of_decide_eq_true hg
    cases cd with
    | eq =>
      obtain ⟨x, rfl, rfl, rfl, rfl, rfl⟩ := zbr1_inv h
      exact lv_if_eq hx hb hd ht (fun q => by have k2 := kk H locs ls hrel hl; rw [if_pos q] at k2; exact k2) (fun q => by have k2 := kk H locs ls hrel hl; rw [if_neg q] at k2; exact k2)
    | ne =>
      obtain ⟨x, rfl, rfl, rfl, rfl, rfl⟩ := zbr1_inv h
      exact lv_if_ne hx hb hd ht (fun q => by have k2 := kk H locs ls hrel hl; rw [if_pos q] at k2; exact k2) (fun q => by have k2 := kk H locs ls hrel hl; rw [if_neg (fun z => z q)] at k2; exact k2)
    | lt =>
      obtain ⟨x, rfl, rfl, rfl, rfl, rfl⟩ := zbr1_inv h
      exact lv_if_lt hx hb hd ht (fun q => by have k2 := kk H locs ls hrel hl; rw [if_pos q] at k2; exact k2) (fun q => by have k2 := kk H locs ls hrel hl; rw [if_neg q] at k2; exact k2)
    | ge =>
      obtain ⟨x, rfl, rfl, rfl, rfl, rfl⟩ := zbr1_inv h
      exact lv_if_ge hx hb hd ht (fun q => by have k2 := kk H locs ls hrel hl; rw [if_pos q] at k2; exact k2) (fun q => by have k2 := kk H locs ls hrel hl; rw [if_neg q] at k2; exact k2)
    | gt =>
      obtain ⟨x, rfl, rfl, rfl, rfl, rfl⟩ := zbr1_inv h
      exact lv_if_gt hx hb hd ht (fun q => by have k2 := kk H locs ls hrel hl; rw [if_pos q] at k2; exact k2) (fun q => by have k2 := kk H locs ls hrel hl; rw [if_neg q] at k2; exact k2)
    | le =>
      obtain ⟨x, rfl, rfl, rfl, rfl, rfl⟩ := zbr1_inv h
      exact lv_if_le hx hb hd ht (fun q => by have k2 := kk H locs ls hrel hl; rw [if_pos q] at k2; exact k2) (fun q => by have k2 := kk H locs ls hrel hl; rw [if_neg q] at k2; exact k2)
  | if_icmp cd off =>
    have hnx : nxt = pc + 3 := of_decide_eq_true hn
    subst hnx
    rw [Nat.add_sub_cancel_left] at hd
    have ht : (pc : Int) + off = (a : Int) := of_decide_eq_true hg
    cases cd with
    | eq =>
      obtain ⟨x, y, rfl, rfl, rfl, rfl, rfl⟩ := zbr2_inv h
      exact lv_icmp_eq hx hb hd ht (fun q => by have k2 := kk H locs ls hrel hl; rw [if_pos q] at k2; exact k2) (fun q => by have k2 := kk H locs ls hrel hl; rw [if_neg q] at k2; exact k2)
    | ne =>
      obtain ⟨x, y, rfl, rfl, rfl, rfl, rfl⟩ := zbr2_inv h
      exact lv_icmp_ne hx hb hd ht (fun q => by have k2 := kk H locs ls hrel hl; rw [if_pos q] at k2; exact k2) (fun q => by have k2 := kk H locs ls hrel hl; rw [if_neg (fun z => z q)] at k2; exact k2)
    | lt =>
      obtain ⟨x, y, rfl, rfl, rfl, rfl, rfl⟩ := zbr2_inv h
      exact lv_icmp_lt hx hb hd ht (fun q => by have k2 := kk H locs ls hrel hl; rw [if_pos q] at k2; exact k2) (fun q => by have k2 := kk H locs ls hrel hl; rw [if_neg q] at k2; exact k2)
    | ge =>
      obtain ⟨x, y, rfl, rfl, rfl, rfl, rfl⟩ := zbr2_inv h
      exact lv_icmp_ge hx hb hd ht (fun q => by have k2 := kk H locs ls hrel hl; rw [if_pos q] at k2; exact k2) (fun q => by have k2 := kk H locs ls hrel hl; rw [if_neg q] at k2; exact k2)
    | gt =>
      obtain ⟨x, y, rfl, rfl, rfl, rfl, rfl⟩ := zbr2_inv h
      exact lv_icmp_gt hx hb hd ht (fun q => by have k2 := kk H locs ls hrel hl; rw [if_pos q] at k2; exact k2) (fun q => by have k2 := kk H locs ls hrel hl; rw [if_neg q] at k2; exact k2)
    | le =>
      obtain ⟨x, y, rfl, rfl, rfl, rfl, rfl⟩ := zbr2_inv h
      exact lv_icmp_le hx hb hd ht (fun q => by have k2 := kk H locs ls hrel hl; rw [if_pos q] at k2; exact k2) (fun q => by have k2 := kk H locs ls hrel hl; rw [if_neg q] at k2; exact k2)
  | goto off =>
    have hnx : nxt = pc + 3 := of_decide_eq_true hn
    subst hnx
    rw [Nat.add_sub_cancel_left] at hd
    cases h
    exact lv_goto hx hb hd (of_decide_eq_true hg) (kk H locs ls hrel hl)
  | tableswitch dflt lo hi offs =>
    simp only [zstep] at h
    split at h
    · rename_i x r
      cases h
      obtain ⟨⟨p1, p2⟩, p3⟩ := hp
      by_cases hq : x.toInt < lo ∨ hi < x.toInt
      · have k2 := kk H locs ls hrel hl
        rw [if_pos hq] at k2
        exact lv_tableOut hx hb hd hq (Int.toNat_of_nonneg p1).symm k2
      · have k2 := kk H locs ls hrel hl
        rw [if_neg hq] at k2
        have h1 : ¬ x.toInt < lo := fun z => hq (Or.inl z)
        have h2 : ¬ hi < x.toInt := fun z => hq (Or.inr z)
        have h3 : (x.toInt - lo).toNat < offs.size := by omega
        have h4 : offs[(x.toInt - lo).toNat]? = some (offs.getD (x.toInt - lo).toNat 0) := by simp [Array.getD, h3]
        have h5 : 0 ≤ (pc : Int) + offs.getD (x.toInt - lo).toNat 0 := p2 _ (Array.mem_toList_iff.mpr (Array.mem_of_getElem? h4))
        exact lv_tableIn hx hb hd h1 h2 h4 (Int.toNat_of_nonneg h5).symm k2
    · cases h
  | lookupswitch dflt ps =>
    simp only [zstep] at h
    split at h
    · rename_i x r
      cases h
      exact lv_lookup hx hb hd hp.1 rfl (Int.toNat_of_nonneg hp.2).symm (kk H locs ls hrel hl)
    · cases h
  | getfield i =>
    have hnx : nxt = pc + 3 := of_decide_eq_true hn
    subst hnx
    rw [Nat.add_sub_cancel_left] at hd
    simp only [zstep] at h
    split at h
    · rename_i q r
      split at h
      · rename_i ci fs hw
        cases hc : Nat.beq ci a with
        | false => rw [hc] at h; cases h
        | true =>
          rw [hc] at h
          have e0 := Nat.eq_of_beq_eq_true hc
          subst e0
          dsimp only [cond] at h
          split at h
          · rename_i v hv
            cases h
            simp only [zgd, Bool.or_eq_true, decide_eq_true_eq] at hg
            have hg2 : ∃ r, vwCl[ci]? = some r ∧ b < r.2.2 ∧ Cond.fieldLink M.1 i (r.2.1 b).1 (r.2.1 b).2.1 (r.2.1 b).2.2.1 ∈ zG := by
              rcases hg with hg | hg | hg
              · obtain ⟨r, h1, h2, h3, -⟩ := hF.1 _ hg; exact ⟨r, h1, h2, h3⟩
              · obtain ⟨r, h1, h2, h3, -⟩ := hF.1 _ hg; exact ⟨r, h1, h2, h3⟩
              · obtain ⟨r, h1, h2, h3, -⟩ := hF.1 _ hg; exact ⟨r, h1, h2, h3⟩
            obtain ⟨r0, hr0, hg⟩ := hg2
            exact va_get (D := (dC, dI)) (ci := ci) (v := zv ad v) hx hb hts (zin_ok hr0) hown hK hrel.2.2.1 q (zw_at hw) hr0 b hg.1 (hts _ hg.2) (fun _ h9 => h9) (by rw [List.getElem?_map, hv]; rfl) hd (kk H locs ls hrel hl)
          · cases h
      · cases h
    · cases h
  | putfield i =>
    have hnx : nxt = pc + 3 := of_decide_eq_true hn
    subst hnx
    rw [Nat.add_sub_cancel_left] at hd
    simp only [zstep] at h
    split at h
    · rename_i v q r
      split at h
      · rename_i ci fs hw
        cases hc : (Nat.beq ci a && (Nat.blt b fs.length && zfit (zty a b) v)) with
        | false => rw [hc] at h; cases h
        | true =>
          rw [hc] at h
          dsimp only [cond] at h
          simp only [Bool.and_eq_true] at hc
          obtain ⟨c1, c2, c3⟩ := hc
          have e0 := Nat.eq_of_beq_eq_true c1
          subst e0
          have hbl : b < (fs.map (zv ad)).length := by rw [List.length_map]; exact Nat.le_of_ble_eq_true c2
          cases h
          simp only [zgd, Bool.or_eq_true, Bool.and_eq_true, decide_eq_true_eq] at hg
          have hg2 : ∃ r, vwCl[ci]? = some r ∧ b < r.2.2 ∧ Cond.fieldLink M.1 i (r.2.1 b).1 (r.2.1 b).2.1 (r.2.1 b).2.2.1 ∈ zG ∧ ((r.2.1 b).2.2.2 = false ∨ (M.2.2.2.1 = true ∧ (r.2.1 b).1 = M.1)) := by
            rcases hg with hg | ⟨hg1, hg⟩
            · obtain ⟨r, h1, h2, h3, ⟨-, h4⟩ | ⟨h4, -⟩ | h4⟩ := hF.1 _ hg
              · exact ⟨r, h1, h2, h3, Or.inl h4⟩
              · cases h4
              · cases h4
            · obtain ⟨r, h1, h2, h3, ⟨h4, -⟩ | ⟨-, -, h5⟩ | h4⟩ := hF.1 _ hg
              · cases h4
              · exact ⟨r, h1, h2, h3, Or.inr ⟨hg1, h5⟩⟩
              · cases h4
          obtain ⟨r0, hr0, g1, g2, g3⟩ := hg2
          obtain ⟨f1, f2⟩ := zfit_ok ad c3
          have hlt := zlt7 hr0
          have fin : ∀ (H1 : Heap) (locs1 : List Loc), va_P (dC, dI) vwCl ((zw dA ad w).set q (ad q, .inr (ci, (fs.map (zv ad)).set b (zv ad v)))) H1 → va_D A ((zw dA ad w).set q (ad q, .inr (ci, (fs.map (zv ad)).set b (zv ad v)))) → va_S A s.heap H1 locs1 → W p l0 e M.2.2.2.2.1 s m args below meth c H1 locs1 kc ks Z (F0 m (pc + 3) ls (st'.map (zv ad))) := by
            intro H1 locs1 hP1 hD1 hS1
            have ew : (zw dA ad w).set q (ad q, .inr (ci, (fs.map (zv ad)).set b (zv ad v))) = zw dA ad (w.set q (.inr (.inr (.inr (ci, fs.set b v))))) := by rw [← zw_set, ← List.map_set]; rfl
            rw [ew] at hP1 hD1
            exact kk H1 locs1 ls ⟨hrel.1, hrel.2.1, hP1, hD1, hS1⟩ hl
          cases hz : (r0.2.1 b).2.2.2 with
          | false => exact va_put (D := (dC, dI)) (ci := ci) (v := zv ad v) (ty := zty ci b) hx hb hts (zin_ok hr0) (zty ci) (zty_ok ci hlt r0 hr0) (znm_ok ci hlt r0 hr0) hown hK hrel.2.2.1 hrel.2.2.2.1 hrel.2.2.2.2 q (zw_at hw) hr0 b g1 (hts _ g2) (fun _ h9 => h9) hz (zty_ok ci hlt r0 hr0 b g1) f1 f2 hbl hd fin
          | true =>
            rcases g3 with g3 | g3
            · rw [hz] at g3; cases g3
            · exact va_putF (D := (dC, dI)) (ci := ci) (v := zv ad v) (ty := zty ci b) hx hb hts (zin_ok hr0) (zty ci) (zty_ok ci hlt r0 hr0) (znm_ok ci hlt r0 hr0) hown hK hrel.2.2.1 hrel.2.2.2.1 hrel.2.2.2.2 q (zw_at hw) hr0 b g1 (hts _ g2) (fun _ h9 => h9) hz (hin.1 g3.1) g3.2 (zty_ok ci hlt r0 hr0 b g1) f1 f2 hbl hd fin
      · cases h
    · cases h
  | iaload =>
    have hnx : nxt = pc + 1 := of_decide_eq_true hn
    subst hnx
    rw [Nat.add_sub_cancel_left] at hd
    simp only [zstep] at h
    split at h
    · rename_i i q r
      split at h
      · rename_i n f hw
        cases h
        exact va_iald hx hb hK hrel.2.2.1 q 0 (zw_at hw) rfl hp hd (kk H locs ls hrel hl)
      · cases h
    · cases h
  | baload =>
    have hnx : nxt = pc + 1 := of_decide_eq_true hn
    subst hnx
    rw [Nat.add_sub_cancel_left] at hd
    simp only [zstep] at h
    split at h
    · rename_i i q r
      split at h
      · rename_i n f hw
        cases h
        exact va_zald hx hb hK hrel.2.2.1 q 1 (zw_at hw) rfl hp hd (kk H locs ls hrel hl)
      · cases h
    · cases h
  | laload =>
    have hnx : nxt = pc + 1 := of_decide_eq_true hn
    subst hnx
    rw [Nat.add_sub_cancel_left] at hd
    simp only [zstep] at h
    split at h
    · rename_i i q r
      split at h
      · rename_i n f hw
        cases h
        exact va_lald hx hb hK hrel.2.2.1 q 2 (zw_at hw) rfl hp hd (kk H locs ls hrel hl)
      · cases h
    · cases h
  | iastore =>
    have hnx : nxt = pc + 1 := of_decide_eq_true hn
    subst hnx
    rw [Nat.add_sub_cancel_left] at hd
    simp only [zstep] at h
    split at h
    · rename_i x i q r
      split at h
      · rename_i n f hw
        cases h
        exact va_iast hx hb hK hrel.2.2.1 hrel.2.2.2.1 hrel.2.2.2.2 q 0 (zw_at hw) rfl hp hd (fun H1 locs1 hP1 hD1 hS1 => kk H1 locs1 ls ⟨hrel.1, hrel.2.1, (zw_set dA ad w q _) ▸ hP1, (zw_set dA ad w q _) ▸ hD1, hS1⟩ hl)
      · cases h
    · cases h
  | bastore =>
    have hnx : nxt = pc + 1 := of_decide_eq_true hn
    subst hnx
    rw [Nat.add_sub_cancel_left] at hd
    simp only [zstep] at h
    split at h
    · rename_i x i q r
      split at h
      · rename_i n f hw
        cases h
        exact va_zast hx hb hK hrel.2.2.1 hrel.2.2.2.1 hrel.2.2.2.2 q 1 (zw_at hw) rfl hp hd (fun H1 locs1 hP1 hD1 hS1 => kk H1 locs1 ls ⟨hrel.1, hrel.2.1, (zw_set dA ad w q _) ▸ hP1, (zw_set dA ad w q _) ▸ hD1, hS1⟩ hl)
      · cases h
    · cases h
  | lastore =>
    have hnx : nxt = pc + 1 := of_decide_eq_true hn
    subst hnx
    rw [Nat.add_sub_cancel_left] at hd
    simp only [zstep] at h
    split at h
    · rename_i x i q r
      split at h
      · rename_i n f hw
        cases h
        exact va_last hx hb hK hrel.2.2.1 hrel.2.2.2.1 hrel.2.2.2.2 q 2 (zw_at hw) rfl hp hd (fun H1 locs1 hP1 hD1 hS1 => kk H1 locs1 ls ⟨hrel.1, hrel.2.1, (zw_set dA ad w q _) ▸ hP1, (zw_set dA ad w q _) ▸ hD1, hS1⟩ hl)
      · cases h
    · cases h
  | arraylength =>
    have hnx : nxt = pc + 1 := of_decide_eq_true hn
    subst hnx
    rw [Nat.add_sub_cancel_left] at hd
    simp only [zstep] at h
    split at h
    · rename_i q r
      split at h
      · rename_i n f hw
        cases h
        exact va_alen hx hb hK hrel.2.2.1 q 0 (zw_at hw) rfl rfl hd (kk H locs ls hrel hl)
      · cases h
    · cases h
  | _ => cases h
theorem zv_step {tb : List zE} (ok : zTb M tb) (hl : zlook tb pc = some (ins, nxt, a, b, c0)) (h : zstep ins pc nxt a b c0 l st w = some (P, pc', l', st', w')) (hp : P) (k : zV M al n0 kc ks pc' l' st' w' Q) : zV M al n0 kc ks pc l st w Q := by
  obtain ⟨F, hF, ok⟩ := ok
  have h1 := ok _ (zlook_mem hl)
  simp only [zgood, Bool.and_eq_true, decide_eq_true_eq] at h1
  exact zv_st h1.1.1 h1.1.2 hF h1.2 h hp k
/-- n steps -/
def zrun (tb : List zE) : Nat → Nat → zL → List Value → zW → Option zN
  | 0, pc, l, st, w => some (True, pc, l, st, w)
  | n + 1, pc, l, st, w => match zlook tb pc with
    | some (ins, nxt, a, b, c) => match zstep ins pc nxt a b c l st w with
      | some (P, pc1, l1, st1, w1) => match zrun tb n pc1 l1 st1 w1 with
        | some (P2, r) => some (P ∧ P2, r)
        | none => none
      | none => none
    | none => none
theorem zv_run {tb : List zE} (ok : zTb M tb) : ∀ (n : Nat) {pc pc' : Nat} {l l' : zL} {st st' : List Value} {w w' : zW} {P : Prop} (h : zrun tb n pc l st w = some (P, pc', l', st', w')) (hp : P) (k : zV M al n0 kc ks pc' l' st' w' Q), zV M al n0 kc ks pc l st w Q := by
  intro n
  induction n with
  | zero => intro pc pc' l l' st st' w w' P h hp k; cases h; exact k
  | succ n ih =>
    intro pc pc' l l' st st' w w' P h hp k
    simp only [zrun] at h
    split at h
    · rename_i ins nxt a b c hlk
      split at h
      · rename_i P1 pc1 l1 st1 w1 hst
        split at h
        · rename_i P2 r hr
          cases h
          exact zv_step ok hlk hst hp.1 (ih hr hp.2 k)
        · cases h
      · cases h
    · cases h
end ZS
