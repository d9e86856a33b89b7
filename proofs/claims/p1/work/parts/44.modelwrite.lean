set_option maxHeartbeats 1000000 in
set_option maxRecDepth 20000 in
theorem mReck (s : Int32) {w : zW} {fs : List Value} (h76 : w[76]? = some (zO 6 fs)) (hl : fs.length = 35) (hh : fs[10]? = some (.int 0)) : zK 0 zX7_reckons [.ref 76, .int s] w (fun r w' => r = none ∧ w' = w.set 76 (zO 6 (fs.set 28 (.int s)))) := by
  have h10 : (fs.set 28 (.int s))[10]? = some (.int 0) := by rw [List.getElem?_set_ne (by decide)]; exact hh
  refine zK_of qX7_reckons (by decide +kernel) rfl ?_
  iterate 2 (refine zv_step (bX7_reckons 0) rfl rfl trivial ?_)
  refine zv_putf (bX7_reckons 0) rfl h76 (by rw [hl]; rfl) rfl ?_
  iterate 4 (refine zv_step (bX7_reckons 0) rfl rfl trivial ?_)
  refine zv_getf (bX7_reckons 0) rfl (zset_self h76) h10 ?_
  refine zv_step (bX7_reckons 0) rfl rfl trivial ?_
  refine zv_ift (by decide) ?_
  exact zv_ret (bX7_reckons 0) rfl rfl (Nat.zero_le _) (Nat.zero_le _) ⟨rfl, rfl⟩
set_option maxHeartbeats 1000000 in
set_option maxRecDepth 20000 in
theorem mCount (s : Int32) {w : zW} {fs : List Value} (h76 : w[76]? = some (zO 6 fs)) (hl : fs.length = 35) (hh : fs[10]? = some (.int 0)) : zK 1 zX7_counted [.ref 76, .int s] w (fun r w' => r = some (.long 0) ∧ w' = w.set 76 (zO 6 (fs.set 28 (.int s)))) := by
  have h10 : (fs.set 28 (.int s))[10]? = some (.int 0) := by rw [List.getElem?_set_ne (by decide)]; exact hh
  refine zK_of qX7_counted (by decide +kernel) rfl ?_
  iterate 2 (refine zv_step (bX7_counted 1) rfl rfl trivial ?_)
  refine zv_V1 (bX7_counted 1) rfl rfl rfl h76 rfl rfl rfl ⟨rfl, rfl, rfl⟩ ⟨by decide, by decide⟩ ⟨Nat.zero_le _, Nat.zero_le _⟩ (mReck _ h76 hl hh) ?_
  rintro _ _ ⟨rfl, rfl⟩
  iterate 1 (refine zv_step (bX7_counted 1) rfl rfl trivial ?_)
  refine zv_getf (bX7_counted 1) rfl (zset_self h76) h10 ?_
  refine zv_step (bX7_counted 1) rfl rfl trivial ?_
  refine zv_iff (by decide) ?_
  iterate 2 (refine zv_step (bX7_counted 1) rfl rfl trivial ?_)
  exact zv_lret (bX7_counted 1) rfl rfl (Nat.zero_le _) (Nat.zero_le _) ⟨rfl, rfl⟩
theorem in08 (x : Int32) : (Int64.ofNat ((0 : Fin 2) : Nat)).toInt ≤ x.toInt64.toInt ∧ x.toInt64.toInt ≤ (Int64.ofInt 8).toInt ↔ 0 ≤ x.toInt ∧ x.toInt ≤ 8 := by
  rw [l0c, Int32.toInt_toInt64, i64c 8 (by decide)]
set_option maxHeartbeats 1000000 in
set_option maxRecDepth 20000 in
theorem cM_write (p1 : Int32) (p2 : Int64) {w : zW} (h : ∀ j, 76 ≤ j → w[j]? = w0[j]?) : zK 3 zX7_write [.ref 76, .int p1, .long p2] w (fun r w' => ∃ a, r = some (.int a) ∧ R_write p1 p2 a) := by
  refine zK_of qX7_write (by decide +kernel) rfl ?_
  iterate 4 (refine zv_step (bX7_write 3) rfl rfl trivial ?_)
  refine zv_S3 (bX7_write 3) rfl rfl rfl rfl ⟨rfl, rfl, rfl⟩ ⟨by decide, by decide⟩ ⟨Nat.zero_le _, Nat.zero_le _⟩ (hX7_in _ _ _ _) ?_
  rintro _ _ ⟨rfl, ⟨hh, rfl⟩ | ⟨hh, rfl⟩⟩
  · rw [in08] at hh
    iterate 5 (refine zv_step (bX7_write 3) rfl rfl trivial ?_)
    refine zv_ifb (fun hc => ?_) (fun hc => ?_)
    · rw [lgz] at hc
      iterate 3 (refine zv_step (bX7_write 3) rfl rfl trivial ?_)
      refine zv_V1 (bX7_write 3) rfl rfl rfl ((h 76 (by decide)).trans rfl) rfl rfl rfl ⟨rfl, rfl, rfl⟩ ⟨by decide, by decide⟩ ⟨Nat.zero_le _, Nat.zero_le _⟩ (mCount _ ((h 76 (by decide)).trans rfl) rfl rfl) ?_
      rintro _ w1 ⟨rfl, -⟩
      iterate 2 (refine zv_step (bX7_write 3) rfl rfl trivial ?_)
      refine zv_iff (by rw [lgn]; omega) ?_
      iterate 1 (refine zv_step (bX7_write 3) rfl rfl trivial ?_)
      exact zv_iret (bX7_write 3) rfl (Or.inl rfl) (Nat.zero_le _) (Nat.zero_le _) ⟨_, rfl, Or.inr ⟨⟨hh, hc⟩, rfl⟩⟩
    · rw [lgz] at hc
      iterate 1 (refine zv_step (bX7_write 3) rfl rfl trivial ?_)
      exact zv_iret (bX7_write 3) rfl (Or.inl rfl) (Nat.zero_le _) (Nat.zero_le _) ⟨_, rfl, Or.inl ⟨Or.inr (by omega), rfl⟩⟩
  · rw [in08] at hh
    iterate 2 (refine zv_step (bX7_write 3) rfl rfl trivial ?_)
    exact zv_iret (bX7_write 3) rfl (Or.inl rfl) (Nat.zero_le _) (Nat.zero_le _) ⟨_, rfl, Or.inl ⟨Or.inl hh, rfl⟩⟩
theorem lge (p q : Int64) (h : ¬ ¬ lg_cmp p q = 0) : p = q := (lg_cmp_eq p q).mp (Decidable.not_not.mp h)
set_option maxHeartbeats 2000000 in
set_option maxRecDepth 20000 in
theorem cM_doubt (p1 : Int32) (p2 p3 : Int64) {w : zW} (h : ∀ j, 76 ≤ j → w[j]? = w0[j]?) : zK 3 zX7_doubt [.ref 76, .int p1, .long p2, .long p3] w (fun r w' => ∃ a, r = some (.int a) ∧ R_doubt p1 p2 p3 a) := by
  refine zK_of qX7_doubt (by decide +kernel) rfl ?_
  iterate 4 (refine zv_step (bX7_doubt 3) rfl rfl trivial ?_)
  refine zv_S3 (bX7_doubt 3) rfl rfl rfl rfl ⟨rfl, rfl, rfl⟩ ⟨by decide, by decide⟩ ⟨Nat.zero_le _, Nat.zero_le _⟩ (hX7_in _ _ _ _) ?_
  rintro _ _ ⟨rfl, ⟨hh, rfl⟩ | ⟨hh, rfl⟩⟩
  · rw [in08] at hh
    iterate 5 (refine zv_step (bX7_doubt 3) rfl rfl trivial ?_)
    refine zv_ifb (fun hc => ?_) (fun hc => ?_)
    · rw [lgzn] at hc
      iterate 1 (refine zv_step (bX7_doubt 3) rfl rfl trivial ?_)
      exact zv_iret (bX7_doubt 3) rfl (Or.inl rfl) (Nat.zero_le _) (Nat.zero_le _) ⟨_, rfl, Or.inl ⟨Or.inr (Or.inl hc), rfl⟩⟩
    · rw [lgzn] at hc
      iterate 4 (refine zv_step (bX7_doubt 3) rfl rfl trivial ?_)
      refine zv_ifb (fun hd => ?_) (fun hd => ?_)
      · rw [lgz] at hd
        have fin : ∀ {n9 : Nat} {w1 : zW} {fs : List Value} (h76 : w1[76]? = some (zO 6 fs)) (hl : fs.length = 35) (hh1 : fs[10]? = some (.int 0)), zV (zMo 3 zX7_doubt) false n9 0 0 47 (lv_args 0 [.ref 76, .int p1, .long p2, .long p3]) [] w1 (fun r w' => ∃ a, r = some (.int a) ∧ R_doubt p1 p2 p3 a) := by
          intro n9 w1 fs h76 hl hh1
          iterate 3 (refine zv_step (bX7_doubt 3) rfl rfl trivial ?_)
          refine zv_V1 (bX7_doubt 3) rfl rfl rfl h76 rfl rfl rfl ⟨rfl, rfl, rfl⟩ ⟨by decide, by decide⟩ ⟨Nat.zero_le _, Nat.zero_le _⟩ (mCount _ h76 hl hh1) ?_
          rintro _ w2 ⟨rfl, -⟩
          iterate 2 (refine zv_step (bX7_doubt 3) rfl rfl trivial ?_)
          refine zv_ift (by rw [lgp]; omega) ?_
          iterate 1 (refine zv_step (bX7_doubt 3) rfl rfl trivial ?_)
          exact zv_iret (bX7_doubt 3) rfl (Or.inl rfl) (Nat.zero_le _) (Nat.zero_le _) ⟨_, rfl, Or.inr ⟨⟨hh, by omega, hd⟩, rfl⟩⟩
        iterate 4 (refine zv_step (bX7_doubt 3) rfl rfl trivial ?_)
        refine zv_ifb (fun he => ?_) (fun he => ?_)
        · exact fin ((h 76 (by decide)).trans rfl) (by rfl) (by rfl)
        · iterate 3 (refine zv_step (bX7_doubt 3) rfl rfl trivial ?_)
          refine zv_V1 (bX7_doubt 3) rfl rfl rfl ((h 76 (by decide)).trans rfl) rfl rfl rfl ⟨rfl, rfl, rfl⟩ ⟨by decide, by decide⟩ ⟨Nat.zero_le _, Nat.zero_le _⟩ (mCount _ ((h 76 (by decide)).trans rfl) rfl rfl) ?_
          rintro _ w1 ⟨rfl, rfl⟩
          iterate 2 (refine zv_step (bX7_doubt 3) rfl rfl trivial ?_)
          refine zv_ift (by rw [lgp]; omega) ?_
          exact fin (zset_self ((h 76 (by decide)).trans rfl)) (by rfl) (by rfl)
      · rw [lgz] at hd
        iterate 1 (refine zv_step (bX7_doubt 3) rfl rfl trivial ?_)
        exact zv_iret (bX7_doubt 3) rfl (Or.inl rfl) (Nat.zero_le _) (Nat.zero_le _) ⟨_, rfl, Or.inl ⟨Or.inr (Or.inr (by omega)), rfl⟩⟩
  · rw [in08] at hh
    iterate 2 (refine zv_step (bX7_doubt 3) rfl rfl trivial ?_)
    exact zv_iret (bX7_doubt 3) rfl (Or.inl rfl) (Nat.zero_le _) (Nat.zero_le _) ⟨_, rfl, Or.inl ⟨Or.inl hh, rfl⟩⟩
