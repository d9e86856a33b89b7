theorem sHas29 (O : Nat → Int32) (P : Nat → Nat → Int32) (Y : Nat → Nat → Int64) (g : Nat → zC) (q : Nat) (row : Nat → Int32) (x : Int32) : zK 0 zX2_has [.ref 1, .int x] (wX (upd O 6 (nI (q))) (updA P 30 (row)) Y g) (fun r w' => w' = (wX (upd O 6 (nI (q))) (updA P 30 (row)) Y g) ∧ (((0 ≤ x.toInt ∧ x.toInt < (O 1).toInt) ∧ r = some (.int 1)) ∨ (¬ (0 ≤ x.toInt ∧ x.toInt < (O 1).toInt) ∧ r = some (.int 0)))) := pHas1 (upd O 6 (nI q)) (updA P 30 row) Y g x
set_option maxHeartbeats 1000000 in
set_option maxRecDepth 20000 in
theorem sPart29 (O : Nat → Int32) (P : Nat → Nat → Int32) (Y : Nat → Nat → Int64) (g : Nat → zC) (hu : (O 1).toInt ≤ 120) (q : Nat) (row : Nat → Int32) (k x first : Int32) : zK 2 zX4_isPartKept [.ref 29, .ref 1, .int k, .int x, .int first] (wX (upd O 6 (nI (q))) (updA P 30 (row)) Y g) (fun r w' => w' = (wX (upd O 6 (nI (q))) (updA P 30 (row)) Y g) ∧ r = some (.int (pkW (O 1) (O 7) (O 8) P k x first))) := by
  refine zK_of qX4_isPartKept (by decide +kernel) rfl ?_
  iterate 2 (refine zv_step (bX4_isPartKept 2) rfl rfl trivial ?_)
  refine zv_V1 (bX4_isPartKept 2) rfl rfl rfl rfl rfl rfl rfl ⟨rfl, rfl, rfl⟩ ⟨by decide, by decide⟩ ⟨Nat.zero_le _, Nat.zero_le _⟩ (sHas29 O P Y g _ _ _) ?_
  rintro _ _ ⟨rfl, ⟨hh, rfl⟩ | ⟨hh, rfl⟩⟩
  · iterate 1 (refine zv_step (bX4_isPartKept 2) rfl rfl trivial ?_)
    refine zv_ift (by decide) ?_
    iterate 3 (refine zv_step (bX4_isPartKept 2) rfl rfl trivial ?_)
    refine zv_step (bX4_isPartKept 2) rfl rfl (vp_in_iff.mpr ⟨hh.1, Int.lt_of_lt_of_le hh.2 hu⟩) ?_
    iterate 4 (refine zv_step (bX4_isPartKept 2) rfl rfl trivial ?_)
    refine zv_ifb (fun hs => ?_) (fun hs => ?_)
    · have hs : O 8 = 0 := hs
      iterate 3 (refine zv_step (bX4_isPartKept 2) rfl rfl trivial ?_)
      refine zv_S2 (bX4_isPartKept 2) rfl rfl rfl rfl ⟨rfl, rfl, rfl⟩ ⟨by decide, by decide⟩ ⟨Nat.zero_le _, Nat.zero_le _⟩ (pHasBitW _ _ _) ?_
      rintro _ _ ⟨rfl, rfl⟩
      exact zv_iret (bX4_isPartKept 2) rfl (Or.inr ⟨rfl, hbW_01 _ _⟩) (Nat.zero_le _) (Nat.zero_le _) ⟨rfl, by unfold pkW; rw [if_pos hh, if_pos hs]; rfl⟩
    · have hs : ¬ O 8 = 0 := hs
      iterate 3 (refine zv_step (bX4_isPartKept 2) rfl rfl trivial ?_)
      refine zv_S3 (bX4_isPartKept 2) rfl rfl rfl rfl ⟨rfl, rfl, rfl⟩ ⟨by decide, by decide⟩ ⟨Nat.zero_le _, Nat.zero_le _⟩ (sDoubt _ _ _ _) ?_
      rintro _ _ ⟨rfl, rfl⟩
      iterate 1 (refine zv_step (bX4_isPartKept 2) rfl rfl trivial ?_)
      exact zv_iret (bX4_isPartKept 2) rfl (Or.inr ⟨rfl, dbW_01 _ _ _⟩) (Nat.zero_le _) (Nat.zero_le _) ⟨rfl, by unfold pkW; rw [if_pos hh, if_neg hs]; rfl⟩
  · iterate 1 (refine zv_step (bX4_isPartKept 2) rfl rfl trivial ?_)
    refine zv_iff (by decide) ?_
    iterate 1 (refine zv_step (bX4_isPartKept 2) rfl rfl trivial ?_)
    exact zv_iret (bX4_isPartKept 2) rfl (Or.inr ⟨rfl, Or.inl rfl⟩) (Nat.zero_le _) (Nat.zero_le _) ⟨rfl, by unfold pkW; rw [if_neg hh]⟩
set_option maxHeartbeats 1000000 in
set_option maxRecDepth 20000 in
theorem sBare29_0 (O : Nat → Int32) (P : Nat → Nat → Int32) (Y : Nat → Nat → Int64) (g : Nat → zC) (hu : (O 1).toInt ≤ 120) {f : Nat} (ih : ∀ (x kept z : Int32) (q : Nat) (row : Nat → Int32), (kept = 0 ∨ kept = 1) → z = nI f - Int32.ofInt 1 → q + (tlW (O 1) (O 7) (O 8) P f x kept).length < 2 ^ 30 → zK (2 * f + 2) zX4_tell [.ref 29, .ref 1, .int x, .int kept, .int z] (wX (upd O 6 (nI (q))) (updA P 30 (row)) Y g) (fun r w' => r = none ∧ w' = (wX (upd O 6 (nI (q + (tlW (O 1) (O 7) (O 8) P f x kept).length))) (updA P 30 (ap8 row q (tlW (O 1) (O 7) (O 8) P f x kept))) Y g))) {n : Int32} (hv : vp_in n 120) (hk : P 2 (nC n) = nI 0) (q : Nat) (row : Nat → Int32) (hq : q + (coW P (pkW (O 1) (O 7) (O 8) P) (tlW (O 1) (O 7) (O 8) P f) (nC n)).length < 2 ^ 30) : zK (2 * f + 3) zX4_tellBare [.ref 29, .ref 1, .int n, .int (nI f)] (wX (upd O 6 (nI (q))) (updA P 30 (row)) Y g) (fun r w' => r = none ∧ w' = (wX (upd O 6 (nI (q + (coW P (pkW (O 1) (O 7) (O 8) P) (tlW (O 1) (O 7) (O 8) P f) (nC n)).length))) (updA P 30 (ap8 row q (coW P (pkW (O 1) (O 7) (O 8) P) (tlW (O 1) (O 7) (O 8) P f) (nC n)))) Y g)) := by
  have hc : (coW P (pkW (O 1) (O 7) (O 8) P) (tlW (O 1) (O 7) (O 8) P f) (nC n)) = [P 3 (nC n)] := by
    unfold coW
    rw [if_pos hk]
  have hq' : q + ([P 3 (nC n)]).length < 2 ^ 30 := by rw [← hc]; exact hq
  (try simp only [List.length_cons, List.length_append, List.length_nil] at hq')
  refine zK_of qX4_tellBare (by decide +kernel) rfl ?_
  iterate 3 (refine zv_step (bX4_tellBare (2 * f + 3)) rfl rfl trivial ?_)
  refine zv_iale (bX4_tellBare (2 * f + 3)) rfl rfl hv (show P 2 n.toNatClampNeg = nI 0 from hk) ?_
  iterate 4 (refine zv_step (bX4_tellBare (2 * f + 3)) rfl rfl trivial ?_)
  refine zv_iale (bX4_tellBare (2 * f + 3)) rfl rfl hv (v := P 4 (nC n)) rfl ?_
  iterate 4 (refine zv_step (bX4_tellBare (2 * f + 3)) rfl rfl trivial ?_)
  refine zv_iale (bX4_tellBare (2 * f + 3)) rfl rfl hv (v := P 5 (nC n)) rfl ?_
  iterate 6 (refine zv_step (bX4_tellBare (2 * f + 3)) rfl rfl trivial ?_)
  refine zv_V4 (bX4_tellBare (2 * f + 3)) rfl rfl rfl rfl rfl rfl rfl ⟨rfl, rfl, rfl⟩ ⟨by show 2 + 1 ≤ 2 * f + 3; omega, by show 8 + (6 + 11) + 64 * 2 ≤ 64 * (2 * f + 3); omega⟩ ⟨Nat.zero_le _, Nat.zero_le _⟩ (sPart29 O P Y g hu _ _ _ _ _) ?_
  rintro _ _ ⟨rfl, rfl⟩
  iterate 2 (refine zv_step (bX4_tellBare (2 * f + 3)) rfl rfl trivial ?_)
  refine zv_step (bX4_tellBare (2 * f + 3)) rfl rfl (by decide) ?_
  iterate 4 (refine zv_step (bX4_tellBare (2 * f + 3)) rfl rfl trivial ?_)
  refine zv_iale (bX4_tellBare (2 * f + 3)) rfl rfl hv (v := P 3 (nC n)) rfl ?_
  refine zv_V1 (bX4_tellBare (2 * f + 3)) rfl rfl rfl rfl rfl rfl rfl ⟨rfl, rfl, rfl⟩ ⟨by show 0 + 1 ≤ 2 * f + 3; omega, by show 8 + (2 + 11) + 64 * 0 ≤ 64 * (2 * f + 3); omega⟩ ⟨Nat.zero_le _, Nat.zero_le _⟩ (sAdd29 O P Y g (by omega) _ _) ?_
  rintro _ _ ⟨rfl, rfl⟩
  iterate 1 (refine zv_step (bX4_tellBare (2 * f + 3)) rfl rfl trivial ?_)
  exact zv_ret (bX4_tellBare (2 * f + 3)) rfl rfl (Nat.zero_le _) (Nat.zero_le _) ⟨rfl, by rw [hc]; rfl⟩
set_option maxHeartbeats 1000000 in
set_option maxRecDepth 20000 in
theorem sBare29_1 (O : Nat → Int32) (P : Nat → Nat → Int32) (Y : Nat → Nat → Int64) (g : Nat → zC) (hu : (O 1).toInt ≤ 120) {f : Nat} (ih : ∀ (x kept z : Int32) (q : Nat) (row : Nat → Int32), (kept = 0 ∨ kept = 1) → z = nI f - Int32.ofInt 1 → q + (tlW (O 1) (O 7) (O 8) P f x kept).length < 2 ^ 30 → zK (2 * f + 2) zX4_tell [.ref 29, .ref 1, .int x, .int kept, .int z] (wX (upd O 6 (nI (q))) (updA P 30 (row)) Y g) (fun r w' => r = none ∧ w' = (wX (upd O 6 (nI (q + (tlW (O 1) (O 7) (O 8) P f x kept).length))) (updA P 30 (ap8 row q (tlW (O 1) (O 7) (O 8) P f x kept))) Y g))) {n : Int32} (hv : vp_in n 120) (hk : P 2 (nC n) = nI 1) (q : Nat) (row : Nat → Int32) (hq : q + (coW P (pkW (O 1) (O 7) (O 8) P) (tlW (O 1) (O 7) (O 8) P f) (nC n)).length < 2 ^ 30) : zK (2 * f + 3) zX4_tellBare [.ref 29, .ref 1, .int n, .int (nI f)] (wX (upd O 6 (nI (q))) (updA P 30 (row)) Y g) (fun r w' => r = none ∧ w' = (wX (upd O 6 (nI (q + (coW P (pkW (O 1) (O 7) (O 8) P) (tlW (O 1) (O 7) (O 8) P f) (nC n)).length))) (updA P 30 (ap8 row q (coW P (pkW (O 1) (O 7) (O 8) P) (tlW (O 1) (O 7) (O 8) P f) (nC n)))) Y g)) := by
  have hc : (coW P (pkW (O 1) (O 7) (O 8) P) (tlW (O 1) (O 7) (O 8) P f) (nC n)) = dgW (P 3 (nC n)) := by
    unfold coW
    rw [if_neg (by rw [hk]; decide), if_pos hk]
  have hd := dgW_len (P 3 (nC n))
  have hq' : q + (dgW (P 3 (nC n))).length < 2 ^ 30 := by rw [← hc]; exact hq
  (try simp only [List.length_cons, List.length_append, List.length_nil] at hq')
  refine zK_of qX4_tellBare (by decide +kernel) rfl ?_
  iterate 3 (refine zv_step (bX4_tellBare (2 * f + 3)) rfl rfl trivial ?_)
  refine zv_iale (bX4_tellBare (2 * f + 3)) rfl rfl hv (show P 2 n.toNatClampNeg = nI 1 from hk) ?_
  iterate 4 (refine zv_step (bX4_tellBare (2 * f + 3)) rfl rfl trivial ?_)
  refine zv_iale (bX4_tellBare (2 * f + 3)) rfl rfl hv (v := P 4 (nC n)) rfl ?_
  iterate 4 (refine zv_step (bX4_tellBare (2 * f + 3)) rfl rfl trivial ?_)
  refine zv_iale (bX4_tellBare (2 * f + 3)) rfl rfl hv (v := P 5 (nC n)) rfl ?_
  iterate 6 (refine zv_step (bX4_tellBare (2 * f + 3)) rfl rfl trivial ?_)
  refine zv_V4 (bX4_tellBare (2 * f + 3)) rfl rfl rfl rfl rfl rfl rfl ⟨rfl, rfl, rfl⟩ ⟨by show 2 + 1 ≤ 2 * f + 3; omega, by show 8 + (6 + 11) + 64 * 2 ≤ 64 * (2 * f + 3); omega⟩ ⟨Nat.zero_le _, Nat.zero_le _⟩ (sPart29 O P Y g hu _ _ _ _ _) ?_
  rintro _ _ ⟨rfl, rfl⟩
  iterate 2 (refine zv_step (bX4_tellBare (2 * f + 3)) rfl rfl trivial ?_)
  refine zv_step (bX4_tellBare (2 * f + 3)) rfl rfl (by decide) ?_
  iterate 4 (refine zv_step (bX4_tellBare (2 * f + 3)) rfl rfl trivial ?_)
  refine zv_iale (bX4_tellBare (2 * f + 3)) rfl rfl hv (v := P 3 (nC n)) rfl ?_
  refine zv_V1 (bX4_tellBare (2 * f + 3)) rfl rfl rfl rfl rfl rfl rfl ⟨rfl, rfl, rfl⟩ ⟨by show 1 + 1 ≤ 2 * f + 3; omega, by show 8 + (4 + 11) + 64 * 1 ≤ 64 * (2 * f + 3); omega⟩ ⟨Nat.zero_le _, Nat.zero_le _⟩ (sDigits29 O P Y g (by omega) _ _) ?_
  rintro _ _ ⟨rfl, rfl⟩
  iterate 1 (refine zv_step (bX4_tellBare (2 * f + 3)) rfl rfl trivial ?_)
  exact zv_ret (bX4_tellBare (2 * f + 3)) rfl rfl (Nat.zero_le _) (Nat.zero_le _) ⟨rfl, by rw [hc]⟩
set_option maxHeartbeats 1000000 in
set_option maxRecDepth 20000 in
theorem sBare29_2 (O : Nat → Int32) (P : Nat → Nat → Int32) (Y : Nat → Nat → Int64) (g : Nat → zC) (hu : (O 1).toInt ≤ 120) {f : Nat} (ih : ∀ (x kept z : Int32) (q : Nat) (row : Nat → Int32), (kept = 0 ∨ kept = 1) → z = nI f - Int32.ofInt 1 → q + (tlW (O 1) (O 7) (O 8) P f x kept).length < 2 ^ 30 → zK (2 * f + 2) zX4_tell [.ref 29, .ref 1, .int x, .int kept, .int z] (wX (upd O 6 (nI (q))) (updA P 30 (row)) Y g) (fun r w' => r = none ∧ w' = (wX (upd O 6 (nI (q + (tlW (O 1) (O 7) (O 8) P f x kept).length))) (updA P 30 (ap8 row q (tlW (O 1) (O 7) (O 8) P f x kept))) Y g))) {n : Int32} (hv : vp_in n 120) (hk : P 2 (nC n) = nI 2) (q : Nat) (row : Nat → Int32) (hq : q + (coW P (pkW (O 1) (O 7) (O 8) P) (tlW (O 1) (O 7) (O 8) P f) (nC n)).length < 2 ^ 30) : zK (2 * f + 3) zX4_tellBare [.ref 29, .ref 1, .int n, .int (nI f)] (wX (upd O 6 (nI (q))) (updA P 30 (row)) Y g) (fun r w' => r = none ∧ w' = (wX (upd O 6 (nI (q + (coW P (pkW (O 1) (O 7) (O 8) P) (tlW (O 1) (O 7) (O 8) P f) (nC n)).length))) (updA P 30 (ap8 row q (coW P (pkW (O 1) (O 7) (O 8) P) (tlW (O 1) (O 7) (O 8) P f) (nC n)))) Y g)) := by
  have hc : (coW P (pkW (O 1) (O 7) (O 8) P) (tlW (O 1) (O 7) (O 8) P f) (nC n)) = (tlW (O 1) (O 7) (O 8) P f (P 4 (nC n)) (pkW (O 1) (O 7) (O 8) P (nI 2) (P 4 (nC n)) (Int32.ofInt 1))) ++ ((c8 18 + nI 2) :: (tlW (O 1) (O 7) (O 8) P f (P 5 (nC n)) (pkW (O 1) (O 7) (O 8) P (nI 2) (P 5 (nC n)) (Int32.ofInt 0)))) := by
    unfold coW
    rw [if_neg (by rw [hk]; decide), if_neg (by rw [hk]; decide), if_neg (by rw [hk]; decide), if_neg (by rw [hk]; decide), if_neg (by rw [hk]; decide), hk]
  have hq' : q + ((tlW (O 1) (O 7) (O 8) P f (P 4 (nC n)) (pkW (O 1) (O 7) (O 8) P (nI 2) (P 4 (nC n)) (Int32.ofInt 1))) ++ ((c8 18 + nI 2) :: (tlW (O 1) (O 7) (O 8) P f (P 5 (nC n)) (pkW (O 1) (O 7) (O 8) P (nI 2) (P 5 (nC n)) (Int32.ofInt 0))))).length < 2 ^ 30 := by rw [← hc]; exact hq
  (try simp only [List.length_cons, List.length_append, List.length_nil] at hq')
  refine zK_of qX4_tellBare (by decide +kernel) rfl ?_
  iterate 3 (refine zv_step (bX4_tellBare (2 * f + 3)) rfl rfl trivial ?_)
  refine zv_iale (bX4_tellBare (2 * f + 3)) rfl rfl hv (show P 2 n.toNatClampNeg = nI 2 from hk) ?_
  iterate 4 (refine zv_step (bX4_tellBare (2 * f + 3)) rfl rfl trivial ?_)
  refine zv_iale (bX4_tellBare (2 * f + 3)) rfl rfl hv (v := P 4 (nC n)) rfl ?_
  iterate 4 (refine zv_step (bX4_tellBare (2 * f + 3)) rfl rfl trivial ?_)
  refine zv_iale (bX4_tellBare (2 * f + 3)) rfl rfl hv (v := P 5 (nC n)) rfl ?_
  iterate 6 (refine zv_step (bX4_tellBare (2 * f + 3)) rfl rfl trivial ?_)
  refine zv_V4 (bX4_tellBare (2 * f + 3)) rfl rfl rfl rfl rfl rfl rfl ⟨rfl, rfl, rfl⟩ ⟨by show 2 + 1 ≤ 2 * f + 3; omega, by show 8 + (6 + 11) + 64 * 2 ≤ 64 * (2 * f + 3); omega⟩ ⟨Nat.zero_le _, Nat.zero_le _⟩ (sPart29 O P Y g hu _ _ _ _ _) ?_
  rintro _ _ ⟨rfl, rfl⟩
  iterate 2 (refine zv_step (bX4_tellBare (2 * f + 3)) rfl rfl trivial ?_)
  refine zv_step (bX4_tellBare (2 * f + 3)) rfl rfl (by decide) ?_
  iterate 7 (refine zv_step (bX4_tellBare (2 * f + 3)) rfl rfl trivial ?_)
  refine zv_V4 (bX4_tellBare (2 * f + 3)) rfl rfl rfl rfl rfl rfl rfl ⟨rfl, rfl, rfl⟩ ⟨by show 2 * f + 2 + 1 ≤ 2 * f + 3; omega, by show 8 + (5 + 11) + 64 * (2 * f + 2) ≤ 64 * (2 * f + 3); omega⟩ ⟨Nat.zero_le _, Nat.zero_le _⟩ (ih _ _ _ _ _ (pkW_01 _ _ _ _ _ _ _) rfl (by omega)) ?_
  rintro _ _ ⟨rfl, rfl⟩
  iterate 4 (refine zv_step (bX4_tellBare (2 * f + 3)) rfl rfl trivial ?_)
  refine zv_V1 (bX4_tellBare (2 * f + 3)) rfl rfl rfl rfl rfl rfl rfl ⟨rfl, rfl, rfl⟩ ⟨by show 0 + 1 ≤ 2 * f + 3; omega, by show 8 + (2 + 11) + 64 * 0 ≤ 64 * (2 * f + 3); omega⟩ ⟨Nat.zero_le _, Nat.zero_le _⟩ (sAdd29 O P Y g (by omega) _ _) ?_
  rintro _ _ ⟨rfl, rfl⟩
  iterate 8 (refine zv_step (bX4_tellBare (2 * f + 3)) rfl rfl trivial ?_)
  refine zv_V4 (bX4_tellBare (2 * f + 3)) rfl rfl rfl rfl rfl rfl rfl ⟨rfl, rfl, rfl⟩ ⟨by show 2 + 1 ≤ 2 * f + 3; omega, by show 8 + (6 + 11) + 64 * 2 ≤ 64 * (2 * f + 3); omega⟩ ⟨Nat.zero_le _, Nat.zero_le _⟩ (sPart29 O P Y g hu _ _ _ _ _) ?_
  rintro _ _ ⟨rfl, rfl⟩
  iterate 3 (refine zv_step (bX4_tellBare (2 * f + 3)) rfl rfl trivial ?_)
  refine zv_V4 (bX4_tellBare (2 * f + 3)) rfl rfl rfl rfl rfl rfl rfl ⟨rfl, rfl, rfl⟩ ⟨by show 2 * f + 2 + 1 ≤ 2 * f + 3; omega, by show 8 + (5 + 11) + 64 * (2 * f + 2) ≤ 64 * (2 * f + 3); omega⟩ ⟨Nat.zero_le _, Nat.zero_le _⟩ (ih _ _ _ _ _ (pkW_01 _ _ _ _ _ _ _) rfl (by omega)) ?_
  rintro _ _ ⟨rfl, rfl⟩
  exact zv_ret (bX4_tellBare (2 * f + 3)) rfl rfl (Nat.zero_le _) (Nat.zero_le _) ⟨rfl, by rw [hc, List.length_append, List.length_cons, show q + ((tlW (O 1) (O 7) (O 8) P f (P 4 (nC n)) (pkW (O 1) (O 7) (O 8) P (nI 2) (P 4 (nC n)) (Int32.ofInt 1))).length + ((tlW (O 1) (O 7) (O 8) P f (P 5 (nC n)) (pkW (O 1) (O 7) (O 8) P (nI 2) (P 5 (nC n)) (Int32.ofInt 0))).length + 1)) = q + (tlW (O 1) (O 7) (O 8) P f (P 4 (nC n)) (pkW (O 1) (O 7) (O 8) P (nI 2) (P 4 (nC n)) (Int32.ofInt 1))).length + 1 + (tlW (O 1) (O 7) (O 8) P f (P 5 (nC n)) (pkW (O 1) (O 7) (O 8) P (nI 2) (P 5 (nC n)) (Int32.ofInt 0))).length by omega, ap8_app]; rfl⟩
set_option maxHeartbeats 1000000 in
set_option maxRecDepth 20000 in
theorem sBare29_3 (O : Nat → Int32) (P : Nat → Nat → Int32) (Y : Nat → Nat → Int64) (g : Nat → zC) (hu : (O 1).toInt ≤ 120) {f : Nat} (ih : ∀ (x kept z : Int32) (q : Nat) (row : Nat → Int32), (kept = 0 ∨ kept = 1) → z = nI f - Int32.ofInt 1 → q + (tlW (O 1) (O 7) (O 8) P f x kept).length < 2 ^ 30 → zK (2 * f + 2) zX4_tell [.ref 29, .ref 1, .int x, .int kept, .int z] (wX (upd O 6 (nI (q))) (updA P 30 (row)) Y g) (fun r w' => r = none ∧ w' = (wX (upd O 6 (nI (q + (tlW (O 1) (O 7) (O 8) P f x kept).length))) (updA P 30 (ap8 row q (tlW (O 1) (O 7) (O 8) P f x kept))) Y g))) {n : Int32} (hv : vp_in n 120) (hk : P 2 (nC n) = nI 3) (q : Nat) (row : Nat → Int32) (hq : q + (coW P (pkW (O 1) (O 7) (O 8) P) (tlW (O 1) (O 7) (O 8) P f) (nC n)).length < 2 ^ 30) : zK (2 * f + 3) zX4_tellBare [.ref 29, .ref 1, .int n, .int (nI f)] (wX (upd O 6 (nI (q))) (updA P 30 (row)) Y g) (fun r w' => r = none ∧ w' = (wX (upd O 6 (nI (q + (coW P (pkW (O 1) (O 7) (O 8) P) (tlW (O 1) (O 7) (O 8) P f) (nC n)).length))) (updA P 30 (ap8 row q (coW P (pkW (O 1) (O 7) (O 8) P) (tlW (O 1) (O 7) (O 8) P f) (nC n)))) Y g)) := by
  have hc : (coW P (pkW (O 1) (O 7) (O 8) P) (tlW (O 1) (O 7) (O 8) P f) (nC n)) = (tlW (O 1) (O 7) (O 8) P f (P 4 (nC n)) (pkW (O 1) (O 7) (O 8) P (nI 3) (P 4 (nC n)) (Int32.ofInt 1))) ++ ((c8 18 + nI 3) :: (tlW (O 1) (O 7) (O 8) P f (P 5 (nC n)) (pkW (O 1) (O 7) (O 8) P (nI 3) (P 5 (nC n)) (Int32.ofInt 0)))) := by
    unfold coW
    rw [if_neg (by rw [hk]; decide), if_neg (by rw [hk]; decide), if_neg (by rw [hk]; decide), if_neg (by rw [hk]; decide), if_neg (by rw [hk]; decide), hk]
  have hq' : q + ((tlW (O 1) (O 7) (O 8) P f (P 4 (nC n)) (pkW (O 1) (O 7) (O 8) P (nI 3) (P 4 (nC n)) (Int32.ofInt 1))) ++ ((c8 18 + nI 3) :: (tlW (O 1) (O 7) (O 8) P f (P 5 (nC n)) (pkW (O 1) (O 7) (O 8) P (nI 3) (P 5 (nC n)) (Int32.ofInt 0))))).length < 2 ^ 30 := by rw [← hc]; exact hq
  (try simp only [List.length_cons, List.length_append, List.length_nil] at hq')
  refine zK_of qX4_tellBare (by decide +kernel) rfl ?_
  iterate 3 (refine zv_step (bX4_tellBare (2 * f + 3)) rfl rfl trivial ?_)
  refine zv_iale (bX4_tellBare (2 * f + 3)) rfl rfl hv (show P 2 n.toNatClampNeg = nI 3 from hk) ?_
  iterate 4 (refine zv_step (bX4_tellBare (2 * f + 3)) rfl rfl trivial ?_)
  refine zv_iale (bX4_tellBare (2 * f + 3)) rfl rfl hv (v := P 4 (nC n)) rfl ?_
  iterate 4 (refine zv_step (bX4_tellBare (2 * f + 3)) rfl rfl trivial ?_)
  refine zv_iale (bX4_tellBare (2 * f + 3)) rfl rfl hv (v := P 5 (nC n)) rfl ?_
  iterate 6 (refine zv_step (bX4_tellBare (2 * f + 3)) rfl rfl trivial ?_)
  refine zv_V4 (bX4_tellBare (2 * f + 3)) rfl rfl rfl rfl rfl rfl rfl ⟨rfl, rfl, rfl⟩ ⟨by show 2 + 1 ≤ 2 * f + 3; omega, by show 8 + (6 + 11) + 64 * 2 ≤ 64 * (2 * f + 3); omega⟩ ⟨Nat.zero_le _, Nat.zero_le _⟩ (sPart29 O P Y g hu _ _ _ _ _) ?_
  rintro _ _ ⟨rfl, rfl⟩
  iterate 2 (refine zv_step (bX4_tellBare (2 * f + 3)) rfl rfl trivial ?_)
  refine zv_step (bX4_tellBare (2 * f + 3)) rfl rfl (by decide) ?_
  iterate 7 (refine zv_step (bX4_tellBare (2 * f + 3)) rfl rfl trivial ?_)
  refine zv_V4 (bX4_tellBare (2 * f + 3)) rfl rfl rfl rfl rfl rfl rfl ⟨rfl, rfl, rfl⟩ ⟨by show 2 * f + 2 + 1 ≤ 2 * f + 3; omega, by show 8 + (5 + 11) + 64 * (2 * f + 2) ≤ 64 * (2 * f + 3); omega⟩ ⟨Nat.zero_le _, Nat.zero_le _⟩ (ih _ _ _ _ _ (pkW_01 _ _ _ _ _ _ _) rfl (by omega)) ?_
  rintro _ _ ⟨rfl, rfl⟩
  iterate 4 (refine zv_step (bX4_tellBare (2 * f + 3)) rfl rfl trivial ?_)
  refine zv_V1 (bX4_tellBare (2 * f + 3)) rfl rfl rfl rfl rfl rfl rfl ⟨rfl, rfl, rfl⟩ ⟨by show 0 + 1 ≤ 2 * f + 3; omega, by show 8 + (2 + 11) + 64 * 0 ≤ 64 * (2 * f + 3); omega⟩ ⟨Nat.zero_le _, Nat.zero_le _⟩ (sAdd29 O P Y g (by omega) _ _) ?_
  rintro _ _ ⟨rfl, rfl⟩
  iterate 8 (refine zv_step (bX4_tellBare (2 * f + 3)) rfl rfl trivial ?_)
  refine zv_V4 (bX4_tellBare (2 * f + 3)) rfl rfl rfl rfl rfl rfl rfl ⟨rfl, rfl, rfl⟩ ⟨by show 2 + 1 ≤ 2 * f + 3; omega, by show 8 + (6 + 11) + 64 * 2 ≤ 64 * (2 * f + 3); omega⟩ ⟨Nat.zero_le _, Nat.zero_le _⟩ (sPart29 O P Y g hu _ _ _ _ _) ?_
  rintro _ _ ⟨rfl, rfl⟩
  iterate 3 (refine zv_step (bX4_tellBare (2 * f + 3)) rfl rfl trivial ?_)
  refine zv_V4 (bX4_tellBare (2 * f + 3)) rfl rfl rfl rfl rfl rfl rfl ⟨rfl, rfl, rfl⟩ ⟨by show 2 * f + 2 + 1 ≤ 2 * f + 3; omega, by show 8 + (5 + 11) + 64 * (2 * f + 2) ≤ 64 * (2 * f + 3); omega⟩ ⟨Nat.zero_le _, Nat.zero_le _⟩ (ih _ _ _ _ _ (pkW_01 _ _ _ _ _ _ _) rfl (by omega)) ?_
  rintro _ _ ⟨rfl, rfl⟩
  exact zv_ret (bX4_tellBare (2 * f + 3)) rfl rfl (Nat.zero_le _) (Nat.zero_le _) ⟨rfl, by rw [hc, List.length_append, List.length_cons, show q + ((tlW (O 1) (O 7) (O 8) P f (P 4 (nC n)) (pkW (O 1) (O 7) (O 8) P (nI 3) (P 4 (nC n)) (Int32.ofInt 1))).length + ((tlW (O 1) (O 7) (O 8) P f (P 5 (nC n)) (pkW (O 1) (O 7) (O 8) P (nI 3) (P 5 (nC n)) (Int32.ofInt 0))).length + 1)) = q + (tlW (O 1) (O 7) (O 8) P f (P 4 (nC n)) (pkW (O 1) (O 7) (O 8) P (nI 3) (P 4 (nC n)) (Int32.ofInt 1))).length + 1 + (tlW (O 1) (O 7) (O 8) P f (P 5 (nC n)) (pkW (O 1) (O 7) (O 8) P (nI 3) (P 5 (nC n)) (Int32.ofInt 0))).length by omega, ap8_app]; rfl⟩
set_option maxHeartbeats 1000000 in
set_option maxRecDepth 20000 in
theorem sBare29_4 (O : Nat → Int32) (P : Nat → Nat → Int32) (Y : Nat → Nat → Int64) (g : Nat → zC) (hu : (O 1).toInt ≤ 120) {f : Nat} (ih : ∀ (x kept z : Int32) (q : Nat) (row : Nat → Int32), (kept = 0 ∨ kept = 1) → z = nI f - Int32.ofInt 1 → q + (tlW (O 1) (O 7) (O 8) P f x kept).length < 2 ^ 30 → zK (2 * f + 2) zX4_tell [.ref 29, .ref 1, .int x, .int kept, .int z] (wX (upd O 6 (nI (q))) (updA P 30 (row)) Y g) (fun r w' => r = none ∧ w' = (wX (upd O 6 (nI (q + (tlW (O 1) (O 7) (O 8) P f x kept).length))) (updA P 30 (ap8 row q (tlW (O 1) (O 7) (O 8) P f x kept))) Y g))) {n : Int32} (hv : vp_in n 120) (hk : P 2 (nC n) = nI 4) (q : Nat) (row : Nat → Int32) (hq : q + (coW P (pkW (O 1) (O 7) (O 8) P) (tlW (O 1) (O 7) (O 8) P f) (nC n)).length < 2 ^ 30) : zK (2 * f + 3) zX4_tellBare [.ref 29, .ref 1, .int n, .int (nI f)] (wX (upd O 6 (nI (q))) (updA P 30 (row)) Y g) (fun r w' => r = none ∧ w' = (wX (upd O 6 (nI (q + (coW P (pkW (O 1) (O 7) (O 8) P) (tlW (O 1) (O 7) (O 8) P f) (nC n)).length))) (updA P 30 (ap8 row q (coW P (pkW (O 1) (O 7) (O 8) P) (tlW (O 1) (O 7) (O 8) P f) (nC n)))) Y g)) := by
  have hc : (coW P (pkW (O 1) (O 7) (O 8) P) (tlW (O 1) (O 7) (O 8) P f) (nC n)) = (tlW (O 1) (O 7) (O 8) P f (P 4 (nC n)) (pkW (O 1) (O 7) (O 8) P (nI 4) (P 4 (nC n)) (Int32.ofInt 1))) ++ ((c8 18 + nI 4) :: (tlW (O 1) (O 7) (O 8) P f (P 5 (nC n)) (pkW (O 1) (O 7) (O 8) P (nI 4) (P 5 (nC n)) (Int32.ofInt 0)))) := by
    unfold coW
    rw [if_neg (by rw [hk]; decide), if_neg (by rw [hk]; decide), if_neg (by rw [hk]; decide), if_neg (by rw [hk]; decide), if_neg (by rw [hk]; decide), hk]
  have hq' : q + ((tlW (O 1) (O 7) (O 8) P f (P 4 (nC n)) (pkW (O 1) (O 7) (O 8) P (nI 4) (P 4 (nC n)) (Int32.ofInt 1))) ++ ((c8 18 + nI 4) :: (tlW (O 1) (O 7) (O 8) P f (P 5 (nC n)) (pkW (O 1) (O 7) (O 8) P (nI 4) (P 5 (nC n)) (Int32.ofInt 0))))).length < 2 ^ 30 := by rw [← hc]; exact hq
  (try simp only [List.length_cons, List.length_append, List.length_nil] at hq')
  refine zK_of qX4_tellBare (by decide +kernel) rfl ?_
  iterate 3 (refine zv_step (bX4_tellBare (2 * f + 3)) rfl rfl trivial ?_)
  refine zv_iale (bX4_tellBare (2 * f + 3)) rfl rfl hv (show P 2 n.toNatClampNeg = nI 4 from hk) ?_
  iterate 4 (refine zv_step (bX4_tellBare (2 * f + 3)) rfl rfl trivial ?_)
  refine zv_iale (bX4_tellBare (2 * f + 3)) rfl rfl hv (v := P 4 (nC n)) rfl ?_
  iterate 4 (refine zv_step (bX4_tellBare (2 * f + 3)) rfl rfl trivial ?_)
  refine zv_iale (bX4_tellBare (2 * f + 3)) rfl rfl hv (v := P 5 (nC n)) rfl ?_
  iterate 6 (refine zv_step (bX4_tellBare (2 * f + 3)) rfl rfl trivial ?_)
  refine zv_V4 (bX4_tellBare (2 * f + 3)) rfl rfl rfl rfl rfl rfl rfl ⟨rfl, rfl, rfl⟩ ⟨by show 2 + 1 ≤ 2 * f + 3; omega, by show 8 + (6 + 11) + 64 * 2 ≤ 64 * (2 * f + 3); omega⟩ ⟨Nat.zero_le _, Nat.zero_le _⟩ (sPart29 O P Y g hu _ _ _ _ _) ?_
  rintro _ _ ⟨rfl, rfl⟩
  iterate 2 (refine zv_step (bX4_tellBare (2 * f + 3)) rfl rfl trivial ?_)
  refine zv_step (bX4_tellBare (2 * f + 3)) rfl rfl (by decide) ?_
  iterate 7 (refine zv_step (bX4_tellBare (2 * f + 3)) rfl rfl trivial ?_)
  refine zv_V4 (bX4_tellBare (2 * f + 3)) rfl rfl rfl rfl rfl rfl rfl ⟨rfl, rfl, rfl⟩ ⟨by show 2 * f + 2 + 1 ≤ 2 * f + 3; omega, by show 8 + (5 + 11) + 64 * (2 * f + 2) ≤ 64 * (2 * f + 3); omega⟩ ⟨Nat.zero_le _, Nat.zero_le _⟩ (ih _ _ _ _ _ (pkW_01 _ _ _ _ _ _ _) rfl (by omega)) ?_
  rintro _ _ ⟨rfl, rfl⟩
  iterate 4 (refine zv_step (bX4_tellBare (2 * f + 3)) rfl rfl trivial ?_)
  refine zv_V1 (bX4_tellBare (2 * f + 3)) rfl rfl rfl rfl rfl rfl rfl ⟨rfl, rfl, rfl⟩ ⟨by show 0 + 1 ≤ 2 * f + 3; omega, by show 8 + (2 + 11) + 64 * 0 ≤ 64 * (2 * f + 3); omega⟩ ⟨Nat.zero_le _, Nat.zero_le _⟩ (sAdd29 O P Y g (by omega) _ _) ?_
  rintro _ _ ⟨rfl, rfl⟩
  iterate 8 (refine zv_step (bX4_tellBare (2 * f + 3)) rfl rfl trivial ?_)
  refine zv_V4 (bX4_tellBare (2 * f + 3)) rfl rfl rfl rfl rfl rfl rfl ⟨rfl, rfl, rfl⟩ ⟨by show 2 + 1 ≤ 2 * f + 3; omega, by show 8 + (6 + 11) + 64 * 2 ≤ 64 * (2 * f + 3); omega⟩ ⟨Nat.zero_le _, Nat.zero_le _⟩ (sPart29 O P Y g hu _ _ _ _ _) ?_
  rintro _ _ ⟨rfl, rfl⟩
  iterate 3 (refine zv_step (bX4_tellBare (2 * f + 3)) rfl rfl trivial ?_)
  refine zv_V4 (bX4_tellBare (2 * f + 3)) rfl rfl rfl rfl rfl rfl rfl ⟨rfl, rfl, rfl⟩ ⟨by show 2 * f + 2 + 1 ≤ 2 * f + 3; omega, by show 8 + (5 + 11) + 64 * (2 * f + 2) ≤ 64 * (2 * f + 3); omega⟩ ⟨Nat.zero_le _, Nat.zero_le _⟩ (ih _ _ _ _ _ (pkW_01 _ _ _ _ _ _ _) rfl (by omega)) ?_
  rintro _ _ ⟨rfl, rfl⟩
  exact zv_ret (bX4_tellBare (2 * f + 3)) rfl rfl (Nat.zero_le _) (Nat.zero_le _) ⟨rfl, by rw [hc, List.length_append, List.length_cons, show q + ((tlW (O 1) (O 7) (O 8) P f (P 4 (nC n)) (pkW (O 1) (O 7) (O 8) P (nI 4) (P 4 (nC n)) (Int32.ofInt 1))).length + ((tlW (O 1) (O 7) (O 8) P f (P 5 (nC n)) (pkW (O 1) (O 7) (O 8) P (nI 4) (P 5 (nC n)) (Int32.ofInt 0))).length + 1)) = q + (tlW (O 1) (O 7) (O 8) P f (P 4 (nC n)) (pkW (O 1) (O 7) (O 8) P (nI 4) (P 4 (nC n)) (Int32.ofInt 1))).length + 1 + (tlW (O 1) (O 7) (O 8) P f (P 5 (nC n)) (pkW (O 1) (O 7) (O 8) P (nI 4) (P 5 (nC n)) (Int32.ofInt 0))).length by omega, ap8_app]; rfl⟩
set_option maxHeartbeats 1000000 in
set_option maxRecDepth 20000 in
theorem sBare29_5 (O : Nat → Int32) (P : Nat → Nat → Int32) (Y : Nat → Nat → Int64) (g : Nat → zC) (hu : (O 1).toInt ≤ 120) {f : Nat} (ih : ∀ (x kept z : Int32) (q : Nat) (row : Nat → Int32), (kept = 0 ∨ kept = 1) → z = nI f - Int32.ofInt 1 → q + (tlW (O 1) (O 7) (O 8) P f x kept).length < 2 ^ 30 → zK (2 * f + 2) zX4_tell [.ref 29, .ref 1, .int x, .int kept, .int z] (wX (upd O 6 (nI (q))) (updA P 30 (row)) Y g) (fun r w' => r = none ∧ w' = (wX (upd O 6 (nI (q + (tlW (O 1) (O 7) (O 8) P f x kept).length))) (updA P 30 (ap8 row q (tlW (O 1) (O 7) (O 8) P f x kept))) Y g))) {n : Int32} (hv : vp_in n 120) (hk : P 2 (nC n) = nI 5) (q : Nat) (row : Nat → Int32) (hq : q + (coW P (pkW (O 1) (O 7) (O 8) P) (tlW (O 1) (O 7) (O 8) P f) (nC n)).length < 2 ^ 30) : zK (2 * f + 3) zX4_tellBare [.ref 29, .ref 1, .int n, .int (nI f)] (wX (upd O 6 (nI (q))) (updA P 30 (row)) Y g) (fun r w' => r = none ∧ w' = (wX (upd O 6 (nI (q + (coW P (pkW (O 1) (O 7) (O 8) P) (tlW (O 1) (O 7) (O 8) P f) (nC n)).length))) (updA P 30 (ap8 row q (coW P (pkW (O 1) (O 7) (O 8) P) (tlW (O 1) (O 7) (O 8) P f) (nC n)))) Y g)) := by
  have hc : (coW P (pkW (O 1) (O 7) (O 8) P) (tlW (O 1) (O 7) (O 8) P f) (nC n)) = (tlW (O 1) (O 7) (O 8) P f (P 4 (nC n)) (pkW (O 1) (O 7) (O 8) P (nI 5) (P 4 (nC n)) (Int32.ofInt 1))) ++ ((c8 18 + nI 5) :: (tlW (O 1) (O 7) (O 8) P f (P 5 (nC n)) (pkW (O 1) (O 7) (O 8) P (nI 5) (P 5 (nC n)) (Int32.ofInt 0)))) := by
    unfold coW
    rw [if_neg (by rw [hk]; decide), if_neg (by rw [hk]; decide), if_neg (by rw [hk]; decide), if_neg (by rw [hk]; decide), if_neg (by rw [hk]; decide), hk]
  have hq' : q + ((tlW (O 1) (O 7) (O 8) P f (P 4 (nC n)) (pkW (O 1) (O 7) (O 8) P (nI 5) (P 4 (nC n)) (Int32.ofInt 1))) ++ ((c8 18 + nI 5) :: (tlW (O 1) (O 7) (O 8) P f (P 5 (nC n)) (pkW (O 1) (O 7) (O 8) P (nI 5) (P 5 (nC n)) (Int32.ofInt 0))))).length < 2 ^ 30 := by rw [← hc]; exact hq
  (try simp only [List.length_cons, List.length_append, List.length_nil] at hq')
  refine zK_of qX4_tellBare (by decide +kernel) rfl ?_
  iterate 3 (refine zv_step (bX4_tellBare (2 * f + 3)) rfl rfl trivial ?_)
  refine zv_iale (bX4_tellBare (2 * f + 3)) rfl rfl hv (show P 2 n.toNatClampNeg = nI 5 from hk) ?_
  iterate 4 (refine zv_step (bX4_tellBare (2 * f + 3)) rfl rfl trivial ?_)
  refine zv_iale (bX4_tellBare (2 * f + 3)) rfl rfl hv (v := P 4 (nC n)) rfl ?_
  iterate 4 (refine zv_step (bX4_tellBare (2 * f + 3)) rfl rfl trivial ?_)
  refine zv_iale (bX4_tellBare (2 * f + 3)) rfl rfl hv (v := P 5 (nC n)) rfl ?_
  iterate 6 (refine zv_step (bX4_tellBare (2 * f + 3)) rfl rfl trivial ?_)
  refine zv_V4 (bX4_tellBare (2 * f + 3)) rfl rfl rfl rfl rfl rfl rfl ⟨rfl, rfl, rfl⟩ ⟨by show 2 + 1 ≤ 2 * f + 3; omega, by show 8 + (6 + 11) + 64 * 2 ≤ 64 * (2 * f + 3); omega⟩ ⟨Nat.zero_le _, Nat.zero_le _⟩ (sPart29 O P Y g hu _ _ _ _ _) ?_
  rintro _ _ ⟨rfl, rfl⟩
  iterate 2 (refine zv_step (bX4_tellBare (2 * f + 3)) rfl rfl trivial ?_)
  refine zv_step (bX4_tellBare (2 * f + 3)) rfl rfl (by decide) ?_
  iterate 7 (refine zv_step (bX4_tellBare (2 * f + 3)) rfl rfl trivial ?_)
  refine zv_V4 (bX4_tellBare (2 * f + 3)) rfl rfl rfl rfl rfl rfl rfl ⟨rfl, rfl, rfl⟩ ⟨by show 2 * f + 2 + 1 ≤ 2 * f + 3; omega, by show 8 + (5 + 11) + 64 * (2 * f + 2) ≤ 64 * (2 * f + 3); omega⟩ ⟨Nat.zero_le _, Nat.zero_le _⟩ (ih _ _ _ _ _ (pkW_01 _ _ _ _ _ _ _) rfl (by omega)) ?_
  rintro _ _ ⟨rfl, rfl⟩
  iterate 4 (refine zv_step (bX4_tellBare (2 * f + 3)) rfl rfl trivial ?_)
  refine zv_V1 (bX4_tellBare (2 * f + 3)) rfl rfl rfl rfl rfl rfl rfl ⟨rfl, rfl, rfl⟩ ⟨by show 0 + 1 ≤ 2 * f + 3; omega, by show 8 + (2 + 11) + 64 * 0 ≤ 64 * (2 * f + 3); omega⟩ ⟨Nat.zero_le _, Nat.zero_le _⟩ (sAdd29 O P Y g (by omega) _ _) ?_
  rintro _ _ ⟨rfl, rfl⟩
  iterate 8 (refine zv_step (bX4_tellBare (2 * f + 3)) rfl rfl trivial ?_)
  refine zv_V4 (bX4_tellBare (2 * f + 3)) rfl rfl rfl rfl rfl rfl rfl ⟨rfl, rfl, rfl⟩ ⟨by show 2 + 1 ≤ 2 * f + 3; omega, by show 8 + (6 + 11) + 64 * 2 ≤ 64 * (2 * f + 3); omega⟩ ⟨Nat.zero_le _, Nat.zero_le _⟩ (sPart29 O P Y g hu _ _ _ _ _) ?_
  rintro _ _ ⟨rfl, rfl⟩
  iterate 3 (refine zv_step (bX4_tellBare (2 * f + 3)) rfl rfl trivial ?_)
  refine zv_V4 (bX4_tellBare (2 * f + 3)) rfl rfl rfl rfl rfl rfl rfl ⟨rfl, rfl, rfl⟩ ⟨by show 2 * f + 2 + 1 ≤ 2 * f + 3; omega, by show 8 + (5 + 11) + 64 * (2 * f + 2) ≤ 64 * (2 * f + 3); omega⟩ ⟨Nat.zero_le _, Nat.zero_le _⟩ (ih _ _ _ _ _ (pkW_01 _ _ _ _ _ _ _) rfl (by omega)) ?_
  rintro _ _ ⟨rfl, rfl⟩
  exact zv_ret (bX4_tellBare (2 * f + 3)) rfl rfl (Nat.zero_le _) (Nat.zero_le _) ⟨rfl, by rw [hc, List.length_append, List.length_cons, show q + ((tlW (O 1) (O 7) (O 8) P f (P 4 (nC n)) (pkW (O 1) (O 7) (O 8) P (nI 5) (P 4 (nC n)) (Int32.ofInt 1))).length + ((tlW (O 1) (O 7) (O 8) P f (P 5 (nC n)) (pkW (O 1) (O 7) (O 8) P (nI 5) (P 5 (nC n)) (Int32.ofInt 0))).length + 1)) = q + (tlW (O 1) (O 7) (O 8) P f (P 4 (nC n)) (pkW (O 1) (O 7) (O 8) P (nI 5) (P 4 (nC n)) (Int32.ofInt 1))).length + 1 + (tlW (O 1) (O 7) (O 8) P f (P 5 (nC n)) (pkW (O 1) (O 7) (O 8) P (nI 5) (P 5 (nC n)) (Int32.ofInt 0))).length by omega, ap8_app]; rfl⟩
set_option maxHeartbeats 1000000 in
set_option maxRecDepth 20000 in
theorem sBare29_6 (O : Nat → Int32) (P : Nat → Nat → Int32) (Y : Nat → Nat → Int64) (g : Nat → zC) (hu : (O 1).toInt ≤ 120) {f : Nat} (ih : ∀ (x kept z : Int32) (q : Nat) (row : Nat → Int32), (kept = 0 ∨ kept = 1) → z = nI f - Int32.ofInt 1 → q + (tlW (O 1) (O 7) (O 8) P f x kept).length < 2 ^ 30 → zK (2 * f + 2) zX4_tell [.ref 29, .ref 1, .int x, .int kept, .int z] (wX (upd O 6 (nI (q))) (updA P 30 (row)) Y g) (fun r w' => r = none ∧ w' = (wX (upd O 6 (nI (q + (tlW (O 1) (O 7) (O 8) P f x kept).length))) (updA P 30 (ap8 row q (tlW (O 1) (O 7) (O 8) P f x kept))) Y g))) {n : Int32} (hv : vp_in n 120) (hk : P 2 (nC n) = nI 6) (q : Nat) (row : Nat → Int32) (hq : q + (coW P (pkW (O 1) (O 7) (O 8) P) (tlW (O 1) (O 7) (O 8) P f) (nC n)).length < 2 ^ 30) : zK (2 * f + 3) zX4_tellBare [.ref 29, .ref 1, .int n, .int (nI f)] (wX (upd O 6 (nI (q))) (updA P 30 (row)) Y g) (fun r w' => r = none ∧ w' = (wX (upd O 6 (nI (q + (coW P (pkW (O 1) (O 7) (O 8) P) (tlW (O 1) (O 7) (O 8) P f) (nC n)).length))) (updA P 30 (ap8 row q (coW P (pkW (O 1) (O 7) (O 8) P) (tlW (O 1) (O 7) (O 8) P f) (nC n)))) Y g)) := by
  have hc : (coW P (pkW (O 1) (O 7) (O 8) P) (tlW (O 1) (O 7) (O 8) P f) (nC n)) = (tlW (O 1) (O 7) (O 8) P f (P 4 (nC n)) (pkW (O 1) (O 7) (O 8) P (nI 6) (P 4 (nC n)) (Int32.ofInt 1))) ++ ((c8 18 + nI 6) :: (tlW (O 1) (O 7) (O 8) P f (P 5 (nC n)) (pkW (O 1) (O 7) (O 8) P (nI 6) (P 5 (nC n)) (Int32.ofInt 0)))) := by
    unfold coW
    rw [if_neg (by rw [hk]; decide), if_neg (by rw [hk]; decide), if_neg (by rw [hk]; decide), if_neg (by rw [hk]; decide), if_neg (by rw [hk]; decide), hk]
  have hq' : q + ((tlW (O 1) (O 7) (O 8) P f (P 4 (nC n)) (pkW (O 1) (O 7) (O 8) P (nI 6) (P 4 (nC n)) (Int32.ofInt 1))) ++ ((c8 18 + nI 6) :: (tlW (O 1) (O 7) (O 8) P f (P 5 (nC n)) (pkW (O 1) (O 7) (O 8) P (nI 6) (P 5 (nC n)) (Int32.ofInt 0))))).length < 2 ^ 30 := by rw [← hc]; exact hq
  (try simp only [List.length_cons, List.length_append, List.length_nil] at hq')
  refine zK_of qX4_tellBare (by decide +kernel) rfl ?_
  iterate 3 (refine zv_step (bX4_tellBare (2 * f + 3)) rfl rfl trivial ?_)
  refine zv_iale (bX4_tellBare (2 * f + 3)) rfl rfl hv (show P 2 n.toNatClampNeg = nI 6 from hk) ?_
  iterate 4 (refine zv_step (bX4_tellBare (2 * f + 3)) rfl rfl trivial ?_)
  refine zv_iale (bX4_tellBare (2 * f + 3)) rfl rfl hv (v := P 4 (nC n)) rfl ?_
  iterate 4 (refine zv_step (bX4_tellBare (2 * f + 3)) rfl rfl trivial ?_)
  refine zv_iale (bX4_tellBare (2 * f + 3)) rfl rfl hv (v := P 5 (nC n)) rfl ?_
  iterate 6 (refine zv_step (bX4_tellBare (2 * f + 3)) rfl rfl trivial ?_)
  refine zv_V4 (bX4_tellBare (2 * f + 3)) rfl rfl rfl rfl rfl rfl rfl ⟨rfl, rfl, rfl⟩ ⟨by show 2 + 1 ≤ 2 * f + 3; omega, by show 8 + (6 + 11) + 64 * 2 ≤ 64 * (2 * f + 3); omega⟩ ⟨Nat.zero_le _, Nat.zero_le _⟩ (sPart29 O P Y g hu _ _ _ _ _) ?_
  rintro _ _ ⟨rfl, rfl⟩
  iterate 2 (refine zv_step (bX4_tellBare (2 * f + 3)) rfl rfl trivial ?_)
  refine zv_step (bX4_tellBare (2 * f + 3)) rfl rfl (by decide) ?_
  iterate 7 (refine zv_step (bX4_tellBare (2 * f + 3)) rfl rfl trivial ?_)
  refine zv_V4 (bX4_tellBare (2 * f + 3)) rfl rfl rfl rfl rfl rfl rfl ⟨rfl, rfl, rfl⟩ ⟨by show 2 * f + 2 + 1 ≤ 2 * f + 3; omega, by show 8 + (5 + 11) + 64 * (2 * f + 2) ≤ 64 * (2 * f + 3); omega⟩ ⟨Nat.zero_le _, Nat.zero_le _⟩ (ih _ _ _ _ _ (pkW_01 _ _ _ _ _ _ _) rfl (by omega)) ?_
  rintro _ _ ⟨rfl, rfl⟩
  iterate 4 (refine zv_step (bX4_tellBare (2 * f + 3)) rfl rfl trivial ?_)
  refine zv_V1 (bX4_tellBare (2 * f + 3)) rfl rfl rfl rfl rfl rfl rfl ⟨rfl, rfl, rfl⟩ ⟨by show 0 + 1 ≤ 2 * f + 3; omega, by show 8 + (2 + 11) + 64 * 0 ≤ 64 * (2 * f + 3); omega⟩ ⟨Nat.zero_le _, Nat.zero_le _⟩ (sAdd29 O P Y g (by omega) _ _) ?_
  rintro _ _ ⟨rfl, rfl⟩
  iterate 8 (refine zv_step (bX4_tellBare (2 * f + 3)) rfl rfl trivial ?_)
  refine zv_V4 (bX4_tellBare (2 * f + 3)) rfl rfl rfl rfl rfl rfl rfl ⟨rfl, rfl, rfl⟩ ⟨by show 2 + 1 ≤ 2 * f + 3; omega, by show 8 + (6 + 11) + 64 * 2 ≤ 64 * (2 * f + 3); omega⟩ ⟨Nat.zero_le _, Nat.zero_le _⟩ (sPart29 O P Y g hu _ _ _ _ _) ?_
  rintro _ _ ⟨rfl, rfl⟩
  iterate 3 (refine zv_step (bX4_tellBare (2 * f + 3)) rfl rfl trivial ?_)
  refine zv_V4 (bX4_tellBare (2 * f + 3)) rfl rfl rfl rfl rfl rfl rfl ⟨rfl, rfl, rfl⟩ ⟨by show 2 * f + 2 + 1 ≤ 2 * f + 3; omega, by show 8 + (5 + 11) + 64 * (2 * f + 2) ≤ 64 * (2 * f + 3); omega⟩ ⟨Nat.zero_le _, Nat.zero_le _⟩ (ih _ _ _ _ _ (pkW_01 _ _ _ _ _ _ _) rfl (by omega)) ?_
  rintro _ _ ⟨rfl, rfl⟩
  exact zv_ret (bX4_tellBare (2 * f + 3)) rfl rfl (Nat.zero_le _) (Nat.zero_le _) ⟨rfl, by rw [hc, List.length_append, List.length_cons, show q + ((tlW (O 1) (O 7) (O 8) P f (P 4 (nC n)) (pkW (O 1) (O 7) (O 8) P (nI 6) (P 4 (nC n)) (Int32.ofInt 1))).length + ((tlW (O 1) (O 7) (O 8) P f (P 5 (nC n)) (pkW (O 1) (O 7) (O 8) P (nI 6) (P 5 (nC n)) (Int32.ofInt 0))).length + 1)) = q + (tlW (O 1) (O 7) (O 8) P f (P 4 (nC n)) (pkW (O 1) (O 7) (O 8) P (nI 6) (P 4 (nC n)) (Int32.ofInt 1))).length + 1 + (tlW (O 1) (O 7) (O 8) P f (P 5 (nC n)) (pkW (O 1) (O 7) (O 8) P (nI 6) (P 5 (nC n)) (Int32.ofInt 0))).length by omega, ap8_app]; rfl⟩
set_option maxHeartbeats 1000000 in
set_option maxRecDepth 20000 in
theorem sBare29_7 (O : Nat → Int32) (P : Nat → Nat → Int32) (Y : Nat → Nat → Int64) (g : Nat → zC) (hu : (O 1).toInt ≤ 120) {f : Nat} (ih : ∀ (x kept z : Int32) (q : Nat) (row : Nat → Int32), (kept = 0 ∨ kept = 1) → z = nI f - Int32.ofInt 1 → q + (tlW (O 1) (O 7) (O 8) P f x kept).length < 2 ^ 30 → zK (2 * f + 2) zX4_tell [.ref 29, .ref 1, .int x, .int kept, .int z] (wX (upd O 6 (nI (q))) (updA P 30 (row)) Y g) (fun r w' => r = none ∧ w' = (wX (upd O 6 (nI (q + (tlW (O 1) (O 7) (O 8) P f x kept).length))) (updA P 30 (ap8 row q (tlW (O 1) (O 7) (O 8) P f x kept))) Y g))) {n : Int32} (hv : vp_in n 120) (hk : P 2 (nC n) = nI 7) (q : Nat) (row : Nat → Int32) (hq : q + (coW P (pkW (O 1) (O 7) (O 8) P) (tlW (O 1) (O 7) (O 8) P f) (nC n)).length < 2 ^ 30) : zK (2 * f + 3) zX4_tellBare [.ref 29, .ref 1, .int n, .int (nI f)] (wX (upd O 6 (nI (q))) (updA P 30 (row)) Y g) (fun r w' => r = none ∧ w' = (wX (upd O 6 (nI (q + (coW P (pkW (O 1) (O 7) (O 8) P) (tlW (O 1) (O 7) (O 8) P f) (nC n)).length))) (updA P 30 (ap8 row q (coW P (pkW (O 1) (O 7) (O 8) P) (tlW (O 1) (O 7) (O 8) P f) (nC n)))) Y g)) := by
  have hc : (coW P (pkW (O 1) (O 7) (O 8) P) (tlW (O 1) (O 7) (O 8) P f) (nC n)) = c8 25 :: (tlW (O 1) (O 7) (O 8) P f (P 4 (nC n)) (pkW (O 1) (O 7) (O 8) P (nI 7) (P 4 (nC n)) (Int32.ofInt 1))) := by
    unfold coW
    rw [if_neg (by rw [hk]; decide), if_neg (by rw [hk]; decide), if_pos hk]
  have hq' : q + (c8 25 :: (tlW (O 1) (O 7) (O 8) P f (P 4 (nC n)) (pkW (O 1) (O 7) (O 8) P (nI 7) (P 4 (nC n)) (Int32.ofInt 1)))).length < 2 ^ 30 := by rw [← hc]; exact hq
  (try simp only [List.length_cons, List.length_append, List.length_nil] at hq')
  refine zK_of qX4_tellBare (by decide +kernel) rfl ?_
  iterate 3 (refine zv_step (bX4_tellBare (2 * f + 3)) rfl rfl trivial ?_)
  refine zv_iale (bX4_tellBare (2 * f + 3)) rfl rfl hv (show P 2 n.toNatClampNeg = nI 7 from hk) ?_
  iterate 4 (refine zv_step (bX4_tellBare (2 * f + 3)) rfl rfl trivial ?_)
  refine zv_iale (bX4_tellBare (2 * f + 3)) rfl rfl hv (v := P 4 (nC n)) rfl ?_
  iterate 4 (refine zv_step (bX4_tellBare (2 * f + 3)) rfl rfl trivial ?_)
  refine zv_iale (bX4_tellBare (2 * f + 3)) rfl rfl hv (v := P 5 (nC n)) rfl ?_
  iterate 6 (refine zv_step (bX4_tellBare (2 * f + 3)) rfl rfl trivial ?_)
  refine zv_V4 (bX4_tellBare (2 * f + 3)) rfl rfl rfl rfl rfl rfl rfl ⟨rfl, rfl, rfl⟩ ⟨by show 2 + 1 ≤ 2 * f + 3; omega, by show 8 + (6 + 11) + 64 * 2 ≤ 64 * (2 * f + 3); omega⟩ ⟨Nat.zero_le _, Nat.zero_le _⟩ (sPart29 O P Y g hu _ _ _ _ _) ?_
  rintro _ _ ⟨rfl, rfl⟩
  iterate 2 (refine zv_step (bX4_tellBare (2 * f + 3)) rfl rfl trivial ?_)
  refine zv_step (bX4_tellBare (2 * f + 3)) rfl rfl (by decide) ?_
  iterate 2 (refine zv_step (bX4_tellBare (2 * f + 3)) rfl rfl trivial ?_)
  refine zv_V1 (bX4_tellBare (2 * f + 3)) rfl rfl rfl rfl rfl rfl rfl ⟨rfl, rfl, rfl⟩ ⟨by show 0 + 1 ≤ 2 * f + 3; omega, by show 8 + (2 + 11) + 64 * 0 ≤ 64 * (2 * f + 3); omega⟩ ⟨Nat.zero_le _, Nat.zero_le _⟩ (sAdd29 O P Y g (by omega) _ _) ?_
  rintro _ _ ⟨rfl, rfl⟩
  iterate 7 (refine zv_step (bX4_tellBare (2 * f + 3)) rfl rfl trivial ?_)
  refine zv_V4 (bX4_tellBare (2 * f + 3)) rfl rfl rfl rfl rfl rfl rfl ⟨rfl, rfl, rfl⟩ ⟨by show 2 * f + 2 + 1 ≤ 2 * f + 3; omega, by show 8 + (5 + 11) + 64 * (2 * f + 2) ≤ 64 * (2 * f + 3); omega⟩ ⟨Nat.zero_le _, Nat.zero_le _⟩ (ih _ _ _ _ _ (pkW_01 _ _ _ _ _ _ _) rfl (by omega)) ?_
  rintro _ _ ⟨rfl, rfl⟩
  iterate 1 (refine zv_step (bX4_tellBare (2 * f + 3)) rfl rfl trivial ?_)
  exact zv_ret (bX4_tellBare (2 * f + 3)) rfl rfl (Nat.zero_le _) (Nat.zero_le _) ⟨rfl, by rw [hc, List.length_cons, show q + ((tlW (O 1) (O 7) (O 8) P f (P 4 (nC n)) (pkW (O 1) (O 7) (O 8) P (nI 7) (P 4 (nC n)) (Int32.ofInt 1))).length + 1) = q + 1 + (tlW (O 1) (O 7) (O 8) P f (P 4 (nC n)) (pkW (O 1) (O 7) (O 8) P (nI 7) (P 4 (nC n)) (Int32.ofInt 1))).length by omega]; rfl⟩
set_option maxHeartbeats 1000000 in
set_option maxRecDepth 20000 in
theorem sBare29_8 (O : Nat → Int32) (P : Nat → Nat → Int32) (Y : Nat → Nat → Int64) (g : Nat → zC) (hu : (O 1).toInt ≤ 120) {f : Nat} (ih : ∀ (x kept z : Int32) (q : Nat) (row : Nat → Int32), (kept = 0 ∨ kept = 1) → z = nI f - Int32.ofInt 1 → q + (tlW (O 1) (O 7) (O 8) P f x kept).length < 2 ^ 30 → zK (2 * f + 2) zX4_tell [.ref 29, .ref 1, .int x, .int kept, .int z] (wX (upd O 6 (nI (q))) (updA P 30 (row)) Y g) (fun r w' => r = none ∧ w' = (wX (upd O 6 (nI (q + (tlW (O 1) (O 7) (O 8) P f x kept).length))) (updA P 30 (ap8 row q (tlW (O 1) (O 7) (O 8) P f x kept))) Y g))) {n : Int32} (hv : vp_in n 120) (hk : P 2 (nC n) = nI 8) (q : Nat) (row : Nat → Int32) (hq : q + (coW P (pkW (O 1) (O 7) (O 8) P) (tlW (O 1) (O 7) (O 8) P f) (nC n)).length < 2 ^ 30) : zK (2 * f + 3) zX4_tellBare [.ref 29, .ref 1, .int n, .int (nI f)] (wX (upd O 6 (nI (q))) (updA P 30 (row)) Y g) (fun r w' => r = none ∧ w' = (wX (upd O 6 (nI (q + (coW P (pkW (O 1) (O 7) (O 8) P) (tlW (O 1) (O 7) (O 8) P f) (nC n)).length))) (updA P 30 (ap8 row q (coW P (pkW (O 1) (O 7) (O 8) P) (tlW (O 1) (O 7) (O 8) P f) (nC n)))) Y g)) := by
  have hc : (coW P (pkW (O 1) (O 7) (O 8) P) (tlW (O 1) (O 7) (O 8) P f) (nC n)) = c8 26 :: ((tlW (O 1) (O 7) (O 8) P f (P 4 (nC n)) (pkW (O 1) (O 7) (O 8) P (nI 8) (P 4 (nC n)) (Int32.ofInt 1))) ++ [c8 27]) := by
    unfold coW
    rw [if_neg (by rw [hk]; decide), if_neg (by rw [hk]; decide), if_neg (by rw [hk]; decide), if_pos hk]
  have hq' : q + (c8 26 :: ((tlW (O 1) (O 7) (O 8) P f (P 4 (nC n)) (pkW (O 1) (O 7) (O 8) P (nI 8) (P 4 (nC n)) (Int32.ofInt 1))) ++ [c8 27])).length < 2 ^ 30 := by rw [← hc]; exact hq
  (try simp only [List.length_cons, List.length_append, List.length_nil] at hq')
  refine zK_of qX4_tellBare (by decide +kernel) rfl ?_
  iterate 3 (refine zv_step (bX4_tellBare (2 * f + 3)) rfl rfl trivial ?_)
  refine zv_iale (bX4_tellBare (2 * f + 3)) rfl rfl hv (show P 2 n.toNatClampNeg = nI 8 from hk) ?_
  iterate 4 (refine zv_step (bX4_tellBare (2 * f + 3)) rfl rfl trivial ?_)
  refine zv_iale (bX4_tellBare (2 * f + 3)) rfl rfl hv (v := P 4 (nC n)) rfl ?_
  iterate 4 (refine zv_step (bX4_tellBare (2 * f + 3)) rfl rfl trivial ?_)
  refine zv_iale (bX4_tellBare (2 * f + 3)) rfl rfl hv (v := P 5 (nC n)) rfl ?_
  iterate 6 (refine zv_step (bX4_tellBare (2 * f + 3)) rfl rfl trivial ?_)
  refine zv_V4 (bX4_tellBare (2 * f + 3)) rfl rfl rfl rfl rfl rfl rfl ⟨rfl, rfl, rfl⟩ ⟨by show 2 + 1 ≤ 2 * f + 3; omega, by show 8 + (6 + 11) + 64 * 2 ≤ 64 * (2 * f + 3); omega⟩ ⟨Nat.zero_le _, Nat.zero_le _⟩ (sPart29 O P Y g hu _ _ _ _ _) ?_
  rintro _ _ ⟨rfl, rfl⟩
  iterate 2 (refine zv_step (bX4_tellBare (2 * f + 3)) rfl rfl trivial ?_)
  refine zv_step (bX4_tellBare (2 * f + 3)) rfl rfl (by decide) ?_
  iterate 2 (refine zv_step (bX4_tellBare (2 * f + 3)) rfl rfl trivial ?_)
  refine zv_V1 (bX4_tellBare (2 * f + 3)) rfl rfl rfl rfl rfl rfl rfl ⟨rfl, rfl, rfl⟩ ⟨by show 0 + 1 ≤ 2 * f + 3; omega, by show 8 + (2 + 11) + 64 * 0 ≤ 64 * (2 * f + 3); omega⟩ ⟨Nat.zero_le _, Nat.zero_le _⟩ (sAdd29 O P Y g (by omega) _ _) ?_
  rintro _ _ ⟨rfl, rfl⟩
  iterate 7 (refine zv_step (bX4_tellBare (2 * f + 3)) rfl rfl trivial ?_)
  refine zv_V4 (bX4_tellBare (2 * f + 3)) rfl rfl rfl rfl rfl rfl rfl ⟨rfl, rfl, rfl⟩ ⟨by show 2 * f + 2 + 1 ≤ 2 * f + 3; omega, by show 8 + (5 + 11) + 64 * (2 * f + 2) ≤ 64 * (2 * f + 3); omega⟩ ⟨Nat.zero_le _, Nat.zero_le _⟩ (ih _ _ _ _ _ (pkW_01 _ _ _ _ _ _ _) rfl (by omega)) ?_
  rintro _ _ ⟨rfl, rfl⟩
  iterate 2 (refine zv_step (bX4_tellBare (2 * f + 3)) rfl rfl trivial ?_)
  refine zv_V1 (bX4_tellBare (2 * f + 3)) rfl rfl rfl rfl rfl rfl rfl ⟨rfl, rfl, rfl⟩ ⟨by show 0 + 1 ≤ 2 * f + 3; omega, by show 8 + (2 + 11) + 64 * 0 ≤ 64 * (2 * f + 3); omega⟩ ⟨Nat.zero_le _, Nat.zero_le _⟩ (sAdd29 O P Y g (by omega) _ _) ?_
  rintro _ _ ⟨rfl, rfl⟩
  iterate 1 (refine zv_step (bX4_tellBare (2 * f + 3)) rfl rfl trivial ?_)
  exact zv_ret (bX4_tellBare (2 * f + 3)) rfl rfl (Nat.zero_le _) (Nat.zero_le _) ⟨rfl, by rw [hc, List.length_cons, List.length_append, List.length_singleton, show q + ((tlW (O 1) (O 7) (O 8) P f (P 4 (nC n)) (pkW (O 1) (O 7) (O 8) P (nI 8) (P 4 (nC n)) (Int32.ofInt 1))).length + 1 + 1) = q + 1 + (tlW (O 1) (O 7) (O 8) P f (P 4 (nC n)) (pkW (O 1) (O 7) (O 8) P (nI 8) (P 4 (nC n)) (Int32.ofInt 1))).length + 1 by omega]; show _ = (wX (upd O 6 (nI (_))) (updA P 30 (ap8 (ap1 row q (c8 26)) (q + 1) ((tlW (O 1) (O 7) (O 8) P f (P 4 (nC n)) (pkW (O 1) (O 7) (O 8) P (nI 8) (P 4 (nC n)) (Int32.ofInt 1))) ++ [c8 27]))) Y g); rw [ap8_app]; rfl⟩
set_option maxHeartbeats 1000000 in
set_option maxRecDepth 20000 in
theorem sBare29_9 (O : Nat → Int32) (P : Nat → Nat → Int32) (Y : Nat → Nat → Int64) (g : Nat → zC) (hu : (O 1).toInt ≤ 120) {f : Nat} (ih : ∀ (x kept z : Int32) (q : Nat) (row : Nat → Int32), (kept = 0 ∨ kept = 1) → z = nI f - Int32.ofInt 1 → q + (tlW (O 1) (O 7) (O 8) P f x kept).length < 2 ^ 30 → zK (2 * f + 2) zX4_tell [.ref 29, .ref 1, .int x, .int kept, .int z] (wX (upd O 6 (nI (q))) (updA P 30 (row)) Y g) (fun r w' => r = none ∧ w' = (wX (upd O 6 (nI (q + (tlW (O 1) (O 7) (O 8) P f x kept).length))) (updA P 30 (ap8 row q (tlW (O 1) (O 7) (O 8) P f x kept))) Y g))) {n : Int32} (hv : vp_in n 120) (hk : P 2 (nC n) = nI 9) (q : Nat) (row : Nat → Int32) (hq : q + (coW P (pkW (O 1) (O 7) (O 8) P) (tlW (O 1) (O 7) (O 8) P f) (nC n)).length < 2 ^ 30) : zK (2 * f + 3) zX4_tellBare [.ref 29, .ref 1, .int n, .int (nI f)] (wX (upd O 6 (nI (q))) (updA P 30 (row)) Y g) (fun r w' => r = none ∧ w' = (wX (upd O 6 (nI (q + (coW P (pkW (O 1) (O 7) (O 8) P) (tlW (O 1) (O 7) (O 8) P f) (nC n)).length))) (updA P 30 (ap8 row q (coW P (pkW (O 1) (O 7) (O 8) P) (tlW (O 1) (O 7) (O 8) P f) (nC n)))) Y g)) := by
  have hc : (coW P (pkW (O 1) (O 7) (O 8) P) (tlW (O 1) (O 7) (O 8) P f) (nC n)) = P 3 (nC n) :: c8 28 :: (tlW (O 1) (O 7) (O 8) P f (P 4 (nC n)) (pkW (O 1) (O 7) (O 8) P (nI 9) (P 4 (nC n)) (Int32.ofInt 1))) := by
    unfold coW
    rw [if_neg (by rw [hk]; decide), if_neg (by rw [hk]; decide), if_neg (by rw [hk]; decide), if_neg (by rw [hk]; decide), if_pos hk]
  have hq' : q + (P 3 (nC n) :: c8 28 :: (tlW (O 1) (O 7) (O 8) P f (P 4 (nC n)) (pkW (O 1) (O 7) (O 8) P (nI 9) (P 4 (nC n)) (Int32.ofInt 1)))).length < 2 ^ 30 := by rw [← hc]; exact hq
  (try simp only [List.length_cons, List.length_append, List.length_nil] at hq')
  refine zK_of qX4_tellBare (by decide +kernel) rfl ?_
  iterate 3 (refine zv_step (bX4_tellBare (2 * f + 3)) rfl rfl trivial ?_)
  refine zv_iale (bX4_tellBare (2 * f + 3)) rfl rfl hv (show P 2 n.toNatClampNeg = nI 9 from hk) ?_
  iterate 4 (refine zv_step (bX4_tellBare (2 * f + 3)) rfl rfl trivial ?_)
  refine zv_iale (bX4_tellBare (2 * f + 3)) rfl rfl hv (v := P 4 (nC n)) rfl ?_
  iterate 4 (refine zv_step (bX4_tellBare (2 * f + 3)) rfl rfl trivial ?_)
  refine zv_iale (bX4_tellBare (2 * f + 3)) rfl rfl hv (v := P 5 (nC n)) rfl ?_
  iterate 6 (refine zv_step (bX4_tellBare (2 * f + 3)) rfl rfl trivial ?_)
  refine zv_V4 (bX4_tellBare (2 * f + 3)) rfl rfl rfl rfl rfl rfl rfl ⟨rfl, rfl, rfl⟩ ⟨by show 2 + 1 ≤ 2 * f + 3; omega, by show 8 + (6 + 11) + 64 * 2 ≤ 64 * (2 * f + 3); omega⟩ ⟨Nat.zero_le _, Nat.zero_le _⟩ (sPart29 O P Y g hu _ _ _ _ _) ?_
  rintro _ _ ⟨rfl, rfl⟩
  iterate 2 (refine zv_step (bX4_tellBare (2 * f + 3)) rfl rfl trivial ?_)
  refine zv_step (bX4_tellBare (2 * f + 3)) rfl rfl (by decide) ?_
  iterate 4 (refine zv_step (bX4_tellBare (2 * f + 3)) rfl rfl trivial ?_)
  refine zv_iale (bX4_tellBare (2 * f + 3)) rfl rfl hv (v := P 3 (nC n)) rfl ?_
  refine zv_V1 (bX4_tellBare (2 * f + 3)) rfl rfl rfl rfl rfl rfl rfl ⟨rfl, rfl, rfl⟩ ⟨by show 0 + 1 ≤ 2 * f + 3; omega, by show 8 + (2 + 11) + 64 * 0 ≤ 64 * (2 * f + 3); omega⟩ ⟨Nat.zero_le _, Nat.zero_le _⟩ (sAdd29 O P Y g (by omega) _ _) ?_
  rintro _ _ ⟨rfl, rfl⟩
  iterate 2 (refine zv_step (bX4_tellBare (2 * f + 3)) rfl rfl trivial ?_)
  refine zv_V1 (bX4_tellBare (2 * f + 3)) rfl rfl rfl rfl rfl rfl rfl ⟨rfl, rfl, rfl⟩ ⟨by show 0 + 1 ≤ 2 * f + 3; omega, by show 8 + (2 + 11) + 64 * 0 ≤ 64 * (2 * f + 3); omega⟩ ⟨Nat.zero_le _, Nat.zero_le _⟩ (sAdd29 O P Y g (by omega) _ _) ?_
  rintro _ _ ⟨rfl, rfl⟩
  iterate 7 (refine zv_step (bX4_tellBare (2 * f + 3)) rfl rfl trivial ?_)
  refine zv_V4 (bX4_tellBare (2 * f + 3)) rfl rfl rfl rfl rfl rfl rfl ⟨rfl, rfl, rfl⟩ ⟨by show 2 * f + 2 + 1 ≤ 2 * f + 3; omega, by show 8 + (5 + 11) + 64 * (2 * f + 2) ≤ 64 * (2 * f + 3); omega⟩ ⟨Nat.zero_le _, Nat.zero_le _⟩ (ih _ _ _ _ _ (pkW_01 _ _ _ _ _ _ _) rfl (by omega)) ?_
  rintro _ _ ⟨rfl, rfl⟩
  iterate 1 (refine zv_step (bX4_tellBare (2 * f + 3)) rfl rfl trivial ?_)
  exact zv_ret (bX4_tellBare (2 * f + 3)) rfl rfl (Nat.zero_le _) (Nat.zero_le _) ⟨rfl, by rw [hc, List.length_cons, List.length_cons, show q + ((tlW (O 1) (O 7) (O 8) P f (P 4 (nC n)) (pkW (O 1) (O 7) (O 8) P (nI 9) (P 4 (nC n)) (Int32.ofInt 1))).length + 1 + 1) = q + 1 + 1 + (tlW (O 1) (O 7) (O 8) P f (P 4 (nC n)) (pkW (O 1) (O 7) (O 8) P (nI 9) (P 4 (nC n)) (Int32.ofInt 1))).length by omega]; rfl⟩
set_option maxHeartbeats 1000000 in
set_option maxRecDepth 20000 in
theorem sBare29 (O : Nat → Int32) (P : Nat → Nat → Int32) (Y : Nat → Nat → Int64) (g : Nat → zC) (hu : (O 1).toInt ≤ 120) (hK : ∀ j : Nat, (j : Int) < (O 1).toInt → ∃ k : Nat, k < 10 ∧ P 2 j = nI k) {f : Nat} (ih : ∀ (x kept z : Int32) (q : Nat) (row : Nat → Int32), (kept = 0 ∨ kept = 1) → z = nI f - Int32.ofInt 1 → q + (tlW (O 1) (O 7) (O 8) P f x kept).length < 2 ^ 30 → zK (2 * f + 2) zX4_tell [.ref 29, .ref 1, .int x, .int kept, .int z] (wX (upd O 6 (nI (q))) (updA P 30 (row)) Y g) (fun r w' => r = none ∧ w' = (wX (upd O 6 (nI (q + (tlW (O 1) (O 7) (O 8) P f x kept).length))) (updA P 30 (ap8 row q (tlW (O 1) (O 7) (O 8) P f x kept))) Y g))) {n : Int32} (hn : 0 ≤ n.toInt ∧ n.toInt < (O 1).toInt) (q : Nat) (row : Nat → Int32) (hq : q + (coW P (pkW (O 1) (O 7) (O 8) P) (tlW (O 1) (O 7) (O 8) P f) (nC n)).length < 2 ^ 30) : zK (2 * f + 3) zX4_tellBare [.ref 29, .ref 1, .int n, .int (nI f)] (wX (upd O 6 (nI (q))) (updA P 30 (row)) Y g) (fun r w' => r = none ∧ w' = (wX (upd O 6 (nI (q + (coW P (pkW (O 1) (O 7) (O 8) P) (tlW (O 1) (O 7) (O 8) P f) (nC n)).length))) (updA P 30 (ap8 row q (coW P (pkW (O 1) (O 7) (O 8) P) (tlW (O 1) (O 7) (O 8) P f) (nC n)))) Y g)) := by
  have hv : vp_in n 120 := vp_in_iff.mpr ⟨hn.1, Int.lt_of_lt_of_le hn.2 hu⟩
  obtain ⟨j, hj, e⟩ := vp_in_of hv (by decide)
  have hnj : nC n = j := by rw [e]; exact nI_clamp (by omega)
  have hji : n.toInt = j := by rw [e]; exact nI_toInt (by omega)
  obtain ⟨k, hk, hk2⟩ := hK (nC n) (by rw [hnj]; omega)
  match k, hk, hk2 with
  | 0, _, hk2 => exact sBare29_0 O P Y g hu ih hv hk2 q row hq
  | 1, _, hk2 => exact sBare29_1 O P Y g hu ih hv hk2 q row hq
  | 2, _, hk2 => exact sBare29_2 O P Y g hu ih hv hk2 q row hq
  | 3, _, hk2 => exact sBare29_3 O P Y g hu ih hv hk2 q row hq
  | 4, _, hk2 => exact sBare29_4 O P Y g hu ih hv hk2 q row hq
  | 5, _, hk2 => exact sBare29_5 O P Y g hu ih hv hk2 q row hq
  | 6, _, hk2 => exact sBare29_6 O P Y g hu ih hv hk2 q row hq
  | 7, _, hk2 => exact sBare29_7 O P Y g hu ih hv hk2 q row hq
  | 8, _, hk2 => exact sBare29_8 O P Y g hu ih hv hk2 q row hq
  | 9, _, hk2 => exact sBare29_9 O P Y g hu ih hv hk2 q row hq
  | k + 10, h, _ => exact absurd h (by omega)
set_option maxHeartbeats 1000000 in
set_option maxRecDepth 20000 in
theorem sTell29 (O : Nat → Int32) (P : Nat → Nat → Int32) (Y : Nat → Nat → Int64) (g : Nat → zC) (hu : (O 1).toInt ≤ 120) (hK : ∀ j : Nat, (j : Int) < (O 1).toInt → ∃ k : Nat, k < 10 ∧ P 2 j = nI k) : ∀ f : Nat, f < 2 ^ 20 → ∀ (x kept z : Int32) (q : Nat) (row : Nat → Int32), (kept = 0 ∨ kept = 1) → z = nI f - Int32.ofInt 1 → q + (tlW (O 1) (O 7) (O 8) P f x kept).length < 2 ^ 30 → zK (2 * f + 2) zX4_tell [.ref 29, .ref 1, .int x, .int kept, .int z] (wX (upd O 6 (nI (q))) (updA P 30 (row)) Y g) (fun r w' => r = none ∧ w' = (wX (upd O 6 (nI (q + (tlW (O 1) (O 7) (O 8) P f x kept).length))) (updA P 30 (ap8 row q (tlW (O 1) (O 7) (O 8) P f x kept))) Y g)) := by
  intro f
  induction f with
  | zero =>
    intro hf x kept z q row hk hz hq
    subst hz
    refine zK_of qX4_tell (by decide +kernel) rfl ?_
    iterate 2 (refine zv_step (bX4_tell (2 * 0 + 2)) rfl rfl trivial ?_)
    refine zv_V1 (bX4_tell (2 * 0 + 2)) rfl rfl rfl rfl rfl rfl rfl ⟨rfl, rfl, rfl⟩ ⟨by show 0 + 1 ≤ (2 * 0 + 2); omega, by show 8 + (2 + 11) + 64 * 0 ≤ 64 * (2 * 0 + 2); omega⟩ ⟨Nat.zero_le _, Nat.zero_le _⟩ (sHas29 O P Y g _ _ _) ?_
    rintro _ _ ⟨rfl, ⟨hh, rfl⟩ | ⟨hh, rfl⟩⟩
    · iterate 1 (refine zv_step (bX4_tell (2 * 0 + 2)) rfl rfl trivial ?_)
      refine zv_ift (by decide) ?_
      have ht : tlW (O 1) (O 7) (O 8) P 0 x kept = [Int32.ofInt 0] := by rw [tlW_0, if_pos hh]
      rw [ht, List.length_singleton] at hq
      iterate 2 (refine zv_step (bX4_tell (2 * 0 + 2)) rfl rfl trivial ?_)
      refine zv_iff (by decide) ?_
      iterate 2 (refine zv_step (bX4_tell (2 * 0 + 2)) rfl rfl trivial ?_)
      refine zv_V1 (bX4_tell (2 * 0 + 2)) rfl rfl rfl rfl rfl rfl rfl ⟨rfl, rfl, rfl⟩ ⟨by show 0 + 1 ≤ (2 * 0 + 2); omega, by show 8 + (2 + 11) + 64 * 0 ≤ 64 * (2 * 0 + 2); omega⟩ ⟨Nat.zero_le _, Nat.zero_le _⟩ (sAdd29 O P Y g (by omega) _ _) ?_
      rintro _ _ ⟨rfl, rfl⟩
      exact zv_ret (bX4_tell (2 * 0 + 2)) rfl rfl (Nat.zero_le _) (Nat.zero_le _) ⟨rfl, by rw [ht]; rfl⟩
    · iterate 1 (refine zv_step (bX4_tell (2 * 0 + 2)) rfl rfl trivial ?_)
      refine zv_iff (by decide) ?_
      exact zv_ret (bX4_tell (2 * 0 + 2)) rfl rfl (Nat.zero_le _) (Nat.zero_le _) ⟨rfl, by rw [show tlW (O 1) (O 7) (O 8) P 0 x kept = [] by rw [tlW_0, if_neg hh]]; rfl⟩
  | succ f ih =>
    intro hf x kept z q row hk hz hq
    have ih := ih (by omega)
    subst hz
    rcases hk with rfl | rfl
    · refine zK_of qX4_tell (by decide +kernel) rfl ?_
      iterate 2 (refine zv_step (bX4_tell (2 * (f + 1) + 2)) rfl rfl trivial ?_)
      refine zv_V1 (bX4_tell (2 * (f + 1) + 2)) rfl rfl rfl rfl rfl rfl rfl ⟨rfl, rfl, rfl⟩ ⟨by show 0 + 1 ≤ (2 * (f + 1) + 2); omega, by show 8 + (2 + 11) + 64 * 0 ≤ 64 * (2 * (f + 1) + 2); omega⟩ ⟨Nat.zero_le _, Nat.zero_le _⟩ (sHas29 O P Y g _ _ _) ?_
      rintro _ _ ⟨rfl, ⟨hh, rfl⟩ | ⟨hh, rfl⟩⟩
      · iterate 1 (refine zv_step (bX4_tell (2 * (f + 1) + 2)) rfl rfl trivial ?_)
        refine zv_ift (by decide) ?_
        iterate 2 (refine zv_step (bX4_tell (2 * (f + 1) + 2)) rfl rfl trivial ?_)
        refine zv_ift (show (0 : Int32) ≤ nI (f + 1) - Int32.ofInt 1 by rw [nI_m1]; exact nI_pos' (by omega)) ?_
        rw [nI_m1]
        have ht : tlW (O 1) (O 7) (O 8) P (f + 1) x 0 = (coW P (pkW (O 1) (O 7) (O 8) P) (tlW (O 1) (O 7) (O 8) P f) (nC x)) := by rw [tlW_s, if_pos hh, if_pos rfl]
        rw [ht] at hq
        iterate 2 (refine zv_step (bX4_tell (2 * (f + 1) + 2)) rfl rfl trivial ?_)
        refine zv_ift (by decide) ?_
        iterate 4 (refine zv_step (bX4_tell (2 * (f + 1) + 2)) rfl rfl trivial ?_)
        refine zv_V3 (bX4_tell (2 * (f + 1) + 2)) rfl rfl rfl rfl rfl rfl rfl ⟨rfl, rfl, rfl⟩ ⟨by show 2 * f + 3 + 1 ≤ 2 * (f + 1) + 2; omega, by show 8 + (8 + 11) + 64 * (2 * f + 3) ≤ 64 * (2 * (f + 1) + 2); omega⟩ ⟨Nat.zero_le _, Nat.zero_le _⟩ (sBare29 O P Y g hu hK ih hh _ _ (by omega)) ?_
        rintro _ _ ⟨rfl, rfl⟩
        iterate 2 (refine zv_step (bX4_tell (2 * (f + 1) + 2)) rfl rfl trivial ?_)
        refine zv_ift (by decide) ?_
        exact zv_ret (bX4_tell (2 * (f + 1) + 2)) rfl rfl (Nat.zero_le _) (Nat.zero_le _) ⟨rfl, by rw [ht]⟩
      · iterate 1 (refine zv_step (bX4_tell (2 * (f + 1) + 2)) rfl rfl trivial ?_)
        refine zv_iff (by decide) ?_
        exact zv_ret (bX4_tell (2 * (f + 1) + 2)) rfl rfl (Nat.zero_le _) (Nat.zero_le _) ⟨rfl, by rw [show tlW (O 1) (O 7) (O 8) P (f + 1) x 0 = [] by rw [tlW_s, if_neg hh]]; rfl⟩
    · refine zK_of qX4_tell (by decide +kernel) rfl ?_
      iterate 2 (refine zv_step (bX4_tell (2 * (f + 1) + 2)) rfl rfl trivial ?_)
      refine zv_V1 (bX4_tell (2 * (f + 1) + 2)) rfl rfl rfl rfl rfl rfl rfl ⟨rfl, rfl, rfl⟩ ⟨by show 0 + 1 ≤ (2 * (f + 1) + 2); omega, by show 8 + (2 + 11) + 64 * 0 ≤ 64 * (2 * (f + 1) + 2); omega⟩ ⟨Nat.zero_le _, Nat.zero_le _⟩ (sHas29 O P Y g _ _ _) ?_
      rintro _ _ ⟨rfl, ⟨hh, rfl⟩ | ⟨hh, rfl⟩⟩
      · iterate 1 (refine zv_step (bX4_tell (2 * (f + 1) + 2)) rfl rfl trivial ?_)
        refine zv_ift (by decide) ?_
        iterate 2 (refine zv_step (bX4_tell (2 * (f + 1) + 2)) rfl rfl trivial ?_)
        refine zv_ift (show (0 : Int32) ≤ nI (f + 1) - Int32.ofInt 1 by rw [nI_m1]; exact nI_pos' (by omega)) ?_
        rw [nI_m1]
        have ht : tlW (O 1) (O 7) (O 8) P (f + 1) x 1 = c8 29 :: ((coW P (pkW (O 1) (O 7) (O 8) P) (tlW (O 1) (O 7) (O 8) P f) (nC x)) ++ [c8 30]) := by rw [tlW_s, if_pos hh, if_neg (by decide)]
        have hl : (tlW (O 1) (O 7) (O 8) P (f + 1) x 1).length = (coW P (pkW (O 1) (O 7) (O 8) P) (tlW (O 1) (O 7) (O 8) P f) (nC x)).length + 2 := by rw [ht]; simp only [List.length_cons, List.length_append, List.length_nil]
        rw [hl] at hq
        iterate 2 (refine zv_step (bX4_tell (2 * (f + 1) + 2)) rfl rfl trivial ?_)
        refine zv_iff (by decide) ?_
        iterate 2 (refine zv_step (bX4_tell (2 * (f + 1) + 2)) rfl rfl trivial ?_)
        refine zv_V1 (bX4_tell (2 * (f + 1) + 2)) rfl rfl rfl rfl rfl rfl rfl ⟨rfl, rfl, rfl⟩ ⟨by show 0 + 1 ≤ (2 * (f + 1) + 2); omega, by show 8 + (2 + 11) + 64 * 0 ≤ 64 * (2 * (f + 1) + 2); omega⟩ ⟨Nat.zero_le _, Nat.zero_le _⟩ (sAdd29 O P Y g (by omega) _ _) ?_
        rintro _ _ ⟨rfl, rfl⟩
        iterate 4 (refine zv_step (bX4_tell (2 * (f + 1) + 2)) rfl rfl trivial ?_)
        refine zv_V3 (bX4_tell (2 * (f + 1) + 2)) rfl rfl rfl rfl rfl rfl rfl ⟨rfl, rfl, rfl⟩ ⟨by show 2 * f + 3 + 1 ≤ 2 * (f + 1) + 2; omega, by show 8 + (8 + 11) + 64 * (2 * f + 3) ≤ 64 * (2 * (f + 1) + 2); omega⟩ ⟨Nat.zero_le _, Nat.zero_le _⟩ (sBare29 O P Y g hu hK ih hh _ _ (by omega)) ?_
        rintro _ _ ⟨rfl, rfl⟩
        iterate 2 (refine zv_step (bX4_tell (2 * (f + 1) + 2)) rfl rfl trivial ?_)
        refine zv_iff (by decide) ?_
        iterate 2 (refine zv_step (bX4_tell (2 * (f + 1) + 2)) rfl rfl trivial ?_)
        refine zv_V1 (bX4_tell (2 * (f + 1) + 2)) rfl rfl rfl rfl rfl rfl rfl ⟨rfl, rfl, rfl⟩ ⟨by show 0 + 1 ≤ (2 * (f + 1) + 2); omega, by show 8 + (2 + 11) + 64 * 0 ≤ 64 * (2 * (f + 1) + 2); omega⟩ ⟨Nat.zero_le _, Nat.zero_le _⟩ (sAdd29 O P Y g (by omega) _ _) ?_
        rintro _ _ ⟨rfl, rfl⟩
        exact zv_ret (bX4_tell (2 * (f + 1) + 2)) rfl rfl (Nat.zero_le _) (Nat.zero_le _) ⟨rfl, by rw [hl, ht, show q + ((coW P (pkW (O 1) (O 7) (O 8) P) (tlW (O 1) (O 7) (O 8) P f) (nC x)).length + 2) = q + 1 + (coW P (pkW (O 1) (O 7) (O 8) P) (tlW (O 1) (O 7) (O 8) P f) (nC x)).length + 1 by omega]; show _ = (wX (upd O 6 (nI (_))) (updA P 30 (ap8 (ap1 row q (c8 29)) (q + 1) ((coW P (pkW (O 1) (O 7) (O 8) P) (tlW (O 1) (O 7) (O 8) P f) (nC x)) ++ [c8 30]))) Y g); rw [ap8_app]; rfl⟩
      · iterate 1 (refine zv_step (bX4_tell (2 * (f + 1) + 2)) rfl rfl trivial ?_)
        refine zv_iff (by decide) ?_
        exact zv_ret (bX4_tell (2 * (f + 1) + 2)) rfl rfl (Nat.zero_le _) (Nat.zero_le _) ⟨rfl, by rw [show tlW (O 1) (O 7) (O 8) P (f + 1) x 1 = [] by rw [tlW_s, if_neg hh]]; rfl⟩

