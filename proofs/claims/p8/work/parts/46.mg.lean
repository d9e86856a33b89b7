section
noncomputable def pkW (u kk sp : Int32) (P : Nat → Nat → Int32) (k x first : Int32) : Int32 := if 0 ≤ x.toInt ∧ x.toInt < u.toInt then (if sp = 0 then hbW kk (P 2 (nC x)) else dbW k (P 2 (nC x)) first) else Int32.ofInt 0
/-- the words of a NODE without its own begin and end, by the words T of its PARTS -/
def coW (P : Nat → Nat → Int32) (pk : Int32 → Int32 → Int32 → Int32) (T : Int32 → Int32 → List Int32) (n : Nat) : List Int32 :=
  if P 2 n = nI 0 then [P 3 n] else if P 2 n = nI 1 then dgW (P 3 n) else if P 2 n = nI 7 then c8 25 :: T (P 4 n) (pk (nI 7) (P 4 n) (Int32.ofInt 1)) else if P 2 n = nI 8 then c8 26 :: (T (P 4 n) (pk (nI 8) (P 4 n) (Int32.ofInt 1)) ++ [c8 27]) else if P 2 n = nI 9 then P 3 n :: c8 28 :: T (P 4 n) (pk (nI 9) (P 4 n) (Int32.ofInt 1))
  else T (P 4 n) (pk (P 2 n) (P 4 n) (Int32.ofInt 1)) ++ ((c8 18 + P 2 n) :: T (P 5 n) (pk (P 2 n) (P 5 n) (Int32.ofInt 0)))
noncomputable def tlW (u kk sp : Int32) (P : Nat → Nat → Int32) : Nat → Int32 → Int32 → List Int32
  | 0, n, _ => if 0 ≤ n.toInt ∧ n.toInt < u.toInt then [Int32.ofInt 0] else []
  | f + 1, n, kept => if 0 ≤ n.toInt ∧ n.toInt < u.toInt then (if kept = 0 then coW P (pkW u kk sp P) (tlW u kk sp P f) (nC n) else c8 29 :: (coW P (pkW u kk sp P) (tlW u kk sp P f) (nC n) ++ [c8 30])) else []
theorem tlW_0 (u kk sp : Int32) (P : Nat → Nat → Int32) (n kept : Int32) : tlW u kk sp P 0 n kept = (if 0 ≤ n.toInt ∧ n.toInt < u.toInt then [Int32.ofInt 0] else []) := rfl
theorem tlW_s (u kk sp : Int32) (P : Nat → Nat → Int32) (f : Nat) (n kept : Int32) : tlW u kk sp P (f + 1) n kept = (if 0 ≤ n.toInt ∧ n.toInt < u.toInt then (if kept = 0 then coW P (pkW u kk sp P) (tlW u kk sp P f) (nC n) else c8 29 :: (coW P (pkW u kk sp P) (tlW u kk sp P f) (nC n) ++ [c8 30])) else []) := rfl
theorem hbW_01 (x i : Int32) : hbW x i = 0 ∨ hbW x i = 1 := by
  unfold hbW
  split
  · exact Or.inl rfl
  · exact Or.inr rfl
theorem dbW_01 (k p f : Int32) : dbW k p f = 0 ∨ dbW k p f = 1 := by
  unfold dbW
  split <;> split <;> first | exact Or.inl rfl | exact Or.inr rfl
theorem pkW_01 (u kk sp : Int32) (P : Nat → Nat → Int32) (k x f : Int32) : pkW u kk sp P k x f = 0 ∨ pkW u kk sp P k x f = 1 := by
  unfold pkW
  split
  · split
    · exact hbW_01 _ _
    · exact dbW_01 _ _ _
  · exact Or.inl rfl
set_option maxHeartbeats 1000000 in
set_option maxRecDepth 20000 in
theorem pHasBitW (w : zW) (x i : Int32) : zK 0 zX1_hasBit [.int x, .int i] w (fun r w' => w' = w ∧ r = some (.int (hbW x i))) := by
  refine zK_of qX1_hasBit (by decide +kernel) rfl ?_
  iterate 6 (refine zv_step (bX1_hasBit 0) rfl rfl trivial ?_)
  refine zv_ifb (fun hc => ?_) (fun hc => ?_)
  · iterate 1 (refine zv_step (bX1_hasBit 0) rfl rfl trivial ?_)
    exact zv_iret (bX1_hasBit 0) rfl (Or.inr ⟨rfl, Or.inl rfl⟩) (Nat.zero_le _) (Nat.zero_le _) ⟨rfl, by unfold hbW; rw [if_pos hc]⟩
  · iterate 2 (refine zv_step (bX1_hasBit 0) rfl rfl trivial ?_)
    exact zv_iret (bX1_hasBit 0) rfl (Or.inr ⟨rfl, Or.inr rfl⟩) (Nat.zero_le _) (Nat.zero_le _) ⟨rfl, by unfold hbW; rw [if_neg hc]⟩
end
section
theorem sHas27 (O : Nat → Int32) (P : Nat → Nat → Int32) (Y : Nat → Nat → Int64) (g : Nat → zC) (q : Nat) (row : Nat → Int32) (x : Int32) : zK 0 zX2_has [.ref 1, .int x] (wX (upd O 3 (nI (q))) (updA P 28 (row)) Y g) (fun r w' => w' = (wX (upd O 3 (nI (q))) (updA P 28 (row)) Y g) ∧ (((0 ≤ x.toInt ∧ x.toInt < (O 1).toInt) ∧ r = some (.int 1)) ∨ (¬ (0 ≤ x.toInt ∧ x.toInt < (O 1).toInt) ∧ r = some (.int 0)))) := pHas1 (upd O 3 (nI q)) (updA P 28 row) Y g x
set_option maxHeartbeats 1000000 in
set_option maxRecDepth 20000 in
theorem sPart27 (O : Nat → Int32) (P : Nat → Nat → Int32) (Y : Nat → Nat → Int64) (g : Nat → zC) (hu : (O 1).toInt ≤ 120) (q : Nat) (row : Nat → Int32) (k x first : Int32) : zK 2 zX4_isPartKept [.ref 27, .ref 1, .int k, .int x, .int first] (wX (upd O 3 (nI (q))) (updA P 28 (row)) Y g) (fun r w' => w' = (wX (upd O 3 (nI (q))) (updA P 28 (row)) Y g) ∧ r = some (.int (pkW (O 1) (O 4) (O 5) P k x first))) := by
  refine zK_of qX4_isPartKept (by decide +kernel) rfl ?_
  iterate 2 (refine zv_step (bX4_isPartKept 2) rfl rfl trivial ?_)
  refine zv_V1 (bX4_isPartKept 2) rfl rfl rfl rfl rfl rfl rfl ⟨rfl, rfl, rfl⟩ ⟨by decide, by decide⟩ ⟨Nat.zero_le _, Nat.zero_le _⟩ (sHas27 O P Y g _ _ _) ?_
  rintro _ _ ⟨rfl, ⟨hh, rfl⟩ | ⟨hh, rfl⟩⟩
  · iterate 1 (refine zv_step (bX4_isPartKept 2) rfl rfl trivial ?_)
    refine zv_ift (by decide) ?_
    iterate 3 (refine zv_step (bX4_isPartKept 2) rfl rfl trivial ?_)
    refine zv_step (bX4_isPartKept 2) rfl rfl (vp_in_iff.mpr ⟨hh.1, Int.lt_of_lt_of_le hh.2 hu⟩) ?_
    iterate 4 (refine zv_step (bX4_isPartKept 2) rfl rfl trivial ?_)
    refine zv_ifb (fun hs => ?_) (fun hs => ?_)
    · have hs : O 5 = 0 := hs
      iterate 3 (refine zv_step (bX4_isPartKept 2) rfl rfl trivial ?_)
      refine zv_S2 (bX4_isPartKept 2) rfl rfl rfl rfl ⟨rfl, rfl, rfl⟩ ⟨by decide, by decide⟩ ⟨Nat.zero_le _, Nat.zero_le _⟩ (pHasBitW _ _ _) ?_
      rintro _ _ ⟨rfl, rfl⟩
      exact zv_iret (bX4_isPartKept 2) rfl (Or.inr ⟨rfl, hbW_01 _ _⟩) (Nat.zero_le _) (Nat.zero_le _) ⟨rfl, by unfold pkW; rw [if_pos hh, if_pos hs]; rfl⟩
    · have hs : ¬ O 5 = 0 := hs
      iterate 3 (refine zv_step (bX4_isPartKept 2) rfl rfl trivial ?_)
      refine zv_S3 (bX4_isPartKept 2) rfl rfl rfl rfl ⟨rfl, rfl, rfl⟩ ⟨by decide, by decide⟩ ⟨Nat.zero_le _, Nat.zero_le _⟩ (sDoubt _ _ _ _) ?_
      rintro _ _ ⟨rfl, rfl⟩
      iterate 1 (refine zv_step (bX4_isPartKept 2) rfl rfl trivial ?_)
      exact zv_iret (bX4_isPartKept 2) rfl (Or.inr ⟨rfl, dbW_01 _ _ _⟩) (Nat.zero_le _) (Nat.zero_le _) ⟨rfl, by unfold pkW; rw [if_pos hh, if_neg hs]; rfl⟩
  · iterate 1 (refine zv_step (bX4_isPartKept 2) rfl rfl trivial ?_)
    refine zv_iff (by decide) ?_
    iterate 1 (refine zv_step (bX4_isPartKept 2) rfl rfl trivial ?_)
    exact zv_iret (bX4_isPartKept 2) rfl (Or.inr ⟨rfl, Or.inl rfl⟩) (Nat.zero_le _) (Nat.zero_le _) ⟨rfl, by unfold pkW; rw [if_neg hh]⟩
set_option maxHeartbeats 1000000 in
set_option maxRecDepth 20000 in
theorem sBare27_0 (O : Nat → Int32) (P : Nat → Nat → Int32) (Y : Nat → Nat → Int64) (g : Nat → zC) (hu : (O 1).toInt ≤ 120) {f : Nat} (ih : ∀ (x kept z : Int32) (q : Nat) (row : Nat → Int32), (kept = 0 ∨ kept = 1) → z = nI f - Int32.ofInt 1 → q + (tlW (O 1) (O 4) (O 5) P f x kept).length < 2 ^ 30 → zK (2 * f + 2) zX4_tell [.ref 27, .ref 1, .int x, .int kept, .int z] (wX (upd O 3 (nI (q))) (updA P 28 (row)) Y g) (fun r w' => r = none ∧ w' = (wX (upd O 3 (nI (q + (tlW (O 1) (O 4) (O 5) P f x kept).length))) (updA P 28 (ap8 row q (tlW (O 1) (O 4) (O 5) P f x kept))) Y g))) {n : Int32} (hv : vp_in n 120) (hk : P 2 (nC n) = nI 0) (q : Nat) (row : Nat → Int32) (hq : q + (coW P (pkW (O 1) (O 4) (O 5) P) (tlW (O 1) (O 4) (O 5) P f) (nC n)).length < 2 ^ 30) : zK (2 * f + 3) zX4_tellBare [.ref 27, .ref 1, .int n, .int (nI f)] (wX (upd O 3 (nI (q))) (updA P 28 (row)) Y g) (fun r w' => r = none ∧ w' = (wX (upd O 3 (nI (q + (coW P (pkW (O 1) (O 4) (O 5) P) (tlW (O 1) (O 4) (O 5) P f) (nC n)).length))) (updA P 28 (ap8 row q (coW P (pkW (O 1) (O 4) (O 5) P) (tlW (O 1) (O 4) (O 5) P f) (nC n)))) Y g)) := by
  have hc : (coW P (pkW (O 1) (O 4) (O 5) P) (tlW (O 1) (O 4) (O 5) P f) (nC n)) = [P 3 (nC n)] := by
    unfold coW
    rw [if_pos hk]
  have hq' : q + ([P 3 (nC n)]).length < 2 ^ 30 := by rw [← hc]; exact hq
  (try simp only [List.length_cons, List.length_append, List.length_nil] at hq')
  refine zK_of qX4_tellBare (by decide +kernel) rfl ?_
  iterate 3 (refine zv_step (bX4_tellBare (2 * f + 3)) rfl rfl trivial ?_)
  refine zv_iale (bX4_tellBare (2 * f + 3)) rfl rfl hv (show P 2 n.toNatClampNeg = nI 0 from hk) ?_
  iterate 4 (refine zv_step (bX4_tellBare (2 * f + 3)) rfl rfl trivial ?_)
  refine zv_iale (bX4_tellBare (2 * f + 3)) rfl rfl hv (v := P 4 (nC n)) rfl ?_
  iterate 4 (refine zv_step (bX4_tellBare (2 * f + 3)) rfl rfl trivial ?_)
  refine zv_iale (bX4_tellBare (2 * f + 3)) rfl rfl hv (v := P 5 (nC n)) rfl ?_
  iterate 6 (refine zv_step (bX4_tellBare (2 * f + 3)) rfl rfl trivial ?_)
  refine zv_V4 (bX4_tellBare (2 * f + 3)) rfl rfl rfl rfl rfl rfl rfl ⟨rfl, rfl, rfl⟩ ⟨by show 2 + 1 ≤ 2 * f + 3; omega, by show 8 + (6 + 11) + 64 * 2 ≤ 64 * (2 * f + 3); omega⟩ ⟨Nat.zero_le _, Nat.zero_le _⟩ (sPart27 O P Y g hu _ _ _ _ _) ?_
  rintro _ _ ⟨rfl, rfl⟩
  iterate 2 (refine zv_step (bX4_tellBare (2 * f + 3)) rfl rfl trivial ?_)
  refine zv_step (bX4_tellBare (2 * f + 3)) rfl rfl (by decide) ?_
  iterate 4 (refine zv_step (bX4_tellBare (2 * f + 3)) rfl rfl trivial ?_)
  refine zv_iale (bX4_tellBare (2 * f + 3)) rfl rfl hv (v := P 3 (nC n)) rfl ?_
  refine zv_V1 (bX4_tellBare (2 * f + 3)) rfl rfl rfl rfl rfl rfl rfl ⟨rfl, rfl, rfl⟩ ⟨by show 0 + 1 ≤ 2 * f + 3; omega, by show 8 + (2 + 11) + 64 * 0 ≤ 64 * (2 * f + 3); omega⟩ ⟨Nat.zero_le _, Nat.zero_le _⟩ (sAdd27 O P Y g (by omega) _ _) ?_
  rintro _ _ ⟨rfl, rfl⟩
  iterate 1 (refine zv_step (bX4_tellBare (2 * f + 3)) rfl rfl trivial ?_)
  exact zv_ret (bX4_tellBare (2 * f + 3)) rfl rfl (Nat.zero_le _) (Nat.zero_le _) ⟨rfl, by rw [hc]; rfl⟩
set_option maxHeartbeats 1000000 in
set_option maxRecDepth 20000 in
theorem sBare27_1 (O : Nat → Int32) (P : Nat → Nat → Int32) (Y : Nat → Nat → Int64) (g : Nat → zC) (hu : (O 1).toInt ≤ 120) {f : Nat} (ih : ∀ (x kept z : Int32) (q : Nat) (row : Nat → Int32), (kept = 0 ∨ kept = 1) → z = nI f - Int32.ofInt 1 → q + (tlW (O 1) (O 4) (O 5) P f x kept).length < 2 ^ 30 → zK (2 * f + 2) zX4_tell [.ref 27, .ref 1, .int x, .int kept, .int z] (wX (upd O 3 (nI (q))) (updA P 28 (row)) Y g) (fun r w' => r = none ∧ w' = (wX (upd O 3 (nI (q + (tlW (O 1) (O 4) (O 5) P f x kept).length))) (updA P 28 (ap8 row q (tlW (O 1) (O 4) (O 5) P f x kept))) Y g))) {n : Int32} (hv : vp_in n 120) (hk : P 2 (nC n) = nI 1) (q : Nat) (row : Nat → Int32) (hq : q + (coW P (pkW (O 1) (O 4) (O 5) P) (tlW (O 1) (O 4) (O 5) P f) (nC n)).length < 2 ^ 30) : zK (2 * f + 3) zX4_tellBare [.ref 27, .ref 1, .int n, .int (nI f)] (wX (upd O 3 (nI (q))) (updA P 28 (row)) Y g) (fun r w' => r = none ∧ w' = (wX (upd O 3 (nI (q + (coW P (pkW (O 1) (O 4) (O 5) P) (tlW (O 1) (O 4) (O 5) P f) (nC n)).length))) (updA P 28 (ap8 row q (coW P (pkW (O 1) (O 4) (O 5) P) (tlW (O 1) (O 4) (O 5) P f) (nC n)))) Y g)) := by
  have hc : (coW P (pkW (O 1) (O 4) (O 5) P) (tlW (O 1) (O 4) (O 5) P f) (nC n)) = dgW (P 3 (nC n)) := by
    unfold coW
    rw [if_neg (by rw [hk]; decide), if_pos hk]
  have hd := dgW_len (P 3 (nC n))
  have hq' : q + (dgW (P 3 (nC n))).length < 2 ^ 30 := by rw [← hc]; exact hq
  (try simp only [List.length_cons, List.length_append, List.length_nil] at hq')
  refine zK_of qX4_tellBare (by decide +kernel) rfl ?_
  iterate 3 (refine zv_step (bX4_tellBare (2 * f + 3)) rfl rfl trivial ?_)
  refine zv_iale (bX4_tellBare (2 * f + 3)) rfl rfl hv (show P 2 n.toNatClampNeg = nI 1 from hk) ?_
  iterate 4 (refine zv_step (bX4_tellBare (2 * f + 3)) rfl rfl trivial ?_)
  refine zv_iale (bX4_tellBare (2 * f + 3)) rfl rfl hv (v := P 4 (nC n)) rfl ?_
  iterate 4 (refine zv_step (bX4_tellBare (2 * f + 3)) rfl rfl trivial ?_)
  refine zv_iale (bX4_tellBare (2 * f + 3)) rfl rfl hv (v := P 5 (nC n)) rfl ?_
  iterate 6 (refine zv_step (bX4_tellBare (2 * f + 3)) rfl rfl trivial ?_)
  refine zv_V4 (bX4_tellBare (2 * f + 3)) rfl rfl rfl rfl rfl rfl rfl ⟨rfl, rfl, rfl⟩ ⟨by show 2 + 1 ≤ 2 * f + 3; omega, by show 8 + (6 + 11) + 64 * 2 ≤ 64 * (2 * f + 3); omega⟩ ⟨Nat.zero_le _, Nat.zero_le _⟩ (sPart27 O P Y g hu _ _ _ _ _) ?_
  rintro _ _ ⟨rfl, rfl⟩
  iterate 2 (refine zv_step (bX4_tellBare (2 * f + 3)) rfl rfl trivial ?_)
  refine zv_step (bX4_tellBare (2 * f + 3)) rfl rfl (by decide) ?_
  iterate 4 (refine zv_step (bX4_tellBare (2 * f + 3)) rfl rfl trivial ?_)
  refine zv_iale (bX4_tellBare (2 * f + 3)) rfl rfl hv (v := P 3 (nC n)) rfl ?_
  refine zv_V1 (bX4_tellBare (2 * f + 3)) rfl rfl rfl rfl rfl rfl rfl ⟨rfl, rfl, rfl⟩ ⟨by show 1 + 1 ≤ 2 * f + 3; omega, by show 8 + (4 + 11) + 64 * 1 ≤ 64 * (2 * f + 3); omega⟩ ⟨Nat.zero_le _, Nat.zero_le _⟩ (sDigits27 O P Y g (by omega) _ _) ?_
  rintro _ _ ⟨rfl, rfl⟩
  iterate 1 (refine zv_step (bX4_tellBare (2 * f + 3)) rfl rfl trivial ?_)
  exact zv_ret (bX4_tellBare (2 * f + 3)) rfl rfl (Nat.zero_le _) (Nat.zero_le _) ⟨rfl, by rw [hc]⟩
set_option maxHeartbeats 1000000 in
set_option maxRecDepth 20000 in
theorem sBare27_2 (O : Nat → Int32) (P : Nat → Nat → Int32) (Y : Nat → Nat → Int64) (g : Nat → zC) (hu : (O 1).toInt ≤ 120) {f : Nat} (ih : ∀ (x kept z : Int32) (q : Nat) (row : Nat → Int32), (kept = 0 ∨ kept = 1) → z = nI f - Int32.ofInt 1 → q + (tlW (O 1) (O 4) (O 5) P f x kept).length < 2 ^ 30 → zK (2 * f + 2) zX4_tell [.ref 27, .ref 1, .int x, .int kept, .int z] (wX (upd O 3 (nI (q))) (updA P 28 (row)) Y g) (fun r w' => r = none ∧ w' = (wX (upd O 3 (nI (q + (tlW (O 1) (O 4) (O 5) P f x kept).length))) (updA P 28 (ap8 row q (tlW (O 1) (O 4) (O 5) P f x kept))) Y g))) {n : Int32} (hv : vp_in n 120) (hk : P 2 (nC n) = nI 2) (q : Nat) (row : Nat → Int32) (hq : q + (coW P (pkW (O 1) (O 4) (O 5) P) (tlW (O 1) (O 4) (O 5) P f) (nC n)).length < 2 ^ 30) : zK (2 * f + 3) zX4_tellBare [.ref 27, .ref 1, .int n, .int (nI f)] (wX (upd O 3 (nI (q))) (updA P 28 (row)) Y g) (fun r w' => r = none ∧ w' = (wX (upd O 3 (nI (q + (coW P (pkW (O 1) (O 4) (O 5) P) (tlW (O 1) (O 4) (O 5) P f) (nC n)).length))) (updA P 28 (ap8 row q (coW P (pkW (O 1) (O 4) (O 5) P) (tlW (O 1) (O 4) (O 5) P f) (nC n)))) Y g)) := by
  have hc : (coW P (pkW (O 1) (O 4) (O 5) P) (tlW (O 1) (O 4) (O 5) P f) (nC n)) = (tlW (O 1) (O 4) (O 5) P f (P 4 (nC n)) (pkW (O 1) (O 4) (O 5) P (nI 2) (P 4 (nC n)) (Int32.ofInt 1))) ++ ((c8 18 + nI 2) :: (tlW (O 1) (O 4) (O 5) P f (P 5 (nC n)) (pkW (O 1) (O 4) (O 5) P (nI 2) (P 5 (nC n)) (Int32.ofInt 0)))) := by
    unfold coW
    rw [if_neg (by rw [hk]; decide), if_neg (by rw [hk]; decide), if_neg (by rw [hk]; decide), if_neg (by rw [hk]; decide), if_neg (by rw [hk]; decide), hk]
  have hq' : q + ((tlW (O 1) (O 4) (O 5) P f (P 4 (nC n)) (pkW (O 1) (O 4) (O 5) P (nI 2) (P 4 (nC n)) (Int32.ofInt 1))) ++ ((c8 18 + nI 2) :: (tlW (O 1) (O 4) (O 5) P f (P 5 (nC n)) (pkW (O 1) (O 4) (O 5) P (nI 2) (P 5 (nC n)) (Int32.ofInt 0))))).length < 2 ^ 30 := by rw [← hc]; exact hq
  (try simp only [List.length_cons, List.length_append, List.length_nil] at hq')
  refine zK_of qX4_tellBare (by decide +kernel) rfl ?_
  iterate 3 (refine zv_step (bX4_tellBare (2 * f + 3)) rfl rfl trivial ?_)
  refine zv_iale (bX4_tellBare (2 * f + 3)) rfl rfl hv (show P 2 n.toNatClampNeg = nI 2 from hk) ?_
  iterate 4 (refine zv_step (bX4_tellBare (2 * f + 3)) rfl rfl trivial ?_)
  refine zv_iale (bX4_tellBare (2 * f + 3)) rfl rfl hv (v := P 4 (nC n)) rfl ?_
  iterate 4 (refine zv_step (bX4_tellBare (2 * f + 3)) rfl rfl trivial ?_)
  refine zv_iale (bX4_tellBare (2 * f + 3)) rfl rfl hv (v := P 5 (nC n)) rfl ?_
  iterate 6 (refine zv_step (bX4_tellBare (2 * f + 3)) rfl rfl trivial ?_)
  refine zv_V4 (bX4_tellBare (2 * f + 3)) rfl rfl rfl rfl rfl rfl rfl ⟨rfl, rfl, rfl⟩ ⟨by show 2 + 1 ≤ 2 * f + 3; omega, by show 8 + (6 + 11) + 64 * 2 ≤ 64 * (2 * f + 3); omega⟩ ⟨Nat.zero_le _, Nat.zero_le _⟩ (sPart27 O P Y g hu _ _ _ _ _) ?_
  rintro _ _ ⟨rfl, rfl⟩
  iterate 2 (refine zv_step (bX4_tellBare (2 * f + 3)) rfl rfl trivial ?_)
  refine zv_step (bX4_tellBare (2 * f + 3)) rfl rfl (by decide) ?_
  iterate 7 (refine zv_step (bX4_tellBare (2 * f + 3)) rfl rfl trivial ?_)
  refine zv_V4 (bX4_tellBare (2 * f + 3)) rfl rfl rfl rfl rfl rfl rfl ⟨rfl, rfl, rfl⟩ ⟨by show 2 * f + 2 + 1 ≤ 2 * f + 3; omega, by show 8 + (5 + 11) + 64 * (2 * f + 2) ≤ 64 * (2 * f + 3); omega⟩ ⟨Nat.zero_le _, Nat.zero_le _⟩ (ih _ _ _ _ _ (pkW_01 _ _ _ _ _ _ _) rfl (by omega)) ?_
  rintro _ _ ⟨rfl, rfl⟩
  iterate 4 (refine zv_step (bX4_tellBare (2 * f + 3)) rfl rfl trivial ?_)
  refine zv_V1 (bX4_tellBare (2 * f + 3)) rfl rfl rfl rfl rfl rfl rfl ⟨rfl, rfl, rfl⟩ ⟨by show 0 + 1 ≤ 2 * f + 3; omega, by show 8 + (2 + 11) + 64 * 0 ≤ 64 * (2 * f + 3); omega⟩ ⟨Nat.zero_le _, Nat.zero_le _⟩ (sAdd27 O P Y g (by omega) _ _) ?_
  rintro _ _ ⟨rfl, rfl⟩
  iterate 8 (refine zv_step (bX4_tellBare (2 * f + 3)) rfl rfl trivial ?_)
  refine zv_V4 (bX4_tellBare (2 * f + 3)) rfl rfl rfl rfl rfl rfl rfl ⟨rfl, rfl, rfl⟩ ⟨by show 2 + 1 ≤ 2 * f + 3; omega, by show 8 + (6 + 11) + 64 * 2 ≤ 64 * (2 * f + 3); omega⟩ ⟨Nat.zero_le _, Nat.zero_le _⟩ (sPart27 O P Y g hu _ _ _ _ _) ?_
  rintro _ _ ⟨rfl, rfl⟩
  iterate 3 (refine zv_step (bX4_tellBare (2 * f + 3)) rfl rfl trivial ?_)
  refine zv_V4 (bX4_tellBare (2 * f + 3)) rfl rfl rfl rfl rfl rfl rfl ⟨rfl, rfl, rfl⟩ ⟨by show 2 * f + 2 + 1 ≤ 2 * f + 3; omega, by show 8 + (5 + 11) + 64 * (2 * f + 2) ≤ 64 * (2 * f + 3); omega⟩ ⟨Nat.zero_le _, Nat.zero_le _⟩ (ih _ _ _ _ _ (pkW_01 _ _ _ _ _ _ _) rfl (by omega)) ?_
  rintro _ _ ⟨rfl, rfl⟩
  exact zv_ret (bX4_tellBare (2 * f + 3)) rfl rfl (Nat.zero_le _) (Nat.zero_le _) ⟨rfl, by rw [hc, List.length_append, List.length_cons, show q + ((tlW (O 1) (O 4) (O 5) P f (P 4 (nC n)) (pkW (O 1) (O 4) (O 5) P (nI 2) (P 4 (nC n)) (Int32.ofInt 1))).length + ((tlW (O 1) (O 4) (O 5) P f (P 5 (nC n)) (pkW (O 1) (O 4) (O 5) P (nI 2) (P 5 (nC n)) (Int32.ofInt 0))).length + 1)) = q + (tlW (O 1) (O 4) (O 5) P f (P 4 (nC n)) (pkW (O 1) (O 4) (O 5) P (nI 2) (P 4 (nC n)) (Int32.ofInt 1))).length + 1 + (tlW (O 1) (O 4) (O 5) P f (P 5 (nC n)) (pkW (O 1) (O 4) (O 5) P (nI 2) (P 5 (nC n)) (Int32.ofInt 0))).length by omega, ap8_app]; rfl⟩
set_option maxHeartbeats 1000000 in
set_option maxRecDepth 20000 in
theorem sBare27_3 (O : Nat → Int32) (P : Nat → Nat → Int32) (Y : Nat → Nat → Int64) (g : Nat → zC) (hu : (O 1).toInt ≤ 120) {f : Nat} (ih : ∀ (x kept z : Int32) (q : Nat) (row : Nat → Int32), (kept = 0 ∨ kept = 1) → z = nI f - Int32.ofInt 1 → q + (tlW (O 1) (O 4) (O 5) P f x kept).length < 2 ^ 30 → zK (2 * f + 2) zX4_tell [.ref 27, .ref 1, .int x, .int kept, .int z] (wX (upd O 3 (nI (q))) (updA P 28 (row)) Y g) (fun r w' => r = none ∧ w' = (wX (upd O 3 (nI (q + (tlW (O 1) (O 4) (O 5) P f x kept).length))) (updA P 28 (ap8 row q (tlW (O 1) (O 4) (O 5) P f x kept))) Y g))) {n : Int32} (hv : vp_in n 120) (hk : P 2 (nC n) = nI 3) (q : Nat) (row : Nat → Int32) (hq : q + (coW P (pkW (O 1) (O 4) (O 5) P) (tlW (O 1) (O 4) (O 5) P f) (nC n)).length < 2 ^ 30) : zK (2 * f + 3) zX4_tellBare [.ref 27, .ref 1, .int n, .int (nI f)] (wX (upd O 3 (nI (q))) (updA P 28 (row)) Y g) (fun r w' => r = none ∧ w' = (wX (upd O 3 (nI (q + (coW P (pkW (O 1) (O 4) (O 5) P) (tlW (O 1) (O 4) (O 5) P f) (nC n)).length))) (updA P 28 (ap8 row q (coW P (pkW (O 1) (O 4) (O 5) P) (tlW (O 1) (O 4) (O 5) P f) (nC n)))) Y g)) := by
  have hc : (coW P (pkW (O 1) (O 4) (O 5) P) (tlW (O 1) (O 4) (O 5) P f) (nC n)) = (tlW (O 1) (O 4) (O 5) P f (P 4 (nC n)) (pkW (O 1) (O 4) (O 5) P (nI 3) (P 4 (nC n)) (Int32.ofInt 1))) ++ ((c8 18 + nI 3) :: (tlW (O 1) (O 4) (O 5) P f (P 5 (nC n)) (pkW (O 1) (O 4) (O 5) P (nI 3) (P 5 (nC n)) (Int32.ofInt 0)))) := by
    unfold coW
    rw [if_neg (by rw [hk]; decide), if_neg (by rw [hk]; decide), if_neg (by rw [hk]; decide), if_neg (by rw [hk]; decide), if_neg (by rw [hk]; decide), hk]
  have hq' : q + ((tlW (O 1) (O 4) (O 5) P f (P 4 (nC n)) (pkW (O 1) (O 4) (O 5) P (nI 3) (P 4 (nC n)) (Int32.ofInt 1))) ++ ((c8 18 + nI 3) :: (tlW (O 1) (O 4) (O 5) P f (P 5 (nC n)) (pkW (O 1) (O 4) (O 5) P (nI 3) (P 5 (nC n)) (Int32.ofInt 0))))).length < 2 ^ 30 := by rw [← hc]; exact hq
  (try simp only [List.length_cons, List.length_append, List.length_nil] at hq')
  refine zK_of qX4_tellBare (by decide +kernel) rfl ?_
  iterate 3 (refine zv_step (bX4_tellBare (2 * f + 3)) rfl rfl trivial ?_)
  refine zv_iale (bX4_tellBare (2 * f + 3)) rfl rfl hv (show P 2 n.toNatClampNeg = nI 3 from hk) ?_
  iterate 4 (refine zv_step (bX4_tellBare (2 * f + 3)) rfl rfl trivial ?_)
  refine zv_iale (bX4_tellBare (2 * f + 3)) rfl rfl hv (v := P 4 (nC n)) rfl ?_
  iterate 4 (refine zv_step (bX4_tellBare (2 * f + 3)) rfl rfl trivial ?_)
  refine zv_iale (bX4_tellBare (2 * f + 3)) rfl rfl hv (v := P 5 (nC n)) rfl ?_
  iterate 6 (refine zv_step (bX4_tellBare (2 * f + 3)) rfl rfl trivial ?_)
  refine zv_V4 (bX4_tellBare (2 * f + 3)) rfl rfl rfl rfl rfl rfl rfl ⟨rfl, rfl, rfl⟩ ⟨by show 2 + 1 ≤ 2 * f + 3; omega, by show 8 + (6 + 11) + 64 * 2 ≤ 64 * (2 * f + 3); omega⟩ ⟨Nat.zero_le _, Nat.zero_le _⟩ (sPart27 O P Y g hu _ _ _ _ _) ?_
  rintro _ _ ⟨rfl, rfl⟩
  iterate 2 (refine zv_step (bX4_tellBare (2 * f + 3)) rfl rfl trivial ?_)
  refine zv_step (bX4_tellBare (2 * f + 3)) rfl rfl (by decide) ?_
  iterate 7 (refine zv_step (bX4_tellBare (2 * f + 3)) rfl rfl trivial ?_)
  refine zv_V4 (bX4_tellBare (2 * f + 3)) rfl rfl rfl rfl rfl rfl rfl ⟨rfl, rfl, rfl⟩ ⟨by show 2 * f + 2 + 1 ≤ 2 * f + 3; omega, by show 8 + (5 + 11) + 64 * (2 * f + 2) ≤ 64 * (2 * f + 3); omega⟩ ⟨Nat.zero_le _, Nat.zero_le _⟩ (ih _ _ _ _ _ (pkW_01 _ _ _ _ _ _ _) rfl (by omega)) ?_
  rintro _ _ ⟨rfl, rfl⟩
  iterate 4 (refine zv_step (bX4_tellBare (2 * f + 3)) rfl rfl trivial ?_)
  refine zv_V1 (bX4_tellBare (2 * f + 3)) rfl rfl rfl rfl rfl rfl rfl ⟨rfl, rfl, rfl⟩ ⟨by show 0 + 1 ≤ 2 * f + 3; omega, by show 8 + (2 + 11) + 64 * 0 ≤ 64 * (2 * f + 3); omega⟩ ⟨Nat.zero_le _, Nat.zero_le _⟩ (sAdd27 O P Y g (by omega) _ _) ?_
  rintro _ _ ⟨rfl, rfl⟩
  iterate 8 (refine zv_step (bX4_tellBare (2 * f + 3)) rfl rfl trivial ?_)
  refine zv_V4 (bX4_tellBare (2 * f + 3)) rfl rfl rfl rfl rfl rfl rfl ⟨rfl, rfl, rfl⟩ ⟨by show 2 + 1 ≤ 2 * f + 3; omega, by show 8 + (6 + 11) + 64 * 2 ≤ 64 * (2 * f + 3); omega⟩ ⟨Nat.zero_le _, Nat.zero_le _⟩ (sPart27 O P Y g hu _ _ _ _ _) ?_
  rintro _ _ ⟨rfl, rfl⟩
  iterate 3 (refine zv_step (bX4_tellBare (2 * f + 3)) rfl rfl trivial ?_)
  refine zv_V4 (bX4_tellBare (2 * f + 3)) rfl rfl rfl rfl rfl rfl rfl ⟨rfl, rfl, rfl⟩ ⟨by show 2 * f + 2 + 1 ≤ 2 * f + 3; omega, by show 8 + (5 + 11) + 64 * (2 * f + 2) ≤ 64 * (2 * f + 3); omega⟩ ⟨Nat.zero_le _, Nat.zero_le _⟩ (ih _ _ _ _ _ (pkW_01 _ _ _ _ _ _ _) rfl (by omega)) ?_
  rintro _ _ ⟨rfl, rfl⟩
  exact zv_ret (bX4_tellBare (2 * f + 3)) rfl rfl (Nat.zero_le _) (Nat.zero_le _) ⟨rfl, by rw [hc, List.length_append, List.length_cons, show q + ((tlW (O 1) (O 4) (O 5) P f (P 4 (nC n)) (pkW (O 1) (O 4) (O 5) P (nI 3) (P 4 (nC n)) (Int32.ofInt 1))).length + ((tlW (O 1) (O 4) (O 5) P f (P 5 (nC n)) (pkW (O 1) (O 4) (O 5) P (nI 3) (P 5 (nC n)) (Int32.ofInt 0))).length + 1)) = q + (tlW (O 1) (O 4) (O 5) P f (P 4 (nC n)) (pkW (O 1) (O 4) (O 5) P (nI 3) (P 4 (nC n)) (Int32.ofInt 1))).length + 1 + (tlW (O 1) (O 4) (O 5) P f (P 5 (nC n)) (pkW (O 1) (O 4) (O 5) P (nI 3) (P 5 (nC n)) (Int32.ofInt 0))).length by omega, ap8_app]; rfl⟩
set_option maxHeartbeats 1000000 in
set_option maxRecDepth 20000 in
theorem sBare27_4 (O : Nat → Int32) (P : Nat → Nat → Int32) (Y : Nat → Nat → Int64) (g : Nat → zC) (hu : (O 1).toInt ≤ 120) {f : Nat} (ih : ∀ (x kept z : Int32) (q : Nat) (row : Nat → Int32), (kept = 0 ∨ kept = 1) → z = nI f - Int32.ofInt 1 → q + (tlW (O 1) (O 4) (O 5) P f x kept).length < 2 ^ 30 → zK (2 * f + 2) zX4_tell [.ref 27, .ref 1, .int x, .int kept, .int z] (wX (upd O 3 (nI (q))) (updA P 28 (row)) Y g) (fun r w' => r = none ∧ w' = (wX (upd O 3 (nI (q + (tlW (O 1) (O 4) (O 5) P f x kept).length))) (updA P 28 (ap8 row q (tlW (O 1) (O 4) (O 5) P f x kept))) Y g))) {n : Int32} (hv : vp_in n 120) (hk : P 2 (nC n) = nI 4) (q : Nat) (row : Nat → Int32) (hq : q + (coW P (pkW (O 1) (O 4) (O 5) P) (tlW (O 1) (O 4) (O 5) P f) (nC n)).length < 2 ^ 30) : zK (2 * f + 3) zX4_tellBare [.ref 27, .ref 1, .int n, .int (nI f)] (wX (upd O 3 (nI (q))) (updA P 28 (row)) Y g) (fun r w' => r = none ∧ w' = (wX (upd O 3 (nI (q + (coW P (pkW (O 1) (O 4) (O 5) P) (tlW (O 1) (O 4) (O 5) P f) (nC n)).length))) (updA P 28 (ap8 row q (coW P (pkW (O 1) (O 4) (O 5) P) (tlW (O 1) (O 4) (O 5) P f) (nC n)))) Y g)) := by
  have hc : (coW P (pkW (O 1) (O 4) (O 5) P) (tlW (O 1) (O 4) (O 5) P f) (nC n)) = (tlW (O 1) (O 4) (O 5) P f (P 4 (nC n)) (pkW (O 1) (O 4) (O 5) P (nI 4) (P 4 (nC n)) (Int32.ofInt 1))) ++ ((c8 18 + nI 4) :: (tlW (O 1) (O 4) (O 5) P f (P 5 (nC n)) (pkW (O 1) (O 4) (O 5) P (nI 4) (P 5 (nC n)) (Int32.ofInt 0)))) := by
    unfold coW
    rw [if_neg (by rw [hk]; decide), if_neg (by rw [hk]; decide), if_neg (by rw [hk]; decide), if_neg (by rw [hk]; decide), if_neg (by rw [hk]; decide), hk]
  have hq' : q + ((tlW (O 1) (O 4) (O 5) P f (P 4 (nC n)) (pkW (O 1) (O 4) (O 5) P (nI 4) (P 4 (nC n)) (Int32.ofInt 1))) ++ ((c8 18 + nI 4) :: (tlW (O 1) (O 4) (O 5) P f (P 5 (nC n)) (pkW (O 1) (O 4) (O 5) P (nI 4) (P 5 (nC n)) (Int32.ofInt 0))))).length < 2 ^ 30 := by rw [← hc]; exact hq
  (try simp only [List.length_cons, List.length_append, List.length_nil] at hq')
  refine zK_of qX4_tellBare (by decide +kernel) rfl ?_
  iterate 3 (refine zv_step (bX4_tellBare (2 * f + 3)) rfl rfl trivial ?_)
  refine zv_iale (bX4_tellBare (2 * f + 3)) rfl rfl hv (show P 2 n.toNatClampNeg = nI 4 from hk) ?_
  iterate 4 (refine zv_step (bX4_tellBare (2 * f + 3)) rfl rfl trivial ?_)
  refine zv_iale (bX4_tellBare (2 * f + 3)) rfl rfl hv (v := P 4 (nC n)) rfl ?_
  iterate 4 (refine zv_step (bX4_tellBare (2 * f + 3)) rfl rfl trivial ?_)
  refine zv_iale (bX4_tellBare (2 * f + 3)) rfl rfl hv (v := P 5 (nC n)) rfl ?_
  iterate 6 (refine zv_step (bX4_tellBare (2 * f + 3)) rfl rfl trivial ?_)
  refine zv_V4 (bX4_tellBare (2 * f + 3)) rfl rfl rfl rfl rfl rfl rfl ⟨rfl, rfl, rfl⟩ ⟨by show 2 + 1 ≤ 2 * f + 3; omega, by show 8 + (6 + 11) + 64 * 2 ≤ 64 * (2 * f + 3); omega⟩ ⟨Nat.zero_le _, Nat.zero_le _⟩ (sPart27 O P Y g hu _ _ _ _ _) ?_
  rintro _ _ ⟨rfl, rfl⟩
  iterate 2 (refine zv_step (bX4_tellBare (2 * f + 3)) rfl rfl trivial ?_)
  refine zv_step (bX4_tellBare (2 * f + 3)) rfl rfl (by decide) ?_
  iterate 7 (refine zv_step (bX4_tellBare (2 * f + 3)) rfl rfl trivial ?_)
  refine zv_V4 (bX4_tellBare (2 * f + 3)) rfl rfl rfl rfl rfl rfl rfl ⟨rfl, rfl, rfl⟩ ⟨by show 2 * f + 2 + 1 ≤ 2 * f + 3; omega, by show 8 + (5 + 11) + 64 * (2 * f + 2) ≤ 64 * (2 * f + 3); omega⟩ ⟨Nat.zero_le _, Nat.zero_le _⟩ (ih _ _ _ _ _ (pkW_01 _ _ _ _ _ _ _) rfl (by omega)) ?_
  rintro _ _ ⟨rfl, rfl⟩
  iterate 4 (refine zv_step (bX4_tellBare (2 * f + 3)) rfl rfl trivial ?_)
  refine zv_V1 (bX4_tellBare (2 * f + 3)) rfl rfl rfl rfl rfl rfl rfl ⟨rfl, rfl, rfl⟩ ⟨by show 0 + 1 ≤ 2 * f + 3; omega, by show 8 + (2 + 11) + 64 * 0 ≤ 64 * (2 * f + 3); omega⟩ ⟨Nat.zero_le _, Nat.zero_le _⟩ (sAdd27 O P Y g (by omega) _ _) ?_
  rintro _ _ ⟨rfl, rfl⟩
  iterate 8 (refine zv_step (bX4_tellBare (2 * f + 3)) rfl rfl trivial ?_)
  refine zv_V4 (bX4_tellBare (2 * f + 3)) rfl rfl rfl rfl rfl rfl rfl ⟨rfl, rfl, rfl⟩ ⟨by show 2 + 1 ≤ 2 * f + 3; omega, by show 8 + (6 + 11) + 64 * 2 ≤ 64 * (2 * f + 3); omega⟩ ⟨Nat.zero_le _, Nat.zero_le _⟩ (sPart27 O P Y g hu _ _ _ _ _) ?_
  rintro _ _ ⟨rfl, rfl⟩
  iterate 3 (refine zv_step (bX4_tellBare (2 * f + 3)) rfl rfl trivial ?_)
  refine zv_V4 (bX4_tellBare (2 * f + 3)) rfl rfl rfl rfl rfl rfl rfl ⟨rfl, rfl, rfl⟩ ⟨by show 2 * f + 2 + 1 ≤ 2 * f + 3; omega, by show 8 + (5 + 11) + 64 * (2 * f + 2) ≤ 64 * (2 * f + 3); omega⟩ ⟨Nat.zero_le _, Nat.zero_le _⟩ (ih _ _ _ _ _ (pkW_01 _ _ _ _ _ _ _) rfl (by omega)) ?_
  rintro _ _ ⟨rfl, rfl⟩
  exact zv_ret (bX4_tellBare (2 * f + 3)) rfl rfl (Nat.zero_le _) (Nat.zero_le _) ⟨rfl, by rw [hc, List.length_append, List.length_cons, show q + ((tlW (O 1) (O 4) (O 5) P f (P 4 (nC n)) (pkW (O 1) (O 4) (O 5) P (nI 4) (P 4 (nC n)) (Int32.ofInt 1))).length + ((tlW (O 1) (O 4) (O 5) P f (P 5 (nC n)) (pkW (O 1) (O 4) (O 5) P (nI 4) (P 5 (nC n)) (Int32.ofInt 0))).length + 1)) = q + (tlW (O 1) (O 4) (O 5) P f (P 4 (nC n)) (pkW (O 1) (O 4) (O 5) P (nI 4) (P 4 (nC n)) (Int32.ofInt 1))).length + 1 + (tlW (O 1) (O 4) (O 5) P f (P 5 (nC n)) (pkW (O 1) (O 4) (O 5) P (nI 4) (P 5 (nC n)) (Int32.ofInt 0))).length by omega, ap8_app]; rfl⟩
set_option maxHeartbeats 1000000 in
set_option maxRecDepth 20000 in
theorem sBare27_5 (O : Nat → Int32) (P : Nat → Nat → Int32) (Y : Nat → Nat → Int64) (g : Nat → zC) (hu : (O 1).toInt ≤ 120) {f : Nat} (ih : ∀ (x kept z : Int32) (q : Nat) (row : Nat → Int32), (kept = 0 ∨ kept = 1) → z = nI f - Int32.ofInt 1 → q + (tlW (O 1) (O 4) (O 5) P f x kept).length < 2 ^ 30 → zK (2 * f + 2) zX4_tell [.ref 27, .ref 1, .int x, .int kept, .int z] (wX (upd O 3 (nI (q))) (updA P 28 (row)) Y g) (fun r w' => r = none ∧ w' = (wX (upd O 3 (nI (q + (tlW (O 1) (O 4) (O 5) P f x kept).length))) (updA P 28 (ap8 row q (tlW (O 1) (O 4) (O 5) P f x kept))) Y g))) {n : Int32} (hv : vp_in n 120) (hk : P 2 (nC n) = nI 5) (q : Nat) (row : Nat → Int32) (hq : q + (coW P (pkW (O 1) (O 4) (O 5) P) (tlW (O 1) (O 4) (O 5) P f) (nC n)).length < 2 ^ 30) : zK (2 * f + 3) zX4_tellBare [.ref 27, .ref 1, .int n, .int (nI f)] (wX (upd O 3 (nI (q))) (updA P 28 (row)) Y g) (fun r w' => r = none ∧ w' = (wX (upd O 3 (nI (q + (coW P (pkW (O 1) (O 4) (O 5) P) (tlW (O 1) (O 4) (O 5) P f) (nC n)).length))) (updA P 28 (ap8 row q (coW P (pkW (O 1) (O 4) (O 5) P) (tlW (O 1) (O 4) (O 5) P f) (nC n)))) Y g)) := by
  have hc : (coW P (pkW (O 1) (O 4) (O 5) P) (tlW (O 1) (O 4) (O 5) P f) (nC n)) = (tlW (O 1) (O 4) (O 5) P f (P 4 (nC n)) (pkW (O 1) (O 4) (O 5) P (nI 5) (P 4 (nC n)) (Int32.ofInt 1))) ++ ((c8 18 + nI 5) :: (tlW (O 1) (O 4) (O 5) P f (P 5 (nC n)) (pkW (O 1) (O 4) (O 5) P (nI 5) (P 5 (nC n)) (Int32.ofInt 0)))) := by
    unfold coW
    rw [if_neg (by rw [hk]; decide), if_neg (by rw [hk]; decide), if_neg (by rw [hk]; decide), if_neg (by rw [hk]; decide), if_neg (by rw [hk]; decide), hk]
  have hq' : q + ((tlW (O 1) (O 4) (O 5) P f (P 4 (nC n)) (pkW (O 1) (O 4) (O 5) P (nI 5) (P 4 (nC n)) (Int32.ofInt 1))) ++ ((c8 18 + nI 5) :: (tlW (O 1) (O 4) (O 5) P f (P 5 (nC n)) (pkW (O 1) (O 4) (O 5) P (nI 5) (P 5 (nC n)) (Int32.ofInt 0))))).length < 2 ^ 30 := by rw [← hc]; exact hq
  (try simp only [List.length_cons, List.length_append, List.length_nil] at hq')
  refine zK_of qX4_tellBare (by decide +kernel) rfl ?_
  iterate 3 (refine zv_step (bX4_tellBare (2 * f + 3)) rfl rfl trivial ?_)
  refine zv_iale (bX4_tellBare (2 * f + 3)) rfl rfl hv (show P 2 n.toNatClampNeg = nI 5 from hk) ?_
  iterate 4 (refine zv_step (bX4_tellBare (2 * f + 3)) rfl rfl trivial ?_)
  refine zv_iale (bX4_tellBare (2 * f + 3)) rfl rfl hv (v := P 4 (nC n)) rfl ?_
  iterate 4 (refine zv_step (bX4_tellBare (2 * f + 3)) rfl rfl trivial ?_)
  refine zv_iale (bX4_tellBare (2 * f + 3)) rfl rfl hv (v := P 5 (nC n)) rfl ?_
  iterate 6 (refine zv_step (bX4_tellBare (2 * f + 3)) rfl rfl trivial ?_)
  refine zv_V4 (bX4_tellBare (2 * f + 3)) rfl rfl rfl rfl rfl rfl rfl ⟨rfl, rfl, rfl⟩ ⟨by show 2 + 1 ≤ 2 * f + 3; omega, by show 8 + (6 + 11) + 64 * 2 ≤ 64 * (2 * f + 3); omega⟩ ⟨Nat.zero_le _, Nat.zero_le _⟩ (sPart27 O P Y g hu _ _ _ _ _) ?_
  rintro _ _ ⟨rfl, rfl⟩
  iterate 2 (refine zv_step (bX4_tellBare (2 * f + 3)) rfl rfl trivial ?_)
  refine zv_step (bX4_tellBare (2 * f + 3)) rfl rfl (by decide) ?_
  iterate 7 (refine zv_step (bX4_tellBare (2 * f + 3)) rfl rfl trivial ?_)
  refine zv_V4 (bX4_tellBare (2 * f + 3)) rfl rfl rfl rfl rfl rfl rfl ⟨rfl, rfl, rfl⟩ ⟨by show 2 * f + 2 + 1 ≤ 2 * f + 3; omega, by show 8 + (5 + 11) + 64 * (2 * f + 2) ≤ 64 * (2 * f + 3); omega⟩ ⟨Nat.zero_le _, Nat.zero_le _⟩ (ih _ _ _ _ _ (pkW_01 _ _ _ _ _ _ _) rfl (by omega)) ?_
  rintro _ _ ⟨rfl, rfl⟩
  iterate 4 (refine zv_step (bX4_tellBare (2 * f + 3)) rfl rfl trivial ?_)
  refine zv_V1 (bX4_tellBare (2 * f + 3)) rfl rfl rfl rfl rfl rfl rfl ⟨rfl, rfl, rfl⟩ ⟨by show 0 + 1 ≤ 2 * f + 3; omega, by show 8 + (2 + 11) + 64 * 0 ≤ 64 * (2 * f + 3); omega⟩ ⟨Nat.zero_le _, Nat.zero_le _⟩ (sAdd27 O P Y g (by omega) _ _) ?_
  rintro _ _ ⟨rfl, rfl⟩
  iterate 8 (refine zv_step (bX4_tellBare (2 * f + 3)) rfl rfl trivial ?_)
  refine zv_V4 (bX4_tellBare (2 * f + 3)) rfl rfl rfl rfl rfl rfl rfl ⟨rfl, rfl, rfl⟩ ⟨by show 2 + 1 ≤ 2 * f + 3; omega, by show 8 + (6 + 11) + 64 * 2 ≤ 64 * (2 * f + 3); omega⟩ ⟨Nat.zero_le _, Nat.zero_le _⟩ (sPart27 O P Y g hu _ _ _ _ _) ?_
  rintro _ _ ⟨rfl, rfl⟩
  iterate 3 (refine zv_step (bX4_tellBare (2 * f + 3)) rfl rfl trivial ?_)
  refine zv_V4 (bX4_tellBare (2 * f + 3)) rfl rfl rfl rfl rfl rfl rfl ⟨rfl, rfl, rfl⟩ ⟨by show 2 * f + 2 + 1 ≤ 2 * f + 3; omega, by show 8 + (5 + 11) + 64 * (2 * f + 2) ≤ 64 * (2 * f + 3); omega⟩ ⟨Nat.zero_le _, Nat.zero_le _⟩ (ih _ _ _ _ _ (pkW_01 _ _ _ _ _ _ _) rfl (by omega)) ?_
  rintro _ _ ⟨rfl, rfl⟩
  exact zv_ret (bX4_tellBare (2 * f + 3)) rfl rfl (Nat.zero_le _) (Nat.zero_le _) ⟨rfl, by rw [hc, List.length_append, List.length_cons, show q + ((tlW (O 1) (O 4) (O 5) P f (P 4 (nC n)) (pkW (O 1) (O 4) (O 5) P (nI 5) (P 4 (nC n)) (Int32.ofInt 1))).length + ((tlW (O 1) (O 4) (O 5) P f (P 5 (nC n)) (pkW (O 1) (O 4) (O 5) P (nI 5) (P 5 (nC n)) (Int32.ofInt 0))).length + 1)) = q + (tlW (O 1) (O 4) (O 5) P f (P 4 (nC n)) (pkW (O 1) (O 4) (O 5) P (nI 5) (P 4 (nC n)) (Int32.ofInt 1))).length + 1 + (tlW (O 1) (O 4) (O 5) P f (P 5 (nC n)) (pkW (O 1) (O 4) (O 5) P (nI 5) (P 5 (nC n)) (Int32.ofInt 0))).length by omega, ap8_app]; rfl⟩
set_option maxHeartbeats 1000000 in
set_option maxRecDepth 20000 in
theorem sBare27_6 (O : Nat → Int32) (P : Nat → Nat → Int32) (Y : Nat → Nat → Int64) (g : Nat → zC) (hu : (O 1).toInt ≤ 120) {f : Nat} (ih : ∀ (x kept z : Int32) (q : Nat) (row : Nat → Int32), (kept = 0 ∨ kept = 1) → z = nI f - Int32.ofInt 1 → q + (tlW (O 1) (O 4) (O 5) P f x kept).length < 2 ^ 30 → zK (2 * f + 2) zX4_tell [.ref 27, .ref 1, .int x, .int kept, .int z] (wX (upd O 3 (nI (q))) (updA P 28 (row)) Y g) (fun r w' => r = none ∧ w' = (wX (upd O 3 (nI (q + (tlW (O 1) (O 4) (O 5) P f x kept).length))) (updA P 28 (ap8 row q (tlW (O 1) (O 4) (O 5) P f x kept))) Y g))) {n : Int32} (hv : vp_in n 120) (hk : P 2 (nC n) = nI 6) (q : Nat) (row : Nat → Int32) (hq : q + (coW P (pkW (O 1) (O 4) (O 5) P) (tlW (O 1) (O 4) (O 5) P f) (nC n)).length < 2 ^ 30) : zK (2 * f + 3) zX4_tellBare [.ref 27, .ref 1, .int n, .int (nI f)] (wX (upd O 3 (nI (q))) (updA P 28 (row)) Y g) (fun r w' => r = none ∧ w' = (wX (upd O 3 (nI (q + (coW P (pkW (O 1) (O 4) (O 5) P) (tlW (O 1) (O 4) (O 5) P f) (nC n)).length))) (updA P 28 (ap8 row q (coW P (pkW (O 1) (O 4) (O 5) P) (tlW (O 1) (O 4) (O 5) P f) (nC n)))) Y g)) := by
  have hc : (coW P (pkW (O 1) (O 4) (O 5) P) (tlW (O 1) (O 4) (O 5) P f) (nC n)) = (tlW (O 1) (O 4) (O 5) P f (P 4 (nC n)) (pkW (O 1) (O 4) (O 5) P (nI 6) (P 4 (nC n)) (Int32.ofInt 1))) ++ ((c8 18 + nI 6) :: (tlW (O 1) (O 4) (O 5) P f (P 5 (nC n)) (pkW (O 1) (O 4) (O 5) P (nI 6) (P 5 (nC n)) (Int32.ofInt 0)))) := by
    unfold coW
    rw [if_neg (by rw [hk]; decide), if_neg (by rw [hk]; decide), if_neg (by rw [hk]; decide), if_neg (by rw [hk]; decide), if_neg (by rw [hk]; decide), hk]
  have hq' : q + ((tlW (O 1) (O 4) (O 5) P f (P 4 (nC n)) (pkW (O 1) (O 4) (O 5) P (nI 6) (P 4 (nC n)) (Int32.ofInt 1))) ++ ((c8 18 + nI 6) :: (tlW (O 1) (O 4) (O 5) P f (P 5 (nC n)) (pkW (O 1) (O 4) (O 5) P (nI 6) (P 5 (nC n)) (Int32.ofInt 0))))).length < 2 ^ 30 := by rw [← hc]; exact hq
  (try simp only [List.length_cons, List.length_append, List.length_nil] at hq')
  refine zK_of qX4_tellBare (by decide +kernel) rfl ?_
  iterate 3 (refine zv_step (bX4_tellBare (2 * f + 3)) rfl rfl trivial ?_)
  refine zv_iale (bX4_tellBare (2 * f + 3)) rfl rfl hv (show P 2 n.toNatClampNeg = nI 6 from hk) ?_
  iterate 4 (refine zv_step (bX4_tellBare (2 * f + 3)) rfl rfl trivial ?_)
  refine zv_iale (bX4_tellBare (2 * f + 3)) rfl rfl hv (v := P 4 (nC n)) rfl ?_
  iterate 4 (refine zv_step (bX4_tellBare (2 * f + 3)) rfl rfl trivial ?_)
  refine zv_iale (bX4_tellBare (2 * f + 3)) rfl rfl hv (v := P 5 (nC n)) rfl ?_
  iterate 6 (refine zv_step (bX4_tellBare (2 * f + 3)) rfl rfl trivial ?_)
  refine zv_V4 (bX4_tellBare (2 * f + 3)) rfl rfl rfl rfl rfl rfl rfl ⟨rfl, rfl, rfl⟩ ⟨by show 2 + 1 ≤ 2 * f + 3; omega, by show 8 + (6 + 11) + 64 * 2 ≤ 64 * (2 * f + 3); omega⟩ ⟨Nat.zero_le _, Nat.zero_le _⟩ (sPart27 O P Y g hu _ _ _ _ _) ?_
  rintro _ _ ⟨rfl, rfl⟩
  iterate 2 (refine zv_step (bX4_tellBare (2 * f + 3)) rfl rfl trivial ?_)
  refine zv_step (bX4_tellBare (2 * f + 3)) rfl rfl (by decide) ?_
  iterate 7 (refine zv_step (bX4_tellBare (2 * f + 3)) rfl rfl trivial ?_)
  refine zv_V4 (bX4_tellBare (2 * f + 3)) rfl rfl rfl rfl rfl rfl rfl ⟨rfl, rfl, rfl⟩ ⟨by show 2 * f + 2 + 1 ≤ 2 * f + 3; omega, by show 8 + (5 + 11) + 64 * (2 * f + 2) ≤ 64 * (2 * f + 3); omega⟩ ⟨Nat.zero_le _, Nat.zero_le _⟩ (ih _ _ _ _ _ (pkW_01 _ _ _ _ _ _ _) rfl (by omega)) ?_
  rintro _ _ ⟨rfl, rfl⟩
  iterate 4 (refine zv_step (bX4_tellBare (2 * f + 3)) rfl rfl trivial ?_)
  refine zv_V1 (bX4_tellBare (2 * f + 3)) rfl rfl rfl rfl rfl rfl rfl ⟨rfl, rfl, rfl⟩ ⟨by show 0 + 1 ≤ 2 * f + 3; omega, by show 8 + (2 + 11) + 64 * 0 ≤ 64 * (2 * f + 3); omega⟩ ⟨Nat.zero_le _, Nat.zero_le _⟩ (sAdd27 O P Y g (by omega) _ _) ?_
  rintro _ _ ⟨rfl, rfl⟩
  iterate 8 (refine zv_step (bX4_tellBare (2 * f + 3)) rfl rfl trivial ?_)
  refine zv_V4 (bX4_tellBare (2 * f + 3)) rfl rfl rfl rfl rfl rfl rfl ⟨rfl, rfl, rfl⟩ ⟨by show 2 + 1 ≤ 2 * f + 3; omega, by show 8 + (6 + 11) + 64 * 2 ≤ 64 * (2 * f + 3); omega⟩ ⟨Nat.zero_le _, Nat.zero_le _⟩ (sPart27 O P Y g hu _ _ _ _ _) ?_
  rintro _ _ ⟨rfl, rfl⟩
  iterate 3 (refine zv_step (bX4_tellBare (2 * f + 3)) rfl rfl trivial ?_)
  refine zv_V4 (bX4_tellBare (2 * f + 3)) rfl rfl rfl rfl rfl rfl rfl ⟨rfl, rfl, rfl⟩ ⟨by show 2 * f + 2 + 1 ≤ 2 * f + 3; omega, by show 8 + (5 + 11) + 64 * (2 * f + 2) ≤ 64 * (2 * f + 3); omega⟩ ⟨Nat.zero_le _, Nat.zero_le _⟩ (ih _ _ _ _ _ (pkW_01 _ _ _ _ _ _ _) rfl (by omega)) ?_
  rintro _ _ ⟨rfl, rfl⟩
  exact zv_ret (bX4_tellBare (2 * f + 3)) rfl rfl (Nat.zero_le _) (Nat.zero_le _) ⟨rfl, by rw [hc, List.length_append, List.length_cons, show q + ((tlW (O 1) (O 4) (O 5) P f (P 4 (nC n)) (pkW (O 1) (O 4) (O 5) P (nI 6) (P 4 (nC n)) (Int32.ofInt 1))).length + ((tlW (O 1) (O 4) (O 5) P f (P 5 (nC n)) (pkW (O 1) (O 4) (O 5) P (nI 6) (P 5 (nC n)) (Int32.ofInt 0))).length + 1)) = q + (tlW (O 1) (O 4) (O 5) P f (P 4 (nC n)) (pkW (O 1) (O 4) (O 5) P (nI 6) (P 4 (nC n)) (Int32.ofInt 1))).length + 1 + (tlW (O 1) (O 4) (O 5) P f (P 5 (nC n)) (pkW (O 1) (O 4) (O 5) P (nI 6) (P 5 (nC n)) (Int32.ofInt 0))).length by omega, ap8_app]; rfl⟩
set_option maxHeartbeats 1000000 in
set_option maxRecDepth 20000 in
theorem sBare27_7 (O : Nat → Int32) (P : Nat → Nat → Int32) (Y : Nat → Nat → Int64) (g : Nat → zC) (hu : (O 1).toInt ≤ 120) {f : Nat} (ih : ∀ (x kept z : Int32) (q : Nat) (row : Nat → Int32), (kept = 0 ∨ kept = 1) → z = nI f - Int32.ofInt 1 → q + (tlW (O 1) (O 4) (O 5) P f x kept).length < 2 ^ 30 → zK (2 * f + 2) zX4_tell [.ref 27, .ref 1, .int x, .int kept, .int z] (wX (upd O 3 (nI (q))) (updA P 28 (row)) Y g) (fun r w' => r = none ∧ w' = (wX (upd O 3 (nI (q + (tlW (O 1) (O 4) (O 5) P f x kept).length))) (updA P 28 (ap8 row q (tlW (O 1) (O 4) (O 5) P f x kept))) Y g))) {n : Int32} (hv : vp_in n 120) (hk : P 2 (nC n) = nI 7) (q : Nat) (row : Nat → Int32) (hq : q + (coW P (pkW (O 1) (O 4) (O 5) P) (tlW (O 1) (O 4) (O 5) P f) (nC n)).length < 2 ^ 30) : zK (2 * f + 3) zX4_tellBare [.ref 27, .ref 1, .int n, .int (nI f)] (wX (upd O 3 (nI (q))) (updA P 28 (row)) Y g) (fun r w' => r = none ∧ w' = (wX (upd O 3 (nI (q + (coW P (pkW (O 1) (O 4) (O 5) P) (tlW (O 1) (O 4) (O 5) P f) (nC n)).length))) (updA P 28 (ap8 row q (coW P (pkW (O 1) (O 4) (O 5) P) (tlW (O 1) (O 4) (O 5) P f) (nC n)))) Y g)) := by
  have hc : (coW P (pkW (O 1) (O 4) (O 5) P) (tlW (O 1) (O 4) (O 5) P f) (nC n)) = c8 25 :: (tlW (O 1) (O 4) (O 5) P f (P 4 (nC n)) (pkW (O 1) (O 4) (O 5) P (nI 7) (P 4 (nC n)) (Int32.ofInt 1))) := by
    unfold coW
    rw [if_neg (by rw [hk]; decide), if_neg (by rw [hk]; decide), if_pos hk]
  have hq' : q + (c8 25 :: (tlW (O 1) (O 4) (O 5) P f (P 4 (nC n)) (pkW (O 1) (O 4) (O 5) P (nI 7) (P 4 (nC n)) (Int32.ofInt 1)))).length < 2 ^ 30 := by rw [← hc]; exact hq
  (try simp only [List.length_cons, List.length_append, List.length_nil] at hq')
  refine zK_of qX4_tellBare (by decide +kernel) rfl ?_
  iterate 3 (refine zv_step (bX4_tellBare (2 * f + 3)) rfl rfl trivial ?_)
  refine zv_iale (bX4_tellBare (2 * f + 3)) rfl rfl hv (show P 2 n.toNatClampNeg = nI 7 from hk) ?_
  iterate 4 (refine zv_step (bX4_tellBare (2 * f + 3)) rfl rfl trivial ?_)
  refine zv_iale (bX4_tellBare (2 * f + 3)) rfl rfl hv (v := P 4 (nC n)) rfl ?_
  iterate 4 (refine zv_step (bX4_tellBare (2 * f + 3)) rfl rfl trivial ?_)
  refine zv_iale (bX4_tellBare (2 * f + 3)) rfl rfl hv (v := P 5 (nC n)) rfl ?_
  iterate 6 (refine zv_step (bX4_tellBare (2 * f + 3)) rfl rfl trivial ?_)
  refine zv_V4 (bX4_tellBare (2 * f + 3)) rfl rfl rfl rfl rfl rfl rfl ⟨rfl, rfl, rfl⟩ ⟨by show 2 + 1 ≤ 2 * f + 3; omega, by show 8 + (6 + 11) + 64 * 2 ≤ 64 * (2 * f + 3); omega⟩ ⟨Nat.zero_le _, Nat.zero_le _⟩ (sPart27 O P Y g hu _ _ _ _ _) ?_
  rintro _ _ ⟨rfl, rfl⟩
  iterate 2 (refine zv_step (bX4_tellBare (2 * f + 3)) rfl rfl trivial ?_)
  refine zv_step (bX4_tellBare (2 * f + 3)) rfl rfl (by decide) ?_
  iterate 2 (refine zv_step (bX4_tellBare (2 * f + 3)) rfl rfl trivial ?_)
  refine zv_V1 (bX4_tellBare (2 * f + 3)) rfl rfl rfl rfl rfl rfl rfl ⟨rfl, rfl, rfl⟩ ⟨by show 0 + 1 ≤ 2 * f + 3; omega, by show 8 + (2 + 11) + 64 * 0 ≤ 64 * (2 * f + 3); omega⟩ ⟨Nat.zero_le _, Nat.zero_le _⟩ (sAdd27 O P Y g (by omega) _ _) ?_
  rintro _ _ ⟨rfl, rfl⟩
  iterate 7 (refine zv_step (bX4_tellBare (2 * f + 3)) rfl rfl trivial ?_)
  refine zv_V4 (bX4_tellBare (2 * f + 3)) rfl rfl rfl rfl rfl rfl rfl ⟨rfl, rfl, rfl⟩ ⟨by show 2 * f + 2 + 1 ≤ 2 * f + 3; omega, by show 8 + (5 + 11) + 64 * (2 * f + 2) ≤ 64 * (2 * f + 3); omega⟩ ⟨Nat.zero_le _, Nat.zero_le _⟩ (ih _ _ _ _ _ (pkW_01 _ _ _ _ _ _ _) rfl (by omega)) ?_
  rintro _ _ ⟨rfl, rfl⟩
  iterate 1 (refine zv_step (bX4_tellBare (2 * f + 3)) rfl rfl trivial ?_)
  exact zv_ret (bX4_tellBare (2 * f + 3)) rfl rfl (Nat.zero_le _) (Nat.zero_le _) ⟨rfl, by rw [hc, List.length_cons, show q + ((tlW (O 1) (O 4) (O 5) P f (P 4 (nC n)) (pkW (O 1) (O 4) (O 5) P (nI 7) (P 4 (nC n)) (Int32.ofInt 1))).length + 1) = q + 1 + (tlW (O 1) (O 4) (O 5) P f (P 4 (nC n)) (pkW (O 1) (O 4) (O 5) P (nI 7) (P 4 (nC n)) (Int32.ofInt 1))).length by omega]; rfl⟩
set_option maxHeartbeats 1000000 in
set_option maxRecDepth 20000 in
theorem sBare27_8 (O : Nat → Int32) (P : Nat → Nat → Int32) (Y : Nat → Nat → Int64) (g : Nat → zC) (hu : (O 1).toInt ≤ 120) {f : Nat} (ih : ∀ (x kept z : Int32) (q : Nat) (row : Nat → Int32), (kept = 0 ∨ kept = 1) → z = nI f - Int32.ofInt 1 → q + (tlW (O 1) (O 4) (O 5) P f x kept).length < 2 ^ 30 → zK (2 * f + 2) zX4_tell [.ref 27, .ref 1, .int x, .int kept, .int z] (wX (upd O 3 (nI (q))) (updA P 28 (row)) Y g) (fun r w' => r = none ∧ w' = (wX (upd O 3 (nI (q + (tlW (O 1) (O 4) (O 5) P f x kept).length))) (updA P 28 (ap8 row q (tlW (O 1) (O 4) (O 5) P f x kept))) Y g))) {n : Int32} (hv : vp_in n 120) (hk : P 2 (nC n) = nI 8) (q : Nat) (row : Nat → Int32) (hq : q + (coW P (pkW (O 1) (O 4) (O 5) P) (tlW (O 1) (O 4) (O 5) P f) (nC n)).length < 2 ^ 30) : zK (2 * f + 3) zX4_tellBare [.ref 27, .ref 1, .int n, .int (nI f)] (wX (upd O 3 (nI (q))) (updA P 28 (row)) Y g) (fun r w' => r = none ∧ w' = (wX (upd O 3 (nI (q + (coW P (pkW (O 1) (O 4) (O 5) P) (tlW (O 1) (O 4) (O 5) P f) (nC n)).length))) (updA P 28 (ap8 row q (coW P (pkW (O 1) (O 4) (O 5) P) (tlW (O 1) (O 4) (O 5) P f) (nC n)))) Y g)) := by
  have hc : (coW P (pkW (O 1) (O 4) (O 5) P) (tlW (O 1) (O 4) (O 5) P f) (nC n)) = c8 26 :: ((tlW (O 1) (O 4) (O 5) P f (P 4 (nC n)) (pkW (O 1) (O 4) (O 5) P (nI 8) (P 4 (nC n)) (Int32.ofInt 1))) ++ [c8 27]) := by
    unfold coW
    rw [if_neg (by rw [hk]; decide), if_neg (by rw [hk]; decide), if_neg (by rw [hk]; decide), if_pos hk]
  have hq' : q + (c8 26 :: ((tlW (O 1) (O 4) (O 5) P f (P 4 (nC n)) (pkW (O 1) (O 4) (O 5) P (nI 8) (P 4 (nC n)) (Int32.ofInt 1))) ++ [c8 27])).length < 2 ^ 30 := by rw [← hc]; exact hq
  (try simp only [List.length_cons, List.length_append, List.length_nil] at hq')
  refine zK_of qX4_tellBare (by decide +kernel) rfl ?_
  iterate 3 (refine zv_step (bX4_tellBare (2 * f + 3)) rfl rfl trivial ?_)
  refine zv_iale (bX4_tellBare (2 * f + 3)) rfl rfl hv (show P 2 n.toNatClampNeg = nI 8 from hk) ?_
  iterate 4 (refine zv_step (bX4_tellBare (2 * f + 3)) rfl rfl trivial ?_)
  refine zv_iale (bX4_tellBare (2 * f + 3)) rfl rfl hv (v := P 4 (nC n)) rfl ?_
  iterate 4 (refine zv_step (bX4_tellBare (2 * f + 3)) rfl rfl trivial ?_)
  refine zv_iale (bX4_tellBare (2 * f + 3)) rfl rfl hv (v := P 5 (nC n)) rfl ?_
  iterate 6 (refine zv_step (bX4_tellBare (2 * f + 3)) rfl rfl trivial ?_)
  refine zv_V4 (bX4_tellBare (2 * f + 3)) rfl rfl rfl rfl rfl rfl rfl ⟨rfl, rfl, rfl⟩ ⟨by show 2 + 1 ≤ 2 * f + 3; omega, by show 8 + (6 + 11) + 64 * 2 ≤ 64 * (2 * f + 3); omega⟩ ⟨Nat.zero_le _, Nat.zero_le _⟩ (sPart27 O P Y g hu _ _ _ _ _) ?_
  rintro _ _ ⟨rfl, rfl⟩
  iterate 2 (refine zv_step (bX4_tellBare (2 * f + 3)) rfl rfl trivial ?_)
  refine zv_step (bX4_tellBare (2 * f + 3)) rfl rfl (by decide) ?_
  iterate 2 (refine zv_step (bX4_tellBare (2 * f + 3)) rfl rfl trivial ?_)
  refine zv_V1 (bX4_tellBare (2 * f + 3)) rfl rfl rfl rfl rfl rfl rfl ⟨rfl, rfl, rfl⟩ ⟨by show 0 + 1 ≤ 2 * f + 3; omega, by show 8 + (2 + 11) + 64 * 0 ≤ 64 * (2 * f + 3); omega⟩ ⟨Nat.zero_le _, Nat.zero_le _⟩ (sAdd27 O P Y g (by omega) _ _) ?_
  rintro _ _ ⟨rfl, rfl⟩
  iterate 7 (refine zv_step (bX4_tellBare (2 * f + 3)) rfl rfl trivial ?_)
  refine zv_V4 (bX4_tellBare (2 * f + 3)) rfl rfl rfl rfl rfl rfl rfl ⟨rfl, rfl, rfl⟩ ⟨by show 2 * f + 2 + 1 ≤ 2 * f + 3; omega, by show 8 + (5 + 11) + 64 * (2 * f + 2) ≤ 64 * (2 * f + 3); omega⟩ ⟨Nat.zero_le _, Nat.zero_le _⟩ (ih _ _ _ _ _ (pkW_01 _ _ _ _ _ _ _) rfl (by omega)) ?_
  rintro _ _ ⟨rfl, rfl⟩
  iterate 2 (refine zv_step (bX4_tellBare (2 * f + 3)) rfl rfl trivial ?_)
  refine zv_V1 (bX4_tellBare (2 * f + 3)) rfl rfl rfl rfl rfl rfl rfl ⟨rfl, rfl, rfl⟩ ⟨by show 0 + 1 ≤ 2 * f + 3; omega, by show 8 + (2 + 11) + 64 * 0 ≤ 64 * (2 * f + 3); omega⟩ ⟨Nat.zero_le _, Nat.zero_le _⟩ (sAdd27 O P Y g (by omega) _ _) ?_
  rintro _ _ ⟨rfl, rfl⟩
  iterate 1 (refine zv_step (bX4_tellBare (2 * f + 3)) rfl rfl trivial ?_)
  exact zv_ret (bX4_tellBare (2 * f + 3)) rfl rfl (Nat.zero_le _) (Nat.zero_le _) ⟨rfl, by rw [hc, List.length_cons, List.length_append, List.length_singleton, show q + ((tlW (O 1) (O 4) (O 5) P f (P 4 (nC n)) (pkW (O 1) (O 4) (O 5) P (nI 8) (P 4 (nC n)) (Int32.ofInt 1))).length + 1 + 1) = q + 1 + (tlW (O 1) (O 4) (O 5) P f (P 4 (nC n)) (pkW (O 1) (O 4) (O 5) P (nI 8) (P 4 (nC n)) (Int32.ofInt 1))).length + 1 by omega]; show _ = (wX (upd O 3 (nI (_))) (updA P 28 (ap8 (ap1 row q (c8 26)) (q + 1) ((tlW (O 1) (O 4) (O 5) P f (P 4 (nC n)) (pkW (O 1) (O 4) (O 5) P (nI 8) (P 4 (nC n)) (Int32.ofInt 1))) ++ [c8 27]))) Y g); rw [ap8_app]; rfl⟩
set_option maxHeartbeats 1000000 in
set_option maxRecDepth 20000 in
theorem sBare27_9 (O : Nat → Int32) (P : Nat → Nat → Int32) (Y : Nat → Nat → Int64) (g : Nat → zC) (hu : (O 1).toInt ≤ 120) {f : Nat} (ih : ∀ (x kept z : Int32) (q : Nat) (row : Nat → Int32), (kept = 0 ∨ kept = 1) → z = nI f - Int32.ofInt 1 → q + (tlW (O 1) (O 4) (O 5) P f x kept).length < 2 ^ 30 → zK (2 * f + 2) zX4_tell [.ref 27, .ref 1, .int x, .int kept, .int z] (wX (upd O 3 (nI (q))) (updA P 28 (row)) Y g) (fun r w' => r = none ∧ w' = (wX (upd O 3 (nI (q + (tlW (O 1) (O 4) (O 5) P f x kept).length))) (updA P 28 (ap8 row q (tlW (O 1) (O 4) (O 5) P f x kept))) Y g))) {n : Int32} (hv : vp_in n 120) (hk : P 2 (nC n) = nI 9) (q : Nat) (row : Nat → Int32) (hq : q + (coW P (pkW (O 1) (O 4) (O 5) P) (tlW (O 1) (O 4) (O 5) P f) (nC n)).length < 2 ^ 30) : zK (2 * f + 3) zX4_tellBare [.ref 27, .ref 1, .int n, .int (nI f)] (wX (upd O 3 (nI (q))) (updA P 28 (row)) Y g) (fun r w' => r = none ∧ w' = (wX (upd O 3 (nI (q + (coW P (pkW (O 1) (O 4) (O 5) P) (tlW (O 1) (O 4) (O 5) P f) (nC n)).length))) (updA P 28 (ap8 row q (coW P (pkW (O 1) (O 4) (O 5) P) (tlW (O 1) (O 4) (O 5) P f) (nC n)))) Y g)) := by
  have hc : (coW P (pkW (O 1) (O 4) (O 5) P) (tlW (O 1) (O 4) (O 5) P f) (nC n)) = P 3 (nC n) :: c8 28 :: (tlW (O 1) (O 4) (O 5) P f (P 4 (nC n)) (pkW (O 1) (O 4) (O 5) P (nI 9) (P 4 (nC n)) (Int32.ofInt 1))) := by
    unfold coW
    rw [if_neg (by rw [hk]; decide), if_neg (by rw [hk]; decide), if_neg (by rw [hk]; decide), if_neg (by rw [hk]; decide), if_pos hk]
  have hq' : q + (P 3 (nC n) :: c8 28 :: (tlW (O 1) (O 4) (O 5) P f (P 4 (nC n)) (pkW (O 1) (O 4) (O 5) P (nI 9) (P 4 (nC n)) (Int32.ofInt 1)))).length < 2 ^ 30 := by rw [← hc]; exact hq
  (try simp only [List.length_cons, List.length_append, List.length_nil] at hq')
  refine zK_of qX4_tellBare (by decide +kernel) rfl ?_
  iterate 3 (refine zv_step (bX4_tellBare (2 * f + 3)) rfl rfl trivial ?_)
  refine zv_iale (bX4_tellBare (2 * f + 3)) rfl rfl hv (show P 2 n.toNatClampNeg = nI 9 from hk) ?_
  iterate 4 (refine zv_step (bX4_tellBare (2 * f + 3)) rfl rfl trivial ?_)
  refine zv_iale (bX4_tellBare (2 * f + 3)) rfl rfl hv (v := P 4 (nC n)) rfl ?_
  iterate 4 (refine zv_step (bX4_tellBare (2 * f + 3)) rfl rfl trivial ?_)
  refine zv_iale (bX4_tellBare (2 * f + 3)) rfl rfl hv (v := P 5 (nC n)) rfl ?_
  iterate 6 (refine zv_step (bX4_tellBare (2 * f + 3)) rfl rfl trivial ?_)
  refine zv_V4 (bX4_tellBare (2 * f + 3)) rfl rfl rfl rfl rfl rfl rfl ⟨rfl, rfl, rfl⟩ ⟨by show 2 + 1 ≤ 2 * f + 3; omega, by show 8 + (6 + 11) + 64 * 2 ≤ 64 * (2 * f + 3); omega⟩ ⟨Nat.zero_le _, Nat.zero_le _⟩ (sPart27 O P Y g hu _ _ _ _ _) ?_
  rintro _ _ ⟨rfl, rfl⟩
  iterate 2 (refine zv_step (bX4_tellBare (2 * f + 3)) rfl rfl trivial ?_)
  refine zv_step (bX4_tellBare (2 * f + 3)) rfl rfl (by decide) ?_
  iterate 4 (refine zv_step (bX4_tellBare (2 * f + 3)) rfl rfl trivial ?_)
  refine zv_iale (bX4_tellBare (2 * f + 3)) rfl rfl hv (v := P 3 (nC n)) rfl ?_
  refine zv_V1 (bX4_tellBare (2 * f + 3)) rfl rfl rfl rfl rfl rfl rfl ⟨rfl, rfl, rfl⟩ ⟨by show 0 + 1 ≤ 2 * f + 3; omega, by show 8 + (2 + 11) + 64 * 0 ≤ 64 * (2 * f + 3); omega⟩ ⟨Nat.zero_le _, Nat.zero_le _⟩ (sAdd27 O P Y g (by omega) _ _) ?_
  rintro _ _ ⟨rfl, rfl⟩
  iterate 2 (refine zv_step (bX4_tellBare (2 * f + 3)) rfl rfl trivial ?_)
  refine zv_V1 (bX4_tellBare (2 * f + 3)) rfl rfl rfl rfl rfl rfl rfl ⟨rfl, rfl, rfl⟩ ⟨by show 0 + 1 ≤ 2 * f + 3; omega, by show 8 + (2 + 11) + 64 * 0 ≤ 64 * (2 * f + 3); omega⟩ ⟨Nat.zero_le _, Nat.zero_le _⟩ (sAdd27 O P Y g (by omega) _ _) ?_
  rintro _ _ ⟨rfl, rfl⟩
  iterate 7 (refine zv_step (bX4_tellBare (2 * f + 3)) rfl rfl trivial ?_)
  refine zv_V4 (bX4_tellBare (2 * f + 3)) rfl rfl rfl rfl rfl rfl rfl ⟨rfl, rfl, rfl⟩ ⟨by show 2 * f + 2 + 1 ≤ 2 * f + 3; omega, by show 8 + (5 + 11) + 64 * (2 * f + 2) ≤ 64 * (2 * f + 3); omega⟩ ⟨Nat.zero_le _, Nat.zero_le _⟩ (ih _ _ _ _ _ (pkW_01 _ _ _ _ _ _ _) rfl (by omega)) ?_
  rintro _ _ ⟨rfl, rfl⟩
  iterate 1 (refine zv_step (bX4_tellBare (2 * f + 3)) rfl rfl trivial ?_)
  exact zv_ret (bX4_tellBare (2 * f + 3)) rfl rfl (Nat.zero_le _) (Nat.zero_le _) ⟨rfl, by rw [hc, List.length_cons, List.length_cons, show q + ((tlW (O 1) (O 4) (O 5) P f (P 4 (nC n)) (pkW (O 1) (O 4) (O 5) P (nI 9) (P 4 (nC n)) (Int32.ofInt 1))).length + 1 + 1) = q + 1 + 1 + (tlW (O 1) (O 4) (O 5) P f (P 4 (nC n)) (pkW (O 1) (O 4) (O 5) P (nI 9) (P 4 (nC n)) (Int32.ofInt 1))).length by omega]; rfl⟩
set_option maxHeartbeats 1000000 in
set_option maxRecDepth 20000 in
theorem sBare27 (O : Nat → Int32) (P : Nat → Nat → Int32) (Y : Nat → Nat → Int64) (g : Nat → zC) (hu : (O 1).toInt ≤ 120) (hK : ∀ j : Nat, (j : Int) < (O 1).toInt → ∃ k : Nat, k < 10 ∧ P 2 j = nI k) {f : Nat} (ih : ∀ (x kept z : Int32) (q : Nat) (row : Nat → Int32), (kept = 0 ∨ kept = 1) → z = nI f - Int32.ofInt 1 → q + (tlW (O 1) (O 4) (O 5) P f x kept).length < 2 ^ 30 → zK (2 * f + 2) zX4_tell [.ref 27, .ref 1, .int x, .int kept, .int z] (wX (upd O 3 (nI (q))) (updA P 28 (row)) Y g) (fun r w' => r = none ∧ w' = (wX (upd O 3 (nI (q + (tlW (O 1) (O 4) (O 5) P f x kept).length))) (updA P 28 (ap8 row q (tlW (O 1) (O 4) (O 5) P f x kept))) Y g))) {n : Int32} (hn : 0 ≤ n.toInt ∧ n.toInt < (O 1).toInt) (q : Nat) (row : Nat → Int32) (hq : q + (coW P (pkW (O 1) (O 4) (O 5) P) (tlW (O 1) (O 4) (O 5) P f) (nC n)).length < 2 ^ 30) : zK (2 * f + 3) zX4_tellBare [.ref 27, .ref 1, .int n, .int (nI f)] (wX (upd O 3 (nI (q))) (updA P 28 (row)) Y g) (fun r w' => r = none ∧ w' = (wX (upd O 3 (nI (q + (coW P (pkW (O 1) (O 4) (O 5) P) (tlW (O 1) (O 4) (O 5) P f) (nC n)).length))) (updA P 28 (ap8 row q (coW P (pkW (O 1) (O 4) (O 5) P) (tlW (O 1) (O 4) (O 5) P f) (nC n)))) Y g)) := by
  have hv : vp_in n 120 := vp_in_iff.mpr ⟨hn.1, Int.lt_of_lt_of_le hn.2 hu⟩
  obtain ⟨j, hj, e⟩ := vp_in_of hv (by decide)
  have hnj : nC n = j := by rw [e]; exact nI_clamp (by omega)
  have hji : n.toInt = j := by rw [e]; exact nI_toInt (by omega)
  obtain ⟨k, hk, hk2⟩ := hK (nC n) (by rw [hnj]; omega)
  match k, hk, hk2 with
  | 0, _, hk2 => exact sBare27_0 O P Y g hu ih hv hk2 q row hq
  | 1, _, hk2 => exact sBare27_1 O P Y g hu ih hv hk2 q row hq
  | 2, _, hk2 => exact sBare27_2 O P Y g hu ih hv hk2 q row hq
  | 3, _, hk2 => exact sBare27_3 O P Y g hu ih hv hk2 q row hq
  | 4, _, hk2 => exact sBare27_4 O P Y g hu ih hv hk2 q row hq
  | 5, _, hk2 => exact sBare27_5 O P Y g hu ih hv hk2 q row hq
  | 6, _, hk2 => exact sBare27_6 O P Y g hu ih hv hk2 q row hq
  | 7, _, hk2 => exact sBare27_7 O P Y g hu ih hv hk2 q row hq
  | 8, _, hk2 => exact sBare27_8 O P Y g hu ih hv hk2 q row hq
  | 9, _, hk2 => exact sBare27_9 O P Y g hu ih hv hk2 q row hq
  | k + 10, h, _ => exact absurd h (by omega)
set_option maxHeartbeats 1000000 in
set_option maxRecDepth 20000 in
theorem sTell27 (O : Nat → Int32) (P : Nat → Nat → Int32) (Y : Nat → Nat → Int64) (g : Nat → zC) (hu : (O 1).toInt ≤ 120) (hK : ∀ j : Nat, (j : Int) < (O 1).toInt → ∃ k : Nat, k < 10 ∧ P 2 j = nI k) : ∀ f : Nat, f < 2 ^ 20 → ∀ (x kept z : Int32) (q : Nat) (row : Nat → Int32), (kept = 0 ∨ kept = 1) → z = nI f - Int32.ofInt 1 → q + (tlW (O 1) (O 4) (O 5) P f x kept).length < 2 ^ 30 → zK (2 * f + 2) zX4_tell [.ref 27, .ref 1, .int x, .int kept, .int z] (wX (upd O 3 (nI (q))) (updA P 28 (row)) Y g) (fun r w' => r = none ∧ w' = (wX (upd O 3 (nI (q + (tlW (O 1) (O 4) (O 5) P f x kept).length))) (updA P 28 (ap8 row q (tlW (O 1) (O 4) (O 5) P f x kept))) Y g)) := by
  intro f
  induction f with
  | zero =>
    intro hf x kept z q row hk hz hq
    subst hz
    refine zK_of qX4_tell (by decide +kernel) rfl ?_
    iterate 2 (refine zv_step (bX4_tell (2 * 0 + 2)) rfl rfl trivial ?_)
    refine zv_V1 (bX4_tell (2 * 0 + 2)) rfl rfl rfl rfl rfl rfl rfl ⟨rfl, rfl, rfl⟩ ⟨by show 0 + 1 ≤ (2 * 0 + 2); omega, by show 8 + (2 + 11) + 64 * 0 ≤ 64 * (2 * 0 + 2); omega⟩ ⟨Nat.zero_le _, Nat.zero_le _⟩ (sHas27 O P Y g _ _ _) ?_
    rintro _ _ ⟨rfl, ⟨hh, rfl⟩ | ⟨hh, rfl⟩⟩
    · iterate 1 (refine zv_step (bX4_tell (2 * 0 + 2)) rfl rfl trivial ?_)
      refine zv_ift (by decide) ?_
      have ht : tlW (O 1) (O 4) (O 5) P 0 x kept = [Int32.ofInt 0] := by rw [tlW_0, if_pos hh]
      rw [ht, List.length_singleton] at hq
      iterate 2 (refine zv_step (bX4_tell (2 * 0 + 2)) rfl rfl trivial ?_)
      refine zv_iff (by decide) ?_
      iterate 2 (refine zv_step (bX4_tell (2 * 0 + 2)) rfl rfl trivial ?_)
      refine zv_V1 (bX4_tell (2 * 0 + 2)) rfl rfl rfl rfl rfl rfl rfl ⟨rfl, rfl, rfl⟩ ⟨by show 0 + 1 ≤ (2 * 0 + 2); omega, by show 8 + (2 + 11) + 64 * 0 ≤ 64 * (2 * 0 + 2); omega⟩ ⟨Nat.zero_le _, Nat.zero_le _⟩ (sAdd27 O P Y g (by omega) _ _) ?_
      rintro _ _ ⟨rfl, rfl⟩
      exact zv_ret (bX4_tell (2 * 0 + 2)) rfl rfl (Nat.zero_le _) (Nat.zero_le _) ⟨rfl, by rw [ht]; rfl⟩
    · iterate 1 (refine zv_step (bX4_tell (2 * 0 + 2)) rfl rfl trivial ?_)
      refine zv_iff (by decide) ?_
      exact zv_ret (bX4_tell (2 * 0 + 2)) rfl rfl (Nat.zero_le _) (Nat.zero_le _) ⟨rfl, by rw [show tlW (O 1) (O 4) (O 5) P 0 x kept = [] by rw [tlW_0, if_neg hh]]; rfl⟩
  | succ f ih =>
    intro hf x kept z q row hk hz hq
    have ih := ih (by omega)
    subst hz
    rcases hk with rfl | rfl
    · refine zK_of qX4_tell (by decide +kernel) rfl ?_
      iterate 2 (refine zv_step (bX4_tell (2 * (f + 1) + 2)) rfl rfl trivial ?_)
      refine zv_V1 (bX4_tell (2 * (f + 1) + 2)) rfl rfl rfl rfl rfl rfl rfl ⟨rfl, rfl, rfl⟩ ⟨by show 0 + 1 ≤ (2 * (f + 1) + 2); omega, by show 8 + (2 + 11) + 64 * 0 ≤ 64 * (2 * (f + 1) + 2); omega⟩ ⟨Nat.zero_le _, Nat.zero_le _⟩ (sHas27 O P Y g _ _ _) ?_
      rintro _ _ ⟨rfl, ⟨hh, rfl⟩ | ⟨hh, rfl⟩⟩
      · iterate 1 (refine zv_step (bX4_tell (2 * (f + 1) + 2)) rfl rfl trivial ?_)
        refine zv_ift (by decide) ?_
        iterate 2 (refine zv_step (bX4_tell (2 * (f + 1) + 2)) rfl rfl trivial ?_)
        refine zv_ift (show (0 : Int32) ≤ nI (f + 1) - Int32.ofInt 1 by rw [nI_m1]; exact nI_pos' (by omega)) ?_
        rw [nI_m1]
        have ht : tlW (O 1) (O 4) (O 5) P (f + 1) x 0 = (coW P (pkW (O 1) (O 4) (O 5) P) (tlW (O 1) (O 4) (O 5) P f) (nC x)) := by rw [tlW_s, if_pos hh, if_pos rfl]
        rw [ht] at hq
        iterate 2 (refine zv_step (bX4_tell (2 * (f + 1) + 2)) rfl rfl trivial ?_)
        refine zv_ift (by decide) ?_
        iterate 4 (refine zv_step (bX4_tell (2 * (f + 1) + 2)) rfl rfl trivial ?_)
        refine zv_V3 (bX4_tell (2 * (f + 1) + 2)) rfl rfl rfl rfl rfl rfl rfl ⟨rfl, rfl, rfl⟩ ⟨by show 2 * f + 3 + 1 ≤ 2 * (f + 1) + 2; omega, by show 8 + (8 + 11) + 64 * (2 * f + 3) ≤ 64 * (2 * (f + 1) + 2); omega⟩ ⟨Nat.zero_le _, Nat.zero_le _⟩ (sBare27 O P Y g hu hK ih hh _ _ (by omega)) ?_
        rintro _ _ ⟨rfl, rfl⟩
        iterate 2 (refine zv_step (bX4_tell (2 * (f + 1) + 2)) rfl rfl trivial ?_)
        refine zv_ift (by decide) ?_
        exact zv_ret (bX4_tell (2 * (f + 1) + 2)) rfl rfl (Nat.zero_le _) (Nat.zero_le _) ⟨rfl, by rw [ht]⟩
      · iterate 1 (refine zv_step (bX4_tell (2 * (f + 1) + 2)) rfl rfl trivial ?_)
        refine zv_iff (by decide) ?_
        exact zv_ret (bX4_tell (2 * (f + 1) + 2)) rfl rfl (Nat.zero_le _) (Nat.zero_le _) ⟨rfl, by rw [show tlW (O 1) (O 4) (O 5) P (f + 1) x 0 = [] by rw [tlW_s, if_neg hh]]; rfl⟩
    · refine zK_of qX4_tell (by decide +kernel) rfl ?_
      iterate 2 (refine zv_step (bX4_tell (2 * (f + 1) + 2)) rfl rfl trivial ?_)
      refine zv_V1 (bX4_tell (2 * (f + 1) + 2)) rfl rfl rfl rfl rfl rfl rfl ⟨rfl, rfl, rfl⟩ ⟨by show 0 + 1 ≤ (2 * (f + 1) + 2); omega, by show 8 + (2 + 11) + 64 * 0 ≤ 64 * (2 * (f + 1) + 2); omega⟩ ⟨Nat.zero_le _, Nat.zero_le _⟩ (sHas27 O P Y g _ _ _) ?_
      rintro _ _ ⟨rfl, ⟨hh, rfl⟩ | ⟨hh, rfl⟩⟩
      · iterate 1 (refine zv_step (bX4_tell (2 * (f + 1) + 2)) rfl rfl trivial ?_)
        refine zv_ift (by decide) ?_
        iterate 2 (refine zv_step (bX4_tell (2 * (f + 1) + 2)) rfl rfl trivial ?_)
        refine zv_ift (show (0 : Int32) ≤ nI (f + 1) - Int32.ofInt 1 by rw [nI_m1]; exact nI_pos' (by omega)) ?_
        rw [nI_m1]
        have ht : tlW (O 1) (O 4) (O 5) P (f + 1) x 1 = c8 29 :: ((coW P (pkW (O 1) (O 4) (O 5) P) (tlW (O 1) (O 4) (O 5) P f) (nC x)) ++ [c8 30]) := by rw [tlW_s, if_pos hh, if_neg (by decide)]
        have hl : (tlW (O 1) (O 4) (O 5) P (f + 1) x 1).length = (coW P (pkW (O 1) (O 4) (O 5) P) (tlW (O 1) (O 4) (O 5) P f) (nC x)).length + 2 := by rw [ht]; simp only [List.length_cons, List.length_append, List.length_nil]
        rw [hl] at hq
        iterate 2 (refine zv_step (bX4_tell (2 * (f + 1) + 2)) rfl rfl trivial ?_)
        refine zv_iff (by decide) ?_
        iterate 2 (refine zv_step (bX4_tell (2 * (f + 1) + 2)) rfl rfl trivial ?_)
        refine zv_V1 (bX4_tell (2 * (f + 1) + 2)) rfl rfl rfl rfl rfl rfl rfl ⟨rfl, rfl, rfl⟩ ⟨by show 0 + 1 ≤ (2 * (f + 1) + 2); omega, by show 8 + (2 + 11) + 64 * 0 ≤ 64 * (2 * (f + 1) + 2); omega⟩ ⟨Nat.zero_le _, Nat.zero_le _⟩ (sAdd27 O P Y g (by omega) _ _) ?_
        rintro _ _ ⟨rfl, rfl⟩
        iterate 4 (refine zv_step (bX4_tell (2 * (f + 1) + 2)) rfl rfl trivial ?_)
        refine zv_V3 (bX4_tell (2 * (f + 1) + 2)) rfl rfl rfl rfl rfl rfl rfl ⟨rfl, rfl, rfl⟩ ⟨by show 2 * f + 3 + 1 ≤ 2 * (f + 1) + 2; omega, by show 8 + (8 + 11) + 64 * (2 * f + 3) ≤ 64 * (2 * (f + 1) + 2); omega⟩ ⟨Nat.zero_le _, Nat.zero_le _⟩ (sBare27 O P Y g hu hK ih hh _ _ (by omega)) ?_
        rintro _ _ ⟨rfl, rfl⟩
        iterate 2 (refine zv_step (bX4_tell (2 * (f + 1) + 2)) rfl rfl trivial ?_)
        refine zv_iff (by decide) ?_
        iterate 2 (refine zv_step (bX4_tell (2 * (f + 1) + 2)) rfl rfl trivial ?_)
        refine zv_V1 (bX4_tell (2 * (f + 1) + 2)) rfl rfl rfl rfl rfl rfl rfl ⟨rfl, rfl, rfl⟩ ⟨by show 0 + 1 ≤ (2 * (f + 1) + 2); omega, by show 8 + (2 + 11) + 64 * 0 ≤ 64 * (2 * (f + 1) + 2); omega⟩ ⟨Nat.zero_le _, Nat.zero_le _⟩ (sAdd27 O P Y g (by omega) _ _) ?_
        rintro _ _ ⟨rfl, rfl⟩
        exact zv_ret (bX4_tell (2 * (f + 1) + 2)) rfl rfl (Nat.zero_le _) (Nat.zero_le _) ⟨rfl, by rw [hl, ht, show q + ((coW P (pkW (O 1) (O 4) (O 5) P) (tlW (O 1) (O 4) (O 5) P f) (nC x)).length + 2) = q + 1 + (coW P (pkW (O 1) (O 4) (O 5) P) (tlW (O 1) (O 4) (O 5) P f) (nC x)).length + 1 by omega]; show _ = (wX (upd O 3 (nI (_))) (updA P 28 (ap8 (ap1 row q (c8 29)) (q + 1) ((coW P (pkW (O 1) (O 4) (O 5) P) (tlW (O 1) (O 4) (O 5) P f) (nC x)) ++ [c8 30]))) Y g); rw [ap8_app]; rfl⟩
      · iterate 1 (refine zv_step (bX4_tell (2 * (f + 1) + 2)) rfl rfl trivial ?_)
        refine zv_iff (by decide) ?_
        exact zv_ret (bX4_tell (2 * (f + 1) + 2)) rfl rfl (Nat.zero_le _) (Nat.zero_le _) ⟨rfl, by rw [show tlW (O 1) (O 4) (O 5) P (f + 1) x 1 = [] by rw [tlW_s, if_neg hh]]; rfl⟩
end
section
theorem sHas29 (O : Nat → Int32) (P : Nat → Nat → Int32) (Y : Nat → Nat → Int64) (g : Nat → zC) (q : Nat) (row : Nat → Int32) (x : Int32) : zK 0 zX2_has [.ref 1, .int x] (wX (upd O 6 (nI (q))) (updA P 30 (row)) Y g) (fun r w' => w' = (wX (upd O 6 (nI (q))) (updA P 30 (row)) Y g) ∧ (((0 ≤ x.toInt ∧ x.toInt < (O 1).toInt) ∧ r = some (.int 1)) ∨ (¬ (0 ≤ x.toInt ∧ x.toInt < (O 1).toInt) ∧ r = some (.int 0)))) := pHas1 (upd O 6 (nI q)) (updA P 30 row) Y g x
set_option maxHeartbeats 1000000 in
set_option maxRecDepth 20000 in
theorem sPart29 (O : Nat → Int32) (P : Nat → Nat → Int32) (Y : Nat → Nat → Int64) (g : Nat → zC) (hu : (O 1).toInt ≤ 120) (q : Nat) (row : Nat → Int32) (k x first : Int32) : zK 2 zX4_isPartKept [.ref 29, .ref 1, .int k, .int x, .int first] (wX (upd O 6 (nI (q))) (updA P 30 (row)) Y g) (fun r w' => w' = (wX (upd O 6 (nI (q))) (updA P 30 (row)) Y g) ∧ r = some (.int (pkW (O 1) (O 7) (O 8) P k x first))) := by
  refine zK_of qX4_isPartKept (by decide +kernel) rfl ?_
  iterate 2 (refine zv_step (bX4_isPartKept 2) rfl rfl trivial ?_)
  refine zv_V1 (bX4_isPartKept 2) rfl rfl rfl rfl rfl rfl rfl ⟨rfl, rfl, rfl⟩ ⟨by decide, by decide⟩ ⟨Nat.zero_le _, Nat.zero_le _⟩ (sHas29 O P Y g _ _ _) ?_
  rintro _ _ ⟨rfl, ⟨hh, rfl⟩ | ⟨hh, rfl⟩⟩
  · iterate 1 (refine zv_step (bX4_isPartKept 2) rfl rfl trivial ?_)
    refine zv_ift (by decide) ?_
    iterate 3 (refine zv_step (bX4_isPartKept 2) rfl rfl trivial ?_)
    refine zv_step (bX4_isPartKept 2) rfl rfl (vp_in_iff.mpr ⟨hh.1, Int.lt_of_lt_of_le hh.2 hu⟩) ?_
    iterate 4 (refine zv_step (bX4_isPartKept 2) rfl rfl trivial ?_)
    refine zv_ifb (fun hs => ?_) (fun hs => ?_)
    · have hs : O 8 = 0 := hs
      iterate 3 (refine zv_step (bX4_isPartKept 2) rfl rfl trivial ?_)
      refine zv_S2 (bX4_isPartKept 2) rfl rfl rfl rfl ⟨rfl, rfl, rfl⟩ ⟨by decide, by decide⟩ ⟨Nat.zero_le _, Nat.zero_le _⟩ (pHasBitW _ _ _) ?_
      rintro _ _ ⟨rfl, rfl⟩
      exact zv_iret (bX4_isPartKept 2) rfl (Or.inr ⟨rfl, hbW_01 _ _⟩) (Nat.zero_le _) (Nat.zero_le _) ⟨rfl, by unfold pkW; rw [if_pos hh, if_pos hs]; rfl⟩
    · have hs : ¬ O 8 = 0 := hs
      iterate 3 (refine zv_step (bX4_isPartKept 2) rfl rfl trivial ?_)
      refine zv_S3 (bX4_isPartKept 2) rfl rfl rfl rfl ⟨rfl, rfl, rfl⟩ ⟨by decide, by decide⟩ ⟨Nat.zero_le _, Nat.zero_le _⟩ (sDoubt _ _ _ _) ?_
      rintro _ _ ⟨rfl, rfl⟩
      iterate 1 (refine zv_step (bX4_isPartKept 2) rfl rfl trivial ?_)
      exact zv_iret (bX4_isPartKept 2) rfl (Or.inr ⟨rfl, dbW_01 _ _ _⟩) (Nat.zero_le _) (Nat.zero_le _) ⟨rfl, by unfold pkW; rw [if_pos hh, if_neg hs]; rfl⟩
  · iterate 1 (refine zv_step (bX4_isPartKept 2) rfl rfl trivial ?_)
    refine zv_iff (by decide) ?_
    iterate 1 (refine zv_step (bX4_isPartKept 2) rfl rfl trivial ?_)
    exact zv_iret (bX4_isPartKept 2) rfl (Or.inr ⟨rfl, Or.inl rfl⟩) (Nat.zero_le _) (Nat.zero_le _) ⟨rfl, by unfold pkW; rw [if_neg hh]⟩
set_option maxHeartbeats 1000000 in
set_option maxRecDepth 20000 in
theorem sBare29_0 (O : Nat → Int32) (P : Nat → Nat → Int32) (Y : Nat → Nat → Int64) (g : Nat → zC) (hu : (O 1).toInt ≤ 120) {f : Nat} (ih : ∀ (x kept z : Int32) (q : Nat) (row : Nat → Int32), (kept = 0 ∨ kept = 1) → z = nI f - Int32.ofInt 1 → q + (tlW (O 1) (O 7) (O 8) P f x kept).length < 2 ^ 30 → zK (2 * f + 2) zX4_tell [.ref 29, .ref 1, .int x, .int kept, .int z] (wX (upd O 6 (nI (q))) (updA P 30 (row)) Y g) (fun r w' => r = none ∧ w' = (wX (upd O 6 (nI (q + (tlW (O 1) (O 7) (O 8) P f x kept).length))) (updA P 30 (ap8 row q (tlW (O 1) (O 7) (O 8) P f x kept))) Y g))) {n : Int32} (hv : vp_in n 120) (hk : P 2 (nC n) = nI 0) (q : Nat) (row : Nat → Int32) (hq : q + (coW P (pkW (O 1) (O 7) (O 8) P) (tlW (O 1) (O 7) (O 8) P f) (nC n)).length < 2 ^ 30) : zK (2 * f + 3) zX4_tellBare [.ref 29, .ref 1, .int n, .int (nI f)] (wX (upd O 6 (nI (q))) (updA P 30 (row)) Y g) (fun r w' => r = none ∧ w' = (wX (upd O 6 (nI (q + (coW P (pkW (O 1) (O 7) (O 8) P) (tlW (O 1) (O 7) (O 8) P f) (nC n)).length))) (updA P 30 (ap8 row q (coW P (pkW (O 1) (O 7) (O 8) P) (tlW (O 1) (O 7) (O 8) P f) (nC n)))) Y g)) := by
  have hc : (coW P (pkW (O 1) (O 7) (O 8) P) (tlW (O 1) (O 7) (O 8) P f) (nC n)) = [P 3 (nC n)] := by
    unfold coW
    rw [if_pos hk]
  have hq' : q + ([P 3 (nC n)]).length < 2 ^ 30 := by rw [← hc]; exact hq
  (try simp only [List.length_cons, List.length_append, List.length_nil] at hq')
  refine zK_of qX4_tellBare (by decide +kernel) rfl ?_
  iterate 3 (refine zv_step (bX4_tellBare (2 * f + 3)) rfl rfl trivial ?_)
  refine zv_iale (bX4_tellBare (2 * f + 3)) rfl rfl hv (show P 2 n.toNatClampNeg = nI 0 from hk) ?_
  iterate 4 (refine zv_step (bX4_tellBare (2 * f + 3)) rfl rfl trivial ?_)
  refine zv_iale (bX4_tellBare (2 * f + 3)) rfl rfl hv (v := P 4 (nC n)) rfl ?_
  iterate 4 (refine zv_step (bX4_tellBare (2 * f + 3)) rfl rfl trivial ?_)
  refine zv_iale (bX4_tellBare (2 * f + 3)) rfl rfl hv (v := P 5 (nC n)) rfl ?_
  iterate 6 (refine zv_step (bX4_tellBare (2 * f + 3)) rfl rfl trivial ?_)
  refine zv_V4 (bX4_tellBare (2 * f + 3)) rfl rfl rfl rfl rfl rfl rfl ⟨rfl, rfl, rfl⟩ ⟨by show 2 + 1 ≤ 2 * f + 3; omega, by show 8 + (6 + 11) + 64 * 2 ≤ 64 * (2 * f + 3); omega⟩ ⟨Nat.zero_le _, Nat.zero_le _⟩ (sPart29 O P Y g hu _ _ _ _ _) ?_
  rintro _ _ ⟨rfl, rfl⟩
  iterate 2 (refine zv_step (bX4_tellBare (2 * f + 3)) rfl rfl trivial ?_)
  refine zv_step (bX4_tellBare (2 * f + 3)) rfl rfl (by decide) ?_
  iterate 4 (refine zv_step (bX4_tellBare (2 * f + 3)) rfl rfl trivial ?_)
  refine zv_iale (bX4_tellBare (2 * f + 3)) rfl rfl hv (v := P 3 (nC n)) rfl ?_
  refine zv_V1 (bX4_tellBare (2 * f + 3)) rfl rfl rfl rfl rfl rfl rfl ⟨rfl, rfl, rfl⟩ ⟨by show 0 + 1 ≤ 2 * f + 3; omega, by show 8 + (2 + 11) + 64 * 0 ≤ 64 * (2 * f + 3); omega⟩ ⟨Nat.zero_le _, Nat.zero_le _⟩ (sAdd29 O P Y g (by omega) _ _) ?_
  rintro _ _ ⟨rfl, rfl⟩
  iterate 1 (refine zv_step (bX4_tellBare (2 * f + 3)) rfl rfl trivial ?_)
  exact zv_ret (bX4_tellBare (2 * f + 3)) rfl rfl (Nat.zero_le _) (Nat.zero_le _) ⟨rfl, by rw [hc]; rfl⟩
set_option maxHeartbeats 1000000 in
set_option maxRecDepth 20000 in
theorem sBare29_1 (O : Nat → Int32) (P : Nat → Nat → Int32) (Y : Nat → Nat → Int64) (g : Nat → zC) (hu : (O 1).toInt ≤ 120) {f : Nat} (ih : ∀ (x kept z : Int32) (q : Nat) (row : Nat → Int32), (kept = 0 ∨ kept = 1) → z = nI f - Int32.ofInt 1 → q + (tlW (O 1) (O 7) (O 8) P f x kept).length < 2 ^ 30 → zK (2 * f + 2) zX4_tell [.ref 29, .ref 1, .int x, .int kept, .int z] (wX (upd O 6 (nI (q))) (updA P 30 (row)) Y g) (fun r w' => r = none ∧ w' = (wX (upd O 6 (nI (q + (tlW (O 1) (O 7) (O 8) P f x kept).length))) (updA P 30 (ap8 row q (tlW (O 1) (O 7) (O 8) P f x kept))) Y g))) {n : Int32} (hv : vp_in n 120) (hk : P 2 (nC n) = nI 1) (q : Nat) (row : Nat → Int32) (hq : q + (coW P (pkW (O 1) (O 7) (O 8) P) (tlW (O 1) (O 7) (O 8) P f) (nC n)).length < 2 ^ 30) : zK (2 * f + 3) zX4_tellBare [.ref 29, .ref 1, .int n, .int (nI f)] (wX (upd O 6 (nI (q))) (updA P 30 (row)) Y g) (fun r w' => r = none ∧ w' = (wX (upd O 6 (nI (q + (coW P (pkW (O 1) (O 7) (O 8) P) (tlW (O 1) (O 7) (O 8) P f) (nC n)).length))) (updA P 30 (ap8 row q (coW P (pkW (O 1) (O 7) (O 8) P) (tlW (O 1) (O 7) (O 8) P f) (nC n)))) Y g)) := by
  have hc : (coW P (pkW (O 1) (O 7) (O 8) P) (tlW (O 1) (O 7) (O 8) P f) (nC n)) = dgW (P 3 (nC n)) := by
    unfold coW
    rw [if_neg (by rw [hk]; decide), if_pos hk]
  have hd := dgW_len (P 3 (nC n))
  have hq' : q + (dgW (P 3 (nC n))).length < 2 ^ 30 := by rw [← hc]; exact hq
  (try simp only [List.length_cons, List.length_append, List.length_nil] at hq')
  refine zK_of qX4_tellBare (by decide +kernel) rfl ?_
  iterate 3 (refine zv_step (bX4_tellBare (2 * f + 3)) rfl rfl trivial ?_)
  refine zv_iale (bX4_tellBare (2 * f + 3)) rfl rfl hv (show P 2 n.toNatClampNeg = nI 1 from hk) ?_
  iterate 4 (refine zv_step (bX4_tellBare (2 * f + 3)) rfl rfl trivial ?_)
  refine zv_iale (bX4_tellBare (2 * f + 3)) rfl rfl hv (v := P 4 (nC n)) rfl ?_
  iterate 4 (refine zv_step (bX4_tellBare (2 * f + 3)) rfl rfl trivial ?_)
  refine zv_iale (bX4_tellBare (2 * f + 3)) rfl rfl hv (v := P 5 (nC n)) rfl ?_
  iterate 6 (refine zv_step (bX4_tellBare (2 * f + 3)) rfl rfl trivial ?_)
  refine zv_V4 (bX4_tellBare (2 * f + 3)) rfl rfl rfl rfl rfl rfl rfl ⟨rfl, rfl, rfl⟩ ⟨by show 2 + 1 ≤ 2 * f + 3; omega, by show 8 + (6 + 11) + 64 * 2 ≤ 64 * (2 * f + 3); omega⟩ ⟨Nat.zero_le _, Nat.zero_le _⟩ (sPart29 O P Y g hu _ _ _ _ _) ?_
  rintro _ _ ⟨rfl, rfl⟩
  iterate 2 (refine zv_step (bX4_tellBare (2 * f + 3)) rfl rfl trivial ?_)
  refine zv_step (bX4_tellBare (2 * f + 3)) rfl rfl (by decide) ?_
  iterate 4 (refine zv_step (bX4_tellBare (2 * f + 3)) rfl rfl trivial ?_)
  refine zv_iale (bX4_tellBare (2 * f + 3)) rfl rfl hv (v := P 3 (nC n)) rfl ?_
  refine zv_V1 (bX4_tellBare (2 * f + 3)) rfl rfl rfl rfl rfl rfl rfl ⟨rfl, rfl, rfl⟩ ⟨by show 1 + 1 ≤ 2 * f + 3; omega, by show 8 + (4 + 11) + 64 * 1 ≤ 64 * (2 * f + 3); omega⟩ ⟨Nat.zero_le _, Nat.zero_le _⟩ (sDigits29 O P Y g (by omega) _ _) ?_
  rintro _ _ ⟨rfl, rfl⟩
  iterate 1 (refine zv_step (bX4_tellBare (2 * f + 3)) rfl rfl trivial ?_)
  exact zv_ret (bX4_tellBare (2 * f + 3)) rfl rfl (Nat.zero_le _) (Nat.zero_le _) ⟨rfl, by rw [hc]⟩
set_option maxHeartbeats 1000000 in
set_option maxRecDepth 20000 in
theorem sBare29_2 (O : Nat → Int32) (P : Nat → Nat → Int32) (Y : Nat → Nat → Int64) (g : Nat → zC) (hu : (O 1).toInt ≤ 120) {f : Nat} (ih : ∀ (x kept z : Int32) (q : Nat) (row : Nat → Int32), (kept = 0 ∨ kept = 1) → z = nI f - Int32.ofInt 1 → q + (tlW (O 1) (O 7) (O 8) P f x kept).length < 2 ^ 30 → zK (2 * f + 2) zX4_tell [.ref 29, .ref 1, .int x, .int kept, .int z] (wX (upd O 6 (nI (q))) (updA P 30 (row)) Y g) (fun r w' => r = none ∧ w' = (wX (upd O 6 (nI (q + (tlW (O 1) (O 7) (O 8) P f x kept).length))) (updA P 30 (ap8 row q (tlW (O 1) (O 7) (O 8) P f x kept))) Y g))) {n : Int32} (hv : vp_in n 120) (hk : P 2 (nC n) = nI 2) (q : Nat) (row : Nat → Int32) (hq : q + (coW P (pkW (O 1) (O 7) (O 8) P) (tlW (O 1) (O 7) (O 8) P f) (nC n)).length < 2 ^ 30) : zK (2 * f + 3) zX4_tellBare [.ref 29, .ref 1, .int n, .int (nI f)] (wX (upd O 6 (nI (q))) (updA P 30 (row)) Y g) (fun r w' => r = none ∧ w' = (wX (upd O 6 (nI (q + (coW P (pkW (O 1) (O 7) (O 8) P) (tlW (O 1) (O 7) (O 8) P f) (nC n)).length))) (updA P 30 (ap8 row q (coW P (pkW (O 1) (O 7) (O 8) P) (tlW (O 1) (O 7) (O 8) P f) (nC n)))) Y g)) := by
  have hc : (coW P (pkW (O 1) (O 7) (O 8) P) (tlW (O 1) (O 7) (O 8) P f) (nC n)) = (tlW (O 1) (O 7) (O 8) P f (P 4 (nC n)) (pkW (O 1) (O 7) (O 8) P (nI 2) (P 4 (nC n)) (Int32.ofInt 1))) ++ ((c8 18 + nI 2) :: (tlW (O 1) (O 7) (O 8) P f (P 5 (nC n)) (pkW (O 1) (O 7) (O 8) P (nI 2) (P 5 (nC n)) (Int32.ofInt 0)))) := by
    unfold coW
    rw [if_neg (by rw [hk]; decide), if_neg (by rw [hk]; decide), if_neg (by rw [hk]; decide), if_neg (by rw [hk]; decide), if_neg (by rw [hk]; decide), hk]
  have hq' : q + ((tlW (O 1) (O 7) (O 8) P f (P 4 (nC n)) (pkW (O 1) (O 7) (O 8) P (nI 2) (P 4 (nC n)) (Int32.ofInt 1))) ++ ((c8 18 + nI 2) :: (tlW (O 1) (O 7) (O 8) P f (P 5 (nC n)) (pkW (O 1) (O 7) (O 8) P (nI 2) (P 5 (nC n)) (Int32.ofInt 0))))).length < 2 ^ 30 := by rw [← hc]; exact hq
  (try simp only [List.length_cons, List.length_append, List.length_nil] at hq')
  refine zK_of qX4_tellBare (by decide +kernel) rfl ?_
  iterate 3 (refine zv_step (bX4_tellBare (2 * f + 3)) rfl rfl trivial ?_)
  refine zv_iale (bX4_tellBare (2 * f + 3)) rfl rfl hv (show P 2 n.toNatClampNeg = nI 2 from hk) ?_
  iterate 4 (refine zv_step (bX4_tellBare (2 * f + 3)) rfl rfl trivial ?_)
  refine zv_iale (bX4_tellBare (2 * f + 3)) rfl rfl hv (v := P 4 (nC n)) rfl ?_
  iterate 4 (refine zv_step (bX4_tellBare (2 * f + 3)) rfl rfl trivial ?_)
  refine zv_iale (bX4_tellBare (2 * f + 3)) rfl rfl hv (v := P 5 (nC n)) rfl ?_
  iterate 6 (refine zv_step (bX4_tellBare (2 * f + 3)) rfl rfl trivial ?_)
  refine zv_V4 (bX4_tellBare (2 * f + 3)) rfl rfl rfl rfl rfl rfl rfl ⟨rfl, rfl, rfl⟩ ⟨by show 2 + 1 ≤ 2 * f + 3; omega, by show 8 + (6 + 11) + 64 * 2 ≤ 64 * (2 * f + 3); omega⟩ ⟨Nat.zero_le _, Nat.zero_le _⟩ (sPart29 O P Y g hu _ _ _ _ _) ?_
  rintro _ _ ⟨rfl, rfl⟩
  iterate 2 (refine zv_step (bX4_tellBare (2 * f + 3)) rfl rfl trivial ?_)
  refine zv_step (bX4_tellBare (2 * f + 3)) rfl rfl (by decide) ?_
  iterate 7 (refine zv_step (bX4_tellBare (2 * f + 3)) rfl rfl trivial ?_)
  refine zv_V4 (bX4_tellBare (2 * f + 3)) rfl rfl rfl rfl rfl rfl rfl ⟨rfl, rfl, rfl⟩ ⟨by show 2 * f + 2 + 1 ≤ 2 * f + 3; omega, by show 8 + (5 + 11) + 64 * (2 * f + 2) ≤ 64 * (2 * f + 3); omega⟩ ⟨Nat.zero_le _, Nat.zero_le _⟩ (ih _ _ _ _ _ (pkW_01 _ _ _ _ _ _ _) rfl (by omega)) ?_
  rintro _ _ ⟨rfl, rfl⟩
  iterate 4 (refine zv_step (bX4_tellBare (2 * f + 3)) rfl rfl trivial ?_)
  refine zv_V1 (bX4_tellBare (2 * f + 3)) rfl rfl rfl rfl rfl rfl rfl ⟨rfl, rfl, rfl⟩ ⟨by show 0 + 1 ≤ 2 * f + 3; omega, by show 8 + (2 + 11) + 64 * 0 ≤ 64 * (2 * f + 3); omega⟩ ⟨Nat.zero_le _, Nat.zero_le _⟩ (sAdd29 O P Y g (by omega) _ _) ?_
  rintro _ _ ⟨rfl, rfl⟩
  iterate 8 (refine zv_step (bX4_tellBare (2 * f + 3)) rfl rfl trivial ?_)
  refine zv_V4 (bX4_tellBare (2 * f + 3)) rfl rfl rfl rfl rfl rfl rfl ⟨rfl, rfl, rfl⟩ ⟨by show 2 + 1 ≤ 2 * f + 3; omega, by show 8 + (6 + 11) + 64 * 2 ≤ 64 * (2 * f + 3); omega⟩ ⟨Nat.zero_le _, Nat.zero_le _⟩ (sPart29 O P Y g hu _ _ _ _ _) ?_
  rintro _ _ ⟨rfl, rfl⟩
  iterate 3 (refine zv_step (bX4_tellBare (2 * f + 3)) rfl rfl trivial ?_)
  refine zv_V4 (bX4_tellBare (2 * f + 3)) rfl rfl rfl rfl rfl rfl rfl ⟨rfl, rfl, rfl⟩ ⟨by show 2 * f + 2 + 1 ≤ 2 * f + 3; omega, by show 8 + (5 + 11) + 64 * (2 * f + 2) ≤ 64 * (2 * f + 3); omega⟩ ⟨Nat.zero_le _, Nat.zero_le _⟩ (ih _ _ _ _ _ (pkW_01 _ _ _ _ _ _ _) rfl (by omega)) ?_
  rintro _ _ ⟨rfl, rfl⟩
  exact zv_ret (bX4_tellBare (2 * f + 3)) rfl rfl (Nat.zero_le _) (Nat.zero_le _) ⟨rfl, by rw [hc, List.length_append, List.length_cons, show q + ((tlW (O 1) (O 7) (O 8) P f (P 4 (nC n)) (pkW (O 1) (O 7) (O 8) P (nI 2) (P 4 (nC n)) (Int32.ofInt 1))).length + ((tlW (O 1) (O 7) (O 8) P f (P 5 (nC n)) (pkW (O 1) (O 7) (O 8) P (nI 2) (P 5 (nC n)) (Int32.ofInt 0))).length + 1)) = q + (tlW (O 1) (O 7) (O 8) P f (P 4 (nC n)) (pkW (O 1) (O 7) (O 8) P (nI 2) (P 4 (nC n)) (Int32.ofInt 1))).length + 1 + (tlW (O 1) (O 7) (O 8) P f (P 5 (nC n)) (pkW (O 1) (O 7) (O 8) P (nI 2) (P 5 (nC n)) (Int32.ofInt 0))).length by omega, ap8_app]; rfl⟩
set_option maxHeartbeats 1000000 in
set_option maxRecDepth 20000 in
theorem sBare29_3 (O : Nat → Int32) (P : Nat → Nat → Int32) (Y : Nat → Nat → Int64) (g : Nat → zC) (hu : (O 1).toInt ≤ 120) {f : Nat} (ih : ∀ (x kept z : Int32) (q : Nat) (row : Nat → Int32), (kept = 0 ∨ kept = 1) → z = nI f - Int32.ofInt 1 → q + (tlW (O 1) (O 7) (O 8) P f x kept).length < 2 ^ 30 → zK (2 * f + 2) zX4_tell [.ref 29, .ref 1, .int x, .int kept, .int z] (wX (upd O 6 (nI (q))) (updA P 30 (row)) Y g) (fun r w' => r = none ∧ w' = (wX (upd O 6 (nI (q + (tlW (O 1) (O 7) (O 8) P f x kept).length))) (updA P 30 (ap8 row q (tlW (O 1) (O 7) (O 8) P f x kept))) Y g))) {n : Int32} (hv : vp_in n 120) (hk : P 2 (nC n) = nI 3) (q : Nat) (row : Nat → Int32) (hq : q + (coW P (pkW (O 1) (O 7) (O 8) P) (tlW (O 1) (O 7) (O 8) P f) (nC n)).length < 2 ^ 30) : zK (2 * f + 3) zX4_tellBare [.ref 29, .ref 1, .int n, .int (nI f)] (wX (upd O 6 (nI (q))) (updA P 30 (row)) Y g) (fun r w' => r = none ∧ w' = (wX (upd O 6 (nI (q + (coW P (pkW (O 1) (O 7) (O 8) P) (tlW (O 1) (O 7) (O 8) P f) (nC n)).length))) (updA P 30 (ap8 row q (coW P (pkW (O 1) (O 7) (O 8) P) (tlW (O 1) (O 7) (O 8) P f) (nC n)))) Y g)) := by
  have hc : (coW P (pkW (O 1) (O 7) (O 8) P) (tlW (O 1) (O 7) (O 8) P f) (nC n)) = (tlW (O 1) (O 7) (O 8) P f (P 4 (nC n)) (pkW (O 1) (O 7) (O 8) P (nI 3) (P 4 (nC n)) (Int32.ofInt 1))) ++ ((c8 18 + nI 3) :: (tlW (O 1) (O 7) (O 8) P f (P 5 (nC n)) (pkW (O 1) (O 7) (O 8) P (nI 3) (P 5 (nC n)) (Int32.ofInt 0)))) := by
    unfold coW
    rw [if_neg (by rw [hk]; decide), if_neg (by rw [hk]; decide), if_neg (by rw [hk]; decide), if_neg (by rw [hk]; decide), if_neg (by rw [hk]; decide), hk]
  have hq' : q + ((tlW (O 1) (O 7) (O 8) P f (P 4 (nC n)) (pkW (O 1) (O 7) (O 8) P (nI 3) (P 4 (nC n)) (Int32.ofInt 1))) ++ ((c8 18 + nI 3) :: (tlW (O 1) (O 7) (O 8) P f (P 5 (nC n)) (pkW (O 1) (O 7) (O 8) P (nI 3) (P 5 (nC n)) (Int32.ofInt 0))))).length < 2 ^ 30 := by rw [← hc]; exact hq
  (try simp only [List.length_cons, List.length_append, List.length_nil] at hq')
  refine zK_of qX4_tellBare (by decide +kernel) rfl ?_
  iterate 3 (refine zv_step (bX4_tellBare (2 * f + 3)) rfl rfl trivial ?_)
  refine zv_iale (bX4_tellBare (2 * f + 3)) rfl rfl hv (show P 2 n.toNatClampNeg = nI 3 from hk) ?_
  iterate 4 (refine zv_step (bX4_tellBare (2 * f + 3)) rfl rfl trivial ?_)
  refine zv_iale (bX4_tellBare (2 * f + 3)) rfl rfl hv (v := P 4 (nC n)) rfl ?_
  iterate 4 (refine zv_step (bX4_tellBare (2 * f + 3)) rfl rfl trivial ?_)
  refine zv_iale (bX4_tellBare (2 * f + 3)) rfl rfl hv (v := P 5 (nC n)) rfl ?_
  iterate 6 (refine zv_step (bX4_tellBare (2 * f + 3)) rfl rfl trivial ?_)
  refine zv_V4 (bX4_tellBare (2 * f + 3)) rfl rfl rfl rfl rfl rfl rfl ⟨rfl, rfl, rfl⟩ ⟨by show 2 + 1 ≤ 2 * f + 3; omega, by show 8 + (6 + 11) + 64 * 2 ≤ 64 * (2 * f + 3); omega⟩ ⟨Nat.zero_le _, Nat.zero_le _⟩ (sPart29 O P Y g hu _ _ _ _ _) ?_
  rintro _ _ ⟨rfl, rfl⟩
  iterate 2 (refine zv_step (bX4_tellBare (2 * f + 3)) rfl rfl trivial ?_)
  refine zv_step (bX4_tellBare (2 * f + 3)) rfl rfl (by decide) ?_
  iterate 7 (refine zv_step (bX4_tellBare (2 * f + 3)) rfl rfl trivial ?_)
  refine zv_V4 (bX4_tellBare (2 * f + 3)) rfl rfl rfl rfl rfl rfl rfl ⟨rfl, rfl, rfl⟩ ⟨by show 2 * f + 2 + 1 ≤ 2 * f + 3; omega, by show 8 + (5 + 11) + 64 * (2 * f + 2) ≤ 64 * (2 * f + 3); omega⟩ ⟨Nat.zero_le _, Nat.zero_le _⟩ (ih _ _ _ _ _ (pkW_01 _ _ _ _ _ _ _) rfl (by omega)) ?_
  rintro _ _ ⟨rfl, rfl⟩
  iterate 4 (refine zv_step (bX4_tellBare (2 * f + 3)) rfl rfl trivial ?_)
  refine zv_V1 (bX4_tellBare (2 * f + 3)) rfl rfl rfl rfl rfl rfl rfl ⟨rfl, rfl, rfl⟩ ⟨by show 0 + 1 ≤ 2 * f + 3; omega, by show 8 + (2 + 11) + 64 * 0 ≤ 64 * (2 * f + 3); omega⟩ ⟨Nat.zero_le _, Nat.zero_le _⟩ (sAdd29 O P Y g (by omega) _ _) ?_
  rintro _ _ ⟨rfl, rfl⟩
  iterate 8 (refine zv_step (bX4_tellBare (2 * f + 3)) rfl rfl trivial ?_)
  refine zv_V4 (bX4_tellBare (2 * f + 3)) rfl rfl rfl rfl rfl rfl rfl ⟨rfl, rfl, rfl⟩ ⟨by show 2 + 1 ≤ 2 * f + 3; omega, by show 8 + (6 + 11) + 64 * 2 ≤ 64 * (2 * f + 3); omega⟩ ⟨Nat.zero_le _, Nat.zero_le _⟩ (sPart29 O P Y g hu _ _ _ _ _) ?_
  rintro _ _ ⟨rfl, rfl⟩
  iterate 3 (refine zv_step (bX4_tellBare (2 * f + 3)) rfl rfl trivial ?_)
  refine zv_V4 (bX4_tellBare (2 * f + 3)) rfl rfl rfl rfl rfl rfl rfl ⟨rfl, rfl, rfl⟩ ⟨by show 2 * f + 2 + 1 ≤ 2 * f + 3; omega, by show 8 + (5 + 11) + 64 * (2 * f + 2) ≤ 64 * (2 * f + 3); omega⟩ ⟨Nat.zero_le _, Nat.zero_le _⟩ (ih _ _ _ _ _ (pkW_01 _ _ _ _ _ _ _) rfl (by omega)) ?_
  rintro _ _ ⟨rfl, rfl⟩
  exact zv_ret (bX4_tellBare (2 * f + 3)) rfl rfl (Nat.zero_le _) (Nat.zero_le _) ⟨rfl, by rw [hc, List.length_append, List.length_cons, show q + ((tlW (O 1) (O 7) (O 8) P f (P 4 (nC n)) (pkW (O 1) (O 7) (O 8) P (nI 3) (P 4 (nC n)) (Int32.ofInt 1))).length + ((tlW (O 1) (O 7) (O 8) P f (P 5 (nC n)) (pkW (O 1) (O 7) (O 8) P (nI 3) (P 5 (nC n)) (Int32.ofInt 0))).length + 1)) = q + (tlW (O 1) (O 7) (O 8) P f (P 4 (nC n)) (pkW (O 1) (O 7) (O 8) P (nI 3) (P 4 (nC n)) (Int32.ofInt 1))).length + 1 + (tlW (O 1) (O 7) (O 8) P f (P 5 (nC n)) (pkW (O 1) (O 7) (O 8) P (nI 3) (P 5 (nC n)) (Int32.ofInt 0))).length by omega, ap8_app]; rfl⟩
set_option maxHeartbeats 1000000 in
set_option maxRecDepth 20000 in
theorem sBare29_4 (O : Nat → Int32) (P : Nat → Nat → Int32) (Y : Nat → Nat → Int64) (g : Nat → zC) (hu : (O 1).toInt ≤ 120) {f : Nat} (ih : ∀ (x kept z : Int32) (q : Nat) (row : Nat → Int32), (kept = 0 ∨ kept = 1) → z = nI f - Int32.ofInt 1 → q + (tlW (O 1) (O 7) (O 8) P f x kept).length < 2 ^ 30 → zK (2 * f + 2) zX4_tell [.ref 29, .ref 1, .int x, .int kept, .int z] (wX (upd O 6 (nI (q))) (updA P 30 (row)) Y g) (fun r w' => r = none ∧ w' = (wX (upd O 6 (nI (q + (tlW (O 1) (O 7) (O 8) P f x kept).length))) (updA P 30 (ap8 row q (tlW (O 1) (O 7) (O 8) P f x kept))) Y g))) {n : Int32} (hv : vp_in n 120) (hk : P 2 (nC n) = nI 4) (q : Nat) (row : Nat → Int32) (hq : q + (coW P (pkW (O 1) (O 7) (O 8) P) (tlW (O 1) (O 7) (O 8) P f) (nC n)).length < 2 ^ 30) : zK (2 * f + 3) zX4_tellBare [.ref 29, .ref 1, .int n, .int (nI f)] (wX (upd O 6 (nI (q))) (updA P 30 (row)) Y g) (fun r w' => r = none ∧ w' = (wX (upd O 6 (nI (q + (coW P (pkW (O 1) (O 7) (O 8) P) (tlW (O 1) (O 7) (O 8) P f) (nC n)).length))) (updA P 30 (ap8 row q (coW P (pkW (O 1) (O 7) (O 8) P) (tlW (O 1) (O 7) (O 8) P f) (nC n)))) Y g)) := by
  have hc : (coW P (pkW (O 1) (O 7) (O 8) P) (tlW (O 1) (O 7) (O 8) P f) (nC n)) = (tlW (O 1) (O 7) (O 8) P f (P 4 (nC n)) (pkW (O 1) (O 7) (O 8) P (nI 4) (P 4 (nC n)) (Int32.ofInt 1))) ++ ((c8 18 + nI 4) :: (tlW (O 1) (O 7) (O 8) P f (P 5 (nC n)) (pkW (O 1) (O 7) (O 8) P (nI 4) (P 5 (nC n)) (Int32.ofInt 0)))) := by
    unfold coW
    rw [if_neg (by rw [hk]; decide), if_neg (by rw [hk]; decide), if_neg (by rw [hk]; decide), if_neg (by rw [hk]; decide), if_neg (by rw [hk]; decide), hk]
  have hq' : q + ((tlW (O 1) (O 7) (O 8) P f (P 4 (nC n)) (pkW (O 1) (O 7) (O 8) P (nI 4) (P 4 (nC n)) (Int32.ofInt 1))) ++ ((c8 18 + nI 4) :: (tlW (O 1) (O 7) (O 8) P f (P 5 (nC n)) (pkW (O 1) (O 7) (O 8) P (nI 4) (P 5 (nC n)) (Int32.ofInt 0))))).length < 2 ^ 30 := by rw [← hc]; exact hq
  (try simp only [List.length_cons, List.length_append, List.length_nil] at hq')
  refine zK_of qX4_tellBare (by decide +kernel) rfl ?_
  iterate 3 (refine zv_step (bX4_tellBare (2 * f + 3)) rfl rfl trivial ?_)
  refine zv_iale (bX4_tellBare (2 * f + 3)) rfl rfl hv (show P 2 n.toNatClampNeg = nI 4 from hk) ?_
  iterate 4 (refine zv_step (bX4_tellBare (2 * f + 3)) rfl rfl trivial ?_)
  refine zv_iale (bX4_tellBare (2 * f + 3)) rfl rfl hv (v := P 4 (nC n)) rfl ?_
  iterate 4 (refine zv_step (bX4_tellBare (2 * f + 3)) rfl rfl trivial ?_)
  refine zv_iale (bX4_tellBare (2 * f + 3)) rfl rfl hv (v := P 5 (nC n)) rfl ?_
  iterate 6 (refine zv_step (bX4_tellBare (2 * f + 3)) rfl rfl trivial ?_)
  refine zv_V4 (bX4_tellBare (2 * f + 3)) rfl rfl rfl rfl rfl rfl rfl ⟨rfl, rfl, rfl⟩ ⟨by show 2 + 1 ≤ 2 * f + 3; omega, by show 8 + (6 + 11) + 64 * 2 ≤ 64 * (2 * f + 3); omega⟩ ⟨Nat.zero_le _, Nat.zero_le _⟩ (sPart29 O P Y g hu _ _ _ _ _) ?_
  rintro _ _ ⟨rfl, rfl⟩
  iterate 2 (refine zv_step (bX4_tellBare (2 * f + 3)) rfl rfl trivial ?_)
  refine zv_step (bX4_tellBare (2 * f + 3)) rfl rfl (by decide) ?_
  iterate 7 (refine zv_step (bX4_tellBare (2 * f + 3)) rfl rfl trivial ?_)
  refine zv_V4 (bX4_tellBare (2 * f + 3)) rfl rfl rfl rfl rfl rfl rfl ⟨rfl, rfl, rfl⟩ ⟨by show 2 * f + 2 + 1 ≤ 2 * f + 3; omega, by show 8 + (5 + 11) + 64 * (2 * f + 2) ≤ 64 * (2 * f + 3); omega⟩ ⟨Nat.zero_le _, Nat.zero_le _⟩ (ih _ _ _ _ _ (pkW_01 _ _ _ _ _ _ _) rfl (by omega)) ?_
  rintro _ _ ⟨rfl, rfl⟩
  iterate 4 (refine zv_step (bX4_tellBare (2 * f + 3)) rfl rfl trivial ?_)
  refine zv_V1 (bX4_tellBare (2 * f + 3)) rfl rfl rfl rfl rfl rfl rfl ⟨rfl, rfl, rfl⟩ ⟨by show 0 + 1 ≤ 2 * f + 3; omega, by show 8 + (2 + 11) + 64 * 0 ≤ 64 * (2 * f + 3); omega⟩ ⟨Nat.zero_le _, Nat.zero_le _⟩ (sAdd29 O P Y g (by omega) _ _) ?_
  rintro _ _ ⟨rfl, rfl⟩
  iterate 8 (refine zv_step (bX4_tellBare (2 * f + 3)) rfl rfl trivial ?_)
  refine zv_V4 (bX4_tellBare (2 * f + 3)) rfl rfl rfl rfl rfl rfl rfl ⟨rfl, rfl, rfl⟩ ⟨by show 2 + 1 ≤ 2 * f + 3; omega, by show 8 + (6 + 11) + 64 * 2 ≤ 64 * (2 * f + 3); omega⟩ ⟨Nat.zero_le _, Nat.zero_le _⟩ (sPart29 O P Y g hu _ _ _ _ _) ?_
  rintro _ _ ⟨rfl, rfl⟩
  iterate 3 (refine zv_step (bX4_tellBare (2 * f + 3)) rfl rfl trivial ?_)
  refine zv_V4 (bX4_tellBare (2 * f + 3)) rfl rfl rfl rfl rfl rfl rfl ⟨rfl, rfl, rfl⟩ ⟨by show 2 * f + 2 + 1 ≤ 2 * f + 3; omega, by show 8 + (5 + 11) + 64 * (2 * f + 2) ≤ 64 * (2 * f + 3); omega⟩ ⟨Nat.zero_le _, Nat.zero_le _⟩ (ih _ _ _ _ _ (pkW_01 _ _ _ _ _ _ _) rfl (by omega)) ?_
  rintro _ _ ⟨rfl, rfl⟩
  exact zv_ret (bX4_tellBare (2 * f + 3)) rfl rfl (Nat.zero_le _) (Nat.zero_le _) ⟨rfl, by rw [hc, List.length_append, List.length_cons, show q + ((tlW (O 1) (O 7) (O 8) P f (P 4 (nC n)) (pkW (O 1) (O 7) (O 8) P (nI 4) (P 4 (nC n)) (Int32.ofInt 1))).length + ((tlW (O 1) (O 7) (O 8) P f (P 5 (nC n)) (pkW (O 1) (O 7) (O 8) P (nI 4) (P 5 (nC n)) (Int32.ofInt 0))).length + 1)) = q + (tlW (O 1) (O 7) (O 8) P f (P 4 (nC n)) (pkW (O 1) (O 7) (O 8) P (nI 4) (P 4 (nC n)) (Int32.ofInt 1))).length + 1 + (tlW (O 1) (O 7) (O 8) P f (P 5 (nC n)) (pkW (O 1) (O 7) (O 8) P (nI 4) (P 5 (nC n)) (Int32.ofInt 0))).length by omega, ap8_app]; rfl⟩
set_option maxHeartbeats 1000000 in
set_option maxRecDepth 20000 in
theorem sBare29_5 (O : Nat → Int32) (P : Nat → Nat → Int32) (Y : Nat → Nat → Int64) (g : Nat → zC) (hu : (O 1).toInt ≤ 120) {f : Nat} (ih : ∀ (x kept z : Int32) (q : Nat) (row : Nat → Int32), (kept = 0 ∨ kept = 1) → z = nI f - Int32.ofInt 1 → q + (tlW (O 1) (O 7) (O 8) P f x kept).length < 2 ^ 30 → zK (2 * f + 2) zX4_tell [.ref 29, .ref 1, .int x, .int kept, .int z] (wX (upd O 6 (nI (q))) (updA P 30 (row)) Y g) (fun r w' => r = none ∧ w' = (wX (upd O 6 (nI (q + (tlW (O 1) (O 7) (O 8) P f x kept).length))) (updA P 30 (ap8 row q (tlW (O 1) (O 7) (O 8) P f x kept))) Y g))) {n : Int32} (hv : vp_in n 120) (hk : P 2 (nC n) = nI 5) (q : Nat) (row : Nat → Int32) (hq : q + (coW P (pkW (O 1) (O 7) (O 8) P) (tlW (O 1) (O 7) (O 8) P f) (nC n)).length < 2 ^ 30) : zK (2 * f + 3) zX4_tellBare [.ref 29, .ref 1, .int n, .int (nI f)] (wX (upd O 6 (nI (q))) (updA P 30 (row)) Y g) (fun r w' => r = none ∧ w' = (wX (upd O 6 (nI (q + (coW P (pkW (O 1) (O 7) (O 8) P) (tlW (O 1) (O 7) (O 8) P f) (nC n)).length))) (updA P 30 (ap8 row q (coW P (pkW (O 1) (O 7) (O 8) P) (tlW (O 1) (O 7) (O 8) P f) (nC n)))) Y g)) := by
  have hc : (coW P (pkW (O 1) (O 7) (O 8) P) (tlW (O 1) (O 7) (O 8) P f) (nC n)) = (tlW (O 1) (O 7) (O 8) P f (P 4 (nC n)) (pkW (O 1) (O 7) (O 8) P (nI 5) (P 4 (nC n)) (Int32.ofInt 1))) ++ ((c8 18 + nI 5) :: (tlW (O 1) (O 7) (O 8) P f (P 5 (nC n)) (pkW (O 1) (O 7) (O 8) P (nI 5) (P 5 (nC n)) (Int32.ofInt 0)))) := by
    unfold coW
    rw [if_neg (by rw [hk]; decide), if_neg (by rw [hk]; decide), if_neg (by rw [hk]; decide), if_neg (by rw [hk]; decide), if_neg (by rw [hk]; decide), hk]
  have hq' : q + ((tlW (O 1) (O 7) (O 8) P f (P 4 (nC n)) (pkW (O 1) (O 7) (O 8) P (nI 5) (P 4 (nC n)) (Int32.ofInt 1))) ++ ((c8 18 + nI 5) :: (tlW (O 1) (O 7) (O 8) P f (P 5 (nC n)) (pkW (O 1) (O 7) (O 8) P (nI 5) (P 5 (nC n)) (Int32.ofInt 0))))).length < 2 ^ 30 := by rw [← hc]; exact hq
  (try simp only [List.length_cons, List.length_append, List.length_nil] at hq')
  refine zK_of qX4_tellBare (by decide +kernel) rfl ?_
  iterate 3 (refine zv_step (bX4_tellBare (2 * f + 3)) rfl rfl trivial ?_)
  refine zv_iale (bX4_tellBare (2 * f + 3)) rfl rfl hv (show P 2 n.toNatClampNeg = nI 5 from hk) ?_
  iterate 4 (refine zv_step (bX4_tellBare (2 * f + 3)) rfl rfl trivial ?_)
  refine zv_iale (bX4_tellBare (2 * f + 3)) rfl rfl hv (v := P 4 (nC n)) rfl ?_
  iterate 4 (refine zv_step (bX4_tellBare (2 * f + 3)) rfl rfl trivial ?_)
  refine zv_iale (bX4_tellBare (2 * f + 3)) rfl rfl hv (v := P 5 (nC n)) rfl ?_
  iterate 6 (refine zv_step (bX4_tellBare (2 * f + 3)) rfl rfl trivial ?_)
  refine zv_V4 (bX4_tellBare (2 * f + 3)) rfl rfl rfl rfl rfl rfl rfl ⟨rfl, rfl, rfl⟩ ⟨by show 2 + 1 ≤ 2 * f + 3; omega, by show 8 + (6 + 11) + 64 * 2 ≤ 64 * (2 * f + 3); omega⟩ ⟨Nat.zero_le _, Nat.zero_le _⟩ (sPart29 O P Y g hu _ _ _ _ _) ?_
  rintro _ _ ⟨rfl, rfl⟩
  iterate 2 (refine zv_step (bX4_tellBare (2 * f + 3)) rfl rfl trivial ?_)
  refine zv_step (bX4_tellBare (2 * f + 3)) rfl rfl (by decide) ?_
  iterate 7 (refine zv_step (bX4_tellBare (2 * f + 3)) rfl rfl trivial ?_)
  refine zv_V4 (bX4_tellBare (2 * f + 3)) rfl rfl rfl rfl rfl rfl rfl ⟨rfl, rfl, rfl⟩ ⟨by show 2 * f + 2 + 1 ≤ 2 * f + 3; omega, by show 8 + (5 + 11) + 64 * (2 * f + 2) ≤ 64 * (2 * f + 3); omega⟩ ⟨Nat.zero_le _, Nat.zero_le _⟩ (ih _ _ _ _ _ (pkW_01 _ _ _ _ _ _ _) rfl (by omega)) ?_
  rintro _ _ ⟨rfl, rfl⟩
  iterate 4 (refine zv_step (bX4_tellBare (2 * f + 3)) rfl rfl trivial ?_)
  refine zv_V1 (bX4_tellBare (2 * f + 3)) rfl rfl rfl rfl rfl rfl rfl ⟨rfl, rfl, rfl⟩ ⟨by show 0 + 1 ≤ 2 * f + 3; omega, by show 8 + (2 + 11) + 64 * 0 ≤ 64 * (2 * f + 3); omega⟩ ⟨Nat.zero_le _, Nat.zero_le _⟩ (sAdd29 O P Y g (by omega) _ _) ?_
  rintro _ _ ⟨rfl, rfl⟩
  iterate 8 (refine zv_step (bX4_tellBare (2 * f + 3)) rfl rfl trivial ?_)
  refine zv_V4 (bX4_tellBare (2 * f + 3)) rfl rfl rfl rfl rfl rfl rfl ⟨rfl, rfl, rfl⟩ ⟨by show 2 + 1 ≤ 2 * f + 3; omega, by show 8 + (6 + 11) + 64 * 2 ≤ 64 * (2 * f + 3); omega⟩ ⟨Nat.zero_le _, Nat.zero_le _⟩ (sPart29 O P Y g hu _ _ _ _ _) ?_
  rintro _ _ ⟨rfl, rfl⟩
  iterate 3 (refine zv_step (bX4_tellBare (2 * f + 3)) rfl rfl trivial ?_)
  refine zv_V4 (bX4_tellBare (2 * f + 3)) rfl rfl rfl rfl rfl rfl rfl ⟨rfl, rfl, rfl⟩ ⟨by show 2 * f + 2 + 1 ≤ 2 * f + 3; omega, by show 8 + (5 + 11) + 64 * (2 * f + 2) ≤ 64 * (2 * f + 3); omega⟩ ⟨Nat.zero_le _, Nat.zero_le _⟩ (ih _ _ _ _ _ (pkW_01 _ _ _ _ _ _ _) rfl (by omega)) ?_
  rintro _ _ ⟨rfl, rfl⟩
  exact zv_ret (bX4_tellBare (2 * f + 3)) rfl rfl (Nat.zero_le _) (Nat.zero_le _) ⟨rfl, by rw [hc, List.length_append, List.length_cons, show q + ((tlW (O 1) (O 7) (O 8) P f (P 4 (nC n)) (pkW (O 1) (O 7) (O 8) P (nI 5) (P 4 (nC n)) (Int32.ofInt 1))).length + ((tlW (O 1) (O 7) (O 8) P f (P 5 (nC n)) (pkW (O 1) (O 7) (O 8) P (nI 5) (P 5 (nC n)) (Int32.ofInt 0))).length + 1)) = q + (tlW (O 1) (O 7) (O 8) P f (P 4 (nC n)) (pkW (O 1) (O 7) (O 8) P (nI 5) (P 4 (nC n)) (Int32.ofInt 1))).length + 1 + (tlW (O 1) (O 7) (O 8) P f (P 5 (nC n)) (pkW (O 1) (O 7) (O 8) P (nI 5) (P 5 (nC n)) (Int32.ofInt 0))).length by omega, ap8_app]; rfl⟩
set_option maxHeartbeats 1000000 in
set_option maxRecDepth 20000 in
theorem sBare29_6 (O : Nat → Int32) (P : Nat → Nat → Int32) (Y : Nat → Nat → Int64) (g : Nat → zC) (hu : (O 1).toInt ≤ 120) {f : Nat} (ih : ∀ (x kept z : Int32) (q : Nat) (row : Nat → Int32), (kept = 0 ∨ kept = 1) → z = nI f - Int32.ofInt 1 → q + (tlW (O 1) (O 7) (O 8) P f x kept).length < 2 ^ 30 → zK (2 * f + 2) zX4_tell [.ref 29, .ref 1, .int x, .int kept, .int z] (wX (upd O 6 (nI (q))) (updA P 30 (row)) Y g) (fun r w' => r = none ∧ w' = (wX (upd O 6 (nI (q + (tlW (O 1) (O 7) (O 8) P f x kept).length))) (updA P 30 (ap8 row q (tlW (O 1) (O 7) (O 8) P f x kept))) Y g))) {n : Int32} (hv : vp_in n 120) (hk : P 2 (nC n) = nI 6) (q : Nat) (row : Nat → Int32) (hq : q + (coW P (pkW (O 1) (O 7) (O 8) P) (tlW (O 1) (O 7) (O 8) P f) (nC n)).length < 2 ^ 30) : zK (2 * f + 3) zX4_tellBare [.ref 29, .ref 1, .int n, .int (nI f)] (wX (upd O 6 (nI (q))) (updA P 30 (row)) Y g) (fun r w' => r = none ∧ w' = (wX (upd O 6 (nI (q + (coW P (pkW (O 1) (O 7) (O 8) P) (tlW (O 1) (O 7) (O 8) P f) (nC n)).length))) (updA P 30 (ap8 row q (coW P (pkW (O 1) (O 7) (O 8) P) (tlW (O 1) (O 7) (O 8) P f) (nC n)))) Y g)) := by
  have hc : (coW P (pkW (O 1) (O 7) (O 8) P) (tlW (O 1) (O 7) (O 8) P f) (nC n)) = (tlW (O 1) (O 7) (O 8) P f (P 4 (nC n)) (pkW (O 1) (O 7) (O 8) P (nI 6) (P 4 (nC n)) (Int32.ofInt 1))) ++ ((c8 18 + nI 6) :: (tlW (O 1) (O 7) (O 8) P f (P 5 (nC n)) (pkW (O 1) (O 7) (O 8) P (nI 6) (P 5 (nC n)) (Int32.ofInt 0)))) := by
    unfold coW
    rw [if_neg (by rw [hk]; decide), if_neg (by rw [hk]; decide), if_neg (by rw [hk]; decide), if_neg (by rw [hk]; decide), if_neg (by rw [hk]; decide), hk]
  have hq' : q + ((tlW (O 1) (O 7) (O 8) P f (P 4 (nC n)) (pkW (O 1) (O 7) (O 8) P (nI 6) (P 4 (nC n)) (Int32.ofInt 1))) ++ ((c8 18 + nI 6) :: (tlW (O 1) (O 7) (O 8) P f (P 5 (nC n)) (pkW (O 1) (O 7) (O 8) P (nI 6) (P 5 (nC n)) (Int32.ofInt 0))))).length < 2 ^ 30 := by rw [← hc]; exact hq
  (try simp only [List.length_cons, List.length_append, List.length_nil] at hq')
  refine zK_of qX4_tellBare (by decide +kernel) rfl ?_
  iterate 3 (refine zv_step (bX4_tellBare (2 * f + 3)) rfl rfl trivial ?_)
  refine zv_iale (bX4_tellBare (2 * f + 3)) rfl rfl hv (show P 2 n.toNatClampNeg = nI 6 from hk) ?_
  iterate 4 (refine zv_step (bX4_tellBare (2 * f + 3)) rfl rfl trivial ?_)
  refine zv_iale (bX4_tellBare (2 * f + 3)) rfl rfl hv (v := P 4 (nC n)) rfl ?_
  iterate 4 (refine zv_step (bX4_tellBare (2 * f + 3)) rfl rfl trivial ?_)
  refine zv_iale (bX4_tellBare (2 * f + 3)) rfl rfl hv (v := P 5 (nC n)) rfl ?_
  iterate 6 (refine zv_step (bX4_tellBare (2 * f + 3)) rfl rfl trivial ?_)
  refine zv_V4 (bX4_tellBare (2 * f + 3)) rfl rfl rfl rfl rfl rfl rfl ⟨rfl, rfl, rfl⟩ ⟨by show 2 + 1 ≤ 2 * f + 3; omega, by show 8 + (6 + 11) + 64 * 2 ≤ 64 * (2 * f + 3); omega⟩ ⟨Nat.zero_le _, Nat.zero_le _⟩ (sPart29 O P Y g hu _ _ _ _ _) ?_
  rintro _ _ ⟨rfl, rfl⟩
  iterate 2 (refine zv_step (bX4_tellBare (2 * f + 3)) rfl rfl trivial ?_)
  refine zv_step (bX4_tellBare (2 * f + 3)) rfl rfl (by decide) ?_
  iterate 7 (refine zv_step (bX4_tellBare (2 * f + 3)) rfl rfl trivial ?_)
  refine zv_V4 (bX4_tellBare (2 * f + 3)) rfl rfl rfl rfl rfl rfl rfl ⟨rfl, rfl, rfl⟩ ⟨by show 2 * f + 2 + 1 ≤ 2 * f + 3; omega, by show 8 + (5 + 11) + 64 * (2 * f + 2) ≤ 64 * (2 * f + 3); omega⟩ ⟨Nat.zero_le _, Nat.zero_le _⟩ (ih _ _ _ _ _ (pkW_01 _ _ _ _ _ _ _) rfl (by omega)) ?_
  rintro _ _ ⟨rfl, rfl⟩
  iterate 4 (refine zv_step (bX4_tellBare (2 * f + 3)) rfl rfl trivial ?_)
  refine zv_V1 (bX4_tellBare (2 * f + 3)) rfl rfl rfl rfl rfl rfl rfl ⟨rfl, rfl, rfl⟩ ⟨by show 0 + 1 ≤ 2 * f + 3; omega, by show 8 + (2 + 11) + 64 * 0 ≤ 64 * (2 * f + 3); omega⟩ ⟨Nat.zero_le _, Nat.zero_le _⟩ (sAdd29 O P Y g (by omega) _ _) ?_
  rintro _ _ ⟨rfl, rfl⟩
  iterate 8 (refine zv_step (bX4_tellBare (2 * f + 3)) rfl rfl trivial ?_)
  refine zv_V4 (bX4_tellBare (2 * f + 3)) rfl rfl rfl rfl rfl rfl rfl ⟨rfl, rfl, rfl⟩ ⟨by show 2 + 1 ≤ 2 * f + 3; omega, by show 8 + (6 + 11) + 64 * 2 ≤ 64 * (2 * f + 3); omega⟩ ⟨Nat.zero_le _, Nat.zero_le _⟩ (sPart29 O P Y g hu _ _ _ _ _) ?_
  rintro _ _ ⟨rfl, rfl⟩
  iterate 3 (refine zv_step (bX4_tellBare (2 * f + 3)) rfl rfl trivial ?_)
  refine zv_V4 (bX4_tellBare (2 * f + 3)) rfl rfl rfl rfl rfl rfl rfl ⟨rfl, rfl, rfl⟩ ⟨by show 2 * f + 2 + 1 ≤ 2 * f + 3; omega, by show 8 + (5 + 11) + 64 * (2 * f + 2) ≤ 64 * (2 * f + 3); omega⟩ ⟨Nat.zero_le _, Nat.zero_le _⟩ (ih _ _ _ _ _ (pkW_01 _ _ _ _ _ _ _) rfl (by omega)) ?_
  rintro _ _ ⟨rfl, rfl⟩
  exact zv_ret (bX4_tellBare (2 * f + 3)) rfl rfl (Nat.zero_le _) (Nat.zero_le _) ⟨rfl, by rw [hc, List.length_append, List.length_cons, show q + ((tlW (O 1) (O 7) (O 8) P f (P 4 (nC n)) (pkW (O 1) (O 7) (O 8) P (nI 6) (P 4 (nC n)) (Int32.ofInt 1))).length + ((tlW (O 1) (O 7) (O 8) P f (P 5 (nC n)) (pkW (O 1) (O 7) (O 8) P (nI 6) (P 5 (nC n)) (Int32.ofInt 0))).length + 1)) = q + (tlW (O 1) (O 7) (O 8) P f (P 4 (nC n)) (pkW (O 1) (O 7) (O 8) P (nI 6) (P 4 (nC n)) (Int32.ofInt 1))).length + 1 + (tlW (O 1) (O 7) (O 8) P f (P 5 (nC n)) (pkW (O 1) (O 7) (O 8) P (nI 6) (P 5 (nC n)) (Int32.ofInt 0))).length by omega, ap8_app]; rfl⟩
set_option maxHeartbeats 1000000 in
set_option maxRecDepth 20000 in
theorem sBare29_7 (O : Nat → Int32) (P : Nat → Nat → Int32) (Y : Nat → Nat → Int64) (g : Nat → zC) (hu : (O 1).toInt ≤ 120) {f : Nat} (ih : ∀ (x kept z : Int32) (q : Nat) (row : Nat → Int32), (kept = 0 ∨ kept = 1) → z = nI f - Int32.ofInt 1 → q + (tlW (O 1) (O 7) (O 8) P f x kept).length < 2 ^ 30 → zK (2 * f + 2) zX4_tell [.ref 29, .ref 1, .int x, .int kept, .int z] (wX (upd O 6 (nI (q))) (updA P 30 (row)) Y g) (fun r w' => r = none ∧ w' = (wX (upd O 6 (nI (q + (tlW (O 1) (O 7) (O 8) P f x kept).length))) (updA P 30 (ap8 row q (tlW (O 1) (O 7) (O 8) P f x kept))) Y g))) {n : Int32} (hv : vp_in n 120) (hk : P 2 (nC n) = nI 7) (q : Nat) (row : Nat → Int32) (hq : q + (coW P (pkW (O 1) (O 7) (O 8) P) (tlW (O 1) (O 7) (O 8) P f) (nC n)).length < 2 ^ 30) : zK (2 * f + 3) zX4_tellBare [.ref 29, .ref 1, .int n, .int (nI f)] (wX (upd O 6 (nI (q))) (updA P 30 (row)) Y g) (fun r w' => r = none ∧ w' = (wX (upd O 6 (nI (q + (coW P (pkW (O 1) (O 7) (O 8) P) (tlW (O 1) (O 7) (O 8) P f) (nC n)).length))) (updA P 30 (ap8 row q (coW P (pkW (O 1) (O 7) (O 8) P) (tlW (O 1) (O 7) (O 8) P f) (nC n)))) Y g)) := by
  have hc : (coW P (pkW (O 1) (O 7) (O 8) P) (tlW (O 1) (O 7) (O 8) P f) (nC n)) = c8 25 :: (tlW (O 1) (O 7) (O 8) P f (P 4 (nC n)) (pkW (O 1) (O 7) (O 8) P (nI 7) (P 4 (nC n)) (Int32.ofInt 1))) := by
    unfold coW
    rw [if_neg (by rw [hk]; decide), if_neg (by rw [hk]; decide), if_pos hk]
  have hq' : q + (c8 25 :: (tlW (O 1) (O 7) (O 8) P f (P 4 (nC n)) (pkW (O 1) (O 7) (O 8) P (nI 7) (P 4 (nC n)) (Int32.ofInt 1)))).length < 2 ^ 30 := by rw [← hc]; exact hq
  (try simp only [List.length_cons, List.length_append, List.length_nil] at hq')
  refine zK_of qX4_tellBare (by decide +kernel) rfl ?_
  iterate 3 (refine zv_step (bX4_tellBare (2 * f + 3)) rfl rfl trivial ?_)
  refine zv_iale (bX4_tellBare (2 * f + 3)) rfl rfl hv (show P 2 n.toNatClampNeg = nI 7 from hk) ?_
  iterate 4 (refine zv_step (bX4_tellBare (2 * f + 3)) rfl rfl trivial ?_)
  refine zv_iale (bX4_tellBare (2 * f + 3)) rfl rfl hv (v := P 4 (nC n)) rfl ?_
  iterate 4 (refine zv_step (bX4_tellBare (2 * f + 3)) rfl rfl trivial ?_)
  refine zv_iale (bX4_tellBare (2 * f + 3)) rfl rfl hv (v := P 5 (nC n)) rfl ?_
  iterate 6 (refine zv_step (bX4_tellBare (2 * f + 3)) rfl rfl trivial ?_)
  refine zv_V4 (bX4_tellBare (2 * f + 3)) rfl rfl rfl rfl rfl rfl rfl ⟨rfl, rfl, rfl⟩ ⟨by show 2 + 1 ≤ 2 * f + 3; omega, by show 8 + (6 + 11) + 64 * 2 ≤ 64 * (2 * f + 3); omega⟩ ⟨Nat.zero_le _, Nat.zero_le _⟩ (sPart29 O P Y g hu _ _ _ _ _) ?_
  rintro _ _ ⟨rfl, rfl⟩
  iterate 2 (refine zv_step (bX4_tellBare (2 * f + 3)) rfl rfl trivial ?_)
  refine zv_step (bX4_tellBare (2 * f + 3)) rfl rfl (by decide) ?_
  iterate 2 (refine zv_step (bX4_tellBare (2 * f + 3)) rfl rfl trivial ?_)
  refine zv_V1 (bX4_tellBare (2 * f + 3)) rfl rfl rfl rfl rfl rfl rfl ⟨rfl, rfl, rfl⟩ ⟨by show 0 + 1 ≤ 2 * f + 3; omega, by show 8 + (2 + 11) + 64 * 0 ≤ 64 * (2 * f + 3); omega⟩ ⟨Nat.zero_le _, Nat.zero_le _⟩ (sAdd29 O P Y g (by omega) _ _) ?_
  rintro _ _ ⟨rfl, rfl⟩
  iterate 7 (refine zv_step (bX4_tellBare (2 * f + 3)) rfl rfl trivial ?_)
  refine zv_V4 (bX4_tellBare (2 * f + 3)) rfl rfl rfl rfl rfl rfl rfl ⟨rfl, rfl, rfl⟩ ⟨by show 2 * f + 2 + 1 ≤ 2 * f + 3; omega, by show 8 + (5 + 11) + 64 * (2 * f + 2) ≤ 64 * (2 * f + 3); omega⟩ ⟨Nat.zero_le _, Nat.zero_le _⟩ (ih _ _ _ _ _ (pkW_01 _ _ _ _ _ _ _) rfl (by omega)) ?_
  rintro _ _ ⟨rfl, rfl⟩
  iterate 1 (refine zv_step (bX4_tellBare (2 * f + 3)) rfl rfl trivial ?_)
  exact zv_ret (bX4_tellBare (2 * f + 3)) rfl rfl (Nat.zero_le _) (Nat.zero_le _) ⟨rfl, by rw [hc, List.length_cons, show q + ((tlW (O 1) (O 7) (O 8) P f (P 4 (nC n)) (pkW (O 1) (O 7) (O 8) P (nI 7) (P 4 (nC n)) (Int32.ofInt 1))).length + 1) = q + 1 + (tlW (O 1) (O 7) (O 8) P f (P 4 (nC n)) (pkW (O 1) (O 7) (O 8) P (nI 7) (P 4 (nC n)) (Int32.ofInt 1))).length by omega]; rfl⟩
set_option maxHeartbeats 1000000 in
set_option maxRecDepth 20000 in
theorem sBare29_8 (O : Nat → Int32) (P : Nat → Nat → Int32) (Y : Nat → Nat → Int64) (g : Nat → zC) (hu : (O 1).toInt ≤ 120) {f : Nat} (ih : ∀ (x kept z : Int32) (q : Nat) (row : Nat → Int32), (kept = 0 ∨ kept = 1) → z = nI f - Int32.ofInt 1 → q + (tlW (O 1) (O 7) (O 8) P f x kept).length < 2 ^ 30 → zK (2 * f + 2) zX4_tell [.ref 29, .ref 1, .int x, .int kept, .int z] (wX (upd O 6 (nI (q))) (updA P 30 (row)) Y g) (fun r w' => r = none ∧ w' = (wX (upd O 6 (nI (q + (tlW (O 1) (O 7) (O 8) P f x kept).length))) (updA P 30 (ap8 row q (tlW (O 1) (O 7) (O 8) P f x kept))) Y g))) {n : Int32} (hv : vp_in n 120) (hk : P 2 (nC n) = nI 8) (q : Nat) (row : Nat → Int32) (hq : q + (coW P (pkW (O 1) (O 7) (O 8) P) (tlW (O 1) (O 7) (O 8) P f) (nC n)).length < 2 ^ 30) : zK (2 * f + 3) zX4_tellBare [.ref 29, .ref 1, .int n, .int (nI f)] (wX (upd O 6 (nI (q))) (updA P 30 (row)) Y g) (fun r w' => r = none ∧ w' = (wX (upd O 6 (nI (q + (coW P (pkW (O 1) (O 7) (O 8) P) (tlW (O 1) (O 7) (O 8) P f) (nC n)).length))) (updA P 30 (ap8 row q (coW P (pkW (O 1) (O 7) (O 8) P) (tlW (O 1) (O 7) (O 8) P f) (nC n)))) Y g)) := by
  have hc : (coW P (pkW (O 1) (O 7) (O 8) P) (tlW (O 1) (O 7) (O 8) P f) (nC n)) = c8 26 :: ((tlW (O 1) (O 7) (O 8) P f (P 4 (nC n)) (pkW (O 1) (O 7) (O 8) P (nI 8) (P 4 (nC n)) (Int32.ofInt 1))) ++ [c8 27]) := by
    unfold coW
    rw [if_neg (by rw [hk]; decide), if_neg (by rw [hk]; decide), if_neg (by rw [hk]; decide), if_pos hk]
  have hq' : q + (c8 26 :: ((tlW (O 1) (O 7) (O 8) P f (P 4 (nC n)) (pkW (O 1) (O 7) (O 8) P (nI 8) (P 4 (nC n)) (Int32.ofInt 1))) ++ [c8 27])).length < 2 ^ 30 := by rw [← hc]; exact hq
  (try simp only [List.length_cons, List.length_append, List.length_nil] at hq')
  refine zK_of qX4_tellBare (by decide +kernel) rfl ?_
  iterate 3 (refine zv_step (bX4_tellBare (2 * f + 3)) rfl rfl trivial ?_)
  refine zv_iale (bX4_tellBare (2 * f + 3)) rfl rfl hv (show P 2 n.toNatClampNeg = nI 8 from hk) ?_
  iterate 4 (refine zv_step (bX4_tellBare (2 * f + 3)) rfl rfl trivial ?_)
  refine zv_iale (bX4_tellBare (2 * f + 3)) rfl rfl hv (v := P 4 (nC n)) rfl ?_
  iterate 4 (refine zv_step (bX4_tellBare (2 * f + 3)) rfl rfl trivial ?_)
  refine zv_iale (bX4_tellBare (2 * f + 3)) rfl rfl hv (v := P 5 (nC n)) rfl ?_
  iterate 6 (refine zv_step (bX4_tellBare (2 * f + 3)) rfl rfl trivial ?_)
  refine zv_V4 (bX4_tellBare (2 * f + 3)) rfl rfl rfl rfl rfl rfl rfl ⟨rfl, rfl, rfl⟩ ⟨by show 2 + 1 ≤ 2 * f + 3; omega, by show 8 + (6 + 11) + 64 * 2 ≤ 64 * (2 * f + 3); omega⟩ ⟨Nat.zero_le _, Nat.zero_le _⟩ (sPart29 O P Y g hu _ _ _ _ _) ?_
  rintro _ _ ⟨rfl, rfl⟩
  iterate 2 (refine zv_step (bX4_tellBare (2 * f + 3)) rfl rfl trivial ?_)
  refine zv_step (bX4_tellBare (2 * f + 3)) rfl rfl (by decide) ?_
  iterate 2 (refine zv_step (bX4_tellBare (2 * f + 3)) rfl rfl trivial ?_)
  refine zv_V1 (bX4_tellBare (2 * f + 3)) rfl rfl rfl rfl rfl rfl rfl ⟨rfl, rfl, rfl⟩ ⟨by show 0 + 1 ≤ 2 * f + 3; omega, by show 8 + (2 + 11) + 64 * 0 ≤ 64 * (2 * f + 3); omega⟩ ⟨Nat.zero_le _, Nat.zero_le _⟩ (sAdd29 O P Y g (by omega) _ _) ?_
  rintro _ _ ⟨rfl, rfl⟩
  iterate 7 (refine zv_step (bX4_tellBare (2 * f + 3)) rfl rfl trivial ?_)
  refine zv_V4 (bX4_tellBare (2 * f + 3)) rfl rfl rfl rfl rfl rfl rfl ⟨rfl, rfl, rfl⟩ ⟨by show 2 * f + 2 + 1 ≤ 2 * f + 3; omega, by show 8 + (5 + 11) + 64 * (2 * f + 2) ≤ 64 * (2 * f + 3); omega⟩ ⟨Nat.zero_le _, Nat.zero_le _⟩ (ih _ _ _ _ _ (pkW_01 _ _ _ _ _ _ _) rfl (by omega)) ?_
  rintro _ _ ⟨rfl, rfl⟩
  iterate 2 (refine zv_step (bX4_tellBare (2 * f + 3)) rfl rfl trivial ?_)
  refine zv_V1 (bX4_tellBare (2 * f + 3)) rfl rfl rfl rfl rfl rfl rfl ⟨rfl, rfl, rfl⟩ ⟨by show 0 + 1 ≤ 2 * f + 3; omega, by show 8 + (2 + 11) + 64 * 0 ≤ 64 * (2 * f + 3); omega⟩ ⟨Nat.zero_le _, Nat.zero_le _⟩ (sAdd29 O P Y g (by omega) _ _) ?_
  rintro _ _ ⟨rfl, rfl⟩
  iterate 1 (refine zv_step (bX4_tellBare (2 * f + 3)) rfl rfl trivial ?_)
  exact zv_ret (bX4_tellBare (2 * f + 3)) rfl rfl (Nat.zero_le _) (Nat.zero_le _) ⟨rfl, by rw [hc, List.length_cons, List.length_append, List.length_singleton, show q + ((tlW (O 1) (O 7) (O 8) P f (P 4 (nC n)) (pkW (O 1) (O 7) (O 8) P (nI 8) (P 4 (nC n)) (Int32.ofInt 1))).length + 1 + 1) = q + 1 + (tlW (O 1) (O 7) (O 8) P f (P 4 (nC n)) (pkW (O 1) (O 7) (O 8) P (nI 8) (P 4 (nC n)) (Int32.ofInt 1))).length + 1 by omega]; show _ = (wX (upd O 6 (nI (_))) (updA P 30 (ap8 (ap1 row q (c8 26)) (q + 1) ((tlW (O 1) (O 7) (O 8) P f (P 4 (nC n)) (pkW (O 1) (O 7) (O 8) P (nI 8) (P 4 (nC n)) (Int32.ofInt 1))) ++ [c8 27]))) Y g); rw [ap8_app]; rfl⟩
set_option maxHeartbeats 1000000 in
set_option maxRecDepth 20000 in
theorem sBare29_9 (O : Nat → Int32) (P : Nat → Nat → Int32) (Y : Nat → Nat → Int64) (g : Nat → zC) (hu : (O 1).toInt ≤ 120) {f : Nat} (ih : ∀ (x kept z : Int32) (q : Nat) (row : Nat → Int32), (kept = 0 ∨ kept = 1) → z = nI f - Int32.ofInt 1 → q + (tlW (O 1) (O 7) (O 8) P f x kept).length < 2 ^ 30 → zK (2 * f + 2) zX4_tell [.ref 29, .ref 1, .int x, .int kept, .int z] (wX (upd O 6 (nI (q))) (updA P 30 (row)) Y g) (fun r w' => r = none ∧ w' = (wX (upd O 6 (nI (q + (tlW (O 1) (O 7) (O 8) P f x kept).length))) (updA P 30 (ap8 row q (tlW (O 1) (O 7) (O 8) P f x kept))) Y g))) {n : Int32} (hv : vp_in n 120) (hk : P 2 (nC n) = nI 9) (q : Nat) (row : Nat → Int32) (hq : q + (coW P (pkW (O 1) (O 7) (O 8) P) (tlW (O 1) (O 7) (O 8) P f) (nC n)).length < 2 ^ 30) : zK (2 * f + 3) zX4_tellBare [.ref 29, .ref 1, .int n, .int (nI f)] (wX (upd O 6 (nI (q))) (updA P 30 (row)) Y g) (fun r w' => r = none ∧ w' = (wX (upd O 6 (nI (q + (coW P (pkW (O 1) (O 7) (O 8) P) (tlW (O 1) (O 7) (O 8) P f) (nC n)).length))) (updA P 30 (ap8 row q (coW P (pkW (O 1) (O 7) (O 8) P) (tlW (O 1) (O 7) (O 8) P f) (nC n)))) Y g)) := by
  have hc : (coW P (pkW (O 1) (O 7) (O 8) P) (tlW (O 1) (O 7) (O 8) P f) (nC n)) = P 3 (nC n) :: c8 28 :: (tlW (O 1) (O 7) (O 8) P f (P 4 (nC n)) (pkW (O 1) (O 7) (O 8) P (nI 9) (P 4 (nC n)) (Int32.ofInt 1))) := by
    unfold coW
    rw [if_neg (by rw [hk]; decide), if_neg (by rw [hk]; decide), if_neg (by rw [hk]; decide), if_neg (by rw [hk]; decide), if_pos hk]
  have hq' : q + (P 3 (nC n) :: c8 28 :: (tlW (O 1) (O 7) (O 8) P f (P 4 (nC n)) (pkW (O 1) (O 7) (O 8) P (nI 9) (P 4 (nC n)) (Int32.ofInt 1)))).length < 2 ^ 30 := by rw [← hc]; exact hq
  (try simp only [List.length_cons, List.length_append, List.length_nil] at hq')
  refine zK_of qX4_tellBare (by decide +kernel) rfl ?_
  iterate 3 (refine zv_step (bX4_tellBare (2 * f + 3)) rfl rfl trivial ?_)
  refine zv_iale (bX4_tellBare (2 * f + 3)) rfl rfl hv (show P 2 n.toNatClampNeg = nI 9 from hk) ?_
  iterate 4 (refine zv_step (bX4_tellBare (2 * f + 3)) rfl rfl trivial ?_)
  refine zv_iale (bX4_tellBare (2 * f + 3)) rfl rfl hv (v := P 4 (nC n)) rfl ?_
  iterate 4 (refine zv_step (bX4_tellBare (2 * f + 3)) rfl rfl trivial ?_)
  refine zv_iale (bX4_tellBare (2 * f + 3)) rfl rfl hv (v := P 5 (nC n)) rfl ?_
  iterate 6 (refine zv_step (bX4_tellBare (2 * f + 3)) rfl rfl trivial ?_)
  refine zv_V4 (bX4_tellBare (2 * f + 3)) rfl rfl rfl rfl rfl rfl rfl ⟨rfl, rfl, rfl⟩ ⟨by show 2 + 1 ≤ 2 * f + 3; omega, by show 8 + (6 + 11) + 64 * 2 ≤ 64 * (2 * f + 3); omega⟩ ⟨Nat.zero_le _, Nat.zero_le _⟩ (sPart29 O P Y g hu _ _ _ _ _) ?_
  rintro _ _ ⟨rfl, rfl⟩
  iterate 2 (refine zv_step (bX4_tellBare (2 * f + 3)) rfl rfl trivial ?_)
  refine zv_step (bX4_tellBare (2 * f + 3)) rfl rfl (by decide) ?_
  iterate 4 (refine zv_step (bX4_tellBare (2 * f + 3)) rfl rfl trivial ?_)
  refine zv_iale (bX4_tellBare (2 * f + 3)) rfl rfl hv (v := P 3 (nC n)) rfl ?_
  refine zv_V1 (bX4_tellBare (2 * f + 3)) rfl rfl rfl rfl rfl rfl rfl ⟨rfl, rfl, rfl⟩ ⟨by show 0 + 1 ≤ 2 * f + 3; omega, by show 8 + (2 + 11) + 64 * 0 ≤ 64 * (2 * f + 3); omega⟩ ⟨Nat.zero_le _, Nat.zero_le _⟩ (sAdd29 O P Y g (by omega) _ _) ?_
  rintro _ _ ⟨rfl, rfl⟩
  iterate 2 (refine zv_step (bX4_tellBare (2 * f + 3)) rfl rfl trivial ?_)
  refine zv_V1 (bX4_tellBare (2 * f + 3)) rfl rfl rfl rfl rfl rfl rfl ⟨rfl, rfl, rfl⟩ ⟨by show 0 + 1 ≤ 2 * f + 3; omega, by show 8 + (2 + 11) + 64 * 0 ≤ 64 * (2 * f + 3); omega⟩ ⟨Nat.zero_le _, Nat.zero_le _⟩ (sAdd29 O P Y g (by omega) _ _) ?_
  rintro _ _ ⟨rfl, rfl⟩
  iterate 7 (refine zv_step (bX4_tellBare (2 * f + 3)) rfl rfl trivial ?_)
  refine zv_V4 (bX4_tellBare (2 * f + 3)) rfl rfl rfl rfl rfl rfl rfl ⟨rfl, rfl, rfl⟩ ⟨by show 2 * f + 2 + 1 ≤ 2 * f + 3; omega, by show 8 + (5 + 11) + 64 * (2 * f + 2) ≤ 64 * (2 * f + 3); omega⟩ ⟨Nat.zero_le _, Nat.zero_le _⟩ (ih _ _ _ _ _ (pkW_01 _ _ _ _ _ _ _) rfl (by omega)) ?_
  rintro _ _ ⟨rfl, rfl⟩
  iterate 1 (refine zv_step (bX4_tellBare (2 * f + 3)) rfl rfl trivial ?_)
  exact zv_ret (bX4_tellBare (2 * f + 3)) rfl rfl (Nat.zero_le _) (Nat.zero_le _) ⟨rfl, by rw [hc, List.length_cons, List.length_cons, show q + ((tlW (O 1) (O 7) (O 8) P f (P 4 (nC n)) (pkW (O 1) (O 7) (O 8) P (nI 9) (P 4 (nC n)) (Int32.ofInt 1))).length + 1 + 1) = q + 1 + 1 + (tlW (O 1) (O 7) (O 8) P f (P 4 (nC n)) (pkW (O 1) (O 7) (O 8) P (nI 9) (P 4 (nC n)) (Int32.ofInt 1))).length by omega]; rfl⟩
set_option maxHeartbeats 1000000 in
set_option maxRecDepth 20000 in
theorem sBare29 (O : Nat → Int32) (P : Nat → Nat → Int32) (Y : Nat → Nat → Int64) (g : Nat → zC) (hu : (O 1).toInt ≤ 120) (hK : ∀ j : Nat, (j : Int) < (O 1).toInt → ∃ k : Nat, k < 10 ∧ P 2 j = nI k) {f : Nat} (ih : ∀ (x kept z : Int32) (q : Nat) (row : Nat → Int32), (kept = 0 ∨ kept = 1) → z = nI f - Int32.ofInt 1 → q + (tlW (O 1) (O 7) (O 8) P f x kept).length < 2 ^ 30 → zK (2 * f + 2) zX4_tell [.ref 29, .ref 1, .int x, .int kept, .int z] (wX (upd O 6 (nI (q))) (updA P 30 (row)) Y g) (fun r w' => r = none ∧ w' = (wX (upd O 6 (nI (q + (tlW (O 1) (O 7) (O 8) P f x kept).length))) (updA P 30 (ap8 row q (tlW (O 1) (O 7) (O 8) P f x kept))) Y g))) {n : Int32} (hn : 0 ≤ n.toInt ∧ n.toInt < (O 1).toInt) (q : Nat) (row : Nat → Int32) (hq : q + (coW P (pkW (O 1) (O 7) (O 8) P) (tlW (O 1) (O 7) (O 8) P f) (nC n)).length < 2 ^ 30) : zK (2 * f + 3) zX4_tellBare [.ref 29, .ref 1, .int n, .int (nI f)] (wX (upd O 6 (nI (q))) (updA P 30 (row)) Y g) (fun r w' => r = none ∧ w' = (wX (upd O 6 (nI (q + (coW P (pkW (O 1) (O 7) (O 8) P) (tlW (O 1) (O 7) (O 8) P f) (nC n)).length))) (updA P 30 (ap8 row q (coW P (pkW (O 1) (O 7) (O 8) P) (tlW (O 1) (O 7) (O 8) P f) (nC n)))) Y g)) := by
  have hv : vp_in n 120 := vp_in_iff.mpr ⟨hn.1, Int.lt_of_lt_of_le hn.2 hu⟩
  obtain ⟨j, hj, e⟩ := vp_in_of hv (by decide)
  have hnj : nC n = j := by rw [e]; exact nI_clamp (by omega)
  have hji : n.toInt = j := by rw [e]; exact nI_toInt (by omega)
  obtain ⟨k, hk, hk2⟩ := hK (nC n) (by rw [hnj]; omega)
  match k, hk, hk2 with
  | 0, _, hk2 => exact sBare29_0 O P Y g hu ih hv hk2 q row hq
  | 1, _, hk2 => exact sBare29_1 O P Y g hu ih hv hk2 q row hq
  | 2, _, hk2 => exact sBare29_2 O P Y g hu ih hv hk2 q row hq
  | 3, _, hk2 => exact sBare29_3 O P Y g hu ih hv hk2 q row hq
  | 4, _, hk2 => exact sBare29_4 O P Y g hu ih hv hk2 q row hq
  | 5, _, hk2 => exact sBare29_5 O P Y g hu ih hv hk2 q row hq
  | 6, _, hk2 => exact sBare29_6 O P Y g hu ih hv hk2 q row hq
  | 7, _, hk2 => exact sBare29_7 O P Y g hu ih hv hk2 q row hq
  | 8, _, hk2 => exact sBare29_8 O P Y g hu ih hv hk2 q row hq
  | 9, _, hk2 => exact sBare29_9 O P Y g hu ih hv hk2 q row hq
  | k + 10, h, _ => exact absurd h (by omega)
set_option maxHeartbeats 1000000 in
set_option maxRecDepth 20000 in
theorem sTell29 (O : Nat → Int32) (P : Nat → Nat → Int32) (Y : Nat → Nat → Int64) (g : Nat → zC) (hu : (O 1).toInt ≤ 120) (hK : ∀ j : Nat, (j : Int) < (O 1).toInt → ∃ k : Nat, k < 10 ∧ P 2 j = nI k) : ∀ f : Nat, f < 2 ^ 20 → ∀ (x kept z : Int32) (q : Nat) (row : Nat → Int32), (kept = 0 ∨ kept = 1) → z = nI f - Int32.ofInt 1 → q + (tlW (O 1) (O 7) (O 8) P f x kept).length < 2 ^ 30 → zK (2 * f + 2) zX4_tell [.ref 29, .ref 1, .int x, .int kept, .int z] (wX (upd O 6 (nI (q))) (updA P 30 (row)) Y g) (fun r w' => r = none ∧ w' = (wX (upd O 6 (nI (q + (tlW (O 1) (O 7) (O 8) P f x kept).length))) (updA P 30 (ap8 row q (tlW (O 1) (O 7) (O 8) P f x kept))) Y g)) := by
  intro f
  induction f with
  | zero =>
    intro hf x kept z q row hk hz hq
    subst hz
    refine zK_of qX4_tell (by decide +kernel) rfl ?_
    iterate 2 (refine zv_step (bX4_tell (2 * 0 + 2)) rfl rfl trivial ?_)
    refine zv_V1 (bX4_tell (2 * 0 + 2)) rfl rfl rfl rfl rfl rfl rfl ⟨rfl, rfl, rfl⟩ ⟨by show 0 + 1 ≤ (2 * 0 + 2); omega, by show 8 + (2 + 11) + 64 * 0 ≤ 64 * (2 * 0 + 2); omega⟩ ⟨Nat.zero_le _, Nat.zero_le _⟩ (sHas29 O P Y g _ _ _) ?_
    rintro _ _ ⟨rfl, ⟨hh, rfl⟩ | ⟨hh, rfl⟩⟩
    · iterate 1 (refine zv_step (bX4_tell (2 * 0 + 2)) rfl rfl trivial ?_)
      refine zv_ift (by decide) ?_
      have ht : tlW (O 1) (O 7) (O 8) P 0 x kept = [Int32.ofInt 0] := by rw [tlW_0, if_pos hh]
      rw [ht, List.length_singleton] at hq
      iterate 2 (refine zv_step (bX4_tell (2 * 0 + 2)) rfl rfl trivial ?_)
      refine zv_iff (by decide) ?_
      iterate 2 (refine zv_step (bX4_tell (2 * 0 + 2)) rfl rfl trivial ?_)
      refine zv_V1 (bX4_tell (2 * 0 + 2)) rfl rfl rfl rfl rfl rfl rfl ⟨rfl, rfl, rfl⟩ ⟨by show 0 + 1 ≤ (2 * 0 + 2); omega, by show 8 + (2 + 11) + 64 * 0 ≤ 64 * (2 * 0 + 2); omega⟩ ⟨Nat.zero_le _, Nat.zero_le _⟩ (sAdd29 O P Y g (by omega) _ _) ?_
      rintro _ _ ⟨rfl, rfl⟩
      exact zv_ret (bX4_tell (2 * 0 + 2)) rfl rfl (Nat.zero_le _) (Nat.zero_le _) ⟨rfl, by rw [ht]; rfl⟩
    · iterate 1 (refine zv_step (bX4_tell (2 * 0 + 2)) rfl rfl trivial ?_)
      refine zv_iff (by decide) ?_
      exact zv_ret (bX4_tell (2 * 0 + 2)) rfl rfl (Nat.zero_le _) (Nat.zero_le _) ⟨rfl, by rw [show tlW (O 1) (O 7) (O 8) P 0 x kept = [] by rw [tlW_0, if_neg hh]]; rfl⟩
  | succ f ih =>
    intro hf x kept z q row hk hz hq
    have ih := ih (by omega)
    subst hz
    rcases hk with rfl | rfl
    · refine zK_of qX4_tell (by decide +kernel) rfl ?_
      iterate 2 (refine zv_step (bX4_tell (2 * (f + 1) + 2)) rfl rfl trivial ?_)
      refine zv_V1 (bX4_tell (2 * (f + 1) + 2)) rfl rfl rfl rfl rfl rfl rfl ⟨rfl, rfl, rfl⟩ ⟨by show 0 + 1 ≤ (2 * (f + 1) + 2); omega, by show 8 + (2 + 11) + 64 * 0 ≤ 64 * (2 * (f + 1) + 2); omega⟩ ⟨Nat.zero_le _, Nat.zero_le _⟩ (sHas29 O P Y g _ _ _) ?_
      rintro _ _ ⟨rfl, ⟨hh, rfl⟩ | ⟨hh, rfl⟩⟩
      · iterate 1 (refine zv_step (bX4_tell (2 * (f + 1) + 2)) rfl rfl trivial ?_)
        refine zv_ift (by decide) ?_
        iterate 2 (refine zv_step (bX4_tell (2 * (f + 1) + 2)) rfl rfl trivial ?_)
        refine zv_ift (show (0 : Int32) ≤ nI (f + 1) - Int32.ofInt 1 by rw [nI_m1]; exact nI_pos' (by omega)) ?_
        rw [nI_m1]
        have ht : tlW (O 1) (O 7) (O 8) P (f + 1) x 0 = (coW P (pkW (O 1) (O 7) (O 8) P) (tlW (O 1) (O 7) (O 8) P f) (nC x)) := by rw [tlW_s, if_pos hh, if_pos rfl]
        rw [ht] at hq
        iterate 2 (refine zv_step (bX4_tell (2 * (f + 1) + 2)) rfl rfl trivial ?_)
        refine zv_ift (by decide) ?_
        iterate 4 (refine zv_step (bX4_tell (2 * (f + 1) + 2)) rfl rfl trivial ?_)
        refine zv_V3 (bX4_tell (2 * (f + 1) + 2)) rfl rfl rfl rfl rfl rfl rfl ⟨rfl, rfl, rfl⟩ ⟨by show 2 * f + 3 + 1 ≤ 2 * (f + 1) + 2; omega, by show 8 + (8 + 11) + 64 * (2 * f + 3) ≤ 64 * (2 * (f + 1) + 2); omega⟩ ⟨Nat.zero_le _, Nat.zero_le _⟩ (sBare29 O P Y g hu hK ih hh _ _ (by omega)) ?_
        rintro _ _ ⟨rfl, rfl⟩
        iterate 2 (refine zv_step (bX4_tell (2 * (f + 1) + 2)) rfl rfl trivial ?_)
        refine zv_ift (by decide) ?_
        exact zv_ret (bX4_tell (2 * (f + 1) + 2)) rfl rfl (Nat.zero_le _) (Nat.zero_le _) ⟨rfl, by rw [ht]⟩
      · iterate 1 (refine zv_step (bX4_tell (2 * (f + 1) + 2)) rfl rfl trivial ?_)
        refine zv_iff (by decide) ?_
        exact zv_ret (bX4_tell (2 * (f + 1) + 2)) rfl rfl (Nat.zero_le _) (Nat.zero_le _) ⟨rfl, by rw [show tlW (O 1) (O 7) (O 8) P (f + 1) x 0 = [] by rw [tlW_s, if_neg hh]]; rfl⟩
    · refine zK_of qX4_tell (by decide +kernel) rfl ?_
      iterate 2 (refine zv_step (bX4_tell (2 * (f + 1) + 2)) rfl rfl trivial ?_)
      refine zv_V1 (bX4_tell (2 * (f + 1) + 2)) rfl rfl rfl rfl rfl rfl rfl ⟨rfl, rfl, rfl⟩ ⟨by show 0 + 1 ≤ (2 * (f + 1) + 2); omega, by show 8 + (2 + 11) + 64 * 0 ≤ 64 * (2 * (f + 1) + 2); omega⟩ ⟨Nat.zero_le _, Nat.zero_le _⟩ (sHas29 O P Y g _ _ _) ?_
      rintro _ _ ⟨rfl, ⟨hh, rfl⟩ | ⟨hh, rfl⟩⟩
      · iterate 1 (refine zv_step (bX4_tell (2 * (f + 1) + 2)) rfl rfl trivial ?_)
        refine zv_ift (by decide) ?_
        iterate 2 (refine zv_step (bX4_tell (2 * (f + 1) + 2)) rfl rfl trivial ?_)
        refine zv_ift (show (0 : Int32) ≤ nI (f + 1) - Int32.ofInt 1 by rw [nI_m1]; exact nI_pos' (by omega)) ?_
        rw [nI_m1]
        have ht : tlW (O 1) (O 7) (O 8) P (f + 1) x 1 = c8 29 :: ((coW P (pkW (O 1) (O 7) (O 8) P) (tlW (O 1) (O 7) (O 8) P f) (nC x)) ++ [c8 30]) := by rw [tlW_s, if_pos hh, if_neg (by decide)]
        have hl : (tlW (O 1) (O 7) (O 8) P (f + 1) x 1).length = (coW P (pkW (O 1) (O 7) (O 8) P) (tlW (O 1) (O 7) (O 8) P f) (nC x)).length + 2 := by rw [ht]; simp only [List.length_cons, List.length_append, List.length_nil]
        rw [hl] at hq
        iterate 2 (refine zv_step (bX4_tell (2 * (f + 1) + 2)) rfl rfl trivial ?_)
        refine zv_iff (by decide) ?_
        iterate 2 (refine zv_step (bX4_tell (2 * (f + 1) + 2)) rfl rfl trivial ?_)
        refine zv_V1 (bX4_tell (2 * (f + 1) + 2)) rfl rfl rfl rfl rfl rfl rfl ⟨rfl, rfl, rfl⟩ ⟨by show 0 + 1 ≤ (2 * (f + 1) + 2); omega, by show 8 + (2 + 11) + 64 * 0 ≤ 64 * (2 * (f + 1) + 2); omega⟩ ⟨Nat.zero_le _, Nat.zero_le _⟩ (sAdd29 O P Y g (by omega) _ _) ?_
        rintro _ _ ⟨rfl, rfl⟩
        iterate 4 (refine zv_step (bX4_tell (2 * (f + 1) + 2)) rfl rfl trivial ?_)
        refine zv_V3 (bX4_tell (2 * (f + 1) + 2)) rfl rfl rfl rfl rfl rfl rfl ⟨rfl, rfl, rfl⟩ ⟨by show 2 * f + 3 + 1 ≤ 2 * (f + 1) + 2; omega, by show 8 + (8 + 11) + 64 * (2 * f + 3) ≤ 64 * (2 * (f + 1) + 2); omega⟩ ⟨Nat.zero_le _, Nat.zero_le _⟩ (sBare29 O P Y g hu hK ih hh _ _ (by omega)) ?_
        rintro _ _ ⟨rfl, rfl⟩
        iterate 2 (refine zv_step (bX4_tell (2 * (f + 1) + 2)) rfl rfl trivial ?_)
        refine zv_iff (by decide) ?_
        iterate 2 (refine zv_step (bX4_tell (2 * (f + 1) + 2)) rfl rfl trivial ?_)
        refine zv_V1 (bX4_tell (2 * (f + 1) + 2)) rfl rfl rfl rfl rfl rfl rfl ⟨rfl, rfl, rfl⟩ ⟨by show 0 + 1 ≤ (2 * (f + 1) + 2); omega, by show 8 + (2 + 11) + 64 * 0 ≤ 64 * (2 * (f + 1) + 2); omega⟩ ⟨Nat.zero_le _, Nat.zero_le _⟩ (sAdd29 O P Y g (by omega) _ _) ?_
        rintro _ _ ⟨rfl, rfl⟩
        exact zv_ret (bX4_tell (2 * (f + 1) + 2)) rfl rfl (Nat.zero_le _) (Nat.zero_le _) ⟨rfl, by rw [hl, ht, show q + ((coW P (pkW (O 1) (O 7) (O 8) P) (tlW (O 1) (O 7) (O 8) P f) (nC x)).length + 2) = q + 1 + (coW P (pkW (O 1) (O 7) (O 8) P) (tlW (O 1) (O 7) (O 8) P f) (nC x)).length + 1 by omega]; show _ = (wX (upd O 6 (nI (_))) (updA P 30 (ap8 (ap1 row q (c8 29)) (q + 1) ((coW P (pkW (O 1) (O 7) (O 8) P) (tlW (O 1) (O 7) (O 8) P f) (nC x)) ++ [c8 30]))) Y g); rw [ap8_app]; rfl⟩
      · iterate 1 (refine zv_step (bX4_tell (2 * (f + 1) + 2)) rfl rfl trivial ?_)
        refine zv_iff (by decide) ?_
        exact zv_ret (bX4_tell (2 * (f + 1) + 2)) rfl rfl (Nat.zero_le _) (Nat.zero_le _) ⟨rfl, by rw [show tlW (O 1) (O 7) (O 8) P (f + 1) x 1 = [] by rw [tlW_s, if_neg hh]]; rfl⟩
end
section
/-- a PART's number on a page: none, or one that came before -/
def okp (n : Nat) (x : Int32) : Prop := x = Int32.ofInt (-1) ∨ ∃ j : Nat, j < n ∧ x = nI j
def szq (Sz : Nat → Int32) (x : Int32) : Nat := if 0 ≤ x.toInt then (Sz (nC x)).toNatClampNeg else 0
/-- a page of u NODES -/
def pgI (u : Nat) (Kd Xs Ys Sz : Nat → Int32) : Prop := ∀ n, n < u → (∃ k : Nat, k < 10 ∧ Kd n = nI k) ∧ okp n (Xs n) ∧ okp n (Ys n) ∧ ∃ z : Nat, Sz n = nI z ∧ 1 ≤ z ∧ z ≤ 40 ∧ 1 + szq Sz (Xs n) + szq Sz (Ys n) ≤ z
theorem coW_len {P : Nat → Nat → Int32} {pk : Int32 → Int32 → Int32 → Int32} {T : Int32 → Int32 → List Int32} {n a b : Nat} (hx : ∀ c, (T (P 4 n) c).length ≤ a) (hy : ∀ c, (T (P 5 n) c).length ≤ b) : (coW P pk T n).length ≤ 4 + a + b := by
  unfold coW
  have hd := dgW_len (P 3 n)
  split
  · simp only [List.length_cons, List.length_nil]; omega
  · split
    · omega
    · split
      · have := hx (pk (nI 7) (P 4 n) (Int32.ofInt 1)); simp only [List.length_cons]; omega
      · split
        · have := hx (pk (nI 8) (P 4 n) (Int32.ofInt 1)); simp only [List.length_cons, List.length_append, List.length_nil]; omega
        · split
          · have := hx (pk (nI 9) (P 4 n) (Int32.ofInt 1)); simp only [List.length_cons]; omega
          · have h1 := hx (pk (P 2 n) (P 4 n) (Int32.ofInt 1)); have h2 := hy (pk (P 2 n) (P 5 n) (Int32.ofInt 0)); simp only [List.length_cons, List.length_append]; omega
theorem tlW_len {u : Nat} (hu : u ≤ 120) {kk sp : Int32} {P : Nat → Nat → Int32} (hp : pgI u (P 2) (P 4) (P 5) (P 6)) : ∀ (f : Nat) (x kept : Int32), (tlW (nI u) kk sp P f x kept).length ≤ 6 * szq (P 6) x := by
  intro f
  induction f with
  | zero =>
    intro x kept
    rw [tlW_0]
    split
    · rename_i hh
      rw [nI_toInt (by omega)] at hh
      obtain ⟨j, hj, rfl⟩ := vp_in_of (x := x) (n := u) (vp_in_iff.mpr ⟨hh.1, by omega⟩) (by omega)
      obtain ⟨-, -, -, z, hz, z1, z2, -⟩ := hp j hj
      have e : szq (P 6) (nI j) = z := by unfold szq nC; rw [if_pos hh.1, nI_clamp (by omega), hz, nI_clamp (by omega)]
      rw [e]
      simp only [List.length_cons, List.length_nil]
      omega
    · exact Nat.zero_le _
  | succ f ih =>
    intro x kept
    rw [tlW_s]
    split
    · rename_i hh
      rw [nI_toInt (by omega)] at hh
      obtain ⟨j, hj, rfl⟩ := vp_in_of (x := x) (n := u) (vp_in_iff.mpr ⟨hh.1, by omega⟩) (by omega)
      obtain ⟨-, -, -, z, hz, z1, z2, z3⟩ := hp j hj
      have ej : nC (nI j) = j := nI_clamp (by omega)
      have e : szq (P 6) (nI j) = z := by unfold szq; rw [if_pos hh.1, ej, hz, nI_clamp (by omega)]
      have hc := coW_len (P := P) (pk := pkW (nI u) kk sp P) (T := tlW (nI u) kk sp P f) (n := j) (fun c => ih (P 4 j) c) (fun c => ih (P 5 j) c)
      rw [e, ej]
      split
      · omega
      · simp only [List.length_cons, List.length_append, List.length_nil]
        omega
    · exact Nat.zero_le _
theorem szq_le {u : Nat} {Kd Xs Ys Sz : Nat → Int32} (hp : pgI u Kd Xs Ys Sz) {j : Nat} (hj : j < u) (hu : u ≤ 120) : szq Sz (nI j) ≤ 40 := by
  obtain ⟨-, -, -, z, hz, z1, z2, -⟩ := hp j hj
  unfold szq nC
  rw [if_pos (by rw [nI_toInt (by omega)]; omega), nI_clamp (by omega), hz, nI_clamp (by omega)]
  exact z2
end
section
set_option maxHeartbeats 1000000 in
set_option maxRecDepth 20000 in
theorem sStyle27 (O : Nat → Int32) (P : Nat → Nat → Int32) (Y : Nat → Nat → Int64) (g : Nat → zC) {u : Nat} (hu : u ≤ 120) (h1 : O 1 = nI u) (hp : pgI u (P 2) (P 4) (P 5) (P 6)) {j : Nat} (hj : j < u) {f : Nat} (hf : f < 2 ^ 20) {kk z : Int32} (hz : z = nI f - Int32.ofInt 1) : zK (2 * f + 3) zX4_sayInStyle [.ref 27, .ref 1, .int (nI j), .int kk, .int z] (wX O P Y g) (fun r w' => r = none ∧ w' = (wX (upd (upd (upd O 4 (kk)) 5 (Int32.ofInt 0)) 3 (nI ((tlW (O 1) kk (Int32.ofInt 0) P f (nI j) (hbW kk (P 2 j))).length))) (updA P 28 (ap8 (P 28) 0 (tlW (O 1) kk (Int32.ofInt 0) P f (nI j) (hbW kk (P 2 j))))) Y g)) := by
  have hv : vp_in (nI j) 120 := vp_in_nI (by omega) (by decide)
  have hu1 : (O 1).toInt ≤ 120 := by rw [h1, nI_toInt (by omega)]; omega
  have hK : ∀ i : Nat, (i : Int) < (O 1).toInt → ∃ k : Nat, k < 10 ∧ P 2 i = nI k := fun i hi => (hp i (by rw [h1, nI_toInt (by omega)] at hi; omega)).1
  have hl : (tlW (O 1) (kk) (Int32.ofInt 0) P f (nI j) (hbW kk (P 2 j))).length ≤ 240 := by rw [h1]; have a1 := tlW_len hu (kk := kk) (sp := Int32.ofInt 0) hp f (nI j) (hbW kk (P 2 j)); have a2 := szq_le hp hj hu; omega
  refine zK_of qX4_sayInStyle (by decide +kernel) rfl ?_
  iterate 16 (refine zv_step (bX4_sayInStyle (2 * f + 3)) rfl rfl trivial ?_)
  refine zv_iale (bX4_sayInStyle (2 * f + 3)) rfl rfl hv (v := P 2 j) (show P 2 (nI j).toNatClampNeg = P 2 j by rw [nI_clamp (by omega)]) ?_
  refine zv_S2 (bX4_sayInStyle (2 * f + 3)) rfl rfl rfl rfl ⟨rfl, rfl, rfl⟩ ⟨by show 0 + 1 ≤ 2 * f + 3; omega, by show 8 + (2 + 11) + 64 * 0 ≤ 64 * (2 * f + 3); omega⟩ ⟨Nat.zero_le _, Nat.zero_le _⟩ (pHasBitW _ _ _) ?_
  rintro _ _ ⟨rfl, rfl⟩
  iterate 1 (refine zv_step (bX4_sayInStyle (2 * f + 3)) rfl rfl trivial ?_)
  show zV _ _ _ _ _ 30 _ [.int z, .int (hbW kk (P 2 j)), .int (nI j), .ref 1, .ref 27] (wX (upd (upd (upd O 4 (kk)) 5 (Int32.ofInt 0)) 3 (nI (0))) (updA P 28 (P 28)) Y g) _
  refine zv_V4 (bX4_sayInStyle (2 * f + 3)) rfl rfl rfl rfl rfl rfl rfl ⟨rfl, rfl, rfl⟩ ⟨by show 2 * f + 2 + 1 ≤ 2 * f + 3; omega, by show 8 + (5 + 11) + 64 * (2 * f + 2) ≤ 64 * (2 * f + 3); omega⟩ ⟨Nat.zero_le _, Nat.zero_le _⟩ (sTell27 (upd (upd O 4 (kk)) 5 (Int32.ofInt 0)) P Y g hu1 hK f hf _ _ _ 0 (P 28) (hbW_01 _ _) hz (show 0 + (tlW (O 1) kk (Int32.ofInt 0) P f (nI j) (hbW kk (P 2 j))).length < 2 ^ 30 by omega)) ?_
  rintro _ _ ⟨rfl, rfl⟩
  exact zv_ret (bX4_sayInStyle (2 * f + 3)) rfl rfl (Nat.zero_le _) (Nat.zero_le _) ⟨rfl, by rw [Nat.zero_add]; rfl⟩
set_option maxHeartbeats 1000000 in
set_option maxRecDepth 20000 in
theorem sSparing27 (O : Nat → Int32) (P : Nat → Nat → Int32) (Y : Nat → Nat → Int64) (g : Nat → zC) {u : Nat} (hu : u ≤ 120) (h1 : O 1 = nI u) (hp : pgI u (P 2) (P 4) (P 5) (P 6)) {j : Nat} (hj : j < u) : zK 85 zX4_saySparingly [.ref 27, .ref 1, .int (nI j)] (wX O P Y g) (fun r w' => r = none ∧ w' = (wX (upd (upd O 5 (Int32.ofInt 1)) 3 (nI ((tlW (O 1) (O 4) (Int32.ofInt 1) P 41 (nI j) (Int32.ofInt 0)).length))) (updA P 28 (ap8 (P 28) 0 (tlW (O 1) (O 4) (Int32.ofInt 1) P 41 (nI j) (Int32.ofInt 0)))) Y g)) := by
  have hv : vp_in (nI j) 120 := vp_in_nI (by omega) (by decide)
  have hu1 : (O 1).toInt ≤ 120 := by rw [h1, nI_toInt (by omega)]; omega
  have hK : ∀ i : Nat, (i : Int) < (O 1).toInt → ∃ k : Nat, k < 10 ∧ P 2 i = nI k := fun i hi => (hp i (by rw [h1, nI_toInt (by omega)] at hi; omega)).1
  have hl : (tlW (O 1) (O 4) (Int32.ofInt 1) P 41 (nI j) (Int32.ofInt 0)).length ≤ 240 := by rw [h1]; have a1 := tlW_len hu (kk := O 4) (sp := Int32.ofInt 1) hp 41 (nI j) (Int32.ofInt 0); have a2 := szq_le hp hj hu; omega
  refine zK_of qX4_saySparingly (by decide +kernel) rfl ?_
  iterate 11 (refine zv_step (bX4_saySparingly 85) rfl rfl trivial ?_)
  show zV _ _ _ _ _ 16 _ [.int (c8 40), .int (Int32.ofInt 0), .int (nI j), .ref 1, .ref 27] (wX (upd (upd O 5 (Int32.ofInt 1)) 3 (nI (0))) (updA P 28 (P 28)) Y g) _
  refine zv_V4 (bX4_saySparingly 85) rfl rfl rfl rfl rfl rfl rfl ⟨rfl, rfl, rfl⟩ ⟨Nat.le_of_ble_eq_true rfl, Nat.le_of_ble_eq_true rfl⟩ ⟨Nat.zero_le _, Nat.zero_le _⟩ (sTell27 (upd O 5 (Int32.ofInt 1)) P Y g hu1 hK 41 (by decide) _ _ _ 0 (P 28) (Or.inl rfl) (by decide) (show 0 + (tlW (O 1) (O 4) (Int32.ofInt 1) P 41 (nI j) (Int32.ofInt 0)).length < 2 ^ 30 by omega)) ?_
  rintro _ _ ⟨rfl, rfl⟩
  exact zv_ret (bX4_saySparingly 85) rfl rfl (Nat.zero_le _) (Nat.zero_le _) ⟨rfl, by rw [Nat.zero_add]; rfl⟩
end
section
set_option maxHeartbeats 1000000 in
set_option maxRecDepth 20000 in
theorem sStyle29 (O : Nat → Int32) (P : Nat → Nat → Int32) (Y : Nat → Nat → Int64) (g : Nat → zC) {u : Nat} (hu : u ≤ 120) (h1 : O 1 = nI u) (hp : pgI u (P 2) (P 4) (P 5) (P 6)) {j : Nat} (hj : j < u) {f : Nat} (hf : f < 2 ^ 20) {kk z : Int32} (hz : z = nI f - Int32.ofInt 1) : zK (2 * f + 3) zX4_sayInStyle [.ref 29, .ref 1, .int (nI j), .int kk, .int z] (wX O P Y g) (fun r w' => r = none ∧ w' = (wX (upd (upd (upd O 7 (kk)) 8 (Int32.ofInt 0)) 6 (nI ((tlW (O 1) kk (Int32.ofInt 0) P f (nI j) (hbW kk (P 2 j))).length))) (updA P 30 (ap8 (P 30) 0 (tlW (O 1) kk (Int32.ofInt 0) P f (nI j) (hbW kk (P 2 j))))) Y g)) := by
  have hv : vp_in (nI j) 120 := vp_in_nI (by omega) (by decide)
  have hu1 : (O 1).toInt ≤ 120 := by rw [h1, nI_toInt (by omega)]; omega
  have hK : ∀ i : Nat, (i : Int) < (O 1).toInt → ∃ k : Nat, k < 10 ∧ P 2 i = nI k := fun i hi => (hp i (by rw [h1, nI_toInt (by omega)] at hi; omega)).1
  have hl : (tlW (O 1) (kk) (Int32.ofInt 0) P f (nI j) (hbW kk (P 2 j))).length ≤ 240 := by rw [h1]; have a1 := tlW_len hu (kk := kk) (sp := Int32.ofInt 0) hp f (nI j) (hbW kk (P 2 j)); have a2 := szq_le hp hj hu; omega
  refine zK_of qX4_sayInStyle (by decide +kernel) rfl ?_
  iterate 16 (refine zv_step (bX4_sayInStyle (2 * f + 3)) rfl rfl trivial ?_)
  refine zv_iale (bX4_sayInStyle (2 * f + 3)) rfl rfl hv (v := P 2 j) (show P 2 (nI j).toNatClampNeg = P 2 j by rw [nI_clamp (by omega)]) ?_
  refine zv_S2 (bX4_sayInStyle (2 * f + 3)) rfl rfl rfl rfl ⟨rfl, rfl, rfl⟩ ⟨by show 0 + 1 ≤ 2 * f + 3; omega, by show 8 + (2 + 11) + 64 * 0 ≤ 64 * (2 * f + 3); omega⟩ ⟨Nat.zero_le _, Nat.zero_le _⟩ (pHasBitW _ _ _) ?_
  rintro _ _ ⟨rfl, rfl⟩
  iterate 1 (refine zv_step (bX4_sayInStyle (2 * f + 3)) rfl rfl trivial ?_)
  show zV _ _ _ _ _ 30 _ [.int z, .int (hbW kk (P 2 j)), .int (nI j), .ref 1, .ref 29] (wX (upd (upd (upd O 7 (kk)) 8 (Int32.ofInt 0)) 6 (nI (0))) (updA P 30 (P 30)) Y g) _
  refine zv_V4 (bX4_sayInStyle (2 * f + 3)) rfl rfl rfl rfl rfl rfl rfl ⟨rfl, rfl, rfl⟩ ⟨by show 2 * f + 2 + 1 ≤ 2 * f + 3; omega, by show 8 + (5 + 11) + 64 * (2 * f + 2) ≤ 64 * (2 * f + 3); omega⟩ ⟨Nat.zero_le _, Nat.zero_le _⟩ (sTell29 (upd (upd O 7 (kk)) 8 (Int32.ofInt 0)) P Y g hu1 hK f hf _ _ _ 0 (P 30) (hbW_01 _ _) hz (show 0 + (tlW (O 1) kk (Int32.ofInt 0) P f (nI j) (hbW kk (P 2 j))).length < 2 ^ 30 by omega)) ?_
  rintro _ _ ⟨rfl, rfl⟩
  exact zv_ret (bX4_sayInStyle (2 * f + 3)) rfl rfl (Nat.zero_le _) (Nat.zero_le _) ⟨rfl, by rw [Nat.zero_add]; rfl⟩
end
section
noncomputable def ptW (u : Int32) (Xs Ys : Nat → Int32) (x d : Int32) : Int32 := if 0 ≤ x.toInt ∧ x.toInt < u.toInt then (if d.toInt = 1 then Xs (nC x) else if d.toInt = 2 then Ys (nC x) else Int32.ofInt (-1)) else Int32.ofInt (-1)
set_option maxHeartbeats 1000000 in
set_option maxRecDepth 20000 in
theorem pPt1 (O : Nat → Int32) (P : Nat → Nat → Int32) (Y : Nat → Nat → Int64) (g : Nat → zC) (hu : (O 1).toInt ≤ 120) (x d : Int32) : zK 1 zX2_partOf [.ref 1, .int x, .int d] (wX O P Y g) (fun r w' => w' = wX O P Y g ∧ r = some (.int (ptW (O 1) (P 4) (P 5) x d))) := by
  refine zK_of qX2_partOf (by decide +kernel) rfl ?_
  iterate 2 (refine zv_step (bX2_partOf 1) rfl rfl trivial ?_)
  refine zv_V1 (bX2_partOf 1) rfl rfl rfl rfl rfl rfl rfl ⟨rfl, rfl, rfl⟩ ⟨by decide, by decide⟩ ⟨Nat.zero_le _, Nat.zero_le _⟩ (pHas1 O P Y g _) ?_
  rintro _ _ ⟨rfl, ⟨hh, rfl⟩ | ⟨hh, rfl⟩⟩
  · iterate 1 (refine zv_step (bX2_partOf 1) rfl rfl trivial ?_)
    refine zv_iff (by decide) ?_
    iterate 3 (refine zv_step (bX2_partOf 1) rfl rfl trivial ?_)
    refine zv_ifb (fun hc => ?_) (fun hc => ?_)
    · rw [Int32.lt_iff_toInt_lt, i32c 1 (by decide)] at hc
      iterate 1 (refine zv_step (bX2_partOf 1) rfl rfl trivial ?_)
      exact zv_iret (bX2_partOf 1) rfl (Or.inl rfl) (Nat.zero_le _) (Nat.zero_le _) ⟨rfl, by unfold ptW; rw [if_pos hh, if_neg (by omega), if_neg (by omega)] <;> rfl⟩
    · rw [Int32.lt_iff_toInt_lt, i32c 1 (by decide)] at hc
      iterate 3 (refine zv_step (bX2_partOf 1) rfl rfl trivial ?_)
      refine zv_ifb (fun hd => ?_) (fun hd => ?_)
      · rw [Int32.le_iff_toInt_le, i32c 2 (by decide)] at hd
        iterate 3 (refine zv_step (bX2_partOf 1) rfl rfl trivial ?_)
        refine zv_ifb (fun he => ?_) (fun he => ?_)
        · rw [i32e _ 1 (by decide)] at he
          iterate 3 (refine zv_step (bX2_partOf 1) rfl rfl trivial ?_)
          refine zv_step (bX2_partOf 1) rfl rfl (vp_in_iff.mpr ⟨hh.1, Int.lt_of_lt_of_le hh.2 hu⟩) ?_
          exact zv_iret (bX2_partOf 1) rfl (Or.inl rfl) (Nat.zero_le _) (Nat.zero_le _) ⟨rfl, by unfold ptW; rw [if_pos hh, if_neg he, if_pos (by omega)] <;> rfl⟩
        · rw [i32e _ 1 (by decide)] at he
          iterate 3 (refine zv_step (bX2_partOf 1) rfl rfl trivial ?_)
          refine zv_step (bX2_partOf 1) rfl rfl (vp_in_iff.mpr ⟨hh.1, Int.lt_of_lt_of_le hh.2 hu⟩) ?_
          iterate 1 (refine zv_step (bX2_partOf 1) rfl rfl trivial ?_)
          exact zv_iret (bX2_partOf 1) rfl (Or.inl rfl) (Nat.zero_le _) (Nat.zero_le _) ⟨rfl, by unfold ptW; rw [if_pos hh, if_pos (Decidable.not_not.mp he)] <;> rfl⟩
      · rw [Int32.le_iff_toInt_le, i32c 2 (by decide)] at hd
        iterate 1 (refine zv_step (bX2_partOf 1) rfl rfl trivial ?_)
        exact zv_iret (bX2_partOf 1) rfl (Or.inl rfl) (Nat.zero_le _) (Nat.zero_le _) ⟨rfl, by unfold ptW; rw [if_pos hh, if_neg (by omega), if_neg (by omega)] <;> rfl⟩
  · iterate 1 (refine zv_step (bX2_partOf 1) rfl rfl trivial ?_)
    refine zv_ift (by decide) ?_
    iterate 1 (refine zv_step (bX2_partOf 1) rfl rfl trivial ?_)
    exact zv_iret (bX2_partOf 1) rfl (Or.inl rfl) (Nat.zero_le _) (Nat.zero_le _) ⟨rfl, by unfold ptW; rw [if_neg hh] <;> rfl⟩
/-- one step of a walk down: where it is, its NODES, its digits -/
noncomputable def sdW (u : Int32) (Xs Ys : Nat → Int32) (dg : Int32) (s : Nat × (Nat → Int32) × (Nat → Int32)) : Nat × (Nat → Int32) × (Nat → Int32) := if ptW u Xs Ys (s.2.1 s.1) dg = Int32.ofInt (-1) ∨ 40 ≤ s.1 + 1 then s else (s.1 + 1, upd s.2.1 (s.1 + 1) (ptW u Xs Ys (s.2.1 s.1) dg), upd s.2.2 (s.1 + 1) dg)
theorem sdW_le {u : Int32} {Xs Ys : Nat → Int32} {dg : Int32} {s : Nat × (Nat → Int32) × (Nat → Int32)} (h : s.1 < 40) : (sdW u Xs Ys dg s).1 < 40 := by
  unfold sdW
  split
  · exact h
  · rename_i q; show s.1 + 1 < 40; omega
theorem e40 : c8 40 = nI 40 := by decide +kernel
theorem e19 : c8 19 = nI 19 := by decide +kernel
set_option maxHeartbeats 1000000 in
set_option maxRecDepth 20000 in
theorem wHere (O : Nat → Int32) (P : Nat → Nat → Int32) (Y : Nat → Nat → Int64) (g : Nat → zC) {dd : Nat} (hd : dd < 40) (N D : Nat → Int32) : zK 0 zX5_here [.ref 55] (wX (upd O 14 (nI (dd))) (updA (updA P 56 (N)) 57 (D)) Y g) (fun r w' => w' = (wX (upd O 14 (nI (dd))) (updA (updA P 56 (N)) 57 (D)) Y g) ∧ r = some (.int (N dd))) := by
  refine zK_of qX5_here (by decide +kernel) rfl ?_
  iterate 4 (refine zv_step (bX5_here 0) rfl rfl trivial ?_)
  refine zv_iale (bX5_here 0) rfl rfl (show vp_in (nI dd) 40 from vp_in_nI hd (by decide)) (show N (nI dd).toNatClampNeg = N dd by rw [nI_clamp (by omega)]) ?_
  exact zv_iret (bX5_here 0) rfl (Or.inl rfl) (Nat.zero_le _) (Nat.zero_le _) ⟨rfl, rfl⟩
set_option maxHeartbeats 1000000 in
set_option maxRecDepth 20000 in
theorem wDown (O : Nat → Int32) (P : Nat → Nat → Int32) (Y : Nat → Nat → Int64) (g : Nat → zC) (hu : (O 1).toInt ≤ 120) {dd : Nat} (hd : dd < 40) (N D : Nat → Int32) (dg : Int32) : zK 2 zX5_stepDown [.ref 55, .ref 1, .int dg] (wX (upd O 14 (nI (dd))) (updA (updA P 56 (N)) 57 (D)) Y g) (fun r w' => w' = (wX (upd O 14 (nI ((sdW (O 1) (P 4) (P 5) dg (dd, N, D)).1))) (updA (updA P 56 ((sdW (O 1) (P 4) (P 5) dg (dd, N, D)).2.1)) 57 ((sdW (O 1) (P 4) (P 5) dg (dd, N, D)).2.2)) Y g) ∧ ((((ptW (O 1) (P 4) (P 5) (N dd) dg) = Int32.ofInt (-1) ∨ 40 ≤ dd + 1) ∧ r = some (.int 0)) ∨ (¬ ((ptW (O 1) (P 4) (P 5) (N dd) dg) = Int32.ofInt (-1) ∨ 40 ≤ dd + 1) ∧ r = some (.int 1)))) := by
  refine zK_of qX5_stepDown (by decide +kernel) rfl ?_
  iterate 2 (refine zv_step (bX5_stepDown 2) rfl rfl trivial ?_)
  refine zv_V0 (bX5_stepDown 2) rfl rfl rfl rfl rfl rfl rfl ⟨rfl, rfl, rfl⟩ ⟨by decide, by decide⟩ ⟨Nat.zero_le _, Nat.zero_le _⟩ (wHere O P Y g hd N D) ?_
  rintro _ _ ⟨rfl, rfl⟩
  iterate 1 (refine zv_step (bX5_stepDown 2) rfl rfl trivial ?_)
  refine zv_V2 (bX5_stepDown 2) rfl rfl rfl rfl rfl rfl rfl ⟨rfl, rfl, rfl⟩ ⟨by decide, by decide⟩ ⟨Nat.zero_le _, Nat.zero_le _⟩ (show zK 1 zX2_partOf [.ref 1, .int (N dd), .int dg] (wX (upd O 14 (nI (dd))) (updA (updA P 56 (N)) 57 (D)) Y g) (fun r w' => w' = (wX (upd O 14 (nI (dd))) (updA (updA P 56 (N)) 57 (D)) Y g) ∧ r = some (.int (ptW (O 1) (P 4) (P 5) (N dd) dg))) from pPt1 (upd O 14 (nI dd)) (updA (updA P 56 N) 57 D) Y g hu (N dd) dg) ?_
  rintro _ _ ⟨rfl, rfl⟩
  iterate 4 (refine zv_step (bX5_stepDown 2) rfl rfl trivial ?_)
  refine zv_ifb (fun hp => ?_) (fun hp => ?_)
  · iterate 1 (refine zv_step (bX5_stepDown 2) rfl rfl trivial ?_)
    exact zv_iret (bX5_stepDown 2) rfl (Or.inr ⟨rfl, Or.inl rfl⟩) (Nat.zero_le _) (Nat.zero_le _) ⟨by rw [show (sdW (O 1) (P 4) (P 5) dg (dd, N, D)) = (dd, N, D) from if_pos (Or.inl hp)], Or.inl ⟨Or.inl hp, rfl⟩⟩
  · iterate 6 (refine zv_step (bX5_stepDown 2) rfl rfl trivial ?_)
    refine zv_ifb (fun hc => ?_) (fun hc => ?_)
    · have hc : nI dd + Int32.ofInt 1 < c8 40 := hc
      rw [show nI dd + Int32.ofInt 1 = nI (dd + 1) from nI_1 dd, e40, nI_ltI (by omega) (by decide)] at hc
      iterate 6 (refine zv_step (bX5_stepDown 2) rfl rfl trivial ?_)
      show zV _ _ _ _ _ 38 _ [] (wX (upd O 14 (nI dd + Int32.ofInt 1)) (updA (updA P 56 (N)) 57 (D)) Y g) _
      rw [show nI dd + Int32.ofInt 1 = nI (dd + 1) from nI_1 dd]
      iterate 5 (refine zv_step (bX5_stepDown 2) rfl rfl trivial ?_)
      refine zv_step (bX5_stepDown 2) rfl rfl (show vp_in (nI (dd + 1)) 40 from vp_in_nI (by omega) (by decide)) ?_
      iterate 5 (refine zv_step (bX5_stepDown 2) rfl rfl trivial ?_)
      refine zv_step (bX5_stepDown 2) rfl rfl (show vp_in (nI (dd + 1)) 40 from vp_in_nI (by omega) (by decide)) ?_
      iterate 1 (refine zv_step (bX5_stepDown 2) rfl rfl trivial ?_)
      exact zv_iret (bX5_stepDown 2) rfl (Or.inr ⟨rfl, Or.inr rfl⟩) (Nat.zero_le _) (Nat.zero_le _) ⟨by rw [show (sdW (O 1) (P 4) (P 5) dg (dd, N, D)) = (dd + 1, upd N (dd + 1) (ptW (O 1) (P 4) (P 5) (N dd) dg), upd D (dd + 1) dg) from if_neg (fun q => q.elim hp (by omega))]; show wX (upd O 14 (nI (dd + 1))) (updA (updA P 56 (upd N (nI (dd + 1)).toNatClampNeg (ptW (O 1) (P 4) (P 5) (N dd) dg))) 57 (upd D (nI (dd + 1)).toNatClampNeg dg)) Y g = _; rw [nI_clamp (by omega)], Or.inr ⟨fun q => q.elim hp (by omega), rfl⟩⟩
    · have hc : ¬ nI dd + Int32.ofInt 1 < c8 40 := hc
      rw [show nI dd + Int32.ofInt 1 = nI (dd + 1) from nI_1 dd, e40, nI_ltI (by omega) (by decide)] at hc
      iterate 1 (refine zv_step (bX5_stepDown 2) rfl rfl trivial ?_)
      exact zv_iret (bX5_stepDown 2) rfl (Or.inr ⟨rfl, Or.inl rfl⟩) (Nat.zero_le _) (Nat.zero_le _) ⟨by rw [show (sdW (O 1) (P 4) (P 5) dg (dd, N, D)) = (dd, N, D) from if_pos (Or.inr (by omega))], Or.inl ⟨Or.inr (by omega), rfl⟩⟩
set_option maxHeartbeats 1000000 in
set_option maxRecDepth 20000 in
theorem wUp (O : Nat → Int32) (P : Nat → Nat → Int32) (Y : Nat → Nat → Int64) (g : Nat → zC) {dd : Nat} (hd : dd < 40) (N D : Nat → Int32) : zK 0 zX5_stepUp [.ref 55] (wX (upd O 14 (nI (dd))) (updA (updA P 56 (N)) 57 (D)) Y g) (fun r w' => w' = (wX (upd O 14 (nI (dd - 1))) (updA (updA P 56 (N)) 57 (D)) Y g) ∧ ((dd = 0 ∧ r = some (.int 0)) ∨ (¬ dd = 0 ∧ r = some (.int 1)))) := by
  refine zK_of qX5_stepUp (by decide +kernel) rfl ?_
  iterate 3 (refine zv_step (bX5_stepUp 0) rfl rfl trivial ?_)
  refine zv_ifb (fun hc => ?_) (fun hc => ?_)
  · have hc : ¬ nI dd = 0 := hc
    obtain ⟨m, rfl⟩ : ∃ m, dd = m + 1 := ⟨dd - 1, by have : dd ≠ 0 := fun q => hc (by rw [q]; rfl); omega⟩
    iterate 7 (refine zv_step (bX5_stepUp 0) rfl rfl trivial ?_)
    exact zv_iret (bX5_stepUp 0) rfl (Or.inr ⟨rfl, Or.inr rfl⟩) (Nat.zero_le _) (Nat.zero_le _) ⟨by show wX (upd O 14 (nI (m + 1) - Int32.ofInt 1)) (updA (updA P 56 N) 57 D) Y g = _; rw [nI_m1]; rfl, Or.inr ⟨by omega, rfl⟩⟩
  · have hc : ¬ ¬ nI dd = 0 := hc
    have h0 : dd = 0 := by by_cases q : dd = 0; exact q; exact absurd (nI_ne0 (by omega) (by omega)) hc
    subst h0
    iterate 1 (refine zv_step (bX5_stepUp 0) rfl rfl trivial ?_)
    exact zv_iret (bX5_stepUp 0) rfl (Or.inr ⟨rfl, Or.inl rfl⟩) (Nat.zero_le _) (Nat.zero_le _) ⟨rfl, Or.inl ⟨rfl, rfl⟩⟩
end
