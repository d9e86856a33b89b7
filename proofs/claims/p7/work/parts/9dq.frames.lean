def spT (O : Nat → Int32) (P : Nat → Nat → Int32) (O' : Nat → Int32) (P' : Nat → Nat → Int32) : Prop := (∀ j, j < 3 ∨ 8 < j → O' j = O j) ∧ (∀ i, i ≠ 28 → i ≠ 30 → P' i = P i)
theorem spT_say {O : Nat → Int32} {P : Nat → Nat → Int32} (a b c : Int32) (R : Nat → Int32) : spT O P (upd (upd (upd O 4 a) 5 b) 3 c) (updA P 28 R) :=
  ⟨fun j hj => by rw [upd_ne _ _ (by omega), upd_ne _ _ (by omega), upd_ne _ _ (by omega)], fun i h _ => updA_ne _ _ h⟩
theorem spT_two {O : Nat → Int32} {P : Nat → Nat → Int32} (a b c d e f : Int32) (R S : Nat → Int32) : spT O P (upd (upd (upd (upd (upd (upd O 4 a) 5 b) 3 c) 7 d) 8 e) 6 f) (updA (updA P 28 R) 30 S) :=
  ⟨fun j hj => by rw [upd_ne _ _ (by omega), upd_ne _ _ (by omega), upd_ne _ _ (by omega), upd_ne _ _ (by omega), upd_ne _ _ (by omega), upd_ne _ _ (by omega)], fun i h k => (updA_ne _ _ k).trans (updA_ne _ _ h)⟩
set_option maxHeartbeats 1000000 in
set_option maxRecDepth 20000 in
theorem cWordsT (O : Nat → Int32) (P : Nat → Nat → Int32) (Y : Nat → Nat → Int64) (g : Nat → zC) {u : Nat} (hu : u ≤ 120) (h1 : O 1 = nI u) (hp : pgI u (P 2) (P 4) (P 5) (P 6)) {l : Nat} (hl : l ≤ 20) (hO : O 9 = nI l) (x n : Int32) : zK 86 zX6_words [.ref 0, .int x, .int n] (wX O P Y g) (fun r w' => ∃ (O' : Nat → Int32) (P' : Nat → Nat → Int32) (R : Int32), r = some (.int R) ∧ w' = wX O' P' Y g ∧ spT O P O' P') := by
  refine zK_of qX6_words (by decide +kernel) rfl ?_
  iterate 1 (refine zv_step (bX6_words 86) rfl rfl trivial ?_)
  refine zv_S1 (bX6_words 86) rfl rfl rfl rfl ⟨rfl, rfl, rfl⟩ ⟨by decide, by decide⟩ ⟨Nat.zero_le _, Nat.zero_le _⟩ (hX6_isStyle _ _) ?_
  rintro _ _ ⟨rfl, ⟨hx, rfl⟩ | ⟨hx, rfl⟩⟩
  · iterate 1 (refine zv_step (bX6_words 86) rfl rfl trivial ?_)
    refine zv_iff (by decide) ?_
    iterate 3 (refine zv_step (bX6_words 86) rfl rfl trivial ?_)
    refine zv_V1 (bX6_words 86) rfl rfl rfl rfl rfl rfl rfl ⟨rfl, rfl, rfl⟩ ⟨by decide, by decide⟩ ⟨Nat.zero_le _, Nat.zero_le _⟩ (pHas1 O P Y g _) ?_
    rintro _ _ ⟨rfl, ⟨hh, rfl⟩ | ⟨hh, rfl⟩⟩
    · iterate 1 (refine zv_step (bX6_words 86) rfl rfl trivial ?_)
      refine zv_ift (by decide) ?_
      obtain ⟨j, hj, rfl⟩ := has_j hu h1 hh
      iterate 8 (refine zv_step (bX6_words 86) rfl rfl trivial ?_)
      refine zv_step (bX6_words 86) rfl rfl (vp_in_iff.mpr ⟨hx.1, Int.lt_of_le_of_lt hx.2 (by decide)⟩) ?_
      iterate 1 (refine zv_step (bX6_words 86) rfl rfl trivial ?_)
      refine zv_V4 (bX6_words 86) rfl rfl rfl rfl rfl rfl rfl ⟨rfl, rfl, rfl⟩ ⟨by decide, by decide⟩ ⟨Nat.zero_le _, Nat.zero_le _⟩ (sStyle27 O P Y g hu h1 hp hj (f := 41) (by decide) rfl) ?_
      rintro _ _ ⟨rfl, rfl⟩
      have hln : (tlW (O 1) (P 75 x.toNatClampNeg) (Int32.ofInt 0) P 41 (nI j) (hbW (P 75 x.toNatClampNeg) (P 2 j))).length ≤ 6 * szq (P 6) (nI j) := by rw [h1]; exact tlW_len hu hp 41 _ _
      have hsz := szq_le hp hj hu
      generalize (tlW (O 1) (P 75 x.toNatClampNeg) (Int32.ofInt 0) P 41 (nI j) (hbW (P 75 x.toNatClampNeg) (P 2 j))) = ws at hln ⊢
      iterate 2 (refine zv_step (bX6_words 86) rfl rfl trivial ?_)
      refine zv_V0 (bX6_words 86) rfl rfl rfl rfl rfl rfl rfl ⟨rfl, rfl, rfl⟩ ⟨by decide, by decide⟩ ⟨Nat.zero_le _, Nat.zero_le _⟩ (sLong27 _ _ _ _) ?_
      rintro _ _ ⟨rfl, ⟨hg, rfl⟩ | ⟨hg, rfl⟩⟩
      · iterate 1 (refine zv_step (bX6_words 86) rfl rfl trivial ?_)
        refine zv_iff (by decide) ?_
        iterate 2 (refine zv_step (bX6_words 86) rfl rfl trivial ?_)
        exact zv_iret (bX6_words 86) rfl (Or.inl rfl) (Nat.zero_le _) (Nat.zero_le _) ⟨_, _, _, rfl, rfl, spT_say _ _ _ _⟩
      · iterate 1 (refine zv_step (bX6_words 86) rfl rfl trivial ?_)
        refine zv_ift (by decide) ?_
        iterate 3 (refine zv_step (bX6_words 86) rfl rfl trivial ?_)
        exact zv_iret (bX6_words 86) rfl (Or.inl rfl) (Nat.zero_le _) (Nat.zero_le _) ⟨_, _, _, rfl, rfl, spT_say _ _ _ _⟩
    · iterate 1 (refine zv_step (bX6_words 86) rfl rfl trivial ?_)
      refine zv_iff (by decide) ?_
      iterate 1 (refine zv_step (bX6_words 86) rfl rfl trivial ?_)
      exact zv_iret (bX6_words 86) rfl (Or.inl rfl) (Nat.zero_le _) (Nat.zero_le _) ⟨O, P, _, rfl, rfl, fun _ _ => rfl, fun _ _ _ => rfl⟩
  · iterate 1 (refine zv_step (bX6_words 86) rfl rfl trivial ?_)
    refine zv_ift (by decide) ?_
    iterate 1 (refine zv_step (bX6_words 86) rfl rfl trivial ?_)
    exact zv_iret (bX6_words 86) rfl (Or.inl rfl) (Nat.zero_le _) (Nat.zero_le _) ⟨O, P, _, rfl, rfl, fun _ _ => rfl, fun _ _ _ => rfl⟩
set_option maxHeartbeats 1000000 in
set_option maxRecDepth 20000 in
theorem cWordT (O : Nat → Int32) (P : Nat → Nat → Int32) (Y : Nat → Nat → Int64) (g : Nat → zC) {u : Nat} (hu : u ≤ 120) (h1 : O 1 = nI u) (hp : pgI u (P 2) (P 4) (P 5) (P 6)) {l : Nat} (hl : l ≤ 20) (hO : O 9 = nI l) (x n k : Int32) : zK 86 zX6_word [.ref 0, .int x, .int n, .int k] (wX O P Y g) (fun r w' => ∃ (O' : Nat → Int32) (P' : Nat → Nat → Int32) (R : Int32), r = some (.int R) ∧ w' = wX O' P' Y g ∧ spT O P O' P') := by
  refine zK_of qX6_word (by decide +kernel) rfl ?_
  iterate 1 (refine zv_step (bX6_word 86) rfl rfl trivial ?_)
  refine zv_S1 (bX6_word 86) rfl rfl rfl rfl ⟨rfl, rfl, rfl⟩ ⟨by decide, by decide⟩ ⟨Nat.zero_le _, Nat.zero_le _⟩ (hX6_isStyle _ _) ?_
  rintro _ _ ⟨rfl, ⟨hx, rfl⟩ | ⟨hx, rfl⟩⟩
  · iterate 1 (refine zv_step (bX6_word 86) rfl rfl trivial ?_)
    refine zv_iff (by decide) ?_
    iterate 3 (refine zv_step (bX6_word 86) rfl rfl trivial ?_)
    refine zv_V1 (bX6_word 86) rfl rfl rfl rfl rfl rfl rfl ⟨rfl, rfl, rfl⟩ ⟨by decide, by decide⟩ ⟨Nat.zero_le _, Nat.zero_le _⟩ (pHas1 O P Y g _) ?_
    rintro _ _ ⟨rfl, ⟨hh, rfl⟩ | ⟨hh, rfl⟩⟩
    · iterate 1 (refine zv_step (bX6_word 86) rfl rfl trivial ?_)
      refine zv_iff (by decide) ?_
      iterate 2 (refine zv_step (bX6_word 86) rfl rfl trivial ?_)
      refine zv_ifb (fun h3 => ?_) (fun h3 => ?_)
      · obtain ⟨j, hj, rfl⟩ := has_j hu h1 hh
        iterate 8 (refine zv_step (bX6_word 86) rfl rfl trivial ?_)
        refine zv_step (bX6_word 86) rfl rfl (vp_in_iff.mpr ⟨hx.1, Int.lt_of_le_of_lt hx.2 (by decide)⟩) ?_
        iterate 1 (refine zv_step (bX6_word 86) rfl rfl trivial ?_)
        refine zv_V4 (bX6_word 86) rfl rfl rfl rfl rfl rfl rfl ⟨rfl, rfl, rfl⟩ ⟨by decide, by decide⟩ ⟨Nat.zero_le _, Nat.zero_le _⟩ (sStyle27 O P Y g hu h1 hp hj (f := 41) (by decide) rfl) ?_
        rintro _ _ ⟨rfl, rfl⟩
        have hln : (tlW (O 1) (P 75 x.toNatClampNeg) (Int32.ofInt 0) P 41 (nI j) (hbW (P 75 x.toNatClampNeg) (P 2 j))).length ≤ 6 * szq (P 6) (nI j) := by rw [h1]; exact tlW_len hu hp 41 _ _
        have hsz := szq_le hp hj hu
        generalize (tlW (O 1) (P 75 x.toNatClampNeg) (Int32.ofInt 0) P 41 (nI j) (hbW (P 75 x.toNatClampNeg) (P 2 j))) = ws at hln ⊢
        iterate 5 (refine zv_step (bX6_word 86) rfl rfl trivial ?_)
        refine zv_ifb (fun h4 => ?_) (fun h4 => ?_)
        · iterate 2 (refine zv_step (bX6_word 86) rfl rfl trivial ?_)
          refine zv_V0 (bX6_word 86) rfl rfl rfl rfl rfl rfl rfl ⟨rfl, rfl, rfl⟩ ⟨by decide, by decide⟩ ⟨Nat.zero_le _, Nat.zero_le _⟩ (sLong27 _ _ _ _) ?_
          rintro _ _ ⟨rfl, ⟨hg, rfl⟩ | ⟨hg, rfl⟩⟩
          · iterate 1 (refine zv_step (bX6_word 86) rfl rfl trivial ?_)
            refine zv_iff (by decide) ?_
            iterate 2 (refine zv_step (bX6_word 86) rfl rfl trivial ?_)
            exact zv_iret (bX6_word 86) rfl (Or.inl rfl) (Nat.zero_le _) (Nat.zero_le _) ⟨_, _, _, rfl, rfl, spT_say _ _ _ _⟩
          · iterate 1 (refine zv_step (bX6_word 86) rfl rfl trivial ?_)
            refine zv_ift (by decide) ?_
            iterate 4 (refine zv_step (bX6_word 86) rfl rfl trivial ?_)
            refine zv_step (bX6_word 86) rfl rfl (vp_in_iff.mpr ⟨by have h5 := Int32.le_iff_toInt_le.mp h3; rw [Int32.toInt_zero] at h5; exact h5, Int.lt_of_lt_of_le (Int32.lt_iff_toInt_lt.mp h4) (Int.not_lt.mp hg)⟩) ?_
            exact zv_iret (bX6_word 86) rfl (Or.inl rfl) (Nat.zero_le _) (Nat.zero_le _) ⟨_, _, _, rfl, rfl, spT_say _ _ _ _⟩
        · iterate 1 (refine zv_step (bX6_word 86) rfl rfl trivial ?_)
          exact zv_iret (bX6_word 86) rfl (Or.inl rfl) (Nat.zero_le _) (Nat.zero_le _) ⟨_, _, _, rfl, rfl, spT_say _ _ _ _⟩
      · iterate 1 (refine zv_step (bX6_word 86) rfl rfl trivial ?_)
        exact zv_iret (bX6_word 86) rfl (Or.inl rfl) (Nat.zero_le _) (Nat.zero_le _) ⟨O, P, _, rfl, rfl, fun _ _ => rfl, fun _ _ _ => rfl⟩
    · iterate 1 (refine zv_step (bX6_word 86) rfl rfl trivial ?_)
      refine zv_ift (by decide) ?_
      iterate 1 (refine zv_step (bX6_word 86) rfl rfl trivial ?_)
      exact zv_iret (bX6_word 86) rfl (Or.inl rfl) (Nat.zero_le _) (Nat.zero_le _) ⟨O, P, _, rfl, rfl, fun _ _ => rfl, fun _ _ _ => rfl⟩
  · iterate 1 (refine zv_step (bX6_word 86) rfl rfl trivial ?_)
    refine zv_ift (by decide) ?_
    iterate 1 (refine zv_step (bX6_word 86) rfl rfl trivial ?_)
    exact zv_iret (bX6_word 86) rfl (Or.inl rfl) (Nat.zero_le _) (Nat.zero_le _) ⟨O, P, _, rfl, rfl, fun _ _ => rfl, fun _ _ _ => rfl⟩
set_option maxHeartbeats 1000000 in
set_option maxRecDepth 20000 in
theorem cSoundT (O : Nat → Int32) (P : Nat → Nat → Int32) (Y : Nat → Nat → Int64) (g : Nat → zC) {u : Nat} (hu : u ≤ 120) (h1 : O 1 = nI u) (hp : pgI u (P 2) (P 4) (P 5) (P 6)) {l : Nat} (hl : l ≤ 20) (hO : O 9 = nI l) (x n m : Int32) : zK 86 zX6_sound [.ref 0, .int x, .int n, .int m] (wX O P Y g) (fun r w' => ∃ (O' : Nat → Int32) (P' : Nat → Nat → Int32) (R : Int32), r = some (.int R) ∧ w' = wX O' P' Y g ∧ spT O P O' P') := by
  refine zK_of qX6_sound (by decide +kernel) rfl ?_
  iterate 1 (refine zv_step (bX6_sound 86) rfl rfl trivial ?_)
  refine zv_S1 (bX6_sound 86) rfl rfl rfl rfl ⟨rfl, rfl, rfl⟩ ⟨by decide, by decide⟩ ⟨Nat.zero_le _, Nat.zero_le _⟩ (hX6_isStyle _ _) ?_
  rintro _ _ ⟨rfl, ⟨hx, rfl⟩ | ⟨hx, rfl⟩⟩
  · iterate 1 (refine zv_step (bX6_sound 86) rfl rfl trivial ?_)
    refine zv_iff (by decide) ?_
    iterate 3 (refine zv_step (bX6_sound 86) rfl rfl trivial ?_)
    refine zv_V1 (bX6_sound 86) rfl rfl rfl rfl rfl rfl rfl ⟨rfl, rfl, rfl⟩ ⟨by decide, by decide⟩ ⟨Nat.zero_le _, Nat.zero_le _⟩ (pHas1 O P Y g _) ?_
    rintro _ _ ⟨rfl, ⟨hh, rfl⟩ | ⟨hh, rfl⟩⟩
    · iterate 1 (refine zv_step (bX6_sound 86) rfl rfl trivial ?_)
      refine zv_iff (by decide) ?_
      iterate 3 (refine zv_step (bX6_sound 86) rfl rfl trivial ?_)
      refine zv_V1 (bX6_sound 86) rfl rfl rfl rfl rfl rfl rfl ⟨rfl, rfl, rfl⟩ ⟨by decide, by decide⟩ ⟨Nat.zero_le _, Nat.zero_le _⟩ (pHas1 O P Y g _) ?_
      rintro _ _ ⟨rfl, ⟨hm, rfl⟩ | ⟨hm, rfl⟩⟩
      · iterate 1 (refine zv_step (bX6_sound 86) rfl rfl trivial ?_)
        refine zv_ift (by decide) ?_
        obtain ⟨j, hj, rfl⟩ := has_j hu h1 hh
        obtain ⟨i, hi, rfl⟩ := has_j hu h1 hm
        iterate 8 (refine zv_step (bX6_sound 86) rfl rfl trivial ?_)
        refine zv_step (bX6_sound 86) rfl rfl (vp_in_iff.mpr ⟨hx.1, Int.lt_of_le_of_lt hx.2 (by decide)⟩) ?_
        iterate 1 (refine zv_step (bX6_sound 86) rfl rfl trivial ?_)
        refine zv_V4 (bX6_sound 86) rfl rfl rfl rfl rfl rfl rfl ⟨rfl, rfl, rfl⟩ ⟨by decide, by decide⟩ ⟨Nat.zero_le _, Nat.zero_le _⟩ (sStyle27 O P Y g hu h1 hp hj (f := 41) (by decide) rfl) ?_
        rintro _ _ ⟨rfl, rfl⟩
        have hln : (tlW (O 1) (P 75 x.toNatClampNeg) (Int32.ofInt 0) P 41 (nI j) (hbW (P 75 x.toNatClampNeg) (P 2 j))).length ≤ 6 * szq (P 6) (nI j) := by rw [h1]; exact tlW_len hu hp 41 _ _
        have hsz := szq_le hp hj hu
        generalize (tlW (O 1) (P 75 x.toNatClampNeg) (Int32.ofInt 0) P 41 (nI j) (hbW (P 75 x.toNatClampNeg) (P 2 j))) = ws at hln ⊢
        iterate 8 (refine zv_step (bX6_sound 86) rfl rfl trivial ?_)
        refine zv_step (bX6_sound 86) rfl rfl (vp_in_iff.mpr ⟨hx.1, Int.lt_of_le_of_lt hx.2 (by decide)⟩) ?_
        iterate 1 (refine zv_step (bX6_sound 86) rfl rfl trivial ?_)
        refine zv_V4 (bX6_sound 86) rfl rfl rfl rfl rfl rfl rfl ⟨rfl, rfl, rfl⟩ ⟨by decide, by decide⟩ ⟨Nat.zero_le _, Nat.zero_le _⟩ (sStyle29 (upd (upd (upd O 4 (P 75 x.toNatClampNeg)) 5 (Int32.ofInt 0)) 3 (nI ws.length)) (updA P 28 (ap8 (P 28) 0 ws)) Y g hu h1 hp hi (f := 41) (by decide) rfl) ?_
        rintro _ _ ⟨rfl, rfl⟩
        iterate 2 (refine zv_step (bX6_sound 86) rfl rfl trivial ?_)
        refine zv_V0 (bX6_sound 86) rfl rfl rfl rfl rfl rfl rfl ⟨rfl, rfl, rfl⟩ ⟨by decide, by decide⟩ ⟨Nat.zero_le _, Nat.zero_le _⟩ (sLong27 _ _ _ _) ?_
        rintro _ _ ⟨rfl, ⟨hg, rfl⟩ | ⟨hg, rfl⟩⟩
        · iterate 1 (refine zv_step (bX6_sound 86) rfl rfl trivial ?_)
          refine zv_ift (by decide) ?_
          iterate 1 (refine zv_step (bX6_sound 86) rfl rfl trivial ?_)
          exact zv_iret (bX6_sound 86) rfl (Or.inl rfl) (Nat.zero_le _) (Nat.zero_le _) ⟨_, _, _, rfl, rfl, spT_two _ _ _ _ _ _ _ _⟩
        · iterate 1 (refine zv_step (bX6_sound 86) rfl rfl trivial ?_)
          refine zv_iff (by decide) ?_
          iterate 2 (refine zv_step (bX6_sound 86) rfl rfl trivial ?_)
          refine zv_V0 (bX6_sound 86) rfl rfl rfl rfl rfl rfl rfl ⟨rfl, rfl, rfl⟩ ⟨by decide, by decide⟩ ⟨Nat.zero_le _, Nat.zero_le _⟩ (sLong29 _ _ _ _) ?_
          rintro _ _ ⟨rfl, ⟨hk, rfl⟩ | ⟨hk, rfl⟩⟩
          · iterate 1 (refine zv_step (bX6_sound 86) rfl rfl trivial ?_)
            refine zv_iff (by decide) ?_
            iterate 1 (refine zv_step (bX6_sound 86) rfl rfl trivial ?_)
            exact zv_iret (bX6_sound 86) rfl (Or.inl rfl) (Nat.zero_le _) (Nat.zero_le _) ⟨_, _, _, rfl, rfl, spT_two _ _ _ _ _ _ _ _⟩
          · iterate 1 (refine zv_step (bX6_sound 86) rfl rfl trivial ?_)
            refine zv_ift (by decide) ?_
            iterate 4 (refine zv_step (bX6_sound 86) rfl rfl trivial ?_)
            refine zv_V1 (bX6_sound 86) rfl rfl rfl rfl rfl rfl rfl ⟨rfl, rfl, rfl⟩ ⟨by decide, by decide⟩ ⟨Nat.zero_le _, Nat.zero_le _⟩ (sSame _ _ _ _ (q := ws.length) (by omega) rfl) ?_
            rintro _ _ ⟨rfl, rfl | rfl⟩
            · iterate 1 (refine zv_step (bX6_sound 86) rfl rfl trivial ?_)
              refine zv_iff (by decide) ?_
              iterate 2 (refine zv_step (bX6_sound 86) rfl rfl trivial ?_)
              exact zv_iret (bX6_sound 86) rfl (Or.inl rfl) (Nat.zero_le _) (Nat.zero_le _) ⟨_, _, _, rfl, rfl, spT_two _ _ _ _ _ _ _ _⟩
            · iterate 1 (refine zv_step (bX6_sound 86) rfl rfl trivial ?_)
              refine zv_ift (by decide) ?_
              iterate 1 (refine zv_step (bX6_sound 86) rfl rfl trivial ?_)
              exact zv_iret (bX6_sound 86) rfl (Or.inl rfl) (Nat.zero_le _) (Nat.zero_le _) ⟨_, _, _, rfl, rfl, spT_two _ _ _ _ _ _ _ _⟩
      · iterate 1 (refine zv_step (bX6_sound 86) rfl rfl trivial ?_)
        refine zv_iff (by decide) ?_
        iterate 1 (refine zv_step (bX6_sound 86) rfl rfl trivial ?_)
        exact zv_iret (bX6_sound 86) rfl (Or.inl rfl) (Nat.zero_le _) (Nat.zero_le _) ⟨O, P, _, rfl, rfl, fun _ _ => rfl, fun _ _ _ => rfl⟩
    · iterate 1 (refine zv_step (bX6_sound 86) rfl rfl trivial ?_)
      refine zv_ift (by decide) ?_
      iterate 1 (refine zv_step (bX6_sound 86) rfl rfl trivial ?_)
      exact zv_iret (bX6_sound 86) rfl (Or.inl rfl) (Nat.zero_le _) (Nat.zero_le _) ⟨O, P, _, rfl, rfl, fun _ _ => rfl, fun _ _ _ => rfl⟩
  · iterate 1 (refine zv_step (bX6_sound 86) rfl rfl trivial ?_)
    refine zv_ift (by decide) ?_
    iterate 1 (refine zv_step (bX6_sound 86) rfl rfl trivial ?_)
    exact zv_iret (bX6_sound 86) rfl (Or.inl rfl) (Nat.zero_le _) (Nat.zero_le _) ⟨O, P, _, rfl, rfl, fun _ _ => rfl, fun _ _ _ => rfl⟩

set_option maxHeartbeats 1000000 in
set_option maxRecDepth 20000 in
theorem cGlanceT (O : Nat → Int32) (P : Nat → Nat → Int32) (Y : Nat → Nat → Int64) (g : Nat → zC) {u : Nat} (hu : u ≤ 120) (h1 : O 1 = nI u) (hp : pgI u (P 2) (P 4) (P 5) (P 6)) {l : Nat} (hl : l ≤ 20) (hO : O 9 = nI l) {dd : Nat} (hd : dd < 40) (hO14 : O 14 = nI dd) (hb : O 13 = 0 ∨ O 13 = 1) (hr : O 13 = 1 → ∃ t, t < u ∧ rtN t dd (P 56)) (x n : Int32) : zK 30 zX6_glance [.ref 0, .int x, .int n] (wX O P Y g) (fun r w' => ∃ (O' : Nat → Int32) (P' : Nat → Nat → Int32) (R : Int32), r = some (.int R) ∧ w' = wX O' P' Y g ∧ spT O P O' P') := by
  refine zK_of qX6_glance (by decide +kernel) rfl ?_
  iterate 1 (refine zv_step (bX6_glance 30) rfl rfl trivial ?_)
  refine zv_S1 (bX6_glance 30) rfl rfl rfl rfl ⟨rfl, rfl, rfl⟩ ⟨by decide, by decide⟩ ⟨Nat.zero_le _, Nat.zero_le _⟩ (hX6_isStyle _ _) ?_
  rintro _ _ ⟨rfl, ⟨hx, rfl⟩ | ⟨hx, rfl⟩⟩
  · skip
    iterate 1 (refine zv_step (bX6_glance 30) rfl rfl trivial ?_)
    refine zv_iff (by decide) ?_
    iterate 2 (refine zv_step (bX6_glance 30) rfl rfl trivial ?_)
    refine zv_ifb (fun h8 => ?_) (fun h8 => ?_)
    · iterate 1 (refine zv_step (bX6_glance 30) rfl rfl trivial ?_)
      exact zv_iret (bX6_glance 30) rfl (Or.inl rfl) (Nat.zero_le _) (Nat.zero_le _) ⟨O, P, _, rfl, rfl, fun _ _ => rfl, fun _ _ _ => rfl⟩
    · iterate 3 (refine zv_step (bX6_glance 30) rfl rfl trivial ?_)
      refine zv_ifb (fun h14 => ?_) (fun h14 => ?_)
      · obtain ⟨m, hm, rfl⟩ : ∃ m : Nat, m ≤ 9 ∧ n = nI m := by
          have a1 : ¬ n < 0 := h8
          have a2 : n ≤ c8 9 := h14
          rw [Int32.lt_iff_toInt_lt, Int32.toInt_zero] at a1
          rw [show c8 9 = nI 9 from rfl, Int32.le_iff_toInt_le, nI_toInt (by decide)] at a2
          refine ⟨n.toInt.toNat, by omega, ?_⟩
          rw [← Int32.toInt_inj, nI_toInt (by omega)]
          omega
        iterate 2 (refine zv_step (bX6_glance 30) rfl rfl trivial ?_)
        refine zv_V0 (bX6_glance 30) rfl rfl rfl rfl rfl rfl rfl ⟨rfl, rfl, rfl⟩ ⟨by decide, by decide⟩ ⟨Nat.zero_le _, Nat.zero_le _⟩ (wBegun O P Y g hb) ?_
        rintro _ _ ⟨rfl, rfl⟩
        iterate 1 (refine zv_step (bX6_glance 30) rfl rfl trivial ?_)
        refine zv_ifb (fun h26 => ?_) (fun h26 => ?_)
        · obtain ⟨t, ht, hrt⟩ := hr (hb.resolve_left h26)
          obtain ⟨j, hjt, ej⟩ := hrt.2 dd (Nat.le_refl _)
          have hj : j < u := by omega
          iterate 6 (refine zv_step (bX6_glance 30) rfl rfl trivial ?_)
          refine zv_V0 (bX6_glance 30) rfl rfl rfl rfl rfl rfl rfl ⟨rfl, rfl, rfl⟩ ⟨by decide, by decide⟩ ⟨Nat.zero_le _, Nat.zero_le _⟩ (wHereX O P Y g hd hO14 ej) ?_
          rintro _ _ ⟨rfl, rfl⟩
          iterate 3 (refine zv_step (bX6_glance 30) rfl rfl trivial ?_)
          refine zv_step (bX6_glance 30) rfl rfl (vp_in_iff.mpr ⟨hx.1, Int.lt_of_le_of_lt hx.2 (by decide)⟩) ?_
          iterate 1 (refine zv_step (bX6_glance 30) rfl rfl trivial ?_)
          refine zv_V4 (bX6_glance 30) rfl rfl rfl rfl rfl rfl rfl ⟨rfl, rfl, rfl⟩ ⟨by show 2 * (m + 1) + 3 + 1 ≤ 30; omega, by show 8 + (5 + 11) + 64 * (2 * (m + 1) + 3) ≤ 64 * (30); omega⟩ ⟨Nat.zero_le _, Nat.zero_le _⟩ (sStyle27 O P Y g hu h1 hp hj (f := m + 1) (by omega) (sub_1 (b := m + 1) (by omega)).symm) ?_
          rintro _ _ ⟨rfl, rfl⟩
          generalize (tlW (O 1) (P 75 x.toNatClampNeg) (Int32.ofInt 0) P (m + 1) (nI j) (hbW (P 75 x.toNatClampNeg) (P 2 j))) = ws
          iterate 2 (refine zv_step (bX6_glance 30) rfl rfl trivial ?_)
          refine zv_V0 (bX6_glance 30) rfl rfl rfl rfl rfl rfl rfl ⟨rfl, rfl, rfl⟩ ⟨by decide, by decide⟩ ⟨Nat.zero_le _, Nat.zero_le _⟩ (sLong27 _ _ _ _) ?_
          rintro _ _ ⟨rfl, ⟨hg, rfl⟩ | ⟨hg, rfl⟩⟩
          · skip
            iterate 1 (refine zv_step (bX6_glance 30) rfl rfl trivial ?_)
            refine zv_iff (by decide) ?_
            iterate 2 (refine zv_step (bX6_glance 30) rfl rfl trivial ?_)
            exact zv_iret (bX6_glance 30) rfl (Or.inl rfl) (Nat.zero_le _) (Nat.zero_le _) ⟨_, _, _, rfl, rfl, spT_say _ _ _ _⟩
          · skip
            iterate 1 (refine zv_step (bX6_glance 30) rfl rfl trivial ?_)
            refine zv_ift (by decide) ?_
            iterate 3 (refine zv_step (bX6_glance 30) rfl rfl trivial ?_)
            exact zv_iret (bX6_glance 30) rfl (Or.inl rfl) (Nat.zero_le _) (Nat.zero_le _) ⟨_, _, _, rfl, rfl, spT_say _ _ _ _⟩
        · iterate 1 (refine zv_step (bX6_glance 30) rfl rfl trivial ?_)
          exact zv_iret (bX6_glance 30) rfl (Or.inl rfl) (Nat.zero_le _) (Nat.zero_le _) ⟨O, P, _, rfl, rfl, fun _ _ => rfl, fun _ _ _ => rfl⟩
      · iterate 1 (refine zv_step (bX6_glance 30) rfl rfl trivial ?_)
        exact zv_iret (bX6_glance 30) rfl (Or.inl rfl) (Nat.zero_le _) (Nat.zero_le _) ⟨O, P, _, rfl, rfl, fun _ _ => rfl, fun _ _ _ => rfl⟩
  · skip
    iterate 1 (refine zv_step (bX6_glance 30) rfl rfl trivial ?_)
    refine zv_ift (by decide) ?_
    iterate 1 (refine zv_step (bX6_glance 30) rfl rfl trivial ?_)
    exact zv_iret (bX6_glance 30) rfl (Or.inl rfl) (Nat.zero_le _) (Nat.zero_le _) ⟨O, P, _, rfl, rfl, fun _ _ => rfl, fun _ _ _ => rfl⟩
/-- but for the ways and their KINDS, all is as it was -/
def cFr (O : Nat → Int32) (P : Nat → Nat → Int32) (O' : Nat → Int32) (P' : Nat → Nat → Int32) : Prop := P' = P ∧ ∀ j, j ≠ 10 → j ≠ 11 → j ≠ 12 → O' j = O j
theorem cFr_refl (O : Nat → Int32) (P : Nat → Nat → Int32) : cFr O P O P := ⟨rfl, fun _ _ _ _ => rfl⟩
abbrev tQLF (O : Nat → Int32) (P : Nat → Nat → Int32) (Y : Nat → Nat → Int64) (o : Nat → Int32) (A : Nat → Nat → Int32) (J : Nat → Nat → Int64) : Option Value → zW → Prop := fun r w' => ∃ (O' : Nat → Int32) (P' : Nat → Nat → Int32) (Y' : Nat → Nat → Int64) (v : Int64), r = some (.long v) ∧ w' = wX O' P' Y' (gR o A J) ∧ (cInv O' P' Y' ∧ cFr O P O' P')
abbrev tQIF (O : Nat → Int32) (P : Nat → Nat → Int32) (Y : Nat → Nat → Int64) (o : Nat → Int32) (A : Nat → Nat → Int32) (J : Nat → Nat → Int64) : Option Value → zW → Prop := fun r w' => ∃ v : Int32, r = some (.int v) ∧ w' = (wX O P Y (gR o A J))
abbrev tXAF (O : Nat → Int32) (P : Nat → Nat → Int32) (Y : Nat → Nat → Int64) (o : Nat → Int32) (A : Nat → Nat → Int32) (J : Nat → Nat → Int64) : String → zW → Prop := fun E w' => E = "java/lang/IllegalArgumentException" ∧ w' = (wX O P Y (gR o A J))
abbrev tXSF (O : Nat → Int32) (P : Nat → Nat → Int32) (Y : Nat → Nat → Int64) (o : Nat → Int32) (A : Nat → Nat → Int32) (J : Nat → Nat → Int64) : String → zW → Prop := fun E w' => E = "java/lang/IllegalStateException" ∧ w' = (wX O P Y (gR o A J))
abbrev tXEF (O : Nat → Int32) (P : Nat → Nat → Int32) (Y : Nat → Nat → Int64) (o : Nat → Int32) (A : Nat → Nat → Int32) (J : Nat → Nat → Int64) : String → zW → Prop := fun E w' => (E = "java/lang/IllegalArgumentException" ∨ E = "java/lang/IllegalStateException") ∧ w' = (wX O P Y (gR o A J))
theorem bxRF (O : Nat → Int32) (P : Nat → Nat → Int32) (Y : Nat → Nat → Int64) (o : Nat → Int32) (A : Nat → Nat → Int32) (J : Nat → Nat → Int64) (n : Nat) : zTb (zMx 7 zX6_readings (tXAF O P Y o A J) (tQLF O P Y o A J) n) tX6_readings := ⟨fRX6, gRX6, oX6_readings⟩
theorem bxWF (O : Nat → Int32) (P : Nat → Nat → Int32) (Y : Nat → Nat → Int64) (o : Nat → Int32) (A : Nat → Nat → Int32) (J : Nat → Nat → Int64) (n : Nat) : zTb (zMx 7 zX6_where (tXSF O P Y o A J) (tQIF O P Y o A J) n) tX6_where := ⟨fRX6, gRX6, oX6_where⟩
theorem bxEF (O : Nat → Int32) (P : Nat → Nat → Int32) (Y : Nat → Nat → Int64) (o : Nat → Int32) (A : Nat → Nat → Int32) (J : Nat → Nat → Int64) (n : Nat) : zTb (zMx 7 zX6_element (tXEF O P Y o A J) (tQLF O P Y o A J) n) tX6_element := ⟨fRX6, gRX6, oX6_element⟩
set_option maxHeartbeats 1000000 in
set_option maxRecDepth 20000 in
theorem tReadingsF (O : Nat → Int32) (P : Nat → Nat → Int32) (Y : Nat → Nat → Int64) (o : Nat → Int32) (A : Nat → Nat → Int32) (J : Nat → Nat → Int64) {u l d : Nat} (hI : cI u l d O P Y) (x : Int32) : zKt 7 zX6_readings [.ref 0, .int x] (wX O P Y (gR o A J)) (tQLF O P Y o A J) (tXAF O P Y o A J) := by
  refine zKt_of (by decide +kernel) rfl ?_
  iterate 1 (refine zv_step (bxRF O P Y o A J _) rfl rfl trivial ?_)
  refine zv_S1 (bxRF O P Y o A J _) rfl rfl rfl rfl ⟨rfl, rfl, rfl⟩ ⟨Nat.le_of_ble_eq_true rfl, Nat.le_of_ble_eq_true rfl⟩ ⟨Nat.zero_le _, Nat.zero_le _⟩ (hX6_isStyleOrFree _ _) ?_
  rintro _ _ ⟨rfl, ⟨hh, rfl⟩ | ⟨hh, rfl⟩⟩
  · skip
    iterate 1 (refine zv_step (bxRF O P Y o A J _) rfl rfl trivial ?_)
    refine zv_ift (by decide) ?_
    iterate 2 (refine zv_step (bxRF O P Y o A J _) rfl rfl trivial ?_)
    refine zv_V1 (bxRF O P Y o A J _) rfl rfl rfl rfl rfl rfl rfl ⟨rfl, rfl, rfl⟩ ⟨Nat.le_of_ble_eq_true rfl, Nat.le_of_ble_eq_true rfl⟩ ⟨Nat.zero_le _, Nat.zero_le _⟩ (cTallyIn O P Y (gR o A J) hI.2.2.2.1 hI.2.2.2.2.1 hh) ?_
    rintro _ _ ⟨a, b, Y', v, rfl, rfl, hY⟩
    exact zv_lret (bxRF O P Y o A J _) rfl rfl (Nat.zero_le _) (Nat.zero_le _) ⟨_, P, Y', v, rfl, rfl, (cI_ty hI hY (fun j a b c => by rw [upd_ne _ _ c, upd_ne _ _ b, upd_ne _ _ a])).1, rfl, (fun j a b c => by rw [upd_ne _ _ c, upd_ne _ _ b, upd_ne _ _ a])⟩
  · skip
    iterate 1 (refine zv_step (bxRF O P Y o A J _) rfl rfl trivial ?_)
    refine zv_iff (by decide) ?_
    exact zv_throwS (text := "no such style") (names := ["java/lang/RuntimeException", "java/lang/Exception"]) (by decide +kernel) (by decide +kernel) (by decide +kernel) (by decide +kernel) (by decide +kernel) fIAE kIAE aIAE gIAE (fun A U H h => ⟨h.2.2.1, h.2.2.2.2.2.2.2.1⟩) ⟨by decide, by decide⟩ ⟨rfl, rfl⟩
set_option maxHeartbeats 1000000 in
set_option maxRecDepth 20000 in
theorem tWhereF (O : Nat → Int32) (P : Nat → Nat → Int32) (Y : Nat → Nat → Int64) (o : Nat → Int32) (A : Nat → Nat → Int32) (J : Nat → Nat → Int64) {u l d : Nat} (hI : cI u l d O P Y) (x : Int32) : zKt 7 zX6_where [.ref 0, .int x] (wX O P Y (gR o A J)) (tQIF O P Y o A J) (tXSF O P Y o A J) := by
  refine zKt_of (by decide +kernel) rfl ?_
  iterate 2 (refine zv_step (bxWF O P Y o A J _) rfl rfl trivial ?_)
  refine zv_ifb (fun h1 => ?_) (fun h1 => ?_)
  · iterate 1 (refine zv_step (bxWF O P Y o A J _) rfl rfl trivial ?_)
    exact zv_iret (bxWF O P Y o A J _) rfl (Or.inl rfl) (Nat.zero_le _) (Nat.zero_le _) ⟨_, rfl, rfl⟩
  · iterate 3 (refine zv_step (bxWF O P Y o A J _) rfl rfl trivial ?_)
    refine zv_ifb (fun h6 => ?_) (fun h6 => ?_)
    · iterate 2 (refine zv_step (bxWF O P Y o A J _) rfl rfl trivial ?_)
      refine zv_V0 (bxWF O P Y o A J _) rfl rfl rfl rfl rfl rfl rfl ⟨rfl, rfl, rfl⟩ ⟨Nat.le_of_ble_eq_true rfl, Nat.le_of_ble_eq_true rfl⟩ ⟨Nat.zero_le _, Nat.zero_le _⟩ (wBegun O P Y (gR o A J) hI.2.2.2.2.2.2.2.2.1) ?_
      rintro _ _ ⟨rfl, rfl⟩
      iterate 1 (refine zv_step (bxWF O P Y o A J _) rfl rfl trivial ?_)
      refine zv_ifb (fun h18 => ?_) (fun h18 => ?_)
      · iterate 3 (refine zv_step (bxWF O P Y o A J _) rfl rfl trivial ?_)
        refine zv_ifb (fun h26 => ?_) (fun h26 => ?_)
        · iterate 3 (refine zv_step (bxWF O P Y o A J _) rfl rfl trivial ?_)
          refine zv_ifb (fun h39 => ?_) (fun h39 => ?_)
          · iterate 5 (refine zv_step (bxWF O P Y o A J _) rfl rfl trivial ?_)
            refine zv_ifb (fun h59 => ?_) (fun h59 => ?_)
            · iterate 2 (refine zv_step (bxWF O P Y o A J _) rfl rfl trivial ?_)
              refine zv_V0 (bxWF O P Y o A J _) rfl rfl rfl rfl rfl rfl rfl ⟨rfl, rfl, rfl⟩ ⟨Nat.le_of_ble_eq_true rfl, Nat.le_of_ble_eq_true rfl⟩ ⟨Nat.zero_le _, Nat.zero_le _⟩ (wNum O P Y (gR o A J) hI.2.2.2.2.2.2.1 hI.2.2.2.2.2.2.2.1) ?_
              rintro _ _ ⟨rfl, rfl⟩
              exact zv_iret (bxWF O P Y o A J _) rfl (Or.inl rfl) (Nat.zero_le _) (Nat.zero_le _) ⟨_, rfl, rfl⟩
            · exact zv_throwS (text := "the walk is too deep for a path") (names := ["java/lang/RuntimeException", "java/lang/Exception"]) (by decide +kernel) (by decide +kernel) (by decide +kernel) (by decide +kernel) (by decide +kernel) fISE kISE aISE gISE (fun A U H h => ⟨h.2.2.2.2.2.2.1, h.2.2.2.2.2.2.2.2.1⟩) ⟨by decide, by decide⟩ ⟨rfl, rfl⟩
          · iterate 2 (refine zv_step (bxWF O P Y o A J _) rfl rfl trivial ?_)
            refine zv_V0 (bxWF O P Y o A J _) rfl rfl rfl rfl rfl rfl rfl ⟨rfl, rfl, rfl⟩ ⟨Nat.le_of_ble_eq_true rfl, Nat.le_of_ble_eq_true rfl⟩ ⟨Nat.zero_le _, Nat.zero_le _⟩ (wHereG O P Y (gR o A J) hI.2.2.2.2.2.2.1 hI.2.2.2.2.2.2.2.1) ?_
            rintro _ _ ⟨rfl, rfl⟩
            exact zv_iret (bxWF O P Y o A J _) rfl (Or.inl rfl) (Nat.zero_le _) (Nat.zero_le _) ⟨_, rfl, rfl⟩
        · iterate 3 (refine zv_step (bxWF O P Y o A J _) rfl rfl trivial ?_)
          exact zv_iret (bxWF O P Y o A J _) rfl (Or.inl rfl) (Nat.zero_le _) (Nat.zero_le _) ⟨_, rfl, rfl⟩
      · iterate 1 (refine zv_step (bxWF O P Y o A J _) rfl rfl trivial ?_)
        exact zv_iret (bxWF O P Y o A J _) rfl (Or.inl rfl) (Nat.zero_le _) (Nat.zero_le _) ⟨_, rfl, rfl⟩
    · iterate 1 (refine zv_step (bxWF O P Y o A J _) rfl rfl trivial ?_)
      exact zv_iret (bxWF O P Y o A J _) rfl (Or.inl rfl) (Nat.zero_le _) (Nat.zero_le _) ⟨_, rfl, rfl⟩
set_option maxHeartbeats 1000000 in
set_option maxRecDepth 20000 in
theorem tElementF (O : Nat → Int32) (P : Nat → Nat → Int32) (Y : Nat → Nat → Int64) (o : Nat → Int32) (A : Nat → Nat → Int32) (J : Nat → Nat → Int64) {u l d : Nat} (hI : cI u l d O P Y) (x i : Int32) : zKt 7 zX6_element [.ref 0, .int x, .int i] (wX O P Y (gR o A J)) (tQLF O P Y o A J) (tXEF O P Y o A J) := by
  refine zKt_of (by decide +kernel) rfl ?_
  iterate 1 (refine zv_step (bxEF O P Y o A J _) rfl rfl trivial ?_)
  refine zv_S1 (bxEF O P Y o A J _) rfl rfl rfl rfl ⟨rfl, rfl, rfl⟩ ⟨Nat.le_of_ble_eq_true rfl, Nat.le_of_ble_eq_true rfl⟩ ⟨Nat.zero_le _, Nat.zero_le _⟩ (hX6_isShelf _ _) ?_
  rintro _ _ ⟨rfl, ⟨q1, rfl⟩ | ⟨q1, rfl⟩⟩
  · obtain ⟨s, hs, rfl⟩ := sh_of q1
    iterate 1 (refine zv_step (bxEF O P Y o A J _) rfl rfl trivial ?_)
    refine zv_ift (by decide) ?_
    iterate 1 (refine zv_step (bxEF O P Y o A J _) rfl rfl trivial ?_)
    refine zv_getf (bxEF O P Y o A J _) rfl (rfl) rfl ?_
    iterate 1 (refine zv_step (bxEF O P Y o A J _) rfl rfl trivial ?_)
    refine zv_aald (bxEF O P Y o A J _) rfl (Or.inl rfl) rfl (show vp_in (nI s) 8 from vp_in_nI (by omega) (by decide)) (show ([some 59, some 61, some 63, some 65, some 67, some 69, some 71, some 73] : List (Option Nat)).getD (nI s).toNatClampNeg none = some (59 + 2 * s) by rw [nI_clamp (by omega)]; exact dSs hs) ?_
    iterate 2 (refine zv_step (bxEF O P Y o A J _) rfl rfl trivial ?_)
    refine zv_V0 (bxEF O P Y o A J _) rfl rfl rfl (wS O P Y (gR o A J) hs) rfl rfl rfl ⟨rfl, rfl, rfl⟩ ⟨Nat.le_of_ble_eq_true rfl, Nat.le_of_ble_eq_true rfl⟩ ⟨Nat.zero_le _, Nat.zero_le _⟩ (hHasRow O P Y (gR o A J) hs) ?_
    rintro _ _ ⟨rfl, ⟨q3, rfl⟩ | ⟨q3, rfl⟩⟩
    · skip
      iterate 1 (refine zv_step (bxEF O P Y o A J _) rfl rfl trivial ?_)
      refine zv_ift (by decide) ?_
      iterate 3 (refine zv_step (bxEF O P Y o A J _) rfl rfl trivial ?_)
      refine zv_V2 (bxEF O P Y o A J _) rfl rfl rfl (wS O P Y (gR o A J) hs) rfl rfl rfl ⟨rfl, rfl, rfl⟩ ⟨Nat.le_of_ble_eq_true rfl, Nat.le_of_ble_eq_true rfl⟩ ⟨Nat.zero_le _, Nat.zero_le _⟩ (hHasSpan O P Y (gR o A J) hs _ _) ?_
      rintro _ _ ⟨rfl, ⟨q4, rfl⟩ | ⟨q4, rfl⟩⟩
      · skip
        iterate 1 (refine zv_step (bxEF O P Y o A J _) rfl rfl trivial ?_)
        refine zv_ift (by decide) ?_
        iterate 1 (refine zv_step (bxEF O P Y o A J _) rfl rfl trivial ?_)
        refine zv_getf (bxEF O P Y o A J _) rfl (wS O P Y (gR o A J) hs) rfl ?_
        iterate 1 (refine zv_step (bxEF O P Y o A J _) rfl rfl trivial ?_)
        obtain ⟨m, hm, em⟩ := hI.2.2.2.2.2.2.2.2.2.2 s hs
        rw [em] at q4
        have k4 := (span_le hm q4).1
        refine zv_iald (bxEF O P Y o A J _) rfl (wSr O P Y (gR o A J) hs) (vp_in_iff.mpr (by have a1 := q4.1; rw [Int32.le_iff_toInt_le, Int32.toInt_zero] at a1; have k5 : i.toInt.toNat + (Int32.ofInt 1).toNatClampNeg ≤ 60 := k4; rw [show (Int32.ofInt 1).toNatClampNeg = 1 from rfl] at k5; omega)) ?_
        iterate 1 (refine zv_step (bxEF O P Y o A J _) rfl rfl trivial ?_)
        exact zv_lret (bxEF O P Y o A J _) rfl rfl (Nat.zero_le _) (Nat.zero_le _) ⟨O, P, Y, _, rfl, rfl, ⟨u, l, d, hI⟩, cFr_refl O P⟩
      · skip
        iterate 1 (refine zv_step (bxEF O P Y o A J _) rfl rfl trivial ?_)
        refine zv_iff (by decide) ?_
        exact zv_throwSW (text := "the row has no such place") (names := ["java/lang/RuntimeException", "java/lang/Exception"]) (by decide +kernel) (by decide +kernel) (by decide +kernel) (by decide +kernel) (by decide +kernel) fISE kISE aISE gISE (fun A U H h => ⟨h.2.2.2.2.2.1, h.2.2.2.2.2.2.2.2.1⟩) ⟨by decide, by decide⟩ ⟨Or.inr rfl, rfl⟩
    · skip
      iterate 1 (refine zv_step (bxEF O P Y o A J _) rfl rfl trivial ?_)
      refine zv_iff (by decide) ?_
      exact zv_throwSW (text := "the shelf holds no row") (names := ["java/lang/RuntimeException", "java/lang/Exception"]) (by decide +kernel) (by decide +kernel) (by decide +kernel) (by decide +kernel) (by decide +kernel) fISE kISE aISE gISE (fun A U H h => ⟨h.2.2.2.2.1, h.2.2.2.2.2.2.2.2.1⟩) ⟨by decide, by decide⟩ ⟨Or.inr rfl, rfl⟩
  · skip
    iterate 1 (refine zv_step (bxEF O P Y o A J _) rfl rfl trivial ?_)
    refine zv_iff (by decide) ?_
    exact zv_throwSW (text := "no such shelf") (names := ["java/lang/RuntimeException", "java/lang/Exception"]) (by decide +kernel) (by decide +kernel) (by decide +kernel) (by decide +kernel) (by decide +kernel) fIAE kIAE aIAE gIAE (fun A U H h => ⟨h.2.2.2.1, h.2.2.2.2.2.2.2.1⟩) ⟨by decide, by decide⟩ ⟨Or.inl rfl, rfl⟩
set_option maxHeartbeats 1000000 in
set_option maxRecDepth 20000 in
theorem hL_readingsF (O : Nat → Int32) (P : Nat → Nat → Int32) (Y : Nat → Nat → Int64) (o : Nat → Int32) (A : Nat → Nat → Int32) (J : Nat → Nat → Int64) {u l d : Nat} (hI : cI u l d O P Y) (x : Int32) : zKh 9 zL_readings [(0, 8, 11, 13)] [.ref 0, .int x, .ref 99] (wX O P Y (gR o A J)) (fun r w' => (∃ R : Int32, r = some (.int R)) ∧ ∃ (O' : Nat → Int32) (P' : Nat → Nat → Int32) (Y' : Nat → Nat → Int64) (J' : Nat → Nat → Int64), w' = wX O' P' Y' (gR o A J') ∧ (cInv O' P' Y' ∧ cFr O P O' P')) := by
  refine zKh_of (by decide +kernel) rfl ?_
  iterate 4 (refine zv_step bL_readings rfl rfl trivial ?_)
  refine zv_callX bL_readings rfl rfl (As := [.int x]) (rest := [.int (Int32.ofInt 0), .ref 99]) rfl rfl rfl rfl rfl rfl (by decide) ⟨by decide, by decide⟩ (tReadingsF O P Y o A J hI x) ?_ ?_
  · rintro _ _ ⟨O', P', Y', v, rfl, rfl, hc⟩
    refine zv_last bL_readings rfl (show (wX O' P' Y' (gR o A J))[99]? = some (zJ 1 (J 2)) from rfl) (show vp_in (nI 0) 1 from vp_in_nI (by decide) (by decide)) ?_
    refine zv_world (show _ = wX O' P' Y' (gR o A (updJ J 2 (vp_updL (J 2) (Int32.ofInt 0).toNatClampNeg v))) from rfl) ?_
    iterate 2 (refine zv_step bL_readings rfl rfl trivial ?_)
    exact zv_iret bL_readings rfl (Or.inl rfl) (Nat.le_refl 1) (Nat.le_refl 6) ⟨⟨_, rfl⟩, O', P', Y', _, rfl, hc⟩
  · rintro E _ ⟨rfl, rfl⟩
    refine ⟨3, 12, ⟨[], ⟨0, 8, 11, 13⟩, [], "java/lang/IllegalArgumentException", rfl, fun y h => absurd h List.not_mem_nil, by decide, by decide, cl13, fun A U H h => h.2.2.2.2.2.2.2.1, by decide, Or.inl ⟨3, rfl, by decide +kernel, rfl⟩⟩, ?_⟩
    iterate 1 (refine zv_step bL_readings rfl rfl trivial ?_)
    exact zv_iret bL_readings rfl (Or.inl rfl) (Nat.le_refl 1) (Nat.le_refl 6) ⟨⟨_, rfl⟩, O, P, Y, J, rfl, ⟨u, l, d, hI⟩, cFr_refl O P⟩
set_option maxHeartbeats 1000000 in
set_option maxRecDepth 20000 in
theorem hL_whereF (O : Nat → Int32) (P : Nat → Nat → Int32) (Y : Nat → Nat → Int64) (o : Nat → Int32) (A : Nat → Nat → Int32) (J : Nat → Nat → Int64) {u l d : Nat} (hI : cI u l d O P Y) (x : Int32) : zKh 9 zL_where [(0, 9, 12, 19)] [.ref 0, .int x, .ref 99] (wX O P Y (gR o A J)) (fun r w' => (∃ R : Int32, r = some (.int R)) ∧ ∃ (O' : Nat → Int32) (P' : Nat → Nat → Int32) (Y' : Nat → Nat → Int64) (J' : Nat → Nat → Int64), w' = wX O' P' Y' (gR o A J') ∧ (cInv O' P' Y' ∧ cFr O P O' P')) := by
  refine zKh_of (by decide +kernel) rfl ?_
  iterate 4 (refine zv_step bL_where rfl rfl trivial ?_)
  refine zv_callX bL_where rfl rfl (As := [.int x]) (rest := [.int (Int32.ofInt 0), .ref 99]) rfl rfl rfl rfl rfl rfl (by decide) ⟨by decide, by decide⟩ (tWhereF O P Y o A J hI x) ?_ ?_
  · rintro _ _ ⟨v, rfl, rfl⟩
    iterate 1 (refine zv_step bL_where rfl rfl trivial ?_)
    refine zv_last bL_where rfl (show (wX O P Y (gR o A J))[99]? = some (zJ 1 (J 2)) from rfl) (show vp_in (nI 0) 1 from vp_in_nI (by decide) (by decide)) ?_
    refine zv_world (show _ = wX O P Y (gR o A (updJ J 2 (vp_updL (J 2) (Int32.ofInt 0).toNatClampNeg v.toInt64))) from rfl) ?_
    iterate 2 (refine zv_step bL_where rfl rfl trivial ?_)
    exact zv_iret bL_where rfl (Or.inl rfl) (Nat.le_refl 1) (Nat.le_refl 6) ⟨⟨_, rfl⟩, O, P, Y, _, rfl, ⟨u, l, d, hI⟩, cFr_refl O P⟩
  · rintro E _ ⟨rfl, rfl⟩
    refine ⟨3, 13, ⟨[], ⟨0, 9, 12, 19⟩, [], "java/lang/IllegalStateException", rfl, fun y h => absurd h List.not_mem_nil, by decide, by decide, cl19, fun A U H h => h.2.2.2.2.2.2.2.2.1, by decide, Or.inl ⟨3, rfl, by decide +kernel, rfl⟩⟩, ?_⟩
    iterate 1 (refine zv_step bL_where rfl rfl trivial ?_)
    exact zv_iret bL_where rfl (Or.inl rfl) (Nat.le_refl 1) (Nat.le_refl 6) ⟨⟨_, rfl⟩, O, P, Y, J, rfl, ⟨u, l, d, hI⟩, cFr_refl O P⟩
set_option maxHeartbeats 1000000 in
set_option maxRecDepth 20000 in
theorem hL_elementF (O : Nat → Int32) (P : Nat → Nat → Int32) (Y : Nat → Nat → Int64) (o : Nat → Int32) (A : Nat → Nat → Int32) (J : Nat → Nat → Int64) {u l d : Nat} (hI : cI u l d O P Y) (x i : Int32) : zKh 9 zL_element [(0, 9, 12, 13), (0, 9, 16, 19)] [.ref 0, .int x, .int i, .ref 99] (wX O P Y (gR o A J)) (fun r w' => (∃ R : Int32, r = some (.int R)) ∧ ∃ (O' : Nat → Int32) (P' : Nat → Nat → Int32) (Y' : Nat → Nat → Int64) (J' : Nat → Nat → Int64), w' = wX O' P' Y' (gR o A J') ∧ (cInv O' P' Y' ∧ cFr O P O' P')) := by
  refine zKh_of (by decide +kernel) rfl ?_
  iterate 5 (refine zv_step bL_element rfl rfl trivial ?_)
  refine zv_callX bL_element rfl rfl (As := [.int x, .int i]) (rest := [.int (Int32.ofInt 0), .ref 99]) rfl rfl rfl rfl rfl rfl (by decide) ⟨by decide, by decide⟩ (tElementF O P Y o A J hI x i) ?_ ?_
  · rintro _ _ ⟨O', P', Y', v, rfl, rfl, hc⟩
    refine zv_last bL_element rfl (show (wX O' P' Y' (gR o A J))[99]? = some (zJ 1 (J 2)) from rfl) (show vp_in (nI 0) 1 from vp_in_nI (by decide) (by decide)) ?_
    refine zv_world (show _ = wX O' P' Y' (gR o A (updJ J 2 (vp_updL (J 2) (Int32.ofInt 0).toNatClampNeg v))) from rfl) ?_
    iterate 2 (refine zv_step bL_element rfl rfl trivial ?_)
    exact zv_iret bL_element rfl (Or.inl rfl) (Nat.le_refl 1) (Nat.le_refl 6) ⟨⟨_, rfl⟩, O', P', Y', _, rfl, hc⟩
  · rintro E _ ⟨rfl | rfl, rfl⟩
    · refine ⟨4, 14, ⟨[], ⟨0, 9, 12, 13⟩, [⟨0, 9, 16, 19⟩], "java/lang/IllegalArgumentException", rfl, fun y h => absurd h List.not_mem_nil, by decide, by decide, cl13, fun A U H h => h.2.2.2.2.2.2.2.1, by decide, Or.inr ⟨by decide +kernel, rfl⟩⟩, ?_⟩
      iterate 1 (refine zv_step bL_element rfl rfl trivial ?_)
      exact zv_iret bL_element rfl (Or.inl rfl) (Nat.le_refl 1) (Nat.le_refl 6) ⟨⟨_, rfl⟩, O, P, Y, J, rfl, ⟨u, l, d, hI⟩, cFr_refl O P⟩
    · refine ⟨4, 18, ⟨[⟨0, 9, 12, 13⟩], ⟨0, 9, 16, 19⟩, [], "java/lang/IllegalStateException", rfl, fun y h => Or.inr (by
        cases h with
        | head => exact ⟨by decide, "java/lang/IllegalArgumentException", cl13, fun A U H h => h.2.2.2.2.2.2.2.2.2⟩
        | tail _ h => cases h), by decide, by decide, cl19, fun A U H h => h.2.2.2.2.2.2.2.2.1, by decide, Or.inr ⟨by decide +kernel, rfl⟩⟩, ?_⟩
      iterate 1 (refine zv_step bL_element rfl rfl trivial ?_)
      exact zv_iret bL_element rfl (Or.inl rfl) (Nat.le_refl 1) (Nat.le_refl 6) ⟨⟨_, rfl⟩, O, P, Y, J, rfl, ⟨u, l, d, hI⟩, cFr_refl O P⟩
