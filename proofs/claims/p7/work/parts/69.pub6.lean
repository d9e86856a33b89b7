/-- what the sayings may change of the class: speeches, and what is heard -/
def spW (O : Nat → Int32) (P : Nat → Nat → Int32) (O' : Nat → Int32) (P' : Nat → Nat → Int32) : Prop := (∃ l' : Nat, l' ≤ 20 ∧ O' 9 = nI l') ∧ (∀ j, j < 3 ∨ 9 < j → O' j = O j) ∧ (∀ i, i ≠ 28 → i ≠ 30 → i ≠ 32 → P' i = P i)
theorem spW_say {O : Nat → Int32} {P : Nat → Nat → Int32} {l : Nat} (hl : l ≤ 20) (hO : O 9 = nI l) (a b c : Int32) (R : Nat → Int32) : spW O P (upd (upd (upd O 4 a) 5 b) 3 c) (updA P 28 R) :=
  ⟨⟨l, hl, hO⟩, fun j hj => by rw [upd_ne _ _ (by omega), upd_ne _ _ (by omega), upd_ne _ _ (by omega)], fun i h _ _ => updA_ne _ _ h⟩
theorem spW_spar {O : Nat → Int32} {P : Nat → Nat → Int32} {l : Nat} (hl : l ≤ 20) (hO : O 9 = nI l) (b c : Int32) (R : Nat → Int32) : spW O P (upd (upd O 5 b) 3 c) (updA P 28 R) :=
  ⟨⟨l, hl, hO⟩, fun j hj => by rw [upd_ne _ _ (by omega), upd_ne _ _ (by omega)], fun i h _ _ => updA_ne _ _ h⟩
theorem spW_heard {O O1 : Nat → Int32} {P P1 P2 : Nat → Nat → Int32} (h : spW O P O1 P1) {l : Nat} (hl : l ≤ 20) (hP : ∀ i, i ≠ 32 → P2 i = P1 i) : spW O P (upd O1 9 (nI l)) P2 :=
  ⟨⟨l, hl, rfl⟩, fun j hj => by rw [upd_ne _ _ (by omega)]; exact h.2.1 j hj, fun i a b c => (hP i c).trans (h.2.2 i a b c)⟩
theorem has_j {u : Nat} {n : Int32} (hu : u ≤ 120) {o1 : Int32} (h1 : o1 = nI u) (h : 0 ≤ n.toInt ∧ n.toInt < o1.toInt) : ∃ j : Nat, j < u ∧ n = nI j := by
  rw [h1, nI_toInt (by omega)] at h
  refine ⟨n.toInt.toNat, by omega, ?_⟩
  rw [← Int32.toInt_inj, nI_toInt (by omega)]
  omega
set_option maxHeartbeats 1000000 in
set_option maxRecDepth 20000 in
theorem cWords (O : Nat → Int32) (P : Nat → Nat → Int32) (Y : Nat → Nat → Int64) (g : Nat → zC) {u : Nat} (hu : u ≤ 120) (h1 : O 1 = nI u) (hp : pgI u (P 2) (P 4) (P 5) (P 6)) {l : Nat} (hl : l ≤ 20) (hO : O 9 = nI l) (x n : Int32) : zK 86 zX6_words [.ref 0, .int x, .int n] (wX O P Y g) (fun r w' => ∃ (O' : Nat → Int32) (P' : Nat → Nat → Int32) (R : Int32), r = some (.int R) ∧ w' = wX O' P' Y g ∧ spW O P O' P') := by
  refine zK_of qX6_words (by decide +kernel) rfl ?_
  iterate 1 (refine zv_step (bX6_words 86) rfl rfl trivial ?_)
  refine zv_S1 (bX6_words 86) rfl rfl rfl rfl ⟨rfl, rfl, rfl⟩ ⟨by decide, by decide⟩ ⟨Nat.zero_le _, Nat.zero_le _⟩ (hX6_isStyle _ _) ?_
  rintro _ _ ⟨rfl, ⟨hx, rfl⟩ | ⟨hx, rfl⟩⟩
  · iterate 1 (refine zv_step (bX6_words 86) rfl rfl trivial ?_)
    refine zv_iff (by decide) ?_
    iterate 3 (refine zv_step (bX6_words 86) rfl rfl trivial ?_)
    refine zv_V1 (bX6_words 86) rfl rfl rfl rfl rfl rfl rfl ⟨rfl, rfl, rfl⟩ ⟨by decide, by decide⟩ ⟨Nat.zero_le _, Nat.zero_le _⟩ (pHas1 O P Y g _) ?_
    rintro _ _ ⟨rfl, ⟨hh, rfl⟩ | ⟨hh, rfl⟩⟩
    · iterate 1 (refine zv_step (bX6_words 86) rfl rfl trivial ?_)
      refine zv_ift (by decide) ?_
      obtain ⟨j, hj, rfl⟩ := has_j hu h1 hh
      iterate 8 (refine zv_step (bX6_words 86) rfl rfl trivial ?_)
      refine zv_step (bX6_words 86) rfl rfl (vp_in_iff.mpr ⟨hx.1, Int.lt_of_le_of_lt hx.2 (by decide)⟩) ?_
      iterate 1 (refine zv_step (bX6_words 86) rfl rfl trivial ?_)
      refine zv_V4 (bX6_words 86) rfl rfl rfl rfl rfl rfl rfl ⟨rfl, rfl, rfl⟩ ⟨by decide, by decide⟩ ⟨Nat.zero_le _, Nat.zero_le _⟩ (sStyle27 O P Y g hu h1 hp hj (f := 41) (by decide) rfl) ?_
      rintro _ _ ⟨rfl, rfl⟩
      have hln : (tlW (O 1) (P 75 x.toNatClampNeg) (Int32.ofInt 0) P 41 (nI j) (hbW (P 75 x.toNatClampNeg) (P 2 j))).length ≤ 6 * szq (P 6) (nI j) := by rw [h1]; exact tlW_len hu hp 41 _ _
      have hsz := szq_le hp hj hu
      generalize (tlW (O 1) (P 75 x.toNatClampNeg) (Int32.ofInt 0) P 41 (nI j) (hbW (P 75 x.toNatClampNeg) (P 2 j))) = ws at hln ⊢
      iterate 2 (refine zv_step (bX6_words 86) rfl rfl trivial ?_)
      refine zv_V0 (bX6_words 86) rfl rfl rfl rfl rfl rfl rfl ⟨rfl, rfl, rfl⟩ ⟨by decide, by decide⟩ ⟨Nat.zero_le _, Nat.zero_le _⟩ (sLong27 _ _ _ _) ?_
      rintro _ _ ⟨rfl, ⟨hg, rfl⟩ | ⟨hg, rfl⟩⟩
      · iterate 1 (refine zv_step (bX6_words 86) rfl rfl trivial ?_)
        refine zv_iff (by decide) ?_
        iterate 2 (refine zv_step (bX6_words 86) rfl rfl trivial ?_)
        exact zv_iret (bX6_words 86) rfl (Or.inl rfl) (Nat.zero_le _) (Nat.zero_le _) ⟨_, _, _, rfl, rfl, spW_say hl hO _ _ _ _⟩
      · iterate 1 (refine zv_step (bX6_words 86) rfl rfl trivial ?_)
        refine zv_ift (by decide) ?_
        iterate 3 (refine zv_step (bX6_words 86) rfl rfl trivial ?_)
        exact zv_iret (bX6_words 86) rfl (Or.inl rfl) (Nat.zero_le _) (Nat.zero_le _) ⟨_, _, _, rfl, rfl, spW_say hl hO _ _ _ _⟩
    · iterate 1 (refine zv_step (bX6_words 86) rfl rfl trivial ?_)
      refine zv_iff (by decide) ?_
      iterate 1 (refine zv_step (bX6_words 86) rfl rfl trivial ?_)
      exact zv_iret (bX6_words 86) rfl (Or.inl rfl) (Nat.zero_le _) (Nat.zero_le _) ⟨O, P, _, rfl, rfl, ⟨l, hl, hO⟩, fun _ _ => rfl, fun _ _ _ _ => rfl⟩
  · iterate 1 (refine zv_step (bX6_words 86) rfl rfl trivial ?_)
    refine zv_ift (by decide) ?_
    iterate 1 (refine zv_step (bX6_words 86) rfl rfl trivial ?_)
    exact zv_iret (bX6_words 86) rfl (Or.inl rfl) (Nat.zero_le _) (Nat.zero_le _) ⟨O, P, _, rfl, rfl, ⟨l, hl, hO⟩, fun _ _ => rfl, fun _ _ _ _ => rfl⟩
set_option maxHeartbeats 1000000 in
set_option maxRecDepth 20000 in
theorem cWord (O : Nat → Int32) (P : Nat → Nat → Int32) (Y : Nat → Nat → Int64) (g : Nat → zC) {u : Nat} (hu : u ≤ 120) (h1 : O 1 = nI u) (hp : pgI u (P 2) (P 4) (P 5) (P 6)) {l : Nat} (hl : l ≤ 20) (hO : O 9 = nI l) (x n k : Int32) : zK 86 zX6_word [.ref 0, .int x, .int n, .int k] (wX O P Y g) (fun r w' => ∃ (O' : Nat → Int32) (P' : Nat → Nat → Int32) (R : Int32), r = some (.int R) ∧ w' = wX O' P' Y g ∧ spW O P O' P') := by
  refine zK_of qX6_word (by decide +kernel) rfl ?_
  iterate 1 (refine zv_step (bX6_word 86) rfl rfl trivial ?_)
  refine zv_S1 (bX6_word 86) rfl rfl rfl rfl ⟨rfl, rfl, rfl⟩ ⟨by decide, by decide⟩ ⟨Nat.zero_le _, Nat.zero_le _⟩ (hX6_isStyle _ _) ?_
  rintro _ _ ⟨rfl, ⟨hx, rfl⟩ | ⟨hx, rfl⟩⟩
  · iterate 1 (refine zv_step (bX6_word 86) rfl rfl trivial ?_)
    refine zv_iff (by decide) ?_
    iterate 3 (refine zv_step (bX6_word 86) rfl rfl trivial ?_)
    refine zv_V1 (bX6_word 86) rfl rfl rfl rfl rfl rfl rfl ⟨rfl, rfl, rfl⟩ ⟨by decide, by decide⟩ ⟨Nat.zero_le _, Nat.zero_le _⟩ (pHas1 O P Y g _) ?_
    rintro _ _ ⟨rfl, ⟨hh, rfl⟩ | ⟨hh, rfl⟩⟩
    · iterate 1 (refine zv_step (bX6_word 86) rfl rfl trivial ?_)
      refine zv_iff (by decide) ?_
      iterate 2 (refine zv_step (bX6_word 86) rfl rfl trivial ?_)
      refine zv_ifb (fun h3 => ?_) (fun h3 => ?_)
      · obtain ⟨j, hj, rfl⟩ := has_j hu h1 hh
        iterate 8 (refine zv_step (bX6_word 86) rfl rfl trivial ?_)
        refine zv_step (bX6_word 86) rfl rfl (vp_in_iff.mpr ⟨hx.1, Int.lt_of_le_of_lt hx.2 (by decide)⟩) ?_
        iterate 1 (refine zv_step (bX6_word 86) rfl rfl trivial ?_)
        refine zv_V4 (bX6_word 86) rfl rfl rfl rfl rfl rfl rfl ⟨rfl, rfl, rfl⟩ ⟨by decide, by decide⟩ ⟨Nat.zero_le _, Nat.zero_le _⟩ (sStyle27 O P Y g hu h1 hp hj (f := 41) (by decide) rfl) ?_
        rintro _ _ ⟨rfl, rfl⟩
        have hln : (tlW (O 1) (P 75 x.toNatClampNeg) (Int32.ofInt 0) P 41 (nI j) (hbW (P 75 x.toNatClampNeg) (P 2 j))).length ≤ 6 * szq (P 6) (nI j) := by rw [h1]; exact tlW_len hu hp 41 _ _
        have hsz := szq_le hp hj hu
        generalize (tlW (O 1) (P 75 x.toNatClampNeg) (Int32.ofInt 0) P 41 (nI j) (hbW (P 75 x.toNatClampNeg) (P 2 j))) = ws at hln ⊢
        iterate 5 (refine zv_step (bX6_word 86) rfl rfl trivial ?_)
        refine zv_ifb (fun h4 => ?_) (fun h4 => ?_)
        · iterate 2 (refine zv_step (bX6_word 86) rfl rfl trivial ?_)
          refine zv_V0 (bX6_word 86) rfl rfl rfl rfl rfl rfl rfl ⟨rfl, rfl, rfl⟩ ⟨by decide, by decide⟩ ⟨Nat.zero_le _, Nat.zero_le _⟩ (sLong27 _ _ _ _) ?_
          rintro _ _ ⟨rfl, ⟨hg, rfl⟩ | ⟨hg, rfl⟩⟩
          · iterate 1 (refine zv_step (bX6_word 86) rfl rfl trivial ?_)
            refine zv_iff (by decide) ?_
            iterate 2 (refine zv_step (bX6_word 86) rfl rfl trivial ?_)
            exact zv_iret (bX6_word 86) rfl (Or.inl rfl) (Nat.zero_le _) (Nat.zero_le _) ⟨_, _, _, rfl, rfl, spW_say hl hO _ _ _ _⟩
          · iterate 1 (refine zv_step (bX6_word 86) rfl rfl trivial ?_)
            refine zv_ift (by decide) ?_
            iterate 4 (refine zv_step (bX6_word 86) rfl rfl trivial ?_)
            refine zv_step (bX6_word 86) rfl rfl (vp_in_iff.mpr ⟨by have h5 := Int32.le_iff_toInt_le.mp h3; rw [Int32.toInt_zero] at h5; exact h5, Int.lt_of_lt_of_le (Int32.lt_iff_toInt_lt.mp h4) (Int.not_lt.mp hg)⟩) ?_
            exact zv_iret (bX6_word 86) rfl (Or.inl rfl) (Nat.zero_le _) (Nat.zero_le _) ⟨_, _, _, rfl, rfl, spW_say hl hO _ _ _ _⟩
        · iterate 1 (refine zv_step (bX6_word 86) rfl rfl trivial ?_)
          exact zv_iret (bX6_word 86) rfl (Or.inl rfl) (Nat.zero_le _) (Nat.zero_le _) ⟨_, _, _, rfl, rfl, spW_say hl hO _ _ _ _⟩
      · iterate 1 (refine zv_step (bX6_word 86) rfl rfl trivial ?_)
        exact zv_iret (bX6_word 86) rfl (Or.inl rfl) (Nat.zero_le _) (Nat.zero_le _) ⟨O, P, _, rfl, rfl, ⟨l, hl, hO⟩, fun _ _ => rfl, fun _ _ _ _ => rfl⟩
    · iterate 1 (refine zv_step (bX6_word 86) rfl rfl trivial ?_)
      refine zv_ift (by decide) ?_
      iterate 1 (refine zv_step (bX6_word 86) rfl rfl trivial ?_)
      exact zv_iret (bX6_word 86) rfl (Or.inl rfl) (Nat.zero_le _) (Nat.zero_le _) ⟨O, P, _, rfl, rfl, ⟨l, hl, hO⟩, fun _ _ => rfl, fun _ _ _ _ => rfl⟩
  · iterate 1 (refine zv_step (bX6_word 86) rfl rfl trivial ?_)
    refine zv_ift (by decide) ?_
    iterate 1 (refine zv_step (bX6_word 86) rfl rfl trivial ?_)
    exact zv_iret (bX6_word 86) rfl (Or.inl rfl) (Nat.zero_le _) (Nat.zero_le _) ⟨O, P, _, rfl, rfl, ⟨l, hl, hO⟩, fun _ _ => rfl, fun _ _ _ _ => rfl⟩
set_option maxHeartbeats 1000000 in
set_option maxRecDepth 20000 in
theorem cListen (O : Nat → Int32) (P : Nat → Nat → Int32) (Y : Nat → Nat → Int64) (g : Nat → zC) {u : Nat} (hu : u ≤ 120) (h1 : O 1 = nI u) (hp : pgI u (P 2) (P 4) (P 5) (P 6)) {l : Nat} (hl : l ≤ 20) (hO : O 9 = nI l) (x n : Int32) : zK 86 zX6_listen [.ref 0, .int x, .int n] (wX O P Y g) (fun r w' => ∃ (O' : Nat → Int32) (P' : Nat → Nat → Int32) (R : Int32), r = some (.int R) ∧ w' = wX O' P' Y g ∧ spW O P O' P') := by
  refine zK_of qX6_listen (by decide +kernel) rfl ?_
  iterate 1 (refine zv_step (bX6_listen 86) rfl rfl trivial ?_)
  refine zv_S1 (bX6_listen 86) rfl rfl rfl rfl ⟨rfl, rfl, rfl⟩ ⟨by decide, by decide⟩ ⟨Nat.zero_le _, Nat.zero_le _⟩ (hX6_isStyle _ _) ?_
  rintro _ _ ⟨rfl, ⟨hx, rfl⟩ | ⟨hx, rfl⟩⟩
  · iterate 1 (refine zv_step (bX6_listen 86) rfl rfl trivial ?_)
    refine zv_iff (by decide) ?_
    iterate 3 (refine zv_step (bX6_listen 86) rfl rfl trivial ?_)
    refine zv_V1 (bX6_listen 86) rfl rfl rfl rfl rfl rfl rfl ⟨rfl, rfl, rfl⟩ ⟨by decide, by decide⟩ ⟨Nat.zero_le _, Nat.zero_le _⟩ (pHas1 O P Y g _) ?_
    rintro _ _ ⟨rfl, ⟨hh, rfl⟩ | ⟨hh, rfl⟩⟩
    · iterate 1 (refine zv_step (bX6_listen 86) rfl rfl trivial ?_)
      refine zv_ift (by decide) ?_
      obtain ⟨j, hj, rfl⟩ := has_j hu h1 hh
      iterate 8 (refine zv_step (bX6_listen 86) rfl rfl trivial ?_)
      refine zv_step (bX6_listen 86) rfl rfl (vp_in_iff.mpr ⟨hx.1, Int.lt_of_le_of_lt hx.2 (by decide)⟩) ?_
      iterate 1 (refine zv_step (bX6_listen 86) rfl rfl trivial ?_)
      refine zv_V4 (bX6_listen 86) rfl rfl rfl rfl rfl rfl rfl ⟨rfl, rfl, rfl⟩ ⟨by decide, by decide⟩ ⟨Nat.zero_le _, Nat.zero_le _⟩ (sStyle27 O P Y g hu h1 hp hj (f := 41) (by decide) rfl) ?_
      rintro _ _ ⟨rfl, rfl⟩
      have hln : (tlW (O 1) (P 75 x.toNatClampNeg) (Int32.ofInt 0) P 41 (nI j) (hbW (P 75 x.toNatClampNeg) (P 2 j))).length ≤ 6 * szq (P 6) (nI j) := by rw [h1]; exact tlW_len hu hp 41 _ _
      have hsz := szq_le hp hj hu
      generalize (tlW (O 1) (P 75 x.toNatClampNeg) (Int32.ofInt 0) P 41 (nI j) (hbW (P 75 x.toNatClampNeg) (P 2 j))) = ws at hln ⊢
      iterate 2 (refine zv_step (bX6_listen 86) rfl rfl trivial ?_)
      refine zv_V0 (bX6_listen 86) rfl rfl rfl rfl rfl rfl rfl ⟨rfl, rfl, rfl⟩ ⟨by decide, by decide⟩ ⟨Nat.zero_le _, Nat.zero_le _⟩ (sLong27 _ _ _ _) ?_
      rintro _ _ ⟨rfl, ⟨hg, rfl⟩ | ⟨hg, rfl⟩⟩
      · iterate 1 (refine zv_step (bX6_listen 86) rfl rfl trivial ?_)
        refine zv_iff (by decide) ?_
        iterate 1 (refine zv_step (bX6_listen 86) rfl rfl trivial ?_)
        exact zv_iret (bX6_listen 86) rfl (Or.inl rfl) (Nat.zero_le _) (Nat.zero_le _) ⟨_, _, _, rfl, rfl, spW_say hl hO _ _ _ _⟩
      · iterate 1 (refine zv_step (bX6_listen 86) rfl rfl trivial ?_)
        refine zv_ift (by decide) ?_
        refine zv_world (show wX (upd (upd (upd O 4 (P 75 x.toNatClampNeg)) 5 (Int32.ofInt 0)) 3 (nI ws.length)) (updA P 28 (ap8 (P 28) 0 ws)) Y g = wX (upd (upd (upd (upd O 4 (P 75 x.toNatClampNeg)) 5 (Int32.ofInt 0)) 3 (nI ws.length)) 9 (nI l)) (updA P 28 (ap8 (P 28) 0 ws)) Y g by rw [upd_same (show (upd (upd (upd O 4 (P 75 x.toNatClampNeg)) 5 (Int32.ofInt 0)) 3 (nI ws.length)) 9 = nI l from hO)]) ?_
        iterate 1 (refine zv_step (bX6_listen 86) rfl rfl trivial ?_)
        refine zv_V0 (bX6_listen 86) rfl rfl rfl rfl rfl rfl rfl ⟨rfl, rfl, rfl⟩ ⟨by decide, by decide⟩ ⟨Nat.zero_le _, Nat.zero_le _⟩ (cHearSpeech (upd (upd (upd O 4 (P 75 x.toNatClampNeg)) 5 (Int32.ofInt 0)) 3 (nI ws.length)) (updA P 28 (ap8 (P 28) 0 ws)) Y g (q := ws.length) (by omega) rfl hl) ?_
        rintro _ _ ⟨l2, P2, R2, rfl, rfl, hl2, hP2⟩
        exact zv_iret (bX6_listen 86) rfl (Or.inl rfl) (Nat.zero_le _) (Nat.zero_le _) ⟨_, _, _, rfl, rfl, spW_heard (spW_say hl hO _ _ _ _) hl2 hP2⟩
    · iterate 1 (refine zv_step (bX6_listen 86) rfl rfl trivial ?_)
      refine zv_iff (by decide) ?_
      iterate 1 (refine zv_step (bX6_listen 86) rfl rfl trivial ?_)
      exact zv_iret (bX6_listen 86) rfl (Or.inl rfl) (Nat.zero_le _) (Nat.zero_le _) ⟨O, P, _, rfl, rfl, ⟨l, hl, hO⟩, fun _ _ => rfl, fun _ _ _ _ => rfl⟩
  · iterate 1 (refine zv_step (bX6_listen 86) rfl rfl trivial ?_)
    refine zv_ift (by decide) ?_
    iterate 1 (refine zv_step (bX6_listen 86) rfl rfl trivial ?_)
    exact zv_iret (bX6_listen 86) rfl (Or.inl rfl) (Nat.zero_le _) (Nat.zero_le _) ⟨O, P, _, rfl, rfl, ⟨l, hl, hO⟩, fun _ _ => rfl, fun _ _ _ _ => rfl⟩
set_option maxHeartbeats 1000000 in
set_option maxRecDepth 20000 in
theorem cFewest (O : Nat → Int32) (P : Nat → Nat → Int32) (Y : Nat → Nat → Int64) (g : Nat → zC) {u : Nat} (hu : u ≤ 120) (h1 : O 1 = nI u) (hp : pgI u (P 2) (P 4) (P 5) (P 6)) {l : Nat} (hl : l ≤ 20) (hO : O 9 = nI l) (n : Int32) : zK 86 zX6_fewest [.ref 0, .int n] (wX O P Y g) (fun r w' => ∃ (O' : Nat → Int32) (P' : Nat → Nat → Int32) (R : Int32), r = some (.int R) ∧ w' = wX O' P' Y g ∧ spW O P O' P') := by
  refine zK_of qX6_fewest (by decide +kernel) rfl ?_
  iterate 3 (refine zv_step (bX6_fewest 86) rfl rfl trivial ?_)
  refine zv_V1 (bX6_fewest 86) rfl rfl rfl rfl rfl rfl rfl ⟨rfl, rfl, rfl⟩ ⟨by decide, by decide⟩ ⟨Nat.zero_le _, Nat.zero_le _⟩ (pHas1 O P Y g _) ?_
  rintro _ _ ⟨rfl, ⟨hh, rfl⟩ | ⟨hh, rfl⟩⟩
  · iterate 1 (refine zv_step (bX6_fewest 86) rfl rfl trivial ?_)
    refine zv_ift (by decide) ?_
    obtain ⟨j, hj, rfl⟩ := has_j hu h1 hh
    iterate 5 (refine zv_step (bX6_fewest 86) rfl rfl trivial ?_)
    refine zv_V2 (bX6_fewest 86) rfl rfl rfl rfl rfl rfl rfl ⟨rfl, rfl, rfl⟩ ⟨by decide, by decide⟩ ⟨Nat.zero_le _, Nat.zero_le _⟩ (pRight1 O P Y g _ (show vp_in (nI j) 120 from vp_in_nI (by omega) (by decide))) ?_
    rintro _ _ ⟨rfl, ⟨hr, rfl⟩ | ⟨hr, rfl⟩⟩
    · iterate 1 (refine zv_step (bX6_fewest 86) rfl rfl trivial ?_)
      refine zv_ift (by decide) ?_
      iterate 4 (refine zv_step (bX6_fewest 86) rfl rfl trivial ?_)
      refine zv_step (bX6_fewest 86) rfl rfl (show vp_in (nI j) 120 from vp_in_nI (by omega) (by decide)) ?_
      iterate 2 (refine zv_step (bX6_fewest 86) rfl rfl trivial ?_)
      refine zv_ifb (fun h4 => ?_) (fun h4 => ?_)
      · iterate 5 (refine zv_step (bX6_fewest 86) rfl rfl trivial ?_)
        refine zv_V2 (bX6_fewest 86) rfl rfl rfl rfl rfl rfl rfl ⟨rfl, rfl, rfl⟩ ⟨by decide, by decide⟩ ⟨Nat.zero_le _, Nat.zero_le _⟩ (sSparing27 O P Y g hu h1 hp hj) ?_
        rintro _ _ ⟨rfl, rfl⟩
        have hln : (tlW (O 1) (O 4) (Int32.ofInt 1) P 41 (nI j) (Int32.ofInt 0)).length ≤ 6 * szq (P 6) (nI j) := by rw [h1]; exact tlW_len hu hp 41 _ _
        have hsz := szq_le hp hj hu
        generalize (tlW (O 1) (O 4) (Int32.ofInt 1) P 41 (nI j) (Int32.ofInt 0)) = ws at hln ⊢
        refine zv_world (show wX (upd (upd O 5 (Int32.ofInt 1)) 3 (nI ws.length)) (updA P 28 (ap8 (P 28) 0 ws)) Y g = wX (upd (upd (upd O 5 (Int32.ofInt 1)) 3 (nI ws.length)) 9 (nI l)) (updA P 28 (ap8 (P 28) 0 ws)) Y g by rw [upd_same (show (upd (upd O 5 (Int32.ofInt 1)) 3 (nI ws.length)) 9 = nI l from hO)]) ?_
        iterate 1 (refine zv_step (bX6_fewest 86) rfl rfl trivial ?_)
        refine zv_V0 (bX6_fewest 86) rfl rfl rfl rfl rfl rfl rfl ⟨rfl, rfl, rfl⟩ ⟨by decide, by decide⟩ ⟨Nat.zero_le _, Nat.zero_le _⟩ (cHearSpeech (upd (upd O 5 (Int32.ofInt 1)) 3 (nI ws.length)) (updA P 28 (ap8 (P 28) 0 ws)) Y g (q := ws.length) (by omega) rfl hl) ?_
        rintro _ _ ⟨l2, P2, R2, rfl, rfl, hl2, hP2⟩
        exact zv_iret (bX6_fewest 86) rfl (Or.inl rfl) (Nat.zero_le _) (Nat.zero_le _) ⟨_, _, _, rfl, rfl, spW_heard (spW_spar hl hO _ _ _) hl2 hP2⟩
      · iterate 1 (refine zv_step (bX6_fewest 86) rfl rfl trivial ?_)
        exact zv_iret (bX6_fewest 86) rfl (Or.inl rfl) (Nat.zero_le _) (Nat.zero_le _) ⟨O, P, _, rfl, rfl, ⟨l, hl, hO⟩, fun _ _ => rfl, fun _ _ _ _ => rfl⟩
    · iterate 1 (refine zv_step (bX6_fewest 86) rfl rfl trivial ?_)
      refine zv_iff (by decide) ?_
      iterate 1 (refine zv_step (bX6_fewest 86) rfl rfl trivial ?_)
      exact zv_iret (bX6_fewest 86) rfl (Or.inl rfl) (Nat.zero_le _) (Nat.zero_le _) ⟨O, P, _, rfl, rfl, ⟨l, hl, hO⟩, fun _ _ => rfl, fun _ _ _ _ => rfl⟩
  · iterate 1 (refine zv_step (bX6_fewest 86) rfl rfl trivial ?_)
    refine zv_iff (by decide) ?_
    iterate 1 (refine zv_step (bX6_fewest 86) rfl rfl trivial ?_)
    exact zv_iret (bX6_fewest 86) rfl (Or.inl rfl) (Nat.zero_le _) (Nat.zero_le _) ⟨O, P, _, rfl, rfl, ⟨l, hl, hO⟩, fun _ _ => rfl, fun _ _ _ _ => rfl⟩
