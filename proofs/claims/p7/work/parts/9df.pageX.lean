abbrev lfG (k v : Int32) : Prop := (k.toInt = 0 ∧ 0 ≤ v.toInt ∧ v.toInt ≤ 9) ∨ (k.toInt = 1 ∧ 0 ≤ v.toInt ∧ v.toInt ≤ 9999)
def lfV (u : Nat) (k v : Int32) : Int32 := if lfG k v then (if u = 120 then c8 (-2) else nI u) else Int32.ofInt (-1)
theorem lfV_n {u : Nat} {k v : Int32} (h : ¬ lfG k v) : Int32.ofInt (-1) = lfV u k v := (if_neg h).symm
theorem lfV_f {u : Nat} {k v : Int32} (h : lfG k v) (hu : u = 120) : c8 (-2) = lfV u k v := by
  unfold lfV
  rw [if_pos h, if_pos hu]
theorem lfV_y {u : Nat} {k v : Int32} (h : lfG k v) (hu : u < 120) : nI u = lfV u k v := by
  unfold lfV
  rw [if_pos h, if_neg (by omega)]
abbrev ndG (u : Nat) (k x y : Int32) : Prop := (2 ≤ k.toInt ∧ k.toInt ≤ 9) ∧ (0 ≤ x.toInt ∧ x.toInt < (u : Int)) ∧ (k.toInt ≤ 6 → 0 ≤ y.toInt ∧ y.toInt < (u : Int)) ∧ (k.toInt = 9 → 0 ≤ y.toInt ∧ y.toInt ≤ 9)
def ndS (S : Nat → Int32) (k x y : Int32) : Int32 := Int32.ofInt 1 + S x.toNatClampNeg + (if k.toInt ≤ 6 then S y.toNatClampNeg else Int32.ofInt 0)
def ndV (u : Nat) (S : Nat → Int32) (k x y : Int32) : Int32 := if ndG u k x y then (if u = 120 then c8 (-2) else if ndS S k x y ≤ c8 40 then nI u else c8 (-3)) else Int32.ofInt (-1)
theorem ndV_n {u : Nat} {S : Nat → Int32} {k x y : Int32} (h : ¬ ndG u k x y) : Int32.ofInt (-1) = ndV u S k x y := (if_neg h).symm
theorem ndV_f {u : Nat} {S : Nat → Int32} {k x y : Int32} (h : ndG u k x y) (hu : u = 120) : c8 (-2) = ndV u S k x y := by
  unfold ndV
  rw [if_pos h, if_pos hu]
theorem ndV_s {u : Nat} {S : Nat → Int32} {k x y : Int32} (h : ndG u k x y) (hu : u < 120) (hs : ¬ ndS S k x y ≤ c8 40) : c8 (-3) = ndV u S k x y := by
  unfold ndV
  rw [if_pos h, if_neg (by omega), if_neg hs]
theorem ndV_y {u : Nat} {S : Nat → Int32} {k x y : Int32} (h : ndG u k x y) (hu : u < 120) (hs : ndS S k x y ≤ c8 40) : nI u = ndV u S k x y := by
  unfold ndV
  rw [if_pos h, if_neg (by omega), if_pos hs]
theorem ndS_e {u : Nat} {S S' : Nat → Int32} {k x y : Int32} (e : ∀ n, n < u → S n = S' n) (h : ndG u k x y) : ndS S k x y = ndS S' k x y := by
  have cl : ∀ z : Int32, 0 ≤ z.toInt ∧ z.toInt < (u : Int) → S z.toNatClampNeg = S' z.toNatClampNeg := fun z hz => e _ (by show z.toInt.toNat < u; omega)
  unfold ndS
  rw [cl x h.2.1]
  split
  · rename_i q
    rw [cl y (h.2.2.1 q)]
  · rfl
theorem ndV_e {u : Nat} {S S' : Nat → Int32} {k x y : Int32} (e : ∀ n, n < u → S n = S' n) : ndV u S k x y = ndV u S' k x y := by
  unfold ndV
  split
  · rename_i h
    rw [ndS_e e h]
  · rfl
def ndv (z : Int32) (k y : Int32) : Int32 := if k.toInt = 9 then y else z
def ndy (z : Int32) (k y : Int32) : Int32 := if k.toInt ≤ 6 then y else z
theorem iz0 {x : Int32} : x = 0 ↔ x.toInt = 0 := by rw [← Int32.toInt_inj]; rfl
theorem ic {x : Int32} (c : Int32) : x = c ↔ x.toInt = c.toInt := Int32.toInt_inj.symm
set_option maxHeartbeats 1000000 in
set_option maxRecDepth 20000 in
theorem cLeafX (O : Nat → Int32) (P : Nat → Nat → Int32) (Y : Nat → Nat → Int64) (g : Nat → zC) {u : Nat} (hu : u ≤ 120) (k v : Int32) : zK 3 zX6_leaf [.ref 0, .int k, .int v] (wX (upd O 1 (nI u)) P Y g) (fun r w' => r = some (.int (lfV u k v)) ∧ ((¬ (lfG k v ∧ u < 120) ∧ w' = (wX (upd O 1 (nI u)) P Y g)) ∨ ((lfG k v ∧ u < 120) ∧ ∃ sh, w' = wX (upd O 1 (nI (u + 1))) (stC 1 P u k v m1 m1 sh) Y g))) := by
  refine zK_of qX6_leaf (by decide +kernel) rfl ?_
  iterate 2 (refine zv_step (bX6_leaf 3) rfl rfl trivial ?_)
  refine zv_ifb (fun h1 => ?_) (fun h1 => ?_)
  · iterate 2 (refine zv_step (bX6_leaf 3) rfl rfl trivial ?_)
    refine zv_ifb (fun h12 => ?_) (fun h12 => ?_)
    · have q12 : v.toInt < 0 := by
        have h9 := h12
        rwa [Int32.lt_iff_toInt_lt, Int32.toInt_zero] at h9
      iterate 1 (refine zv_step (bX6_leaf 3) rfl rfl trivial ?_)
      have hk9 : k.toInt = 0 := iz0.mp h1
      have hng : ¬ lfG k v := fun q => by omega
      exact zv_iret (bX6_leaf 3) rfl (Or.inl rfl) (Nat.zero_le _) (Nat.zero_le _) ⟨congrArg (fun v => some (Value.int v)) (lfV_n hng), Or.inl ⟨fun q => hng q.1, rfl⟩⟩
    · have q12 : 0 ≤ v.toInt := by
        have h9 := h12
        rw [Int32.lt_iff_toInt_lt, Int32.toInt_zero] at h9
        omega
      iterate 3 (refine zv_step (bX6_leaf 3) rfl rfl trivial ?_)
      refine zv_iff (fun h => h (show k = 0 from h1)) ?_
      iterate 3 (refine zv_step (bX6_leaf 3) rfl rfl trivial ?_)
      refine zv_ifb (fun h28 => ?_) (fun h28 => ?_)
      · have q28 : v.toInt ≤ 9 := by
          have h9 := h28
          rw [Int32.le_iff_toInt_le] at h9
          exact h9
        iterate 2 (refine zv_step (bX6_leaf 3) rfl rfl trivial ?_)
        refine zv_V0 (bX6_leaf 3) rfl rfl rfl rfl rfl rfl rfl ⟨rfl, rfl, rfl⟩ ⟨by decide, by decide⟩ ⟨Nat.zero_le _, Nat.zero_le _⟩ (pFull1 (upd O 1 (nI u)) P Y g) ?_
        rintro _ _ ⟨rfl, ⟨hf, rfl⟩ | ⟨hf, rfl⟩⟩
        · have hfu : u = 120 := by
            have h9 : 120 ≤ (nI u).toInt := hf
            rw [nI_toInt (by omega)] at h9
            omega
          iterate 1 (refine zv_step (bX6_leaf 3) rfl rfl trivial ?_)
          refine zv_iff (by decide) ?_
          iterate 2 (refine zv_step (bX6_leaf 3) rfl rfl trivial ?_)
          have hlg : lfG k v := Or.inl ⟨iz0.mp h1, q12, q28⟩
          exact zv_iret (bX6_leaf 3) rfl (Or.inl rfl) (Nat.zero_le _) (Nat.zero_le _) ⟨congrArg (fun v => some (Value.int v)) (lfV_f hlg hfu), Or.inl ⟨fun q => by omega, rfl⟩⟩
        · have hlt : u < 120 := by
            have h9 : ¬ 120 ≤ (nI u).toInt := hf
            rw [nI_toInt (by omega)] at h9
            omega
          iterate 1 (refine zv_step (bX6_leaf 3) rfl rfl trivial ?_)
          refine zv_ift (by decide) ?_
          iterate 6 (refine zv_step (bX6_leaf 3) rfl rfl trivial ?_)
          refine zv_V4 (bX6_leaf 3) rfl rfl rfl rfl rfl rfl rfl ⟨rfl, rfl, rfl⟩ ⟨by decide, by decide⟩ ⟨Nat.zero_le _, Nat.zero_le _⟩ (pPut1 (upd O 1 (nI u)) P Y g (show (nI u).toInt ≤ 120 by rw [nI_toInt (by omega)]; omega) (m := u) hlt rfl (k) (v) (m1) (m1)) ?_
          rintro r9 w9 hpo
          obtain ⟨rfl, sh, rfl⟩ := putX1 hlt hpo
          have hlg : lfG k v := Or.inl ⟨iz0.mp h1, q12, q28⟩
          exact zv_iret (bX6_leaf 3) rfl (Or.inl rfl) (Nat.zero_le _) (Nat.zero_le _) ⟨congrArg (fun v => some (Value.int v)) (lfV_y hlg hlt), Or.inr ⟨⟨hlg, hlt⟩, sh, rfl⟩⟩
      · have q28 : ¬ v.toInt ≤ 9 := fun q => h28 (by rw [Int32.le_iff_toInt_le]; exact q)
        iterate 1 (refine zv_step (bX6_leaf 3) rfl rfl trivial ?_)
        have hk9 : k.toInt = 0 := iz0.mp h1
        have hng : ¬ lfG k v := fun q => by omega
        exact zv_iret (bX6_leaf 3) rfl (Or.inl rfl) (Nat.zero_le _) (Nat.zero_le _) ⟨congrArg (fun v => some (Value.int v)) (lfV_n hng), Or.inl ⟨fun q => hng q.1, rfl⟩⟩
  · iterate 3 (refine zv_step (bX6_leaf 3) rfl rfl trivial ?_)
    refine zv_ifb (fun h6 => ?_) (fun h6 => ?_)
    · iterate 2 (refine zv_step (bX6_leaf 3) rfl rfl trivial ?_)
      refine zv_ifb (fun h12 => ?_) (fun h12 => ?_)
      · have q12 : v.toInt < 0 := by
          have h9 := h12
          rwa [Int32.lt_iff_toInt_lt, Int32.toInt_zero] at h9
        iterate 1 (refine zv_step (bX6_leaf 3) rfl rfl trivial ?_)
        have hk9 : k.toInt = 1 := (ic _).mp h6
        have hng : ¬ lfG k v := fun q => by omega
        exact zv_iret (bX6_leaf 3) rfl (Or.inl rfl) (Nat.zero_le _) (Nat.zero_le _) ⟨congrArg (fun v => some (Value.int v)) (lfV_n hng), Or.inl ⟨fun q => hng q.1, rfl⟩⟩
      · have q12 : 0 ≤ v.toInt := by
          have h9 := h12
          rw [Int32.lt_iff_toInt_lt, Int32.toInt_zero] at h9
          omega
        iterate 3 (refine zv_step (bX6_leaf 3) rfl rfl trivial ?_)
        refine zv_ift (fun h => h1 h) ?_
        iterate 2 (refine zv_step (bX6_leaf 3) rfl rfl trivial ?_)
        refine zv_ifb (fun h28 => ?_) (fun h28 => ?_)
        · have q28 : v.toInt ≤ 9999 := by
            have h9 := h28
            rw [Int32.le_iff_toInt_le] at h9
            exact h9
          iterate 2 (refine zv_step (bX6_leaf 3) rfl rfl trivial ?_)
          refine zv_V0 (bX6_leaf 3) rfl rfl rfl rfl rfl rfl rfl ⟨rfl, rfl, rfl⟩ ⟨by decide, by decide⟩ ⟨Nat.zero_le _, Nat.zero_le _⟩ (pFull1 (upd O 1 (nI u)) P Y g) ?_
          rintro _ _ ⟨rfl, ⟨hf, rfl⟩ | ⟨hf, rfl⟩⟩
          · have hfu : u = 120 := by
              have h9 : 120 ≤ (nI u).toInt := hf
              rw [nI_toInt (by omega)] at h9
              omega
            iterate 1 (refine zv_step (bX6_leaf 3) rfl rfl trivial ?_)
            refine zv_iff (by decide) ?_
            iterate 2 (refine zv_step (bX6_leaf 3) rfl rfl trivial ?_)
            have hlg : lfG k v := Or.inr ⟨(ic _).mp h6, q12, q28⟩
            exact zv_iret (bX6_leaf 3) rfl (Or.inl rfl) (Nat.zero_le _) (Nat.zero_le _) ⟨congrArg (fun v => some (Value.int v)) (lfV_f hlg hfu), Or.inl ⟨fun q => by omega, rfl⟩⟩
          · have hlt : u < 120 := by
              have h9 : ¬ 120 ≤ (nI u).toInt := hf
              rw [nI_toInt (by omega)] at h9
              omega
            iterate 1 (refine zv_step (bX6_leaf 3) rfl rfl trivial ?_)
            refine zv_ift (by decide) ?_
            iterate 6 (refine zv_step (bX6_leaf 3) rfl rfl trivial ?_)
            refine zv_V4 (bX6_leaf 3) rfl rfl rfl rfl rfl rfl rfl ⟨rfl, rfl, rfl⟩ ⟨by decide, by decide⟩ ⟨Nat.zero_le _, Nat.zero_le _⟩ (pPut1 (upd O 1 (nI u)) P Y g (show (nI u).toInt ≤ 120 by rw [nI_toInt (by omega)]; omega) (m := u) hlt rfl (k) (v) (m1) (m1)) ?_
            rintro r9 w9 hpo
            obtain ⟨rfl, sh, rfl⟩ := putX1 hlt hpo
            have hlg : lfG k v := Or.inr ⟨(ic _).mp h6, q12, q28⟩
            exact zv_iret (bX6_leaf 3) rfl (Or.inl rfl) (Nat.zero_le _) (Nat.zero_le _) ⟨congrArg (fun v => some (Value.int v)) (lfV_y hlg hlt), Or.inr ⟨⟨hlg, hlt⟩, sh, rfl⟩⟩
        · have q28 : ¬ v.toInt ≤ 9999 := fun q => h28 (by rw [Int32.le_iff_toInt_le]; exact q)
          iterate 1 (refine zv_step (bX6_leaf 3) rfl rfl trivial ?_)
          have hk9 : k.toInt = 1 := (ic _).mp h6
          have hng : ¬ lfG k v := fun q => by omega
          exact zv_iret (bX6_leaf 3) rfl (Or.inl rfl) (Nat.zero_le _) (Nat.zero_le _) ⟨congrArg (fun v => some (Value.int v)) (lfV_n hng), Or.inl ⟨fun q => hng q.1, rfl⟩⟩
    · iterate 1 (refine zv_step (bX6_leaf 3) rfl rfl trivial ?_)
      have hng : ¬ lfG k v := fun q => by
        have a1 := fun e => h1 (iz0.mpr e)
        have a2 := fun e => h6 ((ic (Int32.ofInt 1)).mpr e)
        rcases q with q | q
        · exact a1 q.1
        · exact a2 q.1
      exact zv_iret (bX6_leaf 3) rfl (Or.inl rfl) (Nat.zero_le _) (Nat.zero_le _) ⟨congrArg (fun v => some (Value.int v)) (lfV_n hng), Or.inl ⟨fun q => hng q.1, rfl⟩⟩
set_option maxHeartbeats 1000000 in
set_option maxRecDepth 20000 in
theorem mLeafX (f : Nat → zC) (o : Nat → Int32) (A : Nat → Nat → Int32) (J : Nat → Nat → Int64) {u : Nat} (hu : u ≤ 120) (hT : tbI 0 u A) (k v : Int32) : zK 1 zX7_leaf [.ref 76, .int k, .int v] (wR f (upd o 0 (nI u)) A J) (fun r w' => r = some (.int (lfV u k v)) ∧ ((¬ (lfG k v ∧ u < 120) ∧ w' = (wR f (upd o 0 (nI u)) A J)) ∨ ((lfG k v ∧ u < 120) ∧ w' = wR f (upd o 0 (nI (u + 1))) (setsA A u k v m2 m2) J ∧ tbI 0 (u + 1) (setsA A u k v m2 m2)))) := by
  refine zK_of qX7_leaf (by decide +kernel) rfl ?_
  iterate 4 (refine zv_step (bX7_leaf 1) rfl rfl trivial ?_)
  refine zv_S3 (bX7_leaf 1) rfl rfl rfl rfl ⟨rfl, rfl, rfl⟩ ⟨by decide, by decide⟩ ⟨Nat.zero_le _, Nat.zero_le _⟩ (mIn _ _ _ _ (a := 0) (b := 1) (by decide) (by decide)) ?_
  rintro _ _ ⟨rfl, ⟨g1, rfl⟩ | ⟨g1, rfl⟩⟩
  · try rw [Int32.toInt_toInt64] at g1
    obtain ⟨kn, hk, rfl⟩ := in_nat (x := k) (b := 1) (by decide) g1
    iterate 1 (refine zv_step (bX7_leaf 1) rfl rfl trivial ?_)
    refine zv_iff (by decide) ?_
    iterate 5 (refine zv_step (bX7_leaf 1) rfl rfl trivial ?_)
    refine zv_ifb (fun h14 => ?_) (fun h14 => ?_)
    · iterate 1 (refine zv_step (bX7_leaf 1) rfl rfl trivial ?_)
      refine zv_S3 (bX7_leaf 1) rfl rfl rfl rfl ⟨rfl, rfl, rfl⟩ ⟨by decide, by decide⟩ ⟨Nat.zero_le _, Nat.zero_le _⟩ (mIn _ _ _ _ (a := 0) (b := 9999) (by decide) (by decide)) ?_
      rintro _ _ ⟨rfl, ⟨g2, rfl⟩ | ⟨g2, rfl⟩⟩
      · try rw [Int32.toInt_toInt64] at g2
        obtain ⟨w, hv, rfl⟩ := in_nat (x := v) (b := 9999) (by decide) g2
        iterate 1 (refine zv_step (bX7_leaf 1) rfl rfl trivial ?_)
        refine zv_ift (by decide) ?_
        iterate 4 (refine zv_step (bX7_leaf 1) rfl rfl trivial ?_)
        refine zv_ifb (fun h40 => ?_) (fun h40 => ?_)
        · have hlt : u < 120 := by
            rcases Nat.lt_or_ge u 120 with h | h
            · exact h
            · exact absurd (show nI u = c8 120 by rw [show u = 120 by omega]; rfl) h40
          iterate 7 (refine zv_step (bX7_leaf 1) rfl rfl trivial ?_)
          refine zv_V5 (bX7_leaf 1) rfl rfl rfl rfl rfl rfl rfl ⟨rfl, rfl, rfl⟩ ⟨by decide, by decide⟩ ⟨Nat.zero_le _, Nat.zero_le _⟩ (mSetsE f (upd o 0 (nI u)) A J (show upd o 0 (nI u) 0 = nI u from rfl) (by omega) vpm2 vpm2) ?_
          rintro _ _ ⟨rfl, rfl⟩
          iterate 10 (refine zv_step (bX7_leaf 1) rfl rfl trivial ?_)
          have hlg : lfG (nI kn) (nI w) := Or.inr ⟨by rw [nI_toInt (by omega)]; have : ¬ kn = 0 := fun e => h14 (by rw [e]; rfl); omega, by rw [nI_toInt (by omega)]; omega, by rw [nI_toInt (by omega)]; omega⟩
          exact zv_iret (bX7_leaf 1) rfl (Or.inl rfl) (Nat.zero_le _) (Nat.zero_le _) ⟨(by show some (Value.int (nI u + Int32.ofInt 1 - Int32.ofInt 1)) = _; rw [show nI u + Int32.ofInt 1 = nI (u + 1) from nI_1 _, show nI (u + 1) - Int32.ofInt 1 = nI u from nI_m1 _]; exact congrArg (fun v => some (Value.int v)) (lfV_y hlg hlt)), Or.inr ⟨⟨hlg, hlt⟩, by rw [show nI (u + 1) = nI u + Int32.ofInt 1 from (nI_1 u).symm]; rfl, tbI_sets hT (Nat.zero_le _) (by omega) (k := kn) (by omega) (Or.inl ⟨by omega, rfl, rfl⟩) ⟨fun h => absurd (show nI kn = 0 by rw [h.resolve_right (by omega)]; rfl) h14, fun h => ⟨w, by omega, rfl⟩, fun h => absurd h (by omega)⟩⟩⟩
        · have hfu : u = 120 := (nI_eq (b := 120) (by omega) (by decide)).mp (Decidable.not_not.mp h40)
          iterate 1 (refine zv_step (bX7_leaf 1) rfl rfl trivial ?_)
          have hlg : lfG (nI kn) (nI w) := Or.inr ⟨by rw [nI_toInt (by omega)]; have : ¬ kn = 0 := fun e => h14 (by rw [e]; rfl); omega, by rw [nI_toInt (by omega)]; omega, by rw [nI_toInt (by omega)]; omega⟩
          exact zv_iret (bX7_leaf 1) rfl (Or.inl rfl) (Nat.zero_le _) (Nat.zero_le _) ⟨congrArg (fun v => some (Value.int v)) (lfV_f hlg hfu), Or.inl ⟨fun q => by omega, rfl⟩⟩
      · try rw [Int32.toInt_toInt64] at g2
        iterate 1 (refine zv_step (bX7_leaf 1) rfl rfl trivial ?_)
        refine zv_iff (by decide) ?_
        iterate 1 (refine zv_step (bX7_leaf 1) rfl rfl trivial ?_)
        have hng : ¬ lfG (nI kn) v := fun q => by
          unfold lfG at q
          rw [nI_toInt (by omega)] at q
          rcases q with q | q
          · exact h14 (by rw [show kn = 0 by omega]; rfl)
          · exact g2 ⟨q.2.1, q.2.2⟩
        exact zv_iret (bX7_leaf 1) rfl (Or.inl rfl) (Nat.zero_le _) (Nat.zero_le _) ⟨congrArg (fun v => some (Value.int v)) (lfV_n hng), Or.inl ⟨fun q => hng q.1, rfl⟩⟩
    · have h9x : nI kn = 0 := Decidable.not_not.mp h14
      iterate 2 (refine zv_step (bX7_leaf 1) rfl rfl trivial ?_)
      refine zv_S3 (bX7_leaf 1) rfl rfl rfl rfl ⟨rfl, rfl, rfl⟩ ⟨by decide, by decide⟩ ⟨Nat.zero_le _, Nat.zero_le _⟩ (mIn _ _ _ _ (a := 0) (b := 9) (by decide) (by decide)) ?_
      rintro _ _ ⟨rfl, ⟨g2, rfl⟩ | ⟨g2, rfl⟩⟩
      · try rw [Int32.toInt_toInt64] at g2
        obtain ⟨w, hv, rfl⟩ := in_nat (x := v) (b := 9) (by decide) g2
        iterate 1 (refine zv_step (bX7_leaf 1) rfl rfl trivial ?_)
        refine zv_ift (by decide) ?_
        iterate 4 (refine zv_step (bX7_leaf 1) rfl rfl trivial ?_)
        refine zv_ifb (fun h40 => ?_) (fun h40 => ?_)
        · have hlt : u < 120 := by
            rcases Nat.lt_or_ge u 120 with h | h
            · exact h
            · exact absurd (show nI u = c8 120 by rw [show u = 120 by omega]; rfl) h40
          iterate 7 (refine zv_step (bX7_leaf 1) rfl rfl trivial ?_)
          refine zv_V5 (bX7_leaf 1) rfl rfl rfl rfl rfl rfl rfl ⟨rfl, rfl, rfl⟩ ⟨by decide, by decide⟩ ⟨Nat.zero_le _, Nat.zero_le _⟩ (mSetsE f (upd o 0 (nI u)) A J (show upd o 0 (nI u) 0 = nI u from rfl) (by omega) vpm2 vpm2) ?_
          rintro _ _ ⟨rfl, rfl⟩
          iterate 10 (refine zv_step (bX7_leaf 1) rfl rfl trivial ?_)
          have hlg : lfG (nI kn) (nI w) := Or.inl ⟨iz0.mp h9x, by rw [nI_toInt (by omega)]; omega, by rw [nI_toInt (by omega)]; omega⟩
          exact zv_iret (bX7_leaf 1) rfl (Or.inl rfl) (Nat.zero_le _) (Nat.zero_le _) ⟨(by show some (Value.int (nI u + Int32.ofInt 1 - Int32.ofInt 1)) = _; rw [show nI u + Int32.ofInt 1 = nI (u + 1) from nI_1 _, show nI (u + 1) - Int32.ofInt 1 = nI u from nI_m1 _]; exact congrArg (fun v => some (Value.int v)) (lfV_y hlg hlt)), Or.inr ⟨⟨hlg, hlt⟩, by rw [show nI (u + 1) = nI u + Int32.ofInt 1 from (nI_1 u).symm]; rfl, tbI_sets hT (Nat.zero_le _) (by omega) (k := kn) (by omega) (Or.inl ⟨by omega, rfl, rfl⟩) ⟨fun h => ⟨w, hv, rfl⟩, fun h => ⟨w, by omega, rfl⟩, fun h => absurd h (by omega)⟩⟩⟩
        · have hfu : u = 120 := (nI_eq (b := 120) (by omega) (by decide)).mp (Decidable.not_not.mp h40)
          iterate 1 (refine zv_step (bX7_leaf 1) rfl rfl trivial ?_)
          have hlg : lfG (nI kn) (nI w) := Or.inl ⟨iz0.mp h9x, by rw [nI_toInt (by omega)]; omega, by rw [nI_toInt (by omega)]; omega⟩
          exact zv_iret (bX7_leaf 1) rfl (Or.inl rfl) (Nat.zero_le _) (Nat.zero_le _) ⟨congrArg (fun v => some (Value.int v)) (lfV_f hlg hfu), Or.inl ⟨fun q => by omega, rfl⟩⟩
      · try rw [Int32.toInt_toInt64] at g2
        iterate 1 (refine zv_step (bX7_leaf 1) rfl rfl trivial ?_)
        refine zv_iff (by decide) ?_
        iterate 1 (refine zv_step (bX7_leaf 1) rfl rfl trivial ?_)
        have hng : ¬ lfG (nI kn) v := fun q => by
          unfold lfG at q
          rw [nI_toInt (by omega)] at q
          rcases q with q | q
          · exact g2 ⟨q.2.1, q.2.2⟩
          · exact absurd (iz0.mp h9x) (by rw [nI_toInt (by omega)]; omega)
        exact zv_iret (bX7_leaf 1) rfl (Or.inl rfl) (Nat.zero_le _) (Nat.zero_le _) ⟨congrArg (fun v => some (Value.int v)) (lfV_n hng), Or.inl ⟨fun q => hng q.1, rfl⟩⟩
  · try rw [Int32.toInt_toInt64] at g1
    iterate 1 (refine zv_step (bX7_leaf 1) rfl rfl trivial ?_)
    refine zv_ift (by decide) ?_
    iterate 1 (refine zv_step (bX7_leaf 1) rfl rfl trivial ?_)
    have hng : ¬ lfG k v := fun q => g1 (by omega)
    exact zv_iret (bX7_leaf 1) rfl (Or.inl rfl) (Nat.zero_le _) (Nat.zero_le _) ⟨congrArg (fun v => some (Value.int v)) (lfV_n hng), Or.inl ⟨fun q => hng q.1, rfl⟩⟩
set_option maxHeartbeats 1000000 in
set_option maxRecDepth 20000 in
theorem cNodeX (O : Nat → Int32) (P : Nat → Nat → Int32) (Y : Nat → Nat → Int64) (g : Nat → zC) {u : Nat} (hu : u ≤ 120) (k x y : Int32) : zK 3 zX6_node [.ref 0, .int k, .int x, .int y] (wX (upd O 1 (nI u)) P Y g) (fun r w' => r = some (.int (ndV u (P 6) k x y)) ∧ ((¬ (ndG u k x y ∧ u < 120 ∧ ndS (P 6) k x y ≤ c8 40) ∧ w' = (wX (upd O 1 (nI u)) P Y g)) ∨ ((ndG u k x y ∧ u < 120 ∧ ndS (P 6) k x y ≤ c8 40) ∧ ∃ sh, w' = wX (upd O 1 (nI (u + 1))) (stC 1 P u k (ndv m1 k y) x (ndy m1 k y) sh) Y g))) := by
  refine zK_of qX6_node (by decide +kernel) rfl ?_
  iterate 3 (refine zv_step (bX6_node 3) rfl rfl trivial ?_)
  refine zv_ifb (fun h2 => ?_) (fun h2 => ?_)
  · iterate 1 (refine zv_step (bX6_node 3) rfl rfl trivial ?_)
    have q2 : k.toInt < 2 := by
      have h9 := h2
      rw [Int32.lt_iff_toInt_lt] at h9
      exact h9
    have hng : ¬ ndG u k x y := fun q => by omega
    exact zv_iret (bX6_node 3) rfl (Or.inl rfl) (Nat.zero_le _) (Nat.zero_le _) ⟨congrArg (fun v => some (Value.int v)) (ndV_n hng), Or.inl ⟨fun q => hng q.1, rfl⟩⟩
  · have q2 : ¬ k.toInt < 2 := fun q => h2 (by rw [Int32.lt_iff_toInt_lt]; exact q)
    iterate 3 (refine zv_step (bX6_node 3) rfl rfl trivial ?_)
    refine zv_ifb (fun h8 => ?_) (fun h8 => ?_)
    · iterate 1 (refine zv_step (bX6_node 3) rfl rfl trivial ?_)
      have q8 : 9 < k.toInt := by
        have h9 := h8
        rw [Int32.lt_iff_toInt_lt] at h9
        exact h9
      have hng : ¬ ndG u k x y := fun q => by omega
      exact zv_iret (bX6_node 3) rfl (Or.inl rfl) (Nat.zero_le _) (Nat.zero_le _) ⟨congrArg (fun v => some (Value.int v)) (ndV_n hng), Or.inl ⟨fun q => hng q.1, rfl⟩⟩
    · have q8 : ¬ 9 < k.toInt := fun q => h8 (by rw [Int32.lt_iff_toInt_lt]; exact q)
      have k29 : 2 ≤ k.toInt ∧ k.toInt ≤ 9 := by omega
      iterate 3 (refine zv_step (bX6_node 3) rfl rfl trivial ?_)
      refine zv_V1 (bX6_node 3) rfl rfl rfl rfl rfl rfl rfl ⟨rfl, rfl, rfl⟩ ⟨by decide, by decide⟩ ⟨Nat.zero_le _, Nat.zero_le _⟩ (pHas1 (upd O 1 (nI u)) P Y g _) ?_
      rintro _ _ ⟨rfl, ⟨hx, rfl⟩ | ⟨hx, rfl⟩⟩
      · have hx1 : 0 ≤ x.toInt ∧ x.toInt < (u : Int) := by
          have h9 := hx
          rw [show (upd O 1 (nI u)) 1 = nI u from rfl, nI_toInt (by omega)] at h9
          exact h9
        iterate 1 (refine zv_step (bX6_node 3) rfl rfl trivial ?_)
        refine zv_ift (by decide) ?_
        iterate 1 (refine zv_step (bX6_node 3) rfl rfl trivial ?_)
        refine zv_S1 (bX6_node 3) rfl rfl rfl rfl ⟨rfl, rfl, rfl⟩ ⟨by decide, by decide⟩ ⟨Nat.zero_le _, Nat.zero_le _⟩ (hX1_isPair _ _) ?_
        rintro _ _ ⟨rfl, ⟨hpr, rfl⟩ | ⟨hpr, rfl⟩⟩
        · skip
          iterate 3 (refine zv_step (bX6_node 3) rfl rfl trivial ?_)
          refine zv_iff (by decide) ?_
          iterate 3 (refine zv_step (bX6_node 3) rfl rfl trivial ?_)
          refine zv_V1 (bX6_node 3) rfl rfl rfl rfl rfl rfl rfl ⟨rfl, rfl, rfl⟩ ⟨by decide, by decide⟩ ⟨Nat.zero_le _, Nat.zero_le _⟩ (pHas1 (upd O 1 (nI u)) P Y g _) ?_
          rintro _ _ ⟨rfl, ⟨hy, rfl⟩ | ⟨hy, rfl⟩⟩
          · have hy1 : 0 ≤ y.toInt ∧ y.toInt < (u : Int) := by
              have h9 := hy
              rw [show (upd O 1 (nI u)) 1 = nI u from rfl, nI_toInt (by omega)] at h9
              exact h9
            iterate 1 (refine zv_step (bX6_node 3) rfl rfl trivial ?_)
            refine zv_iff (by decide) ?_
            iterate 3 (refine zv_step (bX6_node 3) rfl rfl trivial ?_)
            refine zv_ifb (fun h49 => ?_) (fun h49 => ?_)
            · have q49 : ¬ k.toInt = 9 := fun e => h49 ((ic (c8 9)).mpr e)
              have hng : ndG u k x y := ⟨k29, hx1, fun _ => hy1, fun q => absurd q q49⟩
              iterate 2 (refine zv_step (bX6_node 3) rfl rfl trivial ?_)
              refine zv_V0 (bX6_node 3) rfl rfl rfl rfl rfl rfl rfl ⟨rfl, rfl, rfl⟩ ⟨by decide, by decide⟩ ⟨Nat.zero_le _, Nat.zero_le _⟩ (pFull1 (upd O 1 (nI u)) P Y g) ?_
              rintro _ _ ⟨rfl, ⟨hf, rfl⟩ | ⟨hf, rfl⟩⟩
              · have hfu : u = 120 := by
                  have h9 : 120 ≤ (nI u).toInt := hf
                  rw [nI_toInt (by omega)] at h9
                  omega
                iterate 1 (refine zv_step (bX6_node 3) rfl rfl trivial ?_)
                refine zv_iff (by decide) ?_
                iterate 1 (refine zv_step (bX6_node 3) rfl rfl trivial ?_)
                exact zv_iret (bX6_node 3) rfl (Or.inl rfl) (Nat.zero_le _) (Nat.zero_le _) ⟨congrArg (fun v => some (Value.int v)) (ndV_f hng hfu), Or.inl ⟨fun q => by omega, rfl⟩⟩
              · have hlt : u < 120 := by
                  have h9 : ¬ 120 ≤ (nI u).toInt := hf
                  rw [nI_toInt (by omega)] at h9
                  omega
                iterate 1 (refine zv_step (bX6_node 3) rfl rfl trivial ?_)
                refine zv_ift (by decide) ?_
                iterate 2 (refine zv_step (bX6_node 3) rfl rfl trivial ?_)
                refine zv_iff (by decide) ?_
                iterate 7 (refine zv_step (bX6_node 3) rfl rfl trivial ?_)
                refine zv_V1 (bX6_node 3) rfl rfl rfl rfl rfl rfl rfl ⟨rfl, rfl, rfl⟩ ⟨by decide, by decide⟩ ⟨Nat.zero_le _, Nat.zero_le _⟩ (pSizeOf1 (upd O 1 (nI u)) P Y g (show (nI u).toInt ≤ 120 by rw [nI_toInt (by omega)]; omega) _) ?_
                rintro _ _ ⟨rfl, ⟨hz1, rfl⟩ | ⟨hz1, rfl⟩⟩
                · skip
                  iterate 4 (refine zv_step (bX6_node 3) rfl rfl trivial ?_)
                  refine zv_V1 (bX6_node 3) rfl rfl rfl rfl rfl rfl rfl ⟨rfl, rfl, rfl⟩ ⟨by decide, by decide⟩ ⟨Nat.zero_le _, Nat.zero_le _⟩ (pSizeOf1 (upd O 1 (nI u)) P Y g (show (nI u).toInt ≤ 120 by rw [nI_toInt (by omega)]; omega) _) ?_
                  rintro _ _ ⟨rfl, ⟨hz2, rfl⟩ | ⟨hz2, rfl⟩⟩
                  · skip
                    have eS : ndS (P 6) k x y = Int32.ofInt 1 + P 6 x.toNatClampNeg + P 6 y.toNatClampNeg := by
                      unfold ndS
                      rw [if_pos hpr.2]
                    iterate 3 (refine zv_step (bX6_node 3) rfl rfl trivial ?_)
                    refine zv_ifb (fun h108 => ?_) (fun h108 => ?_)
                    · have hsz : ndS (P 6) k x y ≤ c8 40 := by rw [eS]; exact h108
                      iterate 6 (refine zv_step (bX6_node 3) rfl rfl trivial ?_)
                      refine zv_ift (fun h => q49 ((ic (c8 9)).mp h)) ?_
                      iterate 3 (refine zv_step (bX6_node 3) rfl rfl trivial ?_)
                      refine zv_V4 (bX6_node 3) rfl rfl rfl rfl rfl rfl rfl ⟨rfl, rfl, rfl⟩ ⟨by decide, by decide⟩ ⟨Nat.zero_le _, Nat.zero_le _⟩ (pPut1 (upd O 1 (nI u)) P Y g (show (nI u).toInt ≤ 120 by rw [nI_toInt (by omega)]; omega) (m := u) hlt rfl (k) (m1) (x) (y)) ?_
                      rintro r9 w9 hpo
                      obtain ⟨rfl, sh, rfl⟩ := putX1 hlt hpo
                      exact zv_iret (bX6_node 3) rfl (Or.inl rfl) (Nat.zero_le _) (Nat.zero_le _) ⟨congrArg (fun v => some (Value.int v)) (ndV_y hng hlt hsz), Or.inr ⟨⟨hng, hlt, hsz⟩, sh, by unfold ndv ndy; rw [if_neg q49, if_pos hpr.2]⟩⟩
                    · have hsz : ¬ ndS (P 6) k x y ≤ c8 40 := fun q => h108 (by rw [eS] at q; exact q)
                      iterate 1 (refine zv_step (bX6_node 3) rfl rfl trivial ?_)
                      exact zv_iret (bX6_node 3) rfl (Or.inl rfl) (Nat.zero_le _) (Nat.zero_le _) ⟨congrArg (fun v => some (Value.int v)) (ndV_s hng hlt hsz), Or.inl ⟨fun q => hsz q.2.2, rfl⟩⟩
                  · skip
                    exact absurd hy hz2
                · skip
                  exact absurd hx hz1
            · have q49 : k.toInt = 9 := (ic (c8 9)).mp (Decidable.not_not.mp h49)
              iterate 1 (refine zv_step (bX6_node 3) rfl rfl trivial ?_)
              refine zv_S1 (bX6_node 3) rfl rfl rfl rfl ⟨rfl, rfl, rfl⟩ ⟨by decide, by decide⟩ ⟨Nat.zero_le _, Nat.zero_le _⟩ (hX6_isLetter _ _) ?_
              rintro _ _ ⟨rfl, ⟨hl, rfl⟩ | ⟨hl, rfl⟩⟩
              · skip
                iterate 1 (refine zv_step (bX6_node 3) rfl rfl trivial ?_)
                refine zv_ift (by decide) ?_
                have hng : ndG u k x y := ⟨k29, hx1, fun _ => hy1, fun _ => hl⟩
                iterate 2 (refine zv_step (bX6_node 3) rfl rfl trivial ?_)
                refine zv_V0 (bX6_node 3) rfl rfl rfl rfl rfl rfl rfl ⟨rfl, rfl, rfl⟩ ⟨by decide, by decide⟩ ⟨Nat.zero_le _, Nat.zero_le _⟩ (pFull1 (upd O 1 (nI u)) P Y g) ?_
                rintro _ _ ⟨rfl, ⟨hf, rfl⟩ | ⟨hf, rfl⟩⟩
                · have hfu : u = 120 := by
                    have h9 : 120 ≤ (nI u).toInt := hf
                    rw [nI_toInt (by omega)] at h9
                    omega
                  iterate 1 (refine zv_step (bX6_node 3) rfl rfl trivial ?_)
                  refine zv_iff (by decide) ?_
                  iterate 1 (refine zv_step (bX6_node 3) rfl rfl trivial ?_)
                  exact zv_iret (bX6_node 3) rfl (Or.inl rfl) (Nat.zero_le _) (Nat.zero_le _) ⟨congrArg (fun v => some (Value.int v)) (ndV_f hng hfu), Or.inl ⟨fun q => by omega, rfl⟩⟩
                · have hlt : u < 120 := by
                    have h9 : ¬ 120 ≤ (nI u).toInt := hf
                    rw [nI_toInt (by omega)] at h9
                    omega
                  iterate 1 (refine zv_step (bX6_node 3) rfl rfl trivial ?_)
                  refine zv_ift (by decide) ?_
                  iterate 2 (refine zv_step (bX6_node 3) rfl rfl trivial ?_)
                  refine zv_iff (by decide) ?_
                  iterate 7 (refine zv_step (bX6_node 3) rfl rfl trivial ?_)
                  refine zv_V1 (bX6_node 3) rfl rfl rfl rfl rfl rfl rfl ⟨rfl, rfl, rfl⟩ ⟨by decide, by decide⟩ ⟨Nat.zero_le _, Nat.zero_le _⟩ (pSizeOf1 (upd O 1 (nI u)) P Y g (show (nI u).toInt ≤ 120 by rw [nI_toInt (by omega)]; omega) _) ?_
                  rintro _ _ ⟨rfl, ⟨hz1, rfl⟩ | ⟨hz1, rfl⟩⟩
                  · skip
                    iterate 4 (refine zv_step (bX6_node 3) rfl rfl trivial ?_)
                    refine zv_V1 (bX6_node 3) rfl rfl rfl rfl rfl rfl rfl ⟨rfl, rfl, rfl⟩ ⟨by decide, by decide⟩ ⟨Nat.zero_le _, Nat.zero_le _⟩ (pSizeOf1 (upd O 1 (nI u)) P Y g (show (nI u).toInt ≤ 120 by rw [nI_toInt (by omega)]; omega) _) ?_
                    rintro _ _ ⟨rfl, ⟨hz2, rfl⟩ | ⟨hz2, rfl⟩⟩
                    · skip
                      have eS : ndS (P 6) k x y = Int32.ofInt 1 + P 6 x.toNatClampNeg + P 6 y.toNatClampNeg := by
                        unfold ndS
                        rw [if_pos hpr.2]
                      iterate 3 (refine zv_step (bX6_node 3) rfl rfl trivial ?_)
                      refine zv_ifb (fun h108 => ?_) (fun h108 => ?_)
                      · have hsz : ndS (P 6) k x y ≤ c8 40 := by rw [eS]; exact h108
                        iterate 6 (refine zv_step (bX6_node 3) rfl rfl trivial ?_)
                        refine zv_iff (fun h => h49 h) ?_
                        iterate 4 (refine zv_step (bX6_node 3) rfl rfl trivial ?_)
                        refine zv_V4 (bX6_node 3) rfl rfl rfl rfl rfl rfl rfl ⟨rfl, rfl, rfl⟩ ⟨by decide, by decide⟩ ⟨Nat.zero_le _, Nat.zero_le _⟩ (pPut1 (upd O 1 (nI u)) P Y g (show (nI u).toInt ≤ 120 by rw [nI_toInt (by omega)]; omega) (m := u) hlt rfl (k) (y) (x) (y)) ?_
                        rintro r9 w9 hpo
                        obtain ⟨rfl, sh, rfl⟩ := putX1 hlt hpo
                        exact zv_iret (bX6_node 3) rfl (Or.inl rfl) (Nat.zero_le _) (Nat.zero_le _) ⟨congrArg (fun v => some (Value.int v)) (ndV_y hng hlt hsz), Or.inr ⟨⟨hng, hlt, hsz⟩, sh, by unfold ndv ndy; rw [if_pos q49, if_pos hpr.2]⟩⟩
                      · have hsz : ¬ ndS (P 6) k x y ≤ c8 40 := fun q => h108 (by rw [eS] at q; exact q)
                        iterate 1 (refine zv_step (bX6_node 3) rfl rfl trivial ?_)
                        exact zv_iret (bX6_node 3) rfl (Or.inl rfl) (Nat.zero_le _) (Nat.zero_le _) ⟨congrArg (fun v => some (Value.int v)) (ndV_s hng hlt hsz), Or.inl ⟨fun q => hsz q.2.2, rfl⟩⟩
                    · skip
                      exact absurd hy hz2
                  · skip
                    exact absurd hx hz1
              · skip
                iterate 1 (refine zv_step (bX6_node 3) rfl rfl trivial ?_)
                refine zv_iff (by decide) ?_
                iterate 1 (refine zv_step (bX6_node 3) rfl rfl trivial ?_)
                have hng : ¬ ndG u k x y := fun q => hl (q.2.2.2 q49)
                exact zv_iret (bX6_node 3) rfl (Or.inl rfl) (Nat.zero_le _) (Nat.zero_le _) ⟨congrArg (fun v => some (Value.int v)) (ndV_n hng), Or.inl ⟨fun q => hng q.1, rfl⟩⟩
          · have hy1 : ¬ (0 ≤ y.toInt ∧ y.toInt < (u : Int)) := fun q => hy (by rw [show (upd O 1 (nI u)) 1 = nI u from rfl, nI_toInt (by omega)]; exact q)
            iterate 1 (refine zv_step (bX6_node 3) rfl rfl trivial ?_)
            refine zv_ift (by decide) ?_
            iterate 1 (refine zv_step (bX6_node 3) rfl rfl trivial ?_)
            have hng : ¬ ndG u k x y := fun q => hy1 (q.2.2.1 hpr.2)
            exact zv_iret (bX6_node 3) rfl (Or.inl rfl) (Nat.zero_le _) (Nat.zero_le _) ⟨congrArg (fun v => some (Value.int v)) (ndV_n hng), Or.inl ⟨fun q => hng q.1, rfl⟩⟩
        · skip
          iterate 3 (refine zv_step (bX6_node 3) rfl rfl trivial ?_)
          refine zv_ift (by decide) ?_
          iterate 3 (refine zv_step (bX6_node 3) rfl rfl trivial ?_)
          refine zv_ifb (fun h49 => ?_) (fun h49 => ?_)
          · have q49 : ¬ k.toInt = 9 := fun e => h49 ((ic (c8 9)).mpr e)
            have hng : ndG u k x y := ⟨k29, hx1, fun q => absurd ⟨k29.1, q⟩ hpr, fun q => absurd q q49⟩
            iterate 2 (refine zv_step (bX6_node 3) rfl rfl trivial ?_)
            refine zv_V0 (bX6_node 3) rfl rfl rfl rfl rfl rfl rfl ⟨rfl, rfl, rfl⟩ ⟨by decide, by decide⟩ ⟨Nat.zero_le _, Nat.zero_le _⟩ (pFull1 (upd O 1 (nI u)) P Y g) ?_
            rintro _ _ ⟨rfl, ⟨hf, rfl⟩ | ⟨hf, rfl⟩⟩
            · have hfu : u = 120 := by
                have h9 : 120 ≤ (nI u).toInt := hf
                rw [nI_toInt (by omega)] at h9
                omega
              iterate 1 (refine zv_step (bX6_node 3) rfl rfl trivial ?_)
              refine zv_iff (by decide) ?_
              iterate 1 (refine zv_step (bX6_node 3) rfl rfl trivial ?_)
              exact zv_iret (bX6_node 3) rfl (Or.inl rfl) (Nat.zero_le _) (Nat.zero_le _) ⟨congrArg (fun v => some (Value.int v)) (ndV_f hng hfu), Or.inl ⟨fun q => by omega, rfl⟩⟩
            · have hlt : u < 120 := by
                have h9 : ¬ 120 ≤ (nI u).toInt := hf
                rw [nI_toInt (by omega)] at h9
                omega
              iterate 1 (refine zv_step (bX6_node 3) rfl rfl trivial ?_)
              refine zv_ift (by decide) ?_
              iterate 2 (refine zv_step (bX6_node 3) rfl rfl trivial ?_)
              refine zv_ift (by decide) ?_
              iterate 6 (refine zv_step (bX6_node 3) rfl rfl trivial ?_)
              refine zv_V1 (bX6_node 3) rfl rfl rfl rfl rfl rfl rfl ⟨rfl, rfl, rfl⟩ ⟨by decide, by decide⟩ ⟨Nat.zero_le _, Nat.zero_le _⟩ (pSizeOf1 (upd O 1 (nI u)) P Y g (show (nI u).toInt ≤ 120 by rw [nI_toInt (by omega)]; omega) _) ?_
              rintro _ _ ⟨rfl, ⟨hz1, rfl⟩ | ⟨hz1, rfl⟩⟩
              · skip
                iterate 4 (refine zv_step (bX6_node 3) rfl rfl trivial ?_)
                refine zv_V1 (bX6_node 3) rfl rfl rfl rfl rfl rfl rfl ⟨rfl, rfl, rfl⟩ ⟨by decide, by decide⟩ ⟨Nat.zero_le _, Nat.zero_le _⟩ (pSizeOf1 (upd O 1 (nI u)) P Y g (show (nI u).toInt ≤ 120 by rw [nI_toInt (by omega)]; omega) _) ?_
                rintro _ _ ⟨rfl, ⟨hz2, rfl⟩ | ⟨hz2, rfl⟩⟩
                · skip
                  exact absurd hz2.1 (by decide)
                · skip
                  have eS : ndS (P 6) k x y = Int32.ofInt 1 + P 6 x.toNatClampNeg + Int32.ofInt 0 := by
                    unfold ndS
                    rw [if_neg (show ¬ k.toInt ≤ 6 from fun q => hpr ⟨k29.1, q⟩)]
                  iterate 3 (refine zv_step (bX6_node 3) rfl rfl trivial ?_)
                  refine zv_ifb (fun h108 => ?_) (fun h108 => ?_)
                  · have hsz : ndS (P 6) k x y ≤ c8 40 := by rw [eS]; exact h108
                    iterate 6 (refine zv_step (bX6_node 3) rfl rfl trivial ?_)
                    refine zv_ift (fun h => q49 ((ic (c8 9)).mp h)) ?_
                    iterate 3 (refine zv_step (bX6_node 3) rfl rfl trivial ?_)
                    refine zv_V4 (bX6_node 3) rfl rfl rfl rfl rfl rfl rfl ⟨rfl, rfl, rfl⟩ ⟨by decide, by decide⟩ ⟨Nat.zero_le _, Nat.zero_le _⟩ (pPut1 (upd O 1 (nI u)) P Y g (show (nI u).toInt ≤ 120 by rw [nI_toInt (by omega)]; omega) (m := u) hlt rfl (k) (m1) (x) (m1)) ?_
                    rintro r9 w9 hpo
                    obtain ⟨rfl, sh, rfl⟩ := putX1 hlt hpo
                    exact zv_iret (bX6_node 3) rfl (Or.inl rfl) (Nat.zero_le _) (Nat.zero_le _) ⟨congrArg (fun v => some (Value.int v)) (ndV_y hng hlt hsz), Or.inr ⟨⟨hng, hlt, hsz⟩, sh, by unfold ndv ndy; rw [if_neg q49, if_neg (show ¬ k.toInt ≤ 6 from fun q => hpr ⟨k29.1, q⟩)]⟩⟩
                  · have hsz : ¬ ndS (P 6) k x y ≤ c8 40 := fun q => h108 (by rw [eS] at q; exact q)
                    iterate 1 (refine zv_step (bX6_node 3) rfl rfl trivial ?_)
                    exact zv_iret (bX6_node 3) rfl (Or.inl rfl) (Nat.zero_le _) (Nat.zero_le _) ⟨congrArg (fun v => some (Value.int v)) (ndV_s hng hlt hsz), Or.inl ⟨fun q => hsz q.2.2, rfl⟩⟩
              · skip
                exact absurd hx hz1
          · have q49 : k.toInt = 9 := (ic (c8 9)).mp (Decidable.not_not.mp h49)
            iterate 1 (refine zv_step (bX6_node 3) rfl rfl trivial ?_)
            refine zv_S1 (bX6_node 3) rfl rfl rfl rfl ⟨rfl, rfl, rfl⟩ ⟨by decide, by decide⟩ ⟨Nat.zero_le _, Nat.zero_le _⟩ (hX6_isLetter _ _) ?_
            rintro _ _ ⟨rfl, ⟨hl, rfl⟩ | ⟨hl, rfl⟩⟩
            · skip
              iterate 1 (refine zv_step (bX6_node 3) rfl rfl trivial ?_)
              refine zv_ift (by decide) ?_
              have hng : ndG u k x y := ⟨k29, hx1, fun q => absurd ⟨k29.1, q⟩ hpr, fun _ => hl⟩
              iterate 2 (refine zv_step (bX6_node 3) rfl rfl trivial ?_)
              refine zv_V0 (bX6_node 3) rfl rfl rfl rfl rfl rfl rfl ⟨rfl, rfl, rfl⟩ ⟨by decide, by decide⟩ ⟨Nat.zero_le _, Nat.zero_le _⟩ (pFull1 (upd O 1 (nI u)) P Y g) ?_
              rintro _ _ ⟨rfl, ⟨hf, rfl⟩ | ⟨hf, rfl⟩⟩
              · have hfu : u = 120 := by
                  have h9 : 120 ≤ (nI u).toInt := hf
                  rw [nI_toInt (by omega)] at h9
                  omega
                iterate 1 (refine zv_step (bX6_node 3) rfl rfl trivial ?_)
                refine zv_iff (by decide) ?_
                iterate 1 (refine zv_step (bX6_node 3) rfl rfl trivial ?_)
                exact zv_iret (bX6_node 3) rfl (Or.inl rfl) (Nat.zero_le _) (Nat.zero_le _) ⟨congrArg (fun v => some (Value.int v)) (ndV_f hng hfu), Or.inl ⟨fun q => by omega, rfl⟩⟩
              · have hlt : u < 120 := by
                  have h9 : ¬ 120 ≤ (nI u).toInt := hf
                  rw [nI_toInt (by omega)] at h9
                  omega
                iterate 1 (refine zv_step (bX6_node 3) rfl rfl trivial ?_)
                refine zv_ift (by decide) ?_
                iterate 2 (refine zv_step (bX6_node 3) rfl rfl trivial ?_)
                refine zv_ift (by decide) ?_
                iterate 6 (refine zv_step (bX6_node 3) rfl rfl trivial ?_)
                refine zv_V1 (bX6_node 3) rfl rfl rfl rfl rfl rfl rfl ⟨rfl, rfl, rfl⟩ ⟨by decide, by decide⟩ ⟨Nat.zero_le _, Nat.zero_le _⟩ (pSizeOf1 (upd O 1 (nI u)) P Y g (show (nI u).toInt ≤ 120 by rw [nI_toInt (by omega)]; omega) _) ?_
                rintro _ _ ⟨rfl, ⟨hz1, rfl⟩ | ⟨hz1, rfl⟩⟩
                · skip
                  iterate 4 (refine zv_step (bX6_node 3) rfl rfl trivial ?_)
                  refine zv_V1 (bX6_node 3) rfl rfl rfl rfl rfl rfl rfl ⟨rfl, rfl, rfl⟩ ⟨by decide, by decide⟩ ⟨Nat.zero_le _, Nat.zero_le _⟩ (pSizeOf1 (upd O 1 (nI u)) P Y g (show (nI u).toInt ≤ 120 by rw [nI_toInt (by omega)]; omega) _) ?_
                  rintro _ _ ⟨rfl, ⟨hz2, rfl⟩ | ⟨hz2, rfl⟩⟩
                  · skip
                    exact absurd hz2.1 (by decide)
                  · skip
                    have eS : ndS (P 6) k x y = Int32.ofInt 1 + P 6 x.toNatClampNeg + Int32.ofInt 0 := by
                      unfold ndS
                      rw [if_neg (show ¬ k.toInt ≤ 6 from fun q => hpr ⟨k29.1, q⟩)]
                    iterate 3 (refine zv_step (bX6_node 3) rfl rfl trivial ?_)
                    refine zv_ifb (fun h108 => ?_) (fun h108 => ?_)
                    · have hsz : ndS (P 6) k x y ≤ c8 40 := by rw [eS]; exact h108
                      iterate 6 (refine zv_step (bX6_node 3) rfl rfl trivial ?_)
                      refine zv_iff (fun h => h49 h) ?_
                      iterate 4 (refine zv_step (bX6_node 3) rfl rfl trivial ?_)
                      refine zv_V4 (bX6_node 3) rfl rfl rfl rfl rfl rfl rfl ⟨rfl, rfl, rfl⟩ ⟨by decide, by decide⟩ ⟨Nat.zero_le _, Nat.zero_le _⟩ (pPut1 (upd O 1 (nI u)) P Y g (show (nI u).toInt ≤ 120 by rw [nI_toInt (by omega)]; omega) (m := u) hlt rfl (k) (y) (x) (m1)) ?_
                      rintro r9 w9 hpo
                      obtain ⟨rfl, sh, rfl⟩ := putX1 hlt hpo
                      exact zv_iret (bX6_node 3) rfl (Or.inl rfl) (Nat.zero_le _) (Nat.zero_le _) ⟨congrArg (fun v => some (Value.int v)) (ndV_y hng hlt hsz), Or.inr ⟨⟨hng, hlt, hsz⟩, sh, by unfold ndv ndy; rw [if_pos q49, if_neg (show ¬ k.toInt ≤ 6 from fun q => hpr ⟨k29.1, q⟩)]⟩⟩
                    · have hsz : ¬ ndS (P 6) k x y ≤ c8 40 := fun q => h108 (by rw [eS] at q; exact q)
                      iterate 1 (refine zv_step (bX6_node 3) rfl rfl trivial ?_)
                      exact zv_iret (bX6_node 3) rfl (Or.inl rfl) (Nat.zero_le _) (Nat.zero_le _) ⟨congrArg (fun v => some (Value.int v)) (ndV_s hng hlt hsz), Or.inl ⟨fun q => hsz q.2.2, rfl⟩⟩
                · skip
                  exact absurd hx hz1
            · skip
              iterate 1 (refine zv_step (bX6_node 3) rfl rfl trivial ?_)
              refine zv_iff (by decide) ?_
              iterate 1 (refine zv_step (bX6_node 3) rfl rfl trivial ?_)
              have hng : ¬ ndG u k x y := fun q => hl (q.2.2.2 q49)
              exact zv_iret (bX6_node 3) rfl (Or.inl rfl) (Nat.zero_le _) (Nat.zero_le _) ⟨congrArg (fun v => some (Value.int v)) (ndV_n hng), Or.inl ⟨fun q => hng q.1, rfl⟩⟩
      · have hx1 : ¬ (0 ≤ x.toInt ∧ x.toInt < (u : Int)) := fun q => hx (by rw [show (upd O 1 (nI u)) 1 = nI u from rfl, nI_toInt (by omega)]; exact q)
        iterate 1 (refine zv_step (bX6_node 3) rfl rfl trivial ?_)
        refine zv_iff (by decide) ?_
        iterate 1 (refine zv_step (bX6_node 3) rfl rfl trivial ?_)
        have hng : ¬ ndG u k x y := fun q => hx1 q.2.1
        exact zv_iret (bX6_node 3) rfl (Or.inl rfl) (Nat.zero_le _) (Nat.zero_le _) ⟨congrArg (fun v => some (Value.int v)) (ndV_n hng), Or.inl ⟨fun q => hng q.1, rfl⟩⟩
set_option maxHeartbeats 1000000 in
set_option maxRecDepth 20000 in
theorem mNodeX (f : Nat → zC) (o : Nat → Int32) (A : Nat → Nat → Int32) (J : Nat → Nat → Int64) {u : Nat} (hu : u ≤ 120) (hT : tbI 0 u A) (k x y : Int32) : zK 2 zX7_node [.ref 76, .int k, .int x, .int y] (wR f (upd o 0 (nI u)) A J) (fun r w' => r = some (.int (ndV u (A 4) k x y)) ∧ ((¬ (ndG u k x y ∧ u < 120 ∧ ndS (A 4) k x y ≤ c8 40) ∧ w' = (wR f (upd o 0 (nI u)) A J)) ∨ ((ndG u k x y ∧ u < 120 ∧ ndS (A 4) k x y ≤ c8 40) ∧ w' = wR f (upd o 0 (nI (u + 1))) (setsA A u k (ndv m2 k y) x (ndy m2 k y)) J ∧ tbI 0 (u + 1) (setsA A u k (ndv m2 k y) x (ndy m2 k y))))) := by
  refine zK_of qX7_node (by decide +kernel) rfl ?_
  iterate 4 (refine zv_step (bX7_node 2) rfl rfl trivial ?_)
  refine zv_S3 (bX7_node 2) rfl rfl rfl rfl ⟨rfl, rfl, rfl⟩ ⟨by decide, by decide⟩ ⟨Nat.zero_le _, Nat.zero_le _⟩ (mIn _ _ _ _ (a := 2) (b := 9) (by decide) (by decide)) ?_
  rintro _ _ ⟨rfl, ⟨g1, rfl⟩ | ⟨g1, rfl⟩⟩
  · try rw [Int32.toInt_toInt64] at g1
    obtain ⟨k, hk9, rfl⟩ := in_nat (x := k) (b := 9) (by decide) ⟨by omega, by omega⟩
    rw [nI_toInt (by omega)] at g1
    iterate 1 (refine zv_step (bX7_node 2) rfl rfl trivial ?_)
    refine zv_iff (by decide) ?_
    iterate 2 (refine zv_step (bX7_node 2) rfl rfl trivial ?_)
    refine zv_V1 (bX7_node 2) rfl rfl rfl rfl rfl rfl rfl ⟨rfl, rfl, rfl⟩ ⟨by decide, by decide⟩ ⟨Nat.zero_le _, Nat.zero_le _⟩ (mIsNode f (upd o 0 (nI u)) A J hu rfl _) ?_
    rintro _ _ ⟨rfl, ⟨g2, rfl⟩ | ⟨g2, rfl⟩⟩
    · obtain ⟨n, hn, rfl⟩ := nd_of (by omega) g2
      iterate 1 (refine zv_step (bX7_node 2) rfl rfl trivial ?_)
      refine zv_iff (by decide) ?_
      iterate 3 (refine zv_step (bX7_node 2) rfl rfl trivial ?_)
      refine zv_ifb (fun h25 => ?_) (fun h25 => ?_)
      · have k9 : k ≠ 9 := fun e => h25 (by rw [e]; rfl)
        iterate 1 (refine zv_step (bX7_node 2) rfl rfl trivial ?_)
        refine zv_S1 (bX7_node 2) rfl rfl rfl rfl ⟨rfl, rfl, rfl⟩ ⟨by decide, by decide⟩ ⟨Nat.zero_le _, Nat.zero_le _⟩ (hX7_isTwo _ _) ?_
        rintro _ _ ⟨rfl, ⟨g4, rfl⟩ | ⟨g4, rfl⟩⟩
        · have k2 : 2 ≤ k ∧ k ≤ 6 := by rw [nI_toInt (by omega)] at g4; omega
          iterate 1 (refine zv_step (bX7_node 2) rfl rfl trivial ?_)
          refine zv_iff (by decide) ?_
          iterate 2 (refine zv_step (bX7_node 2) rfl rfl trivial ?_)
          refine zv_V1 (bX7_node 2) rfl rfl rfl rfl rfl rfl rfl ⟨rfl, rfl, rfl⟩ ⟨by decide, by decide⟩ ⟨Nat.zero_le _, Nat.zero_le _⟩ (mIsNode f (upd o 0 (nI u)) A J hu rfl _) ?_
          rintro _ _ ⟨rfl, ⟨g5, rfl⟩ | ⟨g5, rfl⟩⟩
          · obtain ⟨m, hm, rfl⟩ := nd_of (by omega) g5
            iterate 1 (refine zv_step (bX7_node 2) rfl rfl trivial ?_)
            refine zv_iff (by decide) ?_
            iterate 5 (refine zv_step (bX7_node 2) rfl rfl trivial ?_)
            refine zv_ift (by decide) ?_
            have hng : ndG u (nI k) (nI n) (nI m) := ⟨⟨by rw [nI_toInt (by omega)]; omega, by rw [nI_toInt (by omega)]; omega⟩, ⟨by rw [nI_toInt (by omega)]; omega, by rw [nI_toInt (by omega)]; omega⟩, fun _ => ⟨by rw [nI_toInt (by omega)]; omega, by rw [nI_toInt (by omega)]; omega⟩, fun q => by rw [nI_toInt (by omega)] at q; omega⟩
            iterate 4 (refine zv_step (bX7_node 2) rfl rfl trivial ?_)
            refine zv_ifb (fun h78 => ?_) (fun h78 => ?_)
            · have hlt : u < 120 := by
                rcases Nat.lt_or_ge u 120 with h | h
                · exact h
                · exact absurd (show nI u = c8 120 by rw [show u = 120 by omega]; rfl) h78
              have sn := (rN_sz (hT n (Nat.zero_le _) hn)).2.1
              have sm := (rN_sz (hT m (Nat.zero_le _) hm)).2.1
              have eS : ndS (A 4) (nI k) (nI n) (nI m) = nI 1 + nI (szN A n) + nI (szN A m) := by
                unfold ndS
                rw [nI_clamp (show n < 2 ^ 31 by omega), (rN_sz (hT n (Nat.zero_le _) hn)).2.2, nI_toInt (show k < 2 ^ 31 by omega), if_pos (show (k : Int) ≤ 6 by omega), nI_clamp (show m < 2 ^ 31 by omega), (rN_sz (hT m (Nat.zero_le _) hm)).2.2]
                rfl
              iterate 4 (refine zv_step (bX7_node 2) rfl rfl trivial ?_)
              refine zv_iale (bX7_node 2) rfl rfl (vp_in_nI (by omega) (by decide)) (show A 4 (nI n).toNatClampNeg = nI (szN A n) by rw [nI_clamp (by omega)]; exact (rN_sz (hT n (Nat.zero_le _) (by omega))).2.2) ?_
              iterate 2 (refine zv_step (bX7_node 2) rfl rfl trivial ?_)
              refine zv_S1 (bX7_node 2) rfl rfl rfl rfl ⟨rfl, rfl, rfl⟩ ⟨by decide, by decide⟩ ⟨Nat.zero_le _, Nat.zero_le _⟩ (mTwoY _ k2.1 k2.2) ?_
              rintro _ _ ⟨rfl, rfl⟩
              iterate 1 (refine zv_step (bX7_node 2) rfl rfl trivial ?_)
              refine zv_iff (by decide) ?_
              iterate 3 (refine zv_step (bX7_node 2) rfl rfl trivial ?_)
              refine zv_iale (bX7_node 2) rfl rfl (vp_in_nI (by omega) (by decide)) (show A 4 (nI m).toNatClampNeg = nI (szN A m) by rw [nI_clamp (by omega)]; exact (rN_sz (hT m (Nat.zero_le _) (by omega))).2.2) ?_
              iterate 4 (refine zv_step (bX7_node 2) rfl rfl trivial ?_)
              refine zv_ifb (fun h112 => ?_) (fun h112 => ?_)
              · have hz : 1 + szN A n + szN A m ≤ 40 := by
                  have h8 : nI 1 + nI (szN A n) + nI (szN A m) ≤ nI 40 := h112
                  rw [nI_add, nI_add, nI_leI (by omega) (by decide)] at h8
                  omega
                iterate 7 (refine zv_step (bX7_node 2) rfl rfl trivial ?_)
                refine zv_ift (fun h => k9 ((nI_eq (by omega) (by decide)).mp h)) ?_
                iterate 3 (refine zv_step (bX7_node 2) rfl rfl trivial ?_)
                refine zv_S1 (bX7_node 2) rfl rfl rfl rfl ⟨rfl, rfl, rfl⟩ ⟨by decide, by decide⟩ ⟨Nat.zero_le _, Nat.zero_le _⟩ (mTwoY _ k2.1 k2.2) ?_
                rintro _ _ ⟨rfl, rfl⟩
                iterate 1 (refine zv_step (bX7_node 2) rfl rfl trivial ?_)
                refine zv_iff (by decide) ?_
                iterate 2 (refine zv_step (bX7_node 2) rfl rfl trivial ?_)
                refine zv_V5 (bX7_node 2) rfl rfl rfl rfl rfl rfl rfl ⟨rfl, rfl, rfl⟩ ⟨by decide, by decide⟩ ⟨Nat.zero_le _, Nat.zero_le _⟩ (mSetsE f (upd o 0 (nI u)) A J (show upd o 0 (nI u) 0 = nI u from rfl) (by omega) (fun _ => vp_in_nI (by omega) (by decide)) (fun _ => vp_in_nI (by omega) (by decide))) ?_
                rintro _ _ ⟨rfl, rfl⟩
                iterate 10 (refine zv_step (bX7_node 2) rfl rfl trivial ?_)
                have hsz : ndS (A 4) (nI k) (nI n) (nI m) ≤ c8 40 := by rw [eS]; exact h112
                have ev := show ndv m2 (nI k) (nI m) = m2 from if_neg (by rw [nI_toInt (by omega)]; omega)
                have ey := show ndy m2 (nI k) (nI m) = nI m from if_pos (by rw [nI_toInt (by omega)]; omega)
                exact zv_iret (bX7_node 2) rfl (Or.inl rfl) (Nat.zero_le _) (Nat.zero_le _) ⟨(by show some (Value.int (nI u + Int32.ofInt 1 - Int32.ofInt 1)) = _; rw [show nI u + Int32.ofInt 1 = nI (u + 1) from nI_1 _, show nI (u + 1) - Int32.ofInt 1 = nI u from nI_m1 _]; exact congrArg (fun v => some (Value.int v)) (ndV_y hng hlt hsz)), Or.inr ⟨⟨hng, hlt, hsz⟩, by rw [ev, ey]; exact ⟨by rw [show nI (u + 1) = nI u + Int32.ofInt 1 from (nI_1 u).symm]; rfl, tbI_sets hT (Nat.zero_le _) (by omega) (k := k) (by omega) (Or.inr (Or.inl ⟨by omega, by omega, n, m, rfl, Nat.zero_le _, hn, rfl, Nat.zero_le _, hm, hz⟩)) ⟨fun h => absurd h (by omega), fun h => absurd h (by omega), fun _ _ => rfl⟩⟩⟩⟩
              · iterate 1 (refine zv_step (bX7_node 2) rfl rfl trivial ?_)
                have hsz : ¬ ndS (A 4) (nI k) (nI n) (nI m) ≤ c8 40 := fun q => h112 (by rw [eS] at q; exact q)
                exact zv_iret (bX7_node 2) rfl (Or.inl rfl) (Nat.zero_le _) (Nat.zero_le _) ⟨congrArg (fun v => some (Value.int v)) (ndV_s hng hlt hsz), Or.inl ⟨fun q => hsz q.2.2, rfl⟩⟩
            · have hfu : u = 120 := (nI_eq (b := 120) (by omega) (by decide)).mp (Decidable.not_not.mp h78)
              iterate 1 (refine zv_step (bX7_node 2) rfl rfl trivial ?_)
              exact zv_iret (bX7_node 2) rfl (Or.inl rfl) (Nat.zero_le _) (Nat.zero_le _) ⟨congrArg (fun v => some (Value.int v)) (ndV_f hng hfu), Or.inl ⟨fun q => by omega, rfl⟩⟩
          · skip
            iterate 1 (refine zv_step (bX7_node 2) rfl rfl trivial ?_)
            refine zv_ift (by decide) ?_
            iterate 4 (refine zv_step (bX7_node 2) rfl rfl trivial ?_)
            refine zv_iff (by decide) ?_
            iterate 1 (refine zv_step (bX7_node 2) rfl rfl trivial ?_)
            have hng : ¬ ndG u (nI k) (nI n) y := fun q => g5 (by have := q.2.2.1 (by rw [nI_toInt (by omega)]; omega); omega)
            exact zv_iret (bX7_node 2) rfl (Or.inl rfl) (Nat.zero_le _) (Nat.zero_le _) ⟨congrArg (fun v => some (Value.int v)) (ndV_n hng), Or.inl ⟨fun q => hng q.1, rfl⟩⟩
        · have k7 : 7 ≤ k := by rw [nI_toInt (by omega)] at g4; omega
          iterate 1 (refine zv_step (bX7_node 2) rfl rfl trivial ?_)
          refine zv_ift (by decide) ?_
          iterate 5 (refine zv_step (bX7_node 2) rfl rfl trivial ?_)
          refine zv_ift (by decide) ?_
          have hng : ndG u (nI k) (nI n) (y) := ⟨⟨by rw [nI_toInt (by omega)]; omega, by rw [nI_toInt (by omega)]; omega⟩, ⟨by rw [nI_toInt (by omega)]; omega, by rw [nI_toInt (by omega)]; omega⟩, fun q => by rw [nI_toInt (by omega)] at q; omega, fun q => by rw [nI_toInt (by omega)] at q; omega⟩
          iterate 4 (refine zv_step (bX7_node 2) rfl rfl trivial ?_)
          refine zv_ifb (fun h78 => ?_) (fun h78 => ?_)
          · have hlt : u < 120 := by
              rcases Nat.lt_or_ge u 120 with h | h
              · exact h
              · exact absurd (show nI u = c8 120 by rw [show u = 120 by omega]; rfl) h78
            have sn := (rN_sz (hT n (Nat.zero_le _) hn)).2.1
            have eS : ndS (A 4) (nI k) (nI n) (y) = nI 1 + nI (szN A n) + nI 0 := by
              unfold ndS
              rw [nI_clamp (show n < 2 ^ 31 by omega), (rN_sz (hT n (Nat.zero_le _) hn)).2.2, nI_toInt (show k < 2 ^ 31 by omega), if_neg (show ¬ (k : Int) ≤ 6 by omega)]
              rfl
            iterate 4 (refine zv_step (bX7_node 2) rfl rfl trivial ?_)
            refine zv_iale (bX7_node 2) rfl rfl (vp_in_nI (by omega) (by decide)) (show A 4 (nI n).toNatClampNeg = nI (szN A n) by rw [nI_clamp (by omega)]; exact (rN_sz (hT n (Nat.zero_le _) (by omega))).2.2) ?_
            iterate 2 (refine zv_step (bX7_node 2) rfl rfl trivial ?_)
            refine zv_S1 (bX7_node 2) rfl rfl rfl rfl ⟨rfl, rfl, rfl⟩ ⟨by decide, by decide⟩ ⟨Nat.zero_le _, Nat.zero_le _⟩ (mTwoN _ (by omega) (by omega)) ?_
            rintro _ _ ⟨rfl, rfl⟩
            iterate 1 (refine zv_step (bX7_node 2) rfl rfl trivial ?_)
            refine zv_ift (by decide) ?_
            iterate 4 (refine zv_step (bX7_node 2) rfl rfl trivial ?_)
            refine zv_ifb (fun h112 => ?_) (fun h112 => ?_)
            · have hz : 1 + szN A n ≤ 40 := by
                have h8 : nI 1 + nI (szN A n) + nI 0 ≤ nI 40 := h112
                rw [nI_add, nI_add, nI_leI (by omega) (by decide)] at h8
                omega
              iterate 7 (refine zv_step (bX7_node 2) rfl rfl trivial ?_)
              refine zv_ift (fun h => k9 ((nI_eq (by omega) (by decide)).mp h)) ?_
              iterate 3 (refine zv_step (bX7_node 2) rfl rfl trivial ?_)
              refine zv_S1 (bX7_node 2) rfl rfl rfl rfl ⟨rfl, rfl, rfl⟩ ⟨by decide, by decide⟩ ⟨Nat.zero_le _, Nat.zero_le _⟩ (mTwoN _ (by omega) (by omega)) ?_
              rintro _ _ ⟨rfl, rfl⟩
              iterate 1 (refine zv_step (bX7_node 2) rfl rfl trivial ?_)
              refine zv_ift (by decide) ?_
              iterate 1 (refine zv_step (bX7_node 2) rfl rfl trivial ?_)
              refine zv_V5 (bX7_node 2) rfl rfl rfl rfl rfl rfl rfl ⟨rfl, rfl, rfl⟩ ⟨by decide, by decide⟩ ⟨Nat.zero_le _, Nat.zero_le _⟩ (mSetsE f (upd o 0 (nI u)) A J (show upd o 0 (nI u) 0 = nI u from rfl) (by omega) (fun _ => vp_in_nI (by omega) (by decide)) vpm2) ?_
              rintro _ _ ⟨rfl, rfl⟩
              iterate 10 (refine zv_step (bX7_node 2) rfl rfl trivial ?_)
              have hsz : ndS (A 4) (nI k) (nI n) (y) ≤ c8 40 := by rw [eS]; exact h112
              have ev := show ndv m2 (nI k) (y) = m2 from if_neg (by rw [nI_toInt (by omega)]; omega)
              have ey := show ndy m2 (nI k) (y) = m2 from if_neg (by rw [nI_toInt (by omega)]; omega)
              exact zv_iret (bX7_node 2) rfl (Or.inl rfl) (Nat.zero_le _) (Nat.zero_le _) ⟨(by show some (Value.int (nI u + Int32.ofInt 1 - Int32.ofInt 1)) = _; rw [show nI u + Int32.ofInt 1 = nI (u + 1) from nI_1 _, show nI (u + 1) - Int32.ofInt 1 = nI u from nI_m1 _]; exact congrArg (fun v => some (Value.int v)) (ndV_y hng hlt hsz)), Or.inr ⟨⟨hng, hlt, hsz⟩, by rw [ev, ey]; exact ⟨by rw [show nI (u + 1) = nI u + Int32.ofInt 1 from (nI_1 u).symm]; rfl, tbI_sets hT (Nat.zero_le _) (by omega) (k := k) (by omega) (Or.inr (Or.inr ⟨k7, n, rfl, Nat.zero_le _, hn, rfl, hz⟩)) ⟨fun h => absurd h (by omega), fun h => absurd h (by omega), fun _ _ => rfl⟩⟩⟩⟩
            · iterate 1 (refine zv_step (bX7_node 2) rfl rfl trivial ?_)
              have hsz : ¬ ndS (A 4) (nI k) (nI n) (y) ≤ c8 40 := fun q => h112 (by rw [eS] at q; exact q)
              exact zv_iret (bX7_node 2) rfl (Or.inl rfl) (Nat.zero_le _) (Nat.zero_le _) ⟨congrArg (fun v => some (Value.int v)) (ndV_s hng hlt hsz), Or.inl ⟨fun q => hsz q.2.2, rfl⟩⟩
          · have hfu : u = 120 := (nI_eq (b := 120) (by omega) (by decide)).mp (Decidable.not_not.mp h78)
            iterate 1 (refine zv_step (bX7_node 2) rfl rfl trivial ?_)
            exact zv_iret (bX7_node 2) rfl (Or.inl rfl) (Nat.zero_le _) (Nat.zero_le _) ⟨congrArg (fun v => some (Value.int v)) (ndV_f hng hfu), Or.inl ⟨fun q => by omega, rfl⟩⟩
      · have k9 : k = 9 := (nI_eq (by omega) (by decide)).mp (Decidable.not_not.mp h25)
        iterate 4 (refine zv_step (bX7_node 2) rfl rfl trivial ?_)
        refine zv_S3 (bX7_node 2) rfl rfl rfl rfl ⟨rfl, rfl, rfl⟩ ⟨by decide, by decide⟩ ⟨Nat.zero_le _, Nat.zero_le _⟩ (mIn _ _ _ _ (a := 0) (b := 9) (by decide) (by decide)) ?_
        rintro _ _ ⟨rfl, ⟨g3, rfl⟩ | ⟨g3, rfl⟩⟩
        · try rw [Int32.toInt_toInt64] at g3
          obtain ⟨v, hv, rfl⟩ := in_nat (x := y) (b := 9) (by decide) g3
          iterate 1 (refine zv_step (bX7_node 2) rfl rfl trivial ?_)
          refine zv_iff (by decide) ?_
          iterate 6 (refine zv_step (bX7_node 2) rfl rfl trivial ?_)
          refine zv_ift (by decide) ?_
          have hng : ndG u (nI k) (nI n) (nI v) := ⟨⟨by rw [nI_toInt (by omega)]; omega, by rw [nI_toInt (by omega)]; omega⟩, ⟨by rw [nI_toInt (by omega)]; omega, by rw [nI_toInt (by omega)]; omega⟩, fun q => by rw [nI_toInt (by omega)] at q; omega, fun _ => ⟨by rw [nI_toInt (by omega)]; omega, by rw [nI_toInt (by omega)]; omega⟩⟩
          iterate 4 (refine zv_step (bX7_node 2) rfl rfl trivial ?_)
          refine zv_ifb (fun h78 => ?_) (fun h78 => ?_)
          · have hlt : u < 120 := by
              rcases Nat.lt_or_ge u 120 with h | h
              · exact h
              · exact absurd (show nI u = c8 120 by rw [show u = 120 by omega]; rfl) h78
            have sn := (rN_sz (hT n (Nat.zero_le _) hn)).2.1
            have eS : ndS (A 4) (nI k) (nI n) (nI v) = nI 1 + nI (szN A n) + nI 0 := by
              unfold ndS
              rw [nI_clamp (show n < 2 ^ 31 by omega), (rN_sz (hT n (Nat.zero_le _) hn)).2.2, nI_toInt (show k < 2 ^ 31 by omega), if_neg (show ¬ (k : Int) ≤ 6 by omega)]
              rfl
            iterate 4 (refine zv_step (bX7_node 2) rfl rfl trivial ?_)
            refine zv_iale (bX7_node 2) rfl rfl (vp_in_nI (by omega) (by decide)) (show A 4 (nI n).toNatClampNeg = nI (szN A n) by rw [nI_clamp (by omega)]; exact (rN_sz (hT n (Nat.zero_le _) (by omega))).2.2) ?_
            iterate 2 (refine zv_step (bX7_node 2) rfl rfl trivial ?_)
            refine zv_S1 (bX7_node 2) rfl rfl rfl rfl ⟨rfl, rfl, rfl⟩ ⟨by decide, by decide⟩ ⟨Nat.zero_le _, Nat.zero_le _⟩ (mTwoN _ (by omega) (by omega)) ?_
            rintro _ _ ⟨rfl, rfl⟩
            iterate 1 (refine zv_step (bX7_node 2) rfl rfl trivial ?_)
            refine zv_ift (by decide) ?_
            iterate 4 (refine zv_step (bX7_node 2) rfl rfl trivial ?_)
            refine zv_ifb (fun h112 => ?_) (fun h112 => ?_)
            · have hz : 1 + szN A n ≤ 40 := by
                have h8 : nI 1 + nI (szN A n) + nI 0 ≤ nI 40 := h112
                rw [nI_add, nI_add, nI_leI (by omega) (by decide)] at h8
                omega
              iterate 7 (refine zv_step (bX7_node 2) rfl rfl trivial ?_)
              refine zv_iff (fun h => h (by rw [k9]; rfl)) ?_
              iterate 4 (refine zv_step (bX7_node 2) rfl rfl trivial ?_)
              refine zv_S1 (bX7_node 2) rfl rfl rfl rfl ⟨rfl, rfl, rfl⟩ ⟨by decide, by decide⟩ ⟨Nat.zero_le _, Nat.zero_le _⟩ (mTwoN _ (by omega) (by omega)) ?_
              rintro _ _ ⟨rfl, rfl⟩
              iterate 1 (refine zv_step (bX7_node 2) rfl rfl trivial ?_)
              refine zv_ift (by decide) ?_
              iterate 1 (refine zv_step (bX7_node 2) rfl rfl trivial ?_)
              refine zv_V5 (bX7_node 2) rfl rfl rfl rfl rfl rfl rfl ⟨rfl, rfl, rfl⟩ ⟨by decide, by decide⟩ ⟨Nat.zero_le _, Nat.zero_le _⟩ (mSetsE f (upd o 0 (nI u)) A J (show upd o 0 (nI u) 0 = nI u from rfl) (by omega) (fun _ => vp_in_nI (by omega) (by decide)) vpm2) ?_
              rintro _ _ ⟨rfl, rfl⟩
              iterate 10 (refine zv_step (bX7_node 2) rfl rfl trivial ?_)
              have hsz : ndS (A 4) (nI k) (nI n) (nI v) ≤ c8 40 := by rw [eS]; exact h112
              have ev := show ndv m2 (nI k) (nI v) = nI v from if_pos (by rw [nI_toInt (by omega)]; omega)
              have ey := show ndy m2 (nI k) (nI v) = m2 from if_neg (by rw [nI_toInt (by omega)]; omega)
              exact zv_iret (bX7_node 2) rfl (Or.inl rfl) (Nat.zero_le _) (Nat.zero_le _) ⟨(by show some (Value.int (nI u + Int32.ofInt 1 - Int32.ofInt 1)) = _; rw [show nI u + Int32.ofInt 1 = nI (u + 1) from nI_1 _, show nI (u + 1) - Int32.ofInt 1 = nI u from nI_m1 _]; exact congrArg (fun v => some (Value.int v)) (ndV_y hng hlt hsz)), Or.inr ⟨⟨hng, hlt, hsz⟩, by rw [ev, ey]; exact ⟨by rw [show nI (u + 1) = nI u + Int32.ofInt 1 from (nI_1 u).symm]; rfl, tbI_sets hT (Nat.zero_le _) (by omega) (k := k) (by omega) (Or.inr (Or.inr ⟨by omega, n, rfl, Nat.zero_le _, hn, rfl, hz⟩)) ⟨fun _ => ⟨v, hv, rfl⟩, fun h => absurd h (by omega), fun _ h => absurd h (by omega)⟩⟩⟩⟩
            · iterate 1 (refine zv_step (bX7_node 2) rfl rfl trivial ?_)
              have hsz : ¬ ndS (A 4) (nI k) (nI n) (nI v) ≤ c8 40 := fun q => h112 (by rw [eS] at q; exact q)
              exact zv_iret (bX7_node 2) rfl (Or.inl rfl) (Nat.zero_le _) (Nat.zero_le _) ⟨congrArg (fun v => some (Value.int v)) (ndV_s hng hlt hsz), Or.inl ⟨fun q => hsz q.2.2, rfl⟩⟩
          · have hfu : u = 120 := (nI_eq (b := 120) (by omega) (by decide)).mp (Decidable.not_not.mp h78)
            iterate 1 (refine zv_step (bX7_node 2) rfl rfl trivial ?_)
            exact zv_iret (bX7_node 2) rfl (Or.inl rfl) (Nat.zero_le _) (Nat.zero_le _) ⟨congrArg (fun v => some (Value.int v)) (ndV_f hng hfu), Or.inl ⟨fun q => by omega, rfl⟩⟩
        · try rw [Int32.toInt_toInt64] at g3
          iterate 1 (refine zv_step (bX7_node 2) rfl rfl trivial ?_)
          refine zv_ift (by decide) ?_
          iterate 4 (refine zv_step (bX7_node 2) rfl rfl trivial ?_)
          refine zv_iff (by decide) ?_
          iterate 1 (refine zv_step (bX7_node 2) rfl rfl trivial ?_)
          have hng : ¬ ndG u (nI k) (nI n) y := fun q => g3 (by have := q.2.2.2 (by rw [nI_toInt (by omega)]; omega); omega)
          exact zv_iret (bX7_node 2) rfl (Or.inl rfl) (Nat.zero_le _) (Nat.zero_le _) ⟨congrArg (fun v => some (Value.int v)) (ndV_n hng), Or.inl ⟨fun q => hng q.1, rfl⟩⟩
    · skip
      iterate 1 (refine zv_step (bX7_node 2) rfl rfl trivial ?_)
      refine zv_ift (by decide) ?_
      iterate 4 (refine zv_step (bX7_node 2) rfl rfl trivial ?_)
      refine zv_iff (by decide) ?_
      iterate 1 (refine zv_step (bX7_node 2) rfl rfl trivial ?_)
      have hng : ¬ ndG u (nI k) x y := fun q => g2 (by omega)
      exact zv_iret (bX7_node 2) rfl (Or.inl rfl) (Nat.zero_le _) (Nat.zero_le _) ⟨congrArg (fun v => some (Value.int v)) (ndV_n hng), Or.inl ⟨fun q => hng q.1, rfl⟩⟩
  · try rw [Int32.toInt_toInt64] at g1
    iterate 1 (refine zv_step (bX7_node 2) rfl rfl trivial ?_)
    refine zv_ift (by decide) ?_
    iterate 4 (refine zv_step (bX7_node 2) rfl rfl trivial ?_)
    refine zv_iff (by decide) ?_
    iterate 1 (refine zv_step (bX7_node 2) rfl rfl trivial ?_)
    have hng : ¬ ndG u k x y := fun q => g1 (by omega)
    exact zv_iret (bX7_node 2) rfl (Or.inl rfl) (Nat.zero_le _) (Nat.zero_le _) ⟨congrArg (fun v => some (Value.int v)) (ndV_n hng), Or.inl ⟨fun q => hng q.1, rfl⟩⟩
def unV (u : Nat) (b : Prop) [Decidable b] : Int32 := if u = 0 then Int32.ofInt (-1) else if b then c8 (-3) else nI (u - 1)
set_option maxHeartbeats 1000000 in
set_option maxRecDepth 20000 in
theorem cUndoX (O : Nat → Int32) (P : Nat → Nat → Int32) (Y : Nat → Nat → Int64) (g : Nat → zC) {u : Nat} (hu : u ≤ 120) (hb : O 13 = 0 ∨ O 13 = 1) : zK 1 zX6_undo [.ref 0] (wX (upd O 1 (nI u)) P Y g) (fun r w' => r = some (.int (unV u (O 13 = 1 ∧ P 56 0 = nI (u - 1)))) ∧ ((¬ (u ≠ 0 ∧ ¬ (O 13 = 1 ∧ P 56 0 = nI (u - 1))) ∧ w' = (wX (upd O 1 (nI u)) P Y g)) ∨ ((u ≠ 0 ∧ ¬ (O 13 = 1 ∧ P 56 0 = nI (u - 1))) ∧ w' = wX (upd O 1 (nI (u - 1))) P Y g))) := by
  refine zK_of qX6_undo (by decide +kernel) rfl ?_
  iterate 4 (refine zv_step (bX6_undo 1) rfl rfl trivial ?_)
  refine zv_ifb (fun h7 => ?_) (fun h7 => ?_)
  · have h0 : u ≠ 0 := fun e => h7 (by show nI u = 0; rw [e]; rfl)
    iterate 2 (refine zv_step (bX6_undo 1) rfl rfl trivial ?_)
    refine zv_V0 (bX6_undo 1) rfl rfl rfl rfl rfl rfl rfl ⟨rfl, rfl, rfl⟩ ⟨by decide, by decide⟩ ⟨Nat.zero_le _, Nat.zero_le _⟩ (wBegun (upd O 1 (nI u)) P Y g hb) ?_
    rintro _ _ ⟨rfl, rfl⟩
    iterate 1 (refine zv_step (bX6_undo 1) rfl rfl trivial ?_)
    refine zv_ifb (fun h19 => ?_) (fun h19 => ?_)
    · iterate 10 (refine zv_step (bX6_undo 1) rfl rfl trivial ?_)
      have q38 : ¬ (O 13 = 1 ∧ P 56 0 = nI (u - 1)) := fun q => absurd (show O 13 = 0 from h19) (by rw [q.1]; decide)
      have e9 : nI u - Int32.ofInt 1 = nI (u - 1) := sub_1 (by omega)
      exact zv_iret (bX6_undo 1) rfl (Or.inl rfl) (Nat.zero_le _) (Nat.zero_le _) ⟨by show some (Value.int (nI u - Int32.ofInt 1)) = _; unfold unV; rw [if_neg h0, if_neg q38, e9], Or.inr ⟨⟨h0, q38⟩, by rw [← e9]; rfl⟩⟩
    · iterate 2 (refine zv_step (bX6_undo 1) rfl rfl trivial ?_)
      refine zv_V0 (bX6_undo 1) rfl rfl rfl rfl rfl rfl rfl ⟨rfl, rfl, rfl⟩ ⟨by decide, by decide⟩ ⟨Nat.zero_le _, Nat.zero_le _⟩ (wTop (upd O 1 (nI u)) P Y g) ?_
      rintro _ _ ⟨rfl, rfl⟩
      iterate 6 (refine zv_step (bX6_undo 1) rfl rfl trivial ?_)
      refine zv_ifb (fun h38 => ?_) (fun h38 => ?_)
      · have q38 : ¬ (O 13 = 1 ∧ P 56 0 = nI (u - 1)) := fun q => h38 (show P 56 0 = nI u - Int32.ofInt 1 by rw [sub_1 (by omega)]; exact q.2)
        iterate 10 (refine zv_step (bX6_undo 1) rfl rfl trivial ?_)
        have e9 : nI u - Int32.ofInt 1 = nI (u - 1) := sub_1 (by omega)
        exact zv_iret (bX6_undo 1) rfl (Or.inl rfl) (Nat.zero_le _) (Nat.zero_le _) ⟨by show some (Value.int (nI u - Int32.ofInt 1)) = _; unfold unV; rw [if_neg h0, if_neg q38, e9], Or.inr ⟨⟨h0, q38⟩, by rw [← e9]; rfl⟩⟩
      · have q38 : (O 13 = 1 ∧ P 56 0 = nI (u - 1)) := ⟨hb.resolve_left h19, by have h9 : P 56 0 = nI u - Int32.ofInt 1 := Decidable.not_not.mp h38; rw [sub_1 (by omega)] at h9; exact h9⟩
        iterate 1 (refine zv_step (bX6_undo 1) rfl rfl trivial ?_)
        exact zv_iret (bX6_undo 1) rfl (Or.inl rfl) (Nat.zero_le _) (Nat.zero_le _) ⟨by unfold unV; rw [if_neg h0, if_pos q38], Or.inl ⟨fun q => q.2 q38, rfl⟩⟩
  · have h0 : u = 0 := (nI_eq (b := 0) (by omega) (by decide)).mp (Decidable.not_not.mp h7)
    iterate 1 (refine zv_step (bX6_undo 1) rfl rfl trivial ?_)
    exact zv_iret (bX6_undo 1) rfl (Or.inl rfl) (Nat.zero_le _) (Nat.zero_le _) ⟨by unfold unV; rw [if_pos h0], Or.inl ⟨fun q => q.1 h0, rfl⟩⟩
set_option maxHeartbeats 1000000 in
set_option maxRecDepth 20000 in
theorem mUndoX (f : Nat → zC) (o : Nat → Int32) (A : Nat → Nat → Int32) (J : Nat → Nat → Int64) {u : Nat} (hu : u ≤ 120) (hb : o 30 = 0 ∨ o 30 = 1) : zK 0 zX7_undo [.ref 76] (wR f (upd o 0 (nI u)) A J) (fun r w' => r = some (.int (unV u (o 30 = 1 ∧ A 20 0 = nI (u - 1)))) ∧ ((¬ (u ≠ 0 ∧ ¬ (o 30 = 1 ∧ A 20 0 = nI (u - 1))) ∧ w' = (wR f (upd o 0 (nI u)) A J)) ∨ ((u ≠ 0 ∧ ¬ (o 30 = 1 ∧ A 20 0 = nI (u - 1))) ∧ w' = wR f (upd o 0 (nI (u - 1))) A J))) := by
  refine zK_of qX7_undo (by decide +kernel) rfl ?_
  iterate 3 (refine zv_step (bX7_undo 0) rfl rfl trivial ?_)
  refine zv_ifb (fun h4 => ?_) (fun h4 => ?_)
  · have h0 : u ≠ 0 := fun e => h4 (by rw [e]; rfl)
    iterate 3 (refine zv_step (bX7_undo 0) rfl rfl trivial ?_)
    refine zv_ifb (fun h13 => ?_) (fun h13 => ?_)
    · iterate 8 (refine zv_step (bX7_undo 0) rfl rfl trivial ?_)
      have q28 : ¬ (o 30 = 1 ∧ A 20 0 = nI (u - 1)) := fun q => absurd (show o 30 = 0 from h13) (by rw [q.1]; decide)
      have e9 : nI u - Int32.ofInt 1 = nI (u - 1) := sub_1 (by omega)
      exact zv_iret (bX7_undo 0) rfl (Or.inl rfl) (Nat.zero_le _) (Nat.zero_le _) ⟨by show some (Value.int (nI u - Int32.ofInt 1)) = _; unfold unV; rw [if_neg h0, if_neg q28, e9], Or.inr ⟨⟨h0, q28⟩, by rw [← e9]; rfl⟩⟩
    · iterate 3 (refine zv_step (bX7_undo 0) rfl rfl trivial ?_)
      refine zv_step (bX7_undo 0) rfl rfl (show vp_in (nI 0) 41 from vp_in_nI (by decide) (by decide)) ?_
      iterate 5 (refine zv_step (bX7_undo 0) rfl rfl trivial ?_)
      refine zv_ifb (fun h28 => ?_) (fun h28 => ?_)
      · have q28 : ¬ (o 30 = 1 ∧ A 20 0 = nI (u - 1)) := fun q => h28 (show A 20 0 = nI u - Int32.ofInt 1 by rw [sub_1 (by omega)]; exact q.2)
        iterate 8 (refine zv_step (bX7_undo 0) rfl rfl trivial ?_)
        have e9 : nI u - Int32.ofInt 1 = nI (u - 1) := sub_1 (by omega)
        exact zv_iret (bX7_undo 0) rfl (Or.inl rfl) (Nat.zero_le _) (Nat.zero_le _) ⟨by show some (Value.int (nI u - Int32.ofInt 1)) = _; unfold unV; rw [if_neg h0, if_neg q28, e9], Or.inr ⟨⟨h0, q28⟩, by rw [← e9]; rfl⟩⟩
      · have q28 : (o 30 = 1 ∧ A 20 0 = nI (u - 1)) := ⟨hb.resolve_left h13, by have h9 : A 20 0 = nI u - Int32.ofInt 1 := Decidable.not_not.mp h28; rw [sub_1 (by omega)] at h9; exact h9⟩
        iterate 1 (refine zv_step (bX7_undo 0) rfl rfl trivial ?_)
        exact zv_iret (bX7_undo 0) rfl (Or.inl rfl) (Nat.zero_le _) (Nat.zero_le _) ⟨by unfold unV; rw [if_neg h0, if_pos q28], Or.inl ⟨fun q => q.2 q28, rfl⟩⟩
  · have h0 : u = 0 := (nI_eq (b := 0) (by omega) (by decide)).mp (Decidable.not_not.mp h4)
    iterate 1 (refine zv_step (bX7_undo 0) rfl rfl trivial ?_)
    exact zv_iret (bX7_undo 0) rfl (Or.inl rfl) (Nat.zero_le _) (Nat.zero_le _) ⟨by unfold unV; rw [if_pos h0], Or.inl ⟨fun q => q.1 h0, rfl⟩⟩
abbrev isN (u : Nat) (x : Int32) : Prop := 0 ≤ x.toInt ∧ x.toInt < (u : Int)
def wkV (u : Nat) (x : Int32) : Int32 := if isN u x then Int32.ofInt 0 else Int32.ofInt (-1)
set_option maxHeartbeats 1000000 in
set_option maxRecDepth 20000 in
theorem cWalkX (O : Nat → Int32) (P : Nat → Nat → Int32) (Y : Nat → Nat → Int64) (g : Nat → zC) {u : Nat} (hu : u ≤ 120) (hO : O 1 = nI u) (x : Int32) : zK 1 zX6_walk [.ref 0, .int x] (wX O P Y g) (fun r w' => r = some (.int (wkV u x)) ∧ ((¬ isN u x ∧ w' = wX O P Y g) ∨ (isN u x ∧ w' = wX (upd (upd O 13 (Int32.ofInt 1)) 14 (Int32.ofInt 0)) (updA P 56 (upd (P 56) 0 x)) Y g))) := by
  refine zK_of qX6_walk (by decide +kernel) rfl ?_
  iterate 3 (refine zv_step (bX6_walk 1) rfl rfl trivial ?_)
  refine zv_V1 (bX6_walk 1) rfl rfl rfl rfl rfl rfl rfl ⟨rfl, rfl, rfl⟩ ⟨by decide, by decide⟩ ⟨Nat.zero_le _, Nat.zero_le _⟩ (pHas1 O P Y g _) ?_
  rintro _ _ ⟨rfl, ⟨h1, rfl⟩ | ⟨h1, rfl⟩⟩
  · rw [hO, nI_toInt (by omega)] at h1
    iterate 1 (refine zv_step (bX6_walk 1) rfl rfl trivial ?_)
    refine zv_ift (by decide) ?_
    iterate 3 (refine zv_step (bX6_walk 1) rfl rfl trivial ?_)
    refine zv_V1 (bX6_walk 1) rfl rfl rfl rfl rfl rfl rfl ⟨rfl, rfl, rfl⟩ ⟨by decide, by decide⟩ ⟨Nat.zero_le _, Nat.zero_le _⟩ (wBegin O P Y g _) ?_
    rintro _ _ ⟨rfl, rfl⟩
    iterate 1 (refine zv_step (bX6_walk 1) rfl rfl trivial ?_)
    exact zv_iret (bX6_walk 1) rfl (Or.inl rfl) (Nat.zero_le _) (Nat.zero_le _) ⟨by unfold wkV; rw [if_pos h1], Or.inr ⟨h1, rfl⟩⟩
  · rw [hO, nI_toInt (by omega)] at h1
    iterate 1 (refine zv_step (bX6_walk 1) rfl rfl trivial ?_)
    refine zv_iff (by decide) ?_
    iterate 1 (refine zv_step (bX6_walk 1) rfl rfl trivial ?_)
    exact zv_iret (bX6_walk 1) rfl (Or.inl rfl) (Nat.zero_le _) (Nat.zero_le _) ⟨by unfold wkV; rw [if_neg h1], Or.inl ⟨h1, rfl⟩⟩
set_option maxHeartbeats 1000000 in
set_option maxRecDepth 20000 in
theorem mWalkX (f : Nat → zC) (o : Nat → Int32) (A : Nat → Nat → Int32) (J : Nat → Nat → Int64) {u : Nat} (hu : u ≤ 120) (ho : o 0 = nI u) (x : Int32) : zK 2 zX7_walk [.ref 76, .int x] (wR f o A J) (fun r w' => r = some (.int (wkV u x)) ∧ ((¬ isN u x ∧ w' = (wR f o A J)) ∨ (isN u x ∧ w' = wR f (upd (upd o 30 (Int32.ofInt 1)) 33 (Int32.ofInt 0)) (updA A 20 (upd (A 20) 0 x)) J))) := by
  refine zK_of qX7_walk (by decide +kernel) rfl ?_
  iterate 2 (refine zv_step (bX7_walk 2) rfl rfl trivial ?_)
  refine zv_V1 (bX7_walk 2) rfl rfl rfl rfl rfl rfl rfl ⟨rfl, rfl, rfl⟩ ⟨by decide, by decide⟩ ⟨Nat.zero_le _, Nat.zero_le _⟩ (mIsNode f o A J hu ho _) ?_
  rintro _ _ ⟨rfl, ⟨g1, rfl⟩ | ⟨g1, rfl⟩⟩
  · skip
    iterate 1 (refine zv_step (bX7_walk 2) rfl rfl trivial ?_)
    refine zv_ift (by decide) ?_
    iterate 7 (refine zv_step (bX7_walk 2) rfl rfl trivial ?_)
    refine zv_step (bX7_walk 2) rfl rfl (show vp_in (nI 0) 41 from vp_in_nI (by decide) (by decide)) ?_
    iterate 4 (refine zv_step (bX7_walk 2) rfl rfl trivial ?_)
    exact zv_iret (bX7_walk 2) rfl (Or.inl rfl) (Nat.zero_le _) (Nat.zero_le _) ⟨by unfold wkV; rw [if_pos (show isN u x from by constructor <;> omega)], Or.inr ⟨by constructor <;> omega, rfl⟩⟩
  · skip
    iterate 1 (refine zv_step (bX7_walk 2) rfl rfl trivial ?_)
    refine zv_iff (by decide) ?_
    iterate 1 (refine zv_step (bX7_walk 2) rfl rfl trivial ?_)
    exact zv_iret (bX7_walk 2) rfl (Or.inl rfl) (Nat.zero_le _) (Nat.zero_le _) ⟨by unfold wkV; rw [if_neg (show ¬ isN u x from fun q => g1 (by omega))], Or.inl ⟨fun q => g1 (by omega), rfl⟩⟩
