set_option maxHeartbeats 1000000 in
set_option maxRecDepth 20000 in
theorem hPP192 (O : Nat → Int32) (P : Nat → Nat → Int32) (Y : Nat → Nat → Int64) (g : Nat → zC) {a b : Nat} (hab : a < b) (hb : b ≤ 20) (n xx wd : Int32) {f n0 m : Nat} {Q : Option Value → zW → Prop} (hm : a ≤ m) (hmb : m < b) {s : Int64} {p : Int32} (kk : ∀ p', zV (zMo (3 * f + 5) zX0_placePair) false n0 0 0 41 [(10, .int (nI m + Int32.ofInt 1)), (9, .int (p')), (7, .long (s)), (6, .int xx), (5, .int wd), (0, .ref 31), (1, .ref 1), (2, .int n), (3, .int (nI a)), (4, .int (nI b))] [] (wX O P Y g) Q) : zV (zMo (3 * f + 5) zX0_placePair) false n0 0 0 192 [(10, .int (nI m)), (9, .int (p)), (7, .long (s)), (6, .int xx), (5, .int wd), (0, .ref 31), (1, .ref 1), (2, .int n), (3, .int (nI a)), (4, .int (nI b))] [] (wX O P Y g) Q := by
  iterate 4 (refine zv_step (bX0_placePair (3 * f + 5)) rfl rfl trivial ?_)
  refine zv_iale (bX0_placePair (3 * f + 5)) rfl rfl (show vp_in (nI m) 20 by exact vp_in_nI (by omega) (by decide)) (show P 32 (nI m).toNatClampNeg = P 32 (m) by rw [nI_clamp (by omega)]) ?_
  iterate 2 (refine zv_step (bX0_placePair (3 * f + 5)) rfl rfl trivial ?_)
  refine zv_ifb (fun h1 => ?_) (fun h1 => ?_)
  · iterate 6 (refine zv_step (bX0_placePair (3 * f + 5)) rfl rfl trivial ?_)
    exact kk _
  · iterate 3 (refine zv_step (bX0_placePair (3 * f + 5)) rfl rfl trivial ?_)
    refine zv_iale (bX0_placePair (3 * f + 5)) rfl rfl (show vp_in (nI m) 20 by exact vp_in_nI (by omega) (by decide)) (show P 32 (nI m).toNatClampNeg = P 32 (m) by rw [nI_clamp (by omega)]) ?_
    iterate 2 (refine zv_step (bX0_placePair (3 * f + 5)) rfl rfl trivial ?_)
    refine zv_ifb (fun h2 => ?_) (fun h2 => ?_)
    · iterate 5 (refine zv_step (bX0_placePair (3 * f + 5)) rfl rfl trivial ?_)
      exact kk _
    · iterate 6 (refine zv_step (bX0_placePair (3 * f + 5)) rfl rfl trivial ?_)
      exact kk _
set_option maxHeartbeats 1000000 in
set_option maxRecDepth 20000 in
theorem hPP153 (O : Nat → Int32) (P : Nat → Nat → Int32) (Y : Nat → Nat → Int64) (g : Nat → zC) {a b : Nat} (hab : a < b) (hb : b ≤ 20) (n xx wd : Int32) {f n0 m : Nat} {Q : Option Value → zW → Prop} (hm : a ≤ m) (hmb : m < b) {s : Int64} {p : Int32} (kk : ∀ p' s', zV (zMo (3 * f + 5) zX0_placePair) false n0 0 0 41 [(10, .int (nI m + Int32.ofInt 1)), (9, .int (p')), (7, .long (s')), (6, .int xx), (5, .int wd), (0, .ref 31), (1, .ref 1), (2, .int n), (3, .int (nI a)), (4, .int (nI b))] [] (wX O P Y g) Q) : zV (zMo (3 * f + 5) zX0_placePair) false n0 0 0 153 [(10, .int (nI m)), (9, .int (p)), (7, .long (s)), (6, .int xx), (5, .int wd), (0, .ref 31), (1, .ref 1), (2, .int n), (3, .int (nI a)), (4, .int (nI b))] [] (wX O P Y g) Q := by
  iterate 3 (refine zv_step (bX0_placePair (3 * f + 5)) rfl rfl trivial ?_)
  refine zv_iale (bX0_placePair (3 * f + 5)) rfl rfl (show vp_in (nI m) 20 by exact vp_in_nI (by omega) (by decide)) (show P 32 (nI m).toNatClampNeg = P 32 (m) by rw [nI_clamp (by omega)]) ?_
  iterate 2 (refine zv_step (bX0_placePair (3 * f + 5)) rfl rfl trivial ?_)
  refine zv_ifb (fun h1 => ?_) (fun h1 => ?_)
  · exact hPP192 O P Y g hab hb n xx wd hm hmb (fun p' => kk p' _)
  · iterate 4 (refine zv_step (bX0_placePair (3 * f + 5)) rfl rfl trivial ?_)
    refine zv_aald (bX0_placePair (3 * f + 5)) rfl (Or.inr rfl) rfl (show vp_in (nI a) 21 by exact vp_in_nI (by omega) (by decide)) (show ([some 34, some 35, some 36, some 37, some 38, some 39, some 40, some 41, some 42, some 43, some 44, some 45, some 46, some 47, some 48, some 49, some 50, some 51, some 52, some 53, some 54] : List (Option Nat)).getD (nI a).toNatClampNeg none = some (34 + (a)) by rw [nI_clamp (by omega)]; exact dLs (by omega)) ?_
    iterate 1 (refine zv_step (bX0_placePair (3 * f + 5)) rfl rfl trivial ?_)
    refine zv_lald (bX0_placePair (3 * f + 5)) rfl (wY O P Y g (by omega)) (show vp_in (nI m) 21 by exact vp_in_nI (by omega) (by decide)) ?_
    iterate 5 (refine zv_step (bX0_placePair (3 * f + 5)) rfl rfl trivial ?_)
    refine zv_aald (bX0_placePair (3 * f + 5)) rfl (Or.inr rfl) rfl (show vp_in (nI m + Int32.ofInt 1) 21 by rw [show nI m + Int32.ofInt 1 = nI (m + 1) from nI_1 m]; exact vp_in_nI (by omega) (by decide)) (show ([some 34, some 35, some 36, some 37, some 38, some 39, some 40, some 41, some 42, some 43, some 44, some 45, some 46, some 47, some 48, some 49, some 50, some 51, some 52, some 53, some 54] : List (Option Nat)).getD (nI m + Int32.ofInt 1).toNatClampNeg none = some (34 + (m + 1)) by rw [show nI m + Int32.ofInt 1 = nI (m + 1) from nI_1 m, nI_clamp (by omega)]; exact dLs (by omega)) ?_
    iterate 1 (refine zv_step (bX0_placePair (3 * f + 5)) rfl rfl trivial ?_)
    refine zv_lald (bX0_placePair (3 * f + 5)) rfl (wY O P Y g (by omega)) (show vp_in (nI b) 21 by exact vp_in_nI (by omega) (by decide)) ?_
    iterate 3 (refine zv_step (bX0_placePair (3 * f + 5)) rfl rfl trivial ?_)
    refine zv_locals (l := [(7, .long (s + Y (34 + a) (nI m).toNatClampNeg * Y (34 + (m + 1)) (nI b).toNatClampNeg)), (10, .int (nI m)), (9, .int p), (6, .int xx), (5, .int wd), (0, .ref 31), (1, .ref 1), (2, .int n), (3, .int (nI a)), (4, .int (nI b))]) (l' := [(10, .int (nI m)), (9, .int (p)), (7, .long (s + Y (34 + a) (nI m).toNatClampNeg * Y (34 + (m + 1)) (nI b).toNatClampNeg)), (6, .int xx), (5, .int wd), (0, .ref 31), (1, .ref 1), (2, .int n), (3, .int (nI a)), (4, .int (nI b))]) ?_ (hPP192 O P Y g hab hb n xx wd hm hmb (fun p' => kk p' _))
    simp
set_option maxHeartbeats 1000000 in
set_option maxRecDepth 20000 in
theorem hPPL (O : Nat → Int32) (P : Nat → Nat → Int32) (Y : Nat → Nat → Int64) (g : Nat → zC) {a b : Nat} (hab : a < b) (hb : b ≤ 20) {f : Nat} (ih : ∀ (a b : Nat) (n x y : Int32), x = nI a → y = nI b → a ≤ 30 → b ≤ 20 → b - a ≤ f → zK (3 * f + 4) zX0_placeIn [.ref 31, .ref 1, .int n, .int x, .int y] (wX O P Y g) (fun r w' => w' = wX O P Y g ∧ ∃ v : Int64, r = some (.long v))) (hf : b - a ≤ f + 1) {n xx : Int32} (hv : vp_in n 120) (hx : vp_in xx 120) (wd : Int32) {n0 : Nat} : ∀ (c m : Nat), b - m ≤ c → a ≤ m → m ≤ b → ∀ {x10 p : Int32} {s : Int64}, x10 = nI m → zV (zMo (3 * f + 5) zX0_placePair) false n0 0 0 41 [(10, .int (x10)), (9, .int (p)), (7, .long (s)), (6, .int xx), (5, .int wd), (0, .ref 31), (1, .ref 1), (2, .int n), (3, .int (nI a)), (4, .int (nI b))] [] (wX O P Y g) (fun r w' => w' = wX O P Y g ∧ ∃ v : Int64, r = some (.long v)) := by
  intro c
  induction c with
  | zero =>
    intro m hc hm hmb x10 p s e6
    subst e6
    iterate 5 (refine zv_step (bX0_placePair (3 * f + 5)) rfl rfl trivial ?_)
    refine zv_ift (show nI b - Int32.ofInt 1 ≤ nI m by rw [sub_1 (by omega)]; exact nI_le (by omega) (by omega)) ?_
    iterate 1 (refine zv_step (bX0_placePair (3 * f + 5)) rfl rfl trivial ?_)
    exact zv_lret (bX0_placePair (3 * f + 5)) rfl rfl (Nat.zero_le _) (Nat.zero_le _) ⟨rfl, _, rfl⟩
  | succ c ih2 =>
    intro m hc hm hmb x10 p s e6
    subst e6
    iterate 5 (refine zv_step (bX0_placePair (3 * f + 5)) rfl rfl trivial ?_)
    refine zv_ifb (fun hq => ?_) (fun hq => ?_)
    · iterate 1 (refine zv_step (bX0_placePair (3 * f + 5)) rfl rfl trivial ?_)
      exact zv_lret (bX0_placePair (3 * f + 5)) rfl rfl (Nat.zero_le _) (Nat.zero_le _) ⟨rfl, _, rfl⟩
    · have hq : ¬ (nI b - Int32.ofInt 1 ≤ nI m) := hq
      rw [sub_1 (by omega), nI_leI (by omega) (by omega)] at hq
      iterate 3 (refine zv_step (bX0_placePair (3 * f + 5)) rfl rfl trivial ?_)
      refine zv_iale (bX0_placePair (3 * f + 5)) rfl rfl (show vp_in (nI m) 20 by exact vp_in_nI (by omega) (by decide)) (show P 32 (nI m).toNatClampNeg = P 32 (m) by rw [nI_clamp (by omega)]) ?_
      iterate 2 (refine zv_step (bX0_placePair (3 * f + 5)) rfl rfl trivial ?_)
      refine zv_ifb (fun h3 => ?_) (fun h3 => ?_)
      · exact hPP153 O P Y g hab hb n xx wd hm (by omega) (fun p' s' => ih2 (m + 1) (by omega) (by omega) (by omega) (nI_1 m))
      · iterate 4 (refine zv_step (bX0_placePair (3 * f + 5)) rfl rfl trivial ?_)
        refine zv_step (bX0_placePair (3 * f + 5)) rfl rfl (hx) ?_
        iterate 1 (refine zv_step (bX0_placePair (3 * f + 5)) rfl rfl trivial ?_)
        refine zv_ifb (fun h4 => ?_) (fun h4 => ?_)
        · exact hPP153 O P Y g hab hb n xx wd hm (by omega) (fun p' s' => ih2 (m + 1) (by omega) (by omega) (by omega) (nI_1 m))
        · iterate 5 (refine zv_step (bX0_placePair (3 * f + 5)) rfl rfl trivial ?_)
          refine zv_V4 (bX0_placePair (3 * f + 5)) rfl rfl rfl rfl rfl rfl rfl ⟨rfl, rfl, rfl⟩ ⟨by show 3 * f + 4 + 1 ≤ 3 * f + 5; omega, by show 8 + (10 + 11) + 64 * (3 * f + 4) ≤ 64 * (3 * f + 5); omega⟩ ⟨Nat.zero_le _, Nat.zero_le _⟩ (ih (a) (m) _ _ _ rfl rfl (by omega) (by omega) (by omega)) ?_
          rintro _ _ ⟨rfl, v1, rfl⟩
          iterate 5 (refine zv_step (bX0_placePair (3 * f + 5)) rfl rfl trivial ?_)
          refine zv_ifb (fun h5 => ?_) (fun h5 => ?_)
          · iterate 5 (refine zv_step (bX0_placePair (3 * f + 5)) rfl rfl trivial ?_)
            refine zv_step (bX0_placePair (3 * f + 5)) rfl rfl (hv) ?_
            iterate 4 (refine zv_step (bX0_placePair (3 * f + 5)) rfl rfl trivial ?_)
            refine zv_V4 (bX0_placePair (3 * f + 5)) rfl rfl rfl rfl rfl rfl rfl ⟨rfl, rfl, rfl⟩ ⟨by show 3 * f + 4 + 1 ≤ 3 * f + 5; omega, by show 8 + (10 + 11) + 64 * (3 * f + 4) ≤ 64 * (3 * f + 5); omega⟩ ⟨Nat.zero_le _, Nat.zero_le _⟩ (ih (m + 1) (b) _ _ _ (nI_1 m) rfl (by omega) (by omega) (by omega)) ?_
            rintro _ _ ⟨rfl, v2, rfl⟩
            iterate 5 (refine zv_step (bX0_placePair (3 * f + 5)) rfl rfl trivial ?_)
            refine zv_ifb (fun h6 => ?_) (fun h6 => ?_)
            · iterate 7 (refine zv_step (bX0_placePair (3 * f + 5)) rfl rfl trivial ?_)
              refine zv_aald (bX0_placePair (3 * f + 5)) rfl (Or.inr rfl) rfl (show vp_in (nI m + Int32.ofInt 1) 21 by rw [show nI m + Int32.ofInt 1 = nI (m + 1) from nI_1 m]; exact vp_in_nI (by omega) (by decide)) (show ([some 34, some 35, some 36, some 37, some 38, some 39, some 40, some 41, some 42, some 43, some 44, some 45, some 46, some 47, some 48, some 49, some 50, some 51, some 52, some 53, some 54] : List (Option Nat)).getD (nI m + Int32.ofInt 1).toNatClampNeg none = some (34 + (m + 1)) by rw [show nI m + Int32.ofInt 1 = nI (m + 1) from nI_1 m, nI_clamp (by omega)]; exact dLs (by omega)) ?_
              iterate 1 (refine zv_step (bX0_placePair (3 * f + 5)) rfl rfl trivial ?_)
              refine zv_lald (bX0_placePair (3 * f + 5)) rfl (wY O P Y g (by omega)) (show vp_in (nI b) 21 by exact vp_in_nI (by omega) (by decide)) ?_
              iterate 4 (refine zv_step (bX0_placePair (3 * f + 5)) rfl rfl trivial ?_)
              exact zv_lret (bX0_placePair (3 * f + 5)) rfl rfl (Nat.zero_le _) (Nat.zero_le _) ⟨rfl, _, rfl⟩
            · iterate 2 (refine zv_step (bX0_placePair (3 * f + 5)) rfl rfl trivial ?_)
              exact zv_lret (bX0_placePair (3 * f + 5)) rfl rfl (Nat.zero_le _) (Nat.zero_le _) ⟨rfl, _, rfl⟩
          · iterate 7 (refine zv_step (bX0_placePair (3 * f + 5)) rfl rfl trivial ?_)
            refine zv_ifb (fun h6 => ?_) (fun h6 => ?_)
            · iterate 7 (refine zv_step (bX0_placePair (3 * f + 5)) rfl rfl trivial ?_)
              refine zv_aald (bX0_placePair (3 * f + 5)) rfl (Or.inr rfl) rfl (show vp_in (nI m + Int32.ofInt 1) 21 by rw [show nI m + Int32.ofInt 1 = nI (m + 1) from nI_1 m]; exact vp_in_nI (by omega) (by decide)) (show ([some 34, some 35, some 36, some 37, some 38, some 39, some 40, some 41, some 42, some 43, some 44, some 45, some 46, some 47, some 48, some 49, some 50, some 51, some 52, some 53, some 54] : List (Option Nat)).getD (nI m + Int32.ofInt 1).toNatClampNeg none = some (34 + (m + 1)) by rw [show nI m + Int32.ofInt 1 = nI (m + 1) from nI_1 m, nI_clamp (by omega)]; exact dLs (by omega)) ?_
              iterate 1 (refine zv_step (bX0_placePair (3 * f + 5)) rfl rfl trivial ?_)
              refine zv_lald (bX0_placePair (3 * f + 5)) rfl (wY O P Y g (by omega)) (show vp_in (nI b) 21 by exact vp_in_nI (by omega) (by decide)) ?_
              iterate 4 (refine zv_step (bX0_placePair (3 * f + 5)) rfl rfl trivial ?_)
              exact zv_lret (bX0_placePair (3 * f + 5)) rfl rfl (Nat.zero_le _) (Nat.zero_le _) ⟨rfl, _, rfl⟩
            · iterate 2 (refine zv_step (bX0_placePair (3 * f + 5)) rfl rfl trivial ?_)
              exact zv_lret (bX0_placePair (3 * f + 5)) rfl rfl (Nat.zero_le _) (Nat.zero_le _) ⟨rfl, _, rfl⟩
set_option maxHeartbeats 1000000 in
set_option maxRecDepth 20000 in
theorem hPP (O : Nat → Int32) (P : Nat → Nat → Int32) (Y : Nat → Nat → Int64) (g : Nat → zC) (hu : (O 1).toInt ≤ 120) {a b : Nat} (hab : a < b) (hb : b ≤ 20) {f : Nat} (ih : ∀ (a b : Nat) (n x y : Int32), x = nI a → y = nI b → a ≤ 30 → b ≤ 20 → b - a ≤ f → zK (3 * f + 4) zX0_placeIn [.ref 31, .ref 1, .int n, .int x, .int y] (wX O P Y g) (fun r w' => w' = wX O P Y g ∧ ∃ v : Int64, r = some (.long v))) (hf : b - a ≤ f + 1) {n : Int32} (hv : vp_in n 120) : zK (3 * f + 5) zX0_placePair [.ref 31, .ref 1, .int n, .int (nI a), .int (nI b)] (wX O P Y g) (fun r w' => w' = wX O P Y g ∧ ∃ v : Int64, r = some (.long v)) := by
  refine zK_of qX0_placePair (by decide +kernel) rfl ?_
  iterate 4 (refine zv_step (bX0_placePair (3 * f + 5)) rfl rfl trivial ?_)
  refine zv_step (bX0_placePair (3 * f + 5)) rfl rfl (hv) ?_
  iterate 5 (refine zv_step (bX0_placePair (3 * f + 5)) rfl rfl trivial ?_)
  refine zv_step (bX0_placePair (3 * f + 5)) rfl rfl (hv) ?_
  iterate 3 (refine zv_step (bX0_placePair (3 * f + 5)) rfl rfl trivial ?_)
  refine zv_V1 (bX0_placePair (3 * f + 5)) rfl rfl rfl rfl rfl rfl rfl ⟨rfl, rfl, rfl⟩ ⟨by show 0 + 1 ≤ 3 * f + 5; omega, by show 8 + (2 + 11) + 64 * (0) ≤ 64 * (3 * f + 5); omega⟩ ⟨Nat.zero_le _, Nat.zero_le _⟩ (pHas1 O P Y g _) ?_
  rintro _ _ ⟨rfl, ⟨hh, rfl⟩ | ⟨hh, rfl⟩⟩
  · iterate 1 (refine zv_step (bX0_placePair (3 * f + 5)) rfl rfl trivial ?_)
    refine zv_ift (by decide) ?_
    iterate 6 (refine zv_step (bX0_placePair (3 * f + 5)) rfl rfl trivial ?_)
    exact hPPL O P Y g hab hb ih hf hv (vp_in_iff.mpr ⟨hh.1, Int.lt_of_lt_of_le hh.2 hu⟩) _ (b - a) a (by omega) (by omega) (by omega) rfl
  · iterate 1 (refine zv_step (bX0_placePair (3 * f + 5)) rfl rfl trivial ?_)
    refine zv_iff (by decide) ?_
    iterate 1 (refine zv_step (bX0_placePair (3 * f + 5)) rfl rfl trivial ?_)
    exact zv_lret (bX0_placePair (3 * f + 5)) rfl rfl (Nat.zero_le _) (Nat.zero_le _) ⟨rfl, _, rfl⟩
set_option maxHeartbeats 1000000 in
set_option maxRecDepth 20000 in
theorem hPB (O : Nat → Int32) (P : Nat → Nat → Int32) (Y : Nat → Nat → Int64) (g : Nat → zC) (hu : (O 1).toInt ≤ 120) {a b : Nat} (hab : a < b) (hb : b ≤ 20) {f : Nat} (ih : ∀ (a b : Nat) (n x y : Int32), x = nI a → y = nI b → a ≤ 30 → b ≤ 20 → b - a ≤ f → zK (3 * f + 4) zX0_placeIn [.ref 31, .ref 1, .int n, .int x, .int y] (wX O P Y g) (fun r w' => w' = wX O P Y g ∧ ∃ v : Int64, r = some (.long v))) (hf : b - a ≤ f + 1) {n : Int32} (hv : vp_in n 120) {x y : Int32} (ex : x = nI a) (ey : y = nI b) : zK (3 * f + 6) zX0_placeBare [.ref 31, .ref 1, .int n, .int x, .int y] (wX O P Y g) (fun r w' => w' = wX O P Y g ∧ ∃ v : Int64, r = some (.long v)) := by
  subst ex ey
  refine zK_of qX0_placeBare (by decide +kernel) rfl ?_
  iterate 3 (refine zv_step (bX0_placeBare (3 * f + 6)) rfl rfl trivial ?_)
  refine zv_step (bX0_placeBare (3 * f + 6)) rfl rfl (hv) ?_
  iterate 2 (refine zv_step (bX0_placeBare (3 * f + 6)) rfl rfl trivial ?_)
  refine zv_S1 (bX0_placeBare (3 * f + 6)) rfl rfl rfl rfl ⟨rfl, rfl, rfl⟩ ⟨by show 0 + 1 ≤ 3 * f + 6; omega, by show 8 + (1 + 11) + 64 * (0) ≤ 64 * (3 * f + 6); omega⟩ ⟨Nat.zero_le _, Nat.zero_le _⟩ (hX1_isPair _ _) ?_
  rintro _ _ ⟨rfl, ⟨hp, rfl⟩ | ⟨hp, rfl⟩⟩
  · iterate 1 (refine zv_step (bX0_placeBare (3 * f + 6)) rfl rfl trivial ?_)
    refine zv_iff (by decide) ?_
    iterate 5 (refine zv_step (bX0_placeBare (3 * f + 6)) rfl rfl trivial ?_)
    refine zv_V4 (bX0_placeBare (3 * f + 6)) rfl rfl rfl rfl rfl rfl rfl ⟨rfl, rfl, rfl⟩ ⟨by show 3 * f + 5 + 1 ≤ 3 * f + 6; omega, by show 8 + (15 + 11) + 64 * (3 * f + 5) ≤ 64 * (3 * f + 6); omega⟩ ⟨Nat.zero_le _, Nat.zero_le _⟩ (hPP O P Y g hu hab hb ih hf hv) ?_
    rintro _ _ ⟨rfl, v, rfl⟩
    exact zv_lret (bX0_placeBare (3 * f + 6)) rfl rfl (Nat.zero_le _) (Nat.zero_le _) ⟨rfl, _, rfl⟩
  · iterate 1 (refine zv_step (bX0_placeBare (3 * f + 6)) rfl rfl trivial ?_)
    refine zv_ift (by decide) ?_
    iterate 3 (refine zv_step (bX0_placeBare (3 * f + 6)) rfl rfl trivial ?_)
    refine zv_V2 (bX0_placeBare (3 * f + 6)) rfl rfl rfl rfl rfl rfl rfl ⟨rfl, rfl, rfl⟩ ⟨by show 1 + 1 ≤ 3 * f + 6; omega, by show 8 + (5 + 11) + 64 * (1) ≤ 64 * (3 * f + 6); omega⟩ ⟨Nat.zero_le _, Nat.zero_le _⟩ (hKe O P Y g hab hb) ?_
    rintro _ _ ⟨rfl, k9, rfl, hk9⟩
    iterate 2 (refine zv_step (bX0_placeBare (3 * f + 6)) rfl rfl trivial ?_)
    refine zv_ifb (fun h1 => ?_) (fun h1 => ?_)
    · iterate 3 (refine zv_step (bX0_placeBare (3 * f + 6)) rfl rfl trivial ?_)
      refine zv_ifb (fun h2 => ?_) (fun h2 => ?_)
      · iterate 2 (refine zv_step (bX0_placeBare (3 * f + 6)) rfl rfl trivial ?_)
        refine zv_ifb (fun h3 => ?_) (fun h3 => ?_)
        · iterate 3 (refine zv_step (bX0_placeBare (3 * f + 6)) rfl rfl trivial ?_)
          refine zv_iale (bX0_placeBare (3 * f + 6)) rfl rfl (show vp_in (nI a) 20 by exact vp_in_nI (by omega) (by decide)) (show P 32 (nI a).toNatClampNeg = P 32 (a) by rw [nI_clamp (by omega)]) ?_
          iterate 3 (refine zv_step (bX0_placeBare (3 * f + 6)) rfl rfl trivial ?_)
          refine zv_step (bX0_placeBare (3 * f + 6)) rfl rfl (hv) ?_
          iterate 1 (refine zv_step (bX0_placeBare (3 * f + 6)) rfl rfl trivial ?_)
          refine zv_ifb (fun h8 => ?_) (fun h8 => ?_)
          · iterate 2 (refine zv_step (bX0_placeBare (3 * f + 6)) rfl rfl trivial ?_)
            refine zv_ifb (fun h9 => ?_) (fun h9 => ?_)
            · obtain ⟨f1, t1, ef, et, hf1, hf2, ht1⟩ := pf_any (a := a) (b := b) (by omega) (P 2 n.toNatClampNeg)
              iterate 5 (refine zv_step (bX0_placeBare (3 * f + 6)) rfl rfl trivial ?_)
              refine zv_step (bX0_placeBare (3 * f + 6)) rfl rfl (hv) ?_
              iterate 2 (refine zv_step (bX0_placeBare (3 * f + 6)) rfl rfl trivial ?_)
              refine zv_S2 (bX0_placeBare (3 * f + 6)) rfl rfl rfl rfl ⟨rfl, rfl, rfl⟩ ⟨by show 0 + 1 ≤ 3 * f + 6; omega, by show 8 + (2 + 11) + 64 * (0) ≤ 64 * (3 * f + 6); omega⟩ ⟨Nat.zero_le _, Nat.zero_le _⟩ (hFrom _ _ _) ?_
              rintro _ _ ⟨rfl, rfl⟩
              iterate 2 (refine zv_step (bX0_placeBare (3 * f + 6)) rfl rfl trivial ?_)
              refine zv_S2 (bX0_placeBare (3 * f + 6)) rfl rfl rfl rfl ⟨rfl, rfl, rfl⟩ ⟨by show 0 + 1 ≤ 3 * f + 6; omega, by show 8 + (2 + 11) + 64 * (0) ≤ 64 * (3 * f + 6); omega⟩ ⟨Nat.zero_le _, Nat.zero_le _⟩ (hTo _ _ _) ?_
              rintro _ _ ⟨rfl, rfl⟩
              refine zv_V4 (bX0_placeBare (3 * f + 6)) rfl rfl rfl rfl rfl rfl rfl ⟨rfl, rfl, rfl⟩ ⟨by show 3 * f + 4 + 1 ≤ 3 * f + 6; omega, by show 8 + (10 + 11) + 64 * (3 * f + 4) ≤ 64 * (3 * f + 6); omega⟩ ⟨Nat.zero_le _, Nat.zero_le _⟩ (ih f1 t1 _ _ _ ef et (by omega) (by omega) (by omega)) ?_
              rintro _ _ ⟨rfl, v3, rfl⟩
              exact zv_lret (bX0_placeBare (3 * f + 6)) rfl rfl (Nat.zero_le _) (Nat.zero_le _) ⟨rfl, _, rfl⟩
            · iterate 2 (refine zv_step (bX0_placeBare (3 * f + 6)) rfl rfl trivial ?_)
              exact zv_lret (bX0_placeBare (3 * f + 6)) rfl rfl (Nat.zero_le _) (Nat.zero_le _) ⟨rfl, _, rfl⟩
          · iterate 1 (refine zv_step (bX0_placeBare (3 * f + 6)) rfl rfl trivial ?_)
            exact zv_lret (bX0_placeBare (3 * f + 6)) rfl rfl (Nat.zero_le _) (Nat.zero_le _) ⟨rfl, _, rfl⟩
        · iterate 3 (refine zv_step (bX0_placeBare (3 * f + 6)) rfl rfl trivial ?_)
          refine zv_ifb (fun h4 => ?_) (fun h4 => ?_)
          · iterate 2 (refine zv_step (bX0_placeBare (3 * f + 6)) rfl rfl trivial ?_)
            refine zv_ifb (fun h9 => ?_) (fun h9 => ?_)
            · obtain ⟨f1, t1, ef, et, hf1, hf2, ht1⟩ := pf_any (a := a) (b := b) (by omega) (P 2 n.toNatClampNeg)
              iterate 5 (refine zv_step (bX0_placeBare (3 * f + 6)) rfl rfl trivial ?_)
              refine zv_step (bX0_placeBare (3 * f + 6)) rfl rfl (hv) ?_
              iterate 2 (refine zv_step (bX0_placeBare (3 * f + 6)) rfl rfl trivial ?_)
              refine zv_S2 (bX0_placeBare (3 * f + 6)) rfl rfl rfl rfl ⟨rfl, rfl, rfl⟩ ⟨by show 0 + 1 ≤ 3 * f + 6; omega, by show 8 + (2 + 11) + 64 * (0) ≤ 64 * (3 * f + 6); omega⟩ ⟨Nat.zero_le _, Nat.zero_le _⟩ (hFrom _ _ _) ?_
              rintro _ _ ⟨rfl, rfl⟩
              iterate 2 (refine zv_step (bX0_placeBare (3 * f + 6)) rfl rfl trivial ?_)
              refine zv_S2 (bX0_placeBare (3 * f + 6)) rfl rfl rfl rfl ⟨rfl, rfl, rfl⟩ ⟨by show 0 + 1 ≤ 3 * f + 6; omega, by show 8 + (2 + 11) + 64 * (0) ≤ 64 * (3 * f + 6); omega⟩ ⟨Nat.zero_le _, Nat.zero_le _⟩ (hTo _ _ _) ?_
              rintro _ _ ⟨rfl, rfl⟩
              refine zv_V4 (bX0_placeBare (3 * f + 6)) rfl rfl rfl rfl rfl rfl rfl ⟨rfl, rfl, rfl⟩ ⟨by show 3 * f + 4 + 1 ≤ 3 * f + 6; omega, by show 8 + (10 + 11) + 64 * (3 * f + 4) ≤ 64 * (3 * f + 6); omega⟩ ⟨Nat.zero_le _, Nat.zero_le _⟩ (ih f1 t1 _ _ _ ef et (by omega) (by omega) (by omega)) ?_
              rintro _ _ ⟨rfl, v3, rfl⟩
              exact zv_lret (bX0_placeBare (3 * f + 6)) rfl rfl (Nat.zero_le _) (Nat.zero_le _) ⟨rfl, _, rfl⟩
            · iterate 2 (refine zv_step (bX0_placeBare (3 * f + 6)) rfl rfl trivial ?_)
              exact zv_lret (bX0_placeBare (3 * f + 6)) rfl rfl (Nat.zero_le _) (Nat.zero_le _) ⟨rfl, _, rfl⟩
          · iterate 3 (refine zv_step (bX0_placeBare (3 * f + 6)) rfl rfl trivial ?_)
            refine zv_iale (bX0_placeBare (3 * f + 6)) rfl rfl (show vp_in (nI a) 20 by exact vp_in_nI (by omega) (by decide)) (show P 32 (nI a).toNatClampNeg = P 32 (a) by rw [nI_clamp (by omega)]) ?_
            iterate 3 (refine zv_step (bX0_placeBare (3 * f + 6)) rfl rfl trivial ?_)
            refine zv_step (bX0_placeBare (3 * f + 6)) rfl rfl (hv) ?_
            iterate 1 (refine zv_step (bX0_placeBare (3 * f + 6)) rfl rfl trivial ?_)
            refine zv_ifb (fun h8 => ?_) (fun h8 => ?_)
            · iterate 2 (refine zv_step (bX0_placeBare (3 * f + 6)) rfl rfl trivial ?_)
              refine zv_ifb (fun h9 => ?_) (fun h9 => ?_)
              · obtain ⟨f1, t1, ef, et, hf1, hf2, ht1⟩ := pf_any (a := a) (b := b) (by omega) (P 2 n.toNatClampNeg)
                iterate 5 (refine zv_step (bX0_placeBare (3 * f + 6)) rfl rfl trivial ?_)
                refine zv_step (bX0_placeBare (3 * f + 6)) rfl rfl (hv) ?_
                iterate 2 (refine zv_step (bX0_placeBare (3 * f + 6)) rfl rfl trivial ?_)
                refine zv_S2 (bX0_placeBare (3 * f + 6)) rfl rfl rfl rfl ⟨rfl, rfl, rfl⟩ ⟨by show 0 + 1 ≤ 3 * f + 6; omega, by show 8 + (2 + 11) + 64 * (0) ≤ 64 * (3 * f + 6); omega⟩ ⟨Nat.zero_le _, Nat.zero_le _⟩ (hFrom _ _ _) ?_
                rintro _ _ ⟨rfl, rfl⟩
                iterate 2 (refine zv_step (bX0_placeBare (3 * f + 6)) rfl rfl trivial ?_)
                refine zv_S2 (bX0_placeBare (3 * f + 6)) rfl rfl rfl rfl ⟨rfl, rfl, rfl⟩ ⟨by show 0 + 1 ≤ 3 * f + 6; omega, by show 8 + (2 + 11) + 64 * (0) ≤ 64 * (3 * f + 6); omega⟩ ⟨Nat.zero_le _, Nat.zero_le _⟩ (hTo _ _ _) ?_
                rintro _ _ ⟨rfl, rfl⟩
                refine zv_V4 (bX0_placeBare (3 * f + 6)) rfl rfl rfl rfl rfl rfl rfl ⟨rfl, rfl, rfl⟩ ⟨by show 3 * f + 4 + 1 ≤ 3 * f + 6; omega, by show 8 + (10 + 11) + 64 * (3 * f + 4) ≤ 64 * (3 * f + 6); omega⟩ ⟨Nat.zero_le _, Nat.zero_le _⟩ (ih f1 t1 _ _ _ ef et (by omega) (by omega) (by omega)) ?_
                rintro _ _ ⟨rfl, v3, rfl⟩
                exact zv_lret (bX0_placeBare (3 * f + 6)) rfl rfl (Nat.zero_le _) (Nat.zero_le _) ⟨rfl, _, rfl⟩
              · iterate 2 (refine zv_step (bX0_placeBare (3 * f + 6)) rfl rfl trivial ?_)
                exact zv_lret (bX0_placeBare (3 * f + 6)) rfl rfl (Nat.zero_le _) (Nat.zero_le _) ⟨rfl, _, rfl⟩
            · iterate 1 (refine zv_step (bX0_placeBare (3 * f + 6)) rfl rfl trivial ?_)
              exact zv_lret (bX0_placeBare (3 * f + 6)) rfl rfl (Nat.zero_le _) (Nat.zero_le _) ⟨rfl, _, rfl⟩
      · iterate 3 (refine zv_step (bX0_placeBare (3 * f + 6)) rfl rfl trivial ?_)
        refine zv_V2 (bX0_placeBare (3 * f + 6)) rfl rfl rfl rfl rfl rfl rfl ⟨rfl, rfl, rfl⟩ ⟨by show 0 + 1 ≤ 3 * f + 6; omega, by show 8 + (6 + 11) + 64 * (0) ≤ 64 * (3 * f + 6); omega⟩ ⟨Nat.zero_le _, Nat.zero_le _⟩ (hNum O P Y g hab hb) ?_
        rintro _ _ ⟨rfl, rfl⟩
        iterate 3 (refine zv_step (bX0_placeBare (3 * f + 6)) rfl rfl trivial ?_)
        refine zv_step (bX0_placeBare (3 * f + 6)) rfl rfl (hv) ?_
        iterate 1 (refine zv_step (bX0_placeBare (3 * f + 6)) rfl rfl trivial ?_)
        refine zv_ifb (fun h5 => ?_) (fun h5 => ?_)
        · iterate 1 (refine zv_step (bX0_placeBare (3 * f + 6)) rfl rfl trivial ?_)
          exact zv_lret (bX0_placeBare (3 * f + 6)) rfl rfl (Nat.zero_le _) (Nat.zero_le _) ⟨rfl, _, rfl⟩
        · iterate 2 (refine zv_step (bX0_placeBare (3 * f + 6)) rfl rfl trivial ?_)
          exact zv_lret (bX0_placeBare (3 * f + 6)) rfl rfl (Nat.zero_le _) (Nat.zero_le _) ⟨rfl, _, rfl⟩
    · iterate 1 (refine zv_step (bX0_placeBare (3 * f + 6)) rfl rfl trivial ?_)
      exact zv_lret (bX0_placeBare (3 * f + 6)) rfl rfl (Nat.zero_le _) (Nat.zero_le _) ⟨rfl, _, rfl⟩
set_option maxHeartbeats 1000000 in
set_option maxRecDepth 20000 in
theorem hPI (O : Nat → Int32) (P : Nat → Nat → Int32) (Y : Nat → Nat → Int64) (g : Nat → zC) (hu : (O 1).toInt ≤ 120) : ∀ (f a b : Nat) (n x y : Int32), x = nI a → y = nI b → a ≤ 30 → b ≤ 20 → b - a ≤ f → zK (3 * f + 4) zX0_placeIn [.ref 31, .ref 1, .int n, .int x, .int y] (wX O P Y g) (fun r w' => w' = wX O P Y g ∧ ∃ v : Int64, r = some (.long v)) := by
  intro f
  induction f with
  | zero =>
    intro a b n x y ex ey ha hb hf
    subst ex ey
    refine zK_of qX0_placeIn (by decide +kernel) rfl ?_
    iterate 3 (refine zv_step (bX0_placeIn (3 * 0 + 4)) rfl rfl trivial ?_)
    refine zv_ift (nI_le (by omega) (by omega)) ?_
    iterate 1 (refine zv_step (bX0_placeIn (3 * 0 + 4)) rfl rfl trivial ?_)
    exact zv_lret (bX0_placeIn (3 * 0 + 4)) rfl rfl (Nat.zero_le _) (Nat.zero_le _) ⟨rfl, _, rfl⟩
  | succ f ih =>
    intro a b n x y ex ey ha hb hf
    subst ex ey
    refine zK_of qX0_placeIn (by decide +kernel) rfl ?_
    iterate 3 (refine zv_step (bX0_placeIn (3 * (f + 1) + 4)) rfl rfl trivial ?_)
    refine zv_ifb (fun hq => ?_) (fun hq => ?_)
    · iterate 1 (refine zv_step (bX0_placeIn (3 * (f + 1) + 4)) rfl rfl trivial ?_)
      exact zv_lret (bX0_placeIn (3 * (f + 1) + 4)) rfl rfl (Nat.zero_le _) (Nat.zero_le _) ⟨rfl, _, rfl⟩
    · have hq : ¬ (nI b ≤ nI a) := hq
      rw [nI_leI (by omega) (by omega)] at hq
      have hab : a < b := by omega
      iterate 2 (refine zv_step (bX0_placeIn (3 * (f + 1) + 4)) rfl rfl trivial ?_)
      refine zv_V1 (bX0_placeIn (3 * (f + 1) + 4)) rfl rfl rfl rfl rfl rfl rfl ⟨rfl, rfl, rfl⟩ ⟨by show 0 + 1 ≤ 3 * (f + 1) + 4; omega, by show 8 + (2 + 11) + 64 * (0) ≤ 64 * (3 * (f + 1) + 4); omega⟩ ⟨Nat.zero_le _, Nat.zero_le _⟩ (pHas1 O P Y g _) ?_
      rintro _ _ ⟨rfl, ⟨hh, rfl⟩ | ⟨hh, rfl⟩⟩
      · iterate 1 (refine zv_step (bX0_placeIn (3 * (f + 1) + 4)) rfl rfl trivial ?_)
        refine zv_ift (by decide) ?_
        have hv : vp_in n 120 := vp_in_iff.mpr ⟨hh.1, Int.lt_of_lt_of_le hh.2 hu⟩
        iterate 4 (refine zv_step (bX0_placeIn (3 * (f + 1) + 4)) rfl rfl trivial ?_)
        refine zv_step (bX0_placeIn (3 * (f + 1) + 4)) rfl rfl (hv) ?_
        iterate 8 (refine zv_step (bX0_placeIn (3 * (f + 1) + 4)) rfl rfl trivial ?_)
        refine zv_V3 (bX0_placeIn (3 * (f + 1) + 4)) rfl rfl rfl rfl rfl rfl rfl ⟨rfl, rfl, rfl⟩ ⟨by show 3 + 1 ≤ 3 * (f + 1) + 4; omega, by show 8 + (6 + 11) + 64 * (3) ≤ 64 * (3 * (f + 1) + 4); omega⟩ ⟨Nat.zero_le _, Nat.zero_le _⟩ (hWays O P Y g hab hb rfl rfl _) ?_
        rintro _ _ ⟨rfl, v1, rfl, _⟩
        iterate 6 (refine zv_step (bX0_placeIn (3 * (f + 1) + 4)) rfl rfl trivial ?_)
        refine zv_ifb (fun h1 => ?_) (fun h1 => ?_)
        · iterate 5 (refine zv_step (bX0_placeIn (3 * (f + 1) + 4)) rfl rfl trivial ?_)
          refine zv_ifb (fun k1 => ?_) (fun k1 => ?_)
          · iterate 1 (refine zv_step (bX0_placeIn (3 * (f + 1) + 4)) rfl rfl trivial ?_)
            exact zv_lret (bX0_placeIn (3 * (f + 1) + 4)) rfl rfl (Nat.zero_le _) (Nat.zero_le _) ⟨rfl, _, rfl⟩
          · iterate 3 (refine zv_step (bX0_placeIn (3 * (f + 1) + 4)) rfl rfl trivial ?_)
            refine zv_V2 (bX0_placeIn (3 * (f + 1) + 4)) rfl rfl rfl rfl rfl rfl rfl ⟨rfl, rfl, rfl⟩ ⟨by show 0 + 1 ≤ 3 * (f + 1) + 4; omega, by show 8 + (3 + 11) + 64 * (0) ≤ 64 * (3 * (f + 1) + 4); omega⟩ ⟨Nat.zero_le _, Nat.zero_le _⟩ (hBr O P Y g hab hb) ?_
            rintro _ _ ⟨rfl, ⟨hz, rfl⟩ | ⟨hz, rfl⟩⟩
            · iterate 1 (refine zv_step (bX0_placeIn (3 * (f + 1) + 4)) rfl rfl trivial ?_)
              refine zv_ift (by decide) ?_
              have h3 := hz.1
              iterate 9 (refine zv_step (bX0_placeIn (3 * (f + 1) + 4)) rfl rfl trivial ?_)
              refine zv_V4 (bX0_placeIn (3 * (f + 1) + 4)) rfl rfl rfl rfl rfl rfl rfl ⟨rfl, rfl, rfl⟩ ⟨by show 3 * f + 6 + 1 ≤ 3 * (f + 1) + 4; omega, by show 8 + (6 + 11) + 64 * (3 * f + 6) ≤ 64 * (3 * (f + 1) + 4); omega⟩ ⟨Nat.zero_le _, Nat.zero_le _⟩ (hPB O P Y g hu (a := a + 1) (b := b - 1) (by omega) (by omega) ih (by omega) hv (nI_1 a) (sub_1 (by omega))) ?_
              rintro _ _ ⟨rfl, v5, rfl⟩
              iterate 5 (refine zv_step (bX0_placeIn (3 * (f + 1) + 4)) rfl rfl trivial ?_)
              refine zv_ifb (fun k2 => ?_) (fun k2 => ?_)
              · iterate 3 (refine zv_step (bX0_placeIn (3 * (f + 1) + 4)) rfl rfl trivial ?_)
                exact zv_lret (bX0_placeIn (3 * (f + 1) + 4)) rfl rfl (Nat.zero_le _) (Nat.zero_le _) ⟨rfl, _, rfl⟩
              · iterate 2 (refine zv_step (bX0_placeIn (3 * (f + 1) + 4)) rfl rfl trivial ?_)
                exact zv_lret (bX0_placeIn (3 * (f + 1) + 4)) rfl rfl (Nat.zero_le _) (Nat.zero_le _) ⟨rfl, _, rfl⟩
            · iterate 1 (refine zv_step (bX0_placeIn (3 * (f + 1) + 4)) rfl rfl trivial ?_)
              refine zv_iff (by decide) ?_
              iterate 1 (refine zv_step (bX0_placeIn (3 * (f + 1) + 4)) rfl rfl trivial ?_)
              exact zv_lret (bX0_placeIn (3 * (f + 1) + 4)) rfl rfl (Nat.zero_le _) (Nat.zero_le _) ⟨rfl, _, rfl⟩
        · iterate 5 (refine zv_step (bX0_placeIn (3 * (f + 1) + 4)) rfl rfl trivial ?_)
          refine zv_V4 (bX0_placeIn (3 * (f + 1) + 4)) rfl rfl rfl rfl rfl rfl rfl ⟨rfl, rfl, rfl⟩ ⟨by show 3 * f + 6 + 1 ≤ 3 * (f + 1) + 4; omega, by show 8 + (6 + 11) + 64 * (3 * f + 6) ≤ 64 * (3 * (f + 1) + 4); omega⟩ ⟨Nat.zero_le _, Nat.zero_le _⟩ (hPB O P Y g hu hab hb ih hf hv rfl rfl) ?_
          rintro _ _ ⟨rfl, v2, rfl⟩
          iterate 5 (refine zv_step (bX0_placeIn (3 * (f + 1) + 4)) rfl rfl trivial ?_)
          refine zv_ifb (fun h2 => ?_) (fun h2 => ?_)
          · iterate 5 (refine zv_step (bX0_placeIn (3 * (f + 1) + 4)) rfl rfl trivial ?_)
            refine zv_V3 (bX0_placeIn (3 * (f + 1) + 4)) rfl rfl rfl rfl rfl rfl rfl ⟨rfl, rfl, rfl⟩ ⟨by show 2 + 1 ≤ 3 * (f + 1) + 4; omega, by show 8 + (8 + 11) + 64 * (2) ≤ 64 * (3 * (f + 1) + 4); omega⟩ ⟨Nat.zero_le _, Nat.zero_le _⟩ (hBare O P Y g hab hb rfl rfl _) ?_
            rintro _ _ ⟨rfl, v4, rfl, _⟩
            iterate 7 (refine zv_step (bX0_placeIn (3 * (f + 1) + 4)) rfl rfl trivial ?_)
            refine zv_ifb (fun k1 => ?_) (fun k1 => ?_)
            · iterate 1 (refine zv_step (bX0_placeIn (3 * (f + 1) + 4)) rfl rfl trivial ?_)
              exact zv_lret (bX0_placeIn (3 * (f + 1) + 4)) rfl rfl (Nat.zero_le _) (Nat.zero_le _) ⟨rfl, _, rfl⟩
            · iterate 3 (refine zv_step (bX0_placeIn (3 * (f + 1) + 4)) rfl rfl trivial ?_)
              refine zv_V2 (bX0_placeIn (3 * (f + 1) + 4)) rfl rfl rfl rfl rfl rfl rfl ⟨rfl, rfl, rfl⟩ ⟨by show 0 + 1 ≤ 3 * (f + 1) + 4; omega, by show 8 + (3 + 11) + 64 * (0) ≤ 64 * (3 * (f + 1) + 4); omega⟩ ⟨Nat.zero_le _, Nat.zero_le _⟩ (hBr O P Y g hab hb) ?_
              rintro _ _ ⟨rfl, ⟨hz, rfl⟩ | ⟨hz, rfl⟩⟩
              · iterate 1 (refine zv_step (bX0_placeIn (3 * (f + 1) + 4)) rfl rfl trivial ?_)
                refine zv_ift (by decide) ?_
                have h3 := hz.1
                iterate 9 (refine zv_step (bX0_placeIn (3 * (f + 1) + 4)) rfl rfl trivial ?_)
                refine zv_V4 (bX0_placeIn (3 * (f + 1) + 4)) rfl rfl rfl rfl rfl rfl rfl ⟨rfl, rfl, rfl⟩ ⟨by show 3 * f + 6 + 1 ≤ 3 * (f + 1) + 4; omega, by show 8 + (6 + 11) + 64 * (3 * f + 6) ≤ 64 * (3 * (f + 1) + 4); omega⟩ ⟨Nat.zero_le _, Nat.zero_le _⟩ (hPB O P Y g hu (a := a + 1) (b := b - 1) (by omega) (by omega) ih (by omega) hv (nI_1 a) (sub_1 (by omega))) ?_
                rintro _ _ ⟨rfl, v5, rfl⟩
                iterate 5 (refine zv_step (bX0_placeIn (3 * (f + 1) + 4)) rfl rfl trivial ?_)
                refine zv_ifb (fun k2 => ?_) (fun k2 => ?_)
                · iterate 3 (refine zv_step (bX0_placeIn (3 * (f + 1) + 4)) rfl rfl trivial ?_)
                  exact zv_lret (bX0_placeIn (3 * (f + 1) + 4)) rfl rfl (Nat.zero_le _) (Nat.zero_le _) ⟨rfl, _, rfl⟩
                · iterate 2 (refine zv_step (bX0_placeIn (3 * (f + 1) + 4)) rfl rfl trivial ?_)
                  exact zv_lret (bX0_placeIn (3 * (f + 1) + 4)) rfl rfl (Nat.zero_le _) (Nat.zero_le _) ⟨rfl, _, rfl⟩
              · iterate 1 (refine zv_step (bX0_placeIn (3 * (f + 1) + 4)) rfl rfl trivial ?_)
                refine zv_iff (by decide) ?_
                iterate 1 (refine zv_step (bX0_placeIn (3 * (f + 1) + 4)) rfl rfl trivial ?_)
                exact zv_lret (bX0_placeIn (3 * (f + 1) + 4)) rfl rfl (Nat.zero_le _) (Nat.zero_le _) ⟨rfl, _, rfl⟩
          · iterate 3 (refine zv_step (bX0_placeIn (3 * (f + 1) + 4)) rfl rfl trivial ?_)
            exact zv_lret (bX0_placeIn (3 * (f + 1) + 4)) rfl rfl (Nat.zero_le _) (Nat.zero_le _) ⟨rfl, _, rfl⟩
      · iterate 1 (refine zv_step (bX0_placeIn (3 * (f + 1) + 4)) rfl rfl trivial ?_)
        refine zv_iff (by decide) ?_
        iterate 1 (refine zv_step (bX0_placeIn (3 * (f + 1) + 4)) rfl rfl trivial ?_)
        exact zv_lret (bX0_placeIn (3 * (f + 1) + 4)) rfl rfl (Nat.zero_le _) (Nat.zero_le _) ⟨rfl, _, rfl⟩
set_option maxHeartbeats 1000000 in
set_option maxRecDepth 20000 in
theorem hPlace (O : Nat → Int32) (P : Nat → Nat → Int32) (Y : Nat → Nat → Int64) (g : Nat → zC) (hu : (O 1).toInt ≤ 120) {m : Nat} (hm : m ≤ 20) (hO : O 9 = nI m) (n : Int32) : zK 65 zX0_placeOf [.ref 31, .ref 1, .int n] (wX O P Y g) (fun r w' => w' = wX O P Y g ∧ ∃ v : Int64, r = some (.long v)) := by
  refine zK_of qX0_placeOf (by decide +kernel) rfl ?_
  iterate 6 (refine zv_step (bX0_placeOf 65) rfl rfl trivial ?_)
  refine zv_V4 (bX0_placeOf 65) rfl rfl rfl rfl rfl rfl rfl ⟨rfl, rfl, rfl⟩ ⟨by decide, by decide⟩ ⟨Nat.zero_le _, Nat.zero_le _⟩ (hPI O P Y g hu 20 0 m n _ _ rfl hO (by omega) (by omega) (by omega)) ?_
  rintro _ _ ⟨rfl, v, rfl⟩
  exact zv_lret (bX0_placeOf 65) rfl rfl (Nat.zero_le _) (Nat.zero_le _) ⟨rfl, _, rfl⟩
