def R_node (p1 p2 p3 : Int32) (a : Int32) : Prop := ((True) ∧ a = -1)
theorem F_node {p1 p2 p3 : Int32} {a b : Int32} (h1 : R_node p1 p2 p3 a) (h2 : R_node p1 p2 p3 b) : a = b := by
  rcases h1 with ⟨c1, rfl⟩ <;> rcases h2 with ⟨c2, rfl⟩ <;> first | rfl | (exfalso; omega)
def R_undo (a : Int32) : Prop := ((True) ∧ a = -1)
theorem F_undo {a b : Int32} (h1 : R_undo a) (h2 : R_undo b) : a = b := by
  rcases h1 with ⟨c1, rfl⟩ <;> rcases h2 with ⟨c2, rfl⟩ <;> first | rfl | (exfalso; omega)
def R_look (p1 p2 : Int32) (a : Int32) : Prop := ((True) ∧ a = -1)
theorem F_look {p1 p2 : Int32} {a b : Int32} (h1 : R_look p1 p2 a) (h2 : R_look p1 p2 b) : a = b := by
  rcases h1 with ⟨c1, rfl⟩ <;> rcases h2 with ⟨c2, rfl⟩ <;> first | rfl | (exfalso; omega)
def R_alike (p1 p2 : Int32) (a : Int32) : Prop := ((True) ∧ a = -1)
theorem F_alike {p1 p2 : Int32} {a b : Int32} (h1 : R_alike p1 p2 a) (h2 : R_alike p1 p2 b) : a = b := by
  rcases h1 with ⟨c1, rfl⟩ <;> rcases h2 with ⟨c2, rfl⟩ <;> first | rfl | (exfalso; omega)
def R_times (p1 p2 : Int32) (a : Int32) : Prop := ((True) ∧ a = -1)
theorem F_times {p1 p2 : Int32} {a b : Int32} (h1 : R_times p1 p2 a) (h2 : R_times p1 p2 b) : a = b := by
  rcases h1 with ⟨c1, rfl⟩ <;> rcases h2 with ⟨c2, rfl⟩ <;> first | rfl | (exfalso; omega)
def R_words (p1 p2 : Int32) (a : Int32) : Prop := ((True) ∧ a = -1)
theorem F_words {p1 p2 : Int32} {a b : Int32} (h1 : R_words p1 p2 a) (h2 : R_words p1 p2 b) : a = b := by
  rcases h1 with ⟨c1, rfl⟩ <;> rcases h2 with ⟨c2, rfl⟩ <;> first | rfl | (exfalso; omega)
def R_word (p1 p2 p3 : Int32) (a : Int32) : Prop := ((True) ∧ a = -1)
theorem F_word {p1 p2 p3 : Int32} {a b : Int32} (h1 : R_word p1 p2 p3 a) (h2 : R_word p1 p2 p3 b) : a = b := by
  rcases h1 with ⟨c1, rfl⟩ <;> rcases h2 with ⟨c2, rfl⟩ <;> first | rfl | (exfalso; omega)
def R_sound (p1 p2 p3 : Int32) (a : Int32) : Prop := ((True) ∧ a = -1)
theorem F_sound {p1 p2 p3 : Int32} {a b : Int32} (h1 : R_sound p1 p2 p3 a) (h2 : R_sound p1 p2 p3 b) : a = b := by
  rcases h1 with ⟨c1, rfl⟩ <;> rcases h2 with ⟨c2, rfl⟩ <;> first | rfl | (exfalso; omega)
def R_listen (p1 p2 : Int32) (a : Int32) : Prop := ((True) ∧ a = -1)
theorem F_listen {p1 p2 : Int32} {a b : Int32} (h1 : R_listen p1 p2 a) (h2 : R_listen p1 p2 b) : a = b := by
  rcases h1 with ⟨c1, rfl⟩ <;> rcases h2 with ⟨c2, rfl⟩ <;> first | rfl | (exfalso; omega)
def R_fewest (p1 : Int32) (a : Int32) : Prop := ((True) ∧ a = -1)
theorem F_fewest {p1 : Int32} {a b : Int32} (h1 : R_fewest p1 a) (h2 : R_fewest p1 b) : a = b := by
  rcases h1 with ⟨c1, rfl⟩ <;> rcases h2 with ⟨c2, rfl⟩ <;> first | rfl | (exfalso; omega)
def R_walk (p1 : Int32) (a : Int32) : Prop := ((True) ∧ a = -1)
theorem F_walk {p1 : Int32} {a b : Int32} (h1 : R_walk p1 a) (h2 : R_walk p1 b) : a = b := by
  rcases h1 with ⟨c1, rfl⟩ <;> rcases h2 with ⟨c2, rfl⟩ <;> first | rfl | (exfalso; omega)
def R_changed (p1 p2 : Int32) (a : Int32) : Prop := ((True) ∧ a = -1)
theorem F_changed {p1 p2 : Int32} {a b : Int32} (h1 : R_changed p1 p2 a) (h2 : R_changed p1 p2 b) : a = b := by
  rcases h1 with ⟨c1, rfl⟩ <;> rcases h2 with ⟨c2, rfl⟩ <;> first | rfl | (exfalso; omega)
def R_exchanged (p1 p2 : Int32) (a : Int32) : Prop := ((True) ∧ a = -1)
theorem F_exchanged {p1 p2 : Int32} {a b : Int32} (h1 : R_exchanged p1 p2 a) (h2 : R_exchanged p1 p2 b) : a = b := by
  rcases h1 with ⟨c1, rfl⟩ <;> rcases h2 with ⟨c2, rfl⟩ <;> first | rfl | (exfalso; omega)
def R_ear (p1 : Int32) (a : Int32) : Prop := ((True) ∧ a = -1)
theorem F_ear {p1 : Int32} {a b : Int32} (h1 : R_ear p1 a) (h2 : R_ear p1 b) : a = b := by
  rcases h1 with ⟨c1, rfl⟩ <;> rcases h2 with ⟨c2, rfl⟩ <;> first | rfl | (exfalso; omega)
def R_hush (a : Int32) : Prop := ((True) ∧ a = 0)
theorem F_hush {a b : Int32} (h1 : R_hush a) (h2 : R_hush b) : a = b := by
  rcases h1 with ⟨c1, rfl⟩ <;> rcases h2 with ⟨c2, rfl⟩ <;> first | rfl | (exfalso; omega)
def R_go (p1 : Int32) (a : Int32) : Prop := ((¬ (0 ≤ p1.toInt ∧ p1.toInt ≤ 3)) ∧ a = -1) ∨ (((0 ≤ p1.toInt ∧ p1.toInt ≤ 3)) ∧ a = -2)
theorem F_go {p1 : Int32} {a b : Int32} (h1 : R_go p1 a) (h2 : R_go p1 b) : a = b := by
  rcases h1 with ⟨c1, rfl⟩ | ⟨c1, rfl⟩ <;> rcases h2 with ⟨c2, rfl⟩ | ⟨c2, rfl⟩ <;> first | rfl | (exfalso; omega)
def R_lead (p1 : Int32) (a : Int32) : Prop := ((True) ∧ a = -2)
theorem F_lead {p1 : Int32} {a b : Int32} (h1 : R_lead p1 a) (h2 : R_lead p1 b) : a = b := by
  rcases h1 with ⟨c1, rfl⟩ <;> rcases h2 with ⟨c2, rfl⟩ <;> first | rfl | (exfalso; omega)
def R_glance (p1 p2 : Int32) (a : Int32) : Prop := ((¬ ((0 ≤ p1.toInt ∧ p1.toInt ≤ 7) ∧ (0 ≤ p2.toInt ∧ p2.toInt ≤ 9))) ∧ a = -1) ∨ (((0 ≤ p1.toInt ∧ p1.toInt ≤ 7) ∧ (0 ≤ p2.toInt ∧ p2.toInt ≤ 9)) ∧ a = -2)
theorem F_glance {p1 p2 : Int32} {a b : Int32} (h1 : R_glance p1 p2 a) (h2 : R_glance p1 p2 b) : a = b := by
  rcases h1 with ⟨c1, rfl⟩ | ⟨c1, rfl⟩ <;> rcases h2 with ⟨c2, rfl⟩ | ⟨c2, rfl⟩ <;> first | rfl | (exfalso; omega)
def R_count (p1 : Int32) (a : Int32) : Prop := (((0 ≤ p1.toInt ∧ p1.toInt ≤ 2)) ∧ a = 0) ∨ ((¬ (0 ≤ p1.toInt ∧ p1.toInt ≤ 2)) ∧ a = -1)
theorem F_count {p1 : Int32} {a b : Int32} (h1 : R_count p1 a) (h2 : R_count p1 b) : a = b := by
  rcases h1 with ⟨c1, rfl⟩ | ⟨c1, rfl⟩ <;> rcases h2 with ⟨c2, rfl⟩ | ⟨c2, rfl⟩ <;> first | rfl | (exfalso; omega)
set_option maxHeartbeats 4000000 in
set_option maxRecDepth 20000 in
theorem cX_node (p1 p2 p3 : Int32) : zK 3 zX6_node [.ref 0, .int p1, .int p2, .int p3] w0 (fun r w' => (∃ a, r = some (.int a) ∧ R_node p1 p2 p3 a) ∧ ∀ j, 76 ≤ j → w'[j]? = w0[j]?) := by
  refine zK_of qX6_node (by decide +kernel) rfl ?_
  repeat' (first
    | refine zv_step (bX6_node 3) rfl rfl trivial ?_
    | (dsimp only; split)
    | (refine zv_V1 (bX6_node 3) rfl rfl rfl rfl rfl rfl rfl ⟨rfl, rfl, rfl⟩ ⟨by decide, by decide⟩ ⟨Nat.zero_le _, Nat.zero_le _⟩ (hHas _) ?_; rintro _ _ ⟨rfl, rfl⟩)
    | (refine zv_V0 (bX6_node 3) rfl rfl rfl rfl rfl rfl rfl ⟨rfl, rfl, rfl⟩ ⟨by decide, by decide⟩ ⟨Nat.zero_le _, Nat.zero_le _⟩ (hBegun) ?_; rintro _ _ ⟨rfl, rfl⟩)
    | (refine zv_S1 (bX6_node 3) rfl rfl rfl rfl ⟨rfl, rfl, rfl⟩ ⟨by decide, by decide⟩ ⟨Nat.zero_le _, Nat.zero_le _⟩ (hX6_isStyle _ _) ?_; rintro _ _ ⟨rfl, ⟨hh, rfl⟩ | ⟨hh, rfl⟩⟩)
    | (refine zv_S1 (bX6_node 3) rfl rfl rfl rfl ⟨rfl, rfl, rfl⟩ ⟨by decide, by decide⟩ ⟨Nat.zero_le _, Nat.zero_le _⟩ (hX6_isStyleOrFree _ _) ?_; rintro _ _ ⟨rfl, ⟨hh, rfl⟩ | ⟨hh, rfl⟩⟩)
    | (refine zv_S1 (bX6_node 3) rfl rfl rfl rfl ⟨rfl, rfl, rfl⟩ ⟨by decide, by decide⟩ ⟨Nat.zero_le _, Nat.zero_le _⟩ (hX6_isLetter _ _) ?_; rintro _ _ ⟨rfl, ⟨hh, rfl⟩ | ⟨hh, rfl⟩⟩)
    | (refine zv_S1 (bX6_node 3) rfl rfl rfl rfl ⟨rfl, rfl, rfl⟩ ⟨by decide, by decide⟩ ⟨Nat.zero_le _, Nat.zero_le _⟩ (hX6_isShelf _ _) ?_; rintro _ _ ⟨rfl, ⟨hh, rfl⟩ | ⟨hh, rfl⟩⟩)
    | (refine zv_S1 (bX6_node 3) rfl rfl rfl rfl ⟨rfl, rfl, rfl⟩ ⟨by decide, by decide⟩ ⟨Nat.zero_le _, Nat.zero_le _⟩ (hX1_isPair _ _) ?_; rintro _ _ ⟨rfl, ⟨hh, rfl⟩ | ⟨hh, rfl⟩⟩)
    | refine zv_iret (bX6_node 3) rfl (Or.inl rfl) (Nat.zero_le _) (Nat.zero_le _) ?_)
  all_goals first | exact ⟨⟨_, rfl, ⟨trivial, rfl⟩⟩, fun j hj => rfl⟩ | exact ⟨⟨_, rfl, ⟨trivial, rfl⟩⟩, fun j hj => by repeat rw [List.getElem?_set_ne (by omega)]⟩ | (exfalso; (try simp only [lg_cmp_lt, lg_cmp_gt, lg_cmp_ge, lg_cmp_le, lg_cmp_eq] at *); (try simp only [Int32.lt_iff_toInt_lt, Int32.le_iff_toInt_le, Int64.lt_iff_toInt_lt, Int64.le_iff_toInt_le, Int32.toInt_toInt64, lg_cmp_lt, lg_cmp_gt, lg_cmp_ge, lg_cmp_le, i8c, i16c, i32c, i64c, l0c, l1c, z32, i8e, i32e, Decidable.not_not, Int.reduceNeg, Int.reduceLE, Int.reduceLT, and_self, Int32.toInt_zero, Int.not_lt, Int.not_le] at *); omega)

set_option maxHeartbeats 4000000 in
set_option maxRecDepth 20000 in
theorem cX_undo  : zK 3 zX6_undo [.ref 0] w0 (fun r w' => (∃ a, r = some (.int a) ∧ R_undo a) ∧ ∀ j, 76 ≤ j → w'[j]? = w0[j]?) := by
  refine zK_of qX6_undo (by decide +kernel) rfl ?_
  repeat' (first
    | refine zv_step (bX6_undo 3) rfl rfl trivial ?_
    | (dsimp only; split)
    | (refine zv_V1 (bX6_undo 3) rfl rfl rfl rfl rfl rfl rfl ⟨rfl, rfl, rfl⟩ ⟨by decide, by decide⟩ ⟨Nat.zero_le _, Nat.zero_le _⟩ (hHas _) ?_; rintro _ _ ⟨rfl, rfl⟩)
    | (refine zv_V0 (bX6_undo 3) rfl rfl rfl rfl rfl rfl rfl ⟨rfl, rfl, rfl⟩ ⟨by decide, by decide⟩ ⟨Nat.zero_le _, Nat.zero_le _⟩ (hBegun) ?_; rintro _ _ ⟨rfl, rfl⟩)
    | (refine zv_S1 (bX6_undo 3) rfl rfl rfl rfl ⟨rfl, rfl, rfl⟩ ⟨by decide, by decide⟩ ⟨Nat.zero_le _, Nat.zero_le _⟩ (hX6_isStyle _ _) ?_; rintro _ _ ⟨rfl, ⟨hh, rfl⟩ | ⟨hh, rfl⟩⟩)
    | (refine zv_S1 (bX6_undo 3) rfl rfl rfl rfl ⟨rfl, rfl, rfl⟩ ⟨by decide, by decide⟩ ⟨Nat.zero_le _, Nat.zero_le _⟩ (hX6_isStyleOrFree _ _) ?_; rintro _ _ ⟨rfl, ⟨hh, rfl⟩ | ⟨hh, rfl⟩⟩)
    | (refine zv_S1 (bX6_undo 3) rfl rfl rfl rfl ⟨rfl, rfl, rfl⟩ ⟨by decide, by decide⟩ ⟨Nat.zero_le _, Nat.zero_le _⟩ (hX6_isLetter _ _) ?_; rintro _ _ ⟨rfl, ⟨hh, rfl⟩ | ⟨hh, rfl⟩⟩)
    | (refine zv_S1 (bX6_undo 3) rfl rfl rfl rfl ⟨rfl, rfl, rfl⟩ ⟨by decide, by decide⟩ ⟨Nat.zero_le _, Nat.zero_le _⟩ (hX6_isShelf _ _) ?_; rintro _ _ ⟨rfl, ⟨hh, rfl⟩ | ⟨hh, rfl⟩⟩)
    | (refine zv_S1 (bX6_undo 3) rfl rfl rfl rfl ⟨rfl, rfl, rfl⟩ ⟨by decide, by decide⟩ ⟨Nat.zero_le _, Nat.zero_le _⟩ (hX1_isPair _ _) ?_; rintro _ _ ⟨rfl, ⟨hh, rfl⟩ | ⟨hh, rfl⟩⟩)
    | refine zv_iret (bX6_undo 3) rfl (Or.inl rfl) (Nat.zero_le _) (Nat.zero_le _) ?_)
  all_goals first | exact ⟨⟨_, rfl, ⟨trivial, rfl⟩⟩, fun j hj => rfl⟩ | exact ⟨⟨_, rfl, ⟨trivial, rfl⟩⟩, fun j hj => by repeat rw [List.getElem?_set_ne (by omega)]⟩ | (exfalso; (try simp only [lg_cmp_lt, lg_cmp_gt, lg_cmp_ge, lg_cmp_le, lg_cmp_eq] at *); (try simp only [Int32.lt_iff_toInt_lt, Int32.le_iff_toInt_le, Int64.lt_iff_toInt_lt, Int64.le_iff_toInt_le, Int32.toInt_toInt64, lg_cmp_lt, lg_cmp_gt, lg_cmp_ge, lg_cmp_le, i8c, i16c, i32c, i64c, l0c, l1c, z32, i8e, i32e, Decidable.not_not, Int.reduceNeg, Int.reduceLE, Int.reduceLT, and_self, Int32.toInt_zero, Int.not_lt, Int.not_le] at *); omega)

set_option maxHeartbeats 4000000 in
set_option maxRecDepth 20000 in
theorem cX_look (p1 p2 : Int32) : zK 3 zX6_look [.ref 0, .int p1, .int p2] w0 (fun r w' => (∃ a, r = some (.int a) ∧ R_look p1 p2 a) ∧ ∀ j, 76 ≤ j → w'[j]? = w0[j]?) := by
  refine zK_of qX6_look (by decide +kernel) rfl ?_
  repeat' (first
    | refine zv_step (bX6_look 3) rfl rfl trivial ?_
    | (dsimp only; split)
    | (refine zv_V1 (bX6_look 3) rfl rfl rfl rfl rfl rfl rfl ⟨rfl, rfl, rfl⟩ ⟨by decide, by decide⟩ ⟨Nat.zero_le _, Nat.zero_le _⟩ (hHas _) ?_; rintro _ _ ⟨rfl, rfl⟩)
    | (refine zv_V0 (bX6_look 3) rfl rfl rfl rfl rfl rfl rfl ⟨rfl, rfl, rfl⟩ ⟨by decide, by decide⟩ ⟨Nat.zero_le _, Nat.zero_le _⟩ (hBegun) ?_; rintro _ _ ⟨rfl, rfl⟩)
    | (refine zv_S1 (bX6_look 3) rfl rfl rfl rfl ⟨rfl, rfl, rfl⟩ ⟨by decide, by decide⟩ ⟨Nat.zero_le _, Nat.zero_le _⟩ (hX6_isStyle _ _) ?_; rintro _ _ ⟨rfl, ⟨hh, rfl⟩ | ⟨hh, rfl⟩⟩)
    | (refine zv_S1 (bX6_look 3) rfl rfl rfl rfl ⟨rfl, rfl, rfl⟩ ⟨by decide, by decide⟩ ⟨Nat.zero_le _, Nat.zero_le _⟩ (hX6_isStyleOrFree _ _) ?_; rintro _ _ ⟨rfl, ⟨hh, rfl⟩ | ⟨hh, rfl⟩⟩)
    | (refine zv_S1 (bX6_look 3) rfl rfl rfl rfl ⟨rfl, rfl, rfl⟩ ⟨by decide, by decide⟩ ⟨Nat.zero_le _, Nat.zero_le _⟩ (hX6_isLetter _ _) ?_; rintro _ _ ⟨rfl, ⟨hh, rfl⟩ | ⟨hh, rfl⟩⟩)
    | (refine zv_S1 (bX6_look 3) rfl rfl rfl rfl ⟨rfl, rfl, rfl⟩ ⟨by decide, by decide⟩ ⟨Nat.zero_le _, Nat.zero_le _⟩ (hX6_isShelf _ _) ?_; rintro _ _ ⟨rfl, ⟨hh, rfl⟩ | ⟨hh, rfl⟩⟩)
    | (refine zv_S1 (bX6_look 3) rfl rfl rfl rfl ⟨rfl, rfl, rfl⟩ ⟨by decide, by decide⟩ ⟨Nat.zero_le _, Nat.zero_le _⟩ (hX1_isPair _ _) ?_; rintro _ _ ⟨rfl, ⟨hh, rfl⟩ | ⟨hh, rfl⟩⟩)
    | refine zv_iret (bX6_look 3) rfl (Or.inl rfl) (Nat.zero_le _) (Nat.zero_le _) ?_)
  all_goals first | exact ⟨⟨_, rfl, ⟨trivial, rfl⟩⟩, fun j hj => rfl⟩ | exact ⟨⟨_, rfl, ⟨trivial, rfl⟩⟩, fun j hj => by repeat rw [List.getElem?_set_ne (by omega)]⟩ | (exfalso; (try simp only [lg_cmp_lt, lg_cmp_gt, lg_cmp_ge, lg_cmp_le, lg_cmp_eq] at *); (try simp only [Int32.lt_iff_toInt_lt, Int32.le_iff_toInt_le, Int64.lt_iff_toInt_lt, Int64.le_iff_toInt_le, Int32.toInt_toInt64, lg_cmp_lt, lg_cmp_gt, lg_cmp_ge, lg_cmp_le, i8c, i16c, i32c, i64c, l0c, l1c, z32, i8e, i32e, Decidable.not_not, Int.reduceNeg, Int.reduceLE, Int.reduceLT, and_self, Int32.toInt_zero, Int.not_lt, Int.not_le] at *); omega)

set_option maxHeartbeats 4000000 in
set_option maxRecDepth 20000 in
theorem cX_alike (p1 p2 : Int32) : zK 3 zX6_alike [.ref 0, .int p1, .int p2] w0 (fun r w' => (∃ a, r = some (.int a) ∧ R_alike p1 p2 a) ∧ ∀ j, 76 ≤ j → w'[j]? = w0[j]?) := by
  refine zK_of qX6_alike (by decide +kernel) rfl ?_
  repeat' (first
    | refine zv_step (bX6_alike 3) rfl rfl trivial ?_
    | (dsimp only; split)
    | (refine zv_V1 (bX6_alike 3) rfl rfl rfl rfl rfl rfl rfl ⟨rfl, rfl, rfl⟩ ⟨by decide, by decide⟩ ⟨Nat.zero_le _, Nat.zero_le _⟩ (hHas _) ?_; rintro _ _ ⟨rfl, rfl⟩)
    | (refine zv_V0 (bX6_alike 3) rfl rfl rfl rfl rfl rfl rfl ⟨rfl, rfl, rfl⟩ ⟨by decide, by decide⟩ ⟨Nat.zero_le _, Nat.zero_le _⟩ (hBegun) ?_; rintro _ _ ⟨rfl, rfl⟩)
    | (refine zv_S1 (bX6_alike 3) rfl rfl rfl rfl ⟨rfl, rfl, rfl⟩ ⟨by decide, by decide⟩ ⟨Nat.zero_le _, Nat.zero_le _⟩ (hX6_isStyle _ _) ?_; rintro _ _ ⟨rfl, ⟨hh, rfl⟩ | ⟨hh, rfl⟩⟩)
    | (refine zv_S1 (bX6_alike 3) rfl rfl rfl rfl ⟨rfl, rfl, rfl⟩ ⟨by decide, by decide⟩ ⟨Nat.zero_le _, Nat.zero_le _⟩ (hX6_isStyleOrFree _ _) ?_; rintro _ _ ⟨rfl, ⟨hh, rfl⟩ | ⟨hh, rfl⟩⟩)
    | (refine zv_S1 (bX6_alike 3) rfl rfl rfl rfl ⟨rfl, rfl, rfl⟩ ⟨by decide, by decide⟩ ⟨Nat.zero_le _, Nat.zero_le _⟩ (hX6_isLetter _ _) ?_; rintro _ _ ⟨rfl, ⟨hh, rfl⟩ | ⟨hh, rfl⟩⟩)
    | (refine zv_S1 (bX6_alike 3) rfl rfl rfl rfl ⟨rfl, rfl, rfl⟩ ⟨by decide, by decide⟩ ⟨Nat.zero_le _, Nat.zero_le _⟩ (hX6_isShelf _ _) ?_; rintro _ _ ⟨rfl, ⟨hh, rfl⟩ | ⟨hh, rfl⟩⟩)
    | (refine zv_S1 (bX6_alike 3) rfl rfl rfl rfl ⟨rfl, rfl, rfl⟩ ⟨by decide, by decide⟩ ⟨Nat.zero_le _, Nat.zero_le _⟩ (hX1_isPair _ _) ?_; rintro _ _ ⟨rfl, ⟨hh, rfl⟩ | ⟨hh, rfl⟩⟩)
    | refine zv_iret (bX6_alike 3) rfl (Or.inl rfl) (Nat.zero_le _) (Nat.zero_le _) ?_)
  all_goals first | exact ⟨⟨_, rfl, ⟨trivial, rfl⟩⟩, fun j hj => rfl⟩ | exact ⟨⟨_, rfl, ⟨trivial, rfl⟩⟩, fun j hj => by repeat rw [List.getElem?_set_ne (by omega)]⟩ | (exfalso; (try simp only [lg_cmp_lt, lg_cmp_gt, lg_cmp_ge, lg_cmp_le, lg_cmp_eq] at *); (try simp only [Int32.lt_iff_toInt_lt, Int32.le_iff_toInt_le, Int64.lt_iff_toInt_lt, Int64.le_iff_toInt_le, Int32.toInt_toInt64, lg_cmp_lt, lg_cmp_gt, lg_cmp_ge, lg_cmp_le, i8c, i16c, i32c, i64c, l0c, l1c, z32, i8e, i32e, Decidable.not_not, Int.reduceNeg, Int.reduceLE, Int.reduceLT, and_self, Int32.toInt_zero, Int.not_lt, Int.not_le] at *); omega)

set_option maxHeartbeats 4000000 in
set_option maxRecDepth 20000 in
theorem cX_times (p1 p2 : Int32) : zK 3 zX6_times [.ref 0, .int p1, .int p2] w0 (fun r w' => (∃ a, r = some (.int a) ∧ R_times p1 p2 a) ∧ ∀ j, 76 ≤ j → w'[j]? = w0[j]?) := by
  refine zK_of qX6_times (by decide +kernel) rfl ?_
  repeat' (first
    | refine zv_step (bX6_times 3) rfl rfl trivial ?_
    | (dsimp only; split)
    | (refine zv_V1 (bX6_times 3) rfl rfl rfl rfl rfl rfl rfl ⟨rfl, rfl, rfl⟩ ⟨by decide, by decide⟩ ⟨Nat.zero_le _, Nat.zero_le _⟩ (hHas _) ?_; rintro _ _ ⟨rfl, rfl⟩)
    | (refine zv_V0 (bX6_times 3) rfl rfl rfl rfl rfl rfl rfl ⟨rfl, rfl, rfl⟩ ⟨by decide, by decide⟩ ⟨Nat.zero_le _, Nat.zero_le _⟩ (hBegun) ?_; rintro _ _ ⟨rfl, rfl⟩)
    | (refine zv_S1 (bX6_times 3) rfl rfl rfl rfl ⟨rfl, rfl, rfl⟩ ⟨by decide, by decide⟩ ⟨Nat.zero_le _, Nat.zero_le _⟩ (hX6_isStyle _ _) ?_; rintro _ _ ⟨rfl, ⟨hh, rfl⟩ | ⟨hh, rfl⟩⟩)
    | (refine zv_S1 (bX6_times 3) rfl rfl rfl rfl ⟨rfl, rfl, rfl⟩ ⟨by decide, by decide⟩ ⟨Nat.zero_le _, Nat.zero_le _⟩ (hX6_isStyleOrFree _ _) ?_; rintro _ _ ⟨rfl, ⟨hh, rfl⟩ | ⟨hh, rfl⟩⟩)
    | (refine zv_S1 (bX6_times 3) rfl rfl rfl rfl ⟨rfl, rfl, rfl⟩ ⟨by decide, by decide⟩ ⟨Nat.zero_le _, Nat.zero_le _⟩ (hX6_isLetter _ _) ?_; rintro _ _ ⟨rfl, ⟨hh, rfl⟩ | ⟨hh, rfl⟩⟩)
    | (refine zv_S1 (bX6_times 3) rfl rfl rfl rfl ⟨rfl, rfl, rfl⟩ ⟨by decide, by decide⟩ ⟨Nat.zero_le _, Nat.zero_le _⟩ (hX6_isShelf _ _) ?_; rintro _ _ ⟨rfl, ⟨hh, rfl⟩ | ⟨hh, rfl⟩⟩)
    | (refine zv_S1 (bX6_times 3) rfl rfl rfl rfl ⟨rfl, rfl, rfl⟩ ⟨by decide, by decide⟩ ⟨Nat.zero_le _, Nat.zero_le _⟩ (hX1_isPair _ _) ?_; rintro _ _ ⟨rfl, ⟨hh, rfl⟩ | ⟨hh, rfl⟩⟩)
    | refine zv_iret (bX6_times 3) rfl (Or.inl rfl) (Nat.zero_le _) (Nat.zero_le _) ?_)
  all_goals first | exact ⟨⟨_, rfl, ⟨trivial, rfl⟩⟩, fun j hj => rfl⟩ | exact ⟨⟨_, rfl, ⟨trivial, rfl⟩⟩, fun j hj => by repeat rw [List.getElem?_set_ne (by omega)]⟩ | (exfalso; (try simp only [lg_cmp_lt, lg_cmp_gt, lg_cmp_ge, lg_cmp_le, lg_cmp_eq] at *); (try simp only [Int32.lt_iff_toInt_lt, Int32.le_iff_toInt_le, Int64.lt_iff_toInt_lt, Int64.le_iff_toInt_le, Int32.toInt_toInt64, lg_cmp_lt, lg_cmp_gt, lg_cmp_ge, lg_cmp_le, i8c, i16c, i32c, i64c, l0c, l1c, z32, i8e, i32e, Decidable.not_not, Int.reduceNeg, Int.reduceLE, Int.reduceLT, and_self, Int32.toInt_zero, Int.not_lt, Int.not_le] at *); omega)

set_option maxHeartbeats 4000000 in
set_option maxRecDepth 20000 in
theorem cX_words (p1 p2 : Int32) : zK 3 zX6_words [.ref 0, .int p1, .int p2] w0 (fun r w' => (∃ a, r = some (.int a) ∧ R_words p1 p2 a) ∧ ∀ j, 76 ≤ j → w'[j]? = w0[j]?) := by
  refine zK_of qX6_words (by decide +kernel) rfl ?_
  repeat' (first
    | refine zv_step (bX6_words 3) rfl rfl trivial ?_
    | (dsimp only; split)
    | (refine zv_V1 (bX6_words 3) rfl rfl rfl rfl rfl rfl rfl ⟨rfl, rfl, rfl⟩ ⟨by decide, by decide⟩ ⟨Nat.zero_le _, Nat.zero_le _⟩ (hHas _) ?_; rintro _ _ ⟨rfl, rfl⟩)
    | (refine zv_V0 (bX6_words 3) rfl rfl rfl rfl rfl rfl rfl ⟨rfl, rfl, rfl⟩ ⟨by decide, by decide⟩ ⟨Nat.zero_le _, Nat.zero_le _⟩ (hBegun) ?_; rintro _ _ ⟨rfl, rfl⟩)
    | (refine zv_S1 (bX6_words 3) rfl rfl rfl rfl ⟨rfl, rfl, rfl⟩ ⟨by decide, by decide⟩ ⟨Nat.zero_le _, Nat.zero_le _⟩ (hX6_isStyle _ _) ?_; rintro _ _ ⟨rfl, ⟨hh, rfl⟩ | ⟨hh, rfl⟩⟩)
    | (refine zv_S1 (bX6_words 3) rfl rfl rfl rfl ⟨rfl, rfl, rfl⟩ ⟨by decide, by decide⟩ ⟨Nat.zero_le _, Nat.zero_le _⟩ (hX6_isStyleOrFree _ _) ?_; rintro _ _ ⟨rfl, ⟨hh, rfl⟩ | ⟨hh, rfl⟩⟩)
    | (refine zv_S1 (bX6_words 3) rfl rfl rfl rfl ⟨rfl, rfl, rfl⟩ ⟨by decide, by decide⟩ ⟨Nat.zero_le _, Nat.zero_le _⟩ (hX6_isLetter _ _) ?_; rintro _ _ ⟨rfl, ⟨hh, rfl⟩ | ⟨hh, rfl⟩⟩)
    | (refine zv_S1 (bX6_words 3) rfl rfl rfl rfl ⟨rfl, rfl, rfl⟩ ⟨by decide, by decide⟩ ⟨Nat.zero_le _, Nat.zero_le _⟩ (hX6_isShelf _ _) ?_; rintro _ _ ⟨rfl, ⟨hh, rfl⟩ | ⟨hh, rfl⟩⟩)
    | (refine zv_S1 (bX6_words 3) rfl rfl rfl rfl ⟨rfl, rfl, rfl⟩ ⟨by decide, by decide⟩ ⟨Nat.zero_le _, Nat.zero_le _⟩ (hX1_isPair _ _) ?_; rintro _ _ ⟨rfl, ⟨hh, rfl⟩ | ⟨hh, rfl⟩⟩)
    | refine zv_iret (bX6_words 3) rfl (Or.inl rfl) (Nat.zero_le _) (Nat.zero_le _) ?_)
  all_goals first | exact ⟨⟨_, rfl, ⟨trivial, rfl⟩⟩, fun j hj => rfl⟩ | exact ⟨⟨_, rfl, ⟨trivial, rfl⟩⟩, fun j hj => by repeat rw [List.getElem?_set_ne (by omega)]⟩ | (exfalso; (try simp only [lg_cmp_lt, lg_cmp_gt, lg_cmp_ge, lg_cmp_le, lg_cmp_eq] at *); (try simp only [Int32.lt_iff_toInt_lt, Int32.le_iff_toInt_le, Int64.lt_iff_toInt_lt, Int64.le_iff_toInt_le, Int32.toInt_toInt64, lg_cmp_lt, lg_cmp_gt, lg_cmp_ge, lg_cmp_le, i8c, i16c, i32c, i64c, l0c, l1c, z32, i8e, i32e, Decidable.not_not, Int.reduceNeg, Int.reduceLE, Int.reduceLT, and_self, Int32.toInt_zero, Int.not_lt, Int.not_le] at *); omega)

set_option maxHeartbeats 4000000 in
set_option maxRecDepth 20000 in
theorem cX_word (p1 p2 p3 : Int32) : zK 3 zX6_word [.ref 0, .int p1, .int p2, .int p3] w0 (fun r w' => (∃ a, r = some (.int a) ∧ R_word p1 p2 p3 a) ∧ ∀ j, 76 ≤ j → w'[j]? = w0[j]?) := by
  refine zK_of qX6_word (by decide +kernel) rfl ?_
  repeat' (first
    | refine zv_step (bX6_word 3) rfl rfl trivial ?_
    | (dsimp only; split)
    | (refine zv_V1 (bX6_word 3) rfl rfl rfl rfl rfl rfl rfl ⟨rfl, rfl, rfl⟩ ⟨by decide, by decide⟩ ⟨Nat.zero_le _, Nat.zero_le _⟩ (hHas _) ?_; rintro _ _ ⟨rfl, rfl⟩)
    | (refine zv_V0 (bX6_word 3) rfl rfl rfl rfl rfl rfl rfl ⟨rfl, rfl, rfl⟩ ⟨by decide, by decide⟩ ⟨Nat.zero_le _, Nat.zero_le _⟩ (hBegun) ?_; rintro _ _ ⟨rfl, rfl⟩)
    | (refine zv_S1 (bX6_word 3) rfl rfl rfl rfl ⟨rfl, rfl, rfl⟩ ⟨by decide, by decide⟩ ⟨Nat.zero_le _, Nat.zero_le _⟩ (hX6_isStyle _ _) ?_; rintro _ _ ⟨rfl, ⟨hh, rfl⟩ | ⟨hh, rfl⟩⟩)
    | (refine zv_S1 (bX6_word 3) rfl rfl rfl rfl ⟨rfl, rfl, rfl⟩ ⟨by decide, by decide⟩ ⟨Nat.zero_le _, Nat.zero_le _⟩ (hX6_isStyleOrFree _ _) ?_; rintro _ _ ⟨rfl, ⟨hh, rfl⟩ | ⟨hh, rfl⟩⟩)
    | (refine zv_S1 (bX6_word 3) rfl rfl rfl rfl ⟨rfl, rfl, rfl⟩ ⟨by decide, by decide⟩ ⟨Nat.zero_le _, Nat.zero_le _⟩ (hX6_isLetter _ _) ?_; rintro _ _ ⟨rfl, ⟨hh, rfl⟩ | ⟨hh, rfl⟩⟩)
    | (refine zv_S1 (bX6_word 3) rfl rfl rfl rfl ⟨rfl, rfl, rfl⟩ ⟨by decide, by decide⟩ ⟨Nat.zero_le _, Nat.zero_le _⟩ (hX6_isShelf _ _) ?_; rintro _ _ ⟨rfl, ⟨hh, rfl⟩ | ⟨hh, rfl⟩⟩)
    | (refine zv_S1 (bX6_word 3) rfl rfl rfl rfl ⟨rfl, rfl, rfl⟩ ⟨by decide, by decide⟩ ⟨Nat.zero_le _, Nat.zero_le _⟩ (hX1_isPair _ _) ?_; rintro _ _ ⟨rfl, ⟨hh, rfl⟩ | ⟨hh, rfl⟩⟩)
    | refine zv_iret (bX6_word 3) rfl (Or.inl rfl) (Nat.zero_le _) (Nat.zero_le _) ?_)
  all_goals first | exact ⟨⟨_, rfl, ⟨trivial, rfl⟩⟩, fun j hj => rfl⟩ | exact ⟨⟨_, rfl, ⟨trivial, rfl⟩⟩, fun j hj => by repeat rw [List.getElem?_set_ne (by omega)]⟩ | (exfalso; (try simp only [lg_cmp_lt, lg_cmp_gt, lg_cmp_ge, lg_cmp_le, lg_cmp_eq] at *); (try simp only [Int32.lt_iff_toInt_lt, Int32.le_iff_toInt_le, Int64.lt_iff_toInt_lt, Int64.le_iff_toInt_le, Int32.toInt_toInt64, lg_cmp_lt, lg_cmp_gt, lg_cmp_ge, lg_cmp_le, i8c, i16c, i32c, i64c, l0c, l1c, z32, i8e, i32e, Decidable.not_not, Int.reduceNeg, Int.reduceLE, Int.reduceLT, and_self, Int32.toInt_zero, Int.not_lt, Int.not_le] at *); omega)

set_option maxHeartbeats 4000000 in
set_option maxRecDepth 20000 in
theorem cX_sound (p1 p2 p3 : Int32) : zK 3 zX6_sound [.ref 0, .int p1, .int p2, .int p3] w0 (fun r w' => (∃ a, r = some (.int a) ∧ R_sound p1 p2 p3 a) ∧ ∀ j, 76 ≤ j → w'[j]? = w0[j]?) := by
  refine zK_of qX6_sound (by decide +kernel) rfl ?_
  repeat' (first
    | refine zv_step (bX6_sound 3) rfl rfl trivial ?_
    | (dsimp only; split)
    | (refine zv_V1 (bX6_sound 3) rfl rfl rfl rfl rfl rfl rfl ⟨rfl, rfl, rfl⟩ ⟨by decide, by decide⟩ ⟨Nat.zero_le _, Nat.zero_le _⟩ (hHas _) ?_; rintro _ _ ⟨rfl, rfl⟩)
    | (refine zv_V0 (bX6_sound 3) rfl rfl rfl rfl rfl rfl rfl ⟨rfl, rfl, rfl⟩ ⟨by decide, by decide⟩ ⟨Nat.zero_le _, Nat.zero_le _⟩ (hBegun) ?_; rintro _ _ ⟨rfl, rfl⟩)
    | (refine zv_S1 (bX6_sound 3) rfl rfl rfl rfl ⟨rfl, rfl, rfl⟩ ⟨by decide, by decide⟩ ⟨Nat.zero_le _, Nat.zero_le _⟩ (hX6_isStyle _ _) ?_; rintro _ _ ⟨rfl, ⟨hh, rfl⟩ | ⟨hh, rfl⟩⟩)
    | (refine zv_S1 (bX6_sound 3) rfl rfl rfl rfl ⟨rfl, rfl, rfl⟩ ⟨by decide, by decide⟩ ⟨Nat.zero_le _, Nat.zero_le _⟩ (hX6_isStyleOrFree _ _) ?_; rintro _ _ ⟨rfl, ⟨hh, rfl⟩ | ⟨hh, rfl⟩⟩)
    | (refine zv_S1 (bX6_sound 3) rfl rfl rfl rfl ⟨rfl, rfl, rfl⟩ ⟨by decide, by decide⟩ ⟨Nat.zero_le _, Nat.zero_le _⟩ (hX6_isLetter _ _) ?_; rintro _ _ ⟨rfl, ⟨hh, rfl⟩ | ⟨hh, rfl⟩⟩)
    | (refine zv_S1 (bX6_sound 3) rfl rfl rfl rfl ⟨rfl, rfl, rfl⟩ ⟨by decide, by decide⟩ ⟨Nat.zero_le _, Nat.zero_le _⟩ (hX6_isShelf _ _) ?_; rintro _ _ ⟨rfl, ⟨hh, rfl⟩ | ⟨hh, rfl⟩⟩)
    | (refine zv_S1 (bX6_sound 3) rfl rfl rfl rfl ⟨rfl, rfl, rfl⟩ ⟨by decide, by decide⟩ ⟨Nat.zero_le _, Nat.zero_le _⟩ (hX1_isPair _ _) ?_; rintro _ _ ⟨rfl, ⟨hh, rfl⟩ | ⟨hh, rfl⟩⟩)
    | refine zv_iret (bX6_sound 3) rfl (Or.inl rfl) (Nat.zero_le _) (Nat.zero_le _) ?_)
  all_goals first | exact ⟨⟨_, rfl, ⟨trivial, rfl⟩⟩, fun j hj => rfl⟩ | exact ⟨⟨_, rfl, ⟨trivial, rfl⟩⟩, fun j hj => by repeat rw [List.getElem?_set_ne (by omega)]⟩ | (exfalso; (try simp only [lg_cmp_lt, lg_cmp_gt, lg_cmp_ge, lg_cmp_le, lg_cmp_eq] at *); (try simp only [Int32.lt_iff_toInt_lt, Int32.le_iff_toInt_le, Int64.lt_iff_toInt_lt, Int64.le_iff_toInt_le, Int32.toInt_toInt64, lg_cmp_lt, lg_cmp_gt, lg_cmp_ge, lg_cmp_le, i8c, i16c, i32c, i64c, l0c, l1c, z32, i8e, i32e, Decidable.not_not, Int.reduceNeg, Int.reduceLE, Int.reduceLT, and_self, Int32.toInt_zero, Int.not_lt, Int.not_le] at *); omega)

set_option maxHeartbeats 4000000 in
set_option maxRecDepth 20000 in
theorem cX_listen (p1 p2 : Int32) : zK 3 zX6_listen [.ref 0, .int p1, .int p2] w0 (fun r w' => (∃ a, r = some (.int a) ∧ R_listen p1 p2 a) ∧ ∀ j, 76 ≤ j → w'[j]? = w0[j]?) := by
  refine zK_of qX6_listen (by decide +kernel) rfl ?_
  repeat' (first
    | refine zv_step (bX6_listen 3) rfl rfl trivial ?_
    | (dsimp only; split)
    | (refine zv_V1 (bX6_listen 3) rfl rfl rfl rfl rfl rfl rfl ⟨rfl, rfl, rfl⟩ ⟨by decide, by decide⟩ ⟨Nat.zero_le _, Nat.zero_le _⟩ (hHas _) ?_; rintro _ _ ⟨rfl, rfl⟩)
    | (refine zv_V0 (bX6_listen 3) rfl rfl rfl rfl rfl rfl rfl ⟨rfl, rfl, rfl⟩ ⟨by decide, by decide⟩ ⟨Nat.zero_le _, Nat.zero_le _⟩ (hBegun) ?_; rintro _ _ ⟨rfl, rfl⟩)
    | (refine zv_S1 (bX6_listen 3) rfl rfl rfl rfl ⟨rfl, rfl, rfl⟩ ⟨by decide, by decide⟩ ⟨Nat.zero_le _, Nat.zero_le _⟩ (hX6_isStyle _ _) ?_; rintro _ _ ⟨rfl, ⟨hh, rfl⟩ | ⟨hh, rfl⟩⟩)
    | (refine zv_S1 (bX6_listen 3) rfl rfl rfl rfl ⟨rfl, rfl, rfl⟩ ⟨by decide, by decide⟩ ⟨Nat.zero_le _, Nat.zero_le _⟩ (hX6_isStyleOrFree _ _) ?_; rintro _ _ ⟨rfl, ⟨hh, rfl⟩ | ⟨hh, rfl⟩⟩)
    | (refine zv_S1 (bX6_listen 3) rfl rfl rfl rfl ⟨rfl, rfl, rfl⟩ ⟨by decide, by decide⟩ ⟨Nat.zero_le _, Nat.zero_le _⟩ (hX6_isLetter _ _) ?_; rintro _ _ ⟨rfl, ⟨hh, rfl⟩ | ⟨hh, rfl⟩⟩)
    | (refine zv_S1 (bX6_listen 3) rfl rfl rfl rfl ⟨rfl, rfl, rfl⟩ ⟨by decide, by decide⟩ ⟨Nat.zero_le _, Nat.zero_le _⟩ (hX6_isShelf _ _) ?_; rintro _ _ ⟨rfl, ⟨hh, rfl⟩ | ⟨hh, rfl⟩⟩)
    | (refine zv_S1 (bX6_listen 3) rfl rfl rfl rfl ⟨rfl, rfl, rfl⟩ ⟨by decide, by decide⟩ ⟨Nat.zero_le _, Nat.zero_le _⟩ (hX1_isPair _ _) ?_; rintro _ _ ⟨rfl, ⟨hh, rfl⟩ | ⟨hh, rfl⟩⟩)
    | refine zv_iret (bX6_listen 3) rfl (Or.inl rfl) (Nat.zero_le _) (Nat.zero_le _) ?_)
  all_goals first | exact ⟨⟨_, rfl, ⟨trivial, rfl⟩⟩, fun j hj => rfl⟩ | exact ⟨⟨_, rfl, ⟨trivial, rfl⟩⟩, fun j hj => by repeat rw [List.getElem?_set_ne (by omega)]⟩ | (exfalso; (try simp only [lg_cmp_lt, lg_cmp_gt, lg_cmp_ge, lg_cmp_le, lg_cmp_eq] at *); (try simp only [Int32.lt_iff_toInt_lt, Int32.le_iff_toInt_le, Int64.lt_iff_toInt_lt, Int64.le_iff_toInt_le, Int32.toInt_toInt64, lg_cmp_lt, lg_cmp_gt, lg_cmp_ge, lg_cmp_le, i8c, i16c, i32c, i64c, l0c, l1c, z32, i8e, i32e, Decidable.not_not, Int.reduceNeg, Int.reduceLE, Int.reduceLT, and_self, Int32.toInt_zero, Int.not_lt, Int.not_le] at *); omega)

set_option maxHeartbeats 4000000 in
set_option maxRecDepth 20000 in
theorem cX_fewest (p1 : Int32) : zK 3 zX6_fewest [.ref 0, .int p1] w0 (fun r w' => (∃ a, r = some (.int a) ∧ R_fewest p1 a) ∧ ∀ j, 76 ≤ j → w'[j]? = w0[j]?) := by
  refine zK_of qX6_fewest (by decide +kernel) rfl ?_
  repeat' (first
    | refine zv_step (bX6_fewest 3) rfl rfl trivial ?_
    | (dsimp only; split)
    | (refine zv_V1 (bX6_fewest 3) rfl rfl rfl rfl rfl rfl rfl ⟨rfl, rfl, rfl⟩ ⟨by decide, by decide⟩ ⟨Nat.zero_le _, Nat.zero_le _⟩ (hHas _) ?_; rintro _ _ ⟨rfl, rfl⟩)
    | (refine zv_V0 (bX6_fewest 3) rfl rfl rfl rfl rfl rfl rfl ⟨rfl, rfl, rfl⟩ ⟨by decide, by decide⟩ ⟨Nat.zero_le _, Nat.zero_le _⟩ (hBegun) ?_; rintro _ _ ⟨rfl, rfl⟩)
    | (refine zv_S1 (bX6_fewest 3) rfl rfl rfl rfl ⟨rfl, rfl, rfl⟩ ⟨by decide, by decide⟩ ⟨Nat.zero_le _, Nat.zero_le _⟩ (hX6_isStyle _ _) ?_; rintro _ _ ⟨rfl, ⟨hh, rfl⟩ | ⟨hh, rfl⟩⟩)
    | (refine zv_S1 (bX6_fewest 3) rfl rfl rfl rfl ⟨rfl, rfl, rfl⟩ ⟨by decide, by decide⟩ ⟨Nat.zero_le _, Nat.zero_le _⟩ (hX6_isStyleOrFree _ _) ?_; rintro _ _ ⟨rfl, ⟨hh, rfl⟩ | ⟨hh, rfl⟩⟩)
    | (refine zv_S1 (bX6_fewest 3) rfl rfl rfl rfl ⟨rfl, rfl, rfl⟩ ⟨by decide, by decide⟩ ⟨Nat.zero_le _, Nat.zero_le _⟩ (hX6_isLetter _ _) ?_; rintro _ _ ⟨rfl, ⟨hh, rfl⟩ | ⟨hh, rfl⟩⟩)
    | (refine zv_S1 (bX6_fewest 3) rfl rfl rfl rfl ⟨rfl, rfl, rfl⟩ ⟨by decide, by decide⟩ ⟨Nat.zero_le _, Nat.zero_le _⟩ (hX6_isShelf _ _) ?_; rintro _ _ ⟨rfl, ⟨hh, rfl⟩ | ⟨hh, rfl⟩⟩)
    | (refine zv_S1 (bX6_fewest 3) rfl rfl rfl rfl ⟨rfl, rfl, rfl⟩ ⟨by decide, by decide⟩ ⟨Nat.zero_le _, Nat.zero_le _⟩ (hX1_isPair _ _) ?_; rintro _ _ ⟨rfl, ⟨hh, rfl⟩ | ⟨hh, rfl⟩⟩)
    | refine zv_iret (bX6_fewest 3) rfl (Or.inl rfl) (Nat.zero_le _) (Nat.zero_le _) ?_)
  all_goals first | exact ⟨⟨_, rfl, ⟨trivial, rfl⟩⟩, fun j hj => rfl⟩ | exact ⟨⟨_, rfl, ⟨trivial, rfl⟩⟩, fun j hj => by repeat rw [List.getElem?_set_ne (by omega)]⟩ | (exfalso; (try simp only [lg_cmp_lt, lg_cmp_gt, lg_cmp_ge, lg_cmp_le, lg_cmp_eq] at *); (try simp only [Int32.lt_iff_toInt_lt, Int32.le_iff_toInt_le, Int64.lt_iff_toInt_lt, Int64.le_iff_toInt_le, Int32.toInt_toInt64, lg_cmp_lt, lg_cmp_gt, lg_cmp_ge, lg_cmp_le, i8c, i16c, i32c, i64c, l0c, l1c, z32, i8e, i32e, Decidable.not_not, Int.reduceNeg, Int.reduceLE, Int.reduceLT, and_self, Int32.toInt_zero, Int.not_lt, Int.not_le] at *); omega)

set_option maxHeartbeats 4000000 in
set_option maxRecDepth 20000 in
theorem cX_walk (p1 : Int32) : zK 3 zX6_walk [.ref 0, .int p1] w0 (fun r w' => (∃ a, r = some (.int a) ∧ R_walk p1 a) ∧ ∀ j, 76 ≤ j → w'[j]? = w0[j]?) := by
  refine zK_of qX6_walk (by decide +kernel) rfl ?_
  repeat' (first
    | refine zv_step (bX6_walk 3) rfl rfl trivial ?_
    | (dsimp only; split)
    | (refine zv_V1 (bX6_walk 3) rfl rfl rfl rfl rfl rfl rfl ⟨rfl, rfl, rfl⟩ ⟨by decide, by decide⟩ ⟨Nat.zero_le _, Nat.zero_le _⟩ (hHas _) ?_; rintro _ _ ⟨rfl, rfl⟩)
    | (refine zv_V0 (bX6_walk 3) rfl rfl rfl rfl rfl rfl rfl ⟨rfl, rfl, rfl⟩ ⟨by decide, by decide⟩ ⟨Nat.zero_le _, Nat.zero_le _⟩ (hBegun) ?_; rintro _ _ ⟨rfl, rfl⟩)
    | (refine zv_S1 (bX6_walk 3) rfl rfl rfl rfl ⟨rfl, rfl, rfl⟩ ⟨by decide, by decide⟩ ⟨Nat.zero_le _, Nat.zero_le _⟩ (hX6_isStyle _ _) ?_; rintro _ _ ⟨rfl, ⟨hh, rfl⟩ | ⟨hh, rfl⟩⟩)
    | (refine zv_S1 (bX6_walk 3) rfl rfl rfl rfl ⟨rfl, rfl, rfl⟩ ⟨by decide, by decide⟩ ⟨Nat.zero_le _, Nat.zero_le _⟩ (hX6_isStyleOrFree _ _) ?_; rintro _ _ ⟨rfl, ⟨hh, rfl⟩ | ⟨hh, rfl⟩⟩)
    | (refine zv_S1 (bX6_walk 3) rfl rfl rfl rfl ⟨rfl, rfl, rfl⟩ ⟨by decide, by decide⟩ ⟨Nat.zero_le _, Nat.zero_le _⟩ (hX6_isLetter _ _) ?_; rintro _ _ ⟨rfl, ⟨hh, rfl⟩ | ⟨hh, rfl⟩⟩)
    | (refine zv_S1 (bX6_walk 3) rfl rfl rfl rfl ⟨rfl, rfl, rfl⟩ ⟨by decide, by decide⟩ ⟨Nat.zero_le _, Nat.zero_le _⟩ (hX6_isShelf _ _) ?_; rintro _ _ ⟨rfl, ⟨hh, rfl⟩ | ⟨hh, rfl⟩⟩)
    | (refine zv_S1 (bX6_walk 3) rfl rfl rfl rfl ⟨rfl, rfl, rfl⟩ ⟨by decide, by decide⟩ ⟨Nat.zero_le _, Nat.zero_le _⟩ (hX1_isPair _ _) ?_; rintro _ _ ⟨rfl, ⟨hh, rfl⟩ | ⟨hh, rfl⟩⟩)
    | refine zv_iret (bX6_walk 3) rfl (Or.inl rfl) (Nat.zero_le _) (Nat.zero_le _) ?_)
  all_goals first | exact ⟨⟨_, rfl, ⟨trivial, rfl⟩⟩, fun j hj => rfl⟩ | exact ⟨⟨_, rfl, ⟨trivial, rfl⟩⟩, fun j hj => by repeat rw [List.getElem?_set_ne (by omega)]⟩ | (exfalso; (try simp only [lg_cmp_lt, lg_cmp_gt, lg_cmp_ge, lg_cmp_le, lg_cmp_eq] at *); (try simp only [Int32.lt_iff_toInt_lt, Int32.le_iff_toInt_le, Int64.lt_iff_toInt_lt, Int64.le_iff_toInt_le, Int32.toInt_toInt64, lg_cmp_lt, lg_cmp_gt, lg_cmp_ge, lg_cmp_le, i8c, i16c, i32c, i64c, l0c, l1c, z32, i8e, i32e, Decidable.not_not, Int.reduceNeg, Int.reduceLE, Int.reduceLT, and_self, Int32.toInt_zero, Int.not_lt, Int.not_le] at *); omega)

set_option maxHeartbeats 4000000 in
set_option maxRecDepth 20000 in
theorem cX_changed (p1 p2 : Int32) : zK 3 zX6_changed [.ref 0, .int p1, .int p2] w0 (fun r w' => (∃ a, r = some (.int a) ∧ R_changed p1 p2 a) ∧ ∀ j, 76 ≤ j → w'[j]? = w0[j]?) := by
  refine zK_of qX6_changed (by decide +kernel) rfl ?_
  repeat' (first
    | refine zv_step (bX6_changed 3) rfl rfl trivial ?_
    | (dsimp only; split)
    | (refine zv_V1 (bX6_changed 3) rfl rfl rfl rfl rfl rfl rfl ⟨rfl, rfl, rfl⟩ ⟨by decide, by decide⟩ ⟨Nat.zero_le _, Nat.zero_le _⟩ (hHas _) ?_; rintro _ _ ⟨rfl, rfl⟩)
    | (refine zv_V0 (bX6_changed 3) rfl rfl rfl rfl rfl rfl rfl ⟨rfl, rfl, rfl⟩ ⟨by decide, by decide⟩ ⟨Nat.zero_le _, Nat.zero_le _⟩ (hBegun) ?_; rintro _ _ ⟨rfl, rfl⟩)
    | (refine zv_S1 (bX6_changed 3) rfl rfl rfl rfl ⟨rfl, rfl, rfl⟩ ⟨by decide, by decide⟩ ⟨Nat.zero_le _, Nat.zero_le _⟩ (hX6_isStyle _ _) ?_; rintro _ _ ⟨rfl, ⟨hh, rfl⟩ | ⟨hh, rfl⟩⟩)
    | (refine zv_S1 (bX6_changed 3) rfl rfl rfl rfl ⟨rfl, rfl, rfl⟩ ⟨by decide, by decide⟩ ⟨Nat.zero_le _, Nat.zero_le _⟩ (hX6_isStyleOrFree _ _) ?_; rintro _ _ ⟨rfl, ⟨hh, rfl⟩ | ⟨hh, rfl⟩⟩)
    | (refine zv_S1 (bX6_changed 3) rfl rfl rfl rfl ⟨rfl, rfl, rfl⟩ ⟨by decide, by decide⟩ ⟨Nat.zero_le _, Nat.zero_le _⟩ (hX6_isLetter _ _) ?_; rintro _ _ ⟨rfl, ⟨hh, rfl⟩ | ⟨hh, rfl⟩⟩)
    | (refine zv_S1 (bX6_changed 3) rfl rfl rfl rfl ⟨rfl, rfl, rfl⟩ ⟨by decide, by decide⟩ ⟨Nat.zero_le _, Nat.zero_le _⟩ (hX6_isShelf _ _) ?_; rintro _ _ ⟨rfl, ⟨hh, rfl⟩ | ⟨hh, rfl⟩⟩)
    | (refine zv_S1 (bX6_changed 3) rfl rfl rfl rfl ⟨rfl, rfl, rfl⟩ ⟨by decide, by decide⟩ ⟨Nat.zero_le _, Nat.zero_le _⟩ (hX1_isPair _ _) ?_; rintro _ _ ⟨rfl, ⟨hh, rfl⟩ | ⟨hh, rfl⟩⟩)
    | refine zv_iret (bX6_changed 3) rfl (Or.inl rfl) (Nat.zero_le _) (Nat.zero_le _) ?_)
  all_goals first | exact ⟨⟨_, rfl, ⟨trivial, rfl⟩⟩, fun j hj => rfl⟩ | exact ⟨⟨_, rfl, ⟨trivial, rfl⟩⟩, fun j hj => by repeat rw [List.getElem?_set_ne (by omega)]⟩ | (exfalso; (try simp only [lg_cmp_lt, lg_cmp_gt, lg_cmp_ge, lg_cmp_le, lg_cmp_eq] at *); (try simp only [Int32.lt_iff_toInt_lt, Int32.le_iff_toInt_le, Int64.lt_iff_toInt_lt, Int64.le_iff_toInt_le, Int32.toInt_toInt64, lg_cmp_lt, lg_cmp_gt, lg_cmp_ge, lg_cmp_le, i8c, i16c, i32c, i64c, l0c, l1c, z32, i8e, i32e, Decidable.not_not, Int.reduceNeg, Int.reduceLE, Int.reduceLT, and_self, Int32.toInt_zero, Int.not_lt, Int.not_le] at *); omega)

set_option maxHeartbeats 4000000 in
set_option maxRecDepth 20000 in
theorem cX_exchanged (p1 p2 : Int32) : zK 3 zX6_exchanged [.ref 0, .int p1, .int p2] w0 (fun r w' => (∃ a, r = some (.int a) ∧ R_exchanged p1 p2 a) ∧ ∀ j, 76 ≤ j → w'[j]? = w0[j]?) := by
  refine zK_of qX6_exchanged (by decide +kernel) rfl ?_
  repeat' (first
    | refine zv_step (bX6_exchanged 3) rfl rfl trivial ?_
    | (dsimp only; split)
    | (refine zv_V1 (bX6_exchanged 3) rfl rfl rfl rfl rfl rfl rfl ⟨rfl, rfl, rfl⟩ ⟨by decide, by decide⟩ ⟨Nat.zero_le _, Nat.zero_le _⟩ (hHas _) ?_; rintro _ _ ⟨rfl, rfl⟩)
    | (refine zv_V0 (bX6_exchanged 3) rfl rfl rfl rfl rfl rfl rfl ⟨rfl, rfl, rfl⟩ ⟨by decide, by decide⟩ ⟨Nat.zero_le _, Nat.zero_le _⟩ (hBegun) ?_; rintro _ _ ⟨rfl, rfl⟩)
    | (refine zv_S1 (bX6_exchanged 3) rfl rfl rfl rfl ⟨rfl, rfl, rfl⟩ ⟨by decide, by decide⟩ ⟨Nat.zero_le _, Nat.zero_le _⟩ (hX6_isStyle _ _) ?_; rintro _ _ ⟨rfl, ⟨hh, rfl⟩ | ⟨hh, rfl⟩⟩)
    | (refine zv_S1 (bX6_exchanged 3) rfl rfl rfl rfl ⟨rfl, rfl, rfl⟩ ⟨by decide, by decide⟩ ⟨Nat.zero_le _, Nat.zero_le _⟩ (hX6_isStyleOrFree _ _) ?_; rintro _ _ ⟨rfl, ⟨hh, rfl⟩ | ⟨hh, rfl⟩⟩)
    | (refine zv_S1 (bX6_exchanged 3) rfl rfl rfl rfl ⟨rfl, rfl, rfl⟩ ⟨by decide, by decide⟩ ⟨Nat.zero_le _, Nat.zero_le _⟩ (hX6_isLetter _ _) ?_; rintro _ _ ⟨rfl, ⟨hh, rfl⟩ | ⟨hh, rfl⟩⟩)
    | (refine zv_S1 (bX6_exchanged 3) rfl rfl rfl rfl ⟨rfl, rfl, rfl⟩ ⟨by decide, by decide⟩ ⟨Nat.zero_le _, Nat.zero_le _⟩ (hX6_isShelf _ _) ?_; rintro _ _ ⟨rfl, ⟨hh, rfl⟩ | ⟨hh, rfl⟩⟩)
    | (refine zv_S1 (bX6_exchanged 3) rfl rfl rfl rfl ⟨rfl, rfl, rfl⟩ ⟨by decide, by decide⟩ ⟨Nat.zero_le _, Nat.zero_le _⟩ (hX1_isPair _ _) ?_; rintro _ _ ⟨rfl, ⟨hh, rfl⟩ | ⟨hh, rfl⟩⟩)
    | refine zv_iret (bX6_exchanged 3) rfl (Or.inl rfl) (Nat.zero_le _) (Nat.zero_le _) ?_)
  all_goals first | exact ⟨⟨_, rfl, ⟨trivial, rfl⟩⟩, fun j hj => rfl⟩ | exact ⟨⟨_, rfl, ⟨trivial, rfl⟩⟩, fun j hj => by repeat rw [List.getElem?_set_ne (by omega)]⟩ | (exfalso; (try simp only [lg_cmp_lt, lg_cmp_gt, lg_cmp_ge, lg_cmp_le, lg_cmp_eq] at *); (try simp only [Int32.lt_iff_toInt_lt, Int32.le_iff_toInt_le, Int64.lt_iff_toInt_lt, Int64.le_iff_toInt_le, Int32.toInt_toInt64, lg_cmp_lt, lg_cmp_gt, lg_cmp_ge, lg_cmp_le, i8c, i16c, i32c, i64c, l0c, l1c, z32, i8e, i32e, Decidable.not_not, Int.reduceNeg, Int.reduceLE, Int.reduceLT, and_self, Int32.toInt_zero, Int.not_lt, Int.not_le] at *); omega)

set_option maxHeartbeats 4000000 in
set_option maxRecDepth 20000 in
theorem cX_ear (p1 : Int32) : zK 3 zX6_ear [.ref 0, .int p1] w0 (fun r w' => (∃ a, r = some (.int a) ∧ R_ear p1 a) ∧ ∀ j, 76 ≤ j → w'[j]? = w0[j]?) := by
  refine zK_of qX6_ear (by decide +kernel) rfl ?_
  repeat' (first
    | refine zv_step (bX6_ear 3) rfl rfl trivial ?_
    | (dsimp only; split)
    | (refine zv_V1 (bX6_ear 3) rfl rfl rfl rfl rfl rfl rfl ⟨rfl, rfl, rfl⟩ ⟨by decide, by decide⟩ ⟨Nat.zero_le _, Nat.zero_le _⟩ (hHas _) ?_; rintro _ _ ⟨rfl, rfl⟩)
    | (refine zv_V0 (bX6_ear 3) rfl rfl rfl rfl rfl rfl rfl ⟨rfl, rfl, rfl⟩ ⟨by decide, by decide⟩ ⟨Nat.zero_le _, Nat.zero_le _⟩ (hBegun) ?_; rintro _ _ ⟨rfl, rfl⟩)
    | (refine zv_S1 (bX6_ear 3) rfl rfl rfl rfl ⟨rfl, rfl, rfl⟩ ⟨by decide, by decide⟩ ⟨Nat.zero_le _, Nat.zero_le _⟩ (hX6_isStyle _ _) ?_; rintro _ _ ⟨rfl, ⟨hh, rfl⟩ | ⟨hh, rfl⟩⟩)
    | (refine zv_S1 (bX6_ear 3) rfl rfl rfl rfl ⟨rfl, rfl, rfl⟩ ⟨by decide, by decide⟩ ⟨Nat.zero_le _, Nat.zero_le _⟩ (hX6_isStyleOrFree _ _) ?_; rintro _ _ ⟨rfl, ⟨hh, rfl⟩ | ⟨hh, rfl⟩⟩)
    | (refine zv_S1 (bX6_ear 3) rfl rfl rfl rfl ⟨rfl, rfl, rfl⟩ ⟨by decide, by decide⟩ ⟨Nat.zero_le _, Nat.zero_le _⟩ (hX6_isLetter _ _) ?_; rintro _ _ ⟨rfl, ⟨hh, rfl⟩ | ⟨hh, rfl⟩⟩)
    | (refine zv_S1 (bX6_ear 3) rfl rfl rfl rfl ⟨rfl, rfl, rfl⟩ ⟨by decide, by decide⟩ ⟨Nat.zero_le _, Nat.zero_le _⟩ (hX6_isShelf _ _) ?_; rintro _ _ ⟨rfl, ⟨hh, rfl⟩ | ⟨hh, rfl⟩⟩)
    | (refine zv_S1 (bX6_ear 3) rfl rfl rfl rfl ⟨rfl, rfl, rfl⟩ ⟨by decide, by decide⟩ ⟨Nat.zero_le _, Nat.zero_le _⟩ (hX1_isPair _ _) ?_; rintro _ _ ⟨rfl, ⟨hh, rfl⟩ | ⟨hh, rfl⟩⟩)
    | refine zv_iret (bX6_ear 3) rfl (Or.inl rfl) (Nat.zero_le _) (Nat.zero_le _) ?_)
  all_goals first | exact ⟨⟨_, rfl, ⟨trivial, rfl⟩⟩, fun j hj => rfl⟩ | exact ⟨⟨_, rfl, ⟨trivial, rfl⟩⟩, fun j hj => by repeat rw [List.getElem?_set_ne (by omega)]⟩ | (exfalso; (try simp only [lg_cmp_lt, lg_cmp_gt, lg_cmp_ge, lg_cmp_le, lg_cmp_eq] at *); (try simp only [Int32.lt_iff_toInt_lt, Int32.le_iff_toInt_le, Int64.lt_iff_toInt_lt, Int64.le_iff_toInt_le, Int32.toInt_toInt64, lg_cmp_lt, lg_cmp_gt, lg_cmp_ge, lg_cmp_le, i8c, i16c, i32c, i64c, l0c, l1c, z32, i8e, i32e, Decidable.not_not, Int.reduceNeg, Int.reduceLE, Int.reduceLT, and_self, Int32.toInt_zero, Int.not_lt, Int.not_le] at *); omega)

set_option maxHeartbeats 4000000 in
set_option maxRecDepth 20000 in
theorem cX_hush  : zK 3 zX6_hush [.ref 0] w0 (fun r w' => (∃ a, r = some (.int a) ∧ R_hush a) ∧ ∀ j, 76 ≤ j → w'[j]? = w0[j]?) := by
  refine zK_of qX6_hush (by decide +kernel) rfl ?_
  repeat' (first
    | refine zv_step (bX6_hush 3) rfl rfl trivial ?_
    | (dsimp only; split)
    | (refine zv_V1 (bX6_hush 3) rfl rfl rfl rfl rfl rfl rfl ⟨rfl, rfl, rfl⟩ ⟨by decide, by decide⟩ ⟨Nat.zero_le _, Nat.zero_le _⟩ (hHas _) ?_; rintro _ _ ⟨rfl, rfl⟩)
    | (refine zv_V0 (bX6_hush 3) rfl rfl rfl rfl rfl rfl rfl ⟨rfl, rfl, rfl⟩ ⟨by decide, by decide⟩ ⟨Nat.zero_le _, Nat.zero_le _⟩ (hBegun) ?_; rintro _ _ ⟨rfl, rfl⟩)
    | (refine zv_S1 (bX6_hush 3) rfl rfl rfl rfl ⟨rfl, rfl, rfl⟩ ⟨by decide, by decide⟩ ⟨Nat.zero_le _, Nat.zero_le _⟩ (hX6_isStyle _ _) ?_; rintro _ _ ⟨rfl, ⟨hh, rfl⟩ | ⟨hh, rfl⟩⟩)
    | (refine zv_S1 (bX6_hush 3) rfl rfl rfl rfl ⟨rfl, rfl, rfl⟩ ⟨by decide, by decide⟩ ⟨Nat.zero_le _, Nat.zero_le _⟩ (hX6_isStyleOrFree _ _) ?_; rintro _ _ ⟨rfl, ⟨hh, rfl⟩ | ⟨hh, rfl⟩⟩)
    | (refine zv_S1 (bX6_hush 3) rfl rfl rfl rfl ⟨rfl, rfl, rfl⟩ ⟨by decide, by decide⟩ ⟨Nat.zero_le _, Nat.zero_le _⟩ (hX6_isLetter _ _) ?_; rintro _ _ ⟨rfl, ⟨hh, rfl⟩ | ⟨hh, rfl⟩⟩)
    | (refine zv_S1 (bX6_hush 3) rfl rfl rfl rfl ⟨rfl, rfl, rfl⟩ ⟨by decide, by decide⟩ ⟨Nat.zero_le _, Nat.zero_le _⟩ (hX6_isShelf _ _) ?_; rintro _ _ ⟨rfl, ⟨hh, rfl⟩ | ⟨hh, rfl⟩⟩)
    | (refine zv_S1 (bX6_hush 3) rfl rfl rfl rfl ⟨rfl, rfl, rfl⟩ ⟨by decide, by decide⟩ ⟨Nat.zero_le _, Nat.zero_le _⟩ (hX1_isPair _ _) ?_; rintro _ _ ⟨rfl, ⟨hh, rfl⟩ | ⟨hh, rfl⟩⟩)
    | refine zv_iret (bX6_hush 3) rfl (Or.inl rfl) (Nat.zero_le _) (Nat.zero_le _) ?_)
  all_goals first | exact ⟨⟨_, rfl, ⟨trivial, rfl⟩⟩, fun j hj => rfl⟩ | exact ⟨⟨_, rfl, ⟨trivial, rfl⟩⟩, fun j hj => by repeat rw [List.getElem?_set_ne (by omega)]⟩ | (exfalso; (try simp only [lg_cmp_lt, lg_cmp_gt, lg_cmp_ge, lg_cmp_le, lg_cmp_eq] at *); (try simp only [Int32.lt_iff_toInt_lt, Int32.le_iff_toInt_le, Int64.lt_iff_toInt_lt, Int64.le_iff_toInt_le, Int32.toInt_toInt64, lg_cmp_lt, lg_cmp_gt, lg_cmp_ge, lg_cmp_le, i8c, i16c, i32c, i64c, l0c, l1c, z32, i8e, i32e, Decidable.not_not, Int.reduceNeg, Int.reduceLE, Int.reduceLT, and_self, Int32.toInt_zero, Int.not_lt, Int.not_le] at *); omega)

set_option maxHeartbeats 4000000 in
set_option maxRecDepth 20000 in
theorem cX_go (p1 : Int32) : zK 3 zX6_go [.ref 0, .int p1] w0 (fun r w' => (∃ a, r = some (.int a) ∧ R_go p1 a) ∧ ∀ j, 76 ≤ j → w'[j]? = w0[j]?) := by
  refine zK_of qX6_go (by decide +kernel) rfl ?_
  repeat' (first
    | refine zv_step (bX6_go 3) rfl rfl trivial ?_
    | (dsimp only; split)
    | (refine zv_V1 (bX6_go 3) rfl rfl rfl rfl rfl rfl rfl ⟨rfl, rfl, rfl⟩ ⟨by decide, by decide⟩ ⟨Nat.zero_le _, Nat.zero_le _⟩ (hHas _) ?_; rintro _ _ ⟨rfl, rfl⟩)
    | (refine zv_V0 (bX6_go 3) rfl rfl rfl rfl rfl rfl rfl ⟨rfl, rfl, rfl⟩ ⟨by decide, by decide⟩ ⟨Nat.zero_le _, Nat.zero_le _⟩ (hBegun) ?_; rintro _ _ ⟨rfl, rfl⟩)
    | (refine zv_S1 (bX6_go 3) rfl rfl rfl rfl ⟨rfl, rfl, rfl⟩ ⟨by decide, by decide⟩ ⟨Nat.zero_le _, Nat.zero_le _⟩ (hX6_isStyle _ _) ?_; rintro _ _ ⟨rfl, ⟨hh, rfl⟩ | ⟨hh, rfl⟩⟩)
    | (refine zv_S1 (bX6_go 3) rfl rfl rfl rfl ⟨rfl, rfl, rfl⟩ ⟨by decide, by decide⟩ ⟨Nat.zero_le _, Nat.zero_le _⟩ (hX6_isStyleOrFree _ _) ?_; rintro _ _ ⟨rfl, ⟨hh, rfl⟩ | ⟨hh, rfl⟩⟩)
    | (refine zv_S1 (bX6_go 3) rfl rfl rfl rfl ⟨rfl, rfl, rfl⟩ ⟨by decide, by decide⟩ ⟨Nat.zero_le _, Nat.zero_le _⟩ (hX6_isLetter _ _) ?_; rintro _ _ ⟨rfl, ⟨hh, rfl⟩ | ⟨hh, rfl⟩⟩)
    | (refine zv_S1 (bX6_go 3) rfl rfl rfl rfl ⟨rfl, rfl, rfl⟩ ⟨by decide, by decide⟩ ⟨Nat.zero_le _, Nat.zero_le _⟩ (hX6_isShelf _ _) ?_; rintro _ _ ⟨rfl, ⟨hh, rfl⟩ | ⟨hh, rfl⟩⟩)
    | (refine zv_S1 (bX6_go 3) rfl rfl rfl rfl ⟨rfl, rfl, rfl⟩ ⟨by decide, by decide⟩ ⟨Nat.zero_le _, Nat.zero_le _⟩ (hX1_isPair _ _) ?_; rintro _ _ ⟨rfl, ⟨hh, rfl⟩ | ⟨hh, rfl⟩⟩)
    | refine zv_iret (bX6_go 3) rfl (Or.inl rfl) (Nat.zero_le _) (Nat.zero_le _) ?_)
  all_goals first | exact ⟨⟨_, rfl, Or.inl (⟨(by first | decide | ((try simp only [lg_cmp_lt, lg_cmp_gt, lg_cmp_ge, lg_cmp_le, lg_cmp_eq] at *); (try simp only [Int32.lt_iff_toInt_lt, Int32.le_iff_toInt_le, Int64.lt_iff_toInt_lt, Int64.le_iff_toInt_le, Int32.toInt_toInt64, lg_cmp_lt, lg_cmp_gt, lg_cmp_ge, lg_cmp_le, i8c, i16c, i32c, i64c, l0c, l1c, z32, i8e, i32e, Decidable.not_not, Int.reduceNeg, Int.reduceLE, Int.reduceLT, and_self, Int32.toInt_zero, Int.not_lt, Int.not_le] at *); omega)), rfl⟩)⟩, fun j hj => rfl⟩ | exact ⟨⟨_, rfl, Or.inl (⟨(by first | decide | ((try simp only [lg_cmp_lt, lg_cmp_gt, lg_cmp_ge, lg_cmp_le, lg_cmp_eq] at *); (try simp only [Int32.lt_iff_toInt_lt, Int32.le_iff_toInt_le, Int64.lt_iff_toInt_lt, Int64.le_iff_toInt_le, Int32.toInt_toInt64, lg_cmp_lt, lg_cmp_gt, lg_cmp_ge, lg_cmp_le, i8c, i16c, i32c, i64c, l0c, l1c, z32, i8e, i32e, Decidable.not_not, Int.reduceNeg, Int.reduceLE, Int.reduceLT, and_self, Int32.toInt_zero, Int.not_lt, Int.not_le] at *); omega)), rfl⟩)⟩, fun j hj => by repeat rw [List.getElem?_set_ne (by omega)]⟩ | exact ⟨⟨_, rfl, Or.inr (⟨(by first | decide | ((try simp only [lg_cmp_lt, lg_cmp_gt, lg_cmp_ge, lg_cmp_le, lg_cmp_eq] at *); (try simp only [Int32.lt_iff_toInt_lt, Int32.le_iff_toInt_le, Int64.lt_iff_toInt_lt, Int64.le_iff_toInt_le, Int32.toInt_toInt64, lg_cmp_lt, lg_cmp_gt, lg_cmp_ge, lg_cmp_le, i8c, i16c, i32c, i64c, l0c, l1c, z32, i8e, i32e, Decidable.not_not, Int.reduceNeg, Int.reduceLE, Int.reduceLT, and_self, Int32.toInt_zero, Int.not_lt, Int.not_le] at *); omega)), rfl⟩)⟩, fun j hj => rfl⟩ | exact ⟨⟨_, rfl, Or.inr (⟨(by first | decide | ((try simp only [lg_cmp_lt, lg_cmp_gt, lg_cmp_ge, lg_cmp_le, lg_cmp_eq] at *); (try simp only [Int32.lt_iff_toInt_lt, Int32.le_iff_toInt_le, Int64.lt_iff_toInt_lt, Int64.le_iff_toInt_le, Int32.toInt_toInt64, lg_cmp_lt, lg_cmp_gt, lg_cmp_ge, lg_cmp_le, i8c, i16c, i32c, i64c, l0c, l1c, z32, i8e, i32e, Decidable.not_not, Int.reduceNeg, Int.reduceLE, Int.reduceLT, and_self, Int32.toInt_zero, Int.not_lt, Int.not_le] at *); omega)), rfl⟩)⟩, fun j hj => by repeat rw [List.getElem?_set_ne (by omega)]⟩ | (exfalso; (try simp only [lg_cmp_lt, lg_cmp_gt, lg_cmp_ge, lg_cmp_le, lg_cmp_eq] at *); (try simp only [Int32.lt_iff_toInt_lt, Int32.le_iff_toInt_le, Int64.lt_iff_toInt_lt, Int64.le_iff_toInt_le, Int32.toInt_toInt64, lg_cmp_lt, lg_cmp_gt, lg_cmp_ge, lg_cmp_le, i8c, i16c, i32c, i64c, l0c, l1c, z32, i8e, i32e, Decidable.not_not, Int.reduceNeg, Int.reduceLE, Int.reduceLT, and_self, Int32.toInt_zero, Int.not_lt, Int.not_le] at *); omega)

set_option maxHeartbeats 4000000 in
set_option maxRecDepth 20000 in
theorem cX_lead (p1 : Int32) : zK 3 zX6_lead [.ref 0, .int p1] w0 (fun r w' => (∃ a, r = some (.int a) ∧ R_lead p1 a) ∧ ∀ j, 76 ≤ j → w'[j]? = w0[j]?) := by
  refine zK_of qX6_lead (by decide +kernel) rfl ?_
  repeat' (first
    | refine zv_step (bX6_lead 3) rfl rfl trivial ?_
    | (dsimp only; split)
    | (refine zv_V1 (bX6_lead 3) rfl rfl rfl rfl rfl rfl rfl ⟨rfl, rfl, rfl⟩ ⟨by decide, by decide⟩ ⟨Nat.zero_le _, Nat.zero_le _⟩ (hHas _) ?_; rintro _ _ ⟨rfl, rfl⟩)
    | (refine zv_V0 (bX6_lead 3) rfl rfl rfl rfl rfl rfl rfl ⟨rfl, rfl, rfl⟩ ⟨by decide, by decide⟩ ⟨Nat.zero_le _, Nat.zero_le _⟩ (hBegun) ?_; rintro _ _ ⟨rfl, rfl⟩)
    | (refine zv_S1 (bX6_lead 3) rfl rfl rfl rfl ⟨rfl, rfl, rfl⟩ ⟨by decide, by decide⟩ ⟨Nat.zero_le _, Nat.zero_le _⟩ (hX6_isStyle _ _) ?_; rintro _ _ ⟨rfl, ⟨hh, rfl⟩ | ⟨hh, rfl⟩⟩)
    | (refine zv_S1 (bX6_lead 3) rfl rfl rfl rfl ⟨rfl, rfl, rfl⟩ ⟨by decide, by decide⟩ ⟨Nat.zero_le _, Nat.zero_le _⟩ (hX6_isStyleOrFree _ _) ?_; rintro _ _ ⟨rfl, ⟨hh, rfl⟩ | ⟨hh, rfl⟩⟩)
    | (refine zv_S1 (bX6_lead 3) rfl rfl rfl rfl ⟨rfl, rfl, rfl⟩ ⟨by decide, by decide⟩ ⟨Nat.zero_le _, Nat.zero_le _⟩ (hX6_isLetter _ _) ?_; rintro _ _ ⟨rfl, ⟨hh, rfl⟩ | ⟨hh, rfl⟩⟩)
    | (refine zv_S1 (bX6_lead 3) rfl rfl rfl rfl ⟨rfl, rfl, rfl⟩ ⟨by decide, by decide⟩ ⟨Nat.zero_le _, Nat.zero_le _⟩ (hX6_isShelf _ _) ?_; rintro _ _ ⟨rfl, ⟨hh, rfl⟩ | ⟨hh, rfl⟩⟩)
    | (refine zv_S1 (bX6_lead 3) rfl rfl rfl rfl ⟨rfl, rfl, rfl⟩ ⟨by decide, by decide⟩ ⟨Nat.zero_le _, Nat.zero_le _⟩ (hX1_isPair _ _) ?_; rintro _ _ ⟨rfl, ⟨hh, rfl⟩ | ⟨hh, rfl⟩⟩)
    | refine zv_iret (bX6_lead 3) rfl (Or.inl rfl) (Nat.zero_le _) (Nat.zero_le _) ?_)
  all_goals first | exact ⟨⟨_, rfl, ⟨trivial, rfl⟩⟩, fun j hj => rfl⟩ | exact ⟨⟨_, rfl, ⟨trivial, rfl⟩⟩, fun j hj => by repeat rw [List.getElem?_set_ne (by omega)]⟩ | (exfalso; (try simp only [lg_cmp_lt, lg_cmp_gt, lg_cmp_ge, lg_cmp_le, lg_cmp_eq] at *); (try simp only [Int32.lt_iff_toInt_lt, Int32.le_iff_toInt_le, Int64.lt_iff_toInt_lt, Int64.le_iff_toInt_le, Int32.toInt_toInt64, lg_cmp_lt, lg_cmp_gt, lg_cmp_ge, lg_cmp_le, i8c, i16c, i32c, i64c, l0c, l1c, z32, i8e, i32e, Decidable.not_not, Int.reduceNeg, Int.reduceLE, Int.reduceLT, and_self, Int32.toInt_zero, Int.not_lt, Int.not_le] at *); omega)

set_option maxHeartbeats 4000000 in
set_option maxRecDepth 20000 in
theorem cX_glance (p1 p2 : Int32) : zK 3 zX6_glance [.ref 0, .int p1, .int p2] w0 (fun r w' => (∃ a, r = some (.int a) ∧ R_glance p1 p2 a) ∧ ∀ j, 76 ≤ j → w'[j]? = w0[j]?) := by
  refine zK_of qX6_glance (by decide +kernel) rfl ?_
  repeat' (first
    | refine zv_step (bX6_glance 3) rfl rfl trivial ?_
    | (dsimp only; split)
    | (refine zv_V1 (bX6_glance 3) rfl rfl rfl rfl rfl rfl rfl ⟨rfl, rfl, rfl⟩ ⟨by decide, by decide⟩ ⟨Nat.zero_le _, Nat.zero_le _⟩ (hHas _) ?_; rintro _ _ ⟨rfl, rfl⟩)
    | (refine zv_V0 (bX6_glance 3) rfl rfl rfl rfl rfl rfl rfl ⟨rfl, rfl, rfl⟩ ⟨by decide, by decide⟩ ⟨Nat.zero_le _, Nat.zero_le _⟩ (hBegun) ?_; rintro _ _ ⟨rfl, rfl⟩)
    | (refine zv_S1 (bX6_glance 3) rfl rfl rfl rfl ⟨rfl, rfl, rfl⟩ ⟨by decide, by decide⟩ ⟨Nat.zero_le _, Nat.zero_le _⟩ (hX6_isStyle _ _) ?_; rintro _ _ ⟨rfl, ⟨hh, rfl⟩ | ⟨hh, rfl⟩⟩)
    | (refine zv_S1 (bX6_glance 3) rfl rfl rfl rfl ⟨rfl, rfl, rfl⟩ ⟨by decide, by decide⟩ ⟨Nat.zero_le _, Nat.zero_le _⟩ (hX6_isStyleOrFree _ _) ?_; rintro _ _ ⟨rfl, ⟨hh, rfl⟩ | ⟨hh, rfl⟩⟩)
    | (refine zv_S1 (bX6_glance 3) rfl rfl rfl rfl ⟨rfl, rfl, rfl⟩ ⟨by decide, by decide⟩ ⟨Nat.zero_le _, Nat.zero_le _⟩ (hX6_isLetter _ _) ?_; rintro _ _ ⟨rfl, ⟨hh, rfl⟩ | ⟨hh, rfl⟩⟩)
    | (refine zv_S1 (bX6_glance 3) rfl rfl rfl rfl ⟨rfl, rfl, rfl⟩ ⟨by decide, by decide⟩ ⟨Nat.zero_le _, Nat.zero_le _⟩ (hX6_isShelf _ _) ?_; rintro _ _ ⟨rfl, ⟨hh, rfl⟩ | ⟨hh, rfl⟩⟩)
    | (refine zv_S1 (bX6_glance 3) rfl rfl rfl rfl ⟨rfl, rfl, rfl⟩ ⟨by decide, by decide⟩ ⟨Nat.zero_le _, Nat.zero_le _⟩ (hX1_isPair _ _) ?_; rintro _ _ ⟨rfl, ⟨hh, rfl⟩ | ⟨hh, rfl⟩⟩)
    | refine zv_iret (bX6_glance 3) rfl (Or.inl rfl) (Nat.zero_le _) (Nat.zero_le _) ?_)
  all_goals first | exact ⟨⟨_, rfl, Or.inl (⟨(by first | decide | ((try simp only [lg_cmp_lt, lg_cmp_gt, lg_cmp_ge, lg_cmp_le, lg_cmp_eq] at *); (try simp only [Int32.lt_iff_toInt_lt, Int32.le_iff_toInt_le, Int64.lt_iff_toInt_lt, Int64.le_iff_toInt_le, Int32.toInt_toInt64, lg_cmp_lt, lg_cmp_gt, lg_cmp_ge, lg_cmp_le, i8c, i16c, i32c, i64c, l0c, l1c, z32, i8e, i32e, Decidable.not_not, Int.reduceNeg, Int.reduceLE, Int.reduceLT, and_self, Int32.toInt_zero, Int.not_lt, Int.not_le] at *); omega)), rfl⟩)⟩, fun j hj => rfl⟩ | exact ⟨⟨_, rfl, Or.inl (⟨(by first | decide | ((try simp only [lg_cmp_lt, lg_cmp_gt, lg_cmp_ge, lg_cmp_le, lg_cmp_eq] at *); (try simp only [Int32.lt_iff_toInt_lt, Int32.le_iff_toInt_le, Int64.lt_iff_toInt_lt, Int64.le_iff_toInt_le, Int32.toInt_toInt64, lg_cmp_lt, lg_cmp_gt, lg_cmp_ge, lg_cmp_le, i8c, i16c, i32c, i64c, l0c, l1c, z32, i8e, i32e, Decidable.not_not, Int.reduceNeg, Int.reduceLE, Int.reduceLT, and_self, Int32.toInt_zero, Int.not_lt, Int.not_le] at *); omega)), rfl⟩)⟩, fun j hj => by repeat rw [List.getElem?_set_ne (by omega)]⟩ | exact ⟨⟨_, rfl, Or.inr (⟨(by first | decide | ((try simp only [lg_cmp_lt, lg_cmp_gt, lg_cmp_ge, lg_cmp_le, lg_cmp_eq] at *); (try simp only [Int32.lt_iff_toInt_lt, Int32.le_iff_toInt_le, Int64.lt_iff_toInt_lt, Int64.le_iff_toInt_le, Int32.toInt_toInt64, lg_cmp_lt, lg_cmp_gt, lg_cmp_ge, lg_cmp_le, i8c, i16c, i32c, i64c, l0c, l1c, z32, i8e, i32e, Decidable.not_not, Int.reduceNeg, Int.reduceLE, Int.reduceLT, and_self, Int32.toInt_zero, Int.not_lt, Int.not_le] at *); omega)), rfl⟩)⟩, fun j hj => rfl⟩ | exact ⟨⟨_, rfl, Or.inr (⟨(by first | decide | ((try simp only [lg_cmp_lt, lg_cmp_gt, lg_cmp_ge, lg_cmp_le, lg_cmp_eq] at *); (try simp only [Int32.lt_iff_toInt_lt, Int32.le_iff_toInt_le, Int64.lt_iff_toInt_lt, Int64.le_iff_toInt_le, Int32.toInt_toInt64, lg_cmp_lt, lg_cmp_gt, lg_cmp_ge, lg_cmp_le, i8c, i16c, i32c, i64c, l0c, l1c, z32, i8e, i32e, Decidable.not_not, Int.reduceNeg, Int.reduceLE, Int.reduceLT, and_self, Int32.toInt_zero, Int.not_lt, Int.not_le] at *); omega)), rfl⟩)⟩, fun j hj => by repeat rw [List.getElem?_set_ne (by omega)]⟩ | (exfalso; (try simp only [lg_cmp_lt, lg_cmp_gt, lg_cmp_ge, lg_cmp_le, lg_cmp_eq] at *); (try simp only [Int32.lt_iff_toInt_lt, Int32.le_iff_toInt_le, Int64.lt_iff_toInt_lt, Int64.le_iff_toInt_le, Int32.toInt_toInt64, lg_cmp_lt, lg_cmp_gt, lg_cmp_ge, lg_cmp_le, i8c, i16c, i32c, i64c, l0c, l1c, z32, i8e, i32e, Decidable.not_not, Int.reduceNeg, Int.reduceLE, Int.reduceLT, and_self, Int32.toInt_zero, Int.not_lt, Int.not_le] at *); omega)

set_option maxHeartbeats 4000000 in
set_option maxRecDepth 20000 in
theorem hbc  : zK 0 zJ6_bitCount_0f7a4 [.int 0] w0 (fun r w' => w' = w0 ∧ r = some (.int 0)) := by
  refine zK_of qJ6_bitCount_0f7a4 (by decide +kernel) rfl ?_
  repeat' (first
    | refine zv_step (bJ6_bitCount_0f7a4 0) rfl rfl trivial ?_
    | (dsimp only; split)
    | refine zv_iret (bJ6_bitCount_0f7a4 0) rfl (Or.inl rfl) (Nat.zero_le _) (Nat.zero_le _) ?_)
  all_goals first | exact ⟨rfl, rfl⟩ | (exfalso; (try simp only [lg_cmp_lt, lg_cmp_gt, lg_cmp_ge, lg_cmp_le, lg_cmp_eq] at *); (try simp only [Int32.lt_iff_toInt_lt, Int32.le_iff_toInt_le, Int64.lt_iff_toInt_lt, Int64.le_iff_toInt_le, Int32.toInt_toInt64, lg_cmp_lt, lg_cmp_gt, lg_cmp_ge, lg_cmp_le, i8c, i16c, i32c, i64c, l0c, l1c, z32, i8e, i32e, Decidable.not_not, Int.reduceNeg, Int.reduceLE, Int.reduceLT, and_self, Int32.toInt_zero, Int.not_lt, Int.not_le] at *); omega)

set_option maxHeartbeats 4000000 in
set_option maxRecDepth 20000 in
theorem cX_count (p1 : Int32) : zK 3 zX6_count [.ref 0, .int p1] w0 (fun r w' => (∃ a, r = some (.int a) ∧ R_count p1 a) ∧ ∀ j, 76 ≤ j → w'[j]? = w0[j]?) := by
  rcases zcase2 p1 with rfl | rfl | rfl | hc
  all_goals refine zK_of qX6_count (by decide +kernel) rfl ?_
  repeat' (first
    | refine zv_step (bX6_count 3) rfl rfl trivial ?_
    | (dsimp only; split)
    | (refine zv_V1 (bX6_count 3) rfl rfl rfl rfl rfl rfl rfl ⟨rfl, rfl, rfl⟩ ⟨by decide, by decide⟩ ⟨Nat.zero_le _, Nat.zero_le _⟩ (hHas _) ?_; rintro _ _ ⟨rfl, rfl⟩)
    | (refine zv_V0 (bX6_count 3) rfl rfl rfl rfl rfl rfl rfl ⟨rfl, rfl, rfl⟩ ⟨by decide, by decide⟩ ⟨Nat.zero_le _, Nat.zero_le _⟩ (hBegun) ?_; rintro _ _ ⟨rfl, rfl⟩)
    | (refine zv_S1 (bX6_count 3) rfl rfl rfl rfl ⟨rfl, rfl, rfl⟩ ⟨by decide, by decide⟩ ⟨Nat.zero_le _, Nat.zero_le _⟩ (hX6_isStyle _ _) ?_; rintro _ _ ⟨rfl, ⟨hh, rfl⟩ | ⟨hh, rfl⟩⟩)
    | (refine zv_S1 (bX6_count 3) rfl rfl rfl rfl ⟨rfl, rfl, rfl⟩ ⟨by decide, by decide⟩ ⟨Nat.zero_le _, Nat.zero_le _⟩ (hX6_isStyleOrFree _ _) ?_; rintro _ _ ⟨rfl, ⟨hh, rfl⟩ | ⟨hh, rfl⟩⟩)
    | (refine zv_S1 (bX6_count 3) rfl rfl rfl rfl ⟨rfl, rfl, rfl⟩ ⟨by decide, by decide⟩ ⟨Nat.zero_le _, Nat.zero_le _⟩ (hX6_isLetter _ _) ?_; rintro _ _ ⟨rfl, ⟨hh, rfl⟩ | ⟨hh, rfl⟩⟩)
    | (refine zv_S1 (bX6_count 3) rfl rfl rfl rfl ⟨rfl, rfl, rfl⟩ ⟨by decide, by decide⟩ ⟨Nat.zero_le _, Nat.zero_le _⟩ (hX6_isShelf _ _) ?_; rintro _ _ ⟨rfl, ⟨hh, rfl⟩ | ⟨hh, rfl⟩⟩)
    | (refine zv_S1 (bX6_count 3) rfl rfl rfl rfl ⟨rfl, rfl, rfl⟩ ⟨by decide, by decide⟩ ⟨Nat.zero_le _, Nat.zero_le _⟩ (hX1_isPair _ _) ?_; rintro _ _ ⟨rfl, ⟨hh, rfl⟩ | ⟨hh, rfl⟩⟩)
    | (refine zv_S1 (bX6_count 3) rfl rfl rfl rfl ⟨rfl, rfl, rfl⟩ ⟨by decide, by decide⟩ ⟨Nat.zero_le _, Nat.zero_le _⟩ (hbc) ?_; rintro _ _ ⟨rfl, rfl⟩)
    | refine zv_step (bX6_count 3) rfl rfl (by decide) ?_
    | refine zv_iret (bX6_count 3) rfl (Or.inl rfl) (Nat.zero_le _) (Nat.zero_le _) ?_)
  all_goals first | exact ⟨⟨_, rfl, Or.inl (⟨(by first | decide | ((try simp only [lg_cmp_lt, lg_cmp_gt, lg_cmp_ge, lg_cmp_le, lg_cmp_eq] at *); (try simp only [Int32.lt_iff_toInt_lt, Int32.le_iff_toInt_le, Int64.lt_iff_toInt_lt, Int64.le_iff_toInt_le, Int32.toInt_toInt64, lg_cmp_lt, lg_cmp_gt, lg_cmp_ge, lg_cmp_le, i8c, i16c, i32c, i64c, l0c, l1c, z32, i8e, i32e, Decidable.not_not, Int.reduceNeg, Int.reduceLE, Int.reduceLT, and_self, Int32.toInt_zero, Int.not_lt, Int.not_le] at *); omega)), rfl⟩)⟩, fun j hj => rfl⟩ | exact ⟨⟨_, rfl, Or.inl (⟨(by first | decide | ((try simp only [lg_cmp_lt, lg_cmp_gt, lg_cmp_ge, lg_cmp_le, lg_cmp_eq] at *); (try simp only [Int32.lt_iff_toInt_lt, Int32.le_iff_toInt_le, Int64.lt_iff_toInt_lt, Int64.le_iff_toInt_le, Int32.toInt_toInt64, lg_cmp_lt, lg_cmp_gt, lg_cmp_ge, lg_cmp_le, i8c, i16c, i32c, i64c, l0c, l1c, z32, i8e, i32e, Decidable.not_not, Int.reduceNeg, Int.reduceLE, Int.reduceLT, and_self, Int32.toInt_zero, Int.not_lt, Int.not_le] at *); omega)), rfl⟩)⟩, fun j hj => by repeat rw [List.getElem?_set_ne (by omega)]⟩ | exact ⟨⟨_, rfl, Or.inr (⟨(by first | decide | ((try simp only [lg_cmp_lt, lg_cmp_gt, lg_cmp_ge, lg_cmp_le, lg_cmp_eq] at *); (try simp only [Int32.lt_iff_toInt_lt, Int32.le_iff_toInt_le, Int64.lt_iff_toInt_lt, Int64.le_iff_toInt_le, Int32.toInt_toInt64, lg_cmp_lt, lg_cmp_gt, lg_cmp_ge, lg_cmp_le, i8c, i16c, i32c, i64c, l0c, l1c, z32, i8e, i32e, Decidable.not_not, Int.reduceNeg, Int.reduceLE, Int.reduceLT, and_self, Int32.toInt_zero, Int.not_lt, Int.not_le] at *); omega)), rfl⟩)⟩, fun j hj => rfl⟩ | exact ⟨⟨_, rfl, Or.inr (⟨(by first | decide | ((try simp only [lg_cmp_lt, lg_cmp_gt, lg_cmp_ge, lg_cmp_le, lg_cmp_eq] at *); (try simp only [Int32.lt_iff_toInt_lt, Int32.le_iff_toInt_le, Int64.lt_iff_toInt_lt, Int64.le_iff_toInt_le, Int32.toInt_toInt64, lg_cmp_lt, lg_cmp_gt, lg_cmp_ge, lg_cmp_le, i8c, i16c, i32c, i64c, l0c, l1c, z32, i8e, i32e, Decidable.not_not, Int.reduceNeg, Int.reduceLE, Int.reduceLT, and_self, Int32.toInt_zero, Int.not_lt, Int.not_le] at *); omega)), rfl⟩)⟩, fun j hj => by repeat rw [List.getElem?_set_ne (by omega)]⟩ | (exfalso; (try simp only [lg_cmp_lt, lg_cmp_gt, lg_cmp_ge, lg_cmp_le, lg_cmp_eq] at *); (try simp only [Int32.lt_iff_toInt_lt, Int32.le_iff_toInt_le, Int64.lt_iff_toInt_lt, Int64.le_iff_toInt_le, Int32.toInt_toInt64, lg_cmp_lt, lg_cmp_gt, lg_cmp_ge, lg_cmp_le, i8c, i16c, i32c, i64c, l0c, l1c, z32, i8e, i32e, Decidable.not_not, Int.reduceNeg, Int.reduceLE, Int.reduceLT, and_self, Int32.toInt_zero, Int.not_lt, Int.not_le] at *); omega)

