section
def zFTok (own : String) (F : zFT) : Prop :=
  (∀ x ∈ F.1, ∃ r, vwCl[x.2.1]? = some r ∧ x.2.2.1 < r.2.2 ∧ Cond.fieldLink own x.1 (r.2.1 x.2.2.1).1 (r.2.1 x.2.2.1).2.1 (r.2.1 x.2.2.1).2.2.1 ∈ zG ∧ ((x.2.2.2 = 0 ∧ (r.2.1 x.2.2.1).2.2.2 = false) ∨ (x.2.2.2 = 1 ∧ (r.2.1 x.2.2.1).2.2.2 = true ∧ (r.2.1 x.2.2.1).1 = own) ∨ x.2.2.2 = 2)) ∧
  (∀ x ∈ F.2.1, ∃ z, zms[x.2]? = some z ∧ Cond.methodLink own x.1 z.1 ∈ zG) ∧
  (∀ x ∈ F.2.2.1, Cond.constant own x.1 (Int32.ofInt x.2) ∈ zG) ∧
  (∀ x ∈ F.2.2.2.1, Cond.constantLong own x.1 (Int64.ofInt x.2) ∈ zG) ∧
  (∀ x ∈ F.2.2.2.2, Cond.methodLink own x Lib.objectInit ∈ zG)
/-- what a row of a method's table must keep, beside being the decoded instruction -/
def zgd (F : zFT) (nL : Nat) (ini : Bool) (pc : Nat) (ins : Instr) (a b : Nat) (c : Int) : Bool := match ins with
  | .ifCond _ off => decide ((pc : Int) + off = (a : Int))
  | .if_icmp _ off => decide ((pc : Int) + off = (a : Int))
  | .goto off => decide ((pc : Int) + off = (a : Int))
  | .istore i => decide (i < nL)
  | .istore_n i => decide ((i : Nat) < nL)
  | .astore i => decide (i < nL)
  | .astore_n i => decide ((i : Nat) < nL)
  | .lstore i => decide (i + 1 < nL)
  | .lstore_n i => decide ((i : Nat) + 1 < nL)
  | .iinc i _ => decide (i < nL)
  | .ldc i => decide ((i, c) ∈ F.2.2.1)
  | .ldc_w i => decide ((i, c) ∈ F.2.2.1)
  | .ldc2_w i => decide ((i, c) ∈ F.2.2.2.1)
  | .getfield i => decide ((i, a, b, 0) ∈ F.1) || (decide ((i, a, b, 1) ∈ F.1) || decide ((i, a, b, 2) ∈ F.1))
  | .putfield i => decide ((i, a, b, 0) ∈ F.1) || (ini && decide ((i, a, b, 1) ∈ F.1))
  | .invokevirtual i => Nat.ble 9000 a || (decide ((i, a) ∈ F.2.1) && decide ((zms[a]?).map (fun z => z.2.2.2.2.2.2.2) = some (0, b)))
  | .invokestatic i => Nat.ble 9000 a || (decide ((i, a) ∈ F.2.1) && decide ((zms[a]?).map (fun z => z.2.2.2.2.2.2.2) = some (1, b)))
  | .invokespecial i => (Nat.beq a 9999 && decide (i ∈ F.2.2.2.2)) || (Nat.beq a 9998 || (decide ((i, a) ∈ F.2.1) && decide ((zms[a]?).map (fun z => z.2.2.2.2.2.2.2) = some (2, b))))
  | _ => true
def zlenok (ins : Instr) (pc nxt : Nat) : Bool := match ins with
  | .tableswitch _ _ _ _ => true
  | .lookupswitch _ _ => true
  | i => decide (nxt = pc + zlen i)
def zgood (F : zFT) (cc : ByteArray) (nL : Nat) (ini : Bool) (e : zE) : Bool :=
  decide (decode cc e.1 = .ok (e.2.1, e.2.2.1 - e.1)) && zlenok e.2.1 e.1 e.2.2.1 && zgd F nL ini e.1 e.2.1 e.2.2.2.1 e.2.2.2.2.1 e.2.2.2.2.2
end
section
def fRX0 : zFT := ([(9, 0, 0, 1), (15, 0, 1, 0), (21, 0, 2, 1), (24, 0, 3, 0), (27, 0, 4, 0), (30, 0, 5, 0), (92, 1, 0, 2), (101, 1, 1, 2), (104, 1, 2, 2), (107, 1, 6, 2), (110, 1, 3, 2)], [(33, 3), (37, 5), (40, 4), (44, 18), (50, 20), (53, 6), (57, 7), (60, 8), (63, 9), (66, 11), (70, 12), (74, 13), (77, 28), (83, 15), (87, 24), (95, 16), (98, 17)], [], [(90, -1)], [3])
set_option maxRecDepth 100000 in
theorem gRX0 : zFTok RX0 fRX0 := ⟨zcons (⟨_, rfl, by decide, zmQ1 118 rfl rfl, Or.inr (Or.inl ⟨rfl, rfl, rfl⟩)⟩) (zcons (⟨_, rfl, by decide, zmQ1 120 rfl rfl, Or.inl ⟨rfl, rfl⟩⟩) (zcons (⟨_, rfl, by decide, zmQ1 122 rfl rfl, Or.inr (Or.inl ⟨rfl, rfl, rfl⟩)⟩) (zcons (⟨_, rfl, by decide, zmQ1 123 rfl rfl, Or.inl ⟨rfl, rfl⟩⟩) (zcons (⟨_, rfl, by decide, zmQ1 124 rfl rfl, Or.inl ⟨rfl, rfl⟩⟩) (zcons (⟨_, rfl, by decide, zmQ1 125 rfl rfl, Or.inl ⟨rfl, rfl⟩⟩) (zcons (⟨_, rfl, by decide, zmQ1 34 rfl rfl, Or.inr (Or.inr rfl)⟩) (zcons (⟨_, rfl, by decide, zmQ1 38 rfl rfl, Or.inr (Or.inr rfl)⟩) (zcons (⟨_, rfl, by decide, zmQ1 42 rfl rfl, Or.inr (Or.inr rfl)⟩) (zcons (⟨_, rfl, by decide, zmQ1 52 rfl rfl, Or.inr (Or.inr rfl)⟩) (zcons (⟨_, rfl, by decide, zmQ1 46 rfl rfl, Or.inr (Or.inr rfl)⟩) (znil))))))))))), zcons (⟨_, rfl, zmQ2 194 rfl rfl⟩) (zcons (⟨_, rfl, zmQ2 198 rfl rfl⟩) (zcons (⟨_, rfl, zmQ2 218 rfl rfl⟩) (zcons (⟨_, rfl, zmQ2 202 rfl rfl⟩) (zcons (⟨_, rfl, zmQ2 203 rfl rfl⟩) (zcons (⟨_, rfl, zmQ2 204 rfl rfl⟩) (zcons (⟨_, rfl, zmQ2 212 rfl rfl⟩) (zcons (⟨_, rfl, zmQ2 215 rfl rfl⟩) (zcons (⟨_, rfl, zmQ2 208 rfl rfl⟩) (zcons (⟨_, rfl, zmQ2 230 rfl rfl⟩) (zcons (⟨_, rfl, zmQ2 234 rfl rfl⟩) (zcons (⟨_, rfl, zmQ2 238 rfl rfl⟩) (zcons (⟨_, rfl, zmQ3 2 rfl rfl⟩) (zcons (⟨_, rfl, zmQ3 13 rfl rfl⟩) (zcons (⟨_, rfl, zmQ3 17 rfl rfl⟩) (zcons (⟨_, rfl, zmQ3 19 rfl rfl⟩) (zcons (⟨_, rfl, zmQ3 23 rfl rfl⟩) (znil))))))))))))))))), znil, zcons (zmQ3 18 rfl rfl) (znil), zcons (zmQ1 115 rfl rfl) (znil)⟩
def fRX1 : zFT := ([], [(9, 18), (15, 19)], [], [], [])
set_option maxRecDepth 100000 in
theorem gRX1 : zFTok RX1 fRX1 := ⟨znil, zcons (⟨_, rfl, zmQ2 122 rfl rfl⟩) (zcons (⟨_, rfl, zmQ2 123 rfl rfl⟩) (znil)), znil, znil, znil⟩
def fRX2 : zFT := ([(9, 1, 0, 1), (15, 1, 1, 1), (18, 1, 2, 1), (21, 1, 3, 1), (24, 1, 4, 1), (27, 1, 5, 1), (30, 1, 6, 1), (33, 1, 7, 1), (36, 1, 8, 1), (39, 1, 9, 1), (42, 1, 10, 1), (45, 1, 11, 1), (48, 1, 12, 0)], [(52, 24), (56, 25), (60, 30), (64, 20), (70, 29), (74, 31), (78, 203), (83, 33), (86, 32), (89, 34), (92, 37), (95, 27), (98, 42), (102, 43), (105, 44)], [], [], [3])
set_option maxRecDepth 100000 in
theorem gRX2 : zFTok RX2 fRX2 := ⟨zcons (⟨_, rfl, by decide, zmQ1 31 rfl rfl, Or.inr (Or.inl ⟨rfl, rfl, rfl⟩)⟩) (zcons (⟨_, rfl, by decide, zmQ1 35 rfl rfl, Or.inr (Or.inl ⟨rfl, rfl, rfl⟩)⟩) (zcons (⟨_, rfl, by decide, zmQ1 39 rfl rfl, Or.inr (Or.inl ⟨rfl, rfl, rfl⟩)⟩) (zcons (⟨_, rfl, by decide, zmQ1 43 rfl rfl, Or.inr (Or.inl ⟨rfl, rfl, rfl⟩)⟩) (zcons (⟨_, rfl, by decide, zmQ1 47 rfl rfl, Or.inr (Or.inl ⟨rfl, rfl, rfl⟩)⟩) (zcons (⟨_, rfl, by decide, zmQ1 49 rfl rfl, Or.inr (Or.inl ⟨rfl, rfl, rfl⟩)⟩) (zcons (⟨_, rfl, by decide, zmQ1 51 rfl rfl, Or.inr (Or.inl ⟨rfl, rfl, rfl⟩)⟩) (zcons (⟨_, rfl, by decide, zmQ1 53 rfl rfl, Or.inr (Or.inl ⟨rfl, rfl, rfl⟩)⟩) (zcons (⟨_, rfl, by decide, zmQ1 55 rfl rfl, Or.inr (Or.inl ⟨rfl, rfl, rfl⟩)⟩) (zcons (⟨_, rfl, by decide, zmQ1 56 rfl rfl, Or.inr (Or.inl ⟨rfl, rfl, rfl⟩)⟩) (zcons (⟨_, rfl, by decide, zmQ1 57 rfl rfl, Or.inr (Or.inl ⟨rfl, rfl, rfl⟩)⟩) (zcons (⟨_, rfl, by decide, zmQ1 58 rfl rfl, Or.inr (Or.inl ⟨rfl, rfl, rfl⟩)⟩) (zcons (⟨_, rfl, by decide, zmQ1 59 rfl rfl, Or.inl ⟨rfl, rfl⟩⟩) (znil))))))))))))), zcons (⟨_, rfl, zmQ2 0 rfl rfl⟩) (zcons (⟨_, rfl, zmQ1 229 rfl rfl⟩) (zcons (⟨_, rfl, zmQ1 230 rfl rfl⟩) (zcons (⟨_, rfl, zmQ1 233 rfl rfl⟩) (zcons (⟨_, rfl, zmQ1 236 rfl rfl⟩) (zcons (⟨_, rfl, zmQ2 7 rfl rfl⟩) (zcons (⟨_, rfl, zmQ2 4 rfl rfl⟩) (zcons (⟨_, rfl, zmQ2 11 rfl rfl⟩) (zcons (⟨_, rfl, zmQ2 15 rfl rfl⟩) (zcons (⟨_, rfl, zmQ2 80 rfl rfl⟩) (zcons (⟨_, rfl, zmQ2 81 rfl rfl⟩) (zcons (⟨_, rfl, zmQ3 35 rfl rfl⟩) (zcons (⟨_, rfl, zmQ3 102 rfl rfl⟩) (zcons (⟨_, rfl, zmQ3 114 rfl rfl⟩) (zcons (⟨_, rfl, zmQ3 159 rfl rfl⟩) (znil))))))))))))))), znil, znil, zcons (zmQ1 30 rfl rfl) (znil)⟩
def fRX3 : zFT := ([(9, 2, 0, 0), (15, 2, 1, 0), (18, 2, 2, 0), (21, 2, 3, 0), (24, 2, 4, 1), (28, 2, 5, 0)], [], [], [], [3])
set_option maxRecDepth 100000 in
theorem gRX3 : zFTok RX3 fRX3 := ⟨zcons (⟨_, rfl, by decide, zmQ1 167 rfl rfl, Or.inl ⟨rfl, rfl⟩⟩) (zcons (⟨_, rfl, by decide, zmQ1 169 rfl rfl, Or.inl ⟨rfl, rfl⟩⟩) (zcons (⟨_, rfl, by decide, zmQ1 171 rfl rfl, Or.inl ⟨rfl, rfl⟩⟩) (zcons (⟨_, rfl, by decide, zmQ1 172 rfl rfl, Or.inl ⟨rfl, rfl⟩⟩) (zcons (⟨_, rfl, by decide, zmQ1 173 rfl rfl, Or.inr (Or.inl ⟨rfl, rfl, rfl⟩)⟩) (zcons (⟨_, rfl, by decide, zmQ1 175 rfl rfl, Or.inl ⟨rfl, rfl⟩⟩) (znil)))))), znil, znil, znil, zcons (zmQ1 166 rfl rfl) (znil)⟩
def fRX4 : zFT := ([(9, 3, 0, 1), (15, 3, 1, 0), (19, 3, 2, 0), (22, 3, 3, 0), (26, 1, 0, 2), (57, 1, 2, 2), (60, 1, 3, 2), (67, 1, 1, 2)], [(31, 20), (37, 58), (41, 54), (45, 24), (49, 62), (53, 59), (63, 60), (70, 61), (73, 22)], [], [], [3])
set_option maxRecDepth 100000 in
theorem gRX4 : zFTok RX4 fRX4 := ⟨zcons (⟨_, rfl, by decide, zmQ1 95 rfl rfl, Or.inr (Or.inl ⟨rfl, rfl, rfl⟩)⟩) (zcons (⟨_, rfl, by decide, zmQ1 97 rfl rfl, Or.inl ⟨rfl, rfl⟩⟩) (zcons (⟨_, rfl, by decide, zmQ1 99 rfl rfl, Or.inl ⟨rfl, rfl⟩⟩) (zcons (⟨_, rfl, by decide, zmQ1 100 rfl rfl, Or.inl ⟨rfl, rfl⟩⟩) (zcons (⟨_, rfl, by decide, zmQ1 32 rfl rfl, Or.inr (Or.inr rfl)⟩) (zcons (⟨_, rfl, by decide, zmQ1 41 rfl rfl, Or.inr (Or.inr rfl)⟩) (zcons (⟨_, rfl, by decide, zmQ1 45 rfl rfl, Or.inr (Or.inr rfl)⟩) (zcons (⟨_, rfl, by decide, zmQ1 37 rfl rfl, Or.inr (Or.inr rfl)⟩) (znil)))))))), zcons (⟨_, rfl, zmQ2 101 rfl rfl⟩) (zcons (⟨_, rfl, zmQ2 102 rfl rfl⟩) (zcons (⟨_, rfl, zmQ2 146 rfl rfl⟩) (zcons (⟨_, rfl, zmQ2 106 rfl rfl⟩) (zcons (⟨_, rfl, zmQ2 107 rfl rfl⟩) (zcons (⟨_, rfl, zmQ2 111 rfl rfl⟩) (zcons (⟨_, rfl, zmQ2 115 rfl rfl⟩) (zcons (⟨_, rfl, zmQ2 126 rfl rfl⟩) (zcons (⟨_, rfl, zmQ2 119 rfl rfl⟩) (znil))))))))), znil, znil, zcons (zmQ1 94 rfl rfl) (znil)⟩
def fRX5 : zFT := ([(9, 4, 0, 1), (15, 4, 1, 1), (18, 4, 2, 0), (22, 4, 3, 0)], [(26, 66), (30, 27), (36, 204), (41, 73), (45, 68)], [], [], [3])
set_option maxRecDepth 100000 in
theorem gRX5 : zFTok RX5 fRX5 := ⟨zcons (⟨_, rfl, by decide, zmQ1 146 rfl rfl, Or.inr (Or.inl ⟨rfl, rfl, rfl⟩)⟩) (zcons (⟨_, rfl, by decide, zmQ1 147 rfl rfl, Or.inr (Or.inl ⟨rfl, rfl, rfl⟩)⟩) (zcons (⟨_, rfl, by decide, zmQ1 148 rfl rfl, Or.inl ⟨rfl, rfl⟩⟩) (zcons (⟨_, rfl, by decide, zmQ1 149 rfl rfl, Or.inl ⟨rfl, rfl⟩⟩) (znil)))), zcons (⟨_, rfl, zmQ3 72 rfl rfl⟩) (zcons (⟨_, rfl, zmQ3 67 rfl rfl⟩) (zcons (⟨_, rfl, zmQ4 61 rfl rfl⟩) (zcons (⟨_, rfl, zmQ3 85 rfl rfl⟩) (zcons (⟨_, rfl, zmQ3 89 rfl rfl⟩) (znil))))), znil, znil, zcons (zmQ1 145 rfl rfl) (znil)⟩
def fRX6 : zFT := ([(10, 5, 0, 1), (16, 5, 1, 1), (22, 5, 2, 1), (26, 5, 3, 1), (32, 5, 4, 1), (39, 5, 5, 1), (45, 5, 6, 1), (50, 5, 7, 1), (54, 5, 8, 0), (82, 1, 12, 0), (96, 1, 0, 2), (99, 1, 1, 2), (105, 1, 2, 2), (108, 1, 3, 2), (111, 1, 4, 2), (114, 1, 5, 2), (141, 3, 1, 0), (144, 3, 0, 2), (157, 0, 1, 0), (165, 0, 0, 2), (195, 1, 7, 2), (219, 4, 3, 0), (274, 2, 4, 2), (275, 2, 0, 0), (290, 2, 1, 0)], [(9, 23), (21, 53), (31, 0), (38, 63), (49, 45), (58, 25), (62, 28), (66, 24), (70, 18), (75, 110), (78, 26), (85, 64), (88, 65), (92, 21), (102, 114), (117, 35), (121, 34), (124, 36), (128, 111), (131, 20), (134, 55), (138, 54), (147, 57), (151, 19), (154, 115), (158, 1), (162, 116), (166, 112), (176, 117), (180, 10), (188, 14), (192, 38), (198, 56), (202, 67), (205, 69), (208, 70), (212, 68), (216, 66), (227, 71), (230, 72), (233, 39), (236, 40), (239, 202), (244, 113), (247, 46), (250, 49), (254, 118), (258, 48), (264, 50), (269, 51), (284, 119), (287, 52), (293, 2), (299, 205), (305, 47), (309, 41)], [], [(184, -1), (186, -2), (297, 1000000000000000)], [1])
set_option maxRecDepth 100000 in
theorem gRX6 : zFTok RX6 fRX6 := ⟨zcons (⟨_, rfl, by decide, zmQ1 189 rfl rfl, Or.inr (Or.inl ⟨rfl, rfl, rfl⟩)⟩) (zcons (⟨_, rfl, by decide, zmQ1 190 rfl rfl, Or.inr (Or.inl ⟨rfl, rfl, rfl⟩)⟩) (zcons (⟨_, rfl, by decide, zmQ1 191 rfl rfl, Or.inr (Or.inl ⟨rfl, rfl, rfl⟩)⟩) (zcons (⟨_, rfl, by decide, zmQ1 192 rfl rfl, Or.inr (Or.inl ⟨rfl, rfl, rfl⟩)⟩) (zcons (⟨_, rfl, by decide, zmQ1 193 rfl rfl, Or.inr (Or.inl ⟨rfl, rfl, rfl⟩)⟩) (zcons (⟨_, rfl, by decide, zmQ1 194 rfl rfl, Or.inr (Or.inl ⟨rfl, rfl, rfl⟩)⟩) (zcons (⟨_, rfl, by decide, zmQ1 195 rfl rfl, Or.inr (Or.inl ⟨rfl, rfl, rfl⟩)⟩) (zcons (⟨_, rfl, by decide, zmQ1 196 rfl rfl, Or.inr (Or.inl ⟨rfl, rfl, rfl⟩)⟩) (zcons (⟨_, rfl, by decide, zmQ1 197 rfl rfl, Or.inl ⟨rfl, rfl⟩⟩) (zcons (⟨_, rfl, by decide, zmQ1 60 rfl rfl, Or.inl ⟨rfl, rfl⟩⟩) (zcons (⟨_, rfl, by decide, zmQ1 33 rfl rfl, Or.inr (Or.inr rfl)⟩) (zcons (⟨_, rfl, by decide, zmQ1 36 rfl rfl, Or.inr (Or.inr rfl)⟩) (zcons (⟨_, rfl, by decide, zmQ1 40 rfl rfl, Or.inr (Or.inr rfl)⟩) (zcons (⟨_, rfl, by decide, zmQ1 44 rfl rfl, Or.inr (Or.inr rfl)⟩) (zcons (⟨_, rfl, by decide, zmQ1 48 rfl rfl, Or.inr (Or.inr rfl)⟩) (zcons (⟨_, rfl, by decide, zmQ1 50 rfl rfl, Or.inr (Or.inr rfl)⟩) (zcons (⟨_, rfl, by decide, zmQ1 98 rfl rfl, Or.inl ⟨rfl, rfl⟩⟩) (zcons (⟨_, rfl, by decide, zmQ1 96 rfl rfl, Or.inr (Or.inr rfl)⟩) (zcons (⟨_, rfl, by decide, zmQ1 121 rfl rfl, Or.inl ⟨rfl, rfl⟩⟩) (zcons (⟨_, rfl, by decide, zmQ1 119 rfl rfl, Or.inr (Or.inr rfl)⟩) (zcons (⟨_, rfl, by decide, zmQ1 54 rfl rfl, Or.inr (Or.inr rfl)⟩) (zcons (⟨_, rfl, by decide, zmQ1 150 rfl rfl, Or.inl ⟨rfl, rfl⟩⟩) (zcons (⟨_, rfl, by decide, zmQ1 174 rfl rfl, Or.inr (Or.inr rfl)⟩) (zcons (⟨_, rfl, by decide, zmQ1 168 rfl rfl, Or.inl ⟨rfl, rfl⟩⟩) (zcons (⟨_, rfl, by decide, zmQ1 170 rfl rfl, Or.inl ⟨rfl, rfl⟩⟩) (znil))))))))))))))))))))))))), zcons (⟨_, rfl, zmQ1 27 rfl rfl⟩) (zcons (⟨_, rfl, zmQ1 91 rfl rfl⟩) (zcons (⟨_, rfl, zmQ1 112 rfl rfl⟩) (zcons (⟨_, rfl, zmQ1 142 rfl rfl⟩) (zcons (⟨_, rfl, zmQ1 163 rfl rfl⟩) (zcons (⟨_, rfl, zmQ1 221 rfl rfl⟩) (zcons (⟨_, rfl, zmQ1 225 rfl rfl⟩) (zcons (⟨_, rfl, zmQ2 23 rfl rfl⟩) (zcons (⟨_, rfl, zmQ2 24 rfl rfl⟩) (zcons (⟨_, rfl, zmQ2 27 rfl rfl⟩) (zcons (⟨_, rfl, zmQ2 30 rfl rfl⟩) (zcons (⟨_, rfl, zmQ2 38 rfl rfl⟩) (zcons (⟨_, rfl, zmQ2 42 rfl rfl⟩) (zcons (⟨_, rfl, zmQ2 50 rfl rfl⟩) (zcons (⟨_, rfl, zmQ2 57 rfl rfl⟩) (zcons (⟨_, rfl, zmQ2 60 rfl rfl⟩) (zcons (⟨_, rfl, zmQ2 68 rfl rfl⟩) (zcons (⟨_, rfl, zmQ2 76 rfl rfl⟩) (zcons (⟨_, rfl, zmQ2 89 rfl rfl⟩) (zcons (⟨_, rfl, zmQ2 92 rfl rfl⟩) (zcons (⟨_, rfl, zmQ2 97 rfl rfl⟩) (zcons (⟨_, rfl, zmQ2 130 rfl rfl⟩) (zcons (⟨_, rfl, zmQ2 142 rfl rfl⟩) (zcons (⟨_, rfl, zmQ2 151 rfl rfl⟩) (zcons (⟨_, rfl, zmQ2 156 rfl rfl⟩) (zcons (⟨_, rfl, zmQ2 159 rfl rfl⟩) (zcons (⟨_, rfl, zmQ2 167 rfl rfl⟩) (zcons (⟨_, rfl, zmQ2 183 rfl rfl⟩) (zcons (⟨_, rfl, zmQ2 186 rfl rfl⟩) (zcons (⟨_, rfl, zmQ2 226 rfl rfl⟩) (zcons (⟨_, rfl, zmQ3 9 rfl rfl⟩) (zcons (⟨_, rfl, zmQ3 31 rfl rfl⟩) (zcons (⟨_, rfl, zmQ3 43 rfl rfl⟩) (zcons (⟨_, rfl, zmQ3 51 rfl rfl⟩) (zcons (⟨_, rfl, zmQ3 59 rfl rfl⟩) (zcons (⟨_, rfl, zmQ3 63 rfl rfl⟩) (zcons (⟨_, rfl, zmQ3 68 rfl rfl⟩) (zcons (⟨_, rfl, zmQ3 76 rfl rfl⟩) (zcons (⟨_, rfl, zmQ4 57 rfl rfl⟩) (zcons (⟨_, rfl, zmQ3 81 rfl rfl⟩) (zcons (⟨_, rfl, zmQ3 98 rfl rfl⟩) (zcons (⟨_, rfl, zmQ3 110 rfl rfl⟩) (zcons (⟨_, rfl, zmQ3 122 rfl rfl⟩) (zcons (⟨_, rfl, zmQ3 132 rfl rfl⟩) (zcons (⟨_, rfl, zmQ3 135 rfl rfl⟩) (zcons (⟨_, rfl, zmQ3 139 rfl rfl⟩) (zcons (⟨_, rfl, zmQ3 143 rfl rfl⟩) (zcons (⟨_, rfl, zmQ3 151 rfl rfl⟩) (zcons (⟨_, rfl, zmQ3 171 rfl rfl⟩) (zcons (⟨_, rfl, zmQ3 175 rfl rfl⟩) (zcons (⟨_, rfl, zmQ3 186 rfl rfl⟩) (zcons (⟨_, rfl, zmQ3 190 rfl rfl⟩) (zcons (⟨_, rfl, zmQ2 190 rfl rfl⟩) (zcons (⟨_, rfl, zmQ2 223 rfl rfl⟩) (zcons (⟨_, rfl, zmQ3 147 rfl rfl⟩) (zcons (⟨_, rfl, zmQ3 155 rfl rfl⟩) (znil)))))))))))))))))))))))))))))))))))))))))))))))))))))))), znil, zcons (zmQ3 7 rfl rfl) (zcons (zmQ3 8 rfl rfl) (zcons (zmQ2 222 rfl rfl) (znil))), zcons (zmQ1 22 rfl rfl) (znil)⟩
def fRX7 : zFT := ([(7, 6, 1, 1), (13, 6, 2, 1), (16, 6, 3, 1), (19, 6, 4, 1), (22, 6, 5, 1), (25, 6, 6, 1), (28, 6, 7, 1), (32, 6, 8, 1), (35, 6, 9, 1), (38, 6, 11, 1), (41, 6, 12, 1), (44, 6, 13, 1), (47, 6, 14, 1), (50, 6, 15, 1), (53, 6, 17, 1), (56, 6, 19, 0), (60, 6, 22, 1), (63, 6, 24, 1), (66, 6, 25, 1), (69, 6, 26, 1), (73, 6, 27, 1), (76, 6, 31, 1), (79, 6, 32, 1), (82, 6, 16, 0), (85, 6, 0, 0), (111, 6, 30, 0), (144, 6, 18, 0), (147, 6, 20, 0), (150, 6, 21, 0), (167, 6, 23, 0), (184, 6, 10, 0), (192, 6, 28, 0), (226, 6, 29, 0), (267, 6, 33, 0), (292, 6, 34, 0)], [(88, 121), (98, 126), (104, 122), (108, 123), (115, 131), (120, 133), (124, 135), (128, 125), (131, 124), (134, 138), (138, 139), (141, 140), (153, 142), (156, 141), (160, 143), (164, 144), (170, 148), (176, 149), (179, 150), (187, 154), (199, 160), (202, 157), (206, 158), (209, 159), (213, 161), (217, 162), (222, 163), (229, 165), (233, 166), (237, 167), (241, 169), (246, 171), (249, 172), (252, 170), (257, 175), (260, 176), (263, 178), (272, 180), (275, 184), (279, 187), (282, 186), (285, 188), (288, 191), (295, 194), (298, 193), (301, 199)], [], [(92, 7), (94, 9), (96, 9999), (102, 2), (118, 6), (174, 4), (182, 5), (190, 1000000000000000), (195, 10), (197, 19), (220, 8), (244, -1), (255, -2), (270, 3)], [1])
set_option maxRecDepth 100000 in
theorem gRX7 : zFTok RX7 fRX7 := ⟨zcons (⟨_, rfl, by decide, zmQ4 81 rfl rfl, Or.inr (Or.inl ⟨rfl, rfl, rfl⟩)⟩) (zcons (⟨_, rfl, by decide, zmQ4 82 rfl rfl, Or.inr (Or.inl ⟨rfl, rfl, rfl⟩)⟩) (zcons (⟨_, rfl, by decide, zmQ4 83 rfl rfl, Or.inr (Or.inl ⟨rfl, rfl, rfl⟩)⟩) (zcons (⟨_, rfl, by decide, zmQ4 84 rfl rfl, Or.inr (Or.inl ⟨rfl, rfl, rfl⟩)⟩) (zcons (⟨_, rfl, by decide, zmQ4 85 rfl rfl, Or.inr (Or.inl ⟨rfl, rfl, rfl⟩)⟩) (zcons (⟨_, rfl, by decide, zmQ4 86 rfl rfl, Or.inr (Or.inl ⟨rfl, rfl, rfl⟩)⟩) (zcons (⟨_, rfl, by decide, zmQ4 87 rfl rfl, Or.inr (Or.inl ⟨rfl, rfl, rfl⟩)⟩) (zcons (⟨_, rfl, by decide, zmQ4 88 rfl rfl, Or.inr (Or.inl ⟨rfl, rfl, rfl⟩)⟩) (zcons (⟨_, rfl, by decide, zmQ4 89 rfl rfl, Or.inr (Or.inl ⟨rfl, rfl, rfl⟩)⟩) (zcons (⟨_, rfl, by decide, zmQ4 91 rfl rfl, Or.inr (Or.inl ⟨rfl, rfl, rfl⟩)⟩) (zcons (⟨_, rfl, by decide, zmQ4 92 rfl rfl, Or.inr (Or.inl ⟨rfl, rfl, rfl⟩)⟩) (zcons (⟨_, rfl, by decide, zmQ4 93 rfl rfl, Or.inr (Or.inl ⟨rfl, rfl, rfl⟩)⟩) (zcons (⟨_, rfl, by decide, zmQ4 94 rfl rfl, Or.inr (Or.inl ⟨rfl, rfl, rfl⟩)⟩) (zcons (⟨_, rfl, by decide, zmQ4 95 rfl rfl, Or.inr (Or.inl ⟨rfl, rfl, rfl⟩)⟩) (zcons (⟨_, rfl, by decide, zmQ4 97 rfl rfl, Or.inr (Or.inl ⟨rfl, rfl, rfl⟩)⟩) (zcons (⟨_, rfl, by decide, zmQ4 99 rfl rfl, Or.inl ⟨rfl, rfl⟩⟩) (zcons (⟨_, rfl, by decide, zmQ4 102 rfl rfl, Or.inr (Or.inl ⟨rfl, rfl, rfl⟩)⟩) (zcons (⟨_, rfl, by decide, zmQ4 104 rfl rfl, Or.inr (Or.inl ⟨rfl, rfl, rfl⟩)⟩) (zcons (⟨_, rfl, by decide, zmQ4 105 rfl rfl, Or.inr (Or.inl ⟨rfl, rfl, rfl⟩)⟩) (zcons (⟨_, rfl, by decide, zmQ4 106 rfl rfl, Or.inr (Or.inl ⟨rfl, rfl, rfl⟩)⟩) (zcons (⟨_, rfl, by decide, zmQ4 107 rfl rfl, Or.inr (Or.inl ⟨rfl, rfl, rfl⟩)⟩) (zcons (⟨_, rfl, by decide, zmQ4 111 rfl rfl, Or.inr (Or.inl ⟨rfl, rfl, rfl⟩)⟩) (zcons (⟨_, rfl, by decide, zmQ4 112 rfl rfl, Or.inr (Or.inl ⟨rfl, rfl, rfl⟩)⟩) (zcons (⟨_, rfl, by decide, zmQ4 96 rfl rfl, Or.inl ⟨rfl, rfl⟩⟩) (zcons (⟨_, rfl, by decide, zmQ4 80 rfl rfl, Or.inl ⟨rfl, rfl⟩⟩) (zcons (⟨_, rfl, by decide, zmQ4 110 rfl rfl, Or.inl ⟨rfl, rfl⟩⟩) (zcons (⟨_, rfl, by decide, zmQ4 98 rfl rfl, Or.inl ⟨rfl, rfl⟩⟩) (zcons (⟨_, rfl, by decide, zmQ4 100 rfl rfl, Or.inl ⟨rfl, rfl⟩⟩) (zcons (⟨_, rfl, by decide, zmQ4 101 rfl rfl, Or.inl ⟨rfl, rfl⟩⟩) (zcons (⟨_, rfl, by decide, zmQ4 103 rfl rfl, Or.inl ⟨rfl, rfl⟩⟩) (zcons (⟨_, rfl, by decide, zmQ4 90 rfl rfl, Or.inl ⟨rfl, rfl⟩⟩) (zcons (⟨_, rfl, by decide, zmQ4 108 rfl rfl, Or.inl ⟨rfl, rfl⟩⟩) (zcons (⟨_, rfl, by decide, zmQ4 109 rfl rfl, Or.inl ⟨rfl, rfl⟩⟩) (zcons (⟨_, rfl, by decide, zmQ4 113 rfl rfl, Or.inl ⟨rfl, rfl⟩⟩) (zcons (⟨_, rfl, by decide, zmQ4 114 rfl rfl, Or.inl ⟨rfl, rfl⟩⟩) (znil))))))))))))))))))))))))))))))))))), zcons (⟨_, rfl, zmQ4 191 rfl rfl⟩) (zcons (⟨_, rfl, zmQ4 196 rfl rfl⟩) (zcons (⟨_, rfl, zmQ4 205 rfl rfl⟩) (zcons (⟨_, rfl, zmQ4 209 rfl rfl⟩) (zcons (⟨_, rfl, zmQ4 225 rfl rfl⟩) (zcons (⟨_, rfl, zmQ4 233 rfl rfl⟩) (zcons (⟨_, rfl, zmQ5 1 rfl rfl⟩) (zcons (⟨_, rfl, zmQ5 9 rfl rfl⟩) (zcons (⟨_, rfl, zmQ5 13 rfl rfl⟩) (zcons (⟨_, rfl, zmQ5 28 rfl rfl⟩) (zcons (⟨_, rfl, zmQ5 24 rfl rfl⟩) (zcons (⟨_, rfl, zmQ5 20 rfl rfl⟩) (zcons (⟨_, rfl, zmQ5 43 rfl rfl⟩) (zcons (⟨_, rfl, zmQ5 47 rfl rfl⟩) (zcons (⟨_, rfl, zmQ5 39 rfl rfl⟩) (zcons (⟨_, rfl, zmQ5 35 rfl rfl⟩) (zcons (⟨_, rfl, zmQ5 60 rfl rfl⟩) (zcons (⟨_, rfl, zmQ5 64 rfl rfl⟩) (zcons (⟨_, rfl, zmQ5 68 rfl rfl⟩) (zcons (⟨_, rfl, zmQ5 81 rfl rfl⟩) (zcons (⟨_, rfl, zmQ5 114 rfl rfl⟩) (zcons (⟨_, rfl, zmQ5 120 rfl rfl⟩) (zcons (⟨_, rfl, zmQ5 124 rfl rfl⟩) (zcons (⟨_, rfl, zmQ5 106 rfl rfl⟩) (zcons (⟨_, rfl, zmQ5 110 rfl rfl⟩) (zcons (⟨_, rfl, zmQ5 102 rfl rfl⟩) (zcons (⟨_, rfl, zmQ5 98 rfl rfl⟩) (zcons (⟨_, rfl, zmQ5 135 rfl rfl⟩) (zcons (⟨_, rfl, zmQ5 131 rfl rfl⟩) (zcons (⟨_, rfl, zmQ5 139 rfl rfl⟩) (zcons (⟨_, rfl, zmQ5 143 rfl rfl⟩) (zcons (⟨_, rfl, zmQ5 157 rfl rfl⟩) (zcons (⟨_, rfl, zmQ5 161 rfl rfl⟩) (zcons (⟨_, rfl, zmQ5 153 rfl rfl⟩) (zcons (⟨_, rfl, zmQ5 173 rfl rfl⟩) (zcons (⟨_, rfl, zmQ5 177 rfl rfl⟩) (zcons (⟨_, rfl, zmQ5 180 rfl rfl⟩) (zcons (⟨_, rfl, zmQ5 193 rfl rfl⟩) (zcons (⟨_, rfl, zmQ5 209 rfl rfl⟩) (zcons (⟨_, rfl, zmQ5 217 rfl rfl⟩) (zcons (⟨_, rfl, zmQ5 221 rfl rfl⟩) (zcons (⟨_, rfl, zmQ5 229 rfl rfl⟩) (zcons (⟨_, rfl, zmQ5 237 rfl rfl⟩) (zcons (⟨_, rfl, zmQ6 8 rfl rfl⟩) (zcons (⟨_, rfl, zmQ6 5 rfl rfl⟩) (zcons (⟨_, rfl, zmQ6 28 rfl rfl⟩) (znil)))))))))))))))))))))))))))))))))))))))))))))), znil, zcons (zmQ5 12 rfl rfl) (zcons (zmQ4 194 rfl rfl) (zcons (zmQ4 195 rfl rfl) (zcons (zmQ4 204 rfl rfl) (zcons (zmQ4 224 rfl rfl) (zcons (zmQ5 59 rfl rfl) (zcons (zmQ5 76 rfl rfl) (zcons (zmQ5 123 rfl rfl) (zcons (zmQ5 118 rfl rfl) (zcons (zmQ5 119 rfl rfl) (zcons (zmQ5 97 rfl rfl) (zcons (zmQ5 151 rfl rfl) (zcons (zmQ5 152 rfl rfl) (zcons (zmQ5 192 rfl rfl) (znil)))))))))))))), zcons (zmQ4 79 rfl rfl) (znil)⟩
def fRJ6 : zFT := ([], [], [(265, 1431655765), (266, 858993459), (267, 252645135)], [], [])
set_option maxRecDepth 100000 in
theorem gRJ6 : zFTok RJ6 fRJ6 := ⟨znil, znil, zcons (zmQ3 125 rfl rfl) (zcons (zmQ3 126 rfl rfl) (zcons (zmQ3 127 rfl rfl) (znil))), znil, znil⟩
def fRL : zFT := ([], [(25, 74), (28, 120), (29, 75), (33, 127), (34, 76), (38, 128), (39, 77), (43, 129), (44, 78), (48, 130), (49, 79), (52, 132), (53, 80), (56, 134), (57, 81), (60, 136), (61, 82), (65, 137), (66, 83), (69, 145), (70, 84), (73, 146), (74, 85), (77, 147), (78, 86), (81, 151), (82, 87), (85, 152), (86, 88), (89, 153), (90, 89), (93, 155), (94, 90), (97, 156), (103, 164), (106, 92), (110, 168), (111, 93), (114, 173), (115, 94), (119, 174), (120, 95), (123, 177), (124, 96), (127, 179), (128, 97), (131, 181), (134, 182), (135, 99), (138, 183), (139, 100), (142, 185), (143, 101), (146, 189), (147, 102), (150, 190), (151, 103), (154, 192), (155, 104), (158, 195), (159, 105), (162, 196), (166, 197), (167, 107), (171, 198), (172, 108), (175, 200), (176, 109), (179, 201)], [], [(104, 4294967295)], [])
set_option maxRecDepth 100000 in
theorem gRL : zFTok RL fRL := ⟨znil, zcons (⟨_, rfl, zmQ1 19 rfl rfl⟩) (zcons (⟨_, rfl, zmQ4 76 rfl rfl⟩) (zcons (⟨_, rfl, zmQ1 217 rfl rfl⟩) (zcons (⟨_, rfl, zmQ4 187 rfl rfl⟩) (zcons (⟨_, rfl, zmQ2 19 rfl rfl⟩) (zcons (⟨_, rfl, zmQ4 200 rfl rfl⟩) (zcons (⟨_, rfl, zmQ2 34 rfl rfl⟩) (zcons (⟨_, rfl, zmQ4 212 rfl rfl⟩) (zcons (⟨_, rfl, zmQ2 46 rfl rfl⟩) (zcons (⟨_, rfl, zmQ4 216 rfl rfl⟩) (zcons (⟨_, rfl, zmQ2 53 rfl rfl⟩) (zcons (⟨_, rfl, zmQ4 220 rfl rfl⟩) (zcons (⟨_, rfl, zmQ2 64 rfl rfl⟩) (zcons (⟨_, rfl, zmQ4 229 rfl rfl⟩) (zcons (⟨_, rfl, zmQ2 72 rfl rfl⟩) (zcons (⟨_, rfl, zmQ4 237 rfl rfl⟩) (zcons (⟨_, rfl, zmQ2 85 rfl rfl⟩) (zcons (⟨_, rfl, zmQ5 5 rfl rfl⟩) (zcons (⟨_, rfl, zmQ2 93 rfl rfl⟩) (zcons (⟨_, rfl, zmQ5 16 rfl rfl⟩) (zcons (⟨_, rfl, zmQ2 134 rfl rfl⟩) (zcons (⟨_, rfl, zmQ5 31 rfl rfl⟩) (zcons (⟨_, rfl, zmQ2 138 rfl rfl⟩) (zcons (⟨_, rfl, zmQ5 51 rfl rfl⟩) (zcons (⟨_, rfl, zmQ2 147 rfl rfl⟩) (zcons (⟨_, rfl, zmQ5 55 rfl rfl⟩) (zcons (⟨_, rfl, zmQ2 152 rfl rfl⟩) (zcons (⟨_, rfl, zmQ5 72 rfl rfl⟩) (zcons (⟨_, rfl, zmQ2 163 rfl rfl⟩) (zcons (⟨_, rfl, zmQ5 77 rfl rfl⟩) (zcons (⟨_, rfl, zmQ2 171 rfl rfl⟩) (zcons (⟨_, rfl, zmQ5 85 rfl rfl⟩) (zcons (⟨_, rfl, zmQ2 175 rfl rfl⟩) (zcons (⟨_, rfl, zmQ5 89 rfl rfl⟩) (zcons (⟨_, rfl, zmQ5 93 rfl rfl⟩) (zcons (⟨_, rfl, zmQ2 179 rfl rfl⟩) (zcons (⟨_, rfl, zmQ5 127 rfl rfl⟩) (zcons (⟨_, rfl, zmQ3 3 rfl rfl⟩) (zcons (⟨_, rfl, zmQ5 147 rfl rfl⟩) (zcons (⟨_, rfl, zmQ3 27 rfl rfl⟩) (zcons (⟨_, rfl, zmQ5 165 rfl rfl⟩) (zcons (⟨_, rfl, zmQ3 39 rfl rfl⟩) (zcons (⟨_, rfl, zmQ5 169 rfl rfl⟩) (zcons (⟨_, rfl, zmQ3 47 rfl rfl⟩) (zcons (⟨_, rfl, zmQ5 184 rfl rfl⟩) (zcons (⟨_, rfl, zmQ3 55 rfl rfl⟩) (zcons (⟨_, rfl, zmQ5 188 rfl rfl⟩) (zcons (⟨_, rfl, zmQ5 197 rfl rfl⟩) (zcons (⟨_, rfl, zmQ3 77 rfl rfl⟩) (zcons (⟨_, rfl, zmQ5 201 rfl rfl⟩) (zcons (⟨_, rfl, zmQ3 90 rfl rfl⟩) (zcons (⟨_, rfl, zmQ5 205 rfl rfl⟩) (zcons (⟨_, rfl, zmQ3 94 rfl rfl⟩) (zcons (⟨_, rfl, zmQ5 213 rfl rfl⟩) (zcons (⟨_, rfl, zmQ3 106 rfl rfl⟩) (zcons (⟨_, rfl, zmQ5 225 rfl rfl⟩) (zcons (⟨_, rfl, zmQ3 118 rfl rfl⟩) (zcons (⟨_, rfl, zmQ5 233 rfl rfl⟩) (zcons (⟨_, rfl, zmQ3 128 rfl rfl⟩) (zcons (⟨_, rfl, zmQ6 1 rfl rfl⟩) (zcons (⟨_, rfl, zmQ3 163 rfl rfl⟩) (zcons (⟨_, rfl, zmQ6 12 rfl rfl⟩) (zcons (⟨_, rfl, zmQ6 16 rfl rfl⟩) (zcons (⟨_, rfl, zmQ3 167 rfl rfl⟩) (zcons (⟨_, rfl, zmQ6 20 rfl rfl⟩) (zcons (⟨_, rfl, zmQ3 182 rfl rfl⟩) (zcons (⟨_, rfl, zmQ6 24 rfl rfl⟩) (zcons (⟨_, rfl, zmQ3 194 rfl rfl⟩) (zcons (⟨_, rfl, zmQ6 32 rfl rfl⟩) (znil))))))))))))))))))))))))))))))))))))))))))))))))))))))))))))))))))))), znil, zcons (zmQ6 36 rfl rfl) (znil), znil⟩
end
section
/-! the bytes of a method read once, from its first to its last: what decode says of each instruction -/
def zlk {α : Type} : List (Nat × α) → Nat → Option α
  | [], _ => none
  | e :: t, v => bif Nat.beq e.1 v then some e.2 else zlk t v
theorem zlkm {α : Type} {v : Nat} {a : α} : ∀ {L : List (Nat × α)}, zlk L v = some a → (v, a) ∈ L
  | [], h => by cases h
  | q :: l, h => by
    unfold zlk at h
    cases hb : Nat.beq q.1 v with
    | true =>
      rw [hb] at h
      have e := Nat.eq_of_beq_eq_true hb
      have h2 : q.2 = a := Option.some.inj h
      rw [← e, ← h2]
      exact List.mem_cons_self
    | false =>
      rw [hb] at h
      exact List.mem_cons_of_mem _ (zlkm h)
def zgo2 : { G : Nat → Nat → Decoder Instr // ∀ pc, Decoder.instr pc = (Reader.u1 >>= G pc) } := ⟨_, fun _ => rfl⟩
theorem zdu1 {code : ByteArray} {p v : Nat} (h : (Reader.u1 : Decoder Nat) code p = .ok (v, p + 1)) {i : Instr} {q : Nat} (h2 : zgo2.1 p v code (p + 1) = .ok (i, q)) : decode code p = .ok (i, q - p) := by
  unfold decode Reader.runAt
  rw [zgo2.2 p]
  show Except.bind (Except.bind ((Reader.u1 : Decoder Nat) code p) (fun x => zgo2.1 p x.1 code x.2)) (fun y => .ok (y.1, y.2 - p)) = _
  rw [h]
  show Except.bind (zgo2.1 p v code (p + 1)) (fun y => .ok (y.1, y.2 - p)) = _
  rw [h2]
  rfl
theorem zu1 {code : ByteArray} {p : Nat} {b : UInt8} {t : List UInt8} (h : code.data.toList.drop p = b :: t) : (Reader.u1 : Decoder Nat) code p = .ok (b.toNat, p + 1) := by
  have h0 : code.data.toList[p]? = some b := by
    have e : (code.data.toList.drop p)[0]? = code.data.toList[p + 0]? := List.getElem?_drop
    rw [h] at e
    exact e.symm
  obtain ⟨hp, e⟩ := List.getElem?_eq_some_iff.mp h0
  have hs : p < code.size := hp
  have e2 : (Reader.u1 : Decoder Nat) code p = (dite (p < code.size) (fun h => (do set (p + 1); pure code[p].toNat : Decoder Nat)) (fun _ => throw (HasTruncated.truncated p))) code p := rfl
  rw [e2, dif_pos hs]
  show Except.ok (code[p].toNat, p + 1) = _
  have e3 : code[p] = b := e
  rw [e3]
theorem zrunX {α : Type} {code : ByteArray} {q q2 : Nat} {r : Decoder α} {a : α} (h : r code q = .ok (a, q2)) (f : α → Instr) : (r >>= fun x => (pure (f x) : Decoder Instr)) code q = .ok (f a, q2) := by
  show Except.bind (r code q) (fun x => .ok (f x.1, x.2)) = _
  rw [h]
  rfl
theorem zs1 {code : ByteArray} {q v : Nat} (h : (Reader.u1 : Decoder Nat) code q = .ok (v, q + 1)) : (Reader.s1 : Decoder Int) code q = .ok (Reader.signed 8 v, q + 1) := by
  show Except.bind ((Reader.u1 : Decoder Nat) code q) (fun x => .ok (Reader.signed 8 x.1, x.2)) = _
  rw [h]
  rfl
theorem zu2 {code : ByteArray} {q v w : Nat} (h : (Reader.u1 : Decoder Nat) code q = .ok (v, q + 1)) (k : (Reader.u1 : Decoder Nat) code (q + 1) = .ok (w, q + 2)) : (Reader.u2 : Decoder Nat) code q = .ok (v * 256 + w, q + 2) := by
  show Except.bind ((Reader.u1 : Decoder Nat) code q) (fun x => Except.bind ((Reader.u1 : Decoder Nat) code x.2) (fun y => .ok (x.1 * 256 + y.1, y.2))) = _
  rw [h]
  show Except.bind ((Reader.u1 : Decoder Nat) code (q + 1)) (fun y => .ok (v * 256 + y.1, y.2)) = _
  rw [k]
  rfl
theorem zs2 {code : ByteArray} {q v q2 : Nat} (h : (Reader.u2 : Decoder Nat) code q = .ok (v, q2)) : (Reader.s2 : Decoder Int) code q = .ok (Reader.signed 16 v, q2) := by
  show Except.bind ((Reader.u2 : Decoder Nat) code q) (fun x => .ok (Reader.signed 16 x.1, x.2)) = _
  rw [h]
  rfl
def zL0 : List (Nat × Instr) := [(42, (.aload_n 0)), (43, (.aload_n 1)), (44, (.aload_n 2)), (45, (.aload_n 3)), (26, (.iload_n 0)), (27, (.iload_n 1)), (28, (.iload_n 2)), (29, (.iload_n 3)), (2, (.iconst (-1))), (3, (.iconst 0)), (4, (.iconst 1)), (5, (.iconst 2)), (6, (.iconst 3)), (7, (.iconst 4)), (8, (.iconst 5)), (46, .iaload), (172, .ireturn), (96, .iadd), (59, (.istore_n 0)), (60, (.istore_n 1)), (61, (.istore_n 2)), (62, (.istore_n 3)), (100, .isub), (9, (.lconst 0)), (10, (.lconst 1)), (87, .pop), (79, .iastore), (104, .imul), (173, .lreturn), (148, .lcmp), (133, .i2l), (30, (.lload_n 0)), (31, (.lload_n 1)), (32, (.lload_n 2)), (33, (.lload_n 3)), (177, .return_), (89, .dup), (47, .laload), (50, .aaload), (126, .iand), (97, .ladd), (108, .idiv), (112, .irem), (51, .baload), (120, .ishl), (80, .lastore), (105, .lmul), (122, .ishr), (75, (.astore_n 0)), (76, (.astore_n 1)), (77, (.astore_n 2)), (78, (.astore_n 3)), (121, .lshl), (127, .land), (129, .lor), (101, .lsub), (92, .dup2), (191, .athrow), (124, .iushr), (109, .ldiv), (128, .ior), (130, .ixor), (190, .arraylength), (88, .pop2), (84, .bastore), (113, .lrem), (63, (.lstore_n 0)), (64, (.lstore_n 1)), (65, (.lstore_n 2)), (66, (.lstore_n 3)), (83, .aastore)]
def zL1 : List (Nat × (Nat → Instr)) := [(21, .iload), (54, .istore), (22, .lload), (55, .lstore), (25, .aload), (58, .astore), (18, .ldc)]
def zLS1 : List (Nat × (Int → Instr)) := [(16, .bipush)]
def zL2 : List (Nat × (Nat → Instr)) := [(180, .getfield), (182, .invokevirtual), (181, .putfield), (184, .invokestatic), (183, .invokespecial), (20, .ldc2_w), (187, .new), (19, .ldc_w), (189, .anewarray)]
def zLS2 : List (Nat × (Int → Instr)) := [(153, (.ifCond .eq)), (154, (.ifCond .ne)), (155, (.ifCond .lt)), (156, (.ifCond .ge)), (157, (.ifCond .gt)), (158, (.ifCond .le)), (159, (.if_icmp .eq)), (160, (.if_icmp .ne)), (161, (.if_icmp .lt)), (162, (.if_icmp .ge)), (163, (.if_icmp .gt)), (164, (.if_icmp .le)), (167, .goto), (17, .sipush)]
theorem zL0k : ∀ x ∈ zL0, ∀ p, zgo2.1 p x.1 = (pure x.2 : Decoder Instr) := (zcons (fun _ => rfl) (zcons (fun _ => rfl) (zcons (fun _ => rfl) (zcons (fun _ => rfl) (zcons (fun _ => rfl) (zcons (fun _ => rfl) (zcons (fun _ => rfl) (zcons (fun _ => rfl) (zcons (fun _ => rfl) (zcons (fun _ => rfl) (zcons (fun _ => rfl) (zcons (fun _ => rfl) (zcons (fun _ => rfl) (zcons (fun _ => rfl) (zcons (fun _ => rfl) (zcons (fun _ => rfl) (zcons (fun _ => rfl) (zcons (fun _ => rfl) (zcons (fun _ => rfl) (zcons (fun _ => rfl) (zcons (fun _ => rfl) (zcons (fun _ => rfl) (zcons (fun _ => rfl) (zcons (fun _ => rfl) (zcons (fun _ => rfl) (zcons (fun _ => rfl) (zcons (fun _ => rfl) (zcons (fun _ => rfl) (zcons (fun _ => rfl) (zcons (fun _ => rfl) (zcons (fun _ => rfl) (zcons (fun _ => rfl) (zcons (fun _ => rfl) (zcons (fun _ => rfl) (zcons (fun _ => rfl) (zcons (fun _ => rfl) (zcons (fun _ => rfl) (zcons (fun _ => rfl) (zcons (fun _ => rfl) (zcons (fun _ => rfl) (zcons (fun _ => rfl) (zcons (fun _ => rfl) (zcons (fun _ => rfl) (zcons (fun _ => rfl) (zcons (fun _ => rfl) (zcons (fun _ => rfl) (zcons (fun _ => rfl) (zcons (fun _ => rfl) (zcons (fun _ => rfl) (zcons (fun _ => rfl) (zcons (fun _ => rfl) (zcons (fun _ => rfl) (zcons (fun _ => rfl) (zcons (fun _ => rfl) (zcons (fun _ => rfl) (zcons (fun _ => rfl) (zcons (fun _ => rfl) (zcons (fun _ => rfl) (zcons (fun _ => rfl) (zcons (fun _ => rfl) (zcons (fun _ => rfl) (zcons (fun _ => rfl) (zcons (fun _ => rfl) (zcons (fun _ => rfl) (zcons (fun _ => rfl) (zcons (fun _ => rfl) (zcons (fun _ => rfl) (zcons (fun _ => rfl) (zcons (fun _ => rfl) (zcons (fun _ => rfl) (zcons (fun _ => rfl) znil)))))))))))))))))))))))))))))))))))))))))))))))))))))))))))))))))))))))
theorem zL1k : ∀ x ∈ zL1, ∀ p, zgo2.1 p x.1 = (Reader.u1 >>= fun a => (pure (x.2 a) : Decoder Instr)) := (zcons (fun _ => rfl) (zcons (fun _ => rfl) (zcons (fun _ => rfl) (zcons (fun _ => rfl) (zcons (fun _ => rfl) (zcons (fun _ => rfl) (zcons (fun _ => rfl) znil)))))))
theorem zLS1k : ∀ x ∈ zLS1, ∀ p, zgo2.1 p x.1 = (Reader.s1 >>= fun a => (pure (x.2 a) : Decoder Instr)) := (zcons (fun _ => rfl) znil)
theorem zL2k : ∀ x ∈ zL2, ∀ p, zgo2.1 p x.1 = (Reader.u2 >>= fun a => (pure (x.2 a) : Decoder Instr)) := (zcons (fun _ => rfl) (zcons (fun _ => rfl) (zcons (fun _ => rfl) (zcons (fun _ => rfl) (zcons (fun _ => rfl) (zcons (fun _ => rfl) (zcons (fun _ => rfl) (zcons (fun _ => rfl) (zcons (fun _ => rfl) znil)))))))))
theorem zLS2k : ∀ x ∈ zLS2, ∀ p, zgo2.1 p x.1 = (Reader.s2 >>= fun a => (pure (x.2 a) : Decoder Instr)) := (zcons (fun _ => rfl) (zcons (fun _ => rfl) (zcons (fun _ => rfl) (zcons (fun _ => rfl) (zcons (fun _ => rfl) (zcons (fun _ => rfl) (zcons (fun _ => rfl) (zcons (fun _ => rfl) (zcons (fun _ => rfl) (zcons (fun _ => rfl) (zcons (fun _ => rfl) (zcons (fun _ => rfl) (zcons (fun _ => rfl) (zcons (fun _ => rfl) znil))))))))))))))
theorem zKinc {code : ByteArray} {p q v w : Nat} (h : (Reader.u1 : Decoder Nat) code q = .ok (v, q + 1)) (k : (Reader.u1 : Decoder Nat) code (q + 1) = .ok (w, q + 2)) : zgo2.1 p 132 code q = .ok (.iinc v (Reader.signed 8 w), q + 2) := by
  show Except.bind ((Reader.u1 : Decoder Nat) code q) (fun x => Except.bind ((Reader.s1 : Decoder Int) code x.2) (fun y => .ok (Instr.iinc x.1 y.1, y.2))) = _
  rw [h]
  show Except.bind ((Reader.s1 : Decoder Int) code (q + 1)) (fun y => .ok (Instr.iinc v y.1, y.2)) = _
  rw [zs1 k]
  rfl
def zd0 (b : Nat) : Option (Instr × Nat) := match zlk zL0 b with
  | some i => some (i, 1)
  | none => none
def zd1 (b c : Nat) : Option (Instr × Nat) := match zlk zL1 b with
  | some f => some (f c, 2)
  | none => match zlk zLS1 b with
    | some f => some (f (Reader.signed 8 c), 2)
    | none => none
def zd2 (b c d : Nat) : Option (Instr × Nat) := match zlk zL2 b with
  | some f => some (f (c * 256 + d), 3)
  | none => match zlk zLS2 b with
    | some f => some (f (Reader.signed 16 (c * 256 + d)), 3)
    | none => bif Nat.beq b 132 then some (.iinc c (Reader.signed 8 d), 3) else none
def zdT (b : Nat) : List UInt8 → Option (Instr × Nat)
  | [] => none
  | c :: t => match zd1 b c.toNat with
    | some r => some r
    | none => match t with
      | [] => none
      | d :: _ => zd2 b c.toNat d.toNat
def zdec1 : List UInt8 → Option (Instr × Nat)
  | [] => none
  | b :: t => match zd0 b.toNat with
    | some r => some r
    | none => zdT b.toNat t
theorem zdrop1 {l t : List UInt8} {p : Nat} {b : UInt8} (h : l.drop p = b :: t) : l.drop (p + 1) = t := by
  rw [← List.drop_drop, h]
  rfl
theorem zok0 {code : ByteArray} {p v : Nat} (h : (Reader.u1 : Decoder Nat) code p = .ok (v, p + 1)) {i : Instr} {n : Nat} (e : zd0 v = some (i, n)) : decode code p = .ok (i, n) := by
  unfold zd0 at e
  cases hk : zlk zL0 v with
  | none => rw [hk] at e; cases e
  | some j =>
    rw [hk] at e
    cases e
    have q := zdu1 h (i := i) (q := p + 1) (by rw [zL0k _ (zlkm hk) p]; rfl)
    rwa [Nat.add_sub_cancel_left] at q
theorem zok1 {code : ByteArray} {p v c : Nat} (h : (Reader.u1 : Decoder Nat) code p = .ok (v, p + 1)) (h1 : (Reader.u1 : Decoder Nat) code (p + 1) = .ok (c, p + 1 + 1)) {i : Instr} {n : Nat} (e : zd1 v c = some (i, n)) : decode code p = .ok (i, n) := by
  unfold zd1 at e
  cases hk : zlk zL1 v with
  | some f =>
    rw [hk] at e
    cases e
    have q := zdu1 h (i := f c) (q := p + 1 + 1) (by rw [zL1k _ (zlkm hk) p]; exact zrunX h1 f)
    rwa [show p + 1 + 1 - p = 2 by omega] at q
  | none =>
    rw [hk] at e
    cases hk2 : zlk zLS1 v with
    | none => rw [hk2] at e; cases e
    | some f =>
      rw [hk2] at e
      cases e
      have q := zdu1 h (i := f (Reader.signed 8 c)) (q := p + 1 + 1) (by rw [zLS1k _ (zlkm hk2) p]; exact zrunX (zs1 h1) f)
      rwa [show p + 1 + 1 - p = 2 by omega] at q
theorem zok2 {code : ByteArray} {p v c d : Nat} (h : (Reader.u1 : Decoder Nat) code p = .ok (v, p + 1)) (h1 : (Reader.u1 : Decoder Nat) code (p + 1) = .ok (c, p + 1 + 1)) (h2 : (Reader.u1 : Decoder Nat) code (p + 1 + 1) = .ok (d, p + 1 + 2)) {i : Instr} {n : Nat} (e : zd2 v c d = some (i, n)) : decode code p = .ok (i, n) := by
  unfold zd2 at e
  cases hk : zlk zL2 v with
  | some f =>
    rw [hk] at e
    cases e
    have q := zdu1 h (i := f (c * 256 + d)) (q := p + 1 + 2) (by rw [zL2k _ (zlkm hk) p]; exact zrunX (zu2 h1 h2) f)
    rwa [show p + 1 + 2 - p = 3 by omega] at q
  | none =>
    rw [hk] at e
    cases hk2 : zlk zLS2 v with
    | some f =>
      rw [hk2] at e
      cases e
      have q := zdu1 h (i := f (Reader.signed 16 (c * 256 + d))) (q := p + 1 + 2) (by rw [zLS2k _ (zlkm hk2) p]; exact zrunX (zs2 (zu2 h1 h2)) f)
      rwa [show p + 1 + 2 - p = 3 by omega] at q
    | none =>
      rw [hk2] at e
      cases hb : Nat.beq v 132 with
      | false => rw [hb] at e; cases e
      | true =>
        rw [hb] at e
        cases e
        have ev := Nat.eq_of_beq_eq_true hb
        subst ev
        have q := zdu1 h (i := .iinc c (Reader.signed 8 d)) (q := p + 1 + 2) (zKinc h1 h2)
        rwa [show p + 1 + 2 - p = 3 by omega] at q
theorem zdec1k {code : ByteArray} {p : Nat} {bs : List UInt8} (h : code.data.toList.drop p = bs) {i : Instr} {n : Nat} (e : zdec1 bs = some (i, n)) : decode code p = .ok (i, n) := by
  match bs, h, e with
  | b :: t, h, e =>
    have u := zu1 h
    have e : (match zd0 b.toNat with
      | some r => some r
      | none => zdT b.toNat t) = some (i, n) := e
    cases h0 : zd0 b.toNat with
    | some r =>
      rw [h0] at e
      cases e
      exact zok0 u h0
    | none =>
      rw [h0] at e
      match t, h, e with
      | c :: t2, h, e =>
        have hd := zdrop1 h
        have u1 := zu1 hd
        simp only [zdT] at e
        cases h1 : zd1 b.toNat c.toNat with
        | some r =>
          rw [h1] at e
          cases e
          exact zok1 u u1 h1
        | none =>
          rw [h1] at e
          match t2, hd, e with
          | d :: t3, hd, e =>
            exact zok2 u u1 (zu1 (zdrop1 hd)) e
/-- k bytes further, then c -/
noncomputable def zskip (c : List UInt8 → Bool) (k : Nat) : List UInt8 → Bool := Nat.rec (motive := fun _ => List UInt8 → Bool) c (fun _ ih bs => List.casesOn (motive := fun _ => Bool) bs false (fun _ t => ih t)) k
theorem zskipk {c : List UInt8 → Bool} : ∀ (k : Nat) (bs : List UInt8), zskip c k bs = true → c (bs.drop k) = true
  | 0, bs, h => h
  | k + 1, [], h => by cases h
  | k + 1, b :: bs, h => zskipk k bs h
def zone (code : ByteArray) (e : zE) (bs : List UInt8) : Bool := match zdec1 bs with
  | some r => decide (r = (e.2.1, e.2.2.1 - e.1))
  | none => decide (decode code e.1 = .ok (e.2.1, e.2.2.1 - e.1))
theorem zonek {code : ByteArray} {e : zE} {bs : List UInt8} (hd : code.data.toList.drop e.1 = bs) (h : zone code e bs = true) : decode code e.1 = .ok (e.2.1, e.2.2.1 - e.1) := by
  unfold zone at h
  cases hz : zdec1 bs with
  | some r =>
    rw [hz] at h
    have er := of_decide_eq_true h
    rw [er] at hz
    exact zdec1k hd hz
  | none =>
    rw [hz] at h
    exact of_decide_eq_true h
noncomputable def zfast (code : ByteArray) (t : List zE) : Nat → List UInt8 → Bool := List.rec (motive := fun _ => Nat → List UInt8 → Bool) (fun _ _ => true) (fun e _ ih p bs => Nat.ble p e.1 && zskip (fun bs => zone code e bs && ih e.1 bs) (e.1 - p) bs) t
theorem zfastk {code : ByteArray} : ∀ (t : List zE) (p : Nat) (bs : List UInt8), code.data.toList.drop p = bs → zfast code t p bs = true → ∀ e ∈ t, decode code e.1 = .ok (e.2.1, e.2.2.1 - e.1)
  | [], _, _, _, _ => znil
  | e :: t, p, bs, hd, h => by
    have h' : (Nat.ble p e.1 && zskip (fun bs => zone code e bs && zfast code t e.1 bs) (e.1 - p) bs) = true := h
    rw [Bool.and_eq_true] at h'
    have hl := Nat.le_of_ble_eq_true h'.1
    have h2 := zskipk _ _ h'.2
    rw [Bool.and_eq_true] at h2
    have hd2 : code.data.toList.drop e.1 = bs.drop (e.1 - p) := by
      rw [← hd, List.drop_drop]
      congr 1
      omega
    exact zcons (zonek hd2 h2.1) (zfastk t e.1 _ hd2 h2.2)
noncomputable def zchk (F : zFT) (cc : ByteArray) (nL : Nat) (ini : Bool) (t : List zE) : Bool := zfast cc t 0 cc.data.toList && t.all (fun e => zlenok e.2.1 e.1 e.2.2.1 && zgd F nL ini e.1 e.2.1 e.2.2.2.1 e.2.2.2.2.1 e.2.2.2.2.2)
theorem zchkk {F : zFT} {cc : ByteArray} {nL : Nat} {ini : Bool} {t : List zE} (h : zchk F cc nL ini t = true) : ∀ e ∈ t, zgood F cc nL ini e = true := by
  unfold zchk at h
  rw [Bool.and_eq_true] at h
  intro x hx
  have a := zfastk t 0 _ rfl h.1 x hx
  have b := List.all_eq_true.mp h.2 x hx
  rw [Bool.and_eq_true] at b
  unfold zgood
  rw [Bool.and_eq_true, Bool.and_eq_true]
  exact ⟨⟨decide_eq_true a, b.1⟩, b.2⟩
end
