def fRLh : zFT := ([], [(7, 91), (15, 98), (21, 106)], [], [], [])
set_option maxRecDepth 100000 in
theorem gRLh : zFTok RL fRLh := ⟨znil, zcons (⟨_, rfl, zmemT 682 rfl rfl⟩) (zcons (⟨_, rfl, zmemT 757 rfl rfl⟩) (zcons (⟨_, rfl, zmemT 787 rfl rfl⟩) (znil))), znil, znil, znil⟩
def tL_readings : List zE := [(0, .aload_n 2, 1, 0, 0, 0), (1, .iconst 0, 2, 0, 0, 0), (2, .aload_n 0, 3, 0, 0, 0), (3, .iload_n 1, 4, 0, 0, 0), (4, .invokevirtual 7, 7, 91, 1, 0), (7, .lastore, 8, 0, 0, 0), (8, .goto 6, 11, 14, 0, 0), (11, .astore_n 3, 12, 0, 0, 0), (12, .iconst 1, 13, 0, 0, 0), (13, .ireturn, 14, 0, 0, 0), (14, .iconst 0, 15, 0, 0, 0), (15, .ireturn, 16, 0, 0, 0)]
theorem oL_readings : ∀ e ∈ tL_readings, zgood fRLh cL_readings 4 false e = true := by decide +kernel
abbrev zL_readings : zMt := (yL_readings, cL_readings, 4, some .int, false, 1, 6, 1, 3)
theorem bL_readings : zTb (zMh 9 zL_readings [(0, 8, 11, 13)]) tL_readings := ⟨fRLh, gRLh, oL_readings⟩
def tL_where : List zE := [(0, .aload_n 2, 1, 0, 0, 0), (1, .iconst 0, 2, 0, 0, 0), (2, .aload_n 0, 3, 0, 0, 0), (3, .iload_n 1, 4, 0, 0, 0), (4, .invokevirtual 15, 7, 98, 1, 0), (7, .i2l, 8, 0, 0, 0), (8, .lastore, 9, 0, 0, 0), (9, .goto 6, 12, 15, 0, 0), (12, .astore_n 3, 13, 0, 0, 0), (13, .iconst 1, 14, 0, 0, 0), (14, .ireturn, 15, 0, 0, 0), (15, .iconst 0, 16, 0, 0, 0), (16, .ireturn, 17, 0, 0, 0)]
theorem oL_where : ∀ e ∈ tL_where, zgood fRLh cL_where 4 false e = true := by decide +kernel
abbrev zL_where : zMt := (yL_where, cL_where, 4, some .int, false, 1, 6, 1, 3)
theorem bL_where : zTb (zMh 9 zL_where [(0, 9, 12, 19)]) tL_where := ⟨fRLh, gRLh, oL_where⟩
def tL_element : List zE := [(0, .aload_n 3, 1, 0, 0, 0), (1, .iconst 0, 2, 0, 0, 0), (2, .aload_n 0, 3, 0, 0, 0), (3, .iload_n 1, 4, 0, 0, 0), (4, .iload_n 2, 5, 0, 0, 0), (5, .invokevirtual 21, 8, 106, 2, 0), (8, .lastore, 9, 0, 0, 0), (9, .goto 11, 12, 20, 0, 0), (12, .astore 4, 14, 0, 0, 0), (14, .iconst 1, 15, 0, 0, 0), (15, .ireturn, 16, 0, 0, 0), (16, .astore 4, 18, 0, 0, 0), (18, .iconst 2, 19, 0, 0, 0), (19, .ireturn, 20, 0, 0, 0), (20, .iconst 0, 21, 0, 0, 0), (21, .ireturn, 22, 0, 0, 0)]
theorem oL_element : ∀ e ∈ tL_element, zgood fRLh cL_element 5 false e = true := by decide +kernel
abbrev zL_element : zMt := (yL_element, cL_element, 5, some .int, false, 1, 6, 1, 4)
theorem bL_element : zTb (zMh 9 zL_element [(0, 9, 12, 13), (0, 9, 16, 19)]) tL_element := ⟨fRLh, gRLh, oL_element⟩
set_option maxRecDepth 100000 in
theorem wL_readings : Cond.methodLink RL 98 yL_readings ∈ zG ∧ Cond.static yL_readings ∈ zG ∧ Cond.initialized RL ∈ zG ∧ Cond.codeWith yL_readings cL_readings 4 (some .int) [(0, 8, 11, 13)] ∈ zG := ⟨zmemT 678 rfl rfl, zmemT 679 rfl rfl, zmemT 0 rfl rfl, zmemT 680 rfl rfl⟩
theorem vL_readings : GoodIn zG (va_wsS RL 98 yL_readings (Cond.codeWith yL_readings cL_readings 4 (some .int) [(0, 8, 11, 13)] :: zG)) := fun x hx => by
  have key : x ∈ zG := by
    unfold va_wsS at hx
    simp only [List.mem_append, List.mem_cons, List.not_mem_nil, or_false] at hx
    rcases hx with hx | hx | hx
    · rcases hx with rfl | rfl | rfl <;> first | exact wL_readings.1 | exact wL_readings.2.1 | exact wL_readings.2.2.1
    · rw [hx]; exact wL_readings.2.2.2
    · exact hx
  exact ⟨key, good_of_word (zG_good key)⟩
set_option maxRecDepth 100000 in
theorem wL_where : Cond.methodLink RL 132 yL_where ∈ zG ∧ Cond.static yL_where ∈ zG ∧ Cond.initialized RL ∈ zG ∧ Cond.codeWith yL_where cL_where 4 (some .int) [(0, 9, 12, 19)] ∈ zG := ⟨zmemT 753 rfl rfl, zmemT 754 rfl rfl, zmemT 0 rfl rfl, zmemT 755 rfl rfl⟩
theorem vL_where : GoodIn zG (va_wsS RL 132 yL_where (Cond.codeWith yL_where cL_where 4 (some .int) [(0, 9, 12, 19)] :: zG)) := fun x hx => by
  have key : x ∈ zG := by
    unfold va_wsS at hx
    simp only [List.mem_append, List.mem_cons, List.not_mem_nil, or_false] at hx
    rcases hx with hx | hx | hx
    · rcases hx with rfl | rfl | rfl <;> first | exact wL_where.1 | exact wL_where.2.1 | exact wL_where.2.2.1
    · rw [hx]; exact wL_where.2.2.2
    · exact hx
  exact ⟨key, good_of_word (zG_good key)⟩
set_option maxRecDepth 100000 in
theorem wL_element : Cond.methodLink RL 163 yL_element ∈ zG ∧ Cond.static yL_element ∈ zG ∧ Cond.initialized RL ∈ zG ∧ Cond.codeWith yL_element cL_element 5 (some .int) [(0, 9, 12, 13), (0, 9, 16, 19)] ∈ zG := ⟨zmemT 784 rfl rfl, zmemT 785 rfl rfl, zmemT 0 rfl rfl, zmemT 786 rfl rfl⟩
theorem vL_element : GoodIn zG (va_wsS RL 163 yL_element (Cond.codeWith yL_element cL_element 5 (some .int) [(0, 9, 12, 13), (0, 9, 16, 19)] :: zG)) := fun x hx => by
  have key : x ∈ zG := by
    unfold va_wsS at hx
    simp only [List.mem_append, List.mem_cons, List.not_mem_nil, or_false] at hx
    rcases hx with hx | hx | hx
    · rcases hx with rfl | rfl | rfl <;> first | exact wL_element.1 | exact wL_element.2.1 | exact wL_element.2.2.1
    · rw [hx]; exact wL_element.2.2.2
    · exact hx
  exact ⟨key, good_of_word (zG_good key)⟩
set_option maxRecDepth 100000 in
theorem cl13 : Cond.classLink RL 13 "java/lang/IllegalArgumentException" ∈ zG := zmemT 681 rfl rfl
set_option maxRecDepth 100000 in
theorem cl19 : Cond.classLink RL 19 "java/lang/IllegalStateException" ∈ zG := zmemT 756 rfl rfl
set_option maxRecDepth 100000 in
theorem kIAE : Cond.classLink RX6 169 "java/lang/IllegalArgumentException" ∈ zG ∧ Cond.initialized "java/lang/IllegalArgumentException" ∈ zG := ⟨zmemT 686 rfl rfl, zmemT 13 rfl rfl⟩
set_option maxRecDepth 100000 in
theorem kISE : Cond.classLink RX6 222 "java/lang/IllegalStateException" ∈ zG ∧ Cond.initialized "java/lang/IllegalStateException" ∈ zG := ⟨zmemT 761 rfl rfl, zmemT 14 rfl rfl⟩
set_option maxRecDepth 100000 in
theorem aIAE : ∀ x ∈ vx_atS RX6 173 "java/lang/IllegalArgumentException" ["java/lang/RuntimeException", "java/lang/Exception"], x ∈ zG ∨ x = .castable "java/lang/IllegalArgumentException" "java/lang/IllegalArgumentException" ∨ x ∈ zds := by decide +kernel
set_option maxRecDepth 100000 in
theorem gIAE : ∀ x ∈ Cond.classLink RX6 169 "java/lang/IllegalArgumentException" :: Cond.initialized "java/lang/IllegalArgumentException" :: vx_atS RX6 173 "java/lang/IllegalArgumentException" ["java/lang/RuntimeException", "java/lang/Exception"], vx_ot x = true := by decide +kernel
theorem fIAE : Bundle.fit "java/lang/IllegalArgumentException" = true ∧ ∀ n ∈ (["java/lang/RuntimeException", "java/lang/Exception"] : List String), Bundle.fit n = true := by decide +kernel
set_option maxRecDepth 100000 in
theorem aISE : ∀ x ∈ vx_atS RX6 226 "java/lang/IllegalStateException" ["java/lang/RuntimeException", "java/lang/Exception"], x ∈ zG ∨ x = .castable "java/lang/IllegalStateException" "java/lang/IllegalStateException" ∨ x ∈ zds := by decide +kernel
set_option maxRecDepth 100000 in
theorem gISE : ∀ x ∈ Cond.classLink RX6 222 "java/lang/IllegalStateException" :: Cond.initialized "java/lang/IllegalStateException" :: vx_atS RX6 226 "java/lang/IllegalStateException" ["java/lang/RuntimeException", "java/lang/Exception"], vx_ot x = true := by decide +kernel
theorem fISE : Bundle.fit "java/lang/IllegalStateException" = true ∧ ∀ n ∈ (["java/lang/RuntimeException", "java/lang/Exception"] : List String), Bundle.fit n = true := by decide +kernel
