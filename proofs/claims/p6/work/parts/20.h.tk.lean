/-! THE TABLES' WORDS, each by its place in its table. Printed by wip/am/chk/mktk.py. -/
theorem tk_t1 {j : Nat} {w : Cond} (h : tables_1_1[j]? = some w) (hg : goodWord w = true) : w ∈ TB := by
  have h := List.mem_of_getElem? h
  exact List.mem_filter.mpr ⟨List.mem_append_right _ (show w ∈ tables_1 from List.mem_append_left _ h), hg⟩
theorem tk_t2 {j : Nat} {w : Cond} (h : tables_1_2[j]? = some w) (hg : goodWord w = true) : w ∈ TB := by
  have h := List.mem_of_getElem? h
  exact List.mem_filter.mpr ⟨List.mem_append_right _ (show w ∈ tables_1 from List.mem_append_right _ (List.mem_append_left _ h)), hg⟩
theorem tk_t3 {j : Nat} {w : Cond} (h : tables_1_3[j]? = some w) (hg : goodWord w = true) : w ∈ TB := by
  have h := List.mem_of_getElem? h
  exact List.mem_filter.mpr ⟨List.mem_append_right _ (show w ∈ tables_1 from List.mem_append_right _ (List.mem_append_right _ (List.mem_append_left _ h))), hg⟩
theorem tk_t4 {j : Nat} {w : Cond} (h : tables_1_4[j]? = some w) (hg : goodWord w = true) : w ∈ TB := by
  have h := List.mem_of_getElem? h
  exact List.mem_filter.mpr ⟨List.mem_append_right _ (show w ∈ tables_1 from List.mem_append_right _ (List.mem_append_right _ (List.mem_append_right _ (List.mem_append_left _ h)))), hg⟩
theorem tk_t5 {j : Nat} {w : Cond} (h : tables_1_5[j]? = some w) (hg : goodWord w = true) : w ∈ TB := by
  have h := List.mem_of_getElem? h
  exact List.mem_filter.mpr ⟨List.mem_append_right _ (show w ∈ tables_1 from List.mem_append_right _ (List.mem_append_right _ (List.mem_append_right _ (List.mem_append_right _ (List.mem_append_left _ h))))), hg⟩
theorem tk_t6 {j : Nat} {w : Cond} (h : tables_1_6[j]? = some w) (hg : goodWord w = true) : w ∈ TB := by
  have h := List.mem_of_getElem? h
  exact List.mem_filter.mpr ⟨List.mem_append_right _ (show w ∈ tables_1 from List.mem_append_right _ (List.mem_append_right _ (List.mem_append_right _ (List.mem_append_right _ (List.mem_append_right _ (List.mem_append_left _ h)))))), hg⟩
theorem tk_t7 {j : Nat} {w : Cond} (h : tables_1_7[j]? = some w) (hg : goodWord w = true) : w ∈ TB := by
  have h := List.mem_of_getElem? h
  exact List.mem_filter.mpr ⟨List.mem_append_right _ (show w ∈ tables_1 from List.mem_append_right _ (List.mem_append_right _ (List.mem_append_right _ (List.mem_append_right _ (List.mem_append_right _ (List.mem_append_right _ (List.mem_append_left _ h))))))), hg⟩
theorem tk_t8 {j : Nat} {w : Cond} (h : tables_1_8[j]? = some w) (hg : goodWord w = true) : w ∈ TB := by
  have h := List.mem_of_getElem? h
  exact List.mem_filter.mpr ⟨List.mem_append_right _ (show w ∈ tables_1 from List.mem_append_right _ (List.mem_append_right _ (List.mem_append_right _ (List.mem_append_right _ (List.mem_append_right _ (List.mem_append_right _ (List.mem_append_right _ (h)))))))), hg⟩
theorem tk_103 : (Jvm.Cond.initialized "LadderStreet") ∈ TB := tk_t1 (j := 1) rfl rfl
theorem tk_104 : (Jvm.Cond.initialized "LadderStreet$Reader") ∈ TB := tk_t1 (j := 2) rfl rfl
theorem tk_105 : (Jvm.Cond.initialized "LadderStreet$Town") ∈ TB := tk_t1 (j := 3) rfl rfl
theorem tk_106 : (Jvm.Cond.initialized "LadderStreet$Laws") ∈ TB := tk_t1 (j := 4) rfl rfl
theorem tk_107 : (Jvm.Cond.initialized "LadderStreet$Tokens") ∈ TB := tk_t1 (j := 5) rfl rfl
theorem tk_108 : (Jvm.Cond.initialized "java/lang/String") ∈ TB := tk_t1 (j := 6) rfl rfl
theorem tk_109 : (Jvm.Cond.initialized "java/lang/StringLatin1") ∈ TB := tk_t1 (j := 7) rfl rfl
theorem tk_110 : (Jvm.Cond.initialized "jdk/internal/util/Preconditions") ∈ TB := tk_t1 (j := 8) rfl rfl
theorem tk_112 : (Jvm.Cond.initialized "LadderStreet$Moment") ∈ TB := tk_t1 (j := 10) rfl rfl
theorem tk_113 : (Jvm.Cond.initialized "LadderStreet$Shelf") ∈ TB := tk_t1 (j := 11) rfl rfl
theorem tk_114 : (Jvm.Cond.initialized "LadderStreet$Course") ∈ TB := tk_t1 (j := 12) rfl rfl
theorem tk_115 : (Jvm.Cond.initialized "LadderStreet$Ways") ∈ TB := tk_t1 (j := 13) rfl rfl
theorem tk_116 : (Jvm.Cond.initialized "LadderStreet$Looks") ∈ TB := tk_t1 (j := 14) rfl rfl
theorem tk_117 : (Jvm.Cond.initialized "LadderStreet$Homes") ∈ TB := tk_t1 (j := 15) rfl rfl
theorem tk_118 : (Jvm.Cond.initialized "LadderStreet$Rumours") ∈ TB := tk_t1 (j := 16) rfl rfl
theorem tk_119 : (Jvm.Cond.initialized "java/util/Arrays") ∈ TB := tk_t1 (j := 17) rfl rfl
theorem tk_120 : (Jvm.Cond.initialized "LadderStreetModel") ∈ TB := tk_t1 (j := 18) rfl rfl
theorem tk_121 : (Jvm.Cond.initialized "java/lang/Math") ∈ TB := tk_t1 (j := 19) rfl rfl
theorem tk_122 : (Jvm.Cond.initialized "java/lang/System") ∈ TB := tk_t1 (j := 20) rfl rfl
theorem tk_123 : (Jvm.Cond.initialized "java/lang/Integer") ∈ TB := tk_t1 (j := 21) rfl rfl
theorem tk_124 : (Jvm.Cond.classLink "LadderStreetLaw" (7 : Nat) "LadderStreet") ∈ TB := tk_t1 (j := 22) rfl rfl
theorem tk_125 : (Jvm.Cond.instantiable "LadderStreet" (14 : Nat)) ∈ TB := tk_t1 (j := 23) rfl rfl
theorem tk_126 : (Jvm.Cond.methodLink "LadderStreetLaw" (9 : Nat) ({ cls := "LadderStreet", name := "<init>", desc := "()V" } : Jvm.MethodName)) ∈ TB := tk_t1 (j := 24) rfl rfl
theorem tk_127 : (Jvm.Cond.instanceMethod ({ cls := "LadderStreet", name := "<init>", desc := "()V" } : Jvm.MethodName)) ∈ TB := tk_t1 (j := 25) rfl rfl
theorem tk_128 : (Jvm.Cond.code ({ cls := "LadderStreet", name := "<init>", desc := "()V" } : Jvm.MethodName) prog_1_method_1_code (1 : Nat) (Option.none : Option Jvm.ClassFile.FieldType)) ∈ TB := tk_t1 (j := 26) rfl rfl
theorem tk_129 : (Jvm.Cond.methodLink "LadderStreet" (1 : Nat) ({ cls := "java/lang/Object", name := "<init>", desc := "()V" } : Jvm.MethodName)) ∈ TB := tk_t1 (j := 27) rfl rfl
theorem tk_130 : (Jvm.Cond.instanceMethod ({ cls := "java/lang/Object", name := "<init>", desc := "()V" } : Jvm.MethodName)) ∈ TB := tk_t1 (j := 28) rfl rfl
theorem tk_131 : (Jvm.Cond.code ({ cls := "java/lang/Object", name := "<init>", desc := "()V" } : Jvm.MethodName) object_method_1_code (1 : Nat) (Option.none : Option Jvm.ClassFile.FieldType)) ∈ TB := tk_t1 (j := 29) rfl rfl
theorem tk_132 : (Jvm.Cond.classLink "LadderStreet" (20 : Nat) "LadderStreet$Reader") ∈ TB := tk_t1 (j := 30) rfl rfl
theorem tk_133 : (Jvm.Cond.instantiable "LadderStreet$Reader" (11 : Nat)) ∈ TB := tk_t1 (j := 31) rfl rfl
theorem tk_135 : (Jvm.Cond.instanceMethod ({ cls := "LadderStreet$Reader", name := "<init>", desc := "()V" } : Jvm.MethodName)) ∈ TB := tk_t1 (j := 33) rfl rfl
theorem tk_136 : (Jvm.Cond.code ({ cls := "LadderStreet$Reader", name := "<init>", desc := "()V" } : Jvm.MethodName) prog_7_method_1_code (1 : Nat) (Option.none : Option Jvm.ClassFile.FieldType)) ∈ TB := tk_t1 (j := 34) rfl rfl
theorem tk_137 : (Jvm.Cond.methodLink "LadderStreet$Reader" (3 : Nat) ({ cls := "java/lang/Object", name := "<init>", desc := "()V" } : Jvm.MethodName)) ∈ TB := tk_t1 (j := 35) rfl rfl
theorem tk_138 : (Jvm.Cond.classLink "LadderStreet$Reader" (9 : Nat) "LadderStreet$Town") ∈ TB := tk_t1 (j := 36) rfl rfl
theorem tk_139 : (Jvm.Cond.instantiable "LadderStreet$Town" (8 : Nat)) ∈ TB := tk_t1 (j := 37) rfl rfl
theorem tk_140 : (Jvm.Cond.methodLink "LadderStreet$Reader" (11 : Nat) ({ cls := "LadderStreet$Town", name := "<init>", desc := "()V" } : Jvm.MethodName)) ∈ TB := tk_t1 (j := 38) rfl rfl
theorem tk_141 : (Jvm.Cond.instanceMethod ({ cls := "LadderStreet$Town", name := "<init>", desc := "()V" } : Jvm.MethodName)) ∈ TB := tk_t1 (j := 39) rfl rfl
theorem tk_142 : (Jvm.Cond.code ({ cls := "LadderStreet$Town", name := "<init>", desc := "()V" } : Jvm.MethodName) prog_11_method_1_code (1 : Nat) (Option.none : Option Jvm.ClassFile.FieldType)) ∈ TB := tk_t1 (j := 40) rfl rfl
theorem tk_143 : (Jvm.Cond.methodLink "LadderStreet$Town" (3 : Nat) ({ cls := "java/lang/Object", name := "<init>", desc := "()V" } : Jvm.MethodName)) ∈ TB := tk_t1 (j := 41) rfl rfl
theorem tk_144 : (Jvm.Cond.classLink "LadderStreet$Town" (21 : Nat) "LadderStreet$Laws") ∈ TB := tk_t1 (j := 42) rfl rfl
theorem tk_145 : (Jvm.Cond.instantiable "LadderStreet$Laws" (6 : Nat)) ∈ TB := tk_t1 (j := 43) rfl rfl
theorem tk_147 : (Jvm.Cond.instanceMethod ({ cls := "LadderStreet$Laws", name := "<init>", desc := "()V" } : Jvm.MethodName)) ∈ TB := tk_t1 (j := 45) rfl rfl
theorem tk_148 : (Jvm.Cond.code ({ cls := "LadderStreet$Laws", name := "<init>", desc := "()V" } : Jvm.MethodName) prog_4_method_1_code (1 : Nat) (Option.none : Option Jvm.ClassFile.FieldType)) ∈ TB := tk_t1 (j := 46) rfl rfl
theorem tk_149 : (Jvm.Cond.methodLink "LadderStreet$Laws" (5 : Nat) ({ cls := "java/lang/Object", name := "<init>", desc := "()V" } : Jvm.MethodName)) ∈ TB := tk_t1 (j := 47) rfl rfl
theorem tk_150 : (Jvm.Cond.fieldLink "LadderStreet$Laws" (11 : Nat) "LadderStreet$Laws" "ops" "[I") ∈ TB := tk_t1 (j := 48) rfl rfl
theorem tk_151 : (Jvm.Cond.fieldLink "LadderStreet$Laws" (15 : Nat) "LadderStreet$Laws" "args" "[I") ∈ TB := tk_t1 (j := 49) rfl rfl
theorem tk_152 : (Jvm.Cond.fieldLink "LadderStreet$Laws" (18 : Nat) "LadderStreet$Laws" "starts" "[I") ∈ TB := tk_t1 (j := 50) rfl rfl
theorem tk_153 : (Jvm.Cond.fieldLink "LadderStreet$Laws" (21 : Nat) "LadderStreet$Laws" "vars" "[I") ∈ TB := tk_t1 (j := 51) rfl rfl
theorem tk_154 : (Jvm.Cond.fieldLink "LadderStreet$Laws" (24 : Nat) "LadderStreet$Laws" "pending" "[I") ∈ TB := tk_t1 (j := 52) rfl rfl
theorem tk_155 : (Jvm.Cond.fieldLink "LadderStreet$Laws" (27 : Nat) "LadderStreet$Laws" "steps" "I") ∈ TB := tk_t1 (j := 53) rfl rfl
theorem tk_169 : (Jvm.Cond.arrayClass Jvm.ClassFile.FieldType.byte) ∈ TB := tk_t1 (j := 67) rfl rfl
theorem tk_170 : (Jvm.Cond.arrayClass Jvm.ClassFile.FieldType.int) ∈ TB := tk_t1 (j := 68) rfl rfl
theorem tk_171 : (Jvm.Cond.methodLink "LadderStreet$Town" (41 : Nat) ({ cls := "LadderStreet$Laws", name := "clear", desc := "()V" } : Jvm.MethodName)) ∈ TB := tk_t1 (j := 69) rfl rfl
theorem tk_172 : (Jvm.Cond.instanceMethod ({ cls := "LadderStreet$Laws", name := "clear", desc := "()V" } : Jvm.MethodName)) ∈ TB := tk_t1 (j := 70) rfl rfl
theorem tk_173 : (Jvm.Cond.selects "LadderStreet$Laws" ({ cls := "LadderStreet$Laws", name := "clear", desc := "()V" } : Jvm.MethodName) ({ cls := "LadderStreet$Laws", name := "clear", desc := "()V" } : Jvm.MethodName)) ∈ TB := tk_t1 (j := 71) rfl rfl
theorem tk_174 : (Jvm.Cond.code ({ cls := "LadderStreet$Laws", name := "clear", desc := "()V" } : Jvm.MethodName) prog_4_method_2_code (1 : Nat) (Option.none : Option Jvm.ClassFile.FieldType)) ∈ TB := tk_t1 (j := 72) rfl rfl
theorem tk_175 : (Jvm.Cond.methodLink "LadderStreet$Laws" (31 : Nat) ({ cls := "LadderStreet$Laws", name := "begin", desc := "(I)V" } : Jvm.MethodName)) ∈ TB := tk_t1 (j := 73) rfl rfl
theorem tk_176 : (Jvm.Cond.instanceMethod ({ cls := "LadderStreet$Laws", name := "begin", desc := "(I)V" } : Jvm.MethodName)) ∈ TB := tk_t1 (j := 74) rfl rfl
theorem tk_177 : (Jvm.Cond.selects "LadderStreet$Laws" ({ cls := "LadderStreet$Laws", name := "begin", desc := "(I)V" } : Jvm.MethodName) ({ cls := "LadderStreet$Laws", name := "begin", desc := "(I)V" } : Jvm.MethodName)) ∈ TB := tk_t1 (j := 75) rfl rfl
theorem tk_178 : (Jvm.Cond.code ({ cls := "LadderStreet$Laws", name := "begin", desc := "(I)V" } : Jvm.MethodName) prog_4_method_3_code (2 : Nat) (Option.none : Option Jvm.ClassFile.FieldType)) ∈ TB := tk_t1 (j := 76) rfl rfl
theorem tk_179 : (Jvm.Cond.methodLink "LadderStreet$Laws" (35 : Nat) ({ cls := "LadderStreet$Laws", name := "add", desc := "(II)I" } : Jvm.MethodName)) ∈ TB := tk_t1 (j := 77) rfl rfl
theorem tk_180 : (Jvm.Cond.instanceMethod ({ cls := "LadderStreet$Laws", name := "add", desc := "(II)I" } : Jvm.MethodName)) ∈ TB := tk_t1 (j := 78) rfl rfl
theorem tk_181 : (Jvm.Cond.selects "LadderStreet$Laws" ({ cls := "LadderStreet$Laws", name := "add", desc := "(II)I" } : Jvm.MethodName) ({ cls := "LadderStreet$Laws", name := "add", desc := "(II)I" } : Jvm.MethodName)) ∈ TB := tk_t1 (j := 79) rfl rfl
theorem tk_182 : (Jvm.Cond.code ({ cls := "LadderStreet$Laws", name := "add", desc := "(II)I" } : Jvm.MethodName) prog_4_method_4_code (3 : Nat) (Option.some Jvm.ClassFile.FieldType.int)) ∈ TB := tk_t1 (j := 80) rfl rfl
theorem tk_183 : (Jvm.Cond.fieldLink "LadderStreet$Town" (9 : Nat) "LadderStreet$Town" "rungs" "I") ∈ TB := tk_t1 (j := 81) rfl rfl
theorem tk_184 : (Jvm.Cond.fieldLink "LadderStreet$Course" (22 : Nat) "LadderStreet$Town" "rungs" "I") ∈ TB := tk_t1 (j := 82) rfl rfl
theorem tk_185 : (Jvm.Cond.fieldLink "LadderStreet$Ways" (60 : Nat) "LadderStreet$Town" "rungs" "I") ∈ TB := tk_t1 (j := 83) rfl rfl
theorem tk_186 : (Jvm.Cond.fieldLink "LadderStreet$Looks" (31 : Nat) "LadderStreet$Town" "rungs" "I") ∈ TB := tk_t1 (j := 84) rfl rfl
theorem tk_187 : (Jvm.Cond.fieldLink "LadderStreet$Rumours" (49 : Nat) "LadderStreet$Town" "rungs" "I") ∈ TB := tk_t1 (j := 85) rfl rfl
theorem tk_188 : (Jvm.Cond.fieldLink "LadderStreet$Reader" (93 : Nat) "LadderStreet$Town" "rungs" "I") ∈ TB := tk_t1 (j := 86) rfl rfl
theorem tk_189 : (Jvm.Cond.fieldLink "LadderStreet" (181 : Nat) "LadderStreet$Town" "rungs" "I") ∈ TB := tk_t1 (j := 87) rfl rfl
theorem tk_190 : (Jvm.Cond.fieldLink "LadderStreet$Town" (15 : Nat) "LadderStreet$Town" "people" "I") ∈ TB := tk_t1 (j := 88) rfl rfl
theorem tk_191 : (Jvm.Cond.fieldLink "LadderStreet$Looks" (19 : Nat) "LadderStreet$Town" "people" "I") ∈ TB := tk_t1 (j := 89) rfl rfl
theorem tk_192 : (Jvm.Cond.fieldLink "LadderStreet$Homes" (51 : Nat) "LadderStreet$Town" "people" "I") ∈ TB := tk_t1 (j := 90) rfl rfl
theorem tk_193 : (Jvm.Cond.fieldLink "LadderStreet$Rumours" (27 : Nat) "LadderStreet$Town" "people" "I") ∈ TB := tk_t1 (j := 91) rfl rfl
theorem tk_194 : (Jvm.Cond.fieldLink "LadderStreet$Course" (74 : Nat) "LadderStreet$Town" "people" "I") ∈ TB := tk_t1 (j := 92) rfl rfl
theorem tk_195 : (Jvm.Cond.fieldLink "LadderStreet" (184 : Nat) "LadderStreet$Town" "people" "I") ∈ TB := tk_t1 (j := 93) rfl rfl
theorem tk_196 : (Jvm.Cond.fieldLink "LadderStreet$Reader" (105 : Nat) "LadderStreet$Town" "people" "I") ∈ TB := tk_t1 (j := 94) rfl rfl
theorem tk_197 : (Jvm.Cond.fieldLink "LadderStreet$Town" (18 : Nat) "LadderStreet$Town" "seed" "I") ∈ TB := tk_t1 (j := 95) rfl rfl
theorem tk_198 : (Jvm.Cond.fieldLink "LadderStreet$Reader" (102 : Nat) "LadderStreet$Town" "seed" "I") ∈ TB := tk_t1 (j := 96) rfl rfl
theorem tk_199 : (Jvm.Cond.fieldLink "LadderStreet" (242 : Nat) "LadderStreet$Town" "seed" "I") ∈ TB := tk_t1 (j := 97) rfl rfl
theorem tk_200 : (Jvm.Cond.fieldLink "LadderStreet$Course" (15 : Nat) "LadderStreet$Town" "laws" "LLadderStreet$Laws;") ∈ TB := tk_t1 (j := 98) rfl rfl
theorem tk_201 : (Jvm.Cond.fieldLink "LadderStreet$Town" (24 : Nat) "LadderStreet$Town" "laws" "LLadderStreet$Laws;") ∈ TB := tk_t1 (j := 99) rfl rfl
theorem tk_202 : (Jvm.Cond.fieldLink "LadderStreet$Reader" (115 : Nat) "LadderStreet$Town" "laws" "LLadderStreet$Laws;") ∈ TB := tk_t1 (j := 100) rfl rfl
theorem tk_203 : (Jvm.Cond.fieldLink "LadderStreet$Town" (28 : Nat) "LadderStreet$Town" "starts" "[I") ∈ TB := tk_t1 (j := 101) rfl rfl
theorem tk_204 : (Jvm.Cond.fieldLink "LadderStreet$Town" (32 : Nat) "LadderStreet$Town" "widths" "[I") ∈ TB := tk_t1 (j := 102) rfl rfl
theorem tk_205 : (Jvm.Cond.fieldLink "LadderStreet$Town" (35 : Nat) "LadderStreet$Town" "tempers" "[I") ∈ TB := tk_t1 (j := 103) rfl rfl
theorem tk_206 : (Jvm.Cond.fieldLink "LadderStreet$Town" (38 : Nat) "LadderStreet$Town" "thirsts" "[I") ∈ TB := tk_t1 (j := 104) rfl rfl
theorem tk_224 : (Jvm.Cond.classLink "LadderStreet$Reader" (18 : Nat) "LadderStreet$Tokens") ∈ TB := tk_t1 (j := 122) rfl rfl
theorem tk_225 : (Jvm.Cond.instantiable "LadderStreet$Tokens" (5 : Nat)) ∈ TB := tk_t1 (j := 123) rfl rfl
theorem tk_226 : (Jvm.Cond.methodLink "LadderStreet$Reader" (20 : Nat) ({ cls := "LadderStreet$Tokens", name := "<init>", desc := "()V" } : Jvm.MethodName)) ∈ TB := tk_t1 (j := 124) rfl rfl
theorem tk_227 : (Jvm.Cond.instanceMethod ({ cls := "LadderStreet$Tokens", name := "<init>", desc := "()V" } : Jvm.MethodName)) ∈ TB := tk_t1 (j := 125) rfl rfl
theorem tk_228 : (Jvm.Cond.code ({ cls := "LadderStreet$Tokens", name := "<init>", desc := "()V" } : Jvm.MethodName) prog_10_method_1_code (4 : Nat) (Option.none : Option Jvm.ClassFile.FieldType)) ∈ TB := tk_t1 (j := 126) rfl rfl
theorem tk_229 : (Jvm.Cond.methodLink "LadderStreet$Tokens" (1 : Nat) ({ cls := "java/lang/Object", name := "<init>", desc := "()V" } : Jvm.MethodName)) ∈ TB := tk_t1 (j := 127) rfl rfl
theorem tk_231 : (Jvm.Cond.methodLink "LadderStreet$Tokens" (29 : Nat) ({ cls := "java/lang/String", name := "length", desc := "()I" } : Jvm.MethodName)) ∈ TB := tk_t1 (j := 129) rfl rfl
theorem tk_232 : (Jvm.Cond.instanceMethod ({ cls := "java/lang/String", name := "length", desc := "()I" } : Jvm.MethodName)) ∈ TB := tk_t1 (j := 130) rfl rfl
theorem tk_233 : (Jvm.Cond.selects "java/lang/String" ({ cls := "java/lang/String", name := "length", desc := "()I" } : Jvm.MethodName) ({ cls := "java/lang/String", name := "length", desc := "()I" } : Jvm.MethodName)) ∈ TB := tk_t1 (j := 131) rfl rfl
theorem tk_234 : (Jvm.Cond.code ({ cls := "java/lang/String", name := "length", desc := "()I" } : Jvm.MethodName) prog_17_method_54_code (1 : Nat) (Option.some Jvm.ClassFile.FieldType.int)) ∈ TB := tk_t1 (j := 132) rfl rfl
theorem tk_235 : (Jvm.Cond.methodLink "java/lang/String" (335 : Nat) ({ cls := "java/lang/String", name := "coder", desc := "()B" } : Jvm.MethodName)) ∈ TB := tk_t1 (j := 133) rfl rfl
theorem tk_236 : (Jvm.Cond.instanceMethod ({ cls := "java/lang/String", name := "coder", desc := "()B" } : Jvm.MethodName)) ∈ TB := tk_t1 (j := 134) rfl rfl
theorem tk_237 : (Jvm.Cond.selects "java/lang/String" ({ cls := "java/lang/String", name := "coder", desc := "()B" } : Jvm.MethodName) ({ cls := "java/lang/String", name := "coder", desc := "()B" } : Jvm.MethodName)) ∈ TB := tk_t1 (j := 135) rfl rfl
theorem tk_238 : (Jvm.Cond.code ({ cls := "java/lang/String", name := "coder", desc := "()B" } : Jvm.MethodName) prog_17_method_152_code (1 : Nat) (Option.some Jvm.ClassFile.FieldType.byte)) ∈ TB := tk_t1 (j := 136) rfl rfl
theorem tk_239 : (Jvm.Cond.fieldLink "java/lang/String" (38 : Nat) "java/lang/String" "COMPACT_STRINGS" "Z") ∈ TB := tk_t1 (j := 137) rfl rfl
theorem tk_241 : (Jvm.Cond.methodLink "LadderStreet$Tokens" (35 : Nat) ({ cls := "java/lang/String", name := "charAt", desc := "(I)C" } : Jvm.MethodName)) ∈ TB := tk_t1 (j := 139) rfl rfl
theorem tk_242 : (Jvm.Cond.instanceMethod ({ cls := "java/lang/String", name := "charAt", desc := "(I)C" } : Jvm.MethodName)) ∈ TB := tk_t1 (j := 140) rfl rfl
theorem tk_243 : (Jvm.Cond.selects "java/lang/String" ({ cls := "java/lang/String", name := "charAt", desc := "(I)C" } : Jvm.MethodName) ({ cls := "java/lang/String", name := "charAt", desc := "(I)C" } : Jvm.MethodName)) ∈ TB := tk_t1 (j := 141) rfl rfl
theorem tk_244 : (Jvm.Cond.code ({ cls := "java/lang/String", name := "charAt", desc := "(I)C" } : Jvm.MethodName) prog_17_method_56_code (2 : Nat) (Option.some Jvm.ClassFile.FieldType.char)) ∈ TB := tk_t1 (j := 142) rfl rfl
theorem tk_245 : (Jvm.Cond.methodLink "java/lang/String" (492 : Nat) ({ cls := "java/lang/String", name := "isLatin1", desc := "()Z" } : Jvm.MethodName)) ∈ TB := tk_t1 (j := 143) rfl rfl
theorem tk_246 : (Jvm.Cond.instanceMethod ({ cls := "java/lang/String", name := "isLatin1", desc := "()Z" } : Jvm.MethodName)) ∈ TB := tk_t1 (j := 144) rfl rfl
theorem tk_247 : (Jvm.Cond.selects "java/lang/String" ({ cls := "java/lang/String", name := "isLatin1", desc := "()Z" } : Jvm.MethodName) ({ cls := "java/lang/String", name := "isLatin1", desc := "()Z" } : Jvm.MethodName)) ∈ TB := tk_t1 (j := 145) rfl rfl
theorem tk_248 : (Jvm.Cond.code ({ cls := "java/lang/String", name := "isLatin1", desc := "()Z" } : Jvm.MethodName) prog_17_method_154_code (1 : Nat) (Option.some Jvm.ClassFile.FieldType.boolean)) ∈ TB := tk_t1 (j := 146) rfl rfl
theorem tk_249 : (Jvm.Cond.methodLink "java/lang/String" (495 : Nat) ({ cls := "java/lang/StringLatin1", name := "charAt", desc := "([BI)C" } : Jvm.MethodName)) ∈ TB := tk_t1 (j := 147) rfl rfl
theorem tk_250 : (Jvm.Cond.static ({ cls := "java/lang/StringLatin1", name := "charAt", desc := "([BI)C" } : Jvm.MethodName)) ∈ TB := tk_t1 (j := 148) rfl rfl
theorem tk_251 : (Jvm.Cond.code ({ cls := "java/lang/StringLatin1", name := "charAt", desc := "([BI)C" } : Jvm.MethodName) prog_18_method_2_code (2 : Nat) (Option.some Jvm.ClassFile.FieldType.char)) ∈ TB := tk_t1 (j := 149) rfl rfl
theorem tk_252 : (Jvm.Cond.methodLink "java/lang/StringLatin1" (9 : Nat) ({ cls := "java/lang/String", name := "checkIndex", desc := "(II)V" } : Jvm.MethodName)) ∈ TB := tk_t1 (j := 150) rfl rfl
theorem tk_253 : (Jvm.Cond.static ({ cls := "java/lang/String", name := "checkIndex", desc := "(II)V" } : Jvm.MethodName)) ∈ TB := tk_t1 (j := 151) rfl rfl
theorem tk_254 : (Jvm.Cond.code ({ cls := "java/lang/String", name := "checkIndex", desc := "(II)V" } : Jvm.MethodName) prog_17_method_155_code (2 : Nat) (Option.none : Option Jvm.ClassFile.FieldType)) ∈ TB := tk_t1 (j := 152) rfl rfl
theorem tk_255 : (Jvm.Cond.fieldLink "java/lang/String" (1053 : Nat) "jdk/internal/util/Preconditions" "SIOOBE_FORMATTER" "Ljava/util/function/BiFunction;") ∈ TB := tk_t1 (j := 153) rfl rfl
theorem tk_257 : (Jvm.Cond.methodLink "java/lang/String" (1059 : Nat) ({ cls := "jdk/internal/util/Preconditions", name := "checkIndex", desc := "(IILjava/util/function/BiFunction;)I" } : Jvm.MethodName)) ∈ TB := tk_t1 (j := 155) rfl rfl
theorem tk_258 : (Jvm.Cond.static ({ cls := "jdk/internal/util/Preconditions", name := "checkIndex", desc := "(IILjava/util/function/BiFunction;)I" } : Jvm.MethodName)) ∈ TB := tk_t1 (j := 156) rfl rfl
theorem tk_259 : (Jvm.Cond.code ({ cls := "jdk/internal/util/Preconditions", name := "checkIndex", desc := "(IILjava/util/function/BiFunction;)I" } : Jvm.MethodName) prog_22_method_11_code (3 : Nat) (Option.some Jvm.ClassFile.FieldType.int)) ∈ TB := tk_t1 (j := 157) rfl rfl
theorem tk_279 : (Jvm.Cond.methodLink "LadderStreet$Tokens" (39 : Nat) ({ cls := "LadderStreet$Tokens", name := "withLetter", desc := "(JI)J" } : Jvm.MethodName)) ∈ TB := tk_t1 (j := 177) rfl rfl
theorem tk_280 : (Jvm.Cond.static ({ cls := "LadderStreet$Tokens", name := "withLetter", desc := "(JI)J" } : Jvm.MethodName)) ∈ TB := tk_t1 (j := 178) rfl rfl
theorem tk_281 : (Jvm.Cond.code ({ cls := "LadderStreet$Tokens", name := "withLetter", desc := "(JI)J" } : Jvm.MethodName) prog_10_method_2_code (3 : Nat) (Option.some Jvm.ClassFile.FieldType.long)) ∈ TB := tk_t1 (j := 179) rfl rfl
theorem tk_282 : (Jvm.Cond.constantLong "LadderStreet$Tokens" (43 : Nat) (27 : Int64)) ∈ TB := tk_t1 (j := 180) rfl rfl
theorem tk_283 : (Jvm.Cond.fieldLink "LadderStreet$Tokens" (9 : Nat) "LadderStreet$Tokens" "words" "[J") ∈ TB := tk_t1 (j := 181) rfl rfl
theorem tk_284 : (Jvm.Cond.fieldLink "LadderStreet$Tokens" (13 : Nat) "LadderStreet$Tokens" "kinds" "[I") ∈ TB := tk_t1 (j := 182) rfl rfl
theorem tk_285 : (Jvm.Cond.fieldLink "LadderStreet$Tokens" (17 : Nat) "LadderStreet$Tokens" "places" "[I") ∈ TB := tk_t1 (j := 183) rfl rfl
theorem tk_286 : (Jvm.Cond.fieldLink "LadderStreet$Tokens" (20 : Nat) "LadderStreet$Tokens" "worths" "[J") ∈ TB := tk_t1 (j := 184) rfl rfl
theorem tk_287 : (Jvm.Cond.fieldLink "LadderStreet$Tokens" (23 : Nat) "LadderStreet$Tokens" "size" "I") ∈ TB := tk_t1 (j := 185) rfl rfl
theorem tk_299 : (Jvm.Cond.arrayClass Jvm.ClassFile.FieldType.long) ∈ TB := tk_t1 (j := 197) rfl rfl
theorem tk_300 : (Jvm.Cond.fieldLink "LadderStreet$Reader" (12 : Nat) "LadderStreet$Reader" "draft" "LLadderStreet$Town;") ∈ TB := tk_t1 (j := 198) rfl rfl
theorem tk_301 : (Jvm.Cond.fieldLink "LadderStreet" (120 : Nat) "LadderStreet$Reader" "draft" "LLadderStreet$Town;") ∈ TB := tk_t1 (j := 199) rfl rfl
theorem tk_302 : (Jvm.Cond.fieldLink "LadderStreet$Reader" (21 : Nat) "LadderStreet$Reader" "tokens" "LLadderStreet$Tokens;") ∈ TB := tk_t1 (j := 200) rfl rfl
theorem tk_303 : (Jvm.Cond.fieldLink "LadderStreet$Reader" (25 : Nat) "LadderStreet$Reader" "names" "[J") ∈ TB := tk_t1 (j := 201) rfl rfl
theorem tk_304 : (Jvm.Cond.fieldLink "LadderStreet$Reader" (29 : Nat) "LadderStreet$Reader" "token" "I") ∈ TB := tk_t1 (j := 202) rfl rfl
theorem tk_305 : (Jvm.Cond.fieldLink "LadderStreet$Reader" (33 : Nat) "LadderStreet$Reader" "kind" "I") ∈ TB := tk_t1 (j := 203) rfl rfl
theorem tk_306 : (Jvm.Cond.fieldLink "LadderStreet$Reader" (36 : Nat) "LadderStreet$Reader" "place" "I") ∈ TB := tk_t1 (j := 204) rfl rfl
theorem tk_307 : (Jvm.Cond.fieldLink "LadderStreet$Reader" (39 : Nat) "LadderStreet$Reader" "worth" "J") ∈ TB := tk_t1 (j := 205) rfl rfl
theorem tk_308 : (Jvm.Cond.fieldLink "LadderStreet$Reader" (43 : Nat) "LadderStreet$Reader" "fault" "I") ∈ TB := tk_t1 (j := 206) rfl rfl
theorem tk_309 : (Jvm.Cond.fieldLink "LadderStreet$Reader" (46 : Nat) "LadderStreet$Reader" "faultPlace" "I") ∈ TB := tk_t1 (j := 207) rfl rfl
theorem tk_310 : (Jvm.Cond.fieldLink "LadderStreet$Reader" (49 : Nat) "LadderStreet$Reader" "untrue" "I") ∈ TB := tk_t1 (j := 208) rfl rfl
theorem tk_311 : (Jvm.Cond.fieldLink "LadderStreet$Reader" (52 : Nat) "LadderStreet$Reader" "untruePlace" "I") ∈ TB := tk_t1 (j := 209) rfl rfl
theorem tk_335 : (Jvm.Cond.classLink "LadderStreet" (27 : Nat) "LadderStreet$Town") ∈ TB := tk_t1 (j := 233) rfl rfl
theorem tk_336 : (Jvm.Cond.methodLink "LadderStreet" (29 : Nat) ({ cls := "LadderStreet$Town", name := "<init>", desc := "()V" } : Jvm.MethodName)) ∈ TB := tk_t1 (j := 234) rfl rfl
theorem tk_337 : (Jvm.Cond.classLink "LadderStreet" (34 : Nat) "LadderStreet$Moment") ∈ TB := tk_t1 (j := 235) rfl rfl
theorem tk_338 : (Jvm.Cond.instantiable "LadderStreet$Moment" (1 : Nat)) ∈ TB := tk_t1 (j := 236) rfl rfl
theorem tk_340 : (Jvm.Cond.instanceMethod ({ cls := "LadderStreet$Moment", name := "<init>", desc := "()V" } : Jvm.MethodName)) ∈ TB := tk_t1 (j := 238) rfl rfl
theorem tk_341 : (Jvm.Cond.code ({ cls := "LadderStreet$Moment", name := "<init>", desc := "()V" } : Jvm.MethodName) prog_6_method_1_code (1 : Nat) (Option.none : Option Jvm.ClassFile.FieldType)) ∈ TB := tk_t1 (j := 239) rfl rfl
theorem tk_342 : (Jvm.Cond.methodLink "LadderStreet$Moment" (5 : Nat) ({ cls := "java/lang/Object", name := "<init>", desc := "()V" } : Jvm.MethodName)) ∈ TB := tk_t2 (j := 0) rfl rfl
theorem tk_343 : (Jvm.Cond.fieldLink "LadderStreet$Moment" (11 : Nat) "LadderStreet$Moment" "cells" "[I") ∈ TB := tk_t2 (j := 1) rfl rfl
theorem tk_347 : (Jvm.Cond.classLink "LadderStreet" (44 : Nat) "LadderStreet$Shelf") ∈ TB := tk_t2 (j := 5) rfl rfl
theorem tk_348 : (Jvm.Cond.instantiable "LadderStreet$Shelf" (5 : Nat)) ∈ TB := tk_t2 (j := 6) rfl rfl
theorem tk_350 : (Jvm.Cond.instanceMethod ({ cls := "LadderStreet$Shelf", name := "<init>", desc := "()V" } : Jvm.MethodName)) ∈ TB := tk_t2 (j := 8) rfl rfl
theorem tk_351 : (Jvm.Cond.code ({ cls := "LadderStreet$Shelf", name := "<init>", desc := "()V" } : Jvm.MethodName) prog_9_method_1_code (1 : Nat) (Option.none : Option Jvm.ClassFile.FieldType)) ∈ TB := tk_t2 (j := 9) rfl rfl
theorem tk_352 : (Jvm.Cond.methodLink "LadderStreet$Shelf" (1 : Nat) ({ cls := "java/lang/Object", name := "<init>", desc := "()V" } : Jvm.MethodName)) ∈ TB := tk_t2 (j := 10) rfl rfl
theorem tk_353 : (Jvm.Cond.fieldLink "LadderStreet$Shelf" (11 : Nat) "LadderStreet$Shelf" "done" "[I") ∈ TB := tk_t2 (j := 11) rfl rfl
theorem tk_354 : (Jvm.Cond.fieldLink "LadderStreet$Shelf" (15 : Nat) "LadderStreet$Shelf" "slots" "[I") ∈ TB := tk_t2 (j := 12) rfl rfl
theorem tk_355 : (Jvm.Cond.fieldLink "LadderStreet$Shelf" (18 : Nat) "LadderStreet$Shelf" "next" "I") ∈ TB := tk_t2 (j := 13) rfl rfl
theorem tk_356 : (Jvm.Cond.fieldLink "LadderStreet$Shelf" (22 : Nat) "LadderStreet$Shelf" "undoable" "I") ∈ TB := tk_t2 (j := 14) rfl rfl
theorem tk_357 : (Jvm.Cond.fieldLink "LadderStreet$Shelf" (25 : Nat) "LadderStreet$Shelf" "filled" "I") ∈ TB := tk_t2 (j := 15) rfl rfl
theorem tk_369 : (Jvm.Cond.classLink "LadderStreet" (51 : Nat) "LadderStreet$Course") ∈ TB := tk_t2 (j := 27) rfl rfl
theorem tk_370 : (Jvm.Cond.instantiable "LadderStreet$Course" (2 : Nat)) ∈ TB := tk_t2 (j := 28) rfl rfl
theorem tk_371 : (Jvm.Cond.methodLink "LadderStreet" (53 : Nat) ({ cls := "LadderStreet$Course", name := "<init>", desc := "(LLadderStreet$Town;)V" } : Jvm.MethodName)) ∈ TB := tk_t2 (j := 29) rfl rfl
theorem tk_372 : (Jvm.Cond.instanceMethod ({ cls := "LadderStreet$Course", name := "<init>", desc := "(LLadderStreet$Town;)V" } : Jvm.MethodName)) ∈ TB := tk_t2 (j := 30) rfl rfl
theorem tk_373 : (Jvm.Cond.code ({ cls := "LadderStreet$Course", name := "<init>", desc := "(LLadderStreet$Town;)V" } : Jvm.MethodName) prog_2_method_1_code (2 : Nat) (Option.none : Option Jvm.ClassFile.FieldType)) ∈ TB := tk_t2 (j := 31) rfl rfl
theorem tk_374 : (Jvm.Cond.methodLink "LadderStreet$Course" (3 : Nat) ({ cls := "java/lang/Object", name := "<init>", desc := "()V" } : Jvm.MethodName)) ∈ TB := tk_t2 (j := 32) rfl rfl
theorem tk_375 : (Jvm.Cond.fieldLink "LadderStreet$Course" (9 : Nat) "LadderStreet$Course" "town" "LLadderStreet$Town;") ∈ TB := tk_t2 (j := 33) rfl rfl
theorem tk_376 : (Jvm.Cond.fieldLink "LadderStreet$Course" (21 : Nat) "LadderStreet$Course" "laws" "LLadderStreet$Laws;") ∈ TB := tk_t2 (j := 34) rfl rfl
theorem tk_382 : (Jvm.Cond.classLink "LadderStreet" (60 : Nat) "LadderStreet$Ways") ∈ TB := tk_t2 (j := 40) rfl rfl
theorem tk_383 : (Jvm.Cond.instantiable "LadderStreet$Ways" (5 : Nat)) ∈ TB := tk_t2 (j := 41) rfl rfl
theorem tk_384 : (Jvm.Cond.methodLink "LadderStreet" (62 : Nat) ({ cls := "LadderStreet$Ways", name := "<init>", desc := "(LLadderStreet$Town;LLadderStreet$Course;)V" } : Jvm.MethodName)) ∈ TB := tk_t2 (j := 42) rfl rfl
theorem tk_385 : (Jvm.Cond.instanceMethod ({ cls := "LadderStreet$Ways", name := "<init>", desc := "(LLadderStreet$Town;LLadderStreet$Course;)V" } : Jvm.MethodName)) ∈ TB := tk_t2 (j := 43) rfl rfl
theorem tk_386 : (Jvm.Cond.code ({ cls := "LadderStreet$Ways", name := "<init>", desc := "(LLadderStreet$Town;LLadderStreet$Course;)V" } : Jvm.MethodName) prog_12_method_1_code (3 : Nat) (Option.none : Option Jvm.ClassFile.FieldType)) ∈ TB := tk_t2 (j := 44) rfl rfl
theorem tk_387 : (Jvm.Cond.methodLink "LadderStreet$Ways" (3 : Nat) ({ cls := "java/lang/Object", name := "<init>", desc := "()V" } : Jvm.MethodName)) ∈ TB := tk_t2 (j := 45) rfl rfl
theorem tk_388 : (Jvm.Cond.fieldLink "LadderStreet$Ways" (21 : Nat) "LadderStreet$Ways" "town" "LLadderStreet$Town;") ∈ TB := tk_t2 (j := 46) rfl rfl
theorem tk_389 : (Jvm.Cond.fieldLink "LadderStreet$Ways" (25 : Nat) "LadderStreet$Ways" "course" "LLadderStreet$Course;") ∈ TB := tk_t2 (j := 47) rfl rfl
theorem tk_390 : (Jvm.Cond.fieldLink "LadderStreet$Ways" (9 : Nat) "LadderStreet$Ways" "space" "[I") ∈ TB := tk_t2 (j := 48) rfl rfl
theorem tk_391 : (Jvm.Cond.fieldLink "LadderStreet$Ways" (15 : Nat) "LadderStreet$Ways" "places" "[I") ∈ TB := tk_t2 (j := 49) rfl rfl
theorem tk_392 : (Jvm.Cond.fieldLink "LadderStreet$Ways" (18 : Nat) "LadderStreet$Ways" "nextPlaces" "[I") ∈ TB := tk_t2 (j := 50) rfl rfl
theorem tk_404 : (Jvm.Cond.classLink "LadderStreet" (69 : Nat) "LadderStreet$Looks") ∈ TB := tk_t2 (j := 62) rfl rfl
theorem tk_405 : (Jvm.Cond.instantiable "LadderStreet$Looks" (2 : Nat)) ∈ TB := tk_t2 (j := 63) rfl rfl
theorem tk_406 : (Jvm.Cond.methodLink "LadderStreet" (71 : Nat) ({ cls := "LadderStreet$Looks", name := "<init>", desc := "(LLadderStreet$Town;LLadderStreet$Course;)V" } : Jvm.MethodName)) ∈ TB := tk_t2 (j := 64) rfl rfl
theorem tk_407 : (Jvm.Cond.instanceMethod ({ cls := "LadderStreet$Looks", name := "<init>", desc := "(LLadderStreet$Town;LLadderStreet$Course;)V" } : Jvm.MethodName)) ∈ TB := tk_t2 (j := 65) rfl rfl
theorem tk_408 : (Jvm.Cond.code ({ cls := "LadderStreet$Looks", name := "<init>", desc := "(LLadderStreet$Town;LLadderStreet$Course;)V" } : Jvm.MethodName) prog_5_method_1_code (3 : Nat) (Option.none : Option Jvm.ClassFile.FieldType)) ∈ TB := tk_t2 (j := 66) rfl rfl
theorem tk_409 : (Jvm.Cond.methodLink "LadderStreet$Looks" (3 : Nat) ({ cls := "java/lang/Object", name := "<init>", desc := "()V" } : Jvm.MethodName)) ∈ TB := tk_t2 (j := 67) rfl rfl
theorem tk_410 : (Jvm.Cond.fieldLink "LadderStreet$Looks" (9 : Nat) "LadderStreet$Looks" "town" "LLadderStreet$Town;") ∈ TB := tk_t2 (j := 68) rfl rfl
theorem tk_411 : (Jvm.Cond.fieldLink "LadderStreet$Looks" (15 : Nat) "LadderStreet$Looks" "course" "LLadderStreet$Course;") ∈ TB := tk_t2 (j := 69) rfl rfl
theorem tk_417 : (Jvm.Cond.classLink "LadderStreet" (76 : Nat) "LadderStreet$Homes") ∈ TB := tk_t2 (j := 75) rfl rfl
theorem tk_418 : (Jvm.Cond.instantiable "LadderStreet$Homes" (4 : Nat)) ∈ TB := tk_t2 (j := 76) rfl rfl
theorem tk_419 : (Jvm.Cond.methodLink "LadderStreet" (78 : Nat) ({ cls := "LadderStreet$Homes", name := "<init>", desc := "(LLadderStreet$Town;LLadderStreet$Course;)V" } : Jvm.MethodName)) ∈ TB := tk_t2 (j := 77) rfl rfl
theorem tk_420 : (Jvm.Cond.instanceMethod ({ cls := "LadderStreet$Homes", name := "<init>", desc := "(LLadderStreet$Town;LLadderStreet$Course;)V" } : Jvm.MethodName)) ∈ TB := tk_t2 (j := 78) rfl rfl
theorem tk_421 : (Jvm.Cond.code ({ cls := "LadderStreet$Homes", name := "<init>", desc := "(LLadderStreet$Town;LLadderStreet$Course;)V" } : Jvm.MethodName) prog_3_method_1_code (3 : Nat) (Option.none : Option Jvm.ClassFile.FieldType)) ∈ TB := tk_t2 (j := 79) rfl rfl
theorem tk_422 : (Jvm.Cond.methodLink "LadderStreet$Homes" (3 : Nat) ({ cls := "java/lang/Object", name := "<init>", desc := "()V" } : Jvm.MethodName)) ∈ TB := tk_t2 (j := 80) rfl rfl
theorem tk_423 : (Jvm.Cond.fieldLink "LadderStreet$Homes" (18 : Nat) "LadderStreet$Homes" "town" "LLadderStreet$Town;") ∈ TB := tk_t2 (j := 81) rfl rfl
theorem tk_424 : (Jvm.Cond.fieldLink "LadderStreet$Homes" (22 : Nat) "LadderStreet$Homes" "course" "LLadderStreet$Course;") ∈ TB := tk_t2 (j := 82) rfl rfl
theorem tk_425 : (Jvm.Cond.fieldLink "LadderStreet$Homes" (9 : Nat) "LadderStreet$Homes" "space" "[I") ∈ TB := tk_t2 (j := 83) rfl rfl
theorem tk_426 : (Jvm.Cond.fieldLink "LadderStreet$Homes" (15 : Nat) "LadderStreet$Homes" "chosen" "[I") ∈ TB := tk_t2 (j := 84) rfl rfl
theorem tk_436 : (Jvm.Cond.classLink "LadderStreet" (83 : Nat) "LadderStreet$Rumours") ∈ TB := tk_t2 (j := 94) rfl rfl
theorem tk_437 : (Jvm.Cond.instantiable "LadderStreet$Rumours" (4 : Nat)) ∈ TB := tk_t2 (j := 95) rfl rfl
theorem tk_438 : (Jvm.Cond.methodLink "LadderStreet" (85 : Nat) ({ cls := "LadderStreet$Rumours", name := "<init>", desc := "(LLadderStreet$Town;)V" } : Jvm.MethodName)) ∈ TB := tk_t2 (j := 96) rfl rfl
theorem tk_439 : (Jvm.Cond.instanceMethod ({ cls := "LadderStreet$Rumours", name := "<init>", desc := "(LLadderStreet$Town;)V" } : Jvm.MethodName)) ∈ TB := tk_t2 (j := 97) rfl rfl
theorem tk_440 : (Jvm.Cond.code ({ cls := "LadderStreet$Rumours", name := "<init>", desc := "(LLadderStreet$Town;)V" } : Jvm.MethodName) prog_8_method_1_code (2 : Nat) (Option.none : Option Jvm.ClassFile.FieldType)) ∈ TB := tk_t2 (j := 98) rfl rfl
theorem tk_441 : (Jvm.Cond.methodLink "LadderStreet$Rumours" (3 : Nat) ({ cls := "java/lang/Object", name := "<init>", desc := "()V" } : Jvm.MethodName)) ∈ TB := tk_t2 (j := 99) rfl rfl
theorem tk_442 : (Jvm.Cond.fieldLink "LadderStreet$Rumours" (23 : Nat) "LadderStreet$Rumours" "town" "LLadderStreet$Town;") ∈ TB := tk_t2 (j := 100) rfl rfl
theorem tk_443 : (Jvm.Cond.fieldLink "LadderStreet$Rumours" (11 : Nat) "LadderStreet$Rumours" "rungs" "[I") ∈ TB := tk_t2 (j := 101) rfl rfl
theorem tk_444 : (Jvm.Cond.fieldLink "LadderStreet$Rumours" (15 : Nat) "LadderStreet$Rumours" "fromAbove" "[Z") ∈ TB := tk_t2 (j := 102) rfl rfl
theorem tk_445 : (Jvm.Cond.fieldLink "LadderStreet$Rumours" (19 : Nat) "LadderStreet$Rumours" "size" "I") ∈ TB := tk_t2 (j := 103) rfl rfl
theorem tk_455 : (Jvm.Cond.arrayClass Jvm.ClassFile.FieldType.boolean) ∈ TB := tk_t2 (j := 113) rfl rfl
theorem tk_456 : (Jvm.Cond.methodLink "LadderStreet" (94 : Nat) ({ cls := "LadderStreet$Moment", name := "begin", desc := "(LLadderStreet$Town;)V" } : Jvm.MethodName)) ∈ TB := tk_t2 (j := 114) rfl rfl
theorem tk_457 : (Jvm.Cond.instanceMethod ({ cls := "LadderStreet$Moment", name := "begin", desc := "(LLadderStreet$Town;)V" } : Jvm.MethodName)) ∈ TB := tk_t2 (j := 115) rfl rfl
theorem tk_458 : (Jvm.Cond.selects "LadderStreet$Moment" ({ cls := "LadderStreet$Moment", name := "begin", desc := "(LLadderStreet$Town;)V" } : Jvm.MethodName) ({ cls := "LadderStreet$Moment", name := "begin", desc := "(LLadderStreet$Town;)V" } : Jvm.MethodName)) ∈ TB := tk_t2 (j := 116) rfl rfl
theorem tk_459 : (Jvm.Cond.code ({ cls := "LadderStreet$Moment", name := "begin", desc := "(LLadderStreet$Town;)V" } : Jvm.MethodName) prog_6_method_2_code (3 : Nat) (Option.none : Option Jvm.ClassFile.FieldType)) ∈ TB := tk_t2 (j := 117) rfl rfl
theorem tk_460 : (Jvm.Cond.methodLink "LadderStreet$Moment" (15 : Nat) ({ cls := "java/util/Arrays", name := "fill", desc := "([II)V" } : Jvm.MethodName)) ∈ TB := tk_t2 (j := 118) rfl rfl
theorem tk_461 : (Jvm.Cond.static ({ cls := "java/util/Arrays", name := "fill", desc := "([II)V" } : Jvm.MethodName)) ∈ TB := tk_t2 (j := 119) rfl rfl
theorem tk_462 : (Jvm.Cond.code ({ cls := "java/util/Arrays", name := "fill", desc := "([II)V" } : Jvm.MethodName) prog_21_method_103_code (4 : Nat) (Option.none : Option Jvm.ClassFile.FieldType)) ∈ TB := tk_t2 (j := 120) rfl rfl
theorem tk_463 : (Jvm.Cond.methodLink "LadderStreet$Moment" (21 : Nat) ({ cls := "LadderStreet$Town", name := "startOf", desc := "(I)I" } : Jvm.MethodName)) ∈ TB := tk_t2 (j := 121) rfl rfl
theorem tk_464 : (Jvm.Cond.instanceMethod ({ cls := "LadderStreet$Town", name := "startOf", desc := "(I)I" } : Jvm.MethodName)) ∈ TB := tk_t2 (j := 122) rfl rfl
theorem tk_465 : (Jvm.Cond.selects "LadderStreet$Town" ({ cls := "LadderStreet$Town", name := "startOf", desc := "(I)I" } : Jvm.MethodName) ({ cls := "LadderStreet$Town", name := "startOf", desc := "(I)I" } : Jvm.MethodName)) ∈ TB := tk_t2 (j := 123) rfl rfl
theorem tk_466 : (Jvm.Cond.code ({ cls := "LadderStreet$Town", name := "startOf", desc := "(I)I" } : Jvm.MethodName) prog_11_method_8_code (2 : Nat) (Option.some Jvm.ClassFile.FieldType.int)) ∈ TB := tk_t2 (j := 124) rfl rfl
theorem tk_468 : (Jvm.Cond.static ({ cls := "LadderStreet", name := "at", desc := "([II)I" } : Jvm.MethodName)) ∈ TB := tk_t2 (j := 126) rfl rfl
theorem tk_469 : (Jvm.Cond.code ({ cls := "LadderStreet", name := "at", desc := "([II)I" } : Jvm.MethodName) prog_1_method_49_code (2 : Nat) (Option.some Jvm.ClassFile.FieldType.int)) ∈ TB := tk_t2 (j := 127) rfl rfl
theorem tk_470 : (Jvm.Cond.methodLink "LadderStreet$Moment" (27 : Nat) ({ cls := "LadderStreet$Moment", name := "put", desc := "(III)V" } : Jvm.MethodName)) ∈ TB := tk_t2 (j := 128) rfl rfl
theorem tk_471 : (Jvm.Cond.instanceMethod ({ cls := "LadderStreet$Moment", name := "put", desc := "(III)V" } : Jvm.MethodName)) ∈ TB := tk_t2 (j := 129) rfl rfl
theorem tk_472 : (Jvm.Cond.selects "LadderStreet$Moment" ({ cls := "LadderStreet$Moment", name := "put", desc := "(III)V" } : Jvm.MethodName) ({ cls := "LadderStreet$Moment", name := "put", desc := "(III)V" } : Jvm.MethodName)) ∈ TB := tk_t2 (j := 130) rfl rfl
theorem tk_473 : (Jvm.Cond.code ({ cls := "LadderStreet$Moment", name := "put", desc := "(III)V" } : Jvm.MethodName) prog_6_method_7_code (5 : Nat) (Option.none : Option Jvm.ClassFile.FieldType)) ∈ TB := tk_t2 (j := 131) rfl rfl
theorem tk_474 : (Jvm.Cond.fieldLink "LadderStreet" (9 : Nat) "LadderStreet" "tape" "[B") ∈ TB := tk_t2 (j := 132) rfl rfl
theorem tk_475 : (Jvm.Cond.fieldLink "LadderStreet" (13 : Nat) "LadderStreet" "taped" "I") ∈ TB := tk_t2 (j := 133) rfl rfl
theorem tk_476 : (Jvm.Cond.fieldLink "LadderStreet" (17 : Nat) "LadderStreet" "faultPlace" "I") ∈ TB := tk_t2 (j := 134) rfl rfl
theorem tk_477 : (Jvm.Cond.fieldLink "LadderStreet" (23 : Nat) "LadderStreet" "reader" "LLadderStreet$Reader;") ∈ TB := tk_t2 (j := 135) rfl rfl
theorem tk_478 : (Jvm.Cond.fieldLink "LadderStreet" (30 : Nat) "LadderStreet" "town" "LLadderStreet$Town;") ∈ TB := tk_t2 (j := 136) rfl rfl
theorem tk_479 : (Jvm.Cond.fieldLink "LadderStreet" (37 : Nat) "LadderStreet" "now" "LLadderStreet$Moment;") ∈ TB := tk_t2 (j := 137) rfl rfl
theorem tk_480 : (Jvm.Cond.fieldLink "LadderStreet" (41 : Nat) "LadderStreet" "later" "LLadderStreet$Moment;") ∈ TB := tk_t2 (j := 138) rfl rfl
theorem tk_481 : (Jvm.Cond.fieldLink "LadderStreet" (47 : Nat) "LadderStreet" "shelf" "LLadderStreet$Shelf;") ∈ TB := tk_t2 (j := 139) rfl rfl
theorem tk_482 : (Jvm.Cond.fieldLink "LadderStreet" (56 : Nat) "LadderStreet" "course" "LLadderStreet$Course;") ∈ TB := tk_t2 (j := 140) rfl rfl
theorem tk_483 : (Jvm.Cond.fieldLink "LadderStreet" (65 : Nat) "LadderStreet" "ways" "LLadderStreet$Ways;") ∈ TB := tk_t2 (j := 141) rfl rfl
theorem tk_484 : (Jvm.Cond.fieldLink "LadderStreet" (72 : Nat) "LadderStreet" "looks" "LLadderStreet$Looks;") ∈ TB := tk_t2 (j := 142) rfl rfl
theorem tk_485 : (Jvm.Cond.fieldLink "LadderStreet" (79 : Nat) "LadderStreet" "living" "LLadderStreet$Homes;") ∈ TB := tk_t2 (j := 143) rfl rfl
theorem tk_486 : (Jvm.Cond.fieldLink "LadderStreet" (86 : Nat) "LadderStreet" "rumours" "LLadderStreet$Rumours;") ∈ TB := tk_t2 (j := 144) rfl rfl
theorem tk_487 : (Jvm.Cond.fieldLink "LadderStreet" (90 : Nat) "LadderStreet" "taken" "[I") ∈ TB := tk_t2 (j := 145) rfl rfl
theorem tk_517 : (Jvm.Cond.methodLink "LadderStreetLaw" (13 : Nat) ({ cls := "LadderStreet", name := "feed", desc := "(IIIII)I" } : Jvm.MethodName)) ∈ TB := tk_t2 (j := 175) rfl rfl
theorem tk_518 : (Jvm.Cond.instanceMethod ({ cls := "LadderStreet", name := "feed", desc := "(IIIII)I" } : Jvm.MethodName)) ∈ TB := tk_t2 (j := 176) rfl rfl
theorem tk_519 : (Jvm.Cond.selects "LadderStreet" ({ cls := "LadderStreet", name := "feed", desc := "(IIIII)I" } : Jvm.MethodName) ({ cls := "LadderStreet", name := "feed", desc := "(IIIII)I" } : Jvm.MethodName)) ∈ TB := tk_t2 (j := 177) rfl rfl
theorem tk_520 : (Jvm.Cond.code ({ cls := "LadderStreet", name := "feed", desc := "(IIIII)I" } : Jvm.MethodName) prog_1_method_2_code (6 : Nat) (Option.some Jvm.ClassFile.FieldType.int)) ∈ TB := tk_t2 (j := 178) rfl rfl
theorem tk_521 : (Jvm.Cond.methodLink "LadderStreet" (97 : Nat) ({ cls := "LadderStreet", name := "putFour", desc := "(I)V" } : Jvm.MethodName)) ∈ TB := tk_t2 (j := 179) rfl rfl
theorem tk_523 : (Jvm.Cond.instanceMethod ({ cls := "LadderStreet", name := "putFour", desc := "(I)V" } : Jvm.MethodName)) ∈ TB := tk_t2 (j := 181) rfl rfl
theorem tk_524 : (Jvm.Cond.code ({ cls := "LadderStreet", name := "putFour", desc := "(I)V" } : Jvm.MethodName) prog_1_method_3_code (3 : Nat) (Option.none : Option Jvm.ClassFile.FieldType)) ∈ TB := tk_t2 (j := 182) rfl rfl
theorem tk_525 : (Jvm.Cond.methodLink "LadderStreetLaw" (18 : Nat) ({ cls := "LadderStreet", name := "back", desc := "(I)I" } : Jvm.MethodName)) ∈ TB := tk_t2 (j := 183) rfl rfl
theorem tk_526 : (Jvm.Cond.instanceMethod ({ cls := "LadderStreet", name := "back", desc := "(I)I" } : Jvm.MethodName)) ∈ TB := tk_t2 (j := 184) rfl rfl
theorem tk_527 : (Jvm.Cond.selects "LadderStreet" ({ cls := "LadderStreet", name := "back", desc := "(I)I" } : Jvm.MethodName) ({ cls := "LadderStreet", name := "back", desc := "(I)I" } : Jvm.MethodName)) ∈ TB := tk_t2 (j := 185) rfl rfl
theorem tk_528 : (Jvm.Cond.code ({ cls := "LadderStreet", name := "back", desc := "(I)I" } : Jvm.MethodName) prog_1_method_4_code (2 : Nat) (Option.some Jvm.ClassFile.FieldType.int)) ∈ TB := tk_t2 (j := 186) rfl rfl
theorem tk_529 : (Jvm.Cond.methodLink "LadderStreetLaw" (23 : Nat) ({ cls := "LadderStreet", name := "read", desc := "()I" } : Jvm.MethodName)) ∈ TB := tk_t2 (j := 187) rfl rfl
theorem tk_530 : (Jvm.Cond.instanceMethod ({ cls := "LadderStreet", name := "read", desc := "()I" } : Jvm.MethodName)) ∈ TB := tk_t2 (j := 188) rfl rfl
theorem tk_531 : (Jvm.Cond.selects "LadderStreet" ({ cls := "LadderStreet", name := "read", desc := "()I" } : Jvm.MethodName) ({ cls := "LadderStreet", name := "read", desc := "()I" } : Jvm.MethodName)) ∈ TB := tk_t2 (j := 189) rfl rfl
theorem tk_532 : (Jvm.Cond.code ({ cls := "LadderStreet", name := "read", desc := "()I" } : Jvm.MethodName) prog_1_method_5_code (2 : Nat) (Option.some Jvm.ClassFile.FieldType.int)) ∈ TB := tk_t2 (j := 190) rfl rfl
theorem tk_533 : (Jvm.Cond.methodLink "LadderStreet" (101 : Nat) ({ cls := "LadderStreet$Reader", name := "begin", desc := "([BI)V" } : Jvm.MethodName)) ∈ TB := tk_t2 (j := 191) rfl rfl
theorem tk_534 : (Jvm.Cond.instanceMethod ({ cls := "LadderStreet$Reader", name := "begin", desc := "([BI)V" } : Jvm.MethodName)) ∈ TB := tk_t2 (j := 192) rfl rfl
theorem tk_535 : (Jvm.Cond.selects "LadderStreet$Reader" ({ cls := "LadderStreet$Reader", name := "begin", desc := "([BI)V" } : Jvm.MethodName) ({ cls := "LadderStreet$Reader", name := "begin", desc := "([BI)V" } : Jvm.MethodName)) ∈ TB := tk_t2 (j := 193) rfl rfl
theorem tk_536 : (Jvm.Cond.code ({ cls := "LadderStreet$Reader", name := "begin", desc := "([BI)V" } : Jvm.MethodName) prog_7_method_2_code (3 : Nat) (Option.none : Option Jvm.ClassFile.FieldType)) ∈ TB := tk_t2 (j := 194) rfl rfl
theorem tk_537 : (Jvm.Cond.methodLink "LadderStreet$Reader" (55 : Nat) ({ cls := "LadderStreet$Tokens", name := "split", desc := "([BI)V" } : Jvm.MethodName)) ∈ TB := tk_t2 (j := 195) rfl rfl
theorem tk_538 : (Jvm.Cond.instanceMethod ({ cls := "LadderStreet$Tokens", name := "split", desc := "([BI)V" } : Jvm.MethodName)) ∈ TB := tk_t2 (j := 196) rfl rfl
theorem tk_539 : (Jvm.Cond.selects "LadderStreet$Tokens" ({ cls := "LadderStreet$Tokens", name := "split", desc := "([BI)V" } : Jvm.MethodName) ({ cls := "LadderStreet$Tokens", name := "split", desc := "([BI)V" } : Jvm.MethodName)) ∈ TB := tk_t2 (j := 197) rfl rfl
theorem tk_540 : (Jvm.Cond.code ({ cls := "LadderStreet$Tokens", name := "split", desc := "([BI)V" } : Jvm.MethodName) prog_10_method_6_code (7 : Nat) (Option.none : Option Jvm.ClassFile.FieldType)) ∈ TB := tk_t2 (j := 198) rfl rfl
theorem tk_541 : (Jvm.Cond.methodLink "LadderStreet$Tokens" (45 : Nat) ({ cls := "java/lang/Math", name := "min", desc := "(II)I" } : Jvm.MethodName)) ∈ TB := tk_t2 (j := 199) rfl rfl
theorem tk_542 : (Jvm.Cond.static ({ cls := "java/lang/Math", name := "min", desc := "(II)I" } : Jvm.MethodName)) ∈ TB := tk_t2 (j := 200) rfl rfl
theorem tk_543 : (Jvm.Cond.code ({ cls := "java/lang/Math", name := "min", desc := "(II)I" } : Jvm.MethodName) prog_16_method_69_code (2 : Nat) (Option.some Jvm.ClassFile.FieldType.int)) ∈ TB := tk_t2 (j := 201) rfl rfl
theorem tk_544 : (Jvm.Cond.methodLink "LadderStreet$Tokens" (51 : Nat) ({ cls := "LadderStreet$Tokens", name := "behindBlanks", desc := "([BII)I" } : Jvm.MethodName)) ∈ TB := tk_t2 (j := 202) rfl rfl
theorem tk_545 : (Jvm.Cond.static ({ cls := "LadderStreet$Tokens", name := "behindBlanks", desc := "([BII)I" } : Jvm.MethodName)) ∈ TB := tk_t2 (j := 203) rfl rfl
theorem tk_546 : (Jvm.Cond.code ({ cls := "LadderStreet$Tokens", name := "behindBlanks", desc := "([BII)I" } : Jvm.MethodName) prog_10_method_8_code (4 : Nat) (Option.some Jvm.ClassFile.FieldType.int)) ∈ TB := tk_t2 (j := 204) rfl rfl
theorem tk_547 : (Jvm.Cond.methodLink "LadderStreet$Tokens" (75 : Nat) ({ cls := "LadderStreet$Tokens", name := "isBlank", desc := "(I)Z" } : Jvm.MethodName)) ∈ TB := tk_t2 (j := 205) rfl rfl
theorem tk_548 : (Jvm.Cond.static ({ cls := "LadderStreet$Tokens", name := "isBlank", desc := "(I)Z" } : Jvm.MethodName)) ∈ TB := tk_t2 (j := 206) rfl rfl
theorem tk_549 : (Jvm.Cond.code ({ cls := "LadderStreet$Tokens", name := "isBlank", desc := "(I)Z" } : Jvm.MethodName) prog_10_method_12_code (1 : Nat) (Option.some Jvm.ClassFile.FieldType.boolean)) ∈ TB := tk_t2 (j := 207) rfl rfl
theorem tk_550 : (Jvm.Cond.methodLink "LadderStreet$Tokens" (55 : Nat) ({ cls := "LadderStreet$Tokens", name := "isLetter", desc := "(I)Z" } : Jvm.MethodName)) ∈ TB := tk_t2 (j := 208) rfl rfl
theorem tk_551 : (Jvm.Cond.static ({ cls := "LadderStreet$Tokens", name := "isLetter", desc := "(I)Z" } : Jvm.MethodName)) ∈ TB := tk_t2 (j := 209) rfl rfl
theorem tk_552 : (Jvm.Cond.code ({ cls := "LadderStreet$Tokens", name := "isLetter", desc := "(I)Z" } : Jvm.MethodName) prog_10_method_13_code (1 : Nat) (Option.some Jvm.ClassFile.FieldType.boolean)) ∈ TB := tk_t2 (j := 210) rfl rfl
theorem tk_553 : (Jvm.Cond.methodLink "LadderStreet$Tokens" (59 : Nat) ({ cls := "LadderStreet$Tokens", name := "splitName", desc := "([BII)I" } : Jvm.MethodName)) ∈ TB := tk_t2 (j := 211) rfl rfl
theorem tk_555 : (Jvm.Cond.instanceMethod ({ cls := "LadderStreet$Tokens", name := "splitName", desc := "([BII)I" } : Jvm.MethodName)) ∈ TB := tk_t2 (j := 213) rfl rfl
theorem tk_556 : (Jvm.Cond.code ({ cls := "LadderStreet$Tokens", name := "splitName", desc := "([BII)I" } : Jvm.MethodName) prog_10_method_9_code (7 : Nat) (Option.some Jvm.ClassFile.FieldType.int)) ∈ TB := tk_t2 (j := 214) rfl rfl
theorem tk_557 : (Jvm.Cond.methodLink "LadderStreet$Tokens" (78 : Nat) ({ cls := "LadderStreet$Tokens", name := "kindOfName", desc := "(J)I" } : Jvm.MethodName)) ∈ TB := tk_t2 (j := 215) rfl rfl
theorem tk_559 : (Jvm.Cond.instanceMethod ({ cls := "LadderStreet$Tokens", name := "kindOfName", desc := "(J)I" } : Jvm.MethodName)) ∈ TB := tk_t2 (j := 217) rfl rfl
theorem tk_560 : (Jvm.Cond.code ({ cls := "LadderStreet$Tokens", name := "kindOfName", desc := "(J)I" } : Jvm.MethodName) prog_10_method_10_code (4 : Nat) (Option.some Jvm.ClassFile.FieldType.int)) ∈ TB := tk_t2 (j := 218) rfl rfl
theorem tk_561 : (Jvm.Cond.methodLink "LadderStreet$Tokens" (71 : Nat) ({ cls := "LadderStreet$Tokens", name := "add", desc := "(IIJ)V" } : Jvm.MethodName)) ∈ TB := tk_t2 (j := 219) rfl rfl
theorem tk_563 : (Jvm.Cond.instanceMethod ({ cls := "LadderStreet$Tokens", name := "add", desc := "(IIJ)V" } : Jvm.MethodName)) ∈ TB := tk_t2 (j := 221) rfl rfl
theorem tk_564 : (Jvm.Cond.code ({ cls := "LadderStreet$Tokens", name := "add", desc := "(IIJ)V" } : Jvm.MethodName) prog_10_method_7_code (5 : Nat) (Option.none : Option Jvm.ClassFile.FieldType)) ∈ TB := tk_t2 (j := 222) rfl rfl
theorem tk_565 : (Jvm.Cond.methodLink "LadderStreet$Tokens" (62 : Nat) ({ cls := "LadderStreet$Tokens", name := "isDigit", desc := "(I)Z" } : Jvm.MethodName)) ∈ TB := tk_t2 (j := 223) rfl rfl
theorem tk_566 : (Jvm.Cond.static ({ cls := "LadderStreet$Tokens", name := "isDigit", desc := "(I)Z" } : Jvm.MethodName)) ∈ TB := tk_t2 (j := 224) rfl rfl
theorem tk_567 : (Jvm.Cond.code ({ cls := "LadderStreet$Tokens", name := "isDigit", desc := "(I)Z" } : Jvm.MethodName) prog_10_method_14_code (1 : Nat) (Option.some Jvm.ClassFile.FieldType.boolean)) ∈ TB := tk_t2 (j := 225) rfl rfl
theorem tk_568 : (Jvm.Cond.methodLink "LadderStreet$Tokens" (65 : Nat) ({ cls := "LadderStreet$Tokens", name := "splitInt", desc := "([BII)I" } : Jvm.MethodName)) ∈ TB := tk_t2 (j := 226) rfl rfl
theorem tk_570 : (Jvm.Cond.instanceMethod ({ cls := "LadderStreet$Tokens", name := "splitInt", desc := "([BII)I" } : Jvm.MethodName)) ∈ TB := tk_t2 (j := 228) rfl rfl
theorem tk_571 : (Jvm.Cond.code ({ cls := "LadderStreet$Tokens", name := "splitInt", desc := "([BII)I" } : Jvm.MethodName) prog_10_method_11_code (6 : Nat) (Option.some Jvm.ClassFile.FieldType.int)) ∈ TB := tk_t2 (j := 229) rfl rfl
theorem tk_572 : (Jvm.Cond.methodLink "LadderStreet$Tokens" (68 : Nat) ({ cls := "LadderStreet$Tokens", name := "isSign", desc := "(I)Z" } : Jvm.MethodName)) ∈ TB := tk_t2 (j := 230) rfl rfl
theorem tk_573 : (Jvm.Cond.static ({ cls := "LadderStreet$Tokens", name := "isSign", desc := "(I)Z" } : Jvm.MethodName)) ∈ TB := tk_t2 (j := 231) rfl rfl
theorem tk_574 : (Jvm.Cond.code ({ cls := "LadderStreet$Tokens", name := "isSign", desc := "(I)Z" } : Jvm.MethodName) prog_10_method_15_code (2 : Nat) (Option.some Jvm.ClassFile.FieldType.boolean)) ∈ TB := tk_t2 (j := 232) rfl rfl
theorem tk_576 : (Jvm.Cond.methodLink "LadderStreet$Reader" (59 : Nat) ({ cls := "LadderStreet$Town", name := "clear", desc := "()V" } : Jvm.MethodName)) ∈ TB := tk_t2 (j := 234) rfl rfl
theorem tk_577 : (Jvm.Cond.instanceMethod ({ cls := "LadderStreet$Town", name := "clear", desc := "()V" } : Jvm.MethodName)) ∈ TB := tk_t2 (j := 235) rfl rfl
theorem tk_578 : (Jvm.Cond.selects "LadderStreet$Town" ({ cls := "LadderStreet$Town", name := "clear", desc := "()V" } : Jvm.MethodName) ({ cls := "LadderStreet$Town", name := "clear", desc := "()V" } : Jvm.MethodName)) ∈ TB := tk_t2 (j := 236) rfl rfl
theorem tk_579 : (Jvm.Cond.code ({ cls := "LadderStreet$Town", name := "clear", desc := "()V" } : Jvm.MethodName) prog_11_method_2_code (1 : Nat) (Option.none : Option Jvm.ClassFile.FieldType)) ∈ TB := tk_t2 (j := 237) rfl rfl
theorem tk_580 : (Jvm.Cond.methodLink "LadderStreet$Reader" (62 : Nat) ({ cls := "LadderStreet$Tokens", name := "kindOf", desc := "(I)I" } : Jvm.MethodName)) ∈ TB := tk_t2 (j := 238) rfl rfl
theorem tk_581 : (Jvm.Cond.instanceMethod ({ cls := "LadderStreet$Tokens", name := "kindOf", desc := "(I)I" } : Jvm.MethodName)) ∈ TB := tk_t2 (j := 239) rfl rfl
theorem tk_582 : (Jvm.Cond.selects "LadderStreet$Tokens" ({ cls := "LadderStreet$Tokens", name := "kindOf", desc := "(I)I" } : Jvm.MethodName) ({ cls := "LadderStreet$Tokens", name := "kindOf", desc := "(I)I" } : Jvm.MethodName)) ∈ TB := tk_t3 (j := 0) rfl rfl
theorem tk_583 : (Jvm.Cond.code ({ cls := "LadderStreet$Tokens", name := "kindOf", desc := "(I)I" } : Jvm.MethodName) prog_10_method_3_code (2 : Nat) (Option.some Jvm.ClassFile.FieldType.int)) ∈ TB := tk_t3 (j := 1) rfl rfl
theorem tk_584 : (Jvm.Cond.methodLink "LadderStreet$Reader" (66 : Nat) ({ cls := "LadderStreet$Tokens", name := "placeOf", desc := "(I)I" } : Jvm.MethodName)) ∈ TB := tk_t3 (j := 2) rfl rfl
theorem tk_585 : (Jvm.Cond.instanceMethod ({ cls := "LadderStreet$Tokens", name := "placeOf", desc := "(I)I" } : Jvm.MethodName)) ∈ TB := tk_t3 (j := 3) rfl rfl
theorem tk_586 : (Jvm.Cond.selects "LadderStreet$Tokens" ({ cls := "LadderStreet$Tokens", name := "placeOf", desc := "(I)I" } : Jvm.MethodName) ({ cls := "LadderStreet$Tokens", name := "placeOf", desc := "(I)I" } : Jvm.MethodName)) ∈ TB := tk_t3 (j := 4) rfl rfl
theorem tk_587 : (Jvm.Cond.code ({ cls := "LadderStreet$Tokens", name := "placeOf", desc := "(I)I" } : Jvm.MethodName) prog_10_method_4_code (2 : Nat) (Option.some Jvm.ClassFile.FieldType.int)) ∈ TB := tk_t3 (j := 5) rfl rfl
theorem tk_588 : (Jvm.Cond.methodLink "LadderStreet$Reader" (69 : Nat) ({ cls := "LadderStreet$Tokens", name := "worthOf", desc := "(I)J" } : Jvm.MethodName)) ∈ TB := tk_t3 (j := 6) rfl rfl
theorem tk_589 : (Jvm.Cond.instanceMethod ({ cls := "LadderStreet$Tokens", name := "worthOf", desc := "(I)J" } : Jvm.MethodName)) ∈ TB := tk_t3 (j := 7) rfl rfl
theorem tk_590 : (Jvm.Cond.selects "LadderStreet$Tokens" ({ cls := "LadderStreet$Tokens", name := "worthOf", desc := "(I)J" } : Jvm.MethodName) ({ cls := "LadderStreet$Tokens", name := "worthOf", desc := "(I)J" } : Jvm.MethodName)) ∈ TB := tk_t3 (j := 8) rfl rfl
theorem tk_591 : (Jvm.Cond.code ({ cls := "LadderStreet$Tokens", name := "worthOf", desc := "(I)J" } : Jvm.MethodName) prog_10_method_5_code (2 : Nat) (Option.some Jvm.ClassFile.FieldType.long)) ∈ TB := tk_t3 (j := 9) rfl rfl
theorem tk_592 : (Jvm.Cond.methodLink "LadderStreet" (106 : Nat) ({ cls := "LadderStreet$Reader", name := "goesOn", desc := "()Z" } : Jvm.MethodName)) ∈ TB := tk_t3 (j := 10) rfl rfl
theorem tk_593 : (Jvm.Cond.instanceMethod ({ cls := "LadderStreet$Reader", name := "goesOn", desc := "()Z" } : Jvm.MethodName)) ∈ TB := tk_t3 (j := 11) rfl rfl
theorem tk_594 : (Jvm.Cond.selects "LadderStreet$Reader" ({ cls := "LadderStreet$Reader", name := "goesOn", desc := "()Z" } : Jvm.MethodName) ({ cls := "LadderStreet$Reader", name := "goesOn", desc := "()Z" } : Jvm.MethodName)) ∈ TB := tk_t3 (j := 12) rfl rfl
theorem tk_595 : (Jvm.Cond.code ({ cls := "LadderStreet$Reader", name := "goesOn", desc := "()Z" } : Jvm.MethodName) prog_7_method_3_code (1 : Nat) (Option.some Jvm.ClassFile.FieldType.boolean)) ∈ TB := tk_t3 (j := 13) rfl rfl
theorem tk_596 : (Jvm.Cond.methodLink "LadderStreet" (110 : Nat) ({ cls := "LadderStreet$Reader", name := "readTell", desc := "()V" } : Jvm.MethodName)) ∈ TB := tk_t3 (j := 14) rfl rfl
theorem tk_597 : (Jvm.Cond.instanceMethod ({ cls := "LadderStreet$Reader", name := "readTell", desc := "()V" } : Jvm.MethodName)) ∈ TB := tk_t3 (j := 15) rfl rfl
theorem tk_598 : (Jvm.Cond.selects "LadderStreet$Reader" ({ cls := "LadderStreet$Reader", name := "readTell", desc := "()V" } : Jvm.MethodName) ({ cls := "LadderStreet$Reader", name := "readTell", desc := "()V" } : Jvm.MethodName)) ∈ TB := tk_t3 (j := 16) rfl rfl
theorem tk_599 : (Jvm.Cond.code ({ cls := "LadderStreet$Reader", name := "readTell", desc := "()V" } : Jvm.MethodName) prog_7_method_9_code (1 : Nat) (Option.none : Option Jvm.ClassFile.FieldType)) ∈ TB := tk_t3 (j := 17) rfl rfl
theorem tk_600 : (Jvm.Cond.methodLink "LadderStreet$Reader" (85 : Nat) ({ cls := "LadderStreet$Reader", name := "take", desc := "(I)Z" } : Jvm.MethodName)) ∈ TB := tk_t3 (j := 18) rfl rfl
theorem tk_602 : (Jvm.Cond.instanceMethod ({ cls := "LadderStreet$Reader", name := "take", desc := "(I)Z" } : Jvm.MethodName)) ∈ TB := tk_t3 (j := 20) rfl rfl
theorem tk_603 : (Jvm.Cond.code ({ cls := "LadderStreet$Reader", name := "take", desc := "(I)Z" } : Jvm.MethodName) prog_7_method_8_code (2 : Nat) (Option.some Jvm.ClassFile.FieldType.boolean)) ∈ TB := tk_t3 (j := 21) rfl rfl
theorem tk_604 : (Jvm.Cond.methodLink "LadderStreet$Reader" (81 : Nat) ({ cls := "LadderStreet$Reader", name := "fail", desc := "(I)V" } : Jvm.MethodName)) ∈ TB := tk_t3 (j := 22) rfl rfl
theorem tk_606 : (Jvm.Cond.instanceMethod ({ cls := "LadderStreet$Reader", name := "fail", desc := "(I)V" } : Jvm.MethodName)) ∈ TB := tk_t3 (j := 24) rfl rfl
theorem tk_607 : (Jvm.Cond.code ({ cls := "LadderStreet$Reader", name := "fail", desc := "(I)V" } : Jvm.MethodName) prog_7_method_6_code (2 : Nat) (Option.none : Option Jvm.ClassFile.FieldType)) ∈ TB := tk_t3 (j := 25) rfl rfl
theorem tk_608 : (Jvm.Cond.methodLink "LadderStreet$Reader" (89 : Nat) ({ cls := "LadderStreet$Reader", name := "readInt", desc := "(II)I" } : Jvm.MethodName)) ∈ TB := tk_t3 (j := 26) rfl rfl
theorem tk_610 : (Jvm.Cond.instanceMethod ({ cls := "LadderStreet$Reader", name := "readInt", desc := "(II)I" } : Jvm.MethodName)) ∈ TB := tk_t3 (j := 28) rfl rfl
theorem tk_611 : (Jvm.Cond.code ({ cls := "LadderStreet$Reader", name := "readInt", desc := "(II)I" } : Jvm.MethodName) prog_7_method_10_code (5 : Nat) (Option.some Jvm.ClassFile.FieldType.int)) ∈ TB := tk_t3 (j := 29) rfl rfl
theorem tk_612 : (Jvm.Cond.methodLink "LadderStreet$Reader" (77 : Nat) ({ cls := "LadderStreet$Reader", name := "note", desc := "(II)V" } : Jvm.MethodName)) ∈ TB := tk_t3 (j := 30) rfl rfl
theorem tk_614 : (Jvm.Cond.instanceMethod ({ cls := "LadderStreet$Reader", name := "note", desc := "(II)V" } : Jvm.MethodName)) ∈ TB := tk_t3 (j := 32) rfl rfl
theorem tk_615 : (Jvm.Cond.code ({ cls := "LadderStreet$Reader", name := "note", desc := "(II)V" } : Jvm.MethodName) prog_7_method_7_code (3 : Nat) (Option.none : Option Jvm.ClassFile.FieldType)) ∈ TB := tk_t3 (j := 33) rfl rfl
theorem tk_616 : (Jvm.Cond.methodLink "LadderStreet$Reader" (96 : Nat) ({ cls := "LadderStreet$Reader", name := "readPerson", desc := "()V" } : Jvm.MethodName)) ∈ TB := tk_t3 (j := 34) rfl rfl
theorem tk_618 : (Jvm.Cond.instanceMethod ({ cls := "LadderStreet$Reader", name := "readPerson", desc := "()V" } : Jvm.MethodName)) ∈ TB := tk_t3 (j := 36) rfl rfl
theorem tk_619 : (Jvm.Cond.code ({ cls := "LadderStreet$Reader", name := "readPerson", desc := "()V" } : Jvm.MethodName) prog_7_method_11_code (5 : Nat) (Option.none : Option Jvm.ClassFile.FieldType)) ∈ TB := tk_t3 (j := 37) rfl rfl
theorem tk_620 : (Jvm.Cond.methodLink "LadderStreet$Reader" (108 : Nat) ({ cls := "LadderStreet$Reader", name := "readName", desc := "()V" } : Jvm.MethodName)) ∈ TB := tk_t3 (j := 38) rfl rfl
theorem tk_622 : (Jvm.Cond.instanceMethod ({ cls := "LadderStreet$Reader", name := "readName", desc := "()V" } : Jvm.MethodName)) ∈ TB := tk_t3 (j := 40) rfl rfl
theorem tk_623 : (Jvm.Cond.code ({ cls := "LadderStreet$Reader", name := "readName", desc := "()V" } : Jvm.MethodName) prog_7_method_12_code (6 : Nat) (Option.none : Option Jvm.ClassFile.FieldType)) ∈ TB := tk_t3 (j := 41) rfl rfl
theorem tk_624 : (Jvm.Cond.methodLink "LadderStreet$Reader" (111 : Nat) ({ cls := "LadderStreet$Town", name := "addPerson", desc := "(IIII)V" } : Jvm.MethodName)) ∈ TB := tk_t3 (j := 42) rfl rfl
theorem tk_625 : (Jvm.Cond.instanceMethod ({ cls := "LadderStreet$Town", name := "addPerson", desc := "(IIII)V" } : Jvm.MethodName)) ∈ TB := tk_t3 (j := 43) rfl rfl
theorem tk_626 : (Jvm.Cond.selects "LadderStreet$Town" ({ cls := "LadderStreet$Town", name := "addPerson", desc := "(IIII)V" } : Jvm.MethodName) ({ cls := "LadderStreet$Town", name := "addPerson", desc := "(IIII)V" } : Jvm.MethodName)) ∈ TB := tk_t3 (j := 44) rfl rfl
theorem tk_627 : (Jvm.Cond.code ({ cls := "LadderStreet$Town", name := "addPerson", desc := "(IIII)V" } : Jvm.MethodName) prog_11_method_3_code (5 : Nat) (Option.none : Option Jvm.ClassFile.FieldType)) ∈ TB := tk_t3 (j := 45) rfl rfl
theorem tk_628 : (Jvm.Cond.methodLink "LadderStreet$Reader" (99 : Nat) ({ cls := "LadderStreet$Reader", name := "readLaw", desc := "(I)V" } : Jvm.MethodName)) ∈ TB := tk_t3 (j := 46) rfl rfl
theorem tk_630 : (Jvm.Cond.instanceMethod ({ cls := "LadderStreet$Reader", name := "readLaw", desc := "(I)V" } : Jvm.MethodName)) ∈ TB := tk_t3 (j := 48) rfl rfl
theorem tk_631 : (Jvm.Cond.code ({ cls := "LadderStreet$Reader", name := "readLaw", desc := "(I)V" } : Jvm.MethodName) prog_7_method_13_code (4 : Nat) (Option.none : Option Jvm.ClassFile.FieldType)) ∈ TB := tk_t3 (j := 49) rfl rfl
theorem tk_632 : (Jvm.Cond.methodLink "LadderStreet$Reader" (119 : Nat) ({ cls := "LadderStreet$Laws", name := "begin", desc := "(I)V" } : Jvm.MethodName)) ∈ TB := tk_t3 (j := 50) rfl rfl
theorem tk_633 : (Jvm.Cond.methodLink "LadderStreet$Reader" (124 : Nat) ({ cls := "LadderStreet$Reader", name := "readSum", desc := "(I)V" } : Jvm.MethodName)) ∈ TB := tk_t3 (j := 51) rfl rfl
theorem tk_635 : (Jvm.Cond.instanceMethod ({ cls := "LadderStreet$Reader", name := "readSum", desc := "(I)V" } : Jvm.MethodName)) ∈ TB := tk_t3 (j := 53) rfl rfl
theorem tk_636 : (Jvm.Cond.code ({ cls := "LadderStreet$Reader", name := "readSum", desc := "(I)V" } : Jvm.MethodName) prog_7_method_14_code (4 : Nat) (Option.none : Option Jvm.ClassFile.FieldType)) ∈ TB := tk_t3 (j := 54) rfl rfl
theorem tk_637 : (Jvm.Cond.methodLink "LadderStreet$Reader" (133 : Nat) ({ cls := "LadderStreet$Reader", name := "readProduct", desc := "(I)V" } : Jvm.MethodName)) ∈ TB := tk_t3 (j := 55) rfl rfl
theorem tk_639 : (Jvm.Cond.instanceMethod ({ cls := "LadderStreet$Reader", name := "readProduct", desc := "(I)V" } : Jvm.MethodName)) ∈ TB := tk_t3 (j := 57) rfl rfl
theorem tk_640 : (Jvm.Cond.code ({ cls := "LadderStreet$Reader", name := "readProduct", desc := "(I)V" } : Jvm.MethodName) prog_7_method_15_code (4 : Nat) (Option.none : Option Jvm.ClassFile.FieldType)) ∈ TB := tk_t3 (j := 58) rfl rfl
theorem tk_641 : (Jvm.Cond.methodLink "LadderStreet$Reader" (136 : Nat) ({ cls := "LadderStreet$Reader", name := "readUnit", desc := "(I)V" } : Jvm.MethodName)) ∈ TB := tk_t3 (j := 59) rfl rfl
theorem tk_643 : (Jvm.Cond.instanceMethod ({ cls := "LadderStreet$Reader", name := "readUnit", desc := "(I)V" } : Jvm.MethodName)) ∈ TB := tk_t3 (j := 61) rfl rfl
theorem tk_644 : (Jvm.Cond.code ({ cls := "LadderStreet$Reader", name := "readUnit", desc := "(I)V" } : Jvm.MethodName) prog_7_method_16_code (2 : Nat) (Option.none : Option Jvm.ClassFile.FieldType)) ∈ TB := tk_t3 (j := 62) rfl rfl
theorem tk_645 : (Jvm.Cond.methodLink "LadderStreet$Reader" (127 : Nat) ({ cls := "LadderStreet$Laws", name := "add", desc := "(II)I" } : Jvm.MethodName)) ∈ TB := tk_t3 (j := 63) rfl rfl
theorem tk_646 : (Jvm.Cond.methodLink "LadderStreet$Reader" (130 : Nat) ({ cls := "LadderStreet$Laws", name := "jumpHere", desc := "(I)V" } : Jvm.MethodName)) ∈ TB := tk_t3 (j := 64) rfl rfl
theorem tk_647 : (Jvm.Cond.instanceMethod ({ cls := "LadderStreet$Laws", name := "jumpHere", desc := "(I)V" } : Jvm.MethodName)) ∈ TB := tk_t3 (j := 65) rfl rfl
theorem tk_648 : (Jvm.Cond.selects "LadderStreet$Laws" ({ cls := "LadderStreet$Laws", name := "jumpHere", desc := "(I)V" } : Jvm.MethodName) ({ cls := "LadderStreet$Laws", name := "jumpHere", desc := "(I)V" } : Jvm.MethodName)) ∈ TB := tk_t3 (j := 66) rfl rfl
theorem tk_649 : (Jvm.Cond.code ({ cls := "LadderStreet$Laws", name := "jumpHere", desc := "(I)V" } : Jvm.MethodName) prog_4_method_5_code (2 : Nat) (Option.none : Option Jvm.ClassFile.FieldType)) ∈ TB := tk_t3 (j := 67) rfl rfl
theorem tk_650 : (Jvm.Cond.methodLink "LadderStreet" (113 : Nat) ({ cls := "LadderStreet$Reader", name := "end", desc := "()I" } : Jvm.MethodName)) ∈ TB := tk_t3 (j := 68) rfl rfl
theorem tk_651 : (Jvm.Cond.instanceMethod ({ cls := "LadderStreet$Reader", name := "end", desc := "()I" } : Jvm.MethodName)) ∈ TB := tk_t3 (j := 69) rfl rfl
theorem tk_652 : (Jvm.Cond.selects "LadderStreet$Reader" ({ cls := "LadderStreet$Reader", name := "end", desc := "()I" } : Jvm.MethodName) ({ cls := "LadderStreet$Reader", name := "end", desc := "()I" } : Jvm.MethodName)) ∈ TB := tk_t3 (j := 70) rfl rfl
theorem tk_653 : (Jvm.Cond.code ({ cls := "LadderStreet$Reader", name := "end", desc := "()I" } : Jvm.MethodName) prog_7_method_4_code (1 : Nat) (Option.some Jvm.ClassFile.FieldType.int)) ∈ TB := tk_t3 (j := 71) rfl rfl
theorem tk_654 : (Jvm.Cond.methodLink "LadderStreet$Reader" (73 : Nat) ({ cls := "LadderStreet$Town", name := "hasAllRungsTold", desc := "()Z" } : Jvm.MethodName)) ∈ TB := tk_t3 (j := 72) rfl rfl
theorem tk_655 : (Jvm.Cond.instanceMethod ({ cls := "LadderStreet$Town", name := "hasAllRungsTold", desc := "()Z" } : Jvm.MethodName)) ∈ TB := tk_t3 (j := 73) rfl rfl
theorem tk_656 : (Jvm.Cond.selects "LadderStreet$Town" ({ cls := "LadderStreet$Town", name := "hasAllRungsTold", desc := "()Z" } : Jvm.MethodName) ({ cls := "LadderStreet$Town", name := "hasAllRungsTold", desc := "()Z" } : Jvm.MethodName)) ∈ TB := tk_t3 (j := 74) rfl rfl
theorem tk_657 : (Jvm.Cond.code ({ cls := "LadderStreet$Town", name := "hasAllRungsTold", desc := "()Z" } : Jvm.MethodName) prog_11_method_7_code (2 : Nat) (Option.some Jvm.ClassFile.FieldType.boolean)) ∈ TB := tk_t3 (j := 75) rfl rfl
theorem tk_658 : (Jvm.Cond.methodLink "LadderStreet$Town" (54 : Nat) ({ cls := "LadderStreet$Town", name := "startOf", desc := "(I)I" } : Jvm.MethodName)) ∈ TB := tk_t3 (j := 76) rfl rfl
theorem tk_659 : (Jvm.Cond.methodLink "LadderStreet$Town" (58 : Nat) ({ cls := "LadderStreet$Town", name := "hasRung", desc := "(I)Z" } : Jvm.MethodName)) ∈ TB := tk_t3 (j := 77) rfl rfl
theorem tk_660 : (Jvm.Cond.instanceMethod ({ cls := "LadderStreet$Town", name := "hasRung", desc := "(I)Z" } : Jvm.MethodName)) ∈ TB := tk_t3 (j := 78) rfl rfl
theorem tk_661 : (Jvm.Cond.selects "LadderStreet$Town" ({ cls := "LadderStreet$Town", name := "hasRung", desc := "(I)Z" } : Jvm.MethodName) ({ cls := "LadderStreet$Town", name := "hasRung", desc := "(I)Z" } : Jvm.MethodName)) ∈ TB := tk_t3 (j := 79) rfl rfl
theorem tk_662 : (Jvm.Cond.code ({ cls := "LadderStreet$Town", name := "hasRung", desc := "(I)Z" } : Jvm.MethodName) prog_11_method_6_code (2 : Nat) (Option.some Jvm.ClassFile.FieldType.boolean)) ∈ TB := tk_t3 (j := 80) rfl rfl
theorem tk_663 : (Jvm.Cond.methodLink "LadderStreet" (117 : Nat) ({ cls := "LadderStreet$Reader", name := "placeOfFault", desc := "()I" } : Jvm.MethodName)) ∈ TB := tk_t3 (j := 81) rfl rfl
theorem tk_664 : (Jvm.Cond.instanceMethod ({ cls := "LadderStreet$Reader", name := "placeOfFault", desc := "()I" } : Jvm.MethodName)) ∈ TB := tk_t3 (j := 82) rfl rfl
theorem tk_665 : (Jvm.Cond.selects "LadderStreet$Reader" ({ cls := "LadderStreet$Reader", name := "placeOfFault", desc := "()I" } : Jvm.MethodName) ({ cls := "LadderStreet$Reader", name := "placeOfFault", desc := "()I" } : Jvm.MethodName)) ∈ TB := tk_t3 (j := 83) rfl rfl
theorem tk_666 : (Jvm.Cond.code ({ cls := "LadderStreet$Reader", name := "placeOfFault", desc := "()I" } : Jvm.MethodName) prog_7_method_5_code (1 : Nat) (Option.some Jvm.ClassFile.FieldType.int)) ∈ TB := tk_t3 (j := 84) rfl rfl
theorem tk_667 : (Jvm.Cond.methodLink "LadderStreet" (123 : Nat) ({ cls := "LadderStreet$Town", name := "become", desc := "(LLadderStreet$Town;)V" } : Jvm.MethodName)) ∈ TB := tk_t3 (j := 85) rfl rfl
theorem tk_668 : (Jvm.Cond.instanceMethod ({ cls := "LadderStreet$Town", name := "become", desc := "(LLadderStreet$Town;)V" } : Jvm.MethodName)) ∈ TB := tk_t3 (j := 86) rfl rfl
theorem tk_669 : (Jvm.Cond.selects "LadderStreet$Town" ({ cls := "LadderStreet$Town", name := "become", desc := "(LLadderStreet$Town;)V" } : Jvm.MethodName) ({ cls := "LadderStreet$Town", name := "become", desc := "(LLadderStreet$Town;)V" } : Jvm.MethodName)) ∈ TB := tk_t3 (j := 87) rfl rfl
theorem tk_670 : (Jvm.Cond.code ({ cls := "LadderStreet$Town", name := "become", desc := "(LLadderStreet$Town;)V" } : Jvm.MethodName) prog_11_method_4_code (2 : Nat) (Option.none : Option Jvm.ClassFile.FieldType)) ∈ TB := tk_t3 (j := 88) rfl rfl
theorem tk_671 : (Jvm.Cond.methodLink "LadderStreet$Town" (44 : Nat) ({ cls := "LadderStreet$Laws", name := "become", desc := "(LLadderStreet$Laws;)V" } : Jvm.MethodName)) ∈ TB := tk_t3 (j := 89) rfl rfl
theorem tk_672 : (Jvm.Cond.instanceMethod ({ cls := "LadderStreet$Laws", name := "become", desc := "(LLadderStreet$Laws;)V" } : Jvm.MethodName)) ∈ TB := tk_t3 (j := 90) rfl rfl
theorem tk_673 : (Jvm.Cond.selects "LadderStreet$Laws" ({ cls := "LadderStreet$Laws", name := "become", desc := "(LLadderStreet$Laws;)V" } : Jvm.MethodName) ({ cls := "LadderStreet$Laws", name := "become", desc := "(LLadderStreet$Laws;)V" } : Jvm.MethodName)) ∈ TB := tk_t3 (j := 91) rfl rfl
theorem tk_674 : (Jvm.Cond.code ({ cls := "LadderStreet$Laws", name := "become", desc := "(LLadderStreet$Laws;)V" } : Jvm.MethodName) prog_4_method_6_code (2 : Nat) (Option.none : Option Jvm.ClassFile.FieldType)) ∈ TB := tk_t3 (j := 92) rfl rfl
theorem tk_675 : (Jvm.Cond.methodLink "LadderStreet$Laws" (39 : Nat) ({ cls := "java/lang/System", name := "arraycopy", desc := "(Ljava/lang/Object;ILjava/lang/Object;II)V" } : Jvm.MethodName)) ∈ TB := tk_t3 (j := 93) rfl rfl
theorem tk_676 : (Jvm.Cond.static ({ cls := "java/lang/System", name := "arraycopy", desc := "(Ljava/lang/Object;ILjava/lang/Object;II)V" } : Jvm.MethodName)) ∈ TB := tk_t3 (j := 94) rfl rfl
theorem tk_677 : (Jvm.Cond.native ({ cls := "java/lang/System", name := "arraycopy", desc := "(Ljava/lang/Object;ILjava/lang/Object;II)V" } : Jvm.MethodName)) ∈ TB := tk_t3 (j := 95) rfl rfl
theorem tk_678 : (Jvm.Cond.methodLink "LadderStreet$Town" (48 : Nat) ({ cls := "java/lang/System", name := "arraycopy", desc := "(Ljava/lang/Object;ILjava/lang/Object;II)V" } : Jvm.MethodName)) ∈ TB := tk_t3 (j := 96) rfl rfl
theorem tk_679 : (Jvm.Cond.methodLink "LadderStreet" (126 : Nat) ({ cls := "LadderStreet$Shelf", name := "clear", desc := "()V" } : Jvm.MethodName)) ∈ TB := tk_t3 (j := 97) rfl rfl
theorem tk_680 : (Jvm.Cond.instanceMethod ({ cls := "LadderStreet$Shelf", name := "clear", desc := "()V" } : Jvm.MethodName)) ∈ TB := tk_t3 (j := 98) rfl rfl
theorem tk_681 : (Jvm.Cond.selects "LadderStreet$Shelf" ({ cls := "LadderStreet$Shelf", name := "clear", desc := "()V" } : Jvm.MethodName) ({ cls := "LadderStreet$Shelf", name := "clear", desc := "()V" } : Jvm.MethodName)) ∈ TB := tk_t3 (j := 99) rfl rfl
theorem tk_682 : (Jvm.Cond.code ({ cls := "LadderStreet$Shelf", name := "clear", desc := "()V" } : Jvm.MethodName) prog_9_method_2_code (1 : Nat) (Option.none : Option Jvm.ClassFile.FieldType)) ∈ TB := tk_t3 (j := 100) rfl rfl
theorem tk_683 : (Jvm.Cond.methodLink "LadderStreet" (129 : Nat) ({ cls := "LadderStreet$Rumours", name := "clear", desc := "()I" } : Jvm.MethodName)) ∈ TB := tk_t3 (j := 101) rfl rfl
theorem tk_684 : (Jvm.Cond.instanceMethod ({ cls := "LadderStreet$Rumours", name := "clear", desc := "()I" } : Jvm.MethodName)) ∈ TB := tk_t3 (j := 102) rfl rfl
theorem tk_685 : (Jvm.Cond.selects "LadderStreet$Rumours" ({ cls := "LadderStreet$Rumours", name := "clear", desc := "()I" } : Jvm.MethodName) ({ cls := "LadderStreet$Rumours", name := "clear", desc := "()I" } : Jvm.MethodName)) ∈ TB := tk_t3 (j := 103) rfl rfl
theorem tk_686 : (Jvm.Cond.code ({ cls := "LadderStreet$Rumours", name := "clear", desc := "()I" } : Jvm.MethodName) prog_8_method_4_code (2 : Nat) (Option.some Jvm.ClassFile.FieldType.int)) ∈ TB := tk_t3 (j := 104) rfl rfl
theorem tk_687 : (Jvm.Cond.methodLink "LadderStreetLaw" (28 : Nat) ({ cls := "LadderStreet", name := "place", desc := "()I" } : Jvm.MethodName)) ∈ TB := tk_t3 (j := 105) rfl rfl
theorem tk_688 : (Jvm.Cond.instanceMethod ({ cls := "LadderStreet", name := "place", desc := "()I" } : Jvm.MethodName)) ∈ TB := tk_t3 (j := 106) rfl rfl
theorem tk_689 : (Jvm.Cond.selects "LadderStreet" ({ cls := "LadderStreet", name := "place", desc := "()I" } : Jvm.MethodName) ({ cls := "LadderStreet", name := "place", desc := "()I" } : Jvm.MethodName)) ∈ TB := tk_t3 (j := 107) rfl rfl
theorem tk_690 : (Jvm.Cond.code ({ cls := "LadderStreet", name := "place", desc := "()I" } : Jvm.MethodName) prog_1_method_6_code (1 : Nat) (Option.some Jvm.ClassFile.FieldType.int)) ∈ TB := tk_t3 (j := 108) rfl rfl
theorem tk_691 : (Jvm.Cond.methodLink "LadderStreetLaw" (32 : Nat) ({ cls := "LadderStreet", name := "person", desc := "(II)I" } : Jvm.MethodName)) ∈ TB := tk_t3 (j := 109) rfl rfl
theorem tk_692 : (Jvm.Cond.instanceMethod ({ cls := "LadderStreet", name := "person", desc := "(II)I" } : Jvm.MethodName)) ∈ TB := tk_t3 (j := 110) rfl rfl
theorem tk_693 : (Jvm.Cond.selects "LadderStreet" ({ cls := "LadderStreet", name := "person", desc := "(II)I" } : Jvm.MethodName) ({ cls := "LadderStreet", name := "person", desc := "(II)I" } : Jvm.MethodName)) ∈ TB := tk_t3 (j := 111) rfl rfl
theorem tk_694 : (Jvm.Cond.code ({ cls := "LadderStreet", name := "person", desc := "(II)I" } : Jvm.MethodName) prog_1_method_7_code (3 : Nat) (Option.some Jvm.ClassFile.FieldType.int)) ∈ TB := tk_t3 (j := 112) rfl rfl
theorem tk_695 : (Jvm.Cond.methodLink "LadderStreet" (131 : Nat) ({ cls := "LadderStreet$Town", name := "hasPerson", desc := "(I)Z" } : Jvm.MethodName)) ∈ TB := tk_t3 (j := 113) rfl rfl
theorem tk_696 : (Jvm.Cond.instanceMethod ({ cls := "LadderStreet$Town", name := "hasPerson", desc := "(I)Z" } : Jvm.MethodName)) ∈ TB := tk_t3 (j := 114) rfl rfl
theorem tk_697 : (Jvm.Cond.selects "LadderStreet$Town" ({ cls := "LadderStreet$Town", name := "hasPerson", desc := "(I)Z" } : Jvm.MethodName) ({ cls := "LadderStreet$Town", name := "hasPerson", desc := "(I)Z" } : Jvm.MethodName)) ∈ TB := tk_t3 (j := 115) rfl rfl
theorem tk_698 : (Jvm.Cond.code ({ cls := "LadderStreet$Town", name := "hasPerson", desc := "(I)Z" } : Jvm.MethodName) prog_11_method_5_code (2 : Nat) (Option.some Jvm.ClassFile.FieldType.boolean)) ∈ TB := tk_t3 (j := 116) rfl rfl
theorem tk_699 : (Jvm.Cond.methodLink "LadderStreet" (135 : Nat) ({ cls := "LadderStreet$Moment", name := "of", desc := "(II)I" } : Jvm.MethodName)) ∈ TB := tk_t3 (j := 117) rfl rfl
theorem tk_700 : (Jvm.Cond.instanceMethod ({ cls := "LadderStreet$Moment", name := "of", desc := "(II)I" } : Jvm.MethodName)) ∈ TB := tk_t3 (j := 118) rfl rfl
theorem tk_701 : (Jvm.Cond.selects "LadderStreet$Moment" ({ cls := "LadderStreet$Moment", name := "of", desc := "(II)I" } : Jvm.MethodName) ({ cls := "LadderStreet$Moment", name := "of", desc := "(II)I" } : Jvm.MethodName)) ∈ TB := tk_t3 (j := 119) rfl rfl
theorem tk_702 : (Jvm.Cond.code ({ cls := "LadderStreet$Moment", name := "of", desc := "(II)I" } : Jvm.MethodName) prog_6_method_6_code (3 : Nat) (Option.some Jvm.ClassFile.FieldType.int)) ∈ TB := tk_t3 (j := 120) rfl rfl
theorem tk_704 : (Jvm.Cond.methodLink "LadderStreet" (139 : Nat) ({ cls := "LadderStreet$Town", name := "widthOf", desc := "(I)I" } : Jvm.MethodName)) ∈ TB := tk_t3 (j := 122) rfl rfl
theorem tk_705 : (Jvm.Cond.instanceMethod ({ cls := "LadderStreet$Town", name := "widthOf", desc := "(I)I" } : Jvm.MethodName)) ∈ TB := tk_t3 (j := 123) rfl rfl
theorem tk_706 : (Jvm.Cond.selects "LadderStreet$Town" ({ cls := "LadderStreet$Town", name := "widthOf", desc := "(I)I" } : Jvm.MethodName) ({ cls := "LadderStreet$Town", name := "widthOf", desc := "(I)I" } : Jvm.MethodName)) ∈ TB := tk_t3 (j := 124) rfl rfl
theorem tk_707 : (Jvm.Cond.code ({ cls := "LadderStreet$Town", name := "widthOf", desc := "(I)I" } : Jvm.MethodName) prog_11_method_9_code (2 : Nat) (Option.some Jvm.ClassFile.FieldType.int)) ∈ TB := tk_t3 (j := 125) rfl rfl
theorem tk_708 : (Jvm.Cond.methodLink "LadderStreet" (143 : Nat) ({ cls := "LadderStreet$Town", name := "temperOf", desc := "(I)I" } : Jvm.MethodName)) ∈ TB := tk_t3 (j := 126) rfl rfl
theorem tk_709 : (Jvm.Cond.instanceMethod ({ cls := "LadderStreet$Town", name := "temperOf", desc := "(I)I" } : Jvm.MethodName)) ∈ TB := tk_t3 (j := 127) rfl rfl
theorem tk_710 : (Jvm.Cond.selects "LadderStreet$Town" ({ cls := "LadderStreet$Town", name := "temperOf", desc := "(I)I" } : Jvm.MethodName) ({ cls := "LadderStreet$Town", name := "temperOf", desc := "(I)I" } : Jvm.MethodName)) ∈ TB := tk_t3 (j := 128) rfl rfl
theorem tk_711 : (Jvm.Cond.code ({ cls := "LadderStreet$Town", name := "temperOf", desc := "(I)I" } : Jvm.MethodName) prog_11_method_10_code (2 : Nat) (Option.some Jvm.ClassFile.FieldType.int)) ∈ TB := tk_t3 (j := 129) rfl rfl
theorem tk_712 : (Jvm.Cond.methodLink "LadderStreet" (146 : Nat) ({ cls := "LadderStreet$Town", name := "thirstOf", desc := "(I)I" } : Jvm.MethodName)) ∈ TB := tk_t3 (j := 130) rfl rfl
theorem tk_713 : (Jvm.Cond.instanceMethod ({ cls := "LadderStreet$Town", name := "thirstOf", desc := "(I)I" } : Jvm.MethodName)) ∈ TB := tk_t3 (j := 131) rfl rfl
theorem tk_714 : (Jvm.Cond.selects "LadderStreet$Town" ({ cls := "LadderStreet$Town", name := "thirstOf", desc := "(I)I" } : Jvm.MethodName) ({ cls := "LadderStreet$Town", name := "thirstOf", desc := "(I)I" } : Jvm.MethodName)) ∈ TB := tk_t3 (j := 132) rfl rfl
theorem tk_715 : (Jvm.Cond.code ({ cls := "LadderStreet$Town", name := "thirstOf", desc := "(I)I" } : Jvm.MethodName) prog_11_method_11_code (2 : Nat) (Option.some Jvm.ClassFile.FieldType.int)) ∈ TB := tk_t3 (j := 133) rfl rfl
theorem tk_716 : (Jvm.Cond.methodLink "LadderStreetLaw" (37 : Nat) ({ cls := "LadderStreet", name := "rung", desc := "(II)I" } : Jvm.MethodName)) ∈ TB := tk_t3 (j := 134) rfl rfl
theorem tk_717 : (Jvm.Cond.instanceMethod ({ cls := "LadderStreet", name := "rung", desc := "(II)I" } : Jvm.MethodName)) ∈ TB := tk_t3 (j := 135) rfl rfl
theorem tk_718 : (Jvm.Cond.selects "LadderStreet" ({ cls := "LadderStreet", name := "rung", desc := "(II)I" } : Jvm.MethodName) ({ cls := "LadderStreet", name := "rung", desc := "(II)I" } : Jvm.MethodName)) ∈ TB := tk_t3 (j := 136) rfl rfl
theorem tk_719 : (Jvm.Cond.code ({ cls := "LadderStreet", name := "rung", desc := "(II)I" } : Jvm.MethodName) prog_1_method_8_code (3 : Nat) (Option.some Jvm.ClassFile.FieldType.int)) ∈ TB := tk_t3 (j := 137) rfl rfl
theorem tk_720 : (Jvm.Cond.methodLink "LadderStreet" (149 : Nat) ({ cls := "LadderStreet$Town", name := "hasRung", desc := "(I)Z" } : Jvm.MethodName)) ∈ TB := tk_t3 (j := 138) rfl rfl
theorem tk_721 : (Jvm.Cond.methodLink "LadderStreet" (152 : Nat) ({ cls := "LadderStreet$Course", name := "roomOf", desc := "(LLadderStreet$Moment;I)I" } : Jvm.MethodName)) ∈ TB := tk_t3 (j := 139) rfl rfl
theorem tk_722 : (Jvm.Cond.instanceMethod ({ cls := "LadderStreet$Course", name := "roomOf", desc := "(LLadderStreet$Moment;I)I" } : Jvm.MethodName)) ∈ TB := tk_t3 (j := 140) rfl rfl
theorem tk_723 : (Jvm.Cond.selects "LadderStreet$Course" ({ cls := "LadderStreet$Course", name := "roomOf", desc := "(LLadderStreet$Moment;I)I" } : Jvm.MethodName) ({ cls := "LadderStreet$Course", name := "roomOf", desc := "(LLadderStreet$Moment;I)I" } : Jvm.MethodName)) ∈ TB := tk_t3 (j := 141) rfl rfl
theorem tk_724 : (Jvm.Cond.code ({ cls := "LadderStreet$Course", name := "roomOf", desc := "(LLadderStreet$Moment;I)I" } : Jvm.MethodName) prog_2_method_2_code (3 : Nat) (Option.some Jvm.ClassFile.FieldType.int)) ∈ TB := tk_t3 (j := 142) rfl rfl
theorem tk_725 : (Jvm.Cond.methodLink "LadderStreet$Course" (26 : Nat) ({ cls := "LadderStreet$Moment", name := "minute", desc := "()I" } : Jvm.MethodName)) ∈ TB := tk_t3 (j := 143) rfl rfl
theorem tk_726 : (Jvm.Cond.instanceMethod ({ cls := "LadderStreet$Moment", name := "minute", desc := "()I" } : Jvm.MethodName)) ∈ TB := tk_t3 (j := 144) rfl rfl
theorem tk_727 : (Jvm.Cond.selects "LadderStreet$Moment" ({ cls := "LadderStreet$Moment", name := "minute", desc := "()I" } : Jvm.MethodName) ({ cls := "LadderStreet$Moment", name := "minute", desc := "()I" } : Jvm.MethodName)) ∈ TB := tk_t3 (j := 145) rfl rfl
theorem tk_728 : (Jvm.Cond.code ({ cls := "LadderStreet$Moment", name := "minute", desc := "()I" } : Jvm.MethodName) prog_6_method_9_code (1 : Nat) (Option.some Jvm.ClassFile.FieldType.int)) ∈ TB := tk_t3 (j := 146) rfl rfl
theorem tk_729 : (Jvm.Cond.methodLink "LadderStreet$Course" (32 : Nat) ({ cls := "LadderStreet$Laws", name := "setAll", desc := "(II)V" } : Jvm.MethodName)) ∈ TB := tk_t3 (j := 147) rfl rfl
theorem tk_730 : (Jvm.Cond.instanceMethod ({ cls := "LadderStreet$Laws", name := "setAll", desc := "(II)V" } : Jvm.MethodName)) ∈ TB := tk_t3 (j := 148) rfl rfl
theorem tk_731 : (Jvm.Cond.selects "LadderStreet$Laws" ({ cls := "LadderStreet$Laws", name := "setAll", desc := "(II)V" } : Jvm.MethodName) ({ cls := "LadderStreet$Laws", name := "setAll", desc := "(II)V" } : Jvm.MethodName)) ∈ TB := tk_t3 (j := 149) rfl rfl
theorem tk_732 : (Jvm.Cond.code ({ cls := "LadderStreet$Laws", name := "setAll", desc := "(II)V" } : Jvm.MethodName) prog_4_method_7_code (3 : Nat) (Option.none : Option Jvm.ClassFile.FieldType)) ∈ TB := tk_t3 (j := 150) rfl rfl
theorem tk_733 : (Jvm.Cond.methodLink "LadderStreet$Laws" (45 : Nat) ({ cls := "java/util/Arrays", name := "fill", desc := "([II)V" } : Jvm.MethodName)) ∈ TB := tk_t3 (j := 151) rfl rfl
theorem tk_734 : (Jvm.Cond.methodLink "LadderStreet$Laws" (51 : Nat) ({ cls := "LadderStreet$Laws", name := "set", desc := "(II)V" } : Jvm.MethodName)) ∈ TB := tk_t3 (j := 152) rfl rfl
theorem tk_735 : (Jvm.Cond.instanceMethod ({ cls := "LadderStreet$Laws", name := "set", desc := "(II)V" } : Jvm.MethodName)) ∈ TB := tk_t3 (j := 153) rfl rfl
theorem tk_736 : (Jvm.Cond.selects "LadderStreet$Laws" ({ cls := "LadderStreet$Laws", name := "set", desc := "(II)V" } : Jvm.MethodName) ({ cls := "LadderStreet$Laws", name := "set", desc := "(II)V" } : Jvm.MethodName)) ∈ TB := tk_t3 (j := 154) rfl rfl
theorem tk_737 : (Jvm.Cond.code ({ cls := "LadderStreet$Laws", name := "set", desc := "(II)V" } : Jvm.MethodName) prog_4_method_8_code (3 : Nat) (Option.none : Option Jvm.ClassFile.FieldType)) ∈ TB := tk_t3 (j := 155) rfl rfl
theorem tk_738 : (Jvm.Cond.methodLink "LadderStreet$Course" (38 : Nat) ({ cls := "LadderStreet$Laws", name := "set", desc := "(II)V" } : Jvm.MethodName)) ∈ TB := tk_t3 (j := 156) rfl rfl
theorem tk_739 : (Jvm.Cond.methodLink "LadderStreet$Course" (41 : Nat) ({ cls := "LadderStreet$Laws", name := "worth", desc := "(I)I" } : Jvm.MethodName)) ∈ TB := tk_t3 (j := 157) rfl rfl
theorem tk_740 : (Jvm.Cond.instanceMethod ({ cls := "LadderStreet$Laws", name := "worth", desc := "(I)I" } : Jvm.MethodName)) ∈ TB := tk_t3 (j := 158) rfl rfl
theorem tk_741 : (Jvm.Cond.selects "LadderStreet$Laws" ({ cls := "LadderStreet$Laws", name := "worth", desc := "(I)I" } : Jvm.MethodName) ({ cls := "LadderStreet$Laws", name := "worth", desc := "(I)I" } : Jvm.MethodName)) ∈ TB := tk_t3 (j := 159) rfl rfl
theorem tk_742 : (Jvm.Cond.code ({ cls := "LadderStreet$Laws", name := "worth", desc := "(I)I" } : Jvm.MethodName) prog_4_method_9_code (9 : Nat) (Option.some Jvm.ClassFile.FieldType.int)) ∈ TB := tk_t3 (j := 160) rfl rfl
theorem tk_744 : (Jvm.Cond.methodLink "LadderStreet$Laws" (61 : Nat) ({ cls := "LadderStreet$Laws", name := "reckoned", desc := "(III)I" } : Jvm.MethodName)) ∈ TB := tk_t3 (j := 162) rfl rfl
theorem tk_745 : (Jvm.Cond.static ({ cls := "LadderStreet$Laws", name := "reckoned", desc := "(III)I" } : Jvm.MethodName)) ∈ TB := tk_t3 (j := 163) rfl rfl
theorem tk_746 : (Jvm.Cond.code ({ cls := "LadderStreet$Laws", name := "reckoned", desc := "(III)I" } : Jvm.MethodName) prog_4_method_10_code (3 : Nat) (Option.some Jvm.ClassFile.FieldType.int)) ∈ TB := tk_t3 (j := 164) rfl rfl
theorem tk_747 : (Jvm.Cond.methodLink "LadderStreet$Course" (45 : Nat) ({ cls := "java/lang/Math", name := "min", desc := "(II)I" } : Jvm.MethodName)) ∈ TB := tk_t3 (j := 165) rfl rfl
theorem tk_748 : (Jvm.Cond.methodLink "LadderStreet$Course" (51 : Nat) ({ cls := "java/lang/Math", name := "max", desc := "(II)I" } : Jvm.MethodName)) ∈ TB := tk_t3 (j := 166) rfl rfl
theorem tk_749 : (Jvm.Cond.static ({ cls := "java/lang/Math", name := "max", desc := "(II)I" } : Jvm.MethodName)) ∈ TB := tk_t3 (j := 167) rfl rfl
theorem tk_750 : (Jvm.Cond.code ({ cls := "java/lang/Math", name := "max", desc := "(II)I" } : Jvm.MethodName) prog_16_method_65_code (2 : Nat) (Option.some Jvm.ClassFile.FieldType.int)) ∈ TB := tk_t3 (j := 168) rfl rfl
theorem tk_751 : (Jvm.Cond.methodLink "LadderStreet" (156 : Nat) ({ cls := "LadderStreet$Course", name := "widthsOn", desc := "(LLadderStreet$Moment;I)I" } : Jvm.MethodName)) ∈ TB := tk_t3 (j := 169) rfl rfl
theorem tk_752 : (Jvm.Cond.instanceMethod ({ cls := "LadderStreet$Course", name := "widthsOn", desc := "(LLadderStreet$Moment;I)I" } : Jvm.MethodName)) ∈ TB := tk_t3 (j := 170) rfl rfl
theorem tk_753 : (Jvm.Cond.selects "LadderStreet$Course" ({ cls := "LadderStreet$Course", name := "widthsOn", desc := "(LLadderStreet$Moment;I)I" } : Jvm.MethodName) ({ cls := "LadderStreet$Course", name := "widthsOn", desc := "(LLadderStreet$Moment;I)I" } : Jvm.MethodName)) ∈ TB := tk_t3 (j := 171) rfl rfl
theorem tk_754 : (Jvm.Cond.code ({ cls := "LadderStreet$Course", name := "widthsOn", desc := "(LLadderStreet$Moment;I)I" } : Jvm.MethodName) prog_2_method_7_code (5 : Nat) (Option.some Jvm.ClassFile.FieldType.int)) ∈ TB := tk_t3 (j := 172) rfl rfl
theorem tk_755 : (Jvm.Cond.methodLink "LadderStreet$Course" (62 : Nat) ({ cls := "LadderStreet$Moment", name := "of", desc := "(II)I" } : Jvm.MethodName)) ∈ TB := tk_t3 (j := 173) rfl rfl
theorem tk_756 : (Jvm.Cond.methodLink "LadderStreet$Course" (65 : Nat) ({ cls := "LadderStreet$Town", name := "widthOf", desc := "(I)I" } : Jvm.MethodName)) ∈ TB := tk_t3 (j := 174) rfl rfl
theorem tk_757 : (Jvm.Cond.methodLink "LadderStreet" (159 : Nat) ({ cls := "LadderStreet$Looks", name := "peopleOn", desc := "(LLadderStreet$Moment;I)I" } : Jvm.MethodName)) ∈ TB := tk_t3 (j := 175) rfl rfl
theorem tk_758 : (Jvm.Cond.instanceMethod ({ cls := "LadderStreet$Looks", name := "peopleOn", desc := "(LLadderStreet$Moment;I)I" } : Jvm.MethodName)) ∈ TB := tk_t3 (j := 176) rfl rfl
theorem tk_759 : (Jvm.Cond.selects "LadderStreet$Looks" ({ cls := "LadderStreet$Looks", name := "peopleOn", desc := "(LLadderStreet$Moment;I)I" } : Jvm.MethodName) ({ cls := "LadderStreet$Looks", name := "peopleOn", desc := "(LLadderStreet$Moment;I)I" } : Jvm.MethodName)) ∈ TB := tk_t3 (j := 177) rfl rfl
theorem tk_760 : (Jvm.Cond.code ({ cls := "LadderStreet$Looks", name := "peopleOn", desc := "(LLadderStreet$Moment;I)I" } : Jvm.MethodName) prog_5_method_2_code (5 : Nat) (Option.some Jvm.ClassFile.FieldType.int)) ∈ TB := tk_t3 (j := 178) rfl rfl
theorem tk_761 : (Jvm.Cond.methodLink "LadderStreet$Looks" (27 : Nat) ({ cls := "LadderStreet$Moment", name := "of", desc := "(II)I" } : Jvm.MethodName)) ∈ TB := tk_t3 (j := 179) rfl rfl
theorem tk_762 : (Jvm.Cond.methodLink "LadderStreet" (162 : Nat) ({ cls := "LadderStreet$Moment", name := "isWhole", desc := "(I)Z" } : Jvm.MethodName)) ∈ TB := tk_t3 (j := 180) rfl rfl
theorem tk_763 : (Jvm.Cond.instanceMethod ({ cls := "LadderStreet$Moment", name := "isWhole", desc := "(I)Z" } : Jvm.MethodName)) ∈ TB := tk_t3 (j := 181) rfl rfl
theorem tk_764 : (Jvm.Cond.selects "LadderStreet$Moment" ({ cls := "LadderStreet$Moment", name := "isWhole", desc := "(I)Z" } : Jvm.MethodName) ({ cls := "LadderStreet$Moment", name := "isWhole", desc := "(I)Z" } : Jvm.MethodName)) ∈ TB := tk_t3 (j := 182) rfl rfl
theorem tk_765 : (Jvm.Cond.code ({ cls := "LadderStreet$Moment", name := "isWhole", desc := "(I)Z" } : Jvm.MethodName) prog_6_method_14_code (2 : Nat) (Option.some Jvm.ClassFile.FieldType.boolean)) ∈ TB := tk_t3 (j := 183) rfl rfl
theorem tk_767 : (Jvm.Cond.static ({ cls := "LadderStreet", name := "hasBit", desc := "(II)Z" } : Jvm.MethodName)) ∈ TB := tk_t3 (j := 185) rfl rfl
theorem tk_768 : (Jvm.Cond.code ({ cls := "LadderStreet", name := "hasBit", desc := "(II)Z" } : Jvm.MethodName) prog_1_method_50_code (2 : Nat) (Option.some Jvm.ClassFile.FieldType.boolean)) ∈ TB := tk_t3 (j := 186) rfl rfl
theorem tk_769 : (Jvm.Cond.methodLink "LadderStreet" (165 : Nat) ({ cls := "LadderStreet$Course", name := "breaksOf", desc := "(LLadderStreet$Moment;I)I" } : Jvm.MethodName)) ∈ TB := tk_t3 (j := 187) rfl rfl
theorem tk_770 : (Jvm.Cond.instanceMethod ({ cls := "LadderStreet$Course", name := "breaksOf", desc := "(LLadderStreet$Moment;I)I" } : Jvm.MethodName)) ∈ TB := tk_t3 (j := 188) rfl rfl
theorem tk_771 : (Jvm.Cond.selects "LadderStreet$Course" ({ cls := "LadderStreet$Course", name := "breaksOf", desc := "(LLadderStreet$Moment;I)I" } : Jvm.MethodName) ({ cls := "LadderStreet$Course", name := "breaksOf", desc := "(LLadderStreet$Moment;I)I" } : Jvm.MethodName)) ∈ TB := tk_t3 (j := 189) rfl rfl
theorem tk_772 : (Jvm.Cond.code ({ cls := "LadderStreet$Course", name := "breaksOf", desc := "(LLadderStreet$Moment;I)I" } : Jvm.MethodName) prog_2_method_3_code (4 : Nat) (Option.some Jvm.ClassFile.FieldType.int)) ∈ TB := tk_t3 (j := 190) rfl rfl
theorem tk_773 : (Jvm.Cond.methodLink "LadderStreet$Course" (54 : Nat) ({ cls := "LadderStreet$Course", name := "widthsOn", desc := "(LLadderStreet$Moment;I)I" } : Jvm.MethodName)) ∈ TB := tk_t3 (j := 191) rfl rfl
theorem tk_774 : (Jvm.Cond.methodLink "LadderStreetLaw" (41 : Nat) ({ cls := "LadderStreet", name := "can", desc := "(II)I" } : Jvm.MethodName)) ∈ TB := tk_t3 (j := 192) rfl rfl
theorem tk_775 : (Jvm.Cond.instanceMethod ({ cls := "LadderStreet", name := "can", desc := "(II)I" } : Jvm.MethodName)) ∈ TB := tk_t3 (j := 193) rfl rfl
theorem tk_776 : (Jvm.Cond.selects "LadderStreet" ({ cls := "LadderStreet", name := "can", desc := "(II)I" } : Jvm.MethodName) ({ cls := "LadderStreet", name := "can", desc := "(II)I" } : Jvm.MethodName)) ∈ TB := tk_t3 (j := 194) rfl rfl
theorem tk_777 : (Jvm.Cond.code ({ cls := "LadderStreet", name := "can", desc := "(II)I" } : Jvm.MethodName) prog_1_method_9_code (3 : Nat) (Option.some Jvm.ClassFile.FieldType.int)) ∈ TB := tk_t3 (j := 195) rfl rfl
theorem tk_778 : (Jvm.Cond.methodLink "LadderStreet" (168 : Nat) ({ cls := "LadderStreet", name := "areThere", desc := "(II)Z" } : Jvm.MethodName)) ∈ TB := tk_t3 (j := 196) rfl rfl
theorem tk_780 : (Jvm.Cond.instanceMethod ({ cls := "LadderStreet", name := "areThere", desc := "(II)Z" } : Jvm.MethodName)) ∈ TB := tk_t3 (j := 198) rfl rfl
theorem tk_781 : (Jvm.Cond.code ({ cls := "LadderStreet", name := "areThere", desc := "(II)Z" } : Jvm.MethodName) prog_1_method_11_code (3 : Nat) (Option.some Jvm.ClassFile.FieldType.boolean)) ∈ TB := tk_t3 (j := 199) rfl rfl
theorem tk_782 : (Jvm.Cond.methodLink "LadderStreet" (172 : Nat) ({ cls := "java/lang/Math", name := "abs", desc := "(I)I" } : Jvm.MethodName)) ∈ TB := tk_t3 (j := 200) rfl rfl
theorem tk_783 : (Jvm.Cond.static ({ cls := "java/lang/Math", name := "abs", desc := "(I)I" } : Jvm.MethodName)) ∈ TB := tk_t3 (j := 201) rfl rfl
theorem tk_784 : (Jvm.Cond.code ({ cls := "java/lang/Math", name := "abs", desc := "(I)I" } : Jvm.MethodName) prog_16_method_59_code (1 : Nat) (Option.some Jvm.ClassFile.FieldType.int)) ∈ TB := tk_t3 (j := 202) rfl rfl
theorem tk_785 : (Jvm.Cond.methodLink "LadderStreet" (177 : Nat) ({ cls := "LadderStreet$Course", name := "fits", desc := "(LLadderStreet$Moment;II)Z" } : Jvm.MethodName)) ∈ TB := tk_t3 (j := 203) rfl rfl
theorem tk_786 : (Jvm.Cond.instanceMethod ({ cls := "LadderStreet$Course", name := "fits", desc := "(LLadderStreet$Moment;II)Z" } : Jvm.MethodName)) ∈ TB := tk_t3 (j := 204) rfl rfl
theorem tk_787 : (Jvm.Cond.selects "LadderStreet$Course" ({ cls := "LadderStreet$Course", name := "fits", desc := "(LLadderStreet$Moment;II)Z" } : Jvm.MethodName) ({ cls := "LadderStreet$Course", name := "fits", desc := "(LLadderStreet$Moment;II)Z" } : Jvm.MethodName)) ∈ TB := tk_t3 (j := 205) rfl rfl
theorem tk_788 : (Jvm.Cond.code ({ cls := "LadderStreet$Course", name := "fits", desc := "(LLadderStreet$Moment;II)Z" } : Jvm.MethodName) prog_2_method_8_code (4 : Nat) (Option.some Jvm.ClassFile.FieldType.boolean)) ∈ TB := tk_t3 (j := 206) rfl rfl
theorem tk_789 : (Jvm.Cond.methodLink "LadderStreet$Course" (77 : Nat) ({ cls := "LadderStreet$Town", name := "hasRung", desc := "(I)Z" } : Jvm.MethodName)) ∈ TB := tk_t3 (j := 207) rfl rfl
theorem tk_790 : (Jvm.Cond.methodLink "LadderStreet$Course" (81 : Nat) ({ cls := "LadderStreet$Moment", name := "isWhole", desc := "(I)Z" } : Jvm.MethodName)) ∈ TB := tk_t3 (j := 208) rfl rfl
theorem tk_791 : (Jvm.Cond.methodLink "LadderStreet$Course" (84 : Nat) ({ cls := "LadderStreet$Course", name := "roomOf", desc := "(LLadderStreet$Moment;I)I" } : Jvm.MethodName)) ∈ TB := tk_t3 (j := 209) rfl rfl
theorem tk_792 : (Jvm.Cond.methodLink "LadderStreetLaw" (183 : Nat) ({ cls := "LadderStreet", name := "count", desc := "(I)I" } : Jvm.MethodName)) ∈ TB := tk_t3 (j := 210) rfl rfl
theorem tk_793 : (Jvm.Cond.instanceMethod ({ cls := "LadderStreet", name := "count", desc := "(I)I" } : Jvm.MethodName)) ∈ TB := tk_t3 (j := 211) rfl rfl
theorem tk_794 : (Jvm.Cond.selects "LadderStreet" ({ cls := "LadderStreet", name := "count", desc := "(I)I" } : Jvm.MethodName) ({ cls := "LadderStreet", name := "count", desc := "(I)I" } : Jvm.MethodName)) ∈ TB := tk_t3 (j := 212) rfl rfl
theorem tk_795 : (Jvm.Cond.code ({ cls := "LadderStreet", name := "count", desc := "(I)I" } : Jvm.MethodName) prog_1_method_10_code (2 : Nat) (Option.some Jvm.ClassFile.FieldType.int)) ∈ TB := tk_t3 (j := 213) rfl rfl
theorem tk_796 : (Jvm.Cond.methodLink "LadderStreet" (187 : Nat) ({ cls := "LadderStreet$Moment", name := "minute", desc := "()I" } : Jvm.MethodName)) ∈ TB := tk_t3 (j := 214) rfl rfl
theorem tk_797 : (Jvm.Cond.methodLink "LadderStreet" (190 : Nat) ({ cls := "LadderStreet$Moment", name := "quarrels", desc := "()I" } : Jvm.MethodName)) ∈ TB := tk_t3 (j := 215) rfl rfl
theorem tk_798 : (Jvm.Cond.instanceMethod ({ cls := "LadderStreet$Moment", name := "quarrels", desc := "()I" } : Jvm.MethodName)) ∈ TB := tk_t3 (j := 216) rfl rfl
theorem tk_799 : (Jvm.Cond.selects "LadderStreet$Moment" ({ cls := "LadderStreet$Moment", name := "quarrels", desc := "()I" } : Jvm.MethodName) ({ cls := "LadderStreet$Moment", name := "quarrels", desc := "()I" } : Jvm.MethodName)) ∈ TB := tk_t3 (j := 217) rfl rfl
theorem tk_800 : (Jvm.Cond.code ({ cls := "LadderStreet$Moment", name := "quarrels", desc := "()I" } : Jvm.MethodName) prog_6_method_11_code (1 : Nat) (Option.some Jvm.ClassFile.FieldType.int)) ∈ TB := tk_t3 (j := 218) rfl rfl
theorem tk_801 : (Jvm.Cond.methodLink "LadderStreet" (193 : Nat) ({ cls := "LadderStreet$Moment", name := "broken", desc := "()I" } : Jvm.MethodName)) ∈ TB := tk_t3 (j := 219) rfl rfl
theorem tk_802 : (Jvm.Cond.instanceMethod ({ cls := "LadderStreet$Moment", name := "broken", desc := "()I" } : Jvm.MethodName)) ∈ TB := tk_t3 (j := 220) rfl rfl
theorem tk_803 : (Jvm.Cond.selects "LadderStreet$Moment" ({ cls := "LadderStreet$Moment", name := "broken", desc := "()I" } : Jvm.MethodName) ({ cls := "LadderStreet$Moment", name := "broken", desc := "()I" } : Jvm.MethodName)) ∈ TB := tk_t3 (j := 221) rfl rfl
theorem tk_804 : (Jvm.Cond.code ({ cls := "LadderStreet$Moment", name := "broken", desc := "()I" } : Jvm.MethodName) prog_6_method_13_code (1 : Nat) (Option.some Jvm.ClassFile.FieldType.int)) ∈ TB := tk_t3 (j := 222) rfl rfl
theorem tk_805 : (Jvm.Cond.methodLink "LadderStreet" (196 : Nat) ({ cls := "LadderStreet$Looks", name := "peopleWithGoal", desc := "(LLadderStreet$Moment;)I" } : Jvm.MethodName)) ∈ TB := tk_t3 (j := 223) rfl rfl
theorem tk_806 : (Jvm.Cond.instanceMethod ({ cls := "LadderStreet$Looks", name := "peopleWithGoal", desc := "(LLadderStreet$Moment;)I" } : Jvm.MethodName)) ∈ TB := tk_t3 (j := 224) rfl rfl
theorem tk_807 : (Jvm.Cond.selects "LadderStreet$Looks" ({ cls := "LadderStreet$Looks", name := "peopleWithGoal", desc := "(LLadderStreet$Moment;)I" } : Jvm.MethodName) ({ cls := "LadderStreet$Looks", name := "peopleWithGoal", desc := "(LLadderStreet$Moment;)I" } : Jvm.MethodName)) ∈ TB := tk_t3 (j := 225) rfl rfl
theorem tk_808 : (Jvm.Cond.code ({ cls := "LadderStreet$Looks", name := "peopleWithGoal", desc := "(LLadderStreet$Moment;)I" } : Jvm.MethodName) prog_5_method_4_code (4 : Nat) (Option.some Jvm.ClassFile.FieldType.int)) ∈ TB := tk_t3 (j := 226) rfl rfl
theorem tk_809 : (Jvm.Cond.methodLink "LadderStreet" (200 : Nat) ({ cls := "LadderStreet$Moment", name := "sumOf", desc := "(I)I" } : Jvm.MethodName)) ∈ TB := tk_t3 (j := 227) rfl rfl
theorem tk_810 : (Jvm.Cond.instanceMethod ({ cls := "LadderStreet$Moment", name := "sumOf", desc := "(I)I" } : Jvm.MethodName)) ∈ TB := tk_t3 (j := 228) rfl rfl
theorem tk_811 : (Jvm.Cond.selects "LadderStreet$Moment" ({ cls := "LadderStreet$Moment", name := "sumOf", desc := "(I)I" } : Jvm.MethodName) ({ cls := "LadderStreet$Moment", name := "sumOf", desc := "(I)I" } : Jvm.MethodName)) ∈ TB := tk_t3 (j := 229) rfl rfl
theorem tk_812 : (Jvm.Cond.code ({ cls := "LadderStreet$Moment", name := "sumOf", desc := "(I)I" } : Jvm.MethodName) prog_6_method_8_code (4 : Nat) (Option.some Jvm.ClassFile.FieldType.int)) ∈ TB := tk_t3 (j := 230) rfl rfl
theorem tk_813 : (Jvm.Cond.methodLink "LadderStreet$Moment" (41 : Nat) ({ cls := "LadderStreet$Moment", name := "of", desc := "(II)I" } : Jvm.MethodName)) ∈ TB := tk_t3 (j := 231) rfl rfl
theorem tk_814 : (Jvm.Cond.methodLink "LadderStreet" (203 : Nat) ({ cls := "LadderStreet$Shelf", name := "undoable", desc := "()I" } : Jvm.MethodName)) ∈ TB := tk_t3 (j := 232) rfl rfl
theorem tk_815 : (Jvm.Cond.instanceMethod ({ cls := "LadderStreet$Shelf", name := "undoable", desc := "()I" } : Jvm.MethodName)) ∈ TB := tk_t3 (j := 233) rfl rfl
theorem tk_816 : (Jvm.Cond.selects "LadderStreet$Shelf" ({ cls := "LadderStreet$Shelf", name := "undoable", desc := "()I" } : Jvm.MethodName) ({ cls := "LadderStreet$Shelf", name := "undoable", desc := "()I" } : Jvm.MethodName)) ∈ TB := tk_t3 (j := 234) rfl rfl
theorem tk_817 : (Jvm.Cond.code ({ cls := "LadderStreet$Shelf", name := "undoable", desc := "()I" } : Jvm.MethodName) prog_9_method_3_code (1 : Nat) (Option.some Jvm.ClassFile.FieldType.int)) ∈ TB := tk_t3 (j := 235) rfl rfl
theorem tk_818 : (Jvm.Cond.methodLink "LadderStreet" (206 : Nat) ({ cls := "LadderStreet$Rumours", name := "howMany", desc := "()I" } : Jvm.MethodName)) ∈ TB := tk_t3 (j := 236) rfl rfl
theorem tk_819 : (Jvm.Cond.instanceMethod ({ cls := "LadderStreet$Rumours", name := "howMany", desc := "()I" } : Jvm.MethodName)) ∈ TB := tk_t3 (j := 237) rfl rfl
theorem tk_820 : (Jvm.Cond.selects "LadderStreet$Rumours" ({ cls := "LadderStreet$Rumours", name := "howMany", desc := "()I" } : Jvm.MethodName) ({ cls := "LadderStreet$Rumours", name := "howMany", desc := "()I" } : Jvm.MethodName)) ∈ TB := tk_t3 (j := 238) rfl rfl
theorem tk_821 : (Jvm.Cond.code ({ cls := "LadderStreet$Rumours", name := "howMany", desc := "()I" } : Jvm.MethodName) prog_8_method_2_code (1 : Nat) (Option.some Jvm.ClassFile.FieldType.int)) ∈ TB := tk_t3 (j := 239) rfl rfl
theorem tk_822 : (Jvm.Cond.methodLink "LadderStreet" (209 : Nat) ({ cls := "LadderStreet$Shelf", name := "filledSlots", desc := "()I" } : Jvm.MethodName)) ∈ TB := tk_t4 (j := 0) rfl rfl
theorem tk_823 : (Jvm.Cond.instanceMethod ({ cls := "LadderStreet$Shelf", name := "filledSlots", desc := "()I" } : Jvm.MethodName)) ∈ TB := tk_t4 (j := 1) rfl rfl
theorem tk_824 : (Jvm.Cond.selects "LadderStreet$Shelf" ({ cls := "LadderStreet$Shelf", name := "filledSlots", desc := "()I" } : Jvm.MethodName) ({ cls := "LadderStreet$Shelf", name := "filledSlots", desc := "()I" } : Jvm.MethodName)) ∈ TB := tk_t4 (j := 2) rfl rfl
theorem tk_825 : (Jvm.Cond.code ({ cls := "LadderStreet$Shelf", name := "filledSlots", desc := "()I" } : Jvm.MethodName) prog_9_method_4_code (1 : Nat) (Option.some Jvm.ClassFile.FieldType.int)) ∈ TB := tk_t4 (j := 3) rfl rfl
theorem tk_826 : (Jvm.Cond.methodLink "LadderStreet$Shelf" (28 : Nat) ({ cls := "java/lang/Integer", name := "bitCount", desc := "(I)I" } : Jvm.MethodName)) ∈ TB := tk_t4 (j := 4) rfl rfl
theorem tk_827 : (Jvm.Cond.static ({ cls := "java/lang/Integer", name := "bitCount", desc := "(I)I" } : Jvm.MethodName)) ∈ TB := tk_t4 (j := 5) rfl rfl
theorem tk_828 : (Jvm.Cond.code ({ cls := "java/lang/Integer", name := "bitCount", desc := "(I)I" } : Jvm.MethodName) prog_15_method_49_code (1 : Nat) (Option.some Jvm.ClassFile.FieldType.int)) ∈ TB := tk_t4 (j := 6) rfl rfl
theorem tk_829 : (Jvm.Cond.constant "java/lang/Integer" (265 : Nat) (1431655765 : Int32)) ∈ TB := tk_t4 (j := 7) rfl rfl
theorem tk_830 : (Jvm.Cond.constant "java/lang/Integer" (266 : Nat) (858993459 : Int32)) ∈ TB := tk_t4 (j := 8) rfl rfl
theorem tk_831 : (Jvm.Cond.constant "java/lang/Integer" (267 : Nat) (252645135 : Int32)) ∈ TB := tk_t4 (j := 9) rfl rfl
theorem tk_832 : (Jvm.Cond.methodLink "LadderStreet" (212 : Nat) ({ cls := "LadderStreet$Town", name := "sumOfWidths", desc := "()I" } : Jvm.MethodName)) ∈ TB := tk_t4 (j := 10) rfl rfl
theorem tk_833 : (Jvm.Cond.instanceMethod ({ cls := "LadderStreet$Town", name := "sumOfWidths", desc := "()I" } : Jvm.MethodName)) ∈ TB := tk_t4 (j := 11) rfl rfl
theorem tk_834 : (Jvm.Cond.selects "LadderStreet$Town" ({ cls := "LadderStreet$Town", name := "sumOfWidths", desc := "()I" } : Jvm.MethodName) ({ cls := "LadderStreet$Town", name := "sumOfWidths", desc := "()I" } : Jvm.MethodName)) ∈ TB := tk_t4 (j := 12) rfl rfl
theorem tk_835 : (Jvm.Cond.code ({ cls := "LadderStreet$Town", name := "sumOfWidths", desc := "()I" } : Jvm.MethodName) prog_11_method_12_code (3 : Nat) (Option.some Jvm.ClassFile.FieldType.int)) ∈ TB := tk_t4 (j := 13) rfl rfl
theorem tk_836 : (Jvm.Cond.methodLink "LadderStreet$Town" (66 : Nat) ({ cls := "LadderStreet$Town", name := "widthOf", desc := "(I)I" } : Jvm.MethodName)) ∈ TB := tk_t4 (j := 14) rfl rfl
theorem tk_837 : (Jvm.Cond.methodLink "LadderStreet" (215 : Nat) ({ cls := "LadderStreet$Looks", name := "overfull", desc := "(LLadderStreet$Moment;)I" } : Jvm.MethodName)) ∈ TB := tk_t4 (j := 15) rfl rfl
theorem tk_838 : (Jvm.Cond.instanceMethod ({ cls := "LadderStreet$Looks", name := "overfull", desc := "(LLadderStreet$Moment;)I" } : Jvm.MethodName)) ∈ TB := tk_t4 (j := 16) rfl rfl
theorem tk_839 : (Jvm.Cond.selects "LadderStreet$Looks" ({ cls := "LadderStreet$Looks", name := "overfull", desc := "(LLadderStreet$Moment;)I" } : Jvm.MethodName) ({ cls := "LadderStreet$Looks", name := "overfull", desc := "(LLadderStreet$Moment;)I" } : Jvm.MethodName)) ∈ TB := tk_t4 (j := 17) rfl rfl
theorem tk_840 : (Jvm.Cond.code ({ cls := "LadderStreet$Looks", name := "overfull", desc := "(LLadderStreet$Moment;)I" } : Jvm.MethodName) prog_5_method_5_code (4 : Nat) (Option.some Jvm.ClassFile.FieldType.int)) ∈ TB := tk_t4 (j := 18) rfl rfl
theorem tk_841 : (Jvm.Cond.methodLink "LadderStreet$Looks" (34 : Nat) ({ cls := "LadderStreet$Course", name := "widthsOn", desc := "(LLadderStreet$Moment;I)I" } : Jvm.MethodName)) ∈ TB := tk_t4 (j := 19) rfl rfl
theorem tk_842 : (Jvm.Cond.methodLink "LadderStreet$Looks" (40 : Nat) ({ cls := "LadderStreet$Course", name := "roomOf", desc := "(LLadderStreet$Moment;I)I" } : Jvm.MethodName)) ∈ TB := tk_t4 (j := 20) rfl rfl
theorem tk_843 : (Jvm.Cond.methodLink "LadderStreet" (218 : Nat) ({ cls := "LadderStreet$Looks", name := "empty", desc := "(LLadderStreet$Moment;)I" } : Jvm.MethodName)) ∈ TB := tk_t4 (j := 21) rfl rfl
theorem tk_844 : (Jvm.Cond.instanceMethod ({ cls := "LadderStreet$Looks", name := "empty", desc := "(LLadderStreet$Moment;)I" } : Jvm.MethodName)) ∈ TB := tk_t4 (j := 22) rfl rfl
theorem tk_845 : (Jvm.Cond.selects "LadderStreet$Looks" ({ cls := "LadderStreet$Looks", name := "empty", desc := "(LLadderStreet$Moment;)I" } : Jvm.MethodName) ({ cls := "LadderStreet$Looks", name := "empty", desc := "(LLadderStreet$Moment;)I" } : Jvm.MethodName)) ∈ TB := tk_t4 (j := 23) rfl rfl
theorem tk_846 : (Jvm.Cond.code ({ cls := "LadderStreet$Looks", name := "empty", desc := "(LLadderStreet$Moment;)I" } : Jvm.MethodName) prog_5_method_6_code (4 : Nat) (Option.some Jvm.ClassFile.FieldType.int)) ∈ TB := tk_t4 (j := 24) rfl rfl
theorem tk_847 : (Jvm.Cond.methodLink "LadderStreet$Looks" (43 : Nat) ({ cls := "LadderStreet$Looks", name := "peopleOn", desc := "(LLadderStreet$Moment;I)I" } : Jvm.MethodName)) ∈ TB := tk_t4 (j := 25) rfl rfl
theorem tk_848 : (Jvm.Cond.methodLink "LadderStreet" (221 : Nat) ({ cls := "LadderStreet$Town", name := "sumOfThirst", desc := "()I" } : Jvm.MethodName)) ∈ TB := tk_t4 (j := 26) rfl rfl
theorem tk_849 : (Jvm.Cond.instanceMethod ({ cls := "LadderStreet$Town", name := "sumOfThirst", desc := "()I" } : Jvm.MethodName)) ∈ TB := tk_t4 (j := 27) rfl rfl
theorem tk_850 : (Jvm.Cond.selects "LadderStreet$Town" ({ cls := "LadderStreet$Town", name := "sumOfThirst", desc := "()I" } : Jvm.MethodName) ({ cls := "LadderStreet$Town", name := "sumOfThirst", desc := "()I" } : Jvm.MethodName)) ∈ TB := tk_t4 (j := 28) rfl rfl
theorem tk_851 : (Jvm.Cond.code ({ cls := "LadderStreet$Town", name := "sumOfThirst", desc := "()I" } : Jvm.MethodName) prog_11_method_13_code (3 : Nat) (Option.some Jvm.ClassFile.FieldType.int)) ∈ TB := tk_t4 (j := 29) rfl rfl
theorem tk_852 : (Jvm.Cond.methodLink "LadderStreet$Town" (69 : Nat) ({ cls := "LadderStreet$Town", name := "thirstOf", desc := "(I)I" } : Jvm.MethodName)) ∈ TB := tk_t4 (j := 30) rfl rfl
theorem tk_853 : (Jvm.Cond.methodLink "LadderStreetLaw" (45 : Nat) ({ cls := "LadderStreet", name := "send", desc := "(II)Z" } : Jvm.MethodName)) ∈ TB := tk_t4 (j := 31) rfl rfl
theorem tk_854 : (Jvm.Cond.instanceMethod ({ cls := "LadderStreet", name := "send", desc := "(II)Z" } : Jvm.MethodName)) ∈ TB := tk_t4 (j := 32) rfl rfl
theorem tk_855 : (Jvm.Cond.selects "LadderStreet" ({ cls := "LadderStreet", name := "send", desc := "(II)Z" } : Jvm.MethodName) ({ cls := "LadderStreet", name := "send", desc := "(II)Z" } : Jvm.MethodName)) ∈ TB := tk_t4 (j := 33) rfl rfl
theorem tk_856 : (Jvm.Cond.code ({ cls := "LadderStreet", name := "send", desc := "(II)Z" } : Jvm.MethodName) prog_1_method_14_code (5 : Nat) (Option.some Jvm.ClassFile.FieldType.boolean)) ∈ TB := tk_t4 (j := 34) rfl rfl
theorem tk_857 : (Jvm.Cond.methodLink "LadderStreet" (224 : Nat) ({ cls := "LadderStreet$Shelf", name := "remember", desc := "(LLadderStreet$Moment;)V" } : Jvm.MethodName)) ∈ TB := tk_t4 (j := 35) rfl rfl
theorem tk_858 : (Jvm.Cond.instanceMethod ({ cls := "LadderStreet$Shelf", name := "remember", desc := "(LLadderStreet$Moment;)V" } : Jvm.MethodName)) ∈ TB := tk_t4 (j := 36) rfl rfl
theorem tk_859 : (Jvm.Cond.selects "LadderStreet$Shelf" ({ cls := "LadderStreet$Shelf", name := "remember", desc := "(LLadderStreet$Moment;)V" } : Jvm.MethodName) ({ cls := "LadderStreet$Shelf", name := "remember", desc := "(LLadderStreet$Moment;)V" } : Jvm.MethodName)) ∈ TB := tk_t4 (j := 37) rfl rfl
theorem tk_860 : (Jvm.Cond.code ({ cls := "LadderStreet$Shelf", name := "remember", desc := "(LLadderStreet$Moment;)V" } : Jvm.MethodName) prog_9_method_5_code (2 : Nat) (Option.none : Option Jvm.ClassFile.FieldType)) ∈ TB := tk_t4 (j := 38) rfl rfl
theorem tk_861 : (Jvm.Cond.methodLink "LadderStreet$Shelf" (34 : Nat) ({ cls := "LadderStreet$Moment", name := "copyTo", desc := "([II)V" } : Jvm.MethodName)) ∈ TB := tk_t4 (j := 39) rfl rfl
theorem tk_862 : (Jvm.Cond.instanceMethod ({ cls := "LadderStreet$Moment", name := "copyTo", desc := "([II)V" } : Jvm.MethodName)) ∈ TB := tk_t4 (j := 40) rfl rfl
theorem tk_863 : (Jvm.Cond.selects "LadderStreet$Moment" ({ cls := "LadderStreet$Moment", name := "copyTo", desc := "([II)V" } : Jvm.MethodName) ({ cls := "LadderStreet$Moment", name := "copyTo", desc := "([II)V" } : Jvm.MethodName)) ∈ TB := tk_t4 (j := 41) rfl rfl
theorem tk_864 : (Jvm.Cond.code ({ cls := "LadderStreet$Moment", name := "copyTo", desc := "([II)V" } : Jvm.MethodName) prog_6_method_4_code (3 : Nat) (Option.none : Option Jvm.ClassFile.FieldType)) ∈ TB := tk_t4 (j := 42) rfl rfl
theorem tk_865 : (Jvm.Cond.methodLink "LadderStreet$Moment" (31 : Nat) ({ cls := "java/lang/System", name := "arraycopy", desc := "(Ljava/lang/Object;ILjava/lang/Object;II)V" } : Jvm.MethodName)) ∈ TB := tk_t4 (j := 43) rfl rfl
theorem tk_866 : (Jvm.Cond.methodLink "LadderStreet$Shelf" (38 : Nat) ({ cls := "java/lang/Math", name := "min", desc := "(II)I" } : Jvm.MethodName)) ∈ TB := tk_t4 (j := 44) rfl rfl
theorem tk_867 : (Jvm.Cond.methodLink "LadderStreet" (228 : Nat) ({ cls := "LadderStreet$Moment", name := "put", desc := "(III)V" } : Jvm.MethodName)) ∈ TB := tk_t4 (j := 45) rfl rfl
theorem tk_868 : (Jvm.Cond.methodLink "LadderStreetLaw" (50 : Nat) ({ cls := "LadderStreet", name := "mend", desc := "(I)Z" } : Jvm.MethodName)) ∈ TB := tk_t4 (j := 46) rfl rfl
theorem tk_869 : (Jvm.Cond.instanceMethod ({ cls := "LadderStreet", name := "mend", desc := "(I)Z" } : Jvm.MethodName)) ∈ TB := tk_t4 (j := 47) rfl rfl
theorem tk_870 : (Jvm.Cond.selects "LadderStreet" ({ cls := "LadderStreet", name := "mend", desc := "(I)Z" } : Jvm.MethodName) ({ cls := "LadderStreet", name := "mend", desc := "(I)Z" } : Jvm.MethodName)) ∈ TB := tk_t4 (j := 48) rfl rfl
theorem tk_871 : (Jvm.Cond.code ({ cls := "LadderStreet", name := "mend", desc := "(I)Z" } : Jvm.MethodName) prog_1_method_15_code (2 : Nat) (Option.some Jvm.ClassFile.FieldType.boolean)) ∈ TB := tk_t4 (j := 49) rfl rfl
theorem tk_872 : (Jvm.Cond.methodLink "LadderStreet" (232 : Nat) ({ cls := "LadderStreet$Moment", name := "makeWhole", desc := "(I)V" } : Jvm.MethodName)) ∈ TB := tk_t4 (j := 50) rfl rfl
theorem tk_873 : (Jvm.Cond.instanceMethod ({ cls := "LadderStreet$Moment", name := "makeWhole", desc := "(I)V" } : Jvm.MethodName)) ∈ TB := tk_t4 (j := 51) rfl rfl
theorem tk_874 : (Jvm.Cond.selects "LadderStreet$Moment" ({ cls := "LadderStreet$Moment", name := "makeWhole", desc := "(I)V" } : Jvm.MethodName) ({ cls := "LadderStreet$Moment", name := "makeWhole", desc := "(I)V" } : Jvm.MethodName)) ∈ TB := tk_t4 (j := 52) rfl rfl
theorem tk_875 : (Jvm.Cond.code ({ cls := "LadderStreet$Moment", name := "makeWhole", desc := "(I)V" } : Jvm.MethodName) prog_6_method_15_code (2 : Nat) (Option.none : Option Jvm.ClassFile.FieldType)) ∈ TB := tk_t4 (j := 53) rfl rfl
theorem tk_876 : (Jvm.Cond.methodLink "LadderStreetLaw" (55 : Nat) ({ cls := "LadderStreet", name := "bucket", desc := "(I)I" } : Jvm.MethodName)) ∈ TB := tk_t4 (j := 54) rfl rfl
theorem tk_877 : (Jvm.Cond.instanceMethod ({ cls := "LadderStreet", name := "bucket", desc := "(I)I" } : Jvm.MethodName)) ∈ TB := tk_t4 (j := 55) rfl rfl
theorem tk_878 : (Jvm.Cond.selects "LadderStreet" ({ cls := "LadderStreet", name := "bucket", desc := "(I)I" } : Jvm.MethodName) ({ cls := "LadderStreet", name := "bucket", desc := "(I)I" } : Jvm.MethodName)) ∈ TB := tk_t4 (j := 56) rfl rfl
theorem tk_879 : (Jvm.Cond.code ({ cls := "LadderStreet", name := "bucket", desc := "(I)I" } : Jvm.MethodName) prog_1_method_16_code (2 : Nat) (Option.some Jvm.ClassFile.FieldType.int)) ∈ TB := tk_t4 (j := 57) rfl rfl
theorem tk_880 : (Jvm.Cond.methodLink "LadderStreet" (235 : Nat) ({ cls := "LadderStreet", name := "isWithin", desc := "(III)Z" } : Jvm.MethodName)) ∈ TB := tk_t4 (j := 58) rfl rfl
theorem tk_881 : (Jvm.Cond.static ({ cls := "LadderStreet", name := "isWithin", desc := "(III)Z" } : Jvm.MethodName)) ∈ TB := tk_t4 (j := 59) rfl rfl
theorem tk_882 : (Jvm.Cond.code ({ cls := "LadderStreet", name := "isWithin", desc := "(III)Z" } : Jvm.MethodName) prog_1_method_13_code (3 : Nat) (Option.some Jvm.ClassFile.FieldType.boolean)) ∈ TB := tk_t4 (j := 60) rfl rfl
theorem tk_883 : (Jvm.Cond.methodLink "LadderStreet" (239 : Nat) ({ cls := "LadderStreet$Course", name := "letDown", desc := "(LLadderStreet$Moment;I)I" } : Jvm.MethodName)) ∈ TB := tk_t4 (j := 61) rfl rfl
theorem tk_884 : (Jvm.Cond.instanceMethod ({ cls := "LadderStreet$Course", name := "letDown", desc := "(LLadderStreet$Moment;I)I" } : Jvm.MethodName)) ∈ TB := tk_t4 (j := 62) rfl rfl
theorem tk_885 : (Jvm.Cond.selects "LadderStreet$Course" ({ cls := "LadderStreet$Course", name := "letDown", desc := "(LLadderStreet$Moment;I)I" } : Jvm.MethodName) ({ cls := "LadderStreet$Course", name := "letDown", desc := "(LLadderStreet$Moment;I)I" } : Jvm.MethodName)) ∈ TB := tk_t4 (j := 63) rfl rfl
theorem tk_886 : (Jvm.Cond.code ({ cls := "LadderStreet$Course", name := "letDown", desc := "(LLadderStreet$Moment;I)I" } : Jvm.MethodName) prog_2_method_14_code (7 : Nat) (Option.some Jvm.ClassFile.FieldType.int)) ∈ TB := tk_t4 (j := 64) rfl rfl
theorem tk_887 : (Jvm.Cond.methodLink "LadderStreet$Course" (135 : Nat) ({ cls := "LadderStreet$Course", name := "cupOf", desc := "(LLadderStreet$Moment;II)I" } : Jvm.MethodName)) ∈ TB := tk_t4 (j := 65) rfl rfl
theorem tk_889 : (Jvm.Cond.instanceMethod ({ cls := "LadderStreet$Course", name := "cupOf", desc := "(LLadderStreet$Moment;II)I" } : Jvm.MethodName)) ∈ TB := tk_t4 (j := 67) rfl rfl
theorem tk_890 : (Jvm.Cond.code ({ cls := "LadderStreet$Course", name := "cupOf", desc := "(LLadderStreet$Moment;II)I" } : Jvm.MethodName) prog_2_method_5_code (4 : Nat) (Option.some Jvm.ClassFile.FieldType.int)) ∈ TB := tk_t4 (j := 68) rfl rfl
theorem tk_891 : (Jvm.Cond.methodLink "LadderStreet$Course" (58 : Nat) ({ cls := "LadderStreet$Course", name := "setPerson", desc := "(LLadderStreet$Moment;I)V" } : Jvm.MethodName)) ∈ TB := tk_t4 (j := 69) rfl rfl
theorem tk_893 : (Jvm.Cond.instanceMethod ({ cls := "LadderStreet$Course", name := "setPerson", desc := "(LLadderStreet$Moment;I)V" } : Jvm.MethodName)) ∈ TB := tk_t4 (j := 71) rfl rfl
theorem tk_894 : (Jvm.Cond.code ({ cls := "LadderStreet$Course", name := "setPerson", desc := "(LLadderStreet$Moment;I)V" } : Jvm.MethodName) prog_2_method_6_code (3 : Nat) (Option.none : Option Jvm.ClassFile.FieldType)) ∈ TB := tk_t4 (j := 72) rfl rfl
theorem tk_895 : (Jvm.Cond.methodLink "LadderStreet$Course" (68 : Nat) ({ cls := "LadderStreet$Town", name := "temperOf", desc := "(I)I" } : Jvm.MethodName)) ∈ TB := tk_t4 (j := 73) rfl rfl
theorem tk_896 : (Jvm.Cond.methodLink "LadderStreet$Course" (71 : Nat) ({ cls := "LadderStreet$Town", name := "thirstOf", desc := "(I)I" } : Jvm.MethodName)) ∈ TB := tk_t4 (j := 74) rfl rfl
theorem tk_897 : (Jvm.Cond.methodLink "LadderStreet$Course" (103 : Nat) ({ cls := "LadderStreet$Moment", name := "put", desc := "(III)V" } : Jvm.MethodName)) ∈ TB := tk_t4 (j := 75) rfl rfl
theorem tk_898 : (Jvm.Cond.methodLink "LadderStreetLaw" (59 : Nat) ({ cls := "LadderStreet", name := "minutes", desc := "(I)I" } : Jvm.MethodName)) ∈ TB := tk_t4 (j := 76) rfl rfl
theorem tk_899 : (Jvm.Cond.instanceMethod ({ cls := "LadderStreet", name := "minutes", desc := "(I)I" } : Jvm.MethodName)) ∈ TB := tk_t4 (j := 77) rfl rfl
theorem tk_900 : (Jvm.Cond.selects "LadderStreet" ({ cls := "LadderStreet", name := "minutes", desc := "(I)I" } : Jvm.MethodName) ({ cls := "LadderStreet", name := "minutes", desc := "(I)I" } : Jvm.MethodName)) ∈ TB := tk_t4 (j := 78) rfl rfl
theorem tk_901 : (Jvm.Cond.code ({ cls := "LadderStreet", name := "minutes", desc := "(I)I" } : Jvm.MethodName) prog_1_method_17_code (3 : Nat) (Option.some Jvm.ClassFile.FieldType.int)) ∈ TB := tk_t4 (j := 79) rfl rfl
theorem tk_902 : (Jvm.Cond.methodLink "LadderStreet" (245 : Nat) ({ cls := "LadderStreet$Course", name := "oneMinute", desc := "(LLadderStreet$Moment;IZ)V" } : Jvm.MethodName)) ∈ TB := tk_t4 (j := 80) rfl rfl
theorem tk_903 : (Jvm.Cond.instanceMethod ({ cls := "LadderStreet$Course", name := "oneMinute", desc := "(LLadderStreet$Moment;IZ)V" } : Jvm.MethodName)) ∈ TB := tk_t4 (j := 81) rfl rfl
theorem tk_904 : (Jvm.Cond.selects "LadderStreet$Course" ({ cls := "LadderStreet$Course", name := "oneMinute", desc := "(LLadderStreet$Moment;IZ)V" } : Jvm.MethodName) ({ cls := "LadderStreet$Course", name := "oneMinute", desc := "(LLadderStreet$Moment;IZ)V" } : Jvm.MethodName)) ∈ TB := tk_t4 (j := 82) rfl rfl
theorem tk_905 : (Jvm.Cond.code ({ cls := "LadderStreet$Course", name := "oneMinute", desc := "(LLadderStreet$Moment;IZ)V" } : Jvm.MethodName) prog_2_method_9_code (5 : Nat) (Option.none : Option Jvm.ClassFile.FieldType)) ∈ TB := tk_t4 (j := 83) rfl rfl
theorem tk_906 : (Jvm.Cond.methodLink "LadderStreet$Course" (87 : Nat) ({ cls := "LadderStreet$Course", name := "goOn", desc := "(LLadderStreet$Moment;I)V" } : Jvm.MethodName)) ∈ TB := tk_t4 (j := 84) rfl rfl
theorem tk_908 : (Jvm.Cond.instanceMethod ({ cls := "LadderStreet$Course", name := "goOn", desc := "(LLadderStreet$Moment;I)V" } : Jvm.MethodName)) ∈ TB := tk_t4 (j := 86) rfl rfl
theorem tk_909 : (Jvm.Cond.code ({ cls := "LadderStreet$Course", name := "goOn", desc := "(LLadderStreet$Moment;I)V" } : Jvm.MethodName) prog_2_method_10_code (5 : Nat) (Option.none : Option Jvm.ClassFile.FieldType)) ∈ TB := tk_t4 (j := 87) rfl rfl
theorem tk_910 : (Jvm.Cond.methodLink "LadderStreet$Course" (96 : Nat) ({ cls := "LadderStreet$Course", name := "towards", desc := "(LLadderStreet$Moment;I)I" } : Jvm.MethodName)) ∈ TB := tk_t4 (j := 88) rfl rfl
theorem tk_911 : (Jvm.Cond.instanceMethod ({ cls := "LadderStreet$Course", name := "towards", desc := "(LLadderStreet$Moment;I)I" } : Jvm.MethodName)) ∈ TB := tk_t4 (j := 89) rfl rfl
theorem tk_912 : (Jvm.Cond.selects "LadderStreet$Course" ({ cls := "LadderStreet$Course", name := "towards", desc := "(LLadderStreet$Moment;I)I" } : Jvm.MethodName) ({ cls := "LadderStreet$Course", name := "towards", desc := "(LLadderStreet$Moment;I)I" } : Jvm.MethodName)) ∈ TB := tk_t4 (j := 90) rfl rfl
theorem tk_913 : (Jvm.Cond.code ({ cls := "LadderStreet$Course", name := "towards", desc := "(LLadderStreet$Moment;I)I" } : Jvm.MethodName) prog_2_method_11_code (4 : Nat) (Option.some Jvm.ClassFile.FieldType.int)) ∈ TB := tk_t4 (j := 91) rfl rfl
theorem tk_914 : (Jvm.Cond.methodLink "LadderStreet$Course" (99 : Nat) ({ cls := "LadderStreet$Course", name := "fits", desc := "(LLadderStreet$Moment;II)Z" } : Jvm.MethodName)) ∈ TB := tk_t4 (j := 92) rfl rfl
theorem tk_915 : (Jvm.Cond.methodLink "LadderStreet$Course" (107 : Nat) ({ cls := "LadderStreet$Course", name := "quarrelOf", desc := "(LLadderStreet$Moment;II)I" } : Jvm.MethodName)) ∈ TB := tk_t4 (j := 93) rfl rfl
theorem tk_917 : (Jvm.Cond.instanceMethod ({ cls := "LadderStreet$Course", name := "quarrelOf", desc := "(LLadderStreet$Moment;II)I" } : Jvm.MethodName)) ∈ TB := tk_t4 (j := 95) rfl rfl
theorem tk_918 : (Jvm.Cond.code ({ cls := "LadderStreet$Course", name := "quarrelOf", desc := "(LLadderStreet$Moment;II)I" } : Jvm.MethodName) prog_2_method_4_code (5 : Nat) (Option.some Jvm.ClassFile.FieldType.int)) ∈ TB := tk_t4 (j := 96) rfl rfl
theorem tk_919 : (Jvm.Cond.methodLink "LadderStreet$Course" (111 : Nat) ({ cls := "LadderStreet$Moment", name := "addQuarrels", desc := "(I)V" } : Jvm.MethodName)) ∈ TB := tk_t4 (j := 97) rfl rfl
theorem tk_920 : (Jvm.Cond.instanceMethod ({ cls := "LadderStreet$Moment", name := "addQuarrels", desc := "(I)V" } : Jvm.MethodName)) ∈ TB := tk_t4 (j := 98) rfl rfl
theorem tk_921 : (Jvm.Cond.selects "LadderStreet$Moment" ({ cls := "LadderStreet$Moment", name := "addQuarrels", desc := "(I)V" } : Jvm.MethodName) ({ cls := "LadderStreet$Moment", name := "addQuarrels", desc := "(I)V" } : Jvm.MethodName)) ∈ TB := tk_t4 (j := 99) rfl rfl
theorem tk_922 : (Jvm.Cond.code ({ cls := "LadderStreet$Moment", name := "addQuarrels", desc := "(I)V" } : Jvm.MethodName) prog_6_method_12_code (2 : Nat) (Option.none : Option Jvm.ClassFile.FieldType)) ∈ TB := tk_t4 (j := 100) rfl rfl
theorem tk_923 : (Jvm.Cond.constant "LadderStreet$Moment" (45 : Nat) (99999 : Int32)) ∈ TB := tk_t4 (j := 101) rfl rfl
theorem tk_924 : (Jvm.Cond.methodLink "LadderStreet$Moment" (46 : Nat) ({ cls := "java/lang/Math", name := "min", desc := "(II)I" } : Jvm.MethodName)) ∈ TB := tk_t4 (j := 102) rfl rfl
theorem tk_925 : (Jvm.Cond.methodLink "LadderStreet$Course" (115 : Nat) ({ cls := "LadderStreet$Moment", name := "stopGoing", desc := "(I)V" } : Jvm.MethodName)) ∈ TB := tk_t4 (j := 103) rfl rfl
theorem tk_926 : (Jvm.Cond.instanceMethod ({ cls := "LadderStreet$Moment", name := "stopGoing", desc := "(I)V" } : Jvm.MethodName)) ∈ TB := tk_t4 (j := 104) rfl rfl
theorem tk_927 : (Jvm.Cond.selects "LadderStreet$Moment" ({ cls := "LadderStreet$Moment", name := "stopGoing", desc := "(I)V" } : Jvm.MethodName) ({ cls := "LadderStreet$Moment", name := "stopGoing", desc := "(I)V" } : Jvm.MethodName)) ∈ TB := tk_t4 (j := 105) rfl rfl
theorem tk_928 : (Jvm.Cond.code ({ cls := "LadderStreet$Moment", name := "stopGoing", desc := "(I)V" } : Jvm.MethodName) prog_6_method_17_code (2 : Nat) (Option.none : Option Jvm.ClassFile.FieldType)) ∈ TB := tk_t4 (j := 106) rfl rfl
theorem tk_929 : (Jvm.Cond.methodLink "LadderStreet$Course" (90 : Nat) ({ cls := "LadderStreet$Course", name := "breakAndFall", desc := "(LLadderStreet$Moment;I)V" } : Jvm.MethodName)) ∈ TB := tk_t4 (j := 107) rfl rfl
theorem tk_931 : (Jvm.Cond.instanceMethod ({ cls := "LadderStreet$Course", name := "breakAndFall", desc := "(LLadderStreet$Moment;I)V" } : Jvm.MethodName)) ∈ TB := tk_t4 (j := 109) rfl rfl
theorem tk_932 : (Jvm.Cond.code ({ cls := "LadderStreet$Course", name := "breakAndFall", desc := "(LLadderStreet$Moment;I)V" } : Jvm.MethodName) prog_2_method_12_code (6 : Nat) (Option.none : Option Jvm.ClassFile.FieldType)) ∈ TB := tk_t4 (j := 110) rfl rfl
theorem tk_934 : (Jvm.Cond.static ({ cls := "LadderStreet", name := "lot", desc := "(III)I" } : Jvm.MethodName)) ∈ TB := tk_t4 (j := 112) rfl rfl
theorem tk_935 : (Jvm.Cond.code ({ cls := "LadderStreet", name := "lot", desc := "(III)I" } : Jvm.MethodName) prog_1_method_51_code (4 : Nat) (Option.some Jvm.ClassFile.FieldType.int)) ∈ TB := tk_t4 (j := 113) rfl rfl
theorem tk_936 : (Jvm.Cond.methodLink "LadderStreet" (356 : Nat) ({ cls := "LadderStreet", name := "stirred", desc := "(II)I" } : Jvm.MethodName)) ∈ TB := tk_t4 (j := 114) rfl rfl
theorem tk_937 : (Jvm.Cond.static ({ cls := "LadderStreet", name := "stirred", desc := "(II)I" } : Jvm.MethodName)) ∈ TB := tk_t4 (j := 115) rfl rfl
theorem tk_938 : (Jvm.Cond.code ({ cls := "LadderStreet", name := "stirred", desc := "(II)I" } : Jvm.MethodName) prog_1_method_52_code (3 : Nat) (Option.some Jvm.ClassFile.FieldType.int)) ∈ TB := tk_t4 (j := 116) rfl rfl
theorem tk_939 : (Jvm.Cond.constant "LadderStreet" (359 : Nat) (1103515245 : Int32)) ∈ TB := tk_t4 (j := 117) rfl rfl
theorem tk_940 : (Jvm.Cond.methodLink "LadderStreet$Course" (122 : Nat) ({ cls := "LadderStreet$Course", name := "breaksOf", desc := "(LLadderStreet$Moment;I)I" } : Jvm.MethodName)) ∈ TB := tk_t4 (j := 118) rfl rfl
theorem tk_942 : (Jvm.Cond.methodLink "LadderStreet$Course" (129 : Nat) ({ cls := "LadderStreet$Moment", name := "breakDown", desc := "(I)V" } : Jvm.MethodName)) ∈ TB := tk_t4 (j := 120) rfl rfl
theorem tk_943 : (Jvm.Cond.instanceMethod ({ cls := "LadderStreet$Moment", name := "breakDown", desc := "(I)V" } : Jvm.MethodName)) ∈ TB := tk_t4 (j := 121) rfl rfl
theorem tk_944 : (Jvm.Cond.selects "LadderStreet$Moment" ({ cls := "LadderStreet$Moment", name := "breakDown", desc := "(I)V" } : Jvm.MethodName) ({ cls := "LadderStreet$Moment", name := "breakDown", desc := "(I)V" } : Jvm.MethodName)) ∈ TB := tk_t4 (j := 122) rfl rfl
theorem tk_945 : (Jvm.Cond.code ({ cls := "LadderStreet$Moment", name := "breakDown", desc := "(I)V" } : Jvm.MethodName) prog_6_method_16_code (2 : Nat) (Option.none : Option Jvm.ClassFile.FieldType)) ∈ TB := tk_t4 (j := 123) rfl rfl
theorem tk_946 : (Jvm.Cond.methodLink "LadderStreet$Course" (132 : Nat) ({ cls := "LadderStreet$Course", name := "fall", desc := "(LLadderStreet$Moment;I)V" } : Jvm.MethodName)) ∈ TB := tk_t4 (j := 124) rfl rfl
theorem tk_948 : (Jvm.Cond.instanceMethod ({ cls := "LadderStreet$Course", name := "fall", desc := "(LLadderStreet$Moment;I)V" } : Jvm.MethodName)) ∈ TB := tk_t4 (j := 126) rfl rfl
theorem tk_949 : (Jvm.Cond.code ({ cls := "LadderStreet$Course", name := "fall", desc := "(LLadderStreet$Moment;I)V" } : Jvm.MethodName) prog_2_method_13_code (4 : Nat) (Option.none : Option Jvm.ClassFile.FieldType)) ∈ TB := tk_t4 (j := 127) rfl rfl
theorem tk_950 : (Jvm.Cond.methodLink "LadderStreet$Course" (93 : Nat) ({ cls := "LadderStreet$Moment", name := "nextMinute", desc := "()V" } : Jvm.MethodName)) ∈ TB := tk_t4 (j := 128) rfl rfl
theorem tk_951 : (Jvm.Cond.instanceMethod ({ cls := "LadderStreet$Moment", name := "nextMinute", desc := "()V" } : Jvm.MethodName)) ∈ TB := tk_t4 (j := 129) rfl rfl
theorem tk_952 : (Jvm.Cond.selects "LadderStreet$Moment" ({ cls := "LadderStreet$Moment", name := "nextMinute", desc := "()V" } : Jvm.MethodName) ({ cls := "LadderStreet$Moment", name := "nextMinute", desc := "()V" } : Jvm.MethodName)) ∈ TB := tk_t4 (j := 130) rfl rfl
theorem tk_953 : (Jvm.Cond.code ({ cls := "LadderStreet$Moment", name := "nextMinute", desc := "()V" } : Jvm.MethodName) prog_6_method_10_code (1 : Nat) (Option.none : Option Jvm.ClassFile.FieldType)) ∈ TB := tk_t4 (j := 131) rfl rfl
theorem tk_954 : (Jvm.Cond.methodLink "LadderStreetLaw" (63 : Nat) ({ cls := "LadderStreet", name := "undo", desc := "()Z" } : Jvm.MethodName)) ∈ TB := tk_t4 (j := 132) rfl rfl
theorem tk_955 : (Jvm.Cond.instanceMethod ({ cls := "LadderStreet", name := "undo", desc := "()Z" } : Jvm.MethodName)) ∈ TB := tk_t4 (j := 133) rfl rfl
theorem tk_956 : (Jvm.Cond.selects "LadderStreet" ({ cls := "LadderStreet", name := "undo", desc := "()Z" } : Jvm.MethodName) ({ cls := "LadderStreet", name := "undo", desc := "()Z" } : Jvm.MethodName)) ∈ TB := tk_t4 (j := 134) rfl rfl
theorem tk_957 : (Jvm.Cond.code ({ cls := "LadderStreet", name := "undo", desc := "()Z" } : Jvm.MethodName) prog_1_method_18_code (1 : Nat) (Option.some Jvm.ClassFile.FieldType.boolean)) ∈ TB := tk_t4 (j := 135) rfl rfl
theorem tk_958 : (Jvm.Cond.methodLink "LadderStreet" (249 : Nat) ({ cls := "LadderStreet$Shelf", name := "bringBack", desc := "(LLadderStreet$Moment;)Z" } : Jvm.MethodName)) ∈ TB := tk_t4 (j := 136) rfl rfl
theorem tk_959 : (Jvm.Cond.instanceMethod ({ cls := "LadderStreet$Shelf", name := "bringBack", desc := "(LLadderStreet$Moment;)Z" } : Jvm.MethodName)) ∈ TB := tk_t4 (j := 137) rfl rfl
theorem tk_960 : (Jvm.Cond.selects "LadderStreet$Shelf" ({ cls := "LadderStreet$Shelf", name := "bringBack", desc := "(LLadderStreet$Moment;)Z" } : Jvm.MethodName) ({ cls := "LadderStreet$Shelf", name := "bringBack", desc := "(LLadderStreet$Moment;)Z" } : Jvm.MethodName)) ∈ TB := tk_t4 (j := 138) rfl rfl
theorem tk_961 : (Jvm.Cond.code ({ cls := "LadderStreet$Shelf", name := "bringBack", desc := "(LLadderStreet$Moment;)Z" } : Jvm.MethodName) prog_9_method_6_code (2 : Nat) (Option.some Jvm.ClassFile.FieldType.boolean)) ∈ TB := tk_t4 (j := 139) rfl rfl
theorem tk_962 : (Jvm.Cond.methodLink "LadderStreet$Shelf" (44 : Nat) ({ cls := "LadderStreet$Moment", name := "copyFrom", desc := "([II)V" } : Jvm.MethodName)) ∈ TB := tk_t4 (j := 140) rfl rfl
theorem tk_963 : (Jvm.Cond.instanceMethod ({ cls := "LadderStreet$Moment", name := "copyFrom", desc := "([II)V" } : Jvm.MethodName)) ∈ TB := tk_t4 (j := 141) rfl rfl
theorem tk_964 : (Jvm.Cond.selects "LadderStreet$Moment" ({ cls := "LadderStreet$Moment", name := "copyFrom", desc := "([II)V" } : Jvm.MethodName) ({ cls := "LadderStreet$Moment", name := "copyFrom", desc := "([II)V" } : Jvm.MethodName)) ∈ TB := tk_t4 (j := 142) rfl rfl
theorem tk_965 : (Jvm.Cond.code ({ cls := "LadderStreet$Moment", name := "copyFrom", desc := "([II)V" } : Jvm.MethodName) prog_6_method_5_code (3 : Nat) (Option.none : Option Jvm.ClassFile.FieldType)) ∈ TB := tk_t4 (j := 143) rfl rfl
theorem tk_966 : (Jvm.Cond.methodLink "LadderStreetLaw" (175 : Nat) ({ cls := "LadderStreet", name := "hold", desc := "(I)Z" } : Jvm.MethodName)) ∈ TB := tk_t4 (j := 144) rfl rfl
theorem tk_967 : (Jvm.Cond.instanceMethod ({ cls := "LadderStreet", name := "hold", desc := "(I)Z" } : Jvm.MethodName)) ∈ TB := tk_t4 (j := 145) rfl rfl
theorem tk_968 : (Jvm.Cond.selects "LadderStreet" ({ cls := "LadderStreet", name := "hold", desc := "(I)Z" } : Jvm.MethodName) ({ cls := "LadderStreet", name := "hold", desc := "(I)Z" } : Jvm.MethodName)) ∈ TB := tk_t4 (j := 146) rfl rfl
theorem tk_969 : (Jvm.Cond.code ({ cls := "LadderStreet", name := "hold", desc := "(I)Z" } : Jvm.MethodName) prog_1_method_19_code (2 : Nat) (Option.some Jvm.ClassFile.FieldType.boolean)) ∈ TB := tk_t4 (j := 147) rfl rfl
theorem tk_970 : (Jvm.Cond.methodLink "LadderStreet" (253 : Nat) ({ cls := "LadderStreet$Shelf", name := "holdIn", desc := "(ILLadderStreet$Moment;)Z" } : Jvm.MethodName)) ∈ TB := tk_t4 (j := 148) rfl rfl
theorem tk_971 : (Jvm.Cond.instanceMethod ({ cls := "LadderStreet$Shelf", name := "holdIn", desc := "(ILLadderStreet$Moment;)Z" } : Jvm.MethodName)) ∈ TB := tk_t4 (j := 149) rfl rfl
theorem tk_972 : (Jvm.Cond.selects "LadderStreet$Shelf" ({ cls := "LadderStreet$Shelf", name := "holdIn", desc := "(ILLadderStreet$Moment;)Z" } : Jvm.MethodName) ({ cls := "LadderStreet$Shelf", name := "holdIn", desc := "(ILLadderStreet$Moment;)Z" } : Jvm.MethodName)) ∈ TB := tk_t4 (j := 150) rfl rfl
theorem tk_973 : (Jvm.Cond.code ({ cls := "LadderStreet$Shelf", name := "holdIn", desc := "(ILLadderStreet$Moment;)Z" } : Jvm.MethodName) prog_9_method_7_code (3 : Nat) (Option.some Jvm.ClassFile.FieldType.boolean)) ∈ TB := tk_t4 (j := 151) rfl rfl
theorem tk_974 : (Jvm.Cond.methodLink "LadderStreetLaw" (179 : Nat) ({ cls := "LadderStreet", name := "restore", desc := "(I)Z" } : Jvm.MethodName)) ∈ TB := tk_t4 (j := 152) rfl rfl
theorem tk_975 : (Jvm.Cond.instanceMethod ({ cls := "LadderStreet", name := "restore", desc := "(I)Z" } : Jvm.MethodName)) ∈ TB := tk_t4 (j := 153) rfl rfl
theorem tk_976 : (Jvm.Cond.selects "LadderStreet" ({ cls := "LadderStreet", name := "restore", desc := "(I)Z" } : Jvm.MethodName) ({ cls := "LadderStreet", name := "restore", desc := "(I)Z" } : Jvm.MethodName)) ∈ TB := tk_t4 (j := 154) rfl rfl
theorem tk_977 : (Jvm.Cond.code ({ cls := "LadderStreet", name := "restore", desc := "(I)Z" } : Jvm.MethodName) prog_1_method_20_code (2 : Nat) (Option.some Jvm.ClassFile.FieldType.boolean)) ∈ TB := tk_t4 (j := 155) rfl rfl
theorem tk_978 : (Jvm.Cond.methodLink "LadderStreet" (257 : Nat) ({ cls := "LadderStreet$Shelf", name := "goOnFrom", desc := "(ILLadderStreet$Moment;)Z" } : Jvm.MethodName)) ∈ TB := tk_t4 (j := 156) rfl rfl
theorem tk_979 : (Jvm.Cond.instanceMethod ({ cls := "LadderStreet$Shelf", name := "goOnFrom", desc := "(ILLadderStreet$Moment;)Z" } : Jvm.MethodName)) ∈ TB := tk_t4 (j := 157) rfl rfl
theorem tk_980 : (Jvm.Cond.selects "LadderStreet$Shelf" ({ cls := "LadderStreet$Shelf", name := "goOnFrom", desc := "(ILLadderStreet$Moment;)Z" } : Jvm.MethodName) ({ cls := "LadderStreet$Shelf", name := "goOnFrom", desc := "(ILLadderStreet$Moment;)Z" } : Jvm.MethodName)) ∈ TB := tk_t4 (j := 158) rfl rfl
theorem tk_981 : (Jvm.Cond.code ({ cls := "LadderStreet$Shelf", name := "goOnFrom", desc := "(ILLadderStreet$Moment;)Z" } : Jvm.MethodName) prog_9_method_8_code (3 : Nat) (Option.some Jvm.ClassFile.FieldType.boolean)) ∈ TB := tk_t4 (j := 159) rfl rfl
theorem tk_983 : (Jvm.Cond.methodLink "LadderStreetLaw" (68 : Nat) ({ cls := "LadderStreet", name := "inTheWay", desc := "(II)I" } : Jvm.MethodName)) ∈ TB := tk_t4 (j := 161) rfl rfl
theorem tk_984 : (Jvm.Cond.instanceMethod ({ cls := "LadderStreet", name := "inTheWay", desc := "(II)I" } : Jvm.MethodName)) ∈ TB := tk_t4 (j := 162) rfl rfl
theorem tk_985 : (Jvm.Cond.selects "LadderStreet" ({ cls := "LadderStreet", name := "inTheWay", desc := "(II)I" } : Jvm.MethodName) ({ cls := "LadderStreet", name := "inTheWay", desc := "(II)I" } : Jvm.MethodName)) ∈ TB := tk_t4 (j := 163) rfl rfl
theorem tk_986 : (Jvm.Cond.code ({ cls := "LadderStreet", name := "inTheWay", desc := "(II)I" } : Jvm.MethodName) prog_1_method_21_code (3 : Nat) (Option.some Jvm.ClassFile.FieldType.int)) ∈ TB := tk_t4 (j := 164) rfl rfl
theorem tk_987 : (Jvm.Cond.methodLink "LadderStreet" (260 : Nat) ({ cls := "LadderStreet$Looks", name := "blockedTo", desc := "(LLadderStreet$Moment;II)I" } : Jvm.MethodName)) ∈ TB := tk_t4 (j := 165) rfl rfl
theorem tk_988 : (Jvm.Cond.instanceMethod ({ cls := "LadderStreet$Looks", name := "blockedTo", desc := "(LLadderStreet$Moment;II)I" } : Jvm.MethodName)) ∈ TB := tk_t4 (j := 166) rfl rfl
theorem tk_989 : (Jvm.Cond.selects "LadderStreet$Looks" ({ cls := "LadderStreet$Looks", name := "blockedTo", desc := "(LLadderStreet$Moment;II)I" } : Jvm.MethodName) ({ cls := "LadderStreet$Looks", name := "blockedTo", desc := "(LLadderStreet$Moment;II)I" } : Jvm.MethodName)) ∈ TB := tk_t4 (j := 167) rfl rfl
theorem tk_990 : (Jvm.Cond.code ({ cls := "LadderStreet$Looks", name := "blockedTo", desc := "(LLadderStreet$Moment;II)I" } : Jvm.MethodName) prog_5_method_11_code (7 : Nat) (Option.some Jvm.ClassFile.FieldType.int)) ∈ TB := tk_t4 (j := 168) rfl rfl
theorem tk_991 : (Jvm.Cond.methodLink "LadderStreet$Looks" (50 : Nat) ({ cls := "java/lang/Math", name := "min", desc := "(II)I" } : Jvm.MethodName)) ∈ TB := tk_t4 (j := 169) rfl rfl
theorem tk_992 : (Jvm.Cond.methodLink "LadderStreet$Looks" (55 : Nat) ({ cls := "java/lang/Math", name := "max", desc := "(II)I" } : Jvm.MethodName)) ∈ TB := tk_t4 (j := 170) rfl rfl
theorem tk_993 : (Jvm.Cond.methodLink "LadderStreet$Looks" (58 : Nat) ({ cls := "LadderStreet$Town", name := "widthOf", desc := "(I)I" } : Jvm.MethodName)) ∈ TB := tk_t4 (j := 171) rfl rfl
theorem tk_994 : (Jvm.Cond.methodLink "LadderStreet$Looks" (46 : Nat) ({ cls := "LadderStreet$Course", name := "fits", desc := "(LLadderStreet$Moment;II)Z" } : Jvm.MethodName)) ∈ TB := tk_t4 (j := 172) rfl rfl
theorem tk_995 : (Jvm.Cond.methodLink "LadderStreetLaw" (76 : Nat) ({ cls := "LadderStreet", name := "past", desc := "(IIII)I" } : Jvm.MethodName)) ∈ TB := tk_t4 (j := 173) rfl rfl
theorem tk_996 : (Jvm.Cond.instanceMethod ({ cls := "LadderStreet", name := "past", desc := "(IIII)I" } : Jvm.MethodName)) ∈ TB := tk_t4 (j := 174) rfl rfl
theorem tk_997 : (Jvm.Cond.selects "LadderStreet" ({ cls := "LadderStreet", name := "past", desc := "(IIII)I" } : Jvm.MethodName) ({ cls := "LadderStreet", name := "past", desc := "(IIII)I" } : Jvm.MethodName)) ∈ TB := tk_t4 (j := 175) rfl rfl
theorem tk_998 : (Jvm.Cond.code ({ cls := "LadderStreet", name := "past", desc := "(IIII)I" } : Jvm.MethodName) prog_1_method_22_code (5 : Nat) (Option.some Jvm.ClassFile.FieldType.int)) ∈ TB := tk_t4 (j := 176) rfl rfl
theorem tk_999 : (Jvm.Cond.methodLink "LadderStreet" (264 : Nat) ({ cls := "LadderStreet", name := "areTwo", desc := "(II)Z" } : Jvm.MethodName)) ∈ TB := tk_t4 (j := 177) rfl rfl
theorem tk_1001 : (Jvm.Cond.instanceMethod ({ cls := "LadderStreet", name := "areTwo", desc := "(II)Z" } : Jvm.MethodName)) ∈ TB := tk_t4 (j := 179) rfl rfl
theorem tk_1002 : (Jvm.Cond.code ({ cls := "LadderStreet", name := "areTwo", desc := "(II)Z" } : Jvm.MethodName) prog_1_method_12_code (3 : Nat) (Option.some Jvm.ClassFile.FieldType.boolean)) ∈ TB := tk_t4 (j := 180) rfl rfl
theorem tk_1003 : (Jvm.Cond.methodLink "LadderStreet" (267 : Nat) ({ cls := "LadderStreet$Ways", name := "fewestForTwo", desc := "(LLadderStreet$Moment;IIII)I" } : Jvm.MethodName)) ∈ TB := tk_t4 (j := 181) rfl rfl
theorem tk_1004 : (Jvm.Cond.instanceMethod ({ cls := "LadderStreet$Ways", name := "fewestForTwo", desc := "(LLadderStreet$Moment;IIII)I" } : Jvm.MethodName)) ∈ TB := tk_t4 (j := 182) rfl rfl
theorem tk_1005 : (Jvm.Cond.selects "LadderStreet$Ways" ({ cls := "LadderStreet$Ways", name := "fewestForTwo", desc := "(LLadderStreet$Moment;IIII)I" } : Jvm.MethodName) ({ cls := "LadderStreet$Ways", name := "fewestForTwo", desc := "(LLadderStreet$Moment;IIII)I" } : Jvm.MethodName)) ∈ TB := tk_t4 (j := 183) rfl rfl
theorem tk_1006 : (Jvm.Cond.code ({ cls := "LadderStreet$Ways", name := "fewestForTwo", desc := "(LLadderStreet$Moment;IIII)I" } : Jvm.MethodName) prog_12_method_4_code (8 : Nat) (Option.some Jvm.ClassFile.FieldType.int)) ∈ TB := tk_t4 (j := 184) rfl rfl
theorem tk_1007 : (Jvm.Cond.methodLink "LadderStreet$Ways" (39 : Nat) ({ cls := "LadderStreet$Moment", name := "of", desc := "(II)I" } : Jvm.MethodName)) ∈ TB := tk_t4 (j := 185) rfl rfl
theorem tk_1008 : (Jvm.Cond.methodLink "LadderStreet$Ways" (64 : Nat) ({ cls := "LadderStreet$Ways", name := "setSpace", desc := "(LLadderStreet$Moment;II)V" } : Jvm.MethodName)) ∈ TB := tk_t4 (j := 186) rfl rfl
theorem tk_1010 : (Jvm.Cond.instanceMethod ({ cls := "LadderStreet$Ways", name := "setSpace", desc := "(LLadderStreet$Moment;II)V" } : Jvm.MethodName)) ∈ TB := tk_t4 (j := 188) rfl rfl
theorem tk_1011 : (Jvm.Cond.code ({ cls := "LadderStreet$Ways", name := "setSpace", desc := "(LLadderStreet$Moment;II)V" } : Jvm.MethodName) prog_12_method_5_code (5 : Nat) (Option.none : Option Jvm.ClassFile.FieldType)) ∈ TB := tk_t4 (j := 189) rfl rfl
theorem tk_1012 : (Jvm.Cond.methodLink "LadderStreet$Ways" (82 : Nat) ({ cls := "LadderStreet$Town", name := "hasRung", desc := "(I)Z" } : Jvm.MethodName)) ∈ TB := tk_t4 (j := 190) rfl rfl
theorem tk_1013 : (Jvm.Cond.methodLink "LadderStreet$Ways" (86 : Nat) ({ cls := "LadderStreet$Moment", name := "isWhole", desc := "(I)Z" } : Jvm.MethodName)) ∈ TB := tk_t4 (j := 191) rfl rfl
theorem tk_1014 : (Jvm.Cond.methodLink "LadderStreet$Ways" (89 : Nat) ({ cls := "LadderStreet$Course", name := "roomOf", desc := "(LLadderStreet$Moment;I)I" } : Jvm.MethodName)) ∈ TB := tk_t4 (j := 192) rfl rfl
theorem tk_1015 : (Jvm.Cond.methodLink "LadderStreet$Ways" (92 : Nat) ({ cls := "LadderStreet$Course", name := "widthsOn", desc := "(LLadderStreet$Moment;I)I" } : Jvm.MethodName)) ∈ TB := tk_t4 (j := 193) rfl rfl
theorem tk_1016 : (Jvm.Cond.methodLink "LadderStreet$Ways" (95 : Nat) ({ cls := "LadderStreet$Ways", name := "ownWidth", desc := "(LLadderStreet$Moment;II)I" } : Jvm.MethodName)) ∈ TB := tk_t4 (j := 194) rfl rfl
theorem tk_1018 : (Jvm.Cond.instanceMethod ({ cls := "LadderStreet$Ways", name := "ownWidth", desc := "(LLadderStreet$Moment;II)I" } : Jvm.MethodName)) ∈ TB := tk_t4 (j := 196) rfl rfl
theorem tk_1019 : (Jvm.Cond.code ({ cls := "LadderStreet$Ways", name := "ownWidth", desc := "(LLadderStreet$Moment;II)I" } : Jvm.MethodName) prog_12_method_6_code (4 : Nat) (Option.some Jvm.ClassFile.FieldType.int)) ∈ TB := tk_t4 (j := 197) rfl rfl
theorem tk_1020 : (Jvm.Cond.methodLink "LadderStreet$Ways" (49 : Nat) ({ cls := "LadderStreet$Town", name := "widthOf", desc := "(I)I" } : Jvm.MethodName)) ∈ TB := tk_t4 (j := 198) rfl rfl
theorem tk_1021 : (Jvm.Cond.methodLink "LadderStreet$Ways" (68 : Nat) ({ cls := "java/util/Arrays", name := "fill", desc := "([II)V" } : Jvm.MethodName)) ∈ TB := tk_t4 (j := 199) rfl rfl
theorem tk_1024 : (Jvm.Cond.methodLink "LadderStreet$Ways" (78 : Nat) ({ cls := "LadderStreet$Ways", name := "spreadBoth", desc := "(II)V" } : Jvm.MethodName)) ∈ TB := tk_t4 (j := 202) rfl rfl
theorem tk_1026 : (Jvm.Cond.instanceMethod ({ cls := "LadderStreet$Ways", name := "spreadBoth", desc := "(II)V" } : Jvm.MethodName)) ∈ TB := tk_t4 (j := 204) rfl rfl
theorem tk_1027 : (Jvm.Cond.code ({ cls := "LadderStreet$Ways", name := "spreadBoth", desc := "(II)V" } : Jvm.MethodName) prog_12_method_8_code (5 : Nat) (Option.none : Option Jvm.ClassFile.FieldType)) ∈ TB := tk_t4 (j := 205) rfl rfl
theorem tk_1028 : (Jvm.Cond.methodLink "LadderStreet$Ways" (99 : Nat) ({ cls := "LadderStreet$Ways", name := "spreadOne", desc := "(IIII)V" } : Jvm.MethodName)) ∈ TB := tk_t4 (j := 206) rfl rfl
theorem tk_1030 : (Jvm.Cond.instanceMethod ({ cls := "LadderStreet$Ways", name := "spreadOne", desc := "(IIII)V" } : Jvm.MethodName)) ∈ TB := tk_t4 (j := 208) rfl rfl
theorem tk_1031 : (Jvm.Cond.code ({ cls := "LadderStreet$Ways", name := "spreadOne", desc := "(IIII)V" } : Jvm.MethodName) prog_12_method_9_code (6 : Nat) (Option.none : Option Jvm.ClassFile.FieldType)) ∈ TB := tk_t4 (j := 209) rfl rfl
theorem tk_1032 : (Jvm.Cond.methodLink "LadderStreet$Ways" (103 : Nat) ({ cls := "java/lang/Math", name := "max", desc := "(II)I" } : Jvm.MethodName)) ∈ TB := tk_t4 (j := 210) rfl rfl
theorem tk_1033 : (Jvm.Cond.methodLink "LadderStreet$Ways" (106 : Nat) ({ cls := "LadderStreet$Ways", name := "takes", desc := "(II)Z" } : Jvm.MethodName)) ∈ TB := tk_t4 (j := 211) rfl rfl
theorem tk_1035 : (Jvm.Cond.instanceMethod ({ cls := "LadderStreet$Ways", name := "takes", desc := "(II)Z" } : Jvm.MethodName)) ∈ TB := tk_t4 (j := 213) rfl rfl
theorem tk_1036 : (Jvm.Cond.code ({ cls := "LadderStreet$Ways", name := "takes", desc := "(II)Z" } : Jvm.MethodName) prog_12_method_7_code (3 : Nat) (Option.some Jvm.ClassFile.FieldType.boolean)) ∈ TB := tk_t4 (j := 214) rfl rfl
theorem tk_1037 : (Jvm.Cond.methodLink "LadderStreet$Ways" (109 : Nat) ({ cls := "LadderStreet$Ways", name := "otherPlaces", desc := "(IIII)I" } : Jvm.MethodName)) ∈ TB := tk_t4 (j := 215) rfl rfl
theorem tk_1039 : (Jvm.Cond.instanceMethod ({ cls := "LadderStreet$Ways", name := "otherPlaces", desc := "(IIII)I" } : Jvm.MethodName)) ∈ TB := tk_t4 (j := 217) rfl rfl
theorem tk_1040 : (Jvm.Cond.code ({ cls := "LadderStreet$Ways", name := "otherPlaces", desc := "(IIII)I" } : Jvm.MethodName) prog_12_method_10_code (7 : Nat) (Option.some Jvm.ClassFile.FieldType.int)) ∈ TB := tk_t4 (j := 218) rfl rfl
theorem tk_1041 : (Jvm.Cond.methodLink "LadderStreetLaw" (81 : Nat) ({ cls := "LadderStreet", name := "alone", desc := "(II)I" } : Jvm.MethodName)) ∈ TB := tk_t4 (j := 219) rfl rfl
theorem tk_1042 : (Jvm.Cond.instanceMethod ({ cls := "LadderStreet", name := "alone", desc := "(II)I" } : Jvm.MethodName)) ∈ TB := tk_t4 (j := 220) rfl rfl
theorem tk_1043 : (Jvm.Cond.selects "LadderStreet" ({ cls := "LadderStreet", name := "alone", desc := "(II)I" } : Jvm.MethodName) ({ cls := "LadderStreet", name := "alone", desc := "(II)I" } : Jvm.MethodName)) ∈ TB := tk_t4 (j := 221) rfl rfl
theorem tk_1044 : (Jvm.Cond.code ({ cls := "LadderStreet", name := "alone", desc := "(II)I" } : Jvm.MethodName) prog_1_method_23_code (3 : Nat) (Option.some Jvm.ClassFile.FieldType.int)) ∈ TB := tk_t4 (j := 222) rfl rfl
theorem tk_1045 : (Jvm.Cond.methodLink "LadderStreet" (271 : Nat) ({ cls := "LadderStreet$Ways", name := "fewestForOne", desc := "(LLadderStreet$Moment;II)I" } : Jvm.MethodName)) ∈ TB := tk_t4 (j := 223) rfl rfl
theorem tk_1046 : (Jvm.Cond.instanceMethod ({ cls := "LadderStreet$Ways", name := "fewestForOne", desc := "(LLadderStreet$Moment;II)I" } : Jvm.MethodName)) ∈ TB := tk_t4 (j := 224) rfl rfl
theorem tk_1047 : (Jvm.Cond.selects "LadderStreet$Ways" ({ cls := "LadderStreet$Ways", name := "fewestForOne", desc := "(LLadderStreet$Moment;II)I" } : Jvm.MethodName) ({ cls := "LadderStreet$Ways", name := "fewestForOne", desc := "(LLadderStreet$Moment;II)I" } : Jvm.MethodName)) ∈ TB := tk_t4 (j := 225) rfl rfl
theorem tk_1048 : (Jvm.Cond.code ({ cls := "LadderStreet$Ways", name := "fewestForOne", desc := "(LLadderStreet$Moment;II)I" } : Jvm.MethodName) prog_12_method_2_code (5 : Nat) (Option.some Jvm.ClassFile.FieldType.int)) ∈ TB := tk_t4 (j := 226) rfl rfl
theorem tk_1049 : (Jvm.Cond.methodLink "LadderStreet$Ways" (29 : Nat) ({ cls := "LadderStreet$Ways", name := "allForOne", desc := "(LLadderStreet$Moment;I)I" } : Jvm.MethodName)) ∈ TB := tk_t4 (j := 227) rfl rfl
theorem tk_1050 : (Jvm.Cond.instanceMethod ({ cls := "LadderStreet$Ways", name := "allForOne", desc := "(LLadderStreet$Moment;I)I" } : Jvm.MethodName)) ∈ TB := tk_t4 (j := 228) rfl rfl
theorem tk_1051 : (Jvm.Cond.selects "LadderStreet$Ways" ({ cls := "LadderStreet$Ways", name := "allForOne", desc := "(LLadderStreet$Moment;I)I" } : Jvm.MethodName) ({ cls := "LadderStreet$Ways", name := "allForOne", desc := "(LLadderStreet$Moment;I)I" } : Jvm.MethodName)) ∈ TB := tk_t4 (j := 229) rfl rfl
theorem tk_1052 : (Jvm.Cond.code ({ cls := "LadderStreet$Ways", name := "allForOne", desc := "(LLadderStreet$Moment;I)I" } : Jvm.MethodName) prog_12_method_3_code (7 : Nat) (Option.some Jvm.ClassFile.FieldType.int)) ∈ TB := tk_t4 (j := 230) rfl rfl
theorem tk_1053 : (Jvm.Cond.methodLink "LadderStreet$Ways" (54 : Nat) ({ cls := "LadderStreet$Course", name := "fits", desc := "(LLadderStreet$Moment;II)Z" } : Jvm.MethodName)) ∈ TB := tk_t4 (j := 231) rfl rfl
theorem tk_1054 : (Jvm.Cond.methodLink "LadderStreet$Ways" (43 : Nat) ({ cls := "java/lang/Math", name := "abs", desc := "(I)I" } : Jvm.MethodName)) ∈ TB := tk_t4 (j := 232) rfl rfl
theorem tk_1055 : (Jvm.Cond.methodLink "LadderStreetLaw" (85 : Nat) ({ cls := "LadderStreet", name := "reach", desc := "(I)I" } : Jvm.MethodName)) ∈ TB := tk_t4 (j := 233) rfl rfl
theorem tk_1056 : (Jvm.Cond.instanceMethod ({ cls := "LadderStreet", name := "reach", desc := "(I)I" } : Jvm.MethodName)) ∈ TB := tk_t4 (j := 234) rfl rfl
theorem tk_1057 : (Jvm.Cond.selects "LadderStreet" ({ cls := "LadderStreet", name := "reach", desc := "(I)I" } : Jvm.MethodName) ({ cls := "LadderStreet", name := "reach", desc := "(I)I" } : Jvm.MethodName)) ∈ TB := tk_t4 (j := 235) rfl rfl
theorem tk_1058 : (Jvm.Cond.code ({ cls := "LadderStreet", name := "reach", desc := "(I)I" } : Jvm.MethodName) prog_1_method_24_code (2 : Nat) (Option.some Jvm.ClassFile.FieldType.int)) ∈ TB := tk_t4 (j := 236) rfl rfl
theorem tk_1059 : (Jvm.Cond.methodLink "LadderStreet" (274 : Nat) ({ cls := "LadderStreet$Ways", name := "allForOne", desc := "(LLadderStreet$Moment;I)I" } : Jvm.MethodName)) ∈ TB := tk_t4 (j := 237) rfl rfl
theorem tk_1060 : (Jvm.Cond.methodLink "LadderStreetLaw" (141 : Nat) ({ cls := "LadderStreet", name := "meet", desc := "(III)I" } : Jvm.MethodName)) ∈ TB := tk_t4 (j := 238) rfl rfl
theorem tk_1061 : (Jvm.Cond.instanceMethod ({ cls := "LadderStreet", name := "meet", desc := "(III)I" } : Jvm.MethodName)) ∈ TB := tk_t4 (j := 239) rfl rfl
theorem tk_1062 : (Jvm.Cond.selects "LadderStreet" ({ cls := "LadderStreet", name := "meet", desc := "(III)I" } : Jvm.MethodName) ({ cls := "LadderStreet", name := "meet", desc := "(III)I" } : Jvm.MethodName)) ∈ TB := tk_t5 (j := 0) rfl rfl
theorem tk_1063 : (Jvm.Cond.code ({ cls := "LadderStreet", name := "meet", desc := "(III)I" } : Jvm.MethodName) prog_1_method_25_code (5 : Nat) (Option.some Jvm.ClassFile.FieldType.int)) ∈ TB := tk_t5 (j := 1) rfl rfl
theorem tk_1064 : (Jvm.Cond.methodLink "LadderStreet" (277 : Nat) ({ cls := "LadderStreet$Looks", name := "meetingRung", desc := "(LLadderStreet$Moment;II)I" } : Jvm.MethodName)) ∈ TB := tk_t5 (j := 2) rfl rfl
theorem tk_1065 : (Jvm.Cond.instanceMethod ({ cls := "LadderStreet$Looks", name := "meetingRung", desc := "(LLadderStreet$Moment;II)I" } : Jvm.MethodName)) ∈ TB := tk_t5 (j := 3) rfl rfl
theorem tk_1066 : (Jvm.Cond.selects "LadderStreet$Looks" ({ cls := "LadderStreet$Looks", name := "meetingRung", desc := "(LLadderStreet$Moment;II)I" } : Jvm.MethodName) ({ cls := "LadderStreet$Looks", name := "meetingRung", desc := "(LLadderStreet$Moment;II)I" } : Jvm.MethodName)) ∈ TB := tk_t5 (j := 4) rfl rfl
theorem tk_1067 : (Jvm.Cond.code ({ cls := "LadderStreet$Looks", name := "meetingRung", desc := "(LLadderStreet$Moment;II)I" } : Jvm.MethodName) prog_5_method_14_code (6 : Nat) (Option.some Jvm.ClassFile.FieldType.int)) ∈ TB := tk_t5 (j := 5) rfl rfl
theorem tk_1068 : (Jvm.Cond.methodLink "LadderStreet$Looks" (66 : Nat) ({ cls := "LadderStreet$Looks", name := "widthsWith", desc := "(LLadderStreet$Moment;III)I" } : Jvm.MethodName)) ∈ TB := tk_t5 (j := 6) rfl rfl
theorem tk_1070 : (Jvm.Cond.instanceMethod ({ cls := "LadderStreet$Looks", name := "widthsWith", desc := "(LLadderStreet$Moment;III)I" } : Jvm.MethodName)) ∈ TB := tk_t5 (j := 8) rfl rfl
theorem tk_1071 : (Jvm.Cond.code ({ cls := "LadderStreet$Looks", name := "widthsWith", desc := "(LLadderStreet$Moment;III)I" } : Jvm.MethodName) prog_5_method_15_code (7 : Nat) (Option.some Jvm.ClassFile.FieldType.int)) ∈ TB := tk_t5 (j := 9) rfl rfl
theorem tk_1072 : (Jvm.Cond.methodLink "LadderStreet$Looks" (70 : Nat) ({ cls := "LadderStreet$Looks", name := "farther", desc := "(LLadderStreet$Moment;III)I" } : Jvm.MethodName)) ∈ TB := tk_t5 (j := 10) rfl rfl
theorem tk_1073 : (Jvm.Cond.instanceMethod ({ cls := "LadderStreet$Looks", name := "farther", desc := "(LLadderStreet$Moment;III)I" } : Jvm.MethodName)) ∈ TB := tk_t5 (j := 11) rfl rfl
theorem tk_1074 : (Jvm.Cond.selects "LadderStreet$Looks" ({ cls := "LadderStreet$Looks", name := "farther", desc := "(LLadderStreet$Moment;III)I" } : Jvm.MethodName) ({ cls := "LadderStreet$Looks", name := "farther", desc := "(LLadderStreet$Moment;III)I" } : Jvm.MethodName)) ∈ TB := tk_t5 (j := 12) rfl rfl
theorem tk_1075 : (Jvm.Cond.code ({ cls := "LadderStreet$Looks", name := "farther", desc := "(LLadderStreet$Moment;III)I" } : Jvm.MethodName) prog_5_method_16_code (5 : Nat) (Option.some Jvm.ClassFile.FieldType.int)) ∈ TB := tk_t5 (j := 13) rfl rfl
theorem tk_1076 : (Jvm.Cond.methodLink "LadderStreet$Looks" (73 : Nat) ({ cls := "java/lang/Math", name := "abs", desc := "(I)I" } : Jvm.MethodName)) ∈ TB := tk_t5 (j := 14) rfl rfl
theorem tk_1077 : (Jvm.Cond.methodLink "LadderStreet" (280 : Nat) ({ cls := "LadderStreet$Looks", name := "farther", desc := "(LLadderStreet$Moment;III)I" } : Jvm.MethodName)) ∈ TB := tk_t5 (j := 15) rfl rfl
theorem tk_1078 : (Jvm.Cond.methodLink "LadderStreetLaw" (89 : Nat) ({ cls := "LadderStreet", name := "above", desc := "(I)I" } : Jvm.MethodName)) ∈ TB := tk_t5 (j := 16) rfl rfl
theorem tk_1079 : (Jvm.Cond.instanceMethod ({ cls := "LadderStreet", name := "above", desc := "(I)I" } : Jvm.MethodName)) ∈ TB := tk_t5 (j := 17) rfl rfl
theorem tk_1080 : (Jvm.Cond.selects "LadderStreet" ({ cls := "LadderStreet", name := "above", desc := "(I)I" } : Jvm.MethodName) ({ cls := "LadderStreet", name := "above", desc := "(I)I" } : Jvm.MethodName)) ∈ TB := tk_t5 (j := 18) rfl rfl
theorem tk_1081 : (Jvm.Cond.code ({ cls := "LadderStreet", name := "above", desc := "(I)I" } : Jvm.MethodName) prog_1_method_26_code (2 : Nat) (Option.some Jvm.ClassFile.FieldType.int)) ∈ TB := tk_t5 (j := 19) rfl rfl
theorem tk_1082 : (Jvm.Cond.methodLink "LadderStreet" (284 : Nat) ({ cls := "LadderStreet$Looks", name := "peopleAbove", desc := "(LLadderStreet$Moment;I)I" } : Jvm.MethodName)) ∈ TB := tk_t5 (j := 20) rfl rfl
theorem tk_1083 : (Jvm.Cond.instanceMethod ({ cls := "LadderStreet$Looks", name := "peopleAbove", desc := "(LLadderStreet$Moment;I)I" } : Jvm.MethodName)) ∈ TB := tk_t5 (j := 21) rfl rfl
theorem tk_1084 : (Jvm.Cond.selects "LadderStreet$Looks" ({ cls := "LadderStreet$Looks", name := "peopleAbove", desc := "(LLadderStreet$Moment;I)I" } : Jvm.MethodName) ({ cls := "LadderStreet$Looks", name := "peopleAbove", desc := "(LLadderStreet$Moment;I)I" } : Jvm.MethodName)) ∈ TB := tk_t5 (j := 22) rfl rfl
theorem tk_1085 : (Jvm.Cond.code ({ cls := "LadderStreet$Looks", name := "peopleAbove", desc := "(LLadderStreet$Moment;I)I" } : Jvm.MethodName) prog_5_method_3_code (5 : Nat) (Option.some Jvm.ClassFile.FieldType.int)) ∈ TB := tk_t5 (j := 23) rfl rfl
theorem tk_1086 : (Jvm.Cond.methodLink "LadderStreetLaw" (93 : Nat) ({ cls := "LadderStreet", name := "driest", desc := "(I)I" } : Jvm.MethodName)) ∈ TB := tk_t5 (j := 24) rfl rfl
theorem tk_1087 : (Jvm.Cond.instanceMethod ({ cls := "LadderStreet", name := "driest", desc := "(I)I" } : Jvm.MethodName)) ∈ TB := tk_t5 (j := 25) rfl rfl
theorem tk_1088 : (Jvm.Cond.selects "LadderStreet" ({ cls := "LadderStreet", name := "driest", desc := "(I)I" } : Jvm.MethodName) ({ cls := "LadderStreet", name := "driest", desc := "(I)I" } : Jvm.MethodName)) ∈ TB := tk_t5 (j := 26) rfl rfl
theorem tk_1089 : (Jvm.Cond.code ({ cls := "LadderStreet", name := "driest", desc := "(I)I" } : Jvm.MethodName) prog_1_method_27_code (3 : Nat) (Option.some Jvm.ClassFile.FieldType.int)) ∈ TB := tk_t5 (j := 27) rfl rfl
theorem tk_1090 : (Jvm.Cond.methodLink "LadderStreet" (287 : Nat) ({ cls := "LadderStreet$Looks", name := "whoTookLeast", desc := "(LLadderStreet$Moment;)I" } : Jvm.MethodName)) ∈ TB := tk_t5 (j := 28) rfl rfl
theorem tk_1091 : (Jvm.Cond.instanceMethod ({ cls := "LadderStreet$Looks", name := "whoTookLeast", desc := "(LLadderStreet$Moment;)I" } : Jvm.MethodName)) ∈ TB := tk_t5 (j := 29) rfl rfl
theorem tk_1092 : (Jvm.Cond.selects "LadderStreet$Looks" ({ cls := "LadderStreet$Looks", name := "whoTookLeast", desc := "(LLadderStreet$Moment;)I" } : Jvm.MethodName) ({ cls := "LadderStreet$Looks", name := "whoTookLeast", desc := "(LLadderStreet$Moment;)I" } : Jvm.MethodName)) ∈ TB := tk_t5 (j := 30) rfl rfl
theorem tk_1093 : (Jvm.Cond.code ({ cls := "LadderStreet$Looks", name := "whoTookLeast", desc := "(LLadderStreet$Moment;)I" } : Jvm.MethodName) prog_5_method_9_code (4 : Nat) (Option.some Jvm.ClassFile.FieldType.int)) ∈ TB := tk_t5 (j := 31) rfl rfl
theorem tk_1094 : (Jvm.Cond.methodLink "LadderStreetLaw" (97 : Nat) ({ cls := "LadderStreet", name := "parts", desc := "(II)I" } : Jvm.MethodName)) ∈ TB := tk_t5 (j := 32) rfl rfl
theorem tk_1095 : (Jvm.Cond.instanceMethod ({ cls := "LadderStreet", name := "parts", desc := "(II)I" } : Jvm.MethodName)) ∈ TB := tk_t5 (j := 33) rfl rfl
theorem tk_1096 : (Jvm.Cond.selects "LadderStreet" ({ cls := "LadderStreet", name := "parts", desc := "(II)I" } : Jvm.MethodName) ({ cls := "LadderStreet", name := "parts", desc := "(II)I" } : Jvm.MethodName)) ∈ TB := tk_t5 (j := 34) rfl rfl
theorem tk_1097 : (Jvm.Cond.code ({ cls := "LadderStreet", name := "parts", desc := "(II)I" } : Jvm.MethodName) prog_1_method_28_code (3 : Nat) (Option.some Jvm.ClassFile.FieldType.int)) ∈ TB := tk_t5 (j := 35) rfl rfl
theorem tk_1098 : (Jvm.Cond.methodLink "LadderStreet" (290 : Nat) ({ cls := "LadderStreet$Looks", name := "partedPairs", desc := "(LLadderStreet$Moment;II)I" } : Jvm.MethodName)) ∈ TB := tk_t5 (j := 36) rfl rfl
theorem tk_1099 : (Jvm.Cond.instanceMethod ({ cls := "LadderStreet$Looks", name := "partedPairs", desc := "(LLadderStreet$Moment;II)I" } : Jvm.MethodName)) ∈ TB := tk_t5 (j := 37) rfl rfl
theorem tk_1100 : (Jvm.Cond.selects "LadderStreet$Looks" ({ cls := "LadderStreet$Looks", name := "partedPairs", desc := "(LLadderStreet$Moment;II)I" } : Jvm.MethodName) ({ cls := "LadderStreet$Looks", name := "partedPairs", desc := "(LLadderStreet$Moment;II)I" } : Jvm.MethodName)) ∈ TB := tk_t5 (j := 38) rfl rfl
theorem tk_1101 : (Jvm.Cond.code ({ cls := "LadderStreet$Looks", name := "partedPairs", desc := "(LLadderStreet$Moment;II)I" } : Jvm.MethodName) prog_5_method_12_code (9 : Nat) (Option.some Jvm.ClassFile.FieldType.int)) ∈ TB := tk_t5 (j := 39) rfl rfl
theorem tk_1102 : (Jvm.Cond.methodLink "LadderStreetLaw" (101 : Nat) ({ cls := "LadderStreet", name := "least", desc := "(II)I" } : Jvm.MethodName)) ∈ TB := tk_t5 (j := 40) rfl rfl
theorem tk_1103 : (Jvm.Cond.instanceMethod ({ cls := "LadderStreet", name := "least", desc := "(II)I" } : Jvm.MethodName)) ∈ TB := tk_t5 (j := 41) rfl rfl
theorem tk_1104 : (Jvm.Cond.selects "LadderStreet" ({ cls := "LadderStreet", name := "least", desc := "(II)I" } : Jvm.MethodName) ({ cls := "LadderStreet", name := "least", desc := "(II)I" } : Jvm.MethodName)) ∈ TB := tk_t5 (j := 42) rfl rfl
theorem tk_1105 : (Jvm.Cond.code ({ cls := "LadderStreet", name := "least", desc := "(II)I" } : Jvm.MethodName) prog_1_method_29_code (4 : Nat) (Option.some Jvm.ClassFile.FieldType.int)) ∈ TB := tk_t5 (j := 43) rfl rfl
theorem tk_1106 : (Jvm.Cond.methodLink "LadderStreet" (293 : Nat) ({ cls := "LadderStreet$Looks", name := "leastParting", desc := "(LLadderStreet$Moment;I)I" } : Jvm.MethodName)) ∈ TB := tk_t5 (j := 44) rfl rfl
theorem tk_1107 : (Jvm.Cond.instanceMethod ({ cls := "LadderStreet$Looks", name := "leastParting", desc := "(LLadderStreet$Moment;I)I" } : Jvm.MethodName)) ∈ TB := tk_t5 (j := 45) rfl rfl
theorem tk_1108 : (Jvm.Cond.selects "LadderStreet$Looks" ({ cls := "LadderStreet$Looks", name := "leastParting", desc := "(LLadderStreet$Moment;I)I" } : Jvm.MethodName) ({ cls := "LadderStreet$Looks", name := "leastParting", desc := "(LLadderStreet$Moment;I)I" } : Jvm.MethodName)) ∈ TB := tk_t5 (j := 46) rfl rfl
theorem tk_1109 : (Jvm.Cond.code ({ cls := "LadderStreet$Looks", name := "leastParting", desc := "(LLadderStreet$Moment;I)I" } : Jvm.MethodName) prog_5_method_13_code (7 : Nat) (Option.some Jvm.ClassFile.FieldType.int)) ∈ TB := tk_t5 (j := 47) rfl rfl
theorem tk_1110 : (Jvm.Cond.methodLink "LadderStreet$Looks" (62 : Nat) ({ cls := "LadderStreet$Looks", name := "partedPairs", desc := "(LLadderStreet$Moment;II)I" } : Jvm.MethodName)) ∈ TB := tk_t5 (j := 48) rfl rfl
theorem tk_1111 : (Jvm.Cond.methodLink "LadderStreetLaw" (105 : Nat) ({ cls := "LadderStreet", name := "homes", desc := "(II)I" } : Jvm.MethodName)) ∈ TB := tk_t5 (j := 49) rfl rfl
theorem tk_1112 : (Jvm.Cond.instanceMethod ({ cls := "LadderStreet", name := "homes", desc := "(II)I" } : Jvm.MethodName)) ∈ TB := tk_t5 (j := 50) rfl rfl
theorem tk_1113 : (Jvm.Cond.selects "LadderStreet" ({ cls := "LadderStreet", name := "homes", desc := "(II)I" } : Jvm.MethodName) ({ cls := "LadderStreet", name := "homes", desc := "(II)I" } : Jvm.MethodName)) ∈ TB := tk_t5 (j := 51) rfl rfl
theorem tk_1114 : (Jvm.Cond.code ({ cls := "LadderStreet", name := "homes", desc := "(II)I" } : Jvm.MethodName) prog_1_method_30_code (4 : Nat) (Option.some Jvm.ClassFile.FieldType.int)) ∈ TB := tk_t5 (j := 52) rfl rfl
theorem tk_1115 : (Jvm.Cond.methodLink "LadderStreet" (296 : Nat) ({ cls := "LadderStreet$Homes", name := "areFound", desc := "(LLadderStreet$Moment;I)Z" } : Jvm.MethodName)) ∈ TB := tk_t5 (j := 53) rfl rfl
theorem tk_1116 : (Jvm.Cond.instanceMethod ({ cls := "LadderStreet$Homes", name := "areFound", desc := "(LLadderStreet$Moment;I)Z" } : Jvm.MethodName)) ∈ TB := tk_t5 (j := 54) rfl rfl
theorem tk_1117 : (Jvm.Cond.selects "LadderStreet$Homes" ({ cls := "LadderStreet$Homes", name := "areFound", desc := "(LLadderStreet$Moment;I)Z" } : Jvm.MethodName) ({ cls := "LadderStreet$Homes", name := "areFound", desc := "(LLadderStreet$Moment;I)Z" } : Jvm.MethodName)) ∈ TB := tk_t5 (j := 55) rfl rfl
theorem tk_1118 : (Jvm.Cond.code ({ cls := "LadderStreet$Homes", name := "areFound", desc := "(LLadderStreet$Moment;I)Z" } : Jvm.MethodName) prog_3_method_2_code (5 : Nat) (Option.some Jvm.ClassFile.FieldType.boolean)) ∈ TB := tk_t5 (j := 56) rfl rfl
theorem tk_1119 : (Jvm.Cond.methodLink "LadderStreet$Homes" (26 : Nat) ({ cls := "LadderStreet$Town", name := "hasRung", desc := "(I)Z" } : Jvm.MethodName)) ∈ TB := tk_t5 (j := 57) rfl rfl
theorem tk_1120 : (Jvm.Cond.methodLink "LadderStreet$Homes" (32 : Nat) ({ cls := "LadderStreet$Moment", name := "isWhole", desc := "(I)Z" } : Jvm.MethodName)) ∈ TB := tk_t5 (j := 58) rfl rfl
theorem tk_1121 : (Jvm.Cond.methodLink "LadderStreet$Homes" (37 : Nat) ({ cls := "LadderStreet$Course", name := "roomOf", desc := "(LLadderStreet$Moment;I)I" } : Jvm.MethodName)) ∈ TB := tk_t5 (j := 59) rfl rfl
theorem tk_1122 : (Jvm.Cond.methodLink "LadderStreet$Homes" (43 : Nat) ({ cls := "LadderStreet$Homes", name := "settle", desc := "(LLadderStreet$Homes;LLadderStreet$Moment;II)Z" } : Jvm.MethodName)) ∈ TB := tk_t5 (j := 60) rfl rfl
theorem tk_1123 : (Jvm.Cond.static ({ cls := "LadderStreet$Homes", name := "settle", desc := "(LLadderStreet$Homes;LLadderStreet$Moment;II)Z" } : Jvm.MethodName)) ∈ TB := tk_t5 (j := 61) rfl rfl
theorem tk_1124 : (Jvm.Cond.code ({ cls := "LadderStreet$Homes", name := "settle", desc := "(LLadderStreet$Homes;LLadderStreet$Moment;II)Z" } : Jvm.MethodName) prog_3_method_4_code (7 : Nat) (Option.some Jvm.ClassFile.FieldType.boolean)) ∈ TB := tk_t5 (j := 62) rfl rfl
theorem tk_1125 : (Jvm.Cond.methodLink "LadderStreet$Homes" (55 : Nat) ({ cls := "LadderStreet$Moment", name := "of", desc := "(II)I" } : Jvm.MethodName)) ∈ TB := tk_t5 (j := 63) rfl rfl
theorem tk_1126 : (Jvm.Cond.methodLink "LadderStreet$Homes" (59 : Nat) ({ cls := "LadderStreet$Town", name := "widthOf", desc := "(I)I" } : Jvm.MethodName)) ∈ TB := tk_t5 (j := 64) rfl rfl
theorem tk_1127 : (Jvm.Cond.methodLink "LadderStreet$Homes" (63 : Nat) ({ cls := "java/lang/Math", name := "abs", desc := "(I)I" } : Jvm.MethodName)) ∈ TB := tk_t5 (j := 65) rfl rfl
theorem tk_1128 : (Jvm.Cond.methodLink "LadderStreet" (300 : Nat) ({ cls := "LadderStreet$Homes", name := "homeOf", desc := "(I)I" } : Jvm.MethodName)) ∈ TB := tk_t5 (j := 66) rfl rfl
theorem tk_1129 : (Jvm.Cond.instanceMethod ({ cls := "LadderStreet$Homes", name := "homeOf", desc := "(I)I" } : Jvm.MethodName)) ∈ TB := tk_t5 (j := 67) rfl rfl
theorem tk_1130 : (Jvm.Cond.selects "LadderStreet$Homes" ({ cls := "LadderStreet$Homes", name := "homeOf", desc := "(I)I" } : Jvm.MethodName) ({ cls := "LadderStreet$Homes", name := "homeOf", desc := "(I)I" } : Jvm.MethodName)) ∈ TB := tk_t5 (j := 68) rfl rfl
theorem tk_1131 : (Jvm.Cond.code ({ cls := "LadderStreet$Homes", name := "homeOf", desc := "(I)I" } : Jvm.MethodName) prog_3_method_3_code (2 : Nat) (Option.some Jvm.ClassFile.FieldType.int)) ∈ TB := tk_t5 (j := 69) rfl rfl
theorem tk_1133 : (Jvm.Cond.methodLink "LadderStreetLaw" (117 : Nat) ({ cls := "LadderStreet", name := "news", desc := "(II)I" } : Jvm.MethodName)) ∈ TB := tk_t5 (j := 71) rfl rfl
theorem tk_1134 : (Jvm.Cond.instanceMethod ({ cls := "LadderStreet", name := "news", desc := "(II)I" } : Jvm.MethodName)) ∈ TB := tk_t5 (j := 72) rfl rfl
theorem tk_1135 : (Jvm.Cond.selects "LadderStreet" ({ cls := "LadderStreet", name := "news", desc := "(II)I" } : Jvm.MethodName) ({ cls := "LadderStreet", name := "news", desc := "(II)I" } : Jvm.MethodName)) ∈ TB := tk_t5 (j := 73) rfl rfl
theorem tk_1136 : (Jvm.Cond.code ({ cls := "LadderStreet", name := "news", desc := "(II)I" } : Jvm.MethodName) prog_1_method_31_code (3 : Nat) (Option.some Jvm.ClassFile.FieldType.int)) ∈ TB := tk_t5 (j := 74) rfl rfl
theorem tk_1137 : (Jvm.Cond.methodLink "LadderStreet" (303 : Nat) ({ cls := "LadderStreet$Looks", name := "whoKnows", desc := "(LLadderStreet$Moment;II)I" } : Jvm.MethodName)) ∈ TB := tk_t5 (j := 75) rfl rfl
theorem tk_1138 : (Jvm.Cond.instanceMethod ({ cls := "LadderStreet$Looks", name := "whoKnows", desc := "(LLadderStreet$Moment;II)I" } : Jvm.MethodName)) ∈ TB := tk_t5 (j := 76) rfl rfl
theorem tk_1139 : (Jvm.Cond.selects "LadderStreet$Looks" ({ cls := "LadderStreet$Looks", name := "whoKnows", desc := "(LLadderStreet$Moment;II)I" } : Jvm.MethodName) ({ cls := "LadderStreet$Looks", name := "whoKnows", desc := "(LLadderStreet$Moment;II)I" } : Jvm.MethodName)) ∈ TB := tk_t5 (j := 77) rfl rfl
theorem tk_1140 : (Jvm.Cond.code ({ cls := "LadderStreet$Looks", name := "whoKnows", desc := "(LLadderStreet$Moment;II)I" } : Jvm.MethodName) prog_5_method_18_code (6 : Nat) (Option.some Jvm.ClassFile.FieldType.int)) ∈ TB := tk_t5 (j := 78) rfl rfl
theorem tk_1141 : (Jvm.Cond.methodLink "LadderStreet$Looks" (79 : Nat) ({ cls := "LadderStreet$Looks", name := "whoHears", desc := "(LLadderStreet$Moment;I)I" } : Jvm.MethodName)) ∈ TB := tk_t5 (j := 79) rfl rfl
theorem tk_1143 : (Jvm.Cond.instanceMethod ({ cls := "LadderStreet$Looks", name := "whoHears", desc := "(LLadderStreet$Moment;I)I" } : Jvm.MethodName)) ∈ TB := tk_t5 (j := 81) rfl rfl
theorem tk_1144 : (Jvm.Cond.code ({ cls := "LadderStreet$Looks", name := "whoHears", desc := "(LLadderStreet$Moment;I)I" } : Jvm.MethodName) prog_5_method_19_code (6 : Nat) (Option.some Jvm.ClassFile.FieldType.int)) ∈ TB := tk_t5 (j := 82) rfl rfl
theorem tk_1146 : (Jvm.Cond.methodLink "LadderStreet$Looks" (86 : Nat) ({ cls := "LadderStreet$Looks", name := "areNear", desc := "(LLadderStreet$Moment;III)Z" } : Jvm.MethodName)) ∈ TB := tk_t5 (j := 84) rfl rfl
theorem tk_1147 : (Jvm.Cond.static ({ cls := "LadderStreet$Looks", name := "areNear", desc := "(LLadderStreet$Moment;III)Z" } : Jvm.MethodName)) ∈ TB := tk_t5 (j := 85) rfl rfl
theorem tk_1148 : (Jvm.Cond.code ({ cls := "LadderStreet$Looks", name := "areNear", desc := "(LLadderStreet$Moment;III)Z" } : Jvm.MethodName) prog_5_method_20_code (4 : Nat) (Option.some Jvm.ClassFile.FieldType.boolean)) ∈ TB := tk_t5 (j := 86) rfl rfl
theorem tk_1149 : (Jvm.Cond.methodLink "LadderStreetLaw" (121 : Nat) ({ cls := "LadderStreet", name := "pairs", desc := "(I)I" } : Jvm.MethodName)) ∈ TB := tk_t5 (j := 87) rfl rfl
theorem tk_1150 : (Jvm.Cond.instanceMethod ({ cls := "LadderStreet", name := "pairs", desc := "(I)I" } : Jvm.MethodName)) ∈ TB := tk_t5 (j := 88) rfl rfl
theorem tk_1151 : (Jvm.Cond.selects "LadderStreet" ({ cls := "LadderStreet", name := "pairs", desc := "(I)I" } : Jvm.MethodName) ({ cls := "LadderStreet", name := "pairs", desc := "(I)I" } : Jvm.MethodName)) ∈ TB := tk_t5 (j := 89) rfl rfl
theorem tk_1152 : (Jvm.Cond.code ({ cls := "LadderStreet", name := "pairs", desc := "(I)I" } : Jvm.MethodName) prog_1_method_32_code (2 : Nat) (Option.some Jvm.ClassFile.FieldType.int)) ∈ TB := tk_t5 (j := 90) rfl rfl
theorem tk_1153 : (Jvm.Cond.methodLink "LadderStreet" (306 : Nat) ({ cls := "LadderStreet$Looks", name := "pairsWithin", desc := "(LLadderStreet$Moment;I)I" } : Jvm.MethodName)) ∈ TB := tk_t5 (j := 91) rfl rfl
theorem tk_1154 : (Jvm.Cond.instanceMethod ({ cls := "LadderStreet$Looks", name := "pairsWithin", desc := "(LLadderStreet$Moment;I)I" } : Jvm.MethodName)) ∈ TB := tk_t5 (j := 92) rfl rfl
theorem tk_1155 : (Jvm.Cond.selects "LadderStreet$Looks" ({ cls := "LadderStreet$Looks", name := "pairsWithin", desc := "(LLadderStreet$Moment;I)I" } : Jvm.MethodName) ({ cls := "LadderStreet$Looks", name := "pairsWithin", desc := "(LLadderStreet$Moment;I)I" } : Jvm.MethodName)) ∈ TB := tk_t5 (j := 93) rfl rfl
theorem tk_1156 : (Jvm.Cond.code ({ cls := "LadderStreet$Looks", name := "pairsWithin", desc := "(LLadderStreet$Moment;I)I" } : Jvm.MethodName) prog_5_method_21_code (3 : Nat) (Option.some Jvm.ClassFile.FieldType.int)) ∈ TB := tk_t5 (j := 94) rfl rfl
theorem tk_1157 : (Jvm.Cond.methodLink "LadderStreet$Looks" (90 : Nat) ({ cls := "LadderStreet$Looks", name := "mostPairs", desc := "(LLadderStreet$Town;LLadderStreet$Moment;III)I" } : Jvm.MethodName)) ∈ TB := tk_t5 (j := 95) rfl rfl
theorem tk_1158 : (Jvm.Cond.static ({ cls := "LadderStreet$Looks", name := "mostPairs", desc := "(LLadderStreet$Town;LLadderStreet$Moment;III)I" } : Jvm.MethodName)) ∈ TB := tk_t5 (j := 96) rfl rfl
theorem tk_1159 : (Jvm.Cond.code ({ cls := "LadderStreet$Looks", name := "mostPairs", desc := "(LLadderStreet$Town;LLadderStreet$Moment;III)I" } : Jvm.MethodName) prog_5_method_22_code (7 : Nat) (Option.some Jvm.ClassFile.FieldType.int)) ∈ TB := tk_t5 (j := 97) rfl rfl
theorem tk_1160 : (Jvm.Cond.methodLink "LadderStreetLaw" (125 : Nat) ({ cls := "LadderStreet", name := "kept", desc := "(I)I" } : Jvm.MethodName)) ∈ TB := tk_t5 (j := 98) rfl rfl
theorem tk_1161 : (Jvm.Cond.instanceMethod ({ cls := "LadderStreet", name := "kept", desc := "(I)I" } : Jvm.MethodName)) ∈ TB := tk_t5 (j := 99) rfl rfl
theorem tk_1162 : (Jvm.Cond.selects "LadderStreet" ({ cls := "LadderStreet", name := "kept", desc := "(I)I" } : Jvm.MethodName) ({ cls := "LadderStreet", name := "kept", desc := "(I)I" } : Jvm.MethodName)) ∈ TB := tk_t5 (j := 100) rfl rfl
theorem tk_1163 : (Jvm.Cond.code ({ cls := "LadderStreet", name := "kept", desc := "(I)I" } : Jvm.MethodName) prog_1_method_33_code (2 : Nat) (Option.some Jvm.ClassFile.FieldType.int)) ∈ TB := tk_t5 (j := 101) rfl rfl
theorem tk_1164 : (Jvm.Cond.methodLink "LadderStreet" (309 : Nat) ({ cls := "LadderStreet$Looks", name := "keptBy", desc := "(LLadderStreet$Moment;I)I" } : Jvm.MethodName)) ∈ TB := tk_t5 (j := 102) rfl rfl
theorem tk_1165 : (Jvm.Cond.instanceMethod ({ cls := "LadderStreet$Looks", name := "keptBy", desc := "(LLadderStreet$Moment;I)I" } : Jvm.MethodName)) ∈ TB := tk_t5 (j := 103) rfl rfl
theorem tk_1166 : (Jvm.Cond.selects "LadderStreet$Looks" ({ cls := "LadderStreet$Looks", name := "keptBy", desc := "(LLadderStreet$Moment;I)I" } : Jvm.MethodName) ({ cls := "LadderStreet$Looks", name := "keptBy", desc := "(LLadderStreet$Moment;I)I" } : Jvm.MethodName)) ∈ TB := tk_t5 (j := 104) rfl rfl
theorem tk_1167 : (Jvm.Cond.code ({ cls := "LadderStreet$Looks", name := "keptBy", desc := "(LLadderStreet$Moment;I)I" } : Jvm.MethodName) prog_5_method_17_code (8 : Nat) (Option.some Jvm.ClassFile.FieldType.int)) ∈ TB := tk_t5 (j := 105) rfl rfl
theorem tk_1168 : (Jvm.Cond.methodLink "LadderStreet$Looks" (76 : Nat) ({ cls := "LadderStreet$Course", name := "towards", desc := "(LLadderStreet$Moment;I)I" } : Jvm.MethodName)) ∈ TB := tk_t5 (j := 106) rfl rfl
theorem tk_1169 : (Jvm.Cond.methodLink "LadderStreetLaw" (137 : Nat) ({ cls := "LadderStreet", name := "free", desc := "(I)I" } : Jvm.MethodName)) ∈ TB := tk_t5 (j := 107) rfl rfl
theorem tk_1170 : (Jvm.Cond.instanceMethod ({ cls := "LadderStreet", name := "free", desc := "(I)I" } : Jvm.MethodName)) ∈ TB := tk_t5 (j := 108) rfl rfl
theorem tk_1171 : (Jvm.Cond.selects "LadderStreet" ({ cls := "LadderStreet", name := "free", desc := "(I)I" } : Jvm.MethodName) ({ cls := "LadderStreet", name := "free", desc := "(I)I" } : Jvm.MethodName)) ∈ TB := tk_t5 (j := 109) rfl rfl
theorem tk_1172 : (Jvm.Cond.code ({ cls := "LadderStreet", name := "free", desc := "(I)I" } : Jvm.MethodName) prog_1_method_34_code (2 : Nat) (Option.some Jvm.ClassFile.FieldType.int)) ∈ TB := tk_t5 (j := 110) rfl rfl
theorem tk_1173 : (Jvm.Cond.methodLink "LadderStreet" (312 : Nat) ({ cls := "LadderStreet$Looks", name := "rungsFor", desc := "(LLadderStreet$Moment;I)I" } : Jvm.MethodName)) ∈ TB := tk_t5 (j := 111) rfl rfl
theorem tk_1174 : (Jvm.Cond.instanceMethod ({ cls := "LadderStreet$Looks", name := "rungsFor", desc := "(LLadderStreet$Moment;I)I" } : Jvm.MethodName)) ∈ TB := tk_t5 (j := 112) rfl rfl
theorem tk_1175 : (Jvm.Cond.selects "LadderStreet$Looks" ({ cls := "LadderStreet$Looks", name := "rungsFor", desc := "(LLadderStreet$Moment;I)I" } : Jvm.MethodName) ({ cls := "LadderStreet$Looks", name := "rungsFor", desc := "(LLadderStreet$Moment;I)I" } : Jvm.MethodName)) ∈ TB := tk_t5 (j := 113) rfl rfl
theorem tk_1176 : (Jvm.Cond.code ({ cls := "LadderStreet$Looks", name := "rungsFor", desc := "(LLadderStreet$Moment;I)I" } : Jvm.MethodName) prog_5_method_7_code (5 : Nat) (Option.some Jvm.ClassFile.FieldType.int)) ∈ TB := tk_t5 (j := 114) rfl rfl
theorem tk_1177 : (Jvm.Cond.methodLink "LadderStreetLaw" (109 : Nat) ({ cls := "LadderStreet", name := "share", desc := "(II)I" } : Jvm.MethodName)) ∈ TB := tk_t5 (j := 115) rfl rfl
theorem tk_1178 : (Jvm.Cond.instanceMethod ({ cls := "LadderStreet", name := "share", desc := "(II)I" } : Jvm.MethodName)) ∈ TB := tk_t5 (j := 116) rfl rfl
theorem tk_1179 : (Jvm.Cond.selects "LadderStreet" ({ cls := "LadderStreet", name := "share", desc := "(II)I" } : Jvm.MethodName) ({ cls := "LadderStreet", name := "share", desc := "(II)I" } : Jvm.MethodName)) ∈ TB := tk_t5 (j := 117) rfl rfl
theorem tk_1180 : (Jvm.Cond.code ({ cls := "LadderStreet", name := "share", desc := "(II)I" } : Jvm.MethodName) prog_1_method_35_code (3 : Nat) (Option.some Jvm.ClassFile.FieldType.int)) ∈ TB := tk_t5 (j := 118) rfl rfl
theorem tk_1181 : (Jvm.Cond.methodLink "LadderStreet" (315 : Nat) ({ cls := "LadderStreet", name := "letDownLater", desc := "(I)V" } : Jvm.MethodName)) ∈ TB := tk_t5 (j := 119) rfl rfl
theorem tk_1183 : (Jvm.Cond.instanceMethod ({ cls := "LadderStreet", name := "letDownLater", desc := "(I)V" } : Jvm.MethodName)) ∈ TB := tk_t5 (j := 121) rfl rfl
theorem tk_1184 : (Jvm.Cond.code ({ cls := "LadderStreet", name := "letDownLater", desc := "(I)V" } : Jvm.MethodName) prog_1_method_37_code (2 : Nat) (Option.none : Option Jvm.ClassFile.FieldType)) ∈ TB := tk_t5 (j := 122) rfl rfl
theorem tk_1185 : (Jvm.Cond.methodLink "LadderStreet" (326 : Nat) ({ cls := "LadderStreet$Moment", name := "become", desc := "(LLadderStreet$Moment;)V" } : Jvm.MethodName)) ∈ TB := tk_t5 (j := 123) rfl rfl
theorem tk_1186 : (Jvm.Cond.instanceMethod ({ cls := "LadderStreet$Moment", name := "become", desc := "(LLadderStreet$Moment;)V" } : Jvm.MethodName)) ∈ TB := tk_t5 (j := 124) rfl rfl
theorem tk_1187 : (Jvm.Cond.selects "LadderStreet$Moment" ({ cls := "LadderStreet$Moment", name := "become", desc := "(LLadderStreet$Moment;)V" } : Jvm.MethodName) ({ cls := "LadderStreet$Moment", name := "become", desc := "(LLadderStreet$Moment;)V" } : Jvm.MethodName)) ∈ TB := tk_t5 (j := 125) rfl rfl
theorem tk_1188 : (Jvm.Cond.code ({ cls := "LadderStreet$Moment", name := "become", desc := "(LLadderStreet$Moment;)V" } : Jvm.MethodName) prog_6_method_3_code (2 : Nat) (Option.none : Option Jvm.ClassFile.FieldType)) ∈ TB := tk_t5 (j := 126) rfl rfl
theorem tk_1189 : (Jvm.Cond.methodLink "LadderStreetLaw" (113 : Nat) ({ cls := "LadderStreet", name := "enough", desc := "()I" } : Jvm.MethodName)) ∈ TB := tk_t5 (j := 127) rfl rfl
theorem tk_1190 : (Jvm.Cond.instanceMethod ({ cls := "LadderStreet", name := "enough", desc := "()I" } : Jvm.MethodName)) ∈ TB := tk_t5 (j := 128) rfl rfl
theorem tk_1191 : (Jvm.Cond.selects "LadderStreet" ({ cls := "LadderStreet", name := "enough", desc := "()I" } : Jvm.MethodName) ({ cls := "LadderStreet", name := "enough", desc := "()I" } : Jvm.MethodName)) ∈ TB := tk_t5 (j := 129) rfl rfl
theorem tk_1192 : (Jvm.Cond.code ({ cls := "LadderStreet", name := "enough", desc := "()I" } : Jvm.MethodName) prog_1_method_36_code (2 : Nat) (Option.some Jvm.ClassFile.FieldType.int)) ∈ TB := tk_t5 (j := 130) rfl rfl
theorem tk_1193 : (Jvm.Cond.methodLink "LadderStreet" (318 : Nat) ({ cls := "LadderStreet$Moment", name := "copyTook", desc := "([I)V" } : Jvm.MethodName)) ∈ TB := tk_t5 (j := 131) rfl rfl
theorem tk_1194 : (Jvm.Cond.instanceMethod ({ cls := "LadderStreet$Moment", name := "copyTook", desc := "([I)V" } : Jvm.MethodName)) ∈ TB := tk_t5 (j := 132) rfl rfl
theorem tk_1195 : (Jvm.Cond.selects "LadderStreet$Moment" ({ cls := "LadderStreet$Moment", name := "copyTook", desc := "([I)V" } : Jvm.MethodName) ({ cls := "LadderStreet$Moment", name := "copyTook", desc := "([I)V" } : Jvm.MethodName)) ∈ TB := tk_t5 (j := 133) rfl rfl
theorem tk_1196 : (Jvm.Cond.code ({ cls := "LadderStreet$Moment", name := "copyTook", desc := "([I)V" } : Jvm.MethodName) prog_6_method_18_code (3 : Nat) (Option.none : Option Jvm.ClassFile.FieldType)) ∈ TB := tk_t5 (j := 134) rfl rfl
theorem tk_1197 : (Jvm.Cond.methodLink "LadderStreet" (322 : Nat) ({ cls := "LadderStreet$Moment", name := "tookAsIn", desc := "([I)Z" } : Jvm.MethodName)) ∈ TB := tk_t5 (j := 135) rfl rfl
theorem tk_1198 : (Jvm.Cond.instanceMethod ({ cls := "LadderStreet$Moment", name := "tookAsIn", desc := "([I)Z" } : Jvm.MethodName)) ∈ TB := tk_t5 (j := 136) rfl rfl
theorem tk_1199 : (Jvm.Cond.selects "LadderStreet$Moment" ({ cls := "LadderStreet$Moment", name := "tookAsIn", desc := "([I)Z" } : Jvm.MethodName) ({ cls := "LadderStreet$Moment", name := "tookAsIn", desc := "([I)Z" } : Jvm.MethodName)) ∈ TB := tk_t5 (j := 137) rfl rfl
theorem tk_1200 : (Jvm.Cond.code ({ cls := "LadderStreet$Moment", name := "tookAsIn", desc := "([I)Z" } : Jvm.MethodName) prog_6_method_19_code (3 : Nat) (Option.some Jvm.ClassFile.FieldType.boolean)) ∈ TB := tk_t5 (j := 138) rfl rfl
theorem tk_1201 : (Jvm.Cond.methodLink "LadderStreetLaw" (72 : Nat) ({ cls := "LadderStreet", name := "errands", desc := "()I" } : Jvm.MethodName)) ∈ TB := tk_t5 (j := 139) rfl rfl
theorem tk_1202 : (Jvm.Cond.instanceMethod ({ cls := "LadderStreet", name := "errands", desc := "()I" } : Jvm.MethodName)) ∈ TB := tk_t5 (j := 140) rfl rfl
theorem tk_1203 : (Jvm.Cond.selects "LadderStreet" ({ cls := "LadderStreet", name := "errands", desc := "()I" } : Jvm.MethodName) ({ cls := "LadderStreet", name := "errands", desc := "()I" } : Jvm.MethodName)) ∈ TB := tk_t5 (j := 141) rfl rfl
theorem tk_1204 : (Jvm.Cond.code ({ cls := "LadderStreet", name := "errands", desc := "()I" } : Jvm.MethodName) prog_1_method_38_code (1 : Nat) (Option.some Jvm.ClassFile.FieldType.int)) ∈ TB := tk_t5 (j := 142) rfl rfl
theorem tk_1205 : (Jvm.Cond.methodLink "LadderStreet" (328 : Nat) ({ cls := "LadderStreet$Course", name := "errandsWithin", desc := "(ILLadderStreet$Moment;IZ)I" } : Jvm.MethodName)) ∈ TB := tk_t5 (j := 143) rfl rfl
theorem tk_1206 : (Jvm.Cond.instanceMethod ({ cls := "LadderStreet$Course", name := "errandsWithin", desc := "(ILLadderStreet$Moment;IZ)I" } : Jvm.MethodName)) ∈ TB := tk_t5 (j := 144) rfl rfl
theorem tk_1207 : (Jvm.Cond.selects "LadderStreet$Course" ({ cls := "LadderStreet$Course", name := "errandsWithin", desc := "(ILLadderStreet$Moment;IZ)I" } : Jvm.MethodName) ({ cls := "LadderStreet$Course", name := "errandsWithin", desc := "(ILLadderStreet$Moment;IZ)I" } : Jvm.MethodName)) ∈ TB := tk_t5 (j := 145) rfl rfl
theorem tk_1208 : (Jvm.Cond.code ({ cls := "LadderStreet$Course", name := "errandsWithin", desc := "(ILLadderStreet$Moment;IZ)I" } : Jvm.MethodName) prog_2_method_15_code (6 : Nat) (Option.some Jvm.ClassFile.FieldType.int)) ∈ TB := tk_t5 (j := 146) rfl rfl
theorem tk_1209 : (Jvm.Cond.methodLink "LadderStreet$Course" (138 : Nat) ({ cls := "LadderStreet$Course", name := "nobodyGoes", desc := "(LLadderStreet$Moment;)Z" } : Jvm.MethodName)) ∈ TB := tk_t5 (j := 147) rfl rfl
theorem tk_1211 : (Jvm.Cond.instanceMethod ({ cls := "LadderStreet$Course", name := "nobodyGoes", desc := "(LLadderStreet$Moment;)Z" } : Jvm.MethodName)) ∈ TB := tk_t5 (j := 149) rfl rfl
theorem tk_1212 : (Jvm.Cond.code ({ cls := "LadderStreet$Course", name := "nobodyGoes", desc := "(LLadderStreet$Moment;)Z" } : Jvm.MethodName) prog_2_method_16_code (3 : Nat) (Option.some Jvm.ClassFile.FieldType.boolean)) ∈ TB := tk_t5 (j := 150) rfl rfl
theorem tk_1213 : (Jvm.Cond.methodLink "LadderStreet$Course" (142 : Nat) ({ cls := "LadderStreet$Course", name := "oneMinute", desc := "(LLadderStreet$Moment;IZ)V" } : Jvm.MethodName)) ∈ TB := tk_t5 (j := 151) rfl rfl
theorem tk_1214 : (Jvm.Cond.methodLink "LadderStreetLaw" (146 : Nat) ({ cls := "LadderStreet", name := "mendFirst", desc := "()I" } : Jvm.MethodName)) ∈ TB := tk_t5 (j := 152) rfl rfl
theorem tk_1215 : (Jvm.Cond.instanceMethod ({ cls := "LadderStreet", name := "mendFirst", desc := "()I" } : Jvm.MethodName)) ∈ TB := tk_t5 (j := 153) rfl rfl
theorem tk_1216 : (Jvm.Cond.selects "LadderStreet" ({ cls := "LadderStreet", name := "mendFirst", desc := "()I" } : Jvm.MethodName) ({ cls := "LadderStreet", name := "mendFirst", desc := "()I" } : Jvm.MethodName)) ∈ TB := tk_t5 (j := 154) rfl rfl
theorem tk_1217 : (Jvm.Cond.code ({ cls := "LadderStreet", name := "mendFirst", desc := "()I" } : Jvm.MethodName) prog_1_method_39_code (5 : Nat) (Option.some Jvm.ClassFile.FieldType.int)) ∈ TB := tk_t5 (j := 155) rfl rfl
theorem tk_1218 : (Jvm.Cond.methodLink "LadderStreetLaw" (129 : Nat) ({ cls := "LadderStreet", name := "waits", desc := "(II)I" } : Jvm.MethodName)) ∈ TB := tk_t5 (j := 156) rfl rfl
theorem tk_1219 : (Jvm.Cond.instanceMethod ({ cls := "LadderStreet", name := "waits", desc := "(II)I" } : Jvm.MethodName)) ∈ TB := tk_t5 (j := 157) rfl rfl
theorem tk_1220 : (Jvm.Cond.selects "LadderStreet" ({ cls := "LadderStreet", name := "waits", desc := "(II)I" } : Jvm.MethodName) ({ cls := "LadderStreet", name := "waits", desc := "(II)I" } : Jvm.MethodName)) ∈ TB := tk_t5 (j := 158) rfl rfl
theorem tk_1221 : (Jvm.Cond.code ({ cls := "LadderStreet", name := "waits", desc := "(II)I" } : Jvm.MethodName) prog_1_method_40_code (4 : Nat) (Option.some Jvm.ClassFile.FieldType.int)) ∈ TB := tk_t5 (j := 159) rfl rfl
theorem tk_1222 : (Jvm.Cond.methodLink "LadderStreet" (332 : Nat) ({ cls := "LadderStreet", name := "lookAhead", desc := "(I)V" } : Jvm.MethodName)) ∈ TB := tk_t5 (j := 160) rfl rfl
theorem tk_1224 : (Jvm.Cond.instanceMethod ({ cls := "LadderStreet", name := "lookAhead", desc := "(I)V" } : Jvm.MethodName)) ∈ TB := tk_t5 (j := 162) rfl rfl
theorem tk_1225 : (Jvm.Cond.code ({ cls := "LadderStreet", name := "lookAhead", desc := "(I)V" } : Jvm.MethodName) prog_1_method_44_code (3 : Nat) (Option.none : Option Jvm.ClassFile.FieldType)) ∈ TB := tk_t5 (j := 163) rfl rfl
theorem tk_1226 : (Jvm.Cond.methodLink "LadderStreet" (335 : Nat) ({ cls := "LadderStreet$Looks", name := "whoWaitedLongest", desc := "(LLadderStreet$Moment;)I" } : Jvm.MethodName)) ∈ TB := tk_t5 (j := 164) rfl rfl
theorem tk_1227 : (Jvm.Cond.instanceMethod ({ cls := "LadderStreet$Looks", name := "whoWaitedLongest", desc := "(LLadderStreet$Moment;)I" } : Jvm.MethodName)) ∈ TB := tk_t5 (j := 165) rfl rfl
theorem tk_1228 : (Jvm.Cond.selects "LadderStreet$Looks" ({ cls := "LadderStreet$Looks", name := "whoWaitedLongest", desc := "(LLadderStreet$Moment;)I" } : Jvm.MethodName) ({ cls := "LadderStreet$Looks", name := "whoWaitedLongest", desc := "(LLadderStreet$Moment;)I" } : Jvm.MethodName)) ∈ TB := tk_t5 (j := 166) rfl rfl
theorem tk_1229 : (Jvm.Cond.code ({ cls := "LadderStreet$Looks", name := "whoWaitedLongest", desc := "(LLadderStreet$Moment;)I" } : Jvm.MethodName) prog_5_method_10_code (4 : Nat) (Option.some Jvm.ClassFile.FieldType.int)) ∈ TB := tk_t5 (j := 167) rfl rfl
theorem tk_1230 : (Jvm.Cond.methodLink "LadderStreetLaw" (133 : Nat) ({ cls := "LadderStreet", name := "crowd", desc := "(II)I" } : Jvm.MethodName)) ∈ TB := tk_t5 (j := 168) rfl rfl
theorem tk_1231 : (Jvm.Cond.instanceMethod ({ cls := "LadderStreet", name := "crowd", desc := "(II)I" } : Jvm.MethodName)) ∈ TB := tk_t5 (j := 169) rfl rfl
theorem tk_1232 : (Jvm.Cond.selects "LadderStreet" ({ cls := "LadderStreet", name := "crowd", desc := "(II)I" } : Jvm.MethodName) ({ cls := "LadderStreet", name := "crowd", desc := "(II)I" } : Jvm.MethodName)) ∈ TB := tk_t5 (j := 170) rfl rfl
theorem tk_1233 : (Jvm.Cond.code ({ cls := "LadderStreet", name := "crowd", desc := "(II)I" } : Jvm.MethodName) prog_1_method_41_code (4 : Nat) (Option.some Jvm.ClassFile.FieldType.int)) ∈ TB := tk_t5 (j := 171) rfl rfl
theorem tk_1234 : (Jvm.Cond.methodLink "LadderStreet" (338 : Nat) ({ cls := "LadderStreet$Looks", name := "fullestRung", desc := "(LLadderStreet$Moment;)I" } : Jvm.MethodName)) ∈ TB := tk_t5 (j := 172) rfl rfl
theorem tk_1235 : (Jvm.Cond.instanceMethod ({ cls := "LadderStreet$Looks", name := "fullestRung", desc := "(LLadderStreet$Moment;)I" } : Jvm.MethodName)) ∈ TB := tk_t5 (j := 173) rfl rfl
theorem tk_1236 : (Jvm.Cond.selects "LadderStreet$Looks" ({ cls := "LadderStreet$Looks", name := "fullestRung", desc := "(LLadderStreet$Moment;)I" } : Jvm.MethodName) ({ cls := "LadderStreet$Looks", name := "fullestRung", desc := "(LLadderStreet$Moment;)I" } : Jvm.MethodName)) ∈ TB := tk_t5 (j := 174) rfl rfl
theorem tk_1237 : (Jvm.Cond.code ({ cls := "LadderStreet$Looks", name := "fullestRung", desc := "(LLadderStreet$Moment;)I" } : Jvm.MethodName) prog_5_method_8_code (4 : Nat) (Option.some Jvm.ClassFile.FieldType.int)) ∈ TB := tk_t5 (j := 175) rfl rfl
theorem tk_1238 : (Jvm.Cond.methodLink "LadderStreetLaw" (150 : Nat) ({ cls := "LadderStreet", name := "then", desc := "(III)I" } : Jvm.MethodName)) ∈ TB := tk_t5 (j := 176) rfl rfl
theorem tk_1239 : (Jvm.Cond.instanceMethod ({ cls := "LadderStreet", name := "then", desc := "(III)I" } : Jvm.MethodName)) ∈ TB := tk_t5 (j := 177) rfl rfl
theorem tk_1240 : (Jvm.Cond.selects "LadderStreet" ({ cls := "LadderStreet", name := "then", desc := "(III)I" } : Jvm.MethodName) ({ cls := "LadderStreet", name := "then", desc := "(III)I" } : Jvm.MethodName)) ∈ TB := tk_t5 (j := 178) rfl rfl
theorem tk_1241 : (Jvm.Cond.code ({ cls := "LadderStreet", name := "then", desc := "(III)I" } : Jvm.MethodName) prog_1_method_42_code (4 : Nat) (Option.some Jvm.ClassFile.FieldType.int)) ∈ TB := tk_t5 (j := 179) rfl rfl
theorem tk_1242 : (Jvm.Cond.methodLink "LadderStreet" (341 : Nat) ({ cls := "java/lang/Integer", name := "bitCount", desc := "(I)I" } : Jvm.MethodName)) ∈ TB := tk_t5 (j := 180) rfl rfl
theorem tk_1243 : (Jvm.Cond.methodLink "LadderStreetLaw" (154 : Nat) ({ cls := "LadderStreet", name := "year", desc := "(II)I" } : Jvm.MethodName)) ∈ TB := tk_t5 (j := 181) rfl rfl
theorem tk_1244 : (Jvm.Cond.instanceMethod ({ cls := "LadderStreet", name := "year", desc := "(II)I" } : Jvm.MethodName)) ∈ TB := tk_t5 (j := 182) rfl rfl
theorem tk_1245 : (Jvm.Cond.selects "LadderStreet" ({ cls := "LadderStreet", name := "year", desc := "(II)I" } : Jvm.MethodName) ({ cls := "LadderStreet", name := "year", desc := "(II)I" } : Jvm.MethodName)) ∈ TB := tk_t5 (j := 183) rfl rfl
theorem tk_1246 : (Jvm.Cond.code ({ cls := "LadderStreet", name := "year", desc := "(II)I" } : Jvm.MethodName) prog_1_method_43_code (5 : Nat) (Option.some Jvm.ClassFile.FieldType.int)) ∈ TB := tk_t5 (j := 184) rfl rfl
theorem tk_1247 : (Jvm.Cond.methodLink "LadderStreetLaw" (158 : Nat) ({ cls := "LadderStreet", name := "tell", desc := "(IZ)I" } : Jvm.MethodName)) ∈ TB := tk_t5 (j := 185) rfl rfl
theorem tk_1248 : (Jvm.Cond.instanceMethod ({ cls := "LadderStreet", name := "tell", desc := "(IZ)I" } : Jvm.MethodName)) ∈ TB := tk_t5 (j := 186) rfl rfl
theorem tk_1249 : (Jvm.Cond.selects "LadderStreet" ({ cls := "LadderStreet", name := "tell", desc := "(IZ)I" } : Jvm.MethodName) ({ cls := "LadderStreet", name := "tell", desc := "(IZ)I" } : Jvm.MethodName)) ∈ TB := tk_t5 (j := 187) rfl rfl
theorem tk_1250 : (Jvm.Cond.code ({ cls := "LadderStreet", name := "tell", desc := "(IZ)I" } : Jvm.MethodName) prog_1_method_45_code (3 : Nat) (Option.some Jvm.ClassFile.FieldType.int)) ∈ TB := tk_t5 (j := 188) rfl rfl
theorem tk_1251 : (Jvm.Cond.methodLink "LadderStreet" (346 : Nat) ({ cls := "LadderStreet$Rumours", name := "add", desc := "(IZ)I" } : Jvm.MethodName)) ∈ TB := tk_t5 (j := 189) rfl rfl
theorem tk_1252 : (Jvm.Cond.instanceMethod ({ cls := "LadderStreet$Rumours", name := "add", desc := "(IZ)I" } : Jvm.MethodName)) ∈ TB := tk_t5 (j := 190) rfl rfl
theorem tk_1253 : (Jvm.Cond.selects "LadderStreet$Rumours" ({ cls := "LadderStreet$Rumours", name := "add", desc := "(IZ)I" } : Jvm.MethodName) ({ cls := "LadderStreet$Rumours", name := "add", desc := "(IZ)I" } : Jvm.MethodName)) ∈ TB := tk_t5 (j := 191) rfl rfl
theorem tk_1254 : (Jvm.Cond.code ({ cls := "LadderStreet$Rumours", name := "add", desc := "(IZ)I" } : Jvm.MethodName) prog_8_method_3_code (3 : Nat) (Option.some Jvm.ClassFile.FieldType.int)) ∈ TB := tk_t5 (j := 192) rfl rfl
theorem tk_1255 : (Jvm.Cond.methodLink "LadderStreetLaw" (163 : Nat) ({ cls := "LadderStreet", name := "forget", desc := "()I" } : Jvm.MethodName)) ∈ TB := tk_t5 (j := 193) rfl rfl
theorem tk_1256 : (Jvm.Cond.instanceMethod ({ cls := "LadderStreet", name := "forget", desc := "()I" } : Jvm.MethodName)) ∈ TB := tk_t5 (j := 194) rfl rfl
theorem tk_1257 : (Jvm.Cond.selects "LadderStreet" ({ cls := "LadderStreet", name := "forget", desc := "()I" } : Jvm.MethodName) ({ cls := "LadderStreet", name := "forget", desc := "()I" } : Jvm.MethodName)) ∈ TB := tk_t5 (j := 195) rfl rfl
theorem tk_1258 : (Jvm.Cond.code ({ cls := "LadderStreet", name := "forget", desc := "()I" } : Jvm.MethodName) prog_1_method_46_code (1 : Nat) (Option.some Jvm.ClassFile.FieldType.int)) ∈ TB := tk_t5 (j := 196) rfl rfl
theorem tk_1259 : (Jvm.Cond.methodLink "LadderStreetLaw" (167 : Nat) ({ cls := "LadderStreet", name := "trod", desc := "(II)I" } : Jvm.MethodName)) ∈ TB := tk_t5 (j := 197) rfl rfl
theorem tk_1260 : (Jvm.Cond.instanceMethod ({ cls := "LadderStreet", name := "trod", desc := "(II)I" } : Jvm.MethodName)) ∈ TB := tk_t5 (j := 198) rfl rfl
theorem tk_1261 : (Jvm.Cond.selects "LadderStreet" ({ cls := "LadderStreet", name := "trod", desc := "(II)I" } : Jvm.MethodName) ({ cls := "LadderStreet", name := "trod", desc := "(II)I" } : Jvm.MethodName)) ∈ TB := tk_t5 (j := 199) rfl rfl
theorem tk_1262 : (Jvm.Cond.code ({ cls := "LadderStreet", name := "trod", desc := "(II)I" } : Jvm.MethodName) prog_1_method_47_code (4 : Nat) (Option.some Jvm.ClassFile.FieldType.int)) ∈ TB := tk_t5 (j := 200) rfl rfl
theorem tk_1263 : (Jvm.Cond.methodLink "LadderStreet" (350 : Nat) ({ cls := "LadderStreet$Rumours", name := "whoFits", desc := "(LLadderStreet$Moment;I)I" } : Jvm.MethodName)) ∈ TB := tk_t5 (j := 201) rfl rfl
theorem tk_1264 : (Jvm.Cond.instanceMethod ({ cls := "LadderStreet$Rumours", name := "whoFits", desc := "(LLadderStreet$Moment;I)I" } : Jvm.MethodName)) ∈ TB := tk_t5 (j := 202) rfl rfl
theorem tk_1265 : (Jvm.Cond.selects "LadderStreet$Rumours" ({ cls := "LadderStreet$Rumours", name := "whoFits", desc := "(LLadderStreet$Moment;I)I" } : Jvm.MethodName) ({ cls := "LadderStreet$Rumours", name := "whoFits", desc := "(LLadderStreet$Moment;I)I" } : Jvm.MethodName)) ∈ TB := tk_t5 (j := 203) rfl rfl
theorem tk_1266 : (Jvm.Cond.code ({ cls := "LadderStreet$Rumours", name := "whoFits", desc := "(LLadderStreet$Moment;I)I" } : Jvm.MethodName) prog_8_method_5_code (5 : Nat) (Option.some Jvm.ClassFile.FieldType.int)) ∈ TB := tk_t5 (j := 204) rfl rfl
theorem tk_1267 : (Jvm.Cond.methodLink "LadderStreet$Rumours" (32 : Nat) ({ cls := "LadderStreet$Rumours", name := "doesFit", desc := "(LLadderStreet$Moment;II)Z" } : Jvm.MethodName)) ∈ TB := tk_t5 (j := 205) rfl rfl
theorem tk_1269 : (Jvm.Cond.instanceMethod ({ cls := "LadderStreet$Rumours", name := "doesFit", desc := "(LLadderStreet$Moment;II)Z" } : Jvm.MethodName)) ∈ TB := tk_t5 (j := 207) rfl rfl
theorem tk_1270 : (Jvm.Cond.code ({ cls := "LadderStreet$Rumours", name := "doesFit", desc := "(LLadderStreet$Moment;II)Z" } : Jvm.MethodName) prog_8_method_6_code (6 : Nat) (Option.some Jvm.ClassFile.FieldType.boolean)) ∈ TB := tk_t5 (j := 208) rfl rfl
theorem tk_1271 : (Jvm.Cond.methodLink "LadderStreet$Rumours" (38 : Nat) ({ cls := "LadderStreet$Moment", name := "of", desc := "(II)I" } : Jvm.MethodName)) ∈ TB := tk_t5 (j := 209) rfl rfl
theorem tk_1272 : (Jvm.Cond.methodLink "LadderStreet$Rumours" (42 : Nat) ({ cls := "LadderStreet$Rumours", name := "treads", desc := "(LLadderStreet$Moment;II)Z" } : Jvm.MethodName)) ∈ TB := tk_t5 (j := 210) rfl rfl
theorem tk_1274 : (Jvm.Cond.instanceMethod ({ cls := "LadderStreet$Rumours", name := "treads", desc := "(LLadderStreet$Moment;II)Z" } : Jvm.MethodName)) ∈ TB := tk_t5 (j := 212) rfl rfl
theorem tk_1275 : (Jvm.Cond.code ({ cls := "LadderStreet$Rumours", name := "treads", desc := "(LLadderStreet$Moment;II)Z" } : Jvm.MethodName) prog_8_method_7_code (6 : Nat) (Option.some Jvm.ClassFile.FieldType.boolean)) ∈ TB := tk_t5 (j := 213) rfl rfl
theorem tk_1276 : (Jvm.Cond.methodLink "LadderStreetLaw" (171 : Nat) ({ cls := "LadderStreet", name := "ask", desc := "(I)I" } : Jvm.MethodName)) ∈ TB := tk_t5 (j := 214) rfl rfl
theorem tk_1277 : (Jvm.Cond.instanceMethod ({ cls := "LadderStreet", name := "ask", desc := "(I)I" } : Jvm.MethodName)) ∈ TB := tk_t5 (j := 215) rfl rfl
theorem tk_1278 : (Jvm.Cond.selects "LadderStreet" ({ cls := "LadderStreet", name := "ask", desc := "(I)I" } : Jvm.MethodName) ({ cls := "LadderStreet", name := "ask", desc := "(I)I" } : Jvm.MethodName)) ∈ TB := tk_t5 (j := 216) rfl rfl
theorem tk_1279 : (Jvm.Cond.code ({ cls := "LadderStreet", name := "ask", desc := "(I)I" } : Jvm.MethodName) prog_1_method_48_code (2 : Nat) (Option.some Jvm.ClassFile.FieldType.int)) ∈ TB := tk_t5 (j := 217) rfl rfl
theorem tk_1280 : (Jvm.Cond.methodLink "LadderStreet" (353 : Nat) ({ cls := "LadderStreet$Rumours", name := "bestRung", desc := "(LLadderStreet$Moment;I)I" } : Jvm.MethodName)) ∈ TB := tk_t5 (j := 218) rfl rfl
theorem tk_1281 : (Jvm.Cond.instanceMethod ({ cls := "LadderStreet$Rumours", name := "bestRung", desc := "(LLadderStreet$Moment;I)I" } : Jvm.MethodName)) ∈ TB := tk_t5 (j := 219) rfl rfl
theorem tk_1282 : (Jvm.Cond.selects "LadderStreet$Rumours" ({ cls := "LadderStreet$Rumours", name := "bestRung", desc := "(LLadderStreet$Moment;I)I" } : Jvm.MethodName) ({ cls := "LadderStreet$Rumours", name := "bestRung", desc := "(LLadderStreet$Moment;I)I" } : Jvm.MethodName)) ∈ TB := tk_t5 (j := 220) rfl rfl
theorem tk_1283 : (Jvm.Cond.code ({ cls := "LadderStreet$Rumours", name := "bestRung", desc := "(LLadderStreet$Moment;I)I" } : Jvm.MethodName) prog_8_method_8_code (9 : Nat) (Option.some Jvm.ClassFile.FieldType.int)) ∈ TB := tk_t5 (j := 221) rfl rfl
theorem tk_1284 : (Jvm.Cond.methodLink "LadderStreet$Rumours" (45 : Nat) ({ cls := "LadderStreet$Rumours", name := "whoFits", desc := "(LLadderStreet$Moment;I)I" } : Jvm.MethodName)) ∈ TB := tk_t5 (j := 222) rfl rfl
theorem tk_1285 : (Jvm.Cond.methodLink "LadderStreet$Rumours" (51 : Nat) ({ cls := "LadderStreet$Rumours", name := "whoTreads", desc := "(LLadderStreet$Moment;I)I" } : Jvm.MethodName)) ∈ TB := tk_t5 (j := 223) rfl rfl
theorem tk_1287 : (Jvm.Cond.instanceMethod ({ cls := "LadderStreet$Rumours", name := "whoTreads", desc := "(LLadderStreet$Moment;I)I" } : Jvm.MethodName)) ∈ TB := tk_t5 (j := 225) rfl rfl
theorem tk_1288 : (Jvm.Cond.code ({ cls := "LadderStreet$Rumours", name := "whoTreads", desc := "(LLadderStreet$Moment;I)I" } : Jvm.MethodName) prog_8_method_9_code (5 : Nat) (Option.some Jvm.ClassFile.FieldType.int)) ∈ TB := tk_t5 (j := 226) rfl rfl
theorem tk_1289 : (Jvm.Cond.methodLink "LadderStreet$Rumours" (54 : Nat) ({ cls := "java/lang/Integer", name := "bitCount", desc := "(I)I" } : Jvm.MethodName)) ∈ TB := tk_t5 (j := 227) rfl rfl
theorem tk_1290 : (Jvm.Cond.methodLink "LadderStreet$Rumours" (60 : Nat) ({ cls := "java/lang/Math", name := "max", desc := "(II)I" } : Jvm.MethodName)) ∈ TB := tk_t5 (j := 228) rfl rfl
theorem tk_1291 : (Jvm.Cond.classLink "LadderStreetLaw" (10 : Nat) "LadderStreetModel") ∈ TB := tk_t5 (j := 229) rfl rfl
theorem tk_1292 : (Jvm.Cond.instantiable "LadderStreetModel" (63 : Nat)) ∈ TB := tk_t5 (j := 230) rfl rfl
theorem tk_1293 : (Jvm.Cond.methodLink "LadderStreetLaw" (12 : Nat) ({ cls := "LadderStreetModel", name := "<init>", desc := "()V" } : Jvm.MethodName)) ∈ TB := tk_t5 (j := 231) rfl rfl
theorem tk_1294 : (Jvm.Cond.instanceMethod ({ cls := "LadderStreetModel", name := "<init>", desc := "()V" } : Jvm.MethodName)) ∈ TB := tk_t5 (j := 232) rfl rfl
theorem tk_1296 : (Jvm.Cond.methodLink "LadderStreetModel" (7 : Nat) ({ cls := "java/lang/Object", name := "<init>", desc := "()V" } : Jvm.MethodName)) ∈ TB := tk_t5 (j := 234) rfl rfl
theorem tk_1297 : (Jvm.Cond.methodLink "LadderStreetModel" (140 : Nat) ({ cls := "LadderStreetModel", name := "plain", desc := "(I)V" } : Jvm.MethodName)) ∈ TB := tk_t5 (j := 235) rfl rfl
theorem tk_1299 : (Jvm.Cond.instanceMethod ({ cls := "LadderStreetModel", name := "plain", desc := "(I)V" } : Jvm.MethodName)) ∈ TB := tk_t5 (j := 237) rfl rfl
theorem tk_1300 : (Jvm.Cond.code ({ cls := "LadderStreetModel", name := "plain", desc := "(I)V" } : Jvm.MethodName) prog_14_method_19_code (3 : Nat) (Option.none : Option Jvm.ClassFile.FieldType)) ∈ TB := tk_t5 (j := 238) rfl rfl
theorem tk_1301 : (Jvm.Cond.methodLink "LadderStreetModel" (144 : Nat) ({ cls := "LadderStreetModel", name := "word", desc := "(IIIIIII)J" } : Jvm.MethodName)) ∈ TB := tk_t5 (j := 239) rfl rfl
theorem tk_1302 : (Jvm.Cond.static ({ cls := "LadderStreetModel", name := "word", desc := "(IIIIIII)J" } : Jvm.MethodName)) ∈ TB := tk_t6 (j := 0) rfl rfl
theorem tk_1303 : (Jvm.Cond.code ({ cls := "LadderStreetModel", name := "word", desc := "(IIIIIII)J" } : Jvm.MethodName) prog_14_method_10_code (7 : Nat) (Option.some Jvm.ClassFile.FieldType.long)) ∈ TB := tk_t6 (j := 1) rfl rfl
theorem tk_1304 : (Jvm.Cond.methodLink "LadderStreetModel" (165 : Nat) ({ cls := "LadderStreetModel", name := "appends", desc := "(JI)J" } : Jvm.MethodName)) ∈ TB := tk_t6 (j := 2) rfl rfl
theorem tk_1305 : (Jvm.Cond.static ({ cls := "LadderStreetModel", name := "appends", desc := "(JI)J" } : Jvm.MethodName)) ∈ TB := tk_t6 (j := 3) rfl rfl
theorem tk_1306 : (Jvm.Cond.code ({ cls := "LadderStreetModel", name := "appends", desc := "(JI)J" } : Jvm.MethodName) prog_14_method_9_code (3 : Nat) (Option.some Jvm.ClassFile.FieldType.long)) ∈ TB := tk_t6 (j := 4) rfl rfl
theorem tk_1307 : (Jvm.Cond.constantLong "LadderStreetModel" (163 : Nat) (27 : Int64)) ∈ TB := tk_t6 (j := 5) rfl rfl
theorem tk_1308 : (Jvm.Cond.methodLink "LadderStreetModel" (148 : Nat) ({ cls := "LadderStreetModel", name := "begins", desc := "()V" } : Jvm.MethodName)) ∈ TB := tk_t6 (j := 6) rfl rfl
theorem tk_1310 : (Jvm.Cond.instanceMethod ({ cls := "LadderStreetModel", name := "begins", desc := "()V" } : Jvm.MethodName)) ∈ TB := tk_t6 (j := 8) rfl rfl
theorem tk_1311 : (Jvm.Cond.code ({ cls := "LadderStreetModel", name := "begins", desc := "()V" } : Jvm.MethodName) prog_14_method_40_code (2 : Nat) (Option.none : Option Jvm.ClassFile.FieldType)) ∈ TB := tk_t6 (j := 9) rfl rfl
theorem tk_1312 : (Jvm.Cond.methodLink "LadderStreetModel" (151 : Nat) ({ cls := "LadderStreetModel", name := "keepsRow", desc := "()V" } : Jvm.MethodName)) ∈ TB := tk_t6 (j := 10) rfl rfl
theorem tk_1314 : (Jvm.Cond.instanceMethod ({ cls := "LadderStreetModel", name := "keepsRow", desc := "()V" } : Jvm.MethodName)) ∈ TB := tk_t6 (j := 12) rfl rfl
theorem tk_1315 : (Jvm.Cond.code ({ cls := "LadderStreetModel", name := "keepsRow", desc := "()V" } : Jvm.MethodName) prog_14_method_41_code (2 : Nat) (Option.none : Option Jvm.ClassFile.FieldType)) ∈ TB := tk_t6 (j := 13) rfl rfl
theorem tk_1316 : (Jvm.Cond.fieldLink "LadderStreetModel" (13 : Nat) "LadderStreetModel" "tape" "[B") ∈ TB := tk_t6 (j := 14) rfl rfl
theorem tk_1317 : (Jvm.Cond.fieldLink "LadderStreetModel" (154 : Nat) "LadderStreetModel" "taped" "I") ∈ TB := tk_t6 (j := 15) rfl rfl
theorem tk_1318 : (Jvm.Cond.fieldLink "LadderStreetModel" (17 : Nat) "LadderStreetModel" "text" "[B") ∈ TB := tk_t6 (j := 16) rfl rfl
theorem tk_1319 : (Jvm.Cond.fieldLink "LadderStreetModel" (160 : Nat) "LadderStreetModel" "size" "I") ∈ TB := tk_t6 (j := 17) rfl rfl
theorem tk_1320 : (Jvm.Cond.fieldLink "LadderStreetModel" (20 : Nat) "LadderStreetModel" "tKind" "[I") ∈ TB := tk_t6 (j := 18) rfl rfl
theorem tk_1321 : (Jvm.Cond.fieldLink "LadderStreetModel" (24 : Nat) "LadderStreetModel" "tPlace" "[I") ∈ TB := tk_t6 (j := 19) rfl rfl
theorem tk_1322 : (Jvm.Cond.fieldLink "LadderStreetModel" (27 : Nat) "LadderStreetModel" "tValue" "[I") ∈ TB := tk_t6 (j := 20) rfl rfl
theorem tk_1323 : (Jvm.Cond.fieldLink "LadderStreetModel" (30 : Nat) "LadderStreetModel" "tName" "[J") ∈ TB := tk_t6 (j := 21) rfl rfl
theorem tk_1324 : (Jvm.Cond.fieldLink "LadderStreetModel" (34 : Nat) "LadderStreetModel" "keys" "[J") ∈ TB := tk_t6 (j := 22) rfl rfl
theorem tk_1325 : (Jvm.Cond.fieldLink "LadderStreetModel" (169 : Nat) "LadderStreetModel" "tokens" "I") ∈ TB := tk_t6 (j := 23) rfl rfl
theorem tk_1326 : (Jvm.Cond.fieldLink "LadderStreetModel" (194 : Nat) "LadderStreetModel" "t" "I") ∈ TB := tk_t6 (j := 24) rfl rfl
theorem tk_1327 : (Jvm.Cond.fieldLink "LadderStreetModel" (218 : Nat) "LadderStreetModel" "open" "I") ∈ TB := tk_t6 (j := 25) rfl rfl
theorem tk_1328 : (Jvm.Cond.fieldLink "LadderStreetModel" (191 : Nat) "LadderStreetModel" "fault" "I") ∈ TB := tk_t6 (j := 26) rfl rfl
theorem tk_1329 : (Jvm.Cond.fieldLink "LadderStreetModel" (197 : Nat) "LadderStreetModel" "faultPlace" "I") ∈ TB := tk_t6 (j := 27) rfl rfl
theorem tk_1330 : (Jvm.Cond.fieldLink "LadderStreetModel" (200 : Nat) "LadderStreetModel" "worst" "I") ∈ TB := tk_t6 (j := 28) rfl rfl
theorem tk_1331 : (Jvm.Cond.fieldLink "LadderStreetModel" (203 : Nat) "LadderStreetModel" "worstPlace" "I") ∈ TB := tk_t6 (j := 29) rfl rfl
theorem tk_1332 : (Jvm.Cond.fieldLink "LadderStreetModel" (37 : Nat) "LadderStreetModel" "place" "I") ∈ TB := tk_t6 (j := 30) rfl rfl
theorem tk_1333 : (Jvm.Cond.fieldLink "LadderStreetModel" (221 : Nat) "LadderStreetModel" "live" "I") ∈ TB := tk_t6 (j := 31) rfl rfl
theorem tk_1334 : (Jvm.Cond.fieldLink "LadderStreetModel" (224 : Nat) "LadderStreetModel" "side" "I") ∈ TB := tk_t6 (j := 32) rfl rfl
theorem tk_1335 : (Jvm.Cond.fieldLink "LadderStreetModel" (227 : Nat) "LadderStreetModel" "names" "I") ∈ TB := tk_t6 (j := 33) rfl rfl
theorem tk_1336 : (Jvm.Cond.fieldLink "LadderStreetModel" (40 : Nat) "LadderStreetModel" "nameOf" "[J") ∈ TB := tk_t6 (j := 34) rfl rfl
theorem tk_1337 : (Jvm.Cond.fieldLink "LadderStreetModel" (43 : Nat) "LadderStreetModel" "shaft" "[I") ∈ TB := tk_t6 (j := 35) rfl rfl
theorem tk_1338 : (Jvm.Cond.fieldLink "LadderStreetModel" (46 : Nat) "LadderStreetModel" "people" "[I") ∈ TB := tk_t6 (j := 36) rfl rfl
theorem tk_1339 : (Jvm.Cond.fieldLink "LadderStreetModel" (49 : Nat) "LadderStreetModel" "atTold" "[I") ∈ TB := tk_t6 (j := 37) rfl rfl
theorem tk_1340 : (Jvm.Cond.fieldLink "LadderStreetModel" (52 : Nat) "LadderStreetModel" "widthOf" "[I") ∈ TB := tk_t6 (j := 38) rfl rfl
theorem tk_1341 : (Jvm.Cond.fieldLink "LadderStreetModel" (55 : Nat) "LadderStreetModel" "temperOf" "[I") ∈ TB := tk_t6 (j := 39) rfl rfl
theorem tk_1342 : (Jvm.Cond.fieldLink "LadderStreetModel" (58 : Nat) "LadderStreetModel" "thirstOf" "[I") ∈ TB := tk_t6 (j := 40) rfl rfl
theorem tk_1343 : (Jvm.Cond.fieldLink "LadderStreetModel" (61 : Nat) "LadderStreetModel" "seed" "[I") ∈ TB := tk_t6 (j := 41) rfl rfl
theorem tk_1344 : (Jvm.Cond.fieldLink "LadderStreetModel" (64 : Nat) "LadderStreetModel" "lawFirst" "[I") ∈ TB := tk_t6 (j := 42) rfl rfl
theorem tk_1345 : (Jvm.Cond.fieldLink "LadderStreetModel" (67 : Nat) "LadderStreetModel" "lawLast" "[I") ∈ TB := tk_t6 (j := 43) rfl rfl
theorem tk_1346 : (Jvm.Cond.fieldLink "LadderStreetModel" (230 : Nat) "LadderStreetModel" "branches" "I") ∈ TB := tk_t6 (j := 44) rfl rfl
theorem tk_1347 : (Jvm.Cond.fieldLink "LadderStreetModel" (70 : Nat) "LadderStreetModel" "hasTest" "[Z") ∈ TB := tk_t6 (j := 45) rfl rfl
theorem tk_1348 : (Jvm.Cond.fieldLink "LadderStreetModel" (74 : Nat) "LadderStreetModel" "testFrom" "[I") ∈ TB := tk_t6 (j := 46) rfl rfl
theorem tk_1349 : (Jvm.Cond.fieldLink "LadderStreetModel" (77 : Nat) "LadderStreetModel" "testMid" "[I") ∈ TB := tk_t6 (j := 47) rfl rfl
theorem tk_1350 : (Jvm.Cond.fieldLink "LadderStreetModel" (80 : Nat) "LadderStreetModel" "testTo" "[I") ∈ TB := tk_t6 (j := 48) rfl rfl
theorem tk_1351 : (Jvm.Cond.fieldLink "LadderStreetModel" (83 : Nat) "LadderStreetModel" "termTo" "[I") ∈ TB := tk_t6 (j := 49) rfl rfl
theorem tk_1352 : (Jvm.Cond.fieldLink "LadderStreetModel" (233 : Nat) "LadderStreetModel" "codes" "I") ∈ TB := tk_t6 (j := 50) rfl rfl
theorem tk_1353 : (Jvm.Cond.fieldLink "LadderStreetModel" (86 : Nat) "LadderStreetModel" "code" "[I") ∈ TB := tk_t6 (j := 51) rfl rfl
theorem tk_1354 : (Jvm.Cond.fieldLink "LadderStreetModel" (89 : Nat) "LadderStreetModel" "codeInt" "[I") ∈ TB := tk_t6 (j := 52) rfl rfl
theorem tk_1355 : (Jvm.Cond.fieldLink "LadderStreetModel" (92 : Nat) "LadderStreetModel" "signsWait" "[I") ∈ TB := tk_t6 (j := 53) rfl rfl
theorem tk_1356 : (Jvm.Cond.fieldLink "LadderStreetModel" (275 : Nat) "LadderStreetModel" "waiting" "I") ∈ TB := tk_t6 (j := 54) rfl rfl
theorem tk_1357 : (Jvm.Cond.fieldLink "LadderStreetModel" (95 : Nat) "LadderStreetModel" "variables" "[I") ∈ TB := tk_t6 (j := 55) rfl rfl
theorem tk_1358 : (Jvm.Cond.fieldLink "LadderStreetModel" (98 : Nat) "LadderStreetModel" "pile" "[I") ∈ TB := tk_t6 (j := 56) rfl rfl
theorem tk_1359 : (Jvm.Cond.fieldLink "LadderStreetModel" (288 : Nat) "LadderStreetModel" "byNothing" "Z") ∈ TB := tk_t6 (j := 57) rfl rfl
theorem tk_1360 : (Jvm.Cond.fieldLink "LadderStreetModel" (101 : Nat) "LadderStreetModel" "now" "[I") ∈ TB := tk_t6 (j := 58) rfl rfl
theorem tk_1361 : (Jvm.Cond.fieldLink "LadderStreetModel" (104 : Nat) "LadderStreetModel" "row" "[I") ∈ TB := tk_t6 (j := 59) rfl rfl
theorem tk_1362 : (Jvm.Cond.fieldLink "LadderStreetModel" (296 : Nat) "LadderStreetModel" "lots" "I") ∈ TB := tk_t6 (j := 60) rfl rfl
theorem tk_1363 : (Jvm.Cond.fieldLink "LadderStreetModel" (299 : Nat) "LadderStreetModel" "isStill" "Z") ∈ TB := tk_t6 (j := 61) rfl rfl
theorem tk_1364 : (Jvm.Cond.fieldLink "LadderStreetModel" (247 : Nat) "LadderStreetModel" "undos" "I") ∈ TB := tk_t6 (j := 62) rfl rfl
theorem tk_1365 : (Jvm.Cond.fieldLink "LadderStreetModel" (107 : Nat) "LadderStreetModel" "history" "[I") ∈ TB := tk_t6 (j := 63) rfl rfl
theorem tk_1366 : (Jvm.Cond.fieldLink "LadderStreetModel" (110 : Nat) "LadderStreetModel" "takesOf" "[I") ∈ TB := tk_t6 (j := 64) rfl rfl
theorem tk_1367 : (Jvm.Cond.fieldLink "LadderStreetModel" (113 : Nat) "LadderStreetModel" "isSo" "[Z") ∈ TB := tk_t6 (j := 65) rfl rfl
theorem tk_1368 : (Jvm.Cond.fieldLink "LadderStreetModel" (116 : Nat) "LadderStreetModel" "isThen" "[Z") ∈ TB := tk_t6 (j := 66) rfl rfl
theorem tk_1369 : (Jvm.Cond.fieldLink "LadderStreetModel" (417 : Nat) "LadderStreetModel" "oneAt" "I") ∈ TB := tk_t6 (j := 67) rfl rfl
theorem tk_1370 : (Jvm.Cond.fieldLink "LadderStreetModel" (119 : Nat) "LadderStreetModel" "homeOf" "[I") ∈ TB := tk_t6 (j := 68) rfl rfl
theorem tk_1371 : (Jvm.Cond.fieldLink "LadderStreetModel" (122 : Nat) "LadderStreetModel" "fullOf" "[I") ∈ TB := tk_t6 (j := 69) rfl rfl
theorem tk_1372 : (Jvm.Cond.fieldLink "LadderStreetModel" (125 : Nat) "LadderStreetModel" "pairsOf" "[I") ∈ TB := tk_t6 (j := 70) rfl rfl
theorem tk_1373 : (Jvm.Cond.fieldLink "LadderStreetModel" (250 : Nat) "LadderStreetModel" "tolds" "I") ∈ TB := tk_t6 (j := 71) rfl rfl
theorem tk_1374 : (Jvm.Cond.fieldLink "LadderStreetModel" (128 : Nat) "LadderStreetModel" "toldRung" "[I") ∈ TB := tk_t6 (j := 72) rfl rfl
theorem tk_1375 : (Jvm.Cond.fieldLink "LadderStreetModel" (131 : Nat) "LadderStreetModel" "toldAbove" "[Z") ∈ TB := tk_t6 (j := 73) rfl rfl
theorem tk_1376 : (Jvm.Cond.fieldLink "LadderStreetModel" (134 : Nat) "LadderStreetModel" "isHeld" "[Z") ∈ TB := tk_t6 (j := 74) rfl rfl
theorem tk_1377 : (Jvm.Cond.fieldLink "LadderStreetModel" (137 : Nat) "LadderStreetModel" "heldRows" "[I") ∈ TB := tk_t6 (j := 75) rfl rfl
theorem tk_1505 : (Jvm.Cond.methodLink "LadderStreetLaw" (17 : Nat) ({ cls := "LadderStreetModel", name := "feed", desc := "(IIIII)I" } : Jvm.MethodName)) ∈ TB := tk_t6 (j := 203) rfl rfl
theorem tk_1506 : (Jvm.Cond.instanceMethod ({ cls := "LadderStreetModel", name := "feed", desc := "(IIIII)I" } : Jvm.MethodName)) ∈ TB := tk_t6 (j := 204) rfl rfl
theorem tk_1507 : (Jvm.Cond.selects "LadderStreetModel" ({ cls := "LadderStreetModel", name := "feed", desc := "(IIIII)I" } : Jvm.MethodName) ({ cls := "LadderStreetModel", name := "feed", desc := "(IIIII)I" } : Jvm.MethodName)) ∈ TB := tk_t6 (j := 205) rfl rfl
theorem tk_1508 : (Jvm.Cond.code ({ cls := "LadderStreetModel", name := "feed", desc := "(IIIII)I" } : Jvm.MethodName) prog_14_method_3_code (6 : Nat) (Option.some Jvm.ClassFile.FieldType.int)) ∈ TB := tk_t6 (j := 206) rfl rfl
theorem tk_1509 : (Jvm.Cond.methodLink "LadderStreetModel" (157 : Nat) ({ cls := "LadderStreetModel", name := "put", desc := "(I)V" } : Jvm.MethodName)) ∈ TB := tk_t6 (j := 207) rfl rfl
theorem tk_1511 : (Jvm.Cond.instanceMethod ({ cls := "LadderStreetModel", name := "put", desc := "(I)V" } : Jvm.MethodName)) ∈ TB := tk_t6 (j := 209) rfl rfl
theorem tk_1512 : (Jvm.Cond.code ({ cls := "LadderStreetModel", name := "put", desc := "(I)V" } : Jvm.MethodName) prog_14_method_4_code (3 : Nat) (Option.none : Option Jvm.ClassFile.FieldType)) ∈ TB := tk_t6 (j := 210) rfl rfl
theorem tk_1513 : (Jvm.Cond.methodLink "LadderStreetLaw" (22 : Nat) ({ cls := "LadderStreetModel", name := "back", desc := "(I)I" } : Jvm.MethodName)) ∈ TB := tk_t6 (j := 211) rfl rfl
theorem tk_1514 : (Jvm.Cond.instanceMethod ({ cls := "LadderStreetModel", name := "back", desc := "(I)I" } : Jvm.MethodName)) ∈ TB := tk_t6 (j := 212) rfl rfl
theorem tk_1515 : (Jvm.Cond.selects "LadderStreetModel" ({ cls := "LadderStreetModel", name := "back", desc := "(I)I" } : Jvm.MethodName) ({ cls := "LadderStreetModel", name := "back", desc := "(I)I" } : Jvm.MethodName)) ∈ TB := tk_t6 (j := 213) rfl rfl
theorem tk_1516 : (Jvm.Cond.code ({ cls := "LadderStreetModel", name := "back", desc := "(I)I" } : Jvm.MethodName) prog_14_method_5_code (2 : Nat) (Option.some Jvm.ClassFile.FieldType.int)) ∈ TB := tk_t6 (j := 214) rfl rfl
theorem tk_1517 : (Jvm.Cond.methodLink "LadderStreetLaw" (27 : Nat) ({ cls := "LadderStreetModel", name := "read", desc := "()I" } : Jvm.MethodName)) ∈ TB := tk_t6 (j := 215) rfl rfl
theorem tk_1518 : (Jvm.Cond.instanceMethod ({ cls := "LadderStreetModel", name := "read", desc := "()I" } : Jvm.MethodName)) ∈ TB := tk_t6 (j := 216) rfl rfl
theorem tk_1519 : (Jvm.Cond.selects "LadderStreetModel" ({ cls := "LadderStreetModel", name := "read", desc := "()I" } : Jvm.MethodName) ({ cls := "LadderStreetModel", name := "read", desc := "()I" } : Jvm.MethodName)) ∈ TB := tk_t6 (j := 217) rfl rfl
theorem tk_1520 : (Jvm.Cond.code ({ cls := "LadderStreetModel", name := "read", desc := "()I" } : Jvm.MethodName) prog_14_method_20_code (2 : Nat) (Option.some Jvm.ClassFile.FieldType.int)) ∈ TB := tk_t6 (j := 218) rfl rfl
theorem tk_1521 : (Jvm.Cond.methodLink "LadderStreetModel" (215 : Nat) ({ cls := "LadderStreetModel", name := "cut", desc := "()V" } : Jvm.MethodName)) ∈ TB := tk_t6 (j := 219) rfl rfl
theorem tk_1523 : (Jvm.Cond.instanceMethod ({ cls := "LadderStreetModel", name := "cut", desc := "()V" } : Jvm.MethodName)) ∈ TB := tk_t6 (j := 221) rfl rfl
theorem tk_1524 : (Jvm.Cond.code ({ cls := "LadderStreetModel", name := "cut", desc := "()V" } : Jvm.MethodName) prog_14_method_12_code (8 : Nat) (Option.none : Option Jvm.ClassFile.FieldType)) ∈ TB := tk_t6 (j := 222) rfl rfl
theorem tk_1525 : (Jvm.Cond.methodLink "LadderStreetModel" (172 : Nat) ({ cls := "LadderStreetModel", name := "byteAt", desc := "(I)I" } : Jvm.MethodName)) ∈ TB := tk_t6 (j := 223) rfl rfl
theorem tk_1527 : (Jvm.Cond.instanceMethod ({ cls := "LadderStreetModel", name := "byteAt", desc := "(I)I" } : Jvm.MethodName)) ∈ TB := tk_t6 (j := 225) rfl rfl
theorem tk_1528 : (Jvm.Cond.code ({ cls := "LadderStreetModel", name := "byteAt", desc := "(I)I" } : Jvm.MethodName) prog_14_method_6_code (2 : Nat) (Option.some Jvm.ClassFile.FieldType.int)) ∈ TB := tk_t6 (j := 226) rfl rfl
theorem tk_1529 : (Jvm.Cond.methodLink "LadderStreetModel" (176 : Nat) ({ cls := "LadderStreetModel", name := "token", desc := "(IIIJ)V" } : Jvm.MethodName)) ∈ TB := tk_t6 (j := 227) rfl rfl
theorem tk_1531 : (Jvm.Cond.instanceMethod ({ cls := "LadderStreetModel", name := "token", desc := "(IIIJ)V" } : Jvm.MethodName)) ∈ TB := tk_t6 (j := 229) rfl rfl
theorem tk_1532 : (Jvm.Cond.code ({ cls := "LadderStreetModel", name := "token", desc := "(IIIJ)V" } : Jvm.MethodName) prog_14_method_11_code (6 : Nat) (Option.none : Option Jvm.ClassFile.FieldType)) ∈ TB := tk_t6 (j := 230) rfl rfl
theorem tk_1533 : (Jvm.Cond.methodLink "LadderStreetModel" (180 : Nat) ({ cls := "LadderStreetModel", name := "isLetter", desc := "(I)Z" } : Jvm.MethodName)) ∈ TB := tk_t6 (j := 231) rfl rfl
theorem tk_1534 : (Jvm.Cond.static ({ cls := "LadderStreetModel", name := "isLetter", desc := "(I)Z" } : Jvm.MethodName)) ∈ TB := tk_t6 (j := 232) rfl rfl
theorem tk_1535 : (Jvm.Cond.code ({ cls := "LadderStreetModel", name := "isLetter", desc := "(I)Z" } : Jvm.MethodName) prog_14_method_8_code (1 : Nat) (Option.some Jvm.ClassFile.FieldType.boolean)) ∈ TB := tk_t6 (j := 233) rfl rfl
theorem tk_1536 : (Jvm.Cond.methodLink "LadderStreetModel" (184 : Nat) ({ cls := "LadderStreetModel", name := "isDigit", desc := "(I)Z" } : Jvm.MethodName)) ∈ TB := tk_t6 (j := 234) rfl rfl
theorem tk_1537 : (Jvm.Cond.static ({ cls := "LadderStreetModel", name := "isDigit", desc := "(I)Z" } : Jvm.MethodName)) ∈ TB := tk_t6 (j := 235) rfl rfl
theorem tk_1538 : (Jvm.Cond.code ({ cls := "LadderStreetModel", name := "isDigit", desc := "(I)Z" } : Jvm.MethodName) prog_14_method_7_code (1 : Nat) (Option.some Jvm.ClassFile.FieldType.boolean)) ∈ TB := tk_t6 (j := 236) rfl rfl
theorem tk_1539 : (Jvm.Cond.methodLink "LadderStreetModel" (187 : Nat) ({ cls := "LadderStreetModel", name := "sign", desc := "(III)I" } : Jvm.MethodName)) ∈ TB := tk_t6 (j := 237) rfl rfl
theorem tk_1541 : (Jvm.Cond.instanceMethod ({ cls := "LadderStreetModel", name := "sign", desc := "(III)I" } : Jvm.MethodName)) ∈ TB := tk_t6 (j := 239) rfl rfl
theorem tk_1542 : (Jvm.Cond.code ({ cls := "LadderStreetModel", name := "sign", desc := "(III)I" } : Jvm.MethodName) prog_14_method_13_code (5 : Nat) (Option.some Jvm.ClassFile.FieldType.int)) ∈ TB := tk_t7 (j := 0) rfl rfl
theorem tk_1543 : (Jvm.Cond.methodLink "LadderStreetModel" (209 : Nat) ({ cls := "LadderStreetModel", name := "is", desc := "(I)Z" } : Jvm.MethodName)) ∈ TB := tk_t7 (j := 1) rfl rfl
theorem tk_1545 : (Jvm.Cond.instanceMethod ({ cls := "LadderStreetModel", name := "is", desc := "(I)Z" } : Jvm.MethodName)) ∈ TB := tk_t7 (j := 3) rfl rfl
theorem tk_1546 : (Jvm.Cond.code ({ cls := "LadderStreetModel", name := "is", desc := "(I)Z" } : Jvm.MethodName) prog_14_method_14_code (2 : Nat) (Option.some Jvm.ClassFile.FieldType.boolean)) ∈ TB := tk_t7 (j := 4) rfl rfl
theorem tk_1547 : (Jvm.Cond.methodLink "LadderStreetModel" (236 : Nat) ({ cls := "LadderStreetModel", name := "tellOne", desc := "()V" } : Jvm.MethodName)) ∈ TB := tk_t7 (j := 5) rfl rfl
theorem tk_1549 : (Jvm.Cond.instanceMethod ({ cls := "LadderStreetModel", name := "tellOne", desc := "()V" } : Jvm.MethodName)) ∈ TB := tk_t7 (j := 7) rfl rfl
theorem tk_1550 : (Jvm.Cond.code ({ cls := "LadderStreetModel", name := "tellOne", desc := "()V" } : Jvm.MethodName) prog_14_method_24_code (2 : Nat) (Option.none : Option Jvm.ClassFile.FieldType)) ∈ TB := tk_t7 (j := 8) rfl rfl
theorem tk_1551 : (Jvm.Cond.methodLink "LadderStreetModel" (212 : Nat) ({ cls := "LadderStreetModel", name := "goesOn", desc := "()V" } : Jvm.MethodName)) ∈ TB := tk_t7 (j := 9) rfl rfl
theorem tk_1553 : (Jvm.Cond.instanceMethod ({ cls := "LadderStreetModel", name := "goesOn", desc := "()V" } : Jvm.MethodName)) ∈ TB := tk_t7 (j := 11) rfl rfl
theorem tk_1554 : (Jvm.Cond.code ({ cls := "LadderStreetModel", name := "goesOn", desc := "()V" } : Jvm.MethodName) prog_14_method_17_code (1 : Nat) (Option.none : Option Jvm.ClassFile.FieldType)) ∈ TB := tk_t7 (j := 12) rfl rfl
theorem tk_1555 : (Jvm.Cond.methodLink "LadderStreetModel" (206 : Nat) ({ cls := "LadderStreetModel", name := "fail", desc := "(I)V" } : Jvm.MethodName)) ∈ TB := tk_t7 (j := 13) rfl rfl
theorem tk_1557 : (Jvm.Cond.instanceMethod ({ cls := "LadderStreetModel", name := "fail", desc := "(I)V" } : Jvm.MethodName)) ∈ TB := tk_t7 (j := 15) rfl rfl
theorem tk_1558 : (Jvm.Cond.code ({ cls := "LadderStreetModel", name := "fail", desc := "(I)V" } : Jvm.MethodName) prog_14_method_15_code (2 : Nat) (Option.none : Option Jvm.ClassFile.FieldType)) ∈ TB := tk_t7 (j := 16) rfl rfl
theorem tk_1559 : (Jvm.Cond.methodLink "LadderStreetModel" (253 : Nat) ({ cls := "LadderStreetModel", name := "bounded", desc := "(II)I" } : Jvm.MethodName)) ∈ TB := tk_t7 (j := 17) rfl rfl
theorem tk_1561 : (Jvm.Cond.instanceMethod ({ cls := "LadderStreetModel", name := "bounded", desc := "(II)I" } : Jvm.MethodName)) ∈ TB := tk_t7 (j := 19) rfl rfl
theorem tk_1562 : (Jvm.Cond.code ({ cls := "LadderStreetModel", name := "bounded", desc := "(II)I" } : Jvm.MethodName) prog_14_method_25_code (4 : Nat) (Option.some Jvm.ClassFile.FieldType.int)) ∈ TB := tk_t7 (j := 20) rfl rfl
theorem tk_1563 : (Jvm.Cond.methodLink "LadderStreetModel" (243 : Nat) ({ cls := "LadderStreetModel", name := "wrong", desc := "(II)V" } : Jvm.MethodName)) ∈ TB := tk_t7 (j := 21) rfl rfl
theorem tk_1565 : (Jvm.Cond.instanceMethod ({ cls := "LadderStreetModel", name := "wrong", desc := "(II)V" } : Jvm.MethodName)) ∈ TB := tk_t7 (j := 23) rfl rfl
theorem tk_1566 : (Jvm.Cond.code ({ cls := "LadderStreetModel", name := "wrong", desc := "(II)V" } : Jvm.MethodName) prog_14_method_16_code (4 : Nat) (Option.none : Option Jvm.ClassFile.FieldType)) ∈ TB := tk_t7 (j := 24) rfl rfl
theorem tk_1567 : (Jvm.Cond.methodLink "LadderStreetModel" (257 : Nat) ({ cls := "LadderStreetModel", name := "must", desc := "(I)V" } : Jvm.MethodName)) ∈ TB := tk_t7 (j := 25) rfl rfl
theorem tk_1569 : (Jvm.Cond.instanceMethod ({ cls := "LadderStreetModel", name := "must", desc := "(I)V" } : Jvm.MethodName)) ∈ TB := tk_t7 (j := 27) rfl rfl
theorem tk_1570 : (Jvm.Cond.code ({ cls := "LadderStreetModel", name := "must", desc := "(I)V" } : Jvm.MethodName) prog_14_method_18_code (2 : Nat) (Option.none : Option Jvm.ClassFile.FieldType)) ∈ TB := tk_t7 (j := 28) rfl rfl
theorem tk_1571 : (Jvm.Cond.methodLink "LadderStreetModel" (260 : Nat) ({ cls := "LadderStreetModel", name := "roomFor", desc := "(II)V" } : Jvm.MethodName)) ∈ TB := tk_t7 (j := 29) rfl rfl
theorem tk_1573 : (Jvm.Cond.instanceMethod ({ cls := "LadderStreetModel", name := "roomFor", desc := "(II)V" } : Jvm.MethodName)) ∈ TB := tk_t7 (j := 31) rfl rfl
theorem tk_1574 : (Jvm.Cond.code ({ cls := "LadderStreetModel", name := "roomFor", desc := "(II)V" } : Jvm.MethodName) prog_14_method_23_code (3 : Nat) (Option.none : Option Jvm.ClassFile.FieldType)) ∈ TB := tk_t7 (j := 32) rfl rfl
theorem tk_1575 : (Jvm.Cond.methodLink "LadderStreetModel" (263 : Nat) ({ cls := "LadderStreetModel", name := "tellPerson", desc := "()V" } : Jvm.MethodName)) ∈ TB := tk_t7 (j := 33) rfl rfl
theorem tk_1577 : (Jvm.Cond.instanceMethod ({ cls := "LadderStreetModel", name := "tellPerson", desc := "()V" } : Jvm.MethodName)) ∈ TB := tk_t7 (j := 35) rfl rfl
theorem tk_1578 : (Jvm.Cond.code ({ cls := "LadderStreetModel", name := "tellPerson", desc := "()V" } : Jvm.MethodName) prog_14_method_26_code (4 : Nat) (Option.none : Option Jvm.ClassFile.FieldType)) ∈ TB := tk_t7 (j := 36) rfl rfl
theorem tk_1579 : (Jvm.Cond.methodLink "LadderStreetModel" (266 : Nat) ({ cls := "LadderStreetModel", name := "tellLaw", desc := "(I)V" } : Jvm.MethodName)) ∈ TB := tk_t7 (j := 37) rfl rfl
theorem tk_1581 : (Jvm.Cond.instanceMethod ({ cls := "LadderStreetModel", name := "tellLaw", desc := "(I)V" } : Jvm.MethodName)) ∈ TB := tk_t7 (j := 39) rfl rfl
theorem tk_1582 : (Jvm.Cond.code ({ cls := "LadderStreetModel", name := "tellLaw", desc := "(I)V" } : Jvm.MethodName) prog_14_method_27_code (4 : Nat) (Option.none : Option Jvm.ClassFile.FieldType)) ∈ TB := tk_t7 (j := 40) rfl rfl
theorem tk_1583 : (Jvm.Cond.methodLink "LadderStreetModel" (269 : Nat) ({ cls := "LadderStreetModel", name := "expression", desc := "()V" } : Jvm.MethodName)) ∈ TB := tk_t7 (j := 41) rfl rfl
theorem tk_1585 : (Jvm.Cond.instanceMethod ({ cls := "LadderStreetModel", name := "expression", desc := "()V" } : Jvm.MethodName)) ∈ TB := tk_t7 (j := 43) rfl rfl
theorem tk_1586 : (Jvm.Cond.code ({ cls := "LadderStreetModel", name := "expression", desc := "()V" } : Jvm.MethodName) prog_14_method_31_code (3 : Nat) (Option.none : Option Jvm.ClassFile.FieldType)) ∈ TB := tk_t7 (j := 44) rfl rfl
theorem tk_1587 : (Jvm.Cond.methodLink "LadderStreetModel" (281 : Nat) ({ cls := "LadderStreetModel", name := "unit", desc := "()V" } : Jvm.MethodName)) ∈ TB := tk_t7 (j := 45) rfl rfl
theorem tk_1589 : (Jvm.Cond.instanceMethod ({ cls := "LadderStreetModel", name := "unit", desc := "()V" } : Jvm.MethodName)) ∈ TB := tk_t7 (j := 47) rfl rfl
theorem tk_1590 : (Jvm.Cond.code ({ cls := "LadderStreetModel", name := "unit", desc := "()V" } : Jvm.MethodName) prog_14_method_32_code (1 : Nat) (Option.none : Option Jvm.ClassFile.FieldType)) ∈ TB := tk_t7 (j := 48) rfl rfl
theorem tk_1591 : (Jvm.Cond.methodLink "LadderStreetModel" (278 : Nat) ({ cls := "LadderStreetModel", name := "emit", desc := "(II)V" } : Jvm.MethodName)) ∈ TB := tk_t7 (j := 49) rfl rfl
theorem tk_1593 : (Jvm.Cond.instanceMethod ({ cls := "LadderStreetModel", name := "emit", desc := "(II)V" } : Jvm.MethodName)) ∈ TB := tk_t7 (j := 51) rfl rfl
theorem tk_1594 : (Jvm.Cond.code ({ cls := "LadderStreetModel", name := "emit", desc := "(II)V" } : Jvm.MethodName) prog_14_method_29_code (3 : Nat) (Option.none : Option Jvm.ClassFile.FieldType)) ∈ TB := tk_t7 (j := 52) rfl rfl
theorem tk_1595 : (Jvm.Cond.methodLink "LadderStreetModel" (284 : Nat) ({ cls := "LadderStreetModel", name := "comesOut", desc := "(Z)V" } : Jvm.MethodName)) ∈ TB := tk_t7 (j := 53) rfl rfl
theorem tk_1597 : (Jvm.Cond.instanceMethod ({ cls := "LadderStreetModel", name := "comesOut", desc := "(Z)V" } : Jvm.MethodName)) ∈ TB := tk_t7 (j := 55) rfl rfl
theorem tk_1598 : (Jvm.Cond.code ({ cls := "LadderStreetModel", name := "comesOut", desc := "(Z)V" } : Jvm.MethodName) prog_14_method_30_code (3 : Nat) (Option.none : Option Jvm.ClassFile.FieldType)) ∈ TB := tk_t7 (j := 56) rfl rfl
theorem tk_1599 : (Jvm.Cond.methodLink "LadderStreetModel" (272 : Nat) ({ cls := "LadderStreetModel", name := "term", desc := "()V" } : Jvm.MethodName)) ∈ TB := tk_t7 (j := 57) rfl rfl
theorem tk_1601 : (Jvm.Cond.instanceMethod ({ cls := "LadderStreetModel", name := "term", desc := "()V" } : Jvm.MethodName)) ∈ TB := tk_t7 (j := 59) rfl rfl
theorem tk_1602 : (Jvm.Cond.code ({ cls := "LadderStreetModel", name := "term", desc := "()V" } : Jvm.MethodName) prog_14_method_28_code (1 : Nat) (Option.none : Option Jvm.ClassFile.FieldType)) ∈ TB := tk_t7 (j := 60) rfl rfl
theorem tk_1603 : (Jvm.Cond.methodLink "LadderStreetModel" (239 : Nat) ({ cls := "LadderStreetModel", name := "areOn", desc := "()Z" } : Jvm.MethodName)) ∈ TB := tk_t7 (j := 61) rfl rfl
theorem tk_1605 : (Jvm.Cond.instanceMethod ({ cls := "LadderStreetModel", name := "areOn", desc := "()Z" } : Jvm.MethodName)) ∈ TB := tk_t7 (j := 63) rfl rfl
theorem tk_1606 : (Jvm.Cond.code ({ cls := "LadderStreetModel", name := "areOn", desc := "()Z" } : Jvm.MethodName) prog_14_method_22_code (2 : Nat) (Option.some Jvm.ClassFile.FieldType.boolean)) ∈ TB := tk_t7 (j := 64) rfl rfl
theorem tk_1607 : (Jvm.Cond.methodLink "LadderStreetLaw" (31 : Nat) ({ cls := "LadderStreetModel", name := "place", desc := "()I" } : Jvm.MethodName)) ∈ TB := tk_t7 (j := 65) rfl rfl
theorem tk_1608 : (Jvm.Cond.instanceMethod ({ cls := "LadderStreetModel", name := "place", desc := "()I" } : Jvm.MethodName)) ∈ TB := tk_t7 (j := 66) rfl rfl
theorem tk_1609 : (Jvm.Cond.selects "LadderStreetModel" ({ cls := "LadderStreetModel", name := "place", desc := "()I" } : Jvm.MethodName) ({ cls := "LadderStreetModel", name := "place", desc := "()I" } : Jvm.MethodName)) ∈ TB := tk_t7 (j := 67) rfl rfl
theorem tk_1610 : (Jvm.Cond.code ({ cls := "LadderStreetModel", name := "place", desc := "()I" } : Jvm.MethodName) prog_14_method_21_code (1 : Nat) (Option.some Jvm.ClassFile.FieldType.int)) ∈ TB := tk_t7 (j := 68) rfl rfl
theorem tk_1611 : (Jvm.Cond.methodLink "LadderStreetLaw" (36 : Nat) ({ cls := "LadderStreetModel", name := "person", desc := "(II)I" } : Jvm.MethodName)) ∈ TB := tk_t7 (j := 69) rfl rfl
theorem tk_1612 : (Jvm.Cond.instanceMethod ({ cls := "LadderStreetModel", name := "person", desc := "(II)I" } : Jvm.MethodName)) ∈ TB := tk_t7 (j := 70) rfl rfl
theorem tk_1613 : (Jvm.Cond.selects "LadderStreetModel" ({ cls := "LadderStreetModel", name := "person", desc := "(II)I" } : Jvm.MethodName) ({ cls := "LadderStreetModel", name := "person", desc := "(II)I" } : Jvm.MethodName)) ∈ TB := tk_t7 (j := 71) rfl rfl
theorem tk_1614 : (Jvm.Cond.code ({ cls := "LadderStreetModel", name := "person", desc := "(II)I" } : Jvm.MethodName) prog_14_method_66_code (3 : Nat) (Option.some Jvm.ClassFile.FieldType.int)) ∈ TB := tk_t7 (j := 72) rfl rfl
theorem tk_1615 : (Jvm.Cond.methodLink "LadderStreetModel" (378 : Nat) ({ cls := "LadderStreetModel", name := "isPerson", desc := "(I)Z" } : Jvm.MethodName)) ∈ TB := tk_t7 (j := 73) rfl rfl
theorem tk_1617 : (Jvm.Cond.instanceMethod ({ cls := "LadderStreetModel", name := "isPerson", desc := "(I)Z" } : Jvm.MethodName)) ∈ TB := tk_t7 (j := 75) rfl rfl
theorem tk_1618 : (Jvm.Cond.code ({ cls := "LadderStreetModel", name := "isPerson", desc := "(I)Z" } : Jvm.MethodName) prog_14_method_38_code (2 : Nat) (Option.some Jvm.ClassFile.FieldType.boolean)) ∈ TB := tk_t7 (j := 76) rfl rfl
theorem tk_1619 : (Jvm.Cond.methodLink "LadderStreetModel" (292 : Nat) ({ cls := "LadderStreetModel", name := "in", desc := "(III)Z" } : Jvm.MethodName)) ∈ TB := tk_t7 (j := 77) rfl rfl
theorem tk_1620 : (Jvm.Cond.static ({ cls := "LadderStreetModel", name := "in", desc := "(III)Z" } : Jvm.MethodName)) ∈ TB := tk_t7 (j := 78) rfl rfl
theorem tk_1621 : (Jvm.Cond.code ({ cls := "LadderStreetModel", name := "in", desc := "(III)Z" } : Jvm.MethodName) prog_14_method_34_code (3 : Nat) (Option.some Jvm.ClassFile.FieldType.boolean)) ∈ TB := tk_t7 (j := 79) rfl rfl
theorem tk_1622 : (Jvm.Cond.methodLink "LadderStreetModel" (309 : Nat) ({ cls := "LadderStreetModel", name := "widthAt", desc := "(I)I" } : Jvm.MethodName)) ∈ TB := tk_t7 (j := 80) rfl rfl
theorem tk_1624 : (Jvm.Cond.instanceMethod ({ cls := "LadderStreetModel", name := "widthAt", desc := "(I)I" } : Jvm.MethodName)) ∈ TB := tk_t7 (j := 82) rfl rfl
theorem tk_1625 : (Jvm.Cond.code ({ cls := "LadderStreetModel", name := "widthAt", desc := "(I)I" } : Jvm.MethodName) prog_14_method_46_code (2 : Nat) (Option.some Jvm.ClassFile.FieldType.int)) ∈ TB := tk_t7 (j := 83) rfl rfl
theorem tk_1626 : (Jvm.Cond.methodLink "LadderStreetLaw" (40 : Nat) ({ cls := "LadderStreetModel", name := "rung", desc := "(II)I" } : Jvm.MethodName)) ∈ TB := tk_t7 (j := 84) rfl rfl
theorem tk_1627 : (Jvm.Cond.instanceMethod ({ cls := "LadderStreetModel", name := "rung", desc := "(II)I" } : Jvm.MethodName)) ∈ TB := tk_t7 (j := 85) rfl rfl
theorem tk_1628 : (Jvm.Cond.selects "LadderStreetModel" ({ cls := "LadderStreetModel", name := "rung", desc := "(II)I" } : Jvm.MethodName) ({ cls := "LadderStreetModel", name := "rung", desc := "(II)I" } : Jvm.MethodName)) ∈ TB := tk_t7 (j := 86) rfl rfl
theorem tk_1629 : (Jvm.Cond.code ({ cls := "LadderStreetModel", name := "rung", desc := "(II)I" } : Jvm.MethodName) prog_14_method_67_code (3 : Nat) (Option.some Jvm.ClassFile.FieldType.int)) ∈ TB := tk_t7 (j := 87) rfl rfl
theorem tk_1630 : (Jvm.Cond.methodLink "LadderStreetModel" (306 : Nat) ({ cls := "LadderStreetModel", name := "isRung", desc := "(I)Z" } : Jvm.MethodName)) ∈ TB := tk_t7 (j := 88) rfl rfl
theorem tk_1632 : (Jvm.Cond.instanceMethod ({ cls := "LadderStreetModel", name := "isRung", desc := "(I)Z" } : Jvm.MethodName)) ∈ TB := tk_t7 (j := 90) rfl rfl
theorem tk_1633 : (Jvm.Cond.code ({ cls := "LadderStreetModel", name := "isRung", desc := "(I)Z" } : Jvm.MethodName) prog_14_method_39_code (2 : Nat) (Option.some Jvm.ClassFile.FieldType.boolean)) ∈ TB := tk_t7 (j := 91) rfl rfl
theorem tk_1634 : (Jvm.Cond.methodLink "LadderStreetModel" (381 : Nat) ({ cls := "LadderStreetModel", name := "copies", desc := "()V" } : Jvm.MethodName)) ∈ TB := tk_t7 (j := 92) rfl rfl
theorem tk_1636 : (Jvm.Cond.instanceMethod ({ cls := "LadderStreetModel", name := "copies", desc := "()V" } : Jvm.MethodName)) ∈ TB := tk_t7 (j := 94) rfl rfl
theorem tk_1637 : (Jvm.Cond.code ({ cls := "LadderStreetModel", name := "copies", desc := "()V" } : Jvm.MethodName) prog_14_method_42_code (2 : Nat) (Option.none : Option Jvm.ClassFile.FieldType)) ∈ TB := tk_t7 (j := 95) rfl rfl
theorem tk_1638 : (Jvm.Cond.methodLink "LadderStreetModel" (339 : Nat) ({ cls := "LadderStreetModel", name := "roomOf", desc := "(I)I" } : Jvm.MethodName)) ∈ TB := tk_t7 (j := 96) rfl rfl
theorem tk_1640 : (Jvm.Cond.instanceMethod ({ cls := "LadderStreetModel", name := "roomOf", desc := "(I)I" } : Jvm.MethodName)) ∈ TB := tk_t7 (j := 98) rfl rfl
theorem tk_1641 : (Jvm.Cond.code ({ cls := "LadderStreetModel", name := "roomOf", desc := "(I)I" } : Jvm.MethodName) prog_14_method_53_code (2 : Nat) (Option.some Jvm.ClassFile.FieldType.int)) ∈ TB := tk_t7 (j := 99) rfl rfl
theorem tk_1642 : (Jvm.Cond.methodLink "LadderStreetModel" (318 : Nat) ({ cls := "LadderStreetModel", name := "looks", desc := "(I)V" } : Jvm.MethodName)) ∈ TB := tk_t7 (j := 100) rfl rfl
theorem tk_1644 : (Jvm.Cond.instanceMethod ({ cls := "LadderStreetModel", name := "looks", desc := "(I)V" } : Jvm.MethodName)) ∈ TB := tk_t7 (j := 102) rfl rfl
theorem tk_1645 : (Jvm.Cond.code ({ cls := "LadderStreetModel", name := "looks", desc := "(I)V" } : Jvm.MethodName) prog_14_method_50_code (3 : Nat) (Option.none : Option Jvm.ClassFile.FieldType)) ∈ TB := tk_t7 (j := 103) rfl rfl
theorem tk_1646 : (Jvm.Cond.methodLink "LadderStreetModel" (324 : Nat) ({ cls := "LadderStreetModel", name := "lawTells", desc := "(II)I" } : Jvm.MethodName)) ∈ TB := tk_t7 (j := 104) rfl rfl
theorem tk_1648 : (Jvm.Cond.instanceMethod ({ cls := "LadderStreetModel", name := "lawTells", desc := "(II)I" } : Jvm.MethodName)) ∈ TB := tk_t7 (j := 106) rfl rfl
theorem tk_1649 : (Jvm.Cond.code ({ cls := "LadderStreetModel", name := "lawTells", desc := "(II)I" } : Jvm.MethodName) prog_14_method_52_code (7 : Nat) (Option.some Jvm.ClassFile.FieldType.int)) ∈ TB := tk_t7 (j := 107) rfl rfl
theorem tk_1650 : (Jvm.Cond.methodLink "LadderStreetModel" (321 : Nat) ({ cls := "LadderStreetModel", name := "termOf", desc := "(II)I" } : Jvm.MethodName)) ∈ TB := tk_t7 (j := 108) rfl rfl
theorem tk_1652 : (Jvm.Cond.instanceMethod ({ cls := "LadderStreetModel", name := "termOf", desc := "(II)I" } : Jvm.MethodName)) ∈ TB := tk_t7 (j := 110) rfl rfl
theorem tk_1653 : (Jvm.Cond.code ({ cls := "LadderStreetModel", name := "termOf", desc := "(II)I" } : Jvm.MethodName) prog_14_method_33_code (8 : Nat) (Option.some Jvm.ClassFile.FieldType.int)) ∈ TB := tk_t7 (j := 111) rfl rfl
theorem tk_1654 : (Jvm.Cond.methodLink "LadderStreetModel" (327 : Nat) ({ cls := "LadderStreetModel", name := "within", desc := "(III)I" } : Jvm.MethodName)) ∈ TB := tk_t7 (j := 112) rfl rfl
theorem tk_1655 : (Jvm.Cond.static ({ cls := "LadderStreetModel", name := "within", desc := "(III)I" } : Jvm.MethodName)) ∈ TB := tk_t7 (j := 113) rfl rfl
theorem tk_1656 : (Jvm.Cond.code ({ cls := "LadderStreetModel", name := "within", desc := "(III)I" } : Jvm.MethodName) prog_14_method_35_code (3 : Nat) (Option.some Jvm.ClassFile.FieldType.int)) ∈ TB := tk_t7 (j := 114) rfl rfl
theorem tk_1657 : (Jvm.Cond.methodLink "LadderStreetModel" (333 : Nat) ({ cls := "LadderStreetModel", name := "widthsOn", desc := "(I)I" } : Jvm.MethodName)) ∈ TB := tk_t7 (j := 115) rfl rfl
theorem tk_1659 : (Jvm.Cond.instanceMethod ({ cls := "LadderStreetModel", name := "widthsOn", desc := "(I)I" } : Jvm.MethodName)) ∈ TB := tk_t7 (j := 117) rfl rfl
theorem tk_1660 : (Jvm.Cond.code ({ cls := "LadderStreetModel", name := "widthsOn", desc := "(I)I" } : Jvm.MethodName) prog_14_method_49_code (2 : Nat) (Option.some Jvm.ClassFile.FieldType.int)) ∈ TB := tk_t7 (j := 118) rfl rfl
theorem tk_1661 : (Jvm.Cond.methodLink "LadderStreetModel" (312 : Nat) ({ cls := "LadderStreetModel", name := "onRung", desc := "(I)I" } : Jvm.MethodName)) ∈ TB := tk_t7 (j := 119) rfl rfl
theorem tk_1663 : (Jvm.Cond.instanceMethod ({ cls := "LadderStreetModel", name := "onRung", desc := "(I)I" } : Jvm.MethodName)) ∈ TB := tk_t7 (j := 121) rfl rfl
theorem tk_1664 : (Jvm.Cond.code ({ cls := "LadderStreetModel", name := "onRung", desc := "(I)I" } : Jvm.MethodName) prog_14_method_47_code (4 : Nat) (Option.some Jvm.ClassFile.FieldType.int)) ∈ TB := tk_t7 (j := 122) rfl rfl
theorem tk_1665 : (Jvm.Cond.methodLink "LadderStreetModel" (315 : Nat) ({ cls := "LadderStreetModel", name := "widthsOf", desc := "(I)I" } : Jvm.MethodName)) ∈ TB := tk_t7 (j := 123) rfl rfl
theorem tk_1667 : (Jvm.Cond.instanceMethod ({ cls := "LadderStreetModel", name := "widthsOf", desc := "(I)I" } : Jvm.MethodName)) ∈ TB := tk_t7 (j := 125) rfl rfl
theorem tk_1668 : (Jvm.Cond.code ({ cls := "LadderStreetModel", name := "widthsOf", desc := "(I)I" } : Jvm.MethodName) prog_14_method_48_code (4 : Nat) (Option.some Jvm.ClassFile.FieldType.int)) ∈ TB := tk_t7 (j := 126) rfl rfl
theorem tk_1669 : (Jvm.Cond.methodLink "LadderStreetModel" (336 : Nat) ({ cls := "LadderStreetModel", name := "isWhole", desc := "(I)Z" } : Jvm.MethodName)) ∈ TB := tk_t7 (j := 127) rfl rfl
theorem tk_1671 : (Jvm.Cond.instanceMethod ({ cls := "LadderStreetModel", name := "isWhole", desc := "(I)Z" } : Jvm.MethodName)) ∈ TB := tk_t7 (j := 129) rfl rfl
theorem tk_1672 : (Jvm.Cond.code ({ cls := "LadderStreetModel", name := "isWhole", desc := "(I)Z" } : Jvm.MethodName) prog_14_method_45_code (2 : Nat) (Option.some Jvm.ClassFile.FieldType.boolean)) ∈ TB := tk_t7 (j := 130) rfl rfl
theorem tk_1673 : (Jvm.Cond.methodLink "LadderStreetModel" (359 : Nat) ({ cls := "LadderStreetModel", name := "breaksOf", desc := "(I)I" } : Jvm.MethodName)) ∈ TB := tk_t7 (j := 131) rfl rfl
theorem tk_1675 : (Jvm.Cond.instanceMethod ({ cls := "LadderStreetModel", name := "breaksOf", desc := "(I)I" } : Jvm.MethodName)) ∈ TB := tk_t7 (j := 133) rfl rfl
theorem tk_1676 : (Jvm.Cond.code ({ cls := "LadderStreetModel", name := "breaksOf", desc := "(I)I" } : Jvm.MethodName) prog_14_method_56_code (2 : Nat) (Option.some Jvm.ClassFile.FieldType.int)) ∈ TB := tk_t7 (j := 134) rfl rfl
theorem tk_1677 : (Jvm.Cond.methodLink "LadderStreetLaw" (44 : Nat) ({ cls := "LadderStreetModel", name := "can", desc := "(II)I" } : Jvm.MethodName)) ∈ TB := tk_t7 (j := 135) rfl rfl
theorem tk_1678 : (Jvm.Cond.instanceMethod ({ cls := "LadderStreetModel", name := "can", desc := "(II)I" } : Jvm.MethodName)) ∈ TB := tk_t7 (j := 136) rfl rfl
theorem tk_1679 : (Jvm.Cond.selects "LadderStreetModel" ({ cls := "LadderStreetModel", name := "can", desc := "(II)I" } : Jvm.MethodName) ({ cls := "LadderStreetModel", name := "can", desc := "(II)I" } : Jvm.MethodName)) ∈ TB := tk_t7 (j := 137) rfl rfl
theorem tk_1680 : (Jvm.Cond.code ({ cls := "LadderStreetModel", name := "can", desc := "(II)I" } : Jvm.MethodName) prog_14_method_68_code (3 : Nat) (Option.some Jvm.ClassFile.FieldType.int)) ∈ TB := tk_t7 (j := 138) rfl rfl
theorem tk_1681 : (Jvm.Cond.methodLink "LadderStreetModel" (384 : Nat) ({ cls := "LadderStreetModel", name := "off", desc := "(II)I" } : Jvm.MethodName)) ∈ TB := tk_t7 (j := 139) rfl rfl
theorem tk_1682 : (Jvm.Cond.static ({ cls := "LadderStreetModel", name := "off", desc := "(II)I" } : Jvm.MethodName)) ∈ TB := tk_t7 (j := 140) rfl rfl
theorem tk_1683 : (Jvm.Cond.code ({ cls := "LadderStreetModel", name := "off", desc := "(II)I" } : Jvm.MethodName) prog_14_method_37_code (2 : Nat) (Option.some Jvm.ClassFile.FieldType.int)) ∈ TB := tk_t7 (j := 141) rfl rfl
theorem tk_1684 : (Jvm.Cond.methodLink "LadderStreetModel" (348 : Nat) ({ cls := "LadderStreetModel", name := "couldCome", desc := "(II)Z" } : Jvm.MethodName)) ∈ TB := tk_t7 (j := 142) rfl rfl
theorem tk_1686 : (Jvm.Cond.instanceMethod ({ cls := "LadderStreetModel", name := "couldCome", desc := "(II)Z" } : Jvm.MethodName)) ∈ TB := tk_t7 (j := 144) rfl rfl
theorem tk_1687 : (Jvm.Cond.code ({ cls := "LadderStreetModel", name := "couldCome", desc := "(II)Z" } : Jvm.MethodName) prog_14_method_58_code (3 : Nat) (Option.some Jvm.ClassFile.FieldType.boolean)) ∈ TB := tk_t7 (j := 145) rfl rfl
theorem tk_1688 : (Jvm.Cond.methodLink "LadderStreetModel" (342 : Nat) ({ cls := "LadderStreetModel", name := "hasRoom", desc := "(III)Z" } : Jvm.MethodName)) ∈ TB := tk_t7 (j := 146) rfl rfl
theorem tk_1690 : (Jvm.Cond.instanceMethod ({ cls := "LadderStreetModel", name := "hasRoom", desc := "(III)Z" } : Jvm.MethodName)) ∈ TB := tk_t7 (j := 148) rfl rfl
theorem tk_1691 : (Jvm.Cond.code ({ cls := "LadderStreetModel", name := "hasRoom", desc := "(III)Z" } : Jvm.MethodName) prog_14_method_57_code (4 : Nat) (Option.some Jvm.ClassFile.FieldType.boolean)) ∈ TB := tk_t7 (j := 149) rfl rfl
theorem tk_1692 : (Jvm.Cond.methodLink "LadderStreetLaw" (49 : Nat) ({ cls := "LadderStreetModel", name := "send", desc := "(II)Z" } : Jvm.MethodName)) ∈ TB := tk_t7 (j := 150) rfl rfl
theorem tk_1693 : (Jvm.Cond.instanceMethod ({ cls := "LadderStreetModel", name := "send", desc := "(II)Z" } : Jvm.MethodName)) ∈ TB := tk_t7 (j := 151) rfl rfl
theorem tk_1694 : (Jvm.Cond.selects "LadderStreetModel" ({ cls := "LadderStreetModel", name := "send", desc := "(II)Z" } : Jvm.MethodName) ({ cls := "LadderStreetModel", name := "send", desc := "(II)Z" } : Jvm.MethodName)) ∈ TB := tk_t7 (j := 152) rfl rfl
theorem tk_1695 : (Jvm.Cond.code ({ cls := "LadderStreetModel", name := "send", desc := "(II)Z" } : Jvm.MethodName) prog_14_method_70_code (4 : Nat) (Option.some Jvm.ClassFile.FieldType.boolean)) ∈ TB := tk_t7 (j := 153) rfl rfl
theorem tk_1696 : (Jvm.Cond.methodLink "LadderStreetModel" (387 : Nat) ({ cls := "LadderStreetModel", name := "records", desc := "()V" } : Jvm.MethodName)) ∈ TB := tk_t7 (j := 154) rfl rfl
theorem tk_1698 : (Jvm.Cond.instanceMethod ({ cls := "LadderStreetModel", name := "records", desc := "()V" } : Jvm.MethodName)) ∈ TB := tk_t7 (j := 156) rfl rfl
theorem tk_1699 : (Jvm.Cond.code ({ cls := "LadderStreetModel", name := "records", desc := "()V" } : Jvm.MethodName) prog_14_method_69_code (2 : Nat) (Option.none : Option Jvm.ClassFile.FieldType)) ∈ TB := tk_t7 (j := 157) rfl rfl
theorem tk_1700 : (Jvm.Cond.methodLink "LadderStreetLaw" (54 : Nat) ({ cls := "LadderStreetModel", name := "mend", desc := "(I)Z" } : Jvm.MethodName)) ∈ TB := tk_t7 (j := 158) rfl rfl
theorem tk_1701 : (Jvm.Cond.instanceMethod ({ cls := "LadderStreetModel", name := "mend", desc := "(I)Z" } : Jvm.MethodName)) ∈ TB := tk_t7 (j := 159) rfl rfl
theorem tk_1702 : (Jvm.Cond.selects "LadderStreetModel" ({ cls := "LadderStreetModel", name := "mend", desc := "(I)Z" } : Jvm.MethodName) ({ cls := "LadderStreetModel", name := "mend", desc := "(I)Z" } : Jvm.MethodName)) ∈ TB := tk_t7 (j := 160) rfl rfl
theorem tk_1703 : (Jvm.Cond.code ({ cls := "LadderStreetModel", name := "mend", desc := "(I)Z" } : Jvm.MethodName) prog_14_method_71_code (2 : Nat) (Option.some Jvm.ClassFile.FieldType.boolean)) ∈ TB := tk_t7 (j := 161) rfl rfl
theorem tk_1704 : (Jvm.Cond.methodLink "LadderStreetLaw" (58 : Nat) ({ cls := "LadderStreetModel", name := "bucket", desc := "(I)I" } : Jvm.MethodName)) ∈ TB := tk_t7 (j := 162) rfl rfl
theorem tk_1705 : (Jvm.Cond.instanceMethod ({ cls := "LadderStreetModel", name := "bucket", desc := "(I)I" } : Jvm.MethodName)) ∈ TB := tk_t7 (j := 163) rfl rfl
theorem tk_1706 : (Jvm.Cond.selects "LadderStreetModel" ({ cls := "LadderStreetModel", name := "bucket", desc := "(I)I" } : Jvm.MethodName) ({ cls := "LadderStreetModel", name := "bucket", desc := "(I)I" } : Jvm.MethodName)) ∈ TB := tk_t7 (j := 164) rfl rfl
theorem tk_1707 : (Jvm.Cond.code ({ cls := "LadderStreetModel", name := "bucket", desc := "(I)I" } : Jvm.MethodName) prog_14_method_74_code (4 : Nat) (Option.some Jvm.ClassFile.FieldType.int)) ∈ TB := tk_t7 (j := 165) rfl rfl
theorem tk_1708 : (Jvm.Cond.methodLink "LadderStreetModel" (393 : Nat) ({ cls := "LadderStreetModel", name := "isWater", desc := "(I)Z" } : Jvm.MethodName)) ∈ TB := tk_t7 (j := 166) rfl rfl
theorem tk_1709 : (Jvm.Cond.static ({ cls := "LadderStreetModel", name := "isWater", desc := "(I)Z" } : Jvm.MethodName)) ∈ TB := tk_t7 (j := 167) rfl rfl
theorem tk_1710 : (Jvm.Cond.code ({ cls := "LadderStreetModel", name := "isWater", desc := "(I)Z" } : Jvm.MethodName) prog_14_method_73_code (1 : Nat) (Option.some Jvm.ClassFile.FieldType.boolean)) ∈ TB := tk_t7 (j := 168) rfl rfl
theorem tk_1711 : (Jvm.Cond.methodLink "LadderStreetModel" (396 : Nat) ({ cls := "LadderStreetModel", name := "pours", desc := "(I)I" } : Jvm.MethodName)) ∈ TB := tk_t7 (j := 169) rfl rfl
theorem tk_1713 : (Jvm.Cond.instanceMethod ({ cls := "LadderStreetModel", name := "pours", desc := "(I)I" } : Jvm.MethodName)) ∈ TB := tk_t7 (j := 171) rfl rfl
theorem tk_1714 : (Jvm.Cond.code ({ cls := "LadderStreetModel", name := "pours", desc := "(I)I" } : Jvm.MethodName) prog_14_method_72_code (5 : Nat) (Option.some Jvm.ClassFile.FieldType.int)) ∈ TB := tk_t7 (j := 172) rfl rfl
theorem tk_1715 : (Jvm.Cond.methodLink "LadderStreetModel" (390 : Nat) ({ cls := "LadderStreetModel", name := "cupOf", desc := "(II)I" } : Jvm.MethodName)) ∈ TB := tk_t7 (j := 173) rfl rfl
theorem tk_1717 : (Jvm.Cond.instanceMethod ({ cls := "LadderStreetModel", name := "cupOf", desc := "(II)I" } : Jvm.MethodName)) ∈ TB := tk_t7 (j := 175) rfl rfl
theorem tk_1718 : (Jvm.Cond.code ({ cls := "LadderStreetModel", name := "cupOf", desc := "(II)I" } : Jvm.MethodName) prog_14_method_55_code (3 : Nat) (Option.some Jvm.ClassFile.FieldType.int)) ∈ TB := tk_t7 (j := 176) rfl rfl
theorem tk_1719 : (Jvm.Cond.methodLink "LadderStreetModel" (330 : Nat) ({ cls := "LadderStreetModel", name := "looksAt", desc := "(I)V" } : Jvm.MethodName)) ∈ TB := tk_t7 (j := 177) rfl rfl
theorem tk_1721 : (Jvm.Cond.instanceMethod ({ cls := "LadderStreetModel", name := "looksAt", desc := "(I)V" } : Jvm.MethodName)) ∈ TB := tk_t7 (j := 179) rfl rfl
theorem tk_1722 : (Jvm.Cond.code ({ cls := "LadderStreetModel", name := "looksAt", desc := "(I)V" } : Jvm.MethodName) prog_14_method_51_code (2 : Nat) (Option.none : Option Jvm.ClassFile.FieldType)) ∈ TB := tk_t7 (j := 180) rfl rfl
theorem tk_1723 : (Jvm.Cond.methodLink "LadderStreetLaw" (62 : Nat) ({ cls := "LadderStreetModel", name := "minutes", desc := "(I)I" } : Jvm.MethodName)) ∈ TB := tk_t7 (j := 181) rfl rfl
theorem tk_1724 : (Jvm.Cond.instanceMethod ({ cls := "LadderStreetModel", name := "minutes", desc := "(I)I" } : Jvm.MethodName)) ∈ TB := tk_t7 (j := 182) rfl rfl
theorem tk_1725 : (Jvm.Cond.selects "LadderStreetModel" ({ cls := "LadderStreetModel", name := "minutes", desc := "(I)I" } : Jvm.MethodName) ({ cls := "LadderStreetModel", name := "minutes", desc := "(I)I" } : Jvm.MethodName)) ∈ TB := tk_t7 (j := 183) rfl rfl
theorem tk_1726 : (Jvm.Cond.code ({ cls := "LadderStreetModel", name := "minutes", desc := "(I)I" } : Jvm.MethodName) prog_14_method_76_code (2 : Nat) (Option.some Jvm.ClassFile.FieldType.int)) ∈ TB := tk_t7 (j := 184) rfl rfl
theorem tk_1727 : (Jvm.Cond.methodLink "LadderStreetModel" (399 : Nat) ({ cls := "LadderStreetModel", name := "isLong", desc := "(I)Z" } : Jvm.MethodName)) ∈ TB := tk_t7 (j := 185) rfl rfl
theorem tk_1728 : (Jvm.Cond.static ({ cls := "LadderStreetModel", name := "isLong", desc := "(I)Z" } : Jvm.MethodName)) ∈ TB := tk_t7 (j := 186) rfl rfl
theorem tk_1729 : (Jvm.Cond.code ({ cls := "LadderStreetModel", name := "isLong", desc := "(I)Z" } : Jvm.MethodName) prog_14_method_75_code (1 : Nat) (Option.some Jvm.ClassFile.FieldType.boolean)) ∈ TB := tk_t7 (j := 187) rfl rfl
theorem tk_1730 : (Jvm.Cond.methodLink "LadderStreetModel" (402 : Nat) ({ cls := "LadderStreetModel", name := "goes", desc := "(I)V" } : Jvm.MethodName)) ∈ TB := tk_t7 (j := 188) rfl rfl
theorem tk_1732 : (Jvm.Cond.instanceMethod ({ cls := "LadderStreetModel", name := "goes", desc := "(I)V" } : Jvm.MethodName)) ∈ TB := tk_t7 (j := 190) rfl rfl
theorem tk_1733 : (Jvm.Cond.code ({ cls := "LadderStreetModel", name := "goes", desc := "(I)V" } : Jvm.MethodName) prog_14_method_65_code (3 : Nat) (Option.none : Option Jvm.ClassFile.FieldType)) ∈ TB := tk_t7 (j := 191) rfl rfl
theorem tk_1734 : (Jvm.Cond.methodLink "LadderStreetModel" (375 : Nat) ({ cls := "LadderStreetModel", name := "minuteGoes", desc := "()V" } : Jvm.MethodName)) ∈ TB := tk_t7 (j := 192) rfl rfl
theorem tk_1736 : (Jvm.Cond.instanceMethod ({ cls := "LadderStreetModel", name := "minuteGoes", desc := "()V" } : Jvm.MethodName)) ∈ TB := tk_t7 (j := 194) rfl rfl
theorem tk_1737 : (Jvm.Cond.code ({ cls := "LadderStreetModel", name := "minuteGoes", desc := "()V" } : Jvm.MethodName) prog_14_method_64_code (2 : Nat) (Option.none : Option Jvm.ClassFile.FieldType)) ∈ TB := tk_t7 (j := 195) rfl rfl
theorem tk_1738 : (Jvm.Cond.methodLink "LadderStreetModel" (365 : Nat) ({ cls := "LadderStreetModel", name := "personGoes", desc := "(I)V" } : Jvm.MethodName)) ∈ TB := tk_t7 (j := 196) rfl rfl
theorem tk_1740 : (Jvm.Cond.instanceMethod ({ cls := "LadderStreetModel", name := "personGoes", desc := "(I)V" } : Jvm.MethodName)) ∈ TB := tk_t7 (j := 198) rfl rfl
theorem tk_1741 : (Jvm.Cond.code ({ cls := "LadderStreetModel", name := "personGoes", desc := "(I)V" } : Jvm.MethodName) prog_14_method_60_code (3 : Nat) (Option.none : Option Jvm.ClassFile.FieldType)) ∈ TB := tk_t7 (j := 199) rfl rfl
theorem tk_1742 : (Jvm.Cond.methodLink "LadderStreetModel" (345 : Nat) ({ cls := "LadderStreetModel", name := "towards", desc := "(II)I" } : Jvm.MethodName)) ∈ TB := tk_t7 (j := 200) rfl rfl
theorem tk_1743 : (Jvm.Cond.static ({ cls := "LadderStreetModel", name := "towards", desc := "(II)I" } : Jvm.MethodName)) ∈ TB := tk_t7 (j := 201) rfl rfl
theorem tk_1744 : (Jvm.Cond.code ({ cls := "LadderStreetModel", name := "towards", desc := "(II)I" } : Jvm.MethodName) prog_14_method_59_code (2 : Nat) (Option.some Jvm.ClassFile.FieldType.int)) ∈ TB := tk_t7 (j := 202) rfl rfl
theorem tk_1745 : (Jvm.Cond.methodLink "LadderStreetModel" (352 : Nat) ({ cls := "LadderStreetModel", name := "quarrelOf", desc := "(II)I" } : Jvm.MethodName)) ∈ TB := tk_t7 (j := 203) rfl rfl
theorem tk_1747 : (Jvm.Cond.instanceMethod ({ cls := "LadderStreetModel", name := "quarrelOf", desc := "(II)I" } : Jvm.MethodName)) ∈ TB := tk_t7 (j := 205) rfl rfl
theorem tk_1748 : (Jvm.Cond.code ({ cls := "LadderStreetModel", name := "quarrelOf", desc := "(II)I" } : Jvm.MethodName) prog_14_method_54_code (3 : Nat) (Option.some Jvm.ClassFile.FieldType.int)) ∈ TB := tk_t7 (j := 206) rfl rfl
theorem tk_1749 : (Jvm.Cond.constant "LadderStreetModel" (355 : Nat) (99999 : Int32)) ∈ TB := tk_t7 (j := 207) rfl rfl
theorem tk_1750 : (Jvm.Cond.methodLink "LadderStreetModel" (368 : Nat) ({ cls := "LadderStreetModel", name := "breakingBits", desc := "()I" } : Jvm.MethodName)) ∈ TB := tk_t7 (j := 208) rfl rfl
theorem tk_1752 : (Jvm.Cond.instanceMethod ({ cls := "LadderStreetModel", name := "breakingBits", desc := "()I" } : Jvm.MethodName)) ∈ TB := tk_t7 (j := 210) rfl rfl
theorem tk_1753 : (Jvm.Cond.code ({ cls := "LadderStreetModel", name := "breakingBits", desc := "()I" } : Jvm.MethodName) prog_14_method_61_code (3 : Nat) (Option.some Jvm.ClassFile.FieldType.int)) ∈ TB := tk_t7 (j := 211) rfl rfl
theorem tk_1754 : (Jvm.Cond.methodLink "LadderStreetModel" (356 : Nat) ({ cls := "LadderStreetModel", name := "lotOf", desc := "(I)I" } : Jvm.MethodName)) ∈ TB := tk_t7 (j := 212) rfl rfl
theorem tk_1756 : (Jvm.Cond.instanceMethod ({ cls := "LadderStreetModel", name := "lotOf", desc := "(I)I" } : Jvm.MethodName)) ∈ TB := tk_t7 (j := 214) rfl rfl
theorem tk_1757 : (Jvm.Cond.code ({ cls := "LadderStreetModel", name := "lotOf", desc := "(I)I" } : Jvm.MethodName) prog_14_method_44_code (2 : Nat) (Option.some Jvm.ClassFile.FieldType.int)) ∈ TB := tk_t7 (j := 215) rfl rfl
theorem tk_1758 : (Jvm.Cond.methodLink "LadderStreetModel" (303 : Nat) ({ cls := "LadderStreetModel", name := "mixed", desc := "(II)I" } : Jvm.MethodName)) ∈ TB := tk_t7 (j := 216) rfl rfl
theorem tk_1759 : (Jvm.Cond.static ({ cls := "LadderStreetModel", name := "mixed", desc := "(II)I" } : Jvm.MethodName)) ∈ TB := tk_t7 (j := 217) rfl rfl
theorem tk_1760 : (Jvm.Cond.code ({ cls := "LadderStreetModel", name := "mixed", desc := "(II)I" } : Jvm.MethodName) prog_14_method_43_code (3 : Nat) (Option.some Jvm.ClassFile.FieldType.int)) ∈ TB := tk_t7 (j := 218) rfl rfl
theorem tk_1761 : (Jvm.Cond.constant "LadderStreetModel" (302 : Nat) (1103515245 : Int32)) ∈ TB := tk_t7 (j := 219) rfl rfl
theorem tk_1762 : (Jvm.Cond.methodLink "LadderStreetModel" (372 : Nat) ({ cls := "LadderStreetModel", name := "theyBreak", desc := "(I)V" } : Jvm.MethodName)) ∈ TB := tk_t7 (j := 220) rfl rfl
theorem tk_1764 : (Jvm.Cond.instanceMethod ({ cls := "LadderStreetModel", name := "theyBreak", desc := "(I)V" } : Jvm.MethodName)) ∈ TB := tk_t7 (j := 222) rfl rfl
theorem tk_1765 : (Jvm.Cond.code ({ cls := "LadderStreetModel", name := "theyBreak", desc := "(I)V" } : Jvm.MethodName) prog_14_method_63_code (3 : Nat) (Option.none : Option Jvm.ClassFile.FieldType)) ∈ TB := tk_t7 (j := 223) rfl rfl
theorem tk_1766 : (Jvm.Cond.methodLink "LadderStreetModel" (362 : Nat) ({ cls := "LadderStreetModel", name := "falls", desc := "(I)V" } : Jvm.MethodName)) ∈ TB := tk_t7 (j := 224) rfl rfl
theorem tk_1768 : (Jvm.Cond.instanceMethod ({ cls := "LadderStreetModel", name := "falls", desc := "(I)V" } : Jvm.MethodName)) ∈ TB := tk_t7 (j := 226) rfl rfl
theorem tk_1769 : (Jvm.Cond.code ({ cls := "LadderStreetModel", name := "falls", desc := "(I)V" } : Jvm.MethodName) prog_14_method_62_code (3 : Nat) (Option.none : Option Jvm.ClassFile.FieldType)) ∈ TB := tk_t7 (j := 227) rfl rfl
theorem tk_1770 : (Jvm.Cond.methodLink "LadderStreetLaw" (67 : Nat) ({ cls := "LadderStreetModel", name := "undo", desc := "()Z" } : Jvm.MethodName)) ∈ TB := tk_t7 (j := 228) rfl rfl
theorem tk_1771 : (Jvm.Cond.instanceMethod ({ cls := "LadderStreetModel", name := "undo", desc := "()Z" } : Jvm.MethodName)) ∈ TB := tk_t7 (j := 229) rfl rfl
theorem tk_1772 : (Jvm.Cond.selects "LadderStreetModel" ({ cls := "LadderStreetModel", name := "undo", desc := "()Z" } : Jvm.MethodName) ({ cls := "LadderStreetModel", name := "undo", desc := "()Z" } : Jvm.MethodName)) ∈ TB := tk_t7 (j := 230) rfl rfl
theorem tk_1773 : (Jvm.Cond.code ({ cls := "LadderStreetModel", name := "undo", desc := "()Z" } : Jvm.MethodName) prog_14_method_77_code (2 : Nat) (Option.some Jvm.ClassFile.FieldType.boolean)) ∈ TB := tk_t7 (j := 231) rfl rfl
theorem tk_1774 : (Jvm.Cond.methodLink "LadderStreetLaw" (71 : Nat) ({ cls := "LadderStreetModel", name := "inTheWay", desc := "(II)I" } : Jvm.MethodName)) ∈ TB := tk_t7 (j := 232) rfl rfl
theorem tk_1775 : (Jvm.Cond.instanceMethod ({ cls := "LadderStreetModel", name := "inTheWay", desc := "(II)I" } : Jvm.MethodName)) ∈ TB := tk_t7 (j := 233) rfl rfl
theorem tk_1776 : (Jvm.Cond.selects "LadderStreetModel" ({ cls := "LadderStreetModel", name := "inTheWay", desc := "(II)I" } : Jvm.MethodName) ({ cls := "LadderStreetModel", name := "inTheWay", desc := "(II)I" } : Jvm.MethodName)) ∈ TB := tk_t7 (j := 234) rfl rfl
theorem tk_1777 : (Jvm.Cond.code ({ cls := "LadderStreetModel", name := "inTheWay", desc := "(II)I" } : Jvm.MethodName) prog_14_method_79_code (3 : Nat) (Option.some Jvm.ClassFile.FieldType.int)) ∈ TB := tk_t7 (j := 235) rfl rfl
theorem tk_1778 : (Jvm.Cond.methodLink "LadderStreetModel" (405 : Nat) ({ cls := "LadderStreetModel", name := "blockBits", desc := "(II)I" } : Jvm.MethodName)) ∈ TB := tk_t7 (j := 236) rfl rfl
theorem tk_1780 : (Jvm.Cond.instanceMethod ({ cls := "LadderStreetModel", name := "blockBits", desc := "(II)I" } : Jvm.MethodName)) ∈ TB := tk_t7 (j := 238) rfl rfl
theorem tk_1781 : (Jvm.Cond.code ({ cls := "LadderStreetModel", name := "blockBits", desc := "(II)I" } : Jvm.MethodName) prog_14_method_78_code (6 : Nat) (Option.some Jvm.ClassFile.FieldType.int)) ∈ TB := tk_t7 (j := 239) rfl rfl
theorem tk_1782 : (Jvm.Cond.methodLink "LadderStreetLaw" (75 : Nat) ({ cls := "LadderStreetModel", name := "errands", desc := "()I" } : Jvm.MethodName)) ∈ TB := tk_t8 (j := 0) rfl rfl
theorem tk_1783 : (Jvm.Cond.instanceMethod ({ cls := "LadderStreetModel", name := "errands", desc := "()I" } : Jvm.MethodName)) ∈ TB := tk_t8 (j := 1) rfl rfl
theorem tk_1784 : (Jvm.Cond.selects "LadderStreetModel" ({ cls := "LadderStreetModel", name := "errands", desc := "()I" } : Jvm.MethodName) ({ cls := "LadderStreetModel", name := "errands", desc := "()I" } : Jvm.MethodName)) ∈ TB := tk_t8 (j := 2) rfl rfl
theorem tk_1785 : (Jvm.Cond.code ({ cls := "LadderStreetModel", name := "errands", desc := "()I" } : Jvm.MethodName) prog_14_method_82_code (2 : Nat) (Option.some Jvm.ClassFile.FieldType.int)) ∈ TB := tk_t8 (j := 3) rfl rfl
theorem tk_1786 : (Jvm.Cond.methodLink "LadderStreetModel" (411 : Nat) ({ cls := "LadderStreetModel", name := "errandsFrom", desc := "()I" } : Jvm.MethodName)) ∈ TB := tk_t8 (j := 4) rfl rfl
theorem tk_1788 : (Jvm.Cond.instanceMethod ({ cls := "LadderStreetModel", name := "errandsFrom", desc := "()I" } : Jvm.MethodName)) ∈ TB := tk_t8 (j := 6) rfl rfl
theorem tk_1789 : (Jvm.Cond.code ({ cls := "LadderStreetModel", name := "errandsFrom", desc := "()I" } : Jvm.MethodName) prog_14_method_81_code (2 : Nat) (Option.some Jvm.ClassFile.FieldType.int)) ∈ TB := tk_t8 (j := 7) rfl rfl
theorem tk_1790 : (Jvm.Cond.methodLink "LadderStreetModel" (408 : Nat) ({ cls := "LadderStreetModel", name := "goalBits", desc := "()I" } : Jvm.MethodName)) ∈ TB := tk_t8 (j := 8) rfl rfl
theorem tk_1792 : (Jvm.Cond.instanceMethod ({ cls := "LadderStreetModel", name := "goalBits", desc := "()I" } : Jvm.MethodName)) ∈ TB := tk_t8 (j := 10) rfl rfl
theorem tk_1793 : (Jvm.Cond.code ({ cls := "LadderStreetModel", name := "goalBits", desc := "()I" } : Jvm.MethodName) prog_14_method_80_code (3 : Nat) (Option.some Jvm.ClassFile.FieldType.int)) ∈ TB := tk_t8 (j := 11) rfl rfl
theorem tk_1794 : (Jvm.Cond.methodLink "LadderStreetLaw" (80 : Nat) ({ cls := "LadderStreetModel", name := "past", desc := "(IIII)I" } : Jvm.MethodName)) ∈ TB := tk_t8 (j := 12) rfl rfl
theorem tk_1795 : (Jvm.Cond.instanceMethod ({ cls := "LadderStreetModel", name := "past", desc := "(IIII)I" } : Jvm.MethodName)) ∈ TB := tk_t8 (j := 13) rfl rfl
theorem tk_1796 : (Jvm.Cond.selects "LadderStreetModel" ({ cls := "LadderStreetModel", name := "past", desc := "(IIII)I" } : Jvm.MethodName) ({ cls := "LadderStreetModel", name := "past", desc := "(IIII)I" } : Jvm.MethodName)) ∈ TB := tk_t8 (j := 14) rfl rfl
theorem tk_1797 : (Jvm.Cond.code ({ cls := "LadderStreetModel", name := "past", desc := "(IIII)I" } : Jvm.MethodName) prog_14_method_86_code (7 : Nat) (Option.some Jvm.ClassFile.FieldType.int)) ∈ TB := tk_t8 (j := 15) rfl rfl
theorem tk_1798 : (Jvm.Cond.methodLink "LadderStreetModel" (423 : Nat) ({ cls := "LadderStreetModel", name := "bothGo", desc := "(IIII)V" } : Jvm.MethodName)) ∈ TB := tk_t8 (j := 16) rfl rfl
theorem tk_1800 : (Jvm.Cond.instanceMethod ({ cls := "LadderStreetModel", name := "bothGo", desc := "(IIII)V" } : Jvm.MethodName)) ∈ TB := tk_t8 (j := 18) rfl rfl
theorem tk_1801 : (Jvm.Cond.code ({ cls := "LadderStreetModel", name := "bothGo", desc := "(IIII)V" } : Jvm.MethodName) prog_14_method_85_code (6 : Nat) (Option.none : Option Jvm.ClassFile.FieldType)) ∈ TB := tk_t8 (j := 19) rfl rfl
theorem tk_1802 : (Jvm.Cond.methodLink "LadderStreetModel" (420 : Nat) ({ cls := "LadderStreetModel", name := "otherGoes", desc := "(I)V" } : Jvm.MethodName)) ∈ TB := tk_t8 (j := 20) rfl rfl
theorem tk_1804 : (Jvm.Cond.instanceMethod ({ cls := "LadderStreetModel", name := "otherGoes", desc := "(I)V" } : Jvm.MethodName)) ∈ TB := tk_t8 (j := 22) rfl rfl
theorem tk_1805 : (Jvm.Cond.code ({ cls := "LadderStreetModel", name := "otherGoes", desc := "(I)V" } : Jvm.MethodName) prog_14_method_83_code (4 : Nat) (Option.none : Option Jvm.ClassFile.FieldType)) ∈ TB := tk_t8 (j := 23) rfl rfl
theorem tk_1806 : (Jvm.Cond.methodLink "LadderStreetModel" (414 : Nat) ({ cls := "LadderStreetModel", name := "marks", desc := "(I)V" } : Jvm.MethodName)) ∈ TB := tk_t8 (j := 24) rfl rfl
theorem tk_1808 : (Jvm.Cond.instanceMethod ({ cls := "LadderStreetModel", name := "marks", desc := "(I)V" } : Jvm.MethodName)) ∈ TB := tk_t8 (j := 26) rfl rfl
theorem tk_1809 : (Jvm.Cond.code ({ cls := "LadderStreetModel", name := "marks", desc := "(I)V" } : Jvm.MethodName) prog_14_method_84_code (2 : Nat) (Option.none : Option Jvm.ClassFile.FieldType)) ∈ TB := tk_t8 (j := 27) rfl rfl
theorem tk_1810 : (Jvm.Cond.methodLink "LadderStreetLaw" (84 : Nat) ({ cls := "LadderStreetModel", name := "alone", desc := "(II)I" } : Jvm.MethodName)) ∈ TB := tk_t8 (j := 28) rfl rfl
theorem tk_1811 : (Jvm.Cond.instanceMethod ({ cls := "LadderStreetModel", name := "alone", desc := "(II)I" } : Jvm.MethodName)) ∈ TB := tk_t8 (j := 29) rfl rfl
theorem tk_1812 : (Jvm.Cond.selects "LadderStreetModel" ({ cls := "LadderStreetModel", name := "alone", desc := "(II)I" } : Jvm.MethodName) ({ cls := "LadderStreetModel", name := "alone", desc := "(II)I" } : Jvm.MethodName)) ∈ TB := tk_t8 (j := 30) rfl rfl
theorem tk_1813 : (Jvm.Cond.code ({ cls := "LadderStreetModel", name := "alone", desc := "(II)I" } : Jvm.MethodName) prog_14_method_88_code (3 : Nat) (Option.some Jvm.ClassFile.FieldType.int)) ∈ TB := tk_t8 (j := 31) rfl rfl
theorem tk_1814 : (Jvm.Cond.methodLink "LadderStreetModel" (427 : Nat) ({ cls := "LadderStreetModel", name := "aloneTo", desc := "(II)I" } : Jvm.MethodName)) ∈ TB := tk_t8 (j := 32) rfl rfl
theorem tk_1816 : (Jvm.Cond.instanceMethod ({ cls := "LadderStreetModel", name := "aloneTo", desc := "(II)I" } : Jvm.MethodName)) ∈ TB := tk_t8 (j := 34) rfl rfl
theorem tk_1817 : (Jvm.Cond.code ({ cls := "LadderStreetModel", name := "aloneTo", desc := "(II)I" } : Jvm.MethodName) prog_14_method_87_code (3 : Nat) (Option.some Jvm.ClassFile.FieldType.int)) ∈ TB := tk_t8 (j := 35) rfl rfl
theorem tk_1818 : (Jvm.Cond.methodLink "LadderStreetLaw" (88 : Nat) ({ cls := "LadderStreetModel", name := "reach", desc := "(I)I" } : Jvm.MethodName)) ∈ TB := tk_t8 (j := 36) rfl rfl
theorem tk_1819 : (Jvm.Cond.instanceMethod ({ cls := "LadderStreetModel", name := "reach", desc := "(I)I" } : Jvm.MethodName)) ∈ TB := tk_t8 (j := 37) rfl rfl
theorem tk_1820 : (Jvm.Cond.selects "LadderStreetModel" ({ cls := "LadderStreetModel", name := "reach", desc := "(I)I" } : Jvm.MethodName) ({ cls := "LadderStreetModel", name := "reach", desc := "(I)I" } : Jvm.MethodName)) ∈ TB := tk_t8 (j := 38) rfl rfl
theorem tk_1821 : (Jvm.Cond.code ({ cls := "LadderStreetModel", name := "reach", desc := "(I)I" } : Jvm.MethodName) prog_14_method_89_code (4 : Nat) (Option.some Jvm.ClassFile.FieldType.int)) ∈ TB := tk_t8 (j := 39) rfl rfl
theorem tk_1822 : (Jvm.Cond.methodLink "LadderStreetLaw" (92 : Nat) ({ cls := "LadderStreetModel", name := "above", desc := "(I)I" } : Jvm.MethodName)) ∈ TB := tk_t8 (j := 40) rfl rfl
theorem tk_1823 : (Jvm.Cond.instanceMethod ({ cls := "LadderStreetModel", name := "above", desc := "(I)I" } : Jvm.MethodName)) ∈ TB := tk_t8 (j := 41) rfl rfl
theorem tk_1824 : (Jvm.Cond.selects "LadderStreetModel" ({ cls := "LadderStreetModel", name := "above", desc := "(I)I" } : Jvm.MethodName) ({ cls := "LadderStreetModel", name := "above", desc := "(I)I" } : Jvm.MethodName)) ∈ TB := tk_t8 (j := 42) rfl rfl
theorem tk_1825 : (Jvm.Cond.code ({ cls := "LadderStreetModel", name := "above", desc := "(I)I" } : Jvm.MethodName) prog_14_method_90_code (4 : Nat) (Option.some Jvm.ClassFile.FieldType.int)) ∈ TB := tk_t8 (j := 43) rfl rfl
theorem tk_1826 : (Jvm.Cond.methodLink "LadderStreetLaw" (96 : Nat) ({ cls := "LadderStreetModel", name := "driest", desc := "(I)I" } : Jvm.MethodName)) ∈ TB := tk_t8 (j := 44) rfl rfl
theorem tk_1827 : (Jvm.Cond.instanceMethod ({ cls := "LadderStreetModel", name := "driest", desc := "(I)I" } : Jvm.MethodName)) ∈ TB := tk_t8 (j := 45) rfl rfl
theorem tk_1828 : (Jvm.Cond.selects "LadderStreetModel" ({ cls := "LadderStreetModel", name := "driest", desc := "(I)I" } : Jvm.MethodName) ({ cls := "LadderStreetModel", name := "driest", desc := "(I)I" } : Jvm.MethodName)) ∈ TB := tk_t8 (j := 46) rfl rfl
theorem tk_1829 : (Jvm.Cond.code ({ cls := "LadderStreetModel", name := "driest", desc := "(I)I" } : Jvm.MethodName) prog_14_method_91_code (4 : Nat) (Option.some Jvm.ClassFile.FieldType.int)) ∈ TB := tk_t8 (j := 47) rfl rfl
theorem tk_1830 : (Jvm.Cond.methodLink "LadderStreetLaw" (100 : Nat) ({ cls := "LadderStreetModel", name := "parts", desc := "(II)I" } : Jvm.MethodName)) ∈ TB := tk_t8 (j := 48) rfl rfl
theorem tk_1831 : (Jvm.Cond.instanceMethod ({ cls := "LadderStreetModel", name := "parts", desc := "(II)I" } : Jvm.MethodName)) ∈ TB := tk_t8 (j := 49) rfl rfl
theorem tk_1832 : (Jvm.Cond.selects "LadderStreetModel" ({ cls := "LadderStreetModel", name := "parts", desc := "(II)I" } : Jvm.MethodName) ({ cls := "LadderStreetModel", name := "parts", desc := "(II)I" } : Jvm.MethodName)) ∈ TB := tk_t8 (j := 50) rfl rfl
theorem tk_1833 : (Jvm.Cond.code ({ cls := "LadderStreetModel", name := "parts", desc := "(II)I" } : Jvm.MethodName) prog_14_method_94_code (3 : Nat) (Option.some Jvm.ClassFile.FieldType.int)) ∈ TB := tk_t8 (j := 51) rfl rfl
theorem tk_1834 : (Jvm.Cond.methodLink "LadderStreetModel" (430 : Nat) ({ cls := "LadderStreetModel", name := "isWidth", desc := "(I)Z" } : Jvm.MethodName)) ∈ TB := tk_t8 (j := 52) rfl rfl
theorem tk_1835 : (Jvm.Cond.static ({ cls := "LadderStreetModel", name := "isWidth", desc := "(I)Z" } : Jvm.MethodName)) ∈ TB := tk_t8 (j := 53) rfl rfl
theorem tk_1836 : (Jvm.Cond.code ({ cls := "LadderStreetModel", name := "isWidth", desc := "(I)Z" } : Jvm.MethodName) prog_14_method_92_code (1 : Nat) (Option.some Jvm.ClassFile.FieldType.boolean)) ∈ TB := tk_t8 (j := 54) rfl rfl
theorem tk_1837 : (Jvm.Cond.methodLink "LadderStreetModel" (433 : Nat) ({ cls := "LadderStreetModel", name := "partsOf", desc := "(II)I" } : Jvm.MethodName)) ∈ TB := tk_t8 (j := 55) rfl rfl
theorem tk_1839 : (Jvm.Cond.instanceMethod ({ cls := "LadderStreetModel", name := "partsOf", desc := "(II)I" } : Jvm.MethodName)) ∈ TB := tk_t8 (j := 57) rfl rfl
theorem tk_1840 : (Jvm.Cond.code ({ cls := "LadderStreetModel", name := "partsOf", desc := "(II)I" } : Jvm.MethodName) prog_14_method_93_code (7 : Nat) (Option.some Jvm.ClassFile.FieldType.int)) ∈ TB := tk_t8 (j := 58) rfl rfl
theorem tk_1841 : (Jvm.Cond.methodLink "LadderStreetLaw" (104 : Nat) ({ cls := "LadderStreetModel", name := "least", desc := "(II)I" } : Jvm.MethodName)) ∈ TB := tk_t8 (j := 59) rfl rfl
theorem tk_1842 : (Jvm.Cond.instanceMethod ({ cls := "LadderStreetModel", name := "least", desc := "(II)I" } : Jvm.MethodName)) ∈ TB := tk_t8 (j := 60) rfl rfl
theorem tk_1843 : (Jvm.Cond.selects "LadderStreetModel" ({ cls := "LadderStreetModel", name := "least", desc := "(II)I" } : Jvm.MethodName) ({ cls := "LadderStreetModel", name := "least", desc := "(II)I" } : Jvm.MethodName)) ∈ TB := tk_t8 (j := 61) rfl rfl
theorem tk_1844 : (Jvm.Cond.code ({ cls := "LadderStreetModel", name := "least", desc := "(II)I" } : Jvm.MethodName) prog_14_method_95_code (7 : Nat) (Option.some Jvm.ClassFile.FieldType.int)) ∈ TB := tk_t8 (j := 62) rfl rfl
theorem tk_1845 : (Jvm.Cond.methodLink "LadderStreetLaw" (108 : Nat) ({ cls := "LadderStreetModel", name := "homes", desc := "(II)I" } : Jvm.MethodName)) ∈ TB := tk_t8 (j := 63) rfl rfl
theorem tk_1846 : (Jvm.Cond.instanceMethod ({ cls := "LadderStreetModel", name := "homes", desc := "(II)I" } : Jvm.MethodName)) ∈ TB := tk_t8 (j := 64) rfl rfl
theorem tk_1847 : (Jvm.Cond.selects "LadderStreetModel" ({ cls := "LadderStreetModel", name := "homes", desc := "(II)I" } : Jvm.MethodName) ({ cls := "LadderStreetModel", name := "homes", desc := "(II)I" } : Jvm.MethodName)) ∈ TB := tk_t8 (j := 65) rfl rfl
theorem tk_1848 : (Jvm.Cond.code ({ cls := "LadderStreetModel", name := "homes", desc := "(II)I" } : Jvm.MethodName) prog_14_method_98_code (4 : Nat) (Option.some Jvm.ClassFile.FieldType.int)) ∈ TB := tk_t8 (j := 66) rfl rfl
theorem tk_1849 : (Jvm.Cond.methodLink "LadderStreetModel" (439 : Nat) ({ cls := "LadderStreetModel", name := "findsHomes", desc := "(I)Z" } : Jvm.MethodName)) ∈ TB := tk_t8 (j := 67) rfl rfl
theorem tk_1851 : (Jvm.Cond.instanceMethod ({ cls := "LadderStreetModel", name := "findsHomes", desc := "(I)Z" } : Jvm.MethodName)) ∈ TB := tk_t8 (j := 69) rfl rfl
theorem tk_1852 : (Jvm.Cond.code ({ cls := "LadderStreetModel", name := "findsHomes", desc := "(I)Z" } : Jvm.MethodName) prog_14_method_97_code (3 : Nat) (Option.some Jvm.ClassFile.FieldType.boolean)) ∈ TB := tk_t8 (j := 70) rfl rfl
theorem tk_1853 : (Jvm.Cond.methodLink "LadderStreetModel" (436 : Nat) ({ cls := "LadderStreetModel", name := "canLive", desc := "(III)Z" } : Jvm.MethodName)) ∈ TB := tk_t8 (j := 71) rfl rfl
theorem tk_1855 : (Jvm.Cond.instanceMethod ({ cls := "LadderStreetModel", name := "canLive", desc := "(III)Z" } : Jvm.MethodName)) ∈ TB := tk_t8 (j := 73) rfl rfl
theorem tk_1856 : (Jvm.Cond.code ({ cls := "LadderStreetModel", name := "canLive", desc := "(III)Z" } : Jvm.MethodName) prog_14_method_96_code (6 : Nat) (Option.some Jvm.ClassFile.FieldType.boolean)) ∈ TB := tk_t8 (j := 74) rfl rfl
theorem tk_1857 : (Jvm.Cond.methodLink "LadderStreetLaw" (112 : Nat) ({ cls := "LadderStreetModel", name := "share", desc := "(II)I" } : Jvm.MethodName)) ∈ TB := tk_t8 (j := 75) rfl rfl
theorem tk_1858 : (Jvm.Cond.instanceMethod ({ cls := "LadderStreetModel", name := "share", desc := "(II)I" } : Jvm.MethodName)) ∈ TB := tk_t8 (j := 76) rfl rfl
theorem tk_1859 : (Jvm.Cond.selects "LadderStreetModel" ({ cls := "LadderStreetModel", name := "share", desc := "(II)I" } : Jvm.MethodName) ({ cls := "LadderStreetModel", name := "share", desc := "(II)I" } : Jvm.MethodName)) ∈ TB := tk_t8 (j := 77) rfl rfl
theorem tk_1860 : (Jvm.Cond.code ({ cls := "LadderStreetModel", name := "share", desc := "(II)I" } : Jvm.MethodName) prog_14_method_99_code (3 : Nat) (Option.some Jvm.ClassFile.FieldType.int)) ∈ TB := tk_t8 (j := 78) rfl rfl
theorem tk_1861 : (Jvm.Cond.methodLink "LadderStreetLaw" (116 : Nat) ({ cls := "LadderStreetModel", name := "enough", desc := "()I" } : Jvm.MethodName)) ∈ TB := tk_t8 (j := 79) rfl rfl
theorem tk_1862 : (Jvm.Cond.instanceMethod ({ cls := "LadderStreetModel", name := "enough", desc := "()I" } : Jvm.MethodName)) ∈ TB := tk_t8 (j := 80) rfl rfl
theorem tk_1863 : (Jvm.Cond.selects "LadderStreetModel" ({ cls := "LadderStreetModel", name := "enough", desc := "()I" } : Jvm.MethodName) ({ cls := "LadderStreetModel", name := "enough", desc := "()I" } : Jvm.MethodName)) ∈ TB := tk_t8 (j := 81) rfl rfl
theorem tk_1864 : (Jvm.Cond.code ({ cls := "LadderStreetModel", name := "enough", desc := "()I" } : Jvm.MethodName) prog_14_method_100_code (4 : Nat) (Option.some Jvm.ClassFile.FieldType.int)) ∈ TB := tk_t8 (j := 82) rfl rfl
theorem tk_1865 : (Jvm.Cond.methodLink "LadderStreetLaw" (120 : Nat) ({ cls := "LadderStreetModel", name := "news", desc := "(II)I" } : Jvm.MethodName)) ∈ TB := tk_t8 (j := 83) rfl rfl
theorem tk_1866 : (Jvm.Cond.instanceMethod ({ cls := "LadderStreetModel", name := "news", desc := "(II)I" } : Jvm.MethodName)) ∈ TB := tk_t8 (j := 84) rfl rfl
theorem tk_1867 : (Jvm.Cond.selects "LadderStreetModel" ({ cls := "LadderStreetModel", name := "news", desc := "(II)I" } : Jvm.MethodName) ({ cls := "LadderStreetModel", name := "news", desc := "(II)I" } : Jvm.MethodName)) ∈ TB := tk_t8 (j := 85) rfl rfl
theorem tk_1868 : (Jvm.Cond.code ({ cls := "LadderStreetModel", name := "news", desc := "(II)I" } : Jvm.MethodName) prog_14_method_101_code (8 : Nat) (Option.some Jvm.ClassFile.FieldType.int)) ∈ TB := tk_t8 (j := 86) rfl rfl
theorem tk_1869 : (Jvm.Cond.methodLink "LadderStreetLaw" (124 : Nat) ({ cls := "LadderStreetModel", name := "pairs", desc := "(I)I" } : Jvm.MethodName)) ∈ TB := tk_t8 (j := 87) rfl rfl
theorem tk_1870 : (Jvm.Cond.instanceMethod ({ cls := "LadderStreetModel", name := "pairs", desc := "(I)I" } : Jvm.MethodName)) ∈ TB := tk_t8 (j := 88) rfl rfl
theorem tk_1871 : (Jvm.Cond.selects "LadderStreetModel" ({ cls := "LadderStreetModel", name := "pairs", desc := "(I)I" } : Jvm.MethodName) ({ cls := "LadderStreetModel", name := "pairs", desc := "(I)I" } : Jvm.MethodName)) ∈ TB := tk_t8 (j := 89) rfl rfl
theorem tk_1872 : (Jvm.Cond.code ({ cls := "LadderStreetModel", name := "pairs", desc := "(I)I" } : Jvm.MethodName) prog_14_method_102_code (6 : Nat) (Option.some Jvm.ClassFile.FieldType.int)) ∈ TB := tk_t8 (j := 90) rfl rfl
theorem tk_1873 : (Jvm.Cond.methodLink "LadderStreetLaw" (128 : Nat) ({ cls := "LadderStreetModel", name := "kept", desc := "(I)I" } : Jvm.MethodName)) ∈ TB := tk_t8 (j := 91) rfl rfl
theorem tk_1874 : (Jvm.Cond.instanceMethod ({ cls := "LadderStreetModel", name := "kept", desc := "(I)I" } : Jvm.MethodName)) ∈ TB := tk_t8 (j := 92) rfl rfl
theorem tk_1875 : (Jvm.Cond.selects "LadderStreetModel" ({ cls := "LadderStreetModel", name := "kept", desc := "(I)I" } : Jvm.MethodName) ({ cls := "LadderStreetModel", name := "kept", desc := "(I)I" } : Jvm.MethodName)) ∈ TB := tk_t8 (j := 93) rfl rfl
theorem tk_1876 : (Jvm.Cond.code ({ cls := "LadderStreetModel", name := "kept", desc := "(I)I" } : Jvm.MethodName) prog_14_method_103_code (5 : Nat) (Option.some Jvm.ClassFile.FieldType.int)) ∈ TB := tk_t8 (j := 94) rfl rfl
theorem tk_1877 : (Jvm.Cond.methodLink "LadderStreetLaw" (132 : Nat) ({ cls := "LadderStreetModel", name := "waits", desc := "(II)I" } : Jvm.MethodName)) ∈ TB := tk_t8 (j := 95) rfl rfl
theorem tk_1878 : (Jvm.Cond.instanceMethod ({ cls := "LadderStreetModel", name := "waits", desc := "(II)I" } : Jvm.MethodName)) ∈ TB := tk_t8 (j := 96) rfl rfl
theorem tk_1879 : (Jvm.Cond.selects "LadderStreetModel" ({ cls := "LadderStreetModel", name := "waits", desc := "(II)I" } : Jvm.MethodName) ({ cls := "LadderStreetModel", name := "waits", desc := "(II)I" } : Jvm.MethodName)) ∈ TB := tk_t8 (j := 97) rfl rfl
theorem tk_1880 : (Jvm.Cond.code ({ cls := "LadderStreetModel", name := "waits", desc := "(II)I" } : Jvm.MethodName) prog_14_method_104_code (5 : Nat) (Option.some Jvm.ClassFile.FieldType.int)) ∈ TB := tk_t8 (j := 98) rfl rfl
theorem tk_1881 : (Jvm.Cond.methodLink "LadderStreetLaw" (136 : Nat) ({ cls := "LadderStreetModel", name := "crowd", desc := "(II)I" } : Jvm.MethodName)) ∈ TB := tk_t8 (j := 99) rfl rfl
theorem tk_1882 : (Jvm.Cond.instanceMethod ({ cls := "LadderStreetModel", name := "crowd", desc := "(II)I" } : Jvm.MethodName)) ∈ TB := tk_t8 (j := 100) rfl rfl
theorem tk_1883 : (Jvm.Cond.selects "LadderStreetModel" ({ cls := "LadderStreetModel", name := "crowd", desc := "(II)I" } : Jvm.MethodName) ({ cls := "LadderStreetModel", name := "crowd", desc := "(II)I" } : Jvm.MethodName)) ∈ TB := tk_t8 (j := 101) rfl rfl
theorem tk_1884 : (Jvm.Cond.code ({ cls := "LadderStreetModel", name := "crowd", desc := "(II)I" } : Jvm.MethodName) prog_14_method_105_code (5 : Nat) (Option.some Jvm.ClassFile.FieldType.int)) ∈ TB := tk_t8 (j := 102) rfl rfl
theorem tk_1885 : (Jvm.Cond.methodLink "LadderStreetLaw" (140 : Nat) ({ cls := "LadderStreetModel", name := "free", desc := "(I)I" } : Jvm.MethodName)) ∈ TB := tk_t8 (j := 103) rfl rfl
theorem tk_1886 : (Jvm.Cond.instanceMethod ({ cls := "LadderStreetModel", name := "free", desc := "(I)I" } : Jvm.MethodName)) ∈ TB := tk_t8 (j := 104) rfl rfl
theorem tk_1887 : (Jvm.Cond.selects "LadderStreetModel" ({ cls := "LadderStreetModel", name := "free", desc := "(I)I" } : Jvm.MethodName) ({ cls := "LadderStreetModel", name := "free", desc := "(I)I" } : Jvm.MethodName)) ∈ TB := tk_t8 (j := 105) rfl rfl
theorem tk_1888 : (Jvm.Cond.code ({ cls := "LadderStreetModel", name := "free", desc := "(I)I" } : Jvm.MethodName) prog_14_method_106_code (4 : Nat) (Option.some Jvm.ClassFile.FieldType.int)) ∈ TB := tk_t8 (j := 106) rfl rfl
theorem tk_1889 : (Jvm.Cond.methodLink "LadderStreetLaw" (145 : Nat) ({ cls := "LadderStreetModel", name := "meet", desc := "(III)I" } : Jvm.MethodName)) ∈ TB := tk_t8 (j := 107) rfl rfl
theorem tk_1890 : (Jvm.Cond.instanceMethod ({ cls := "LadderStreetModel", name := "meet", desc := "(III)I" } : Jvm.MethodName)) ∈ TB := tk_t8 (j := 108) rfl rfl
theorem tk_1891 : (Jvm.Cond.selects "LadderStreetModel" ({ cls := "LadderStreetModel", name := "meet", desc := "(III)I" } : Jvm.MethodName) ({ cls := "LadderStreetModel", name := "meet", desc := "(III)I" } : Jvm.MethodName)) ∈ TB := tk_t8 (j := 109) rfl rfl
theorem tk_1892 : (Jvm.Cond.code ({ cls := "LadderStreetModel", name := "meet", desc := "(III)I" } : Jvm.MethodName) prog_14_method_107_code (8 : Nat) (Option.some Jvm.ClassFile.FieldType.int)) ∈ TB := tk_t8 (j := 110) rfl rfl
theorem tk_1893 : (Jvm.Cond.methodLink "LadderStreetLaw" (149 : Nat) ({ cls := "LadderStreetModel", name := "mendFirst", desc := "()I" } : Jvm.MethodName)) ∈ TB := tk_t8 (j := 111) rfl rfl
theorem tk_1894 : (Jvm.Cond.instanceMethod ({ cls := "LadderStreetModel", name := "mendFirst", desc := "()I" } : Jvm.MethodName)) ∈ TB := tk_t8 (j := 112) rfl rfl
theorem tk_1895 : (Jvm.Cond.selects "LadderStreetModel" ({ cls := "LadderStreetModel", name := "mendFirst", desc := "()I" } : Jvm.MethodName) ({ cls := "LadderStreetModel", name := "mendFirst", desc := "()I" } : Jvm.MethodName)) ∈ TB := tk_t8 (j := 113) rfl rfl
theorem tk_1896 : (Jvm.Cond.code ({ cls := "LadderStreetModel", name := "mendFirst", desc := "()I" } : Jvm.MethodName) prog_14_method_108_code (5 : Nat) (Option.some Jvm.ClassFile.FieldType.int)) ∈ TB := tk_t8 (j := 114) rfl rfl
theorem tk_1897 : (Jvm.Cond.methodLink "LadderStreetLaw" (153 : Nat) ({ cls := "LadderStreetModel", name := "then", desc := "(III)I" } : Jvm.MethodName)) ∈ TB := tk_t8 (j := 115) rfl rfl
theorem tk_1898 : (Jvm.Cond.instanceMethod ({ cls := "LadderStreetModel", name := "then", desc := "(III)I" } : Jvm.MethodName)) ∈ TB := tk_t8 (j := 116) rfl rfl
theorem tk_1899 : (Jvm.Cond.selects "LadderStreetModel" ({ cls := "LadderStreetModel", name := "then", desc := "(III)I" } : Jvm.MethodName) ({ cls := "LadderStreetModel", name := "then", desc := "(III)I" } : Jvm.MethodName)) ∈ TB := tk_t8 (j := 117) rfl rfl
theorem tk_1900 : (Jvm.Cond.code ({ cls := "LadderStreetModel", name := "then", desc := "(III)I" } : Jvm.MethodName) prog_14_method_110_code (4 : Nat) (Option.some Jvm.ClassFile.FieldType.int)) ∈ TB := tk_t8 (j := 118) rfl rfl
theorem tk_1901 : (Jvm.Cond.methodLink "LadderStreetModel" (442 : Nat) ({ cls := "LadderStreetModel", name := "brokenBits", desc := "()I" } : Jvm.MethodName)) ∈ TB := tk_t8 (j := 119) rfl rfl
theorem tk_1903 : (Jvm.Cond.instanceMethod ({ cls := "LadderStreetModel", name := "brokenBits", desc := "()I" } : Jvm.MethodName)) ∈ TB := tk_t8 (j := 121) rfl rfl
theorem tk_1904 : (Jvm.Cond.code ({ cls := "LadderStreetModel", name := "brokenBits", desc := "()I" } : Jvm.MethodName) prog_14_method_109_code (3 : Nat) (Option.some Jvm.ClassFile.FieldType.int)) ∈ TB := tk_t8 (j := 122) rfl rfl
theorem tk_1905 : (Jvm.Cond.methodLink "LadderStreetModel" (445 : Nat) ({ cls := "LadderStreetModel", name := "bits", desc := "(I)I" } : Jvm.MethodName)) ∈ TB := tk_t8 (j := 123) rfl rfl
theorem tk_1906 : (Jvm.Cond.static ({ cls := "LadderStreetModel", name := "bits", desc := "(I)I" } : Jvm.MethodName)) ∈ TB := tk_t8 (j := 124) rfl rfl
theorem tk_1907 : (Jvm.Cond.code ({ cls := "LadderStreetModel", name := "bits", desc := "(I)I" } : Jvm.MethodName) prog_14_method_36_code (3 : Nat) (Option.some Jvm.ClassFile.FieldType.int)) ∈ TB := tk_t8 (j := 125) rfl rfl
theorem tk_1908 : (Jvm.Cond.methodLink "LadderStreetLaw" (157 : Nat) ({ cls := "LadderStreetModel", name := "year", desc := "(II)I" } : Jvm.MethodName)) ∈ TB := tk_t8 (j := 126) rfl rfl
theorem tk_1909 : (Jvm.Cond.instanceMethod ({ cls := "LadderStreetModel", name := "year", desc := "(II)I" } : Jvm.MethodName)) ∈ TB := tk_t8 (j := 127) rfl rfl
theorem tk_1910 : (Jvm.Cond.selects "LadderStreetModel" ({ cls := "LadderStreetModel", name := "year", desc := "(II)I" } : Jvm.MethodName) ({ cls := "LadderStreetModel", name := "year", desc := "(II)I" } : Jvm.MethodName)) ∈ TB := tk_t8 (j := 128) rfl rfl
theorem tk_1911 : (Jvm.Cond.code ({ cls := "LadderStreetModel", name := "year", desc := "(II)I" } : Jvm.MethodName) prog_14_method_111_code (5 : Nat) (Option.some Jvm.ClassFile.FieldType.int)) ∈ TB := tk_t8 (j := 129) rfl rfl
theorem tk_1912 : (Jvm.Cond.methodLink "LadderStreetLaw" (162 : Nat) ({ cls := "LadderStreetModel", name := "tell", desc := "(IZ)I" } : Jvm.MethodName)) ∈ TB := tk_t8 (j := 130) rfl rfl
theorem tk_1913 : (Jvm.Cond.instanceMethod ({ cls := "LadderStreetModel", name := "tell", desc := "(IZ)I" } : Jvm.MethodName)) ∈ TB := tk_t8 (j := 131) rfl rfl
theorem tk_1914 : (Jvm.Cond.selects "LadderStreetModel" ({ cls := "LadderStreetModel", name := "tell", desc := "(IZ)I" } : Jvm.MethodName) ({ cls := "LadderStreetModel", name := "tell", desc := "(IZ)I" } : Jvm.MethodName)) ∈ TB := tk_t8 (j := 132) rfl rfl
theorem tk_1915 : (Jvm.Cond.code ({ cls := "LadderStreetModel", name := "tell", desc := "(IZ)I" } : Jvm.MethodName) prog_14_method_112_code (3 : Nat) (Option.some Jvm.ClassFile.FieldType.int)) ∈ TB := tk_t8 (j := 133) rfl rfl
theorem tk_1916 : (Jvm.Cond.methodLink "LadderStreetLaw" (166 : Nat) ({ cls := "LadderStreetModel", name := "forget", desc := "()I" } : Jvm.MethodName)) ∈ TB := tk_t8 (j := 134) rfl rfl
theorem tk_1917 : (Jvm.Cond.instanceMethod ({ cls := "LadderStreetModel", name := "forget", desc := "()I" } : Jvm.MethodName)) ∈ TB := tk_t8 (j := 135) rfl rfl
theorem tk_1918 : (Jvm.Cond.selects "LadderStreetModel" ({ cls := "LadderStreetModel", name := "forget", desc := "()I" } : Jvm.MethodName) ({ cls := "LadderStreetModel", name := "forget", desc := "()I" } : Jvm.MethodName)) ∈ TB := tk_t8 (j := 136) rfl rfl
theorem tk_1919 : (Jvm.Cond.code ({ cls := "LadderStreetModel", name := "forget", desc := "()I" } : Jvm.MethodName) prog_14_method_113_code (2 : Nat) (Option.some Jvm.ClassFile.FieldType.int)) ∈ TB := tk_t8 (j := 137) rfl rfl
theorem tk_1920 : (Jvm.Cond.methodLink "LadderStreetLaw" (170 : Nat) ({ cls := "LadderStreetModel", name := "trod", desc := "(II)I" } : Jvm.MethodName)) ∈ TB := tk_t8 (j := 138) rfl rfl
theorem tk_1921 : (Jvm.Cond.instanceMethod ({ cls := "LadderStreetModel", name := "trod", desc := "(II)I" } : Jvm.MethodName)) ∈ TB := tk_t8 (j := 139) rfl rfl
theorem tk_1922 : (Jvm.Cond.selects "LadderStreetModel" ({ cls := "LadderStreetModel", name := "trod", desc := "(II)I" } : Jvm.MethodName) ({ cls := "LadderStreetModel", name := "trod", desc := "(II)I" } : Jvm.MethodName)) ∈ TB := tk_t8 (j := 140) rfl rfl
theorem tk_1923 : (Jvm.Cond.code ({ cls := "LadderStreetModel", name := "trod", desc := "(II)I" } : Jvm.MethodName) prog_14_method_116_code (4 : Nat) (Option.some Jvm.ClassFile.FieldType.int)) ∈ TB := tk_t8 (j := 141) rfl rfl
theorem tk_1924 : (Jvm.Cond.methodLink "LadderStreetModel" (451 : Nat) ({ cls := "LadderStreetModel", name := "trodBits", desc := "(I)I" } : Jvm.MethodName)) ∈ TB := tk_t8 (j := 142) rfl rfl
theorem tk_1926 : (Jvm.Cond.instanceMethod ({ cls := "LadderStreetModel", name := "trodBits", desc := "(I)I" } : Jvm.MethodName)) ∈ TB := tk_t8 (j := 144) rfl rfl
theorem tk_1927 : (Jvm.Cond.code ({ cls := "LadderStreetModel", name := "trodBits", desc := "(I)I" } : Jvm.MethodName) prog_14_method_115_code (6 : Nat) (Option.some Jvm.ClassFile.FieldType.int)) ∈ TB := tk_t8 (j := 145) rfl rfl
theorem tk_1928 : (Jvm.Cond.methodLink "LadderStreetModel" (448 : Nat) ({ cls := "LadderStreetModel", name := "treadsOn", desc := "(II)Z" } : Jvm.MethodName)) ∈ TB := tk_t8 (j := 146) rfl rfl
theorem tk_1930 : (Jvm.Cond.instanceMethod ({ cls := "LadderStreetModel", name := "treadsOn", desc := "(II)Z" } : Jvm.MethodName)) ∈ TB := tk_t8 (j := 148) rfl rfl
theorem tk_1931 : (Jvm.Cond.code ({ cls := "LadderStreetModel", name := "treadsOn", desc := "(II)Z" } : Jvm.MethodName) prog_14_method_114_code (5 : Nat) (Option.some Jvm.ClassFile.FieldType.boolean)) ∈ TB := tk_t8 (j := 149) rfl rfl
theorem tk_1932 : (Jvm.Cond.methodLink "LadderStreetLaw" (174 : Nat) ({ cls := "LadderStreetModel", name := "ask", desc := "(I)I" } : Jvm.MethodName)) ∈ TB := tk_t8 (j := 150) rfl rfl
theorem tk_1933 : (Jvm.Cond.instanceMethod ({ cls := "LadderStreetModel", name := "ask", desc := "(I)I" } : Jvm.MethodName)) ∈ TB := tk_t8 (j := 151) rfl rfl
theorem tk_1934 : (Jvm.Cond.selects "LadderStreetModel" ({ cls := "LadderStreetModel", name := "ask", desc := "(I)I" } : Jvm.MethodName) ({ cls := "LadderStreetModel", name := "ask", desc := "(I)I" } : Jvm.MethodName)) ∈ TB := tk_t8 (j := 152) rfl rfl
theorem tk_1935 : (Jvm.Cond.code ({ cls := "LadderStreetModel", name := "ask", desc := "(I)I" } : Jvm.MethodName) prog_14_method_117_code (8 : Nat) (Option.some Jvm.ClassFile.FieldType.int)) ∈ TB := tk_t8 (j := 153) rfl rfl
theorem tk_1936 : (Jvm.Cond.methodLink "LadderStreetLaw" (178 : Nat) ({ cls := "LadderStreetModel", name := "hold", desc := "(I)Z" } : Jvm.MethodName)) ∈ TB := tk_t8 (j := 154) rfl rfl
theorem tk_1937 : (Jvm.Cond.instanceMethod ({ cls := "LadderStreetModel", name := "hold", desc := "(I)Z" } : Jvm.MethodName)) ∈ TB := tk_t8 (j := 155) rfl rfl
theorem tk_1938 : (Jvm.Cond.selects "LadderStreetModel" ({ cls := "LadderStreetModel", name := "hold", desc := "(I)Z" } : Jvm.MethodName) ({ cls := "LadderStreetModel", name := "hold", desc := "(I)Z" } : Jvm.MethodName)) ∈ TB := tk_t8 (j := 156) rfl rfl
theorem tk_1939 : (Jvm.Cond.code ({ cls := "LadderStreetModel", name := "hold", desc := "(I)Z" } : Jvm.MethodName) prog_14_method_118_code (3 : Nat) (Option.some Jvm.ClassFile.FieldType.boolean)) ∈ TB := tk_t8 (j := 157) rfl rfl
theorem tk_1940 : (Jvm.Cond.methodLink "LadderStreetLaw" (182 : Nat) ({ cls := "LadderStreetModel", name := "restore", desc := "(I)Z" } : Jvm.MethodName)) ∈ TB := tk_t8 (j := 158) rfl rfl
theorem tk_1941 : (Jvm.Cond.instanceMethod ({ cls := "LadderStreetModel", name := "restore", desc := "(I)Z" } : Jvm.MethodName)) ∈ TB := tk_t8 (j := 159) rfl rfl
theorem tk_1942 : (Jvm.Cond.selects "LadderStreetModel" ({ cls := "LadderStreetModel", name := "restore", desc := "(I)Z" } : Jvm.MethodName) ({ cls := "LadderStreetModel", name := "restore", desc := "(I)Z" } : Jvm.MethodName)) ∈ TB := tk_t8 (j := 160) rfl rfl
theorem tk_1943 : (Jvm.Cond.code ({ cls := "LadderStreetModel", name := "restore", desc := "(I)Z" } : Jvm.MethodName) prog_14_method_119_code (3 : Nat) (Option.some Jvm.ClassFile.FieldType.boolean)) ∈ TB := tk_t8 (j := 161) rfl rfl
theorem tk_1944 : (Jvm.Cond.methodLink "LadderStreetLaw" (186 : Nat) ({ cls := "LadderStreetModel", name := "count", desc := "(I)I" } : Jvm.MethodName)) ∈ TB := tk_t8 (j := 162) rfl rfl
theorem tk_1945 : (Jvm.Cond.instanceMethod ({ cls := "LadderStreetModel", name := "count", desc := "(I)I" } : Jvm.MethodName)) ∈ TB := tk_t8 (j := 163) rfl rfl
theorem tk_1946 : (Jvm.Cond.selects "LadderStreetModel" ({ cls := "LadderStreetModel", name := "count", desc := "(I)I" } : Jvm.MethodName) ({ cls := "LadderStreetModel", name := "count", desc := "(I)I" } : Jvm.MethodName)) ∈ TB := tk_t8 (j := 164) rfl rfl
theorem tk_1947 : (Jvm.Cond.code ({ cls := "LadderStreetModel", name := "count", desc := "(I)I" } : Jvm.MethodName) prog_14_method_121_code (4 : Nat) (Option.some Jvm.ClassFile.FieldType.int)) ∈ TB := tk_t8 (j := 165) rfl rfl
theorem tk_1948 : (Jvm.Cond.methodLink "LadderStreetModel" (454 : Nat) ({ cls := "LadderStreetModel", name := "sumNow", desc := "(I)I" } : Jvm.MethodName)) ∈ TB := tk_t8 (j := 166) rfl rfl
theorem tk_1950 : (Jvm.Cond.instanceMethod ({ cls := "LadderStreetModel", name := "sumNow", desc := "(I)I" } : Jvm.MethodName)) ∈ TB := tk_t8 (j := 168) rfl rfl
theorem tk_1951 : (Jvm.Cond.code ({ cls := "LadderStreetModel", name := "sumNow", desc := "(I)I" } : Jvm.MethodName) prog_14_method_120_code (4 : Nat) (Option.some Jvm.ClassFile.FieldType.int)) ∈ TB := tk_t8 (j := 169) rfl rfl
theorem tk_1952 : (Jvm.Cond.fieldLink "java/lang/String" (9 : Nat) "java/lang/String" "value" "[B") ∈ TB := tk_t8 (j := 170) rfl rfl
theorem tk_1953 : (Jvm.Cond.fieldLink "java/lang/String" (15 : Nat) "java/lang/String" "coder" "B") ∈ TB := tk_t8 (j := 171) rfl rfl
