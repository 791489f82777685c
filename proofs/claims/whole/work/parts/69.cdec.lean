/-! words and decoded rows of the constructors -/
theorem tx_1_23 : (Jvm.Cond.methodLink "ParserGenerator$Grammar" (3 : Nat) ({ cls := "java/lang/Object", name := "<init>", desc := "()V" } : Jvm.MethodName)) ∈ tb_all := tb_in1 (List.mem_of_getElem? (i := 23) rfl) rfl
theorem tx_1_16 : (Jvm.Cond.instanceMethod ({ cls := "java/lang/Object", name := "<init>", desc := "()V" } : Jvm.MethodName)) ∈ tb_all := tb_in1 (List.mem_of_getElem? (i := 16) rfl) rfl
theorem tx_1_17 : (Jvm.Cond.code ({ cls := "java/lang/Object", name := "<init>", desc := "()V" } : Jvm.MethodName) object_method_1_code (1 : Nat) (Option.none : Option Jvm.ClassFile.FieldType)) ∈ tb_all := tb_in1 (List.mem_of_getElem? (i := 17) rfl) rfl
theorem tx_1_52 : (Jvm.Cond.arrayClass Jvm.ClassFile.FieldType.int) ∈ tb_all := tb_in1 (List.mem_of_getElem? (i := 52) rfl) rfl
theorem tx_1_24 : (Jvm.Cond.fieldLink "ParserGenerator$Grammar" (9 : Nat) "ParserGenerator$Grammar" "kind" "[I") ∈ tb_all := tb_in1 (List.mem_of_getElem? (i := 24) rfl) rfl
theorem tx_1_27 : (Jvm.Cond.fieldLink "ParserGenerator$Grammar" (15 : Nat) "ParserGenerator$Grammar" "left" "[I") ∈ tb_all := tb_in1 (List.mem_of_getElem? (i := 27) rfl) rfl
theorem tx_1_30 : (Jvm.Cond.fieldLink "ParserGenerator$Grammar" (18 : Nat) "ParserGenerator$Grammar" "right" "[I") ∈ tb_all := tb_in1 (List.mem_of_getElem? (i := 30) rfl) rfl
theorem tx_1_33 : (Jvm.Cond.fieldLink "ParserGenerator$Grammar" (21 : Nat) "ParserGenerator$Grammar" "rules" "[I") ∈ tb_all := tb_in1 (List.mem_of_getElem? (i := 33) rfl) rfl
theorem tx_1_35 : (Jvm.Cond.fieldLink "ParserGenerator$Grammar" (24 : Nat) "ParserGenerator$Grammar" "level" "[I") ∈ tb_all := tb_in1 (List.mem_of_getElem? (i := 35) rfl) rfl
theorem tx_1_58 : (Jvm.Cond.methodLink "ParserGenerator$Analysis" (3 : Nat) ({ cls := "java/lang/Object", name := "<init>", desc := "()V" } : Jvm.MethodName)) ∈ tb_all := tb_in1 (List.mem_of_getElem? (i := 58) rfl) rfl
theorem tx_1_97 : (Jvm.Cond.arrayClass Jvm.ClassFile.FieldType.boolean) ∈ tb_all := tb_in1 (List.mem_of_getElem? (i := 97) rfl) rfl
theorem tx_1_60 : (Jvm.Cond.fieldLink "ParserGenerator$Analysis" (9 : Nat) "ParserGenerator$Analysis" "used" "[Z") ∈ tb_all := tb_in1 (List.mem_of_getElem? (i := 60) rfl) rfl
theorem tx_1_61 : (Jvm.Cond.fieldLink "ParserGenerator$Analysis" (15 : Nat) "ParserGenerator$Analysis" "comesTo" "[I") ∈ tb_all := tb_in1 (List.mem_of_getElem? (i := 61) rfl) rfl
theorem tx_1_62 : (Jvm.Cond.fieldLink "ParserGenerator$Analysis" (19 : Nat) "ParserGenerator$Analysis" "emptyable" "[Z") ∈ tb_all := tb_in1 (List.mem_of_getElem? (i := 62) rfl) rfl
theorem tx_1_64 : (Jvm.Cond.fieldLink "ParserGenerator$Analysis" (22 : Nat) "ParserGenerator$Analysis" "first" "[I") ∈ tb_all := tb_in1 (List.mem_of_getElem? (i := 64) rfl) rfl
theorem tx_1_67 : (Jvm.Cond.fieldLink "ParserGenerator$Analysis" (25 : Nat) "ParserGenerator$Analysis" "next" "[I") ∈ tb_all := tb_in1 (List.mem_of_getElem? (i := 67) rfl) rfl
theorem tx_1_69 : (Jvm.Cond.fieldLink "ParserGenerator$Analysis" (28 : Nat) "ParserGenerator$Analysis" "rules" "[I") ∈ tb_all := tb_in1 (List.mem_of_getElem? (i := 69) rfl) rfl
theorem tx_1_59 : (Jvm.Cond.fieldLink "ParserGenerator$Analysis" (31 : Nat) "ParserGenerator$Analysis" "grammar" "LParserGenerator$Grammar;") ∈ tb_all := tb_in1 (List.mem_of_getElem? (i := 59) rfl) rfl
theorem tx_1_103 : (Jvm.Cond.methodLink "ParserGenerator$Input" (3 : Nat) ({ cls := "java/lang/Object", name := "<init>", desc := "()V" } : Jvm.MethodName)) ∈ tb_all := tb_in1 (List.mem_of_getElem? (i := 103) rfl) rfl
theorem tx_1_104 : (Jvm.Cond.fieldLink "ParserGenerator$Input" (9 : Nat) "ParserGenerator$Input" "tokens" "[I") ∈ tb_all := tb_in1 (List.mem_of_getElem? (i := 104) rfl) rfl
theorem tx_1_117 : (Jvm.Cond.methodLink "ParserGenerator$Forest" (3 : Nat) ({ cls := "java/lang/Object", name := "<init>", desc := "()V" } : Jvm.MethodName)) ∈ tb_all := tb_in1 (List.mem_of_getElem? (i := 117) rfl) rfl
theorem tx_1_118 : (Jvm.Cond.fieldLink "ParserGenerator$Forest" (9 : Nat) "ParserGenerator$Forest" "labels" "[I") ∈ tb_all := tb_in1 (List.mem_of_getElem? (i := 118) rfl) rfl
theorem tx_1_119 : (Jvm.Cond.fieldLink "ParserGenerator$Forest" (15 : Nat) "ParserGenerator$Forest" "parts" "[I") ∈ tb_all := tb_in1 (List.mem_of_getElem? (i := 119) rfl) rfl
theorem tx_1_120 : (Jvm.Cond.fieldLink "ParserGenerator$Forest" (18 : Nat) "ParserGenerator$Forest" "places" "[I") ∈ tb_all := tb_in1 (List.mem_of_getElem? (i := 120) rfl) rfl
theorem tx_1_121 : (Jvm.Cond.fieldLink "ParserGenerator$Forest" (21 : Nat) "ParserGenerator$Forest" "open" "I") ∈ tb_all := tb_in1 (List.mem_of_getElem? (i := 121) rfl) rfl
theorem tx_1_140 : (Jvm.Cond.methodLink "ParserGenerator$Parser" (3 : Nat) ({ cls := "java/lang/Object", name := "<init>", desc := "()V" } : Jvm.MethodName)) ∈ tb_all := tb_in1 (List.mem_of_getElem? (i := 140) rfl) rfl
theorem tx_1_145 : (Jvm.Cond.fieldLink "ParserGenerator$Parser" (9 : Nat) "ParserGenerator$Parser" "place" "I") ∈ tb_all := tb_in1 (List.mem_of_getElem? (i := 145) rfl) rfl
theorem tx_1_147 : (Jvm.Cond.fieldLink "ParserGenerator$Parser" (15 : Nat) "ParserGenerator$Parser" "due" "I") ∈ tb_all := tb_in1 (List.mem_of_getElem? (i := 147) rfl) rfl
theorem tx_1_141 : (Jvm.Cond.fieldLink "ParserGenerator$Parser" (18 : Nat) "ParserGenerator$Parser" "grammar" "LParserGenerator$Grammar;") ∈ tb_all := tb_in1 (List.mem_of_getElem? (i := 141) rfl) rfl
theorem tx_1_142 : (Jvm.Cond.fieldLink "ParserGenerator$Parser" (22 : Nat) "ParserGenerator$Parser" "analysis" "LParserGenerator$Analysis;") ∈ tb_all := tb_in1 (List.mem_of_getElem? (i := 142) rfl) rfl
theorem tx_1_143 : (Jvm.Cond.fieldLink "ParserGenerator$Parser" (26 : Nat) "ParserGenerator$Parser" "input" "LParserGenerator$Input;") ∈ tb_all := tb_in1 (List.mem_of_getElem? (i := 143) rfl) rfl
theorem tx_1_144 : (Jvm.Cond.fieldLink "ParserGenerator$Parser" (30 : Nat) "ParserGenerator$Parser" "forest" "LParserGenerator$Forest;") ∈ tb_all := tb_in1 (List.mem_of_getElem? (i := 144) rfl) rfl
theorem tx_2_222 : (Jvm.Cond.methodLink "ParserGeneratorModel" (1 : Nat) ({ cls := "java/lang/Object", name := "<init>", desc := "()V" } : Jvm.MethodName)) ∈ tb_all := tb_in2 (List.mem_of_getElem? (i := 222) rfl) rfl
theorem tx_2_223 : (Jvm.Cond.fieldLink "ParserGeneratorModel" (7 : Nat) "ParserGeneratorModel" "nodes" "I") ∈ tb_all := tb_in2 (List.mem_of_getElem? (i := 223) rfl) rfl
theorem tx_2_224 : (Jvm.Cond.fieldLink "ParserGeneratorModel" (13 : Nat) "ParserGeneratorModel" "size" "I") ∈ tb_all := tb_in2 (List.mem_of_getElem? (i := 224) rfl) rfl
theorem tx_2_225 : (Jvm.Cond.fieldLink "ParserGeneratorModel" (16 : Nat) "ParserGeneratorModel" "root" "I") ∈ tb_all := tb_in2 (List.mem_of_getElem? (i := 225) rfl) rfl
theorem tx_2_226 : (Jvm.Cond.fieldLink "ParserGeneratorModel" (19 : Nat) "ParserGeneratorModel" "usedNodes" "I") ∈ tb_all := tb_in2 (List.mem_of_getElem? (i := 226) rfl) rfl
theorem tx_2_227 : (Jvm.Cond.fieldLink "ParserGeneratorModel" (22 : Nat) "ParserGeneratorModel" "error" "I") ∈ tb_all := tb_in2 (List.mem_of_getElem? (i := 227) rfl) rfl
theorem tx_2_228 : (Jvm.Cond.fieldLink "ParserGeneratorModel" (25 : Nat) "ParserGeneratorModel" "place" "I") ∈ tb_all := tb_in2 (List.mem_of_getElem? (i := 228) rfl) rfl
theorem tx_2_229 : (Jvm.Cond.fieldLink "ParserGeneratorModel" (28 : Nat) "ParserGeneratorModel" "due" "I") ∈ tb_all := tb_in2 (List.mem_of_getElem? (i := 229) rfl) rfl
theorem tx_2_230 : (Jvm.Cond.fieldLink "ParserGeneratorModel" (31 : Nat) "ParserGeneratorModel" "steps" "I") ∈ tb_all := tb_in2 (List.mem_of_getElem? (i := 230) rfl) rfl
theorem tx_2_231 : (Jvm.Cond.fieldLink "ParserGeneratorModel" (34 : Nat) "ParserGeneratorModel" "calls" "I") ∈ tb_all := tb_in2 (List.mem_of_getElem? (i := 231) rfl) rfl
theorem tx_2_232 : (Jvm.Cond.fieldLink "ParserGeneratorModel" (37 : Nat) "ParserGeneratorModel" "trees" "I") ∈ tb_all := tb_in2 (List.mem_of_getElem? (i := 232) rfl) rfl
theorem tx_2_233 : (Jvm.Cond.fieldLink "ParserGeneratorModel" (40 : Nat) "ParserGeneratorModel" "inner" "I") ∈ tb_all := tb_in2 (List.mem_of_getElem? (i := 233) rfl) rfl
theorem tx_2_234 : (Jvm.Cond.fieldLink "ParserGeneratorModel" (43 : Nat) "ParserGeneratorModel" "lastSteps" "I") ∈ tb_all := tb_in2 (List.mem_of_getElem? (i := 234) rfl) rfl
theorem tx_2_235 : (Jvm.Cond.fieldLink "ParserGeneratorModel" (46 : Nat) "ParserGeneratorModel" "lastPlace" "I") ∈ tb_all := tb_in2 (List.mem_of_getElem? (i := 235) rfl) rfl
theorem tx_2_236 : (Jvm.Cond.fieldLink "ParserGeneratorModel" (49 : Nat) "ParserGeneratorModel" "lastDue" "I") ∈ tb_all := tb_in2 (List.mem_of_getElem? (i := 236) rfl) rfl
theorem tx_2_237 : (Jvm.Cond.fieldLink "ParserGeneratorModel" (52 : Nat) "ParserGeneratorModel" "lastTrees" "I") ∈ tb_all := tb_in2 (List.mem_of_getElem? (i := 237) rfl) rfl
theorem tx_2_238 : (Jvm.Cond.fieldLink "ParserGeneratorModel" (55 : Nat) "ParserGeneratorModel" "kind" "[I") ∈ tb_all := tb_in2 (List.mem_of_getElem? (i := 238) rfl) rfl
theorem tx_2_239 : (Jvm.Cond.fieldLink "ParserGeneratorModel" (59 : Nat) "ParserGeneratorModel" "opA" "[I") ∈ tb_all := tb_in2 (List.mem_of_getElem? (i := 239) rfl) rfl
theorem tx_3_0 : (Jvm.Cond.fieldLink "ParserGeneratorModel" (62 : Nat) "ParserGeneratorModel" "opB" "[I") ∈ tb_all := tb_in3 (List.mem_of_getElem? (i := 0) rfl) rfl
theorem tx_3_1 : (Jvm.Cond.fieldLink "ParserGeneratorModel" (65 : Nat) "ParserGeneratorModel" "level" "[I") ∈ tb_all := tb_in3 (List.mem_of_getElem? (i := 1) rfl) rfl
theorem tx_3_2 : (Jvm.Cond.fieldLink "ParserGeneratorModel" (68 : Nat) "ParserGeneratorModel" "ruleOf" "[I") ∈ tb_all := tb_in3 (List.mem_of_getElem? (i := 2) rfl) rfl
theorem tx_3_3 : (Jvm.Cond.fieldLink "ParserGeneratorModel" (71 : Nat) "ParserGeneratorModel" "kept" "[I") ∈ tb_all := tb_in3 (List.mem_of_getElem? (i := 3) rfl) rfl
theorem tx_3_4 : (Jvm.Cond.fieldLink "ParserGeneratorModel" (74 : Nat) "ParserGeneratorModel" "used" "[Z") ∈ tb_all := tb_in3 (List.mem_of_getElem? (i := 4) rfl) rfl
theorem tx_3_5 : (Jvm.Cond.fieldLink "ParserGeneratorModel" (78 : Nat) "ParserGeneratorModel" "empty" "[Z") ∈ tb_all := tb_in3 (List.mem_of_getElem? (i := 5) rfl) rfl
theorem tx_3_6 : (Jvm.Cond.fieldLink "ParserGeneratorModel" (81 : Nat) "ParserGeneratorModel" "first" "[I") ∈ tb_all := tb_in3 (List.mem_of_getElem? (i := 6) rfl) rfl
theorem tx_3_7 : (Jvm.Cond.fieldLink "ParserGeneratorModel" (84 : Nat) "ParserGeneratorModel" "next" "[I") ∈ tb_all := tb_in3 (List.mem_of_getElem? (i := 7) rfl) rfl
theorem tx_3_8 : (Jvm.Cond.fieldLink "ParserGeneratorModel" (87 : Nat) "ParserGeneratorModel" "comes" "[I") ∈ tb_all := tb_in3 (List.mem_of_getElem? (i := 8) rfl) rfl
theorem tx_3_9 : (Jvm.Cond.fieldLink "ParserGeneratorModel" (90 : Nat) "ParserGeneratorModel" "input" "[I") ∈ tb_all := tb_in3 (List.mem_of_getElem? (i := 9) rfl) rfl
theorem tx_3_10 : (Jvm.Cond.fieldLink "ParserGeneratorModel" (93 : Nat) "ParserGeneratorModel" "under" "[I") ∈ tb_all := tb_in3 (List.mem_of_getElem? (i := 10) rfl) rfl
theorem tx_3_11 : (Jvm.Cond.fieldLink "ParserGeneratorModel" (96 : Nat) "ParserGeneratorModel" "phase" "[I") ∈ tb_all := tb_in3 (List.mem_of_getElem? (i := 11) rfl) rfl
theorem tx_3_12 : (Jvm.Cond.fieldLink "ParserGeneratorModel" (99 : Nat) "ParserGeneratorModel" "tree" "[I") ∈ tb_all := tb_in3 (List.mem_of_getElem? (i := 12) rfl) rfl
theorem tx_3_13 : (Jvm.Cond.fieldLink "ParserGeneratorModel" (102 : Nat) "ParserGeneratorModel" "label" "[I") ∈ tb_all := tb_in3 (List.mem_of_getElem? (i := 13) rfl) rfl
theorem tx_3_14 : (Jvm.Cond.fieldLink "ParserGeneratorModel" (105 : Nat) "ParserGeneratorModel" "parts" "[I") ∈ tb_all := tb_in3 (List.mem_of_getElem? (i := 14) rfl) rfl
theorem tx_3_15 : (Jvm.Cond.fieldLink "ParserGeneratorModel" (108 : Nat) "ParserGeneratorModel" "begins" "[I") ∈ tb_all := tb_in3 (List.mem_of_getElem? (i := 15) rfl) rfl
theorem tx_3_16 : (Jvm.Cond.fieldLink "ParserGeneratorModel" (111 : Nat) "ParserGeneratorModel" "around" "[I") ∈ tb_all := tb_in3 (List.mem_of_getElem? (i := 16) rfl) rfl
theorem dc_Gr_0 : decode prog_4_method_1_code 0 = .ok (.aload_n 0, 1) := by decide +kernel
theorem dc_Gr_1 : decode prog_4_method_1_code 1 = .ok (.invokespecial 3, 3) := by decide +kernel
theorem dc_Gr_4 : decode prog_4_method_1_code 4 = .ok (.aload_n 0, 1) := by decide +kernel
theorem dc_Gr_5 : decode prog_4_method_1_code 5 = .ok (.bipush 60, 2) := by decide +kernel
theorem dc_Gr_7 : decode prog_4_method_1_code 7 = .ok (.newarray .int, 2) := by decide +kernel
theorem dc_Gr_9 : decode prog_4_method_1_code 9 = .ok (.putfield 9, 3) := by decide +kernel
theorem dc_Gr_12 : decode prog_4_method_1_code 12 = .ok (.aload_n 0, 1) := by decide +kernel
theorem dc_Gr_13 : decode prog_4_method_1_code 13 = .ok (.bipush 60, 2) := by decide +kernel
theorem dc_Gr_15 : decode prog_4_method_1_code 15 = .ok (.newarray .int, 2) := by decide +kernel
theorem dc_Gr_17 : decode prog_4_method_1_code 17 = .ok (.putfield 15, 3) := by decide +kernel
theorem dc_Gr_20 : decode prog_4_method_1_code 20 = .ok (.aload_n 0, 1) := by decide +kernel
theorem dc_Gr_21 : decode prog_4_method_1_code 21 = .ok (.bipush 60, 2) := by decide +kernel
theorem dc_Gr_23 : decode prog_4_method_1_code 23 = .ok (.newarray .int, 2) := by decide +kernel
theorem dc_Gr_25 : decode prog_4_method_1_code 25 = .ok (.putfield 18, 3) := by decide +kernel
theorem dc_Gr_28 : decode prog_4_method_1_code 28 = .ok (.aload_n 0, 1) := by decide +kernel
theorem dc_Gr_29 : decode prog_4_method_1_code 29 = .ok (.bipush 8, 2) := by decide +kernel
theorem dc_Gr_31 : decode prog_4_method_1_code 31 = .ok (.newarray .int, 2) := by decide +kernel
theorem dc_Gr_33 : decode prog_4_method_1_code 33 = .ok (.putfield 21, 3) := by decide +kernel
theorem dc_Gr_36 : decode prog_4_method_1_code 36 = .ok (.aload_n 0, 1) := by decide +kernel
theorem dc_Gr_37 : decode prog_4_method_1_code 37 = .ok (.bipush 60, 2) := by decide +kernel
theorem dc_Gr_39 : decode prog_4_method_1_code 39 = .ok (.newarray .int, 2) := by decide +kernel
theorem dc_Gr_41 : decode prog_4_method_1_code 41 = .ok (.putfield 24, 3) := by decide +kernel
theorem dc_Gr_44 : decode prog_4_method_1_code 44 = .ok (.iconst 0, 1) := by decide +kernel
theorem dc_Gr_45 : decode prog_4_method_1_code 45 = .ok (.istore_n 1, 1) := by decide +kernel
theorem dc_Gr_46 : decode prog_4_method_1_code 46 = .ok (.iload_n 1, 1) := by decide +kernel
theorem dc_Gr_47 : decode prog_4_method_1_code 47 = .ok (.bipush 8, 2) := by decide +kernel
theorem dc_Gr_49 : decode prog_4_method_1_code 49 = .ok (.if_icmp .ge 16, 3) := by decide +kernel
theorem dc_Gr_52 : decode prog_4_method_1_code 52 = .ok (.aload_n 0, 1) := by decide +kernel
theorem dc_Gr_53 : decode prog_4_method_1_code 53 = .ok (.getfield 21, 3) := by decide +kernel
theorem dc_Gr_56 : decode prog_4_method_1_code 56 = .ok (.iload_n 1, 1) := by decide +kernel
theorem dc_Gr_57 : decode prog_4_method_1_code 57 = .ok (.iconst (-1), 1) := by decide +kernel
theorem dc_Gr_58 : decode prog_4_method_1_code 58 = .ok (.iastore, 1) := by decide +kernel
theorem dc_Gr_59 : decode prog_4_method_1_code 59 = .ok (.iinc 1 1, 3) := by decide +kernel
theorem dc_Gr_62 : decode prog_4_method_1_code 62 = .ok (.goto (-16), 3) := by decide +kernel
theorem dc_Gr_65 : decode prog_4_method_1_code 65 = .ok (.return_, 1) := by decide +kernel
theorem dc_An_0 : decode prog_2_method_1_code 0 = .ok (.aload_n 0, 1) := by decide +kernel
theorem dc_An_1 : decode prog_2_method_1_code 1 = .ok (.invokespecial 3, 3) := by decide +kernel
theorem dc_An_4 : decode prog_2_method_1_code 4 = .ok (.aload_n 0, 1) := by decide +kernel
theorem dc_An_5 : decode prog_2_method_1_code 5 = .ok (.bipush 60, 2) := by decide +kernel
theorem dc_An_7 : decode prog_2_method_1_code 7 = .ok (.newarray .boolean, 2) := by decide +kernel
theorem dc_An_9 : decode prog_2_method_1_code 9 = .ok (.putfield 9, 3) := by decide +kernel
theorem dc_An_12 : decode prog_2_method_1_code 12 = .ok (.aload_n 0, 1) := by decide +kernel
theorem dc_An_13 : decode prog_2_method_1_code 13 = .ok (.bipush 60, 2) := by decide +kernel
theorem dc_An_15 : decode prog_2_method_1_code 15 = .ok (.newarray .int, 2) := by decide +kernel
theorem dc_An_17 : decode prog_2_method_1_code 17 = .ok (.putfield 15, 3) := by decide +kernel
theorem dc_An_20 : decode prog_2_method_1_code 20 = .ok (.aload_n 0, 1) := by decide +kernel
theorem dc_An_21 : decode prog_2_method_1_code 21 = .ok (.bipush 60, 2) := by decide +kernel
theorem dc_An_23 : decode prog_2_method_1_code 23 = .ok (.newarray .boolean, 2) := by decide +kernel
theorem dc_An_25 : decode prog_2_method_1_code 25 = .ok (.putfield 19, 3) := by decide +kernel
theorem dc_An_28 : decode prog_2_method_1_code 28 = .ok (.aload_n 0, 1) := by decide +kernel
theorem dc_An_29 : decode prog_2_method_1_code 29 = .ok (.bipush 60, 2) := by decide +kernel
theorem dc_An_31 : decode prog_2_method_1_code 31 = .ok (.newarray .int, 2) := by decide +kernel
theorem dc_An_33 : decode prog_2_method_1_code 33 = .ok (.putfield 22, 3) := by decide +kernel
theorem dc_An_36 : decode prog_2_method_1_code 36 = .ok (.aload_n 0, 1) := by decide +kernel
theorem dc_An_37 : decode prog_2_method_1_code 37 = .ok (.bipush 60, 2) := by decide +kernel
theorem dc_An_39 : decode prog_2_method_1_code 39 = .ok (.newarray .int, 2) := by decide +kernel
theorem dc_An_41 : decode prog_2_method_1_code 41 = .ok (.putfield 25, 3) := by decide +kernel
theorem dc_An_44 : decode prog_2_method_1_code 44 = .ok (.aload_n 0, 1) := by decide +kernel
theorem dc_An_45 : decode prog_2_method_1_code 45 = .ok (.bipush 8, 2) := by decide +kernel
theorem dc_An_47 : decode prog_2_method_1_code 47 = .ok (.newarray .int, 2) := by decide +kernel
theorem dc_An_49 : decode prog_2_method_1_code 49 = .ok (.putfield 28, 3) := by decide +kernel
theorem dc_An_52 : decode prog_2_method_1_code 52 = .ok (.aload_n 0, 1) := by decide +kernel
theorem dc_An_53 : decode prog_2_method_1_code 53 = .ok (.aload_n 1, 1) := by decide +kernel
theorem dc_An_54 : decode prog_2_method_1_code 54 = .ok (.putfield 31, 3) := by decide +kernel
theorem dc_An_57 : decode prog_2_method_1_code 57 = .ok (.return_, 1) := by decide +kernel
theorem dc_In_0 : decode prog_5_method_1_code 0 = .ok (.aload_n 0, 1) := by decide +kernel
theorem dc_In_1 : decode prog_5_method_1_code 1 = .ok (.invokespecial 3, 3) := by decide +kernel
theorem dc_In_4 : decode prog_5_method_1_code 4 = .ok (.aload_n 0, 1) := by decide +kernel
theorem dc_In_5 : decode prog_5_method_1_code 5 = .ok (.bipush 40, 2) := by decide +kernel
theorem dc_In_7 : decode prog_5_method_1_code 7 = .ok (.newarray .int, 2) := by decide +kernel
theorem dc_In_9 : decode prog_5_method_1_code 9 = .ok (.putfield 9, 3) := by decide +kernel
theorem dc_In_12 : decode prog_5_method_1_code 12 = .ok (.return_, 1) := by decide +kernel
theorem dc_Fo_0 : decode prog_3_method_1_code 0 = .ok (.aload_n 0, 1) := by decide +kernel
theorem dc_Fo_1 : decode prog_3_method_1_code 1 = .ok (.invokespecial 3, 3) := by decide +kernel
theorem dc_Fo_4 : decode prog_3_method_1_code 4 = .ok (.aload_n 0, 1) := by decide +kernel
theorem dc_Fo_5 : decode prog_3_method_1_code 5 = .ok (.bipush 90, 2) := by decide +kernel
theorem dc_Fo_7 : decode prog_3_method_1_code 7 = .ok (.newarray .int, 2) := by decide +kernel
theorem dc_Fo_9 : decode prog_3_method_1_code 9 = .ok (.putfield 9, 3) := by decide +kernel
theorem dc_Fo_12 : decode prog_3_method_1_code 12 = .ok (.aload_n 0, 1) := by decide +kernel
theorem dc_Fo_13 : decode prog_3_method_1_code 13 = .ok (.bipush 90, 2) := by decide +kernel
theorem dc_Fo_15 : decode prog_3_method_1_code 15 = .ok (.newarray .int, 2) := by decide +kernel
theorem dc_Fo_17 : decode prog_3_method_1_code 17 = .ok (.putfield 15, 3) := by decide +kernel
theorem dc_Fo_20 : decode prog_3_method_1_code 20 = .ok (.aload_n 0, 1) := by decide +kernel
theorem dc_Fo_21 : decode prog_3_method_1_code 21 = .ok (.bipush 90, 2) := by decide +kernel
theorem dc_Fo_23 : decode prog_3_method_1_code 23 = .ok (.newarray .int, 2) := by decide +kernel
theorem dc_Fo_25 : decode prog_3_method_1_code 25 = .ok (.putfield 18, 3) := by decide +kernel
theorem dc_Fo_28 : decode prog_3_method_1_code 28 = .ok (.aload_n 0, 1) := by decide +kernel
theorem dc_Fo_29 : decode prog_3_method_1_code 29 = .ok (.iconst (-1), 1) := by decide +kernel
theorem dc_Fo_30 : decode prog_3_method_1_code 30 = .ok (.putfield 21, 3) := by decide +kernel
theorem dc_Fo_33 : decode prog_3_method_1_code 33 = .ok (.return_, 1) := by decide +kernel
theorem dc_Pa_0 : decode prog_6_method_1_code 0 = .ok (.aload_n 0, 1) := by decide +kernel
theorem dc_Pa_1 : decode prog_6_method_1_code 1 = .ok (.invokespecial 3, 3) := by decide +kernel
theorem dc_Pa_4 : decode prog_6_method_1_code 4 = .ok (.aload_n 0, 1) := by decide +kernel
theorem dc_Pa_5 : decode prog_6_method_1_code 5 = .ok (.bipush (-10), 2) := by decide +kernel
theorem dc_Pa_7 : decode prog_6_method_1_code 7 = .ok (.putfield 9, 3) := by decide +kernel
theorem dc_Pa_10 : decode prog_6_method_1_code 10 = .ok (.aload_n 0, 1) := by decide +kernel
theorem dc_Pa_11 : decode prog_6_method_1_code 11 = .ok (.bipush (-10), 2) := by decide +kernel
theorem dc_Pa_13 : decode prog_6_method_1_code 13 = .ok (.putfield 15, 3) := by decide +kernel
theorem dc_Pa_16 : decode prog_6_method_1_code 16 = .ok (.aload_n 0, 1) := by decide +kernel
theorem dc_Pa_17 : decode prog_6_method_1_code 17 = .ok (.aload_n 1, 1) := by decide +kernel
theorem dc_Pa_18 : decode prog_6_method_1_code 18 = .ok (.putfield 18, 3) := by decide +kernel
theorem dc_Pa_21 : decode prog_6_method_1_code 21 = .ok (.aload_n 0, 1) := by decide +kernel
theorem dc_Pa_22 : decode prog_6_method_1_code 22 = .ok (.aload_n 2, 1) := by decide +kernel
theorem dc_Pa_23 : decode prog_6_method_1_code 23 = .ok (.putfield 22, 3) := by decide +kernel
theorem dc_Pa_26 : decode prog_6_method_1_code 26 = .ok (.aload_n 0, 1) := by decide +kernel
theorem dc_Pa_27 : decode prog_6_method_1_code 27 = .ok (.aload_n 3, 1) := by decide +kernel
theorem dc_Pa_28 : decode prog_6_method_1_code 28 = .ok (.putfield 26, 3) := by decide +kernel
theorem dc_Pa_31 : decode prog_6_method_1_code 31 = .ok (.aload_n 0, 1) := by decide +kernel
theorem dc_Pa_32 : decode prog_6_method_1_code 32 = .ok (.aload 4, 2) := by decide +kernel
theorem dc_Pa_34 : decode prog_6_method_1_code 34 = .ok (.putfield 30, 3) := by decide +kernel
theorem dc_Pa_37 : decode prog_6_method_1_code 37 = .ok (.return_, 1) := by decide +kernel
theorem dc_Mo_0 : decode prog_8_method_1_code 0 = .ok (.aload_n 0, 1) := by decide +kernel
theorem dc_Mo_1 : decode prog_8_method_1_code 1 = .ok (.invokespecial 1, 3) := by decide +kernel
theorem dc_Mo_4 : decode prog_8_method_1_code 4 = .ok (.aload_n 0, 1) := by decide +kernel
theorem dc_Mo_5 : decode prog_8_method_1_code 5 = .ok (.iconst 0, 1) := by decide +kernel
theorem dc_Mo_6 : decode prog_8_method_1_code 6 = .ok (.putfield 7, 3) := by decide +kernel
theorem dc_Mo_9 : decode prog_8_method_1_code 9 = .ok (.aload_n 0, 1) := by decide +kernel
theorem dc_Mo_10 : decode prog_8_method_1_code 10 = .ok (.iconst 0, 1) := by decide +kernel
theorem dc_Mo_11 : decode prog_8_method_1_code 11 = .ok (.putfield 13, 3) := by decide +kernel
theorem dc_Mo_14 : decode prog_8_method_1_code 14 = .ok (.aload_n 0, 1) := by decide +kernel
theorem dc_Mo_15 : decode prog_8_method_1_code 15 = .ok (.iconst (-1), 1) := by decide +kernel
theorem dc_Mo_16 : decode prog_8_method_1_code 16 = .ok (.putfield 16, 3) := by decide +kernel
theorem dc_Mo_19 : decode prog_8_method_1_code 19 = .ok (.aload_n 0, 1) := by decide +kernel
theorem dc_Mo_20 : decode prog_8_method_1_code 20 = .ok (.iconst 0, 1) := by decide +kernel
theorem dc_Mo_21 : decode prog_8_method_1_code 21 = .ok (.putfield 19, 3) := by decide +kernel
theorem dc_Mo_24 : decode prog_8_method_1_code 24 = .ok (.aload_n 0, 1) := by decide +kernel
theorem dc_Mo_25 : decode prog_8_method_1_code 25 = .ok (.iconst 1, 1) := by decide +kernel
theorem dc_Mo_26 : decode prog_8_method_1_code 26 = .ok (.putfield 22, 3) := by decide +kernel
theorem dc_Mo_29 : decode prog_8_method_1_code 29 = .ok (.aload_n 0, 1) := by decide +kernel
theorem dc_Mo_30 : decode prog_8_method_1_code 30 = .ok (.iconst 0, 1) := by decide +kernel
theorem dc_Mo_31 : decode prog_8_method_1_code 31 = .ok (.putfield 25, 3) := by decide +kernel
theorem dc_Mo_34 : decode prog_8_method_1_code 34 = .ok (.aload_n 0, 1) := by decide +kernel
theorem dc_Mo_35 : decode prog_8_method_1_code 35 = .ok (.bipush (-10), 2) := by decide +kernel
theorem dc_Mo_37 : decode prog_8_method_1_code 37 = .ok (.putfield 28, 3) := by decide +kernel
theorem dc_Mo_40 : decode prog_8_method_1_code 40 = .ok (.aload_n 0, 1) := by decide +kernel
theorem dc_Mo_41 : decode prog_8_method_1_code 41 = .ok (.iconst 0, 1) := by decide +kernel
theorem dc_Mo_42 : decode prog_8_method_1_code 42 = .ok (.putfield 31, 3) := by decide +kernel
theorem dc_Mo_45 : decode prog_8_method_1_code 45 = .ok (.aload_n 0, 1) := by decide +kernel
theorem dc_Mo_46 : decode prog_8_method_1_code 46 = .ok (.iconst 0, 1) := by decide +kernel
theorem dc_Mo_47 : decode prog_8_method_1_code 47 = .ok (.putfield 34, 3) := by decide +kernel
theorem dc_Mo_50 : decode prog_8_method_1_code 50 = .ok (.aload_n 0, 1) := by decide +kernel
theorem dc_Mo_51 : decode prog_8_method_1_code 51 = .ok (.iconst 0, 1) := by decide +kernel
theorem dc_Mo_52 : decode prog_8_method_1_code 52 = .ok (.putfield 37, 3) := by decide +kernel
theorem dc_Mo_55 : decode prog_8_method_1_code 55 = .ok (.aload_n 0, 1) := by decide +kernel
theorem dc_Mo_56 : decode prog_8_method_1_code 56 = .ok (.iconst (-1), 1) := by decide +kernel
theorem dc_Mo_57 : decode prog_8_method_1_code 57 = .ok (.putfield 40, 3) := by decide +kernel
theorem dc_Mo_60 : decode prog_8_method_1_code 60 = .ok (.aload_n 0, 1) := by decide +kernel
theorem dc_Mo_61 : decode prog_8_method_1_code 61 = .ok (.iconst 0, 1) := by decide +kernel
theorem dc_Mo_62 : decode prog_8_method_1_code 62 = .ok (.putfield 43, 3) := by decide +kernel
theorem dc_Mo_65 : decode prog_8_method_1_code 65 = .ok (.aload_n 0, 1) := by decide +kernel
theorem dc_Mo_66 : decode prog_8_method_1_code 66 = .ok (.bipush (-10), 2) := by decide +kernel
theorem dc_Mo_68 : decode prog_8_method_1_code 68 = .ok (.putfield 46, 3) := by decide +kernel
theorem dc_Mo_71 : decode prog_8_method_1_code 71 = .ok (.aload_n 0, 1) := by decide +kernel
theorem dc_Mo_72 : decode prog_8_method_1_code 72 = .ok (.bipush (-10), 2) := by decide +kernel
theorem dc_Mo_74 : decode prog_8_method_1_code 74 = .ok (.putfield 49, 3) := by decide +kernel
theorem dc_Mo_77 : decode prog_8_method_1_code 77 = .ok (.aload_n 0, 1) := by decide +kernel
theorem dc_Mo_78 : decode prog_8_method_1_code 78 = .ok (.iconst 0, 1) := by decide +kernel
theorem dc_Mo_79 : decode prog_8_method_1_code 79 = .ok (.putfield 52, 3) := by decide +kernel
theorem dc_Mo_82 : decode prog_8_method_1_code 82 = .ok (.aload_n 0, 1) := by decide +kernel
theorem dc_Mo_83 : decode prog_8_method_1_code 83 = .ok (.bipush 60, 2) := by decide +kernel
theorem dc_Mo_85 : decode prog_8_method_1_code 85 = .ok (.newarray .int, 2) := by decide +kernel
theorem dc_Mo_87 : decode prog_8_method_1_code 87 = .ok (.putfield 55, 3) := by decide +kernel
theorem dc_Mo_90 : decode prog_8_method_1_code 90 = .ok (.aload_n 0, 1) := by decide +kernel
theorem dc_Mo_91 : decode prog_8_method_1_code 91 = .ok (.bipush 60, 2) := by decide +kernel
theorem dc_Mo_93 : decode prog_8_method_1_code 93 = .ok (.newarray .int, 2) := by decide +kernel
theorem dc_Mo_95 : decode prog_8_method_1_code 95 = .ok (.putfield 59, 3) := by decide +kernel
theorem dc_Mo_98 : decode prog_8_method_1_code 98 = .ok (.aload_n 0, 1) := by decide +kernel
theorem dc_Mo_99 : decode prog_8_method_1_code 99 = .ok (.bipush 60, 2) := by decide +kernel
theorem dc_Mo_101 : decode prog_8_method_1_code 101 = .ok (.newarray .int, 2) := by decide +kernel
theorem dc_Mo_103 : decode prog_8_method_1_code 103 = .ok (.putfield 62, 3) := by decide +kernel
theorem dc_Mo_106 : decode prog_8_method_1_code 106 = .ok (.aload_n 0, 1) := by decide +kernel
theorem dc_Mo_107 : decode prog_8_method_1_code 107 = .ok (.bipush 60, 2) := by decide +kernel
theorem dc_Mo_109 : decode prog_8_method_1_code 109 = .ok (.newarray .int, 2) := by decide +kernel
theorem dc_Mo_111 : decode prog_8_method_1_code 111 = .ok (.putfield 65, 3) := by decide +kernel
theorem dc_Mo_114 : decode prog_8_method_1_code 114 = .ok (.aload_n 0, 1) := by decide +kernel
theorem dc_Mo_115 : decode prog_8_method_1_code 115 = .ok (.bipush 8, 2) := by decide +kernel
theorem dc_Mo_117 : decode prog_8_method_1_code 117 = .ok (.newarray .int, 2) := by decide +kernel
theorem dc_Mo_119 : decode prog_8_method_1_code 119 = .ok (.putfield 68, 3) := by decide +kernel
theorem dc_Mo_122 : decode prog_8_method_1_code 122 = .ok (.aload_n 0, 1) := by decide +kernel
theorem dc_Mo_123 : decode prog_8_method_1_code 123 = .ok (.bipush 8, 2) := by decide +kernel
theorem dc_Mo_125 : decode prog_8_method_1_code 125 = .ok (.newarray .int, 2) := by decide +kernel
theorem dc_Mo_127 : decode prog_8_method_1_code 127 = .ok (.putfield 71, 3) := by decide +kernel
theorem dc_Mo_130 : decode prog_8_method_1_code 130 = .ok (.aload_n 0, 1) := by decide +kernel
theorem dc_Mo_131 : decode prog_8_method_1_code 131 = .ok (.bipush 60, 2) := by decide +kernel
theorem dc_Mo_133 : decode prog_8_method_1_code 133 = .ok (.newarray .boolean, 2) := by decide +kernel
theorem dc_Mo_135 : decode prog_8_method_1_code 135 = .ok (.putfield 74, 3) := by decide +kernel
theorem dc_Mo_138 : decode prog_8_method_1_code 138 = .ok (.aload_n 0, 1) := by decide +kernel
theorem dc_Mo_139 : decode prog_8_method_1_code 139 = .ok (.bipush 60, 2) := by decide +kernel
theorem dc_Mo_141 : decode prog_8_method_1_code 141 = .ok (.newarray .boolean, 2) := by decide +kernel
theorem dc_Mo_143 : decode prog_8_method_1_code 143 = .ok (.putfield 78, 3) := by decide +kernel
theorem dc_Mo_146 : decode prog_8_method_1_code 146 = .ok (.aload_n 0, 1) := by decide +kernel
theorem dc_Mo_147 : decode prog_8_method_1_code 147 = .ok (.bipush 60, 2) := by decide +kernel
theorem dc_Mo_149 : decode prog_8_method_1_code 149 = .ok (.newarray .int, 2) := by decide +kernel
theorem dc_Mo_151 : decode prog_8_method_1_code 151 = .ok (.putfield 81, 3) := by decide +kernel
theorem dc_Mo_154 : decode prog_8_method_1_code 154 = .ok (.aload_n 0, 1) := by decide +kernel
theorem dc_Mo_155 : decode prog_8_method_1_code 155 = .ok (.bipush 60, 2) := by decide +kernel
theorem dc_Mo_157 : decode prog_8_method_1_code 157 = .ok (.newarray .int, 2) := by decide +kernel
theorem dc_Mo_159 : decode prog_8_method_1_code 159 = .ok (.putfield 84, 3) := by decide +kernel
theorem dc_Mo_162 : decode prog_8_method_1_code 162 = .ok (.aload_n 0, 1) := by decide +kernel
theorem dc_Mo_163 : decode prog_8_method_1_code 163 = .ok (.bipush 60, 2) := by decide +kernel
theorem dc_Mo_165 : decode prog_8_method_1_code 165 = .ok (.newarray .int, 2) := by decide +kernel
theorem dc_Mo_167 : decode prog_8_method_1_code 167 = .ok (.putfield 87, 3) := by decide +kernel
theorem dc_Mo_170 : decode prog_8_method_1_code 170 = .ok (.aload_n 0, 1) := by decide +kernel
theorem dc_Mo_171 : decode prog_8_method_1_code 171 = .ok (.bipush 40, 2) := by decide +kernel
theorem dc_Mo_173 : decode prog_8_method_1_code 173 = .ok (.newarray .int, 2) := by decide +kernel
theorem dc_Mo_175 : decode prog_8_method_1_code 175 = .ok (.putfield 90, 3) := by decide +kernel
theorem dc_Mo_178 : decode prog_8_method_1_code 178 = .ok (.aload_n 0, 1) := by decide +kernel
theorem dc_Mo_179 : decode prog_8_method_1_code 179 = .ok (.bipush 120, 2) := by decide +kernel
theorem dc_Mo_181 : decode prog_8_method_1_code 181 = .ok (.newarray .int, 2) := by decide +kernel
theorem dc_Mo_183 : decode prog_8_method_1_code 183 = .ok (.putfield 93, 3) := by decide +kernel
theorem dc_Mo_186 : decode prog_8_method_1_code 186 = .ok (.aload_n 0, 1) := by decide +kernel
theorem dc_Mo_187 : decode prog_8_method_1_code 187 = .ok (.bipush 120, 2) := by decide +kernel
theorem dc_Mo_189 : decode prog_8_method_1_code 189 = .ok (.newarray .int, 2) := by decide +kernel
theorem dc_Mo_191 : decode prog_8_method_1_code 191 = .ok (.putfield 96, 3) := by decide +kernel
theorem dc_Mo_194 : decode prog_8_method_1_code 194 = .ok (.aload_n 0, 1) := by decide +kernel
theorem dc_Mo_195 : decode prog_8_method_1_code 195 = .ok (.bipush 120, 2) := by decide +kernel
theorem dc_Mo_197 : decode prog_8_method_1_code 197 = .ok (.newarray .int, 2) := by decide +kernel
theorem dc_Mo_199 : decode prog_8_method_1_code 199 = .ok (.putfield 99, 3) := by decide +kernel
theorem dc_Mo_202 : decode prog_8_method_1_code 202 = .ok (.aload_n 0, 1) := by decide +kernel
theorem dc_Mo_203 : decode prog_8_method_1_code 203 = .ok (.bipush 91, 2) := by decide +kernel
theorem dc_Mo_205 : decode prog_8_method_1_code 205 = .ok (.newarray .int, 2) := by decide +kernel
theorem dc_Mo_207 : decode prog_8_method_1_code 207 = .ok (.putfield 102, 3) := by decide +kernel
theorem dc_Mo_210 : decode prog_8_method_1_code 210 = .ok (.aload_n 0, 1) := by decide +kernel
theorem dc_Mo_211 : decode prog_8_method_1_code 211 = .ok (.bipush 91, 2) := by decide +kernel
theorem dc_Mo_213 : decode prog_8_method_1_code 213 = .ok (.newarray .int, 2) := by decide +kernel
theorem dc_Mo_215 : decode prog_8_method_1_code 215 = .ok (.putfield 105, 3) := by decide +kernel
theorem dc_Mo_218 : decode prog_8_method_1_code 218 = .ok (.aload_n 0, 1) := by decide +kernel
theorem dc_Mo_219 : decode prog_8_method_1_code 219 = .ok (.bipush 91, 2) := by decide +kernel
theorem dc_Mo_221 : decode prog_8_method_1_code 221 = .ok (.newarray .int, 2) := by decide +kernel
theorem dc_Mo_223 : decode prog_8_method_1_code 223 = .ok (.putfield 108, 3) := by decide +kernel
theorem dc_Mo_226 : decode prog_8_method_1_code 226 = .ok (.aload_n 0, 1) := by decide +kernel
theorem dc_Mo_227 : decode prog_8_method_1_code 227 = .ok (.bipush 91, 2) := by decide +kernel
theorem dc_Mo_229 : decode prog_8_method_1_code 229 = .ok (.newarray .int, 2) := by decide +kernel
theorem dc_Mo_231 : decode prog_8_method_1_code 231 = .ok (.putfield 111, 3) := by decide +kernel
theorem dc_Mo_234 : decode prog_8_method_1_code 234 = .ok (.iconst 0, 1) := by decide +kernel
theorem dc_Mo_235 : decode prog_8_method_1_code 235 = .ok (.istore_n 1, 1) := by decide +kernel
theorem dc_Mo_236 : decode prog_8_method_1_code 236 = .ok (.iload_n 1, 1) := by decide +kernel
theorem dc_Mo_237 : decode prog_8_method_1_code 237 = .ok (.bipush 8, 2) := by decide +kernel
theorem dc_Mo_239 : decode prog_8_method_1_code 239 = .ok (.if_icmp .ge 16, 3) := by decide +kernel
theorem dc_Mo_242 : decode prog_8_method_1_code 242 = .ok (.aload_n 0, 1) := by decide +kernel
theorem dc_Mo_243 : decode prog_8_method_1_code 243 = .ok (.getfield 68, 3) := by decide +kernel
theorem dc_Mo_246 : decode prog_8_method_1_code 246 = .ok (.iload_n 1, 1) := by decide +kernel
theorem dc_Mo_247 : decode prog_8_method_1_code 247 = .ok (.iconst (-1), 1) := by decide +kernel
theorem dc_Mo_248 : decode prog_8_method_1_code 248 = .ok (.iastore, 1) := by decide +kernel
theorem dc_Mo_249 : decode prog_8_method_1_code 249 = .ok (.iinc 1 1, 3) := by decide +kernel
theorem dc_Mo_252 : decode prog_8_method_1_code 252 = .ok (.goto (-16), 3) := by decide +kernel
theorem dc_Mo_255 : decode prog_8_method_1_code 255 = .ok (.return_, 1) := by decide +kernel
