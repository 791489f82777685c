/-! THE CLAIM OUT OF ONE WALK OF THE LAW'S BODY. Your part is whole_start (and what it stands on); all else here is the same for every law, but numbers. -/
def R_law : String := "ParserGeneratorLaw"
def lw_P (b : Addr) (xs : List Int32) (args : Array Value) (s : State) : Prop := args = #[.ref b] ∧ s.IntsAt b xs ∧ xs.length ≤ 2048 ∧ (Jvm.Cond.and given_1 narrow_1).before args s = true
def lw_Q (_ : Array Value) (s : State) (o : Outcome) (t : State) : Prop := o = .returned (some (.int 1)) ∧ Framed s o t [] 600000 7302250
def lw_Z (below : List Frame) (a : Array Value) (s : State) : State → Prop := fun t => ∃ o, t.status = .running ∧ Ended t below o ∧ lw_Q a s o t
/-- the law's own end, with 1 on the stack, nothing written that was there before, its room as the claim has it -/
theorem lw_ret {p : Program} {l : Launch} {e : Env} {s : State} {m : MethodId} {below : List Frame} {meth : Method} {c : Code} {b : Nat} (hx : p.tables.exec = Jvm.exec) (hb : c.code = code) (hr : meth.sig.returnType = ret) (hlocks : meth.locks = false) {pc : Nat} {H : Heap} {ls : Array Slot} (hdg : decode code pc = .ok (.ireturn, 1)) : W p l e room_1 s m #[Value.ref b] below meth c H [] 600000 7302250 (lw_Z below #[Value.ref b] s) (F0 m pc ls [.int 1]) := by
  intro T hT X
  obtain ⟨fs, hret, hrun, hended, hW, hframe⟩ := X.leave (v := some (.int 1)) (hlocks := hlocks) (fun h => by rw [hr] at h; cases h)
  have hmeth' : T.vm.method? m = some meth := X.method'
  refine ⟨T.setFrames fs, ?_, .returned (some (.int 1)), hrun, hended, rfl, ⟨_, rfl⟩, hW, hframe⟩
  jvm_step X.here [X.here.top, hx, hb, hdg, hmeth', hr, ret, narrow_b1]
  (try refine ⟨rfl, ?_⟩); (try refine ⟨rfl, ?_⟩)
  first | (intro acts; rw [hret _ acts rfl rfl rfl]) | rw [hret _ _ rfl rfl rfl]
  exact Steps.refl _
/-- what holds at the law's entry: the machine, the code, the tables' words (any of lw_tbl by 'hts w (by decide +kernel)'), the script of L ints xs at the cell b, what the Statement gives of the start (any of its parts by flat_of_before) -/
def lw_At (p : Program) (s : State) (m : MethodId) (meth : Method) (c : Code) (b L : Nat) (xs : Nat → Int32) : Prop :=
  p.tables.exec = Jvm.exec ∧ c.code = code ∧ meth.sig.returnType = ret ∧ c.maxLocals = 4 ∧ s.vm.findClass R_law = some m.cls ∧ (∀ w ∈ lw_tbl, w.before #[Value.ref b] s = true) ∧ va_X b L xs s s.heap ∧ b < s.heap.size ∧ meth.locks = false ∧ (Jvm.Cond.and given_1 narrow_1).before #[Value.ref b] s = true
theorem tx_1_185 : (Jvm.Cond.code ({ cls := "ParserGenerator", name := "node", desc := "(III)I" } : Jvm.MethodName) prog_1_method_2_code (4 : Nat) (Option.some Jvm.ClassFile.FieldType.int)) ∈ tb_all := tb_in1 (List.mem_of_getElem? (i := 185) rfl) rfl
theorem tx_1_1 : (Jvm.Cond.initialized "ParserGenerator") ∈ tb_all := tb_in1 (List.mem_of_getElem? (i := 1) rfl) rfl
theorem tx_1_183 : (Jvm.Cond.instanceMethod ({ cls := "ParserGenerator", name := "node", desc := "(III)I" } : Jvm.MethodName)) ∈ tb_all := tb_in1 (List.mem_of_getElem? (i := 183) rfl) rfl
theorem tx_1_184 : (Jvm.Cond.selects "ParserGenerator" ({ cls := "ParserGenerator", name := "node", desc := "(III)I" } : Jvm.MethodName) ({ cls := "ParserGenerator", name := "node", desc := "(III)I" } : Jvm.MethodName)) ∈ tb_all := tb_in1 (List.mem_of_getElem? (i := 184) rfl) rfl
theorem tx_1_182 : (Jvm.Cond.methodLink "ParserGeneratorLaw" (13 : Nat) ({ cls := "ParserGenerator", name := "node", desc := "(III)I" } : Jvm.MethodName)) ∈ tb_all := tb_in1 (List.mem_of_getElem? (i := 182) rfl) rfl
theorem tx_3_89 : (Jvm.Cond.code ({ cls := "ParserGeneratorModel", name := "node", desc := "(III)I" } : Jvm.MethodName) prog_8_method_6_code (5 : Nat) (Option.some Jvm.ClassFile.FieldType.int)) ∈ tb_all := tb_in3 (List.mem_of_getElem? (i := 89) rfl) rfl
theorem tx_1_7 : (Jvm.Cond.initialized "ParserGeneratorModel") ∈ tb_all := tb_in1 (List.mem_of_getElem? (i := 7) rfl) rfl
theorem tx_3_87 : (Jvm.Cond.instanceMethod ({ cls := "ParserGeneratorModel", name := "node", desc := "(III)I" } : Jvm.MethodName)) ∈ tb_all := tb_in3 (List.mem_of_getElem? (i := 87) rfl) rfl
theorem tx_3_88 : (Jvm.Cond.selects "ParserGeneratorModel" ({ cls := "ParserGeneratorModel", name := "node", desc := "(III)I" } : Jvm.MethodName) ({ cls := "ParserGeneratorModel", name := "node", desc := "(III)I" } : Jvm.MethodName)) ∈ tb_all := tb_in3 (List.mem_of_getElem? (i := 88) rfl) rfl
theorem tx_3_86 : (Jvm.Cond.methodLink "ParserGeneratorLaw" (17 : Nat) ({ cls := "ParserGeneratorModel", name := "node", desc := "(III)I" } : Jvm.MethodName)) ∈ tb_all := tb_in3 (List.mem_of_getElem? (i := 86) rfl) rfl
theorem tx_1_219 : (Jvm.Cond.code ({ cls := "ParserGenerator", name := "rule", desc := "(II)I" } : Jvm.MethodName) prog_1_method_3_code (3 : Nat) (Option.some Jvm.ClassFile.FieldType.int)) ∈ tb_all := tb_in1 (List.mem_of_getElem? (i := 219) rfl) rfl
theorem tx_1_217 : (Jvm.Cond.instanceMethod ({ cls := "ParserGenerator", name := "rule", desc := "(II)I" } : Jvm.MethodName)) ∈ tb_all := tb_in1 (List.mem_of_getElem? (i := 217) rfl) rfl
theorem tx_1_218 : (Jvm.Cond.selects "ParserGenerator" ({ cls := "ParserGenerator", name := "rule", desc := "(II)I" } : Jvm.MethodName) ({ cls := "ParserGenerator", name := "rule", desc := "(II)I" } : Jvm.MethodName)) ∈ tb_all := tb_in1 (List.mem_of_getElem? (i := 218) rfl) rfl
theorem tx_1_216 : (Jvm.Cond.methodLink "ParserGeneratorLaw" (18 : Nat) ({ cls := "ParserGenerator", name := "rule", desc := "(II)I" } : Jvm.MethodName)) ∈ tb_all := tb_in1 (List.mem_of_getElem? (i := 216) rfl) rfl
theorem tx_3_109 : (Jvm.Cond.code ({ cls := "ParserGeneratorModel", name := "rule", desc := "(II)I" } : Jvm.MethodName) prog_8_method_7_code (3 : Nat) (Option.some Jvm.ClassFile.FieldType.int)) ∈ tb_all := tb_in3 (List.mem_of_getElem? (i := 109) rfl) rfl
theorem tx_3_107 : (Jvm.Cond.instanceMethod ({ cls := "ParserGeneratorModel", name := "rule", desc := "(II)I" } : Jvm.MethodName)) ∈ tb_all := tb_in3 (List.mem_of_getElem? (i := 107) rfl) rfl
theorem tx_3_108 : (Jvm.Cond.selects "ParserGeneratorModel" ({ cls := "ParserGeneratorModel", name := "rule", desc := "(II)I" } : Jvm.MethodName) ({ cls := "ParserGeneratorModel", name := "rule", desc := "(II)I" } : Jvm.MethodName)) ∈ tb_all := tb_in3 (List.mem_of_getElem? (i := 108) rfl) rfl
theorem tx_3_106 : (Jvm.Cond.methodLink "ParserGeneratorLaw" (22 : Nat) ({ cls := "ParserGeneratorModel", name := "rule", desc := "(II)I" } : Jvm.MethodName)) ∈ tb_all := tb_in3 (List.mem_of_getElem? (i := 106) rfl) rfl
theorem tx_1_227 : (Jvm.Cond.code ({ cls := "ParserGenerator", name := "compile", desc := "(I)I" } : Jvm.MethodName) prog_1_method_4_code (2 : Nat) (Option.some Jvm.ClassFile.FieldType.int)) ∈ tb_all := tb_in1 (List.mem_of_getElem? (i := 227) rfl) rfl
theorem tx_1_225 : (Jvm.Cond.instanceMethod ({ cls := "ParserGenerator", name := "compile", desc := "(I)I" } : Jvm.MethodName)) ∈ tb_all := tb_in1 (List.mem_of_getElem? (i := 225) rfl) rfl
theorem tx_1_226 : (Jvm.Cond.selects "ParserGenerator" ({ cls := "ParserGenerator", name := "compile", desc := "(I)I" } : Jvm.MethodName) ({ cls := "ParserGenerator", name := "compile", desc := "(I)I" } : Jvm.MethodName)) ∈ tb_all := tb_in1 (List.mem_of_getElem? (i := 226) rfl) rfl
theorem tx_1_224 : (Jvm.Cond.methodLink "ParserGeneratorLaw" (23 : Nat) ({ cls := "ParserGenerator", name := "compile", desc := "(I)I" } : Jvm.MethodName)) ∈ tb_all := tb_in1 (List.mem_of_getElem? (i := 224) rfl) rfl
theorem tx_3_113 : (Jvm.Cond.code ({ cls := "ParserGeneratorModel", name := "compile", desc := "(I)I" } : Jvm.MethodName) prog_8_method_19_code (5 : Nat) (Option.some Jvm.ClassFile.FieldType.int)) ∈ tb_all := tb_in3 (List.mem_of_getElem? (i := 113) rfl) rfl
theorem tx_3_111 : (Jvm.Cond.instanceMethod ({ cls := "ParserGeneratorModel", name := "compile", desc := "(I)I" } : Jvm.MethodName)) ∈ tb_all := tb_in3 (List.mem_of_getElem? (i := 111) rfl) rfl
theorem tx_3_112 : (Jvm.Cond.selects "ParserGeneratorModel" ({ cls := "ParserGeneratorModel", name := "compile", desc := "(I)I" } : Jvm.MethodName) ({ cls := "ParserGeneratorModel", name := "compile", desc := "(I)I" } : Jvm.MethodName)) ∈ tb_all := tb_in3 (List.mem_of_getElem? (i := 112) rfl) rfl
theorem tx_3_110 : (Jvm.Cond.methodLink "ParserGeneratorLaw" (27 : Nat) ({ cls := "ParserGeneratorModel", name := "compile", desc := "(I)I" } : Jvm.MethodName)) ∈ tb_all := tb_in3 (List.mem_of_getElem? (i := 110) rfl) rfl
theorem tx_2_74 : (Jvm.Cond.code ({ cls := "ParserGenerator", name := "empty", desc := "(I)I" } : Jvm.MethodName) prog_1_method_5_code (2 : Nat) (Option.some Jvm.ClassFile.FieldType.int)) ∈ tb_all := tb_in2 (List.mem_of_getElem? (i := 74) rfl) rfl
theorem tx_2_72 : (Jvm.Cond.instanceMethod ({ cls := "ParserGenerator", name := "empty", desc := "(I)I" } : Jvm.MethodName)) ∈ tb_all := tb_in2 (List.mem_of_getElem? (i := 72) rfl) rfl
theorem tx_2_73 : (Jvm.Cond.selects "ParserGenerator" ({ cls := "ParserGenerator", name := "empty", desc := "(I)I" } : Jvm.MethodName) ({ cls := "ParserGenerator", name := "empty", desc := "(I)I" } : Jvm.MethodName)) ∈ tb_all := tb_in2 (List.mem_of_getElem? (i := 73) rfl) rfl
theorem tx_2_71 : (Jvm.Cond.methodLink "ParserGeneratorLaw" (28 : Nat) ({ cls := "ParserGenerator", name := "empty", desc := "(I)I" } : Jvm.MethodName)) ∈ tb_all := tb_in2 (List.mem_of_getElem? (i := 71) rfl) rfl
theorem tx_3_161 : (Jvm.Cond.code ({ cls := "ParserGeneratorModel", name := "empty", desc := "(I)I" } : Jvm.MethodName) prog_8_method_22_code (2 : Nat) (Option.some Jvm.ClassFile.FieldType.int)) ∈ tb_all := tb_in3 (List.mem_of_getElem? (i := 161) rfl) rfl
theorem tx_3_159 : (Jvm.Cond.instanceMethod ({ cls := "ParserGeneratorModel", name := "empty", desc := "(I)I" } : Jvm.MethodName)) ∈ tb_all := tb_in3 (List.mem_of_getElem? (i := 159) rfl) rfl
theorem tx_3_160 : (Jvm.Cond.selects "ParserGeneratorModel" ({ cls := "ParserGeneratorModel", name := "empty", desc := "(I)I" } : Jvm.MethodName) ({ cls := "ParserGeneratorModel", name := "empty", desc := "(I)I" } : Jvm.MethodName)) ∈ tb_all := tb_in3 (List.mem_of_getElem? (i := 160) rfl) rfl
theorem tx_3_158 : (Jvm.Cond.methodLink "ParserGeneratorLaw" (31 : Nat) ({ cls := "ParserGeneratorModel", name := "empty", desc := "(I)I" } : Jvm.MethodName)) ∈ tb_all := tb_in3 (List.mem_of_getElem? (i := 158) rfl) rfl
theorem tx_2_79 : (Jvm.Cond.code ({ cls := "ParserGenerator", name := "first", desc := "(I)I" } : Jvm.MethodName) prog_1_method_6_code (2 : Nat) (Option.some Jvm.ClassFile.FieldType.int)) ∈ tb_all := tb_in2 (List.mem_of_getElem? (i := 79) rfl) rfl
theorem tx_2_77 : (Jvm.Cond.instanceMethod ({ cls := "ParserGenerator", name := "first", desc := "(I)I" } : Jvm.MethodName)) ∈ tb_all := tb_in2 (List.mem_of_getElem? (i := 77) rfl) rfl
theorem tx_2_78 : (Jvm.Cond.selects "ParserGenerator" ({ cls := "ParserGenerator", name := "first", desc := "(I)I" } : Jvm.MethodName) ({ cls := "ParserGenerator", name := "first", desc := "(I)I" } : Jvm.MethodName)) ∈ tb_all := tb_in2 (List.mem_of_getElem? (i := 78) rfl) rfl
theorem tx_2_76 : (Jvm.Cond.methodLink "ParserGeneratorLaw" (32 : Nat) ({ cls := "ParserGenerator", name := "first", desc := "(I)I" } : Jvm.MethodName)) ∈ tb_all := tb_in2 (List.mem_of_getElem? (i := 76) rfl) rfl
theorem tx_3_169 : (Jvm.Cond.code ({ cls := "ParserGeneratorModel", name := "first", desc := "(I)I" } : Jvm.MethodName) prog_8_method_23_code (2 : Nat) (Option.some Jvm.ClassFile.FieldType.int)) ∈ tb_all := tb_in3 (List.mem_of_getElem? (i := 169) rfl) rfl
theorem tx_3_167 : (Jvm.Cond.instanceMethod ({ cls := "ParserGeneratorModel", name := "first", desc := "(I)I" } : Jvm.MethodName)) ∈ tb_all := tb_in3 (List.mem_of_getElem? (i := 167) rfl) rfl
theorem tx_3_168 : (Jvm.Cond.selects "ParserGeneratorModel" ({ cls := "ParserGeneratorModel", name := "first", desc := "(I)I" } : Jvm.MethodName) ({ cls := "ParserGeneratorModel", name := "first", desc := "(I)I" } : Jvm.MethodName)) ∈ tb_all := tb_in3 (List.mem_of_getElem? (i := 168) rfl) rfl
theorem tx_3_166 : (Jvm.Cond.methodLink "ParserGeneratorLaw" (35 : Nat) ({ cls := "ParserGeneratorModel", name := "first", desc := "(I)I" } : Jvm.MethodName)) ∈ tb_all := tb_in3 (List.mem_of_getElem? (i := 166) rfl) rfl
theorem tx_2_83 : (Jvm.Cond.code ({ cls := "ParserGenerator", name := "next", desc := "(I)I" } : Jvm.MethodName) prog_1_method_7_code (2 : Nat) (Option.some Jvm.ClassFile.FieldType.int)) ∈ tb_all := tb_in2 (List.mem_of_getElem? (i := 83) rfl) rfl
theorem tx_2_81 : (Jvm.Cond.instanceMethod ({ cls := "ParserGenerator", name := "next", desc := "(I)I" } : Jvm.MethodName)) ∈ tb_all := tb_in2 (List.mem_of_getElem? (i := 81) rfl) rfl
theorem tx_2_82 : (Jvm.Cond.selects "ParserGenerator" ({ cls := "ParserGenerator", name := "next", desc := "(I)I" } : Jvm.MethodName) ({ cls := "ParserGenerator", name := "next", desc := "(I)I" } : Jvm.MethodName)) ∈ tb_all := tb_in2 (List.mem_of_getElem? (i := 82) rfl) rfl
theorem tx_2_80 : (Jvm.Cond.methodLink "ParserGeneratorLaw" (36 : Nat) ({ cls := "ParserGenerator", name := "next", desc := "(I)I" } : Jvm.MethodName)) ∈ tb_all := tb_in2 (List.mem_of_getElem? (i := 80) rfl) rfl
theorem tx_3_173 : (Jvm.Cond.code ({ cls := "ParserGeneratorModel", name := "next", desc := "(I)I" } : Jvm.MethodName) prog_8_method_24_code (2 : Nat) (Option.some Jvm.ClassFile.FieldType.int)) ∈ tb_all := tb_in3 (List.mem_of_getElem? (i := 173) rfl) rfl
theorem tx_3_171 : (Jvm.Cond.instanceMethod ({ cls := "ParserGeneratorModel", name := "next", desc := "(I)I" } : Jvm.MethodName)) ∈ tb_all := tb_in3 (List.mem_of_getElem? (i := 171) rfl) rfl
theorem tx_3_172 : (Jvm.Cond.selects "ParserGeneratorModel" ({ cls := "ParserGeneratorModel", name := "next", desc := "(I)I" } : Jvm.MethodName) ({ cls := "ParserGeneratorModel", name := "next", desc := "(I)I" } : Jvm.MethodName)) ∈ tb_all := tb_in3 (List.mem_of_getElem? (i := 172) rfl) rfl
theorem tx_3_170 : (Jvm.Cond.methodLink "ParserGeneratorLaw" (39 : Nat) ({ cls := "ParserGeneratorModel", name := "next", desc := "(I)I" } : Jvm.MethodName)) ∈ tb_all := tb_in3 (List.mem_of_getElem? (i := 170) rfl) rfl
theorem tx_2_87 : (Jvm.Cond.code ({ cls := "ParserGenerator", name := "clash", desc := "(I)I" } : Jvm.MethodName) prog_1_method_8_code (2 : Nat) (Option.some Jvm.ClassFile.FieldType.int)) ∈ tb_all := tb_in2 (List.mem_of_getElem? (i := 87) rfl) rfl
theorem tx_2_85 : (Jvm.Cond.instanceMethod ({ cls := "ParserGenerator", name := "clash", desc := "(I)I" } : Jvm.MethodName)) ∈ tb_all := tb_in2 (List.mem_of_getElem? (i := 85) rfl) rfl
theorem tx_2_86 : (Jvm.Cond.selects "ParserGenerator" ({ cls := "ParserGenerator", name := "clash", desc := "(I)I" } : Jvm.MethodName) ({ cls := "ParserGenerator", name := "clash", desc := "(I)I" } : Jvm.MethodName)) ∈ tb_all := tb_in2 (List.mem_of_getElem? (i := 86) rfl) rfl
theorem tx_2_84 : (Jvm.Cond.methodLink "ParserGeneratorLaw" (40 : Nat) ({ cls := "ParserGenerator", name := "clash", desc := "(I)I" } : Jvm.MethodName)) ∈ tb_all := tb_in2 (List.mem_of_getElem? (i := 84) rfl) rfl
theorem tx_3_177 : (Jvm.Cond.code ({ cls := "ParserGeneratorModel", name := "clash", desc := "(I)I" } : Jvm.MethodName) prog_8_method_25_code (3 : Nat) (Option.some Jvm.ClassFile.FieldType.int)) ∈ tb_all := tb_in3 (List.mem_of_getElem? (i := 177) rfl) rfl
theorem tx_3_175 : (Jvm.Cond.instanceMethod ({ cls := "ParserGeneratorModel", name := "clash", desc := "(I)I" } : Jvm.MethodName)) ∈ tb_all := tb_in3 (List.mem_of_getElem? (i := 175) rfl) rfl
theorem tx_3_176 : (Jvm.Cond.selects "ParserGeneratorModel" ({ cls := "ParserGeneratorModel", name := "clash", desc := "(I)I" } : Jvm.MethodName) ({ cls := "ParserGeneratorModel", name := "clash", desc := "(I)I" } : Jvm.MethodName)) ∈ tb_all := tb_in3 (List.mem_of_getElem? (i := 176) rfl) rfl
theorem tx_3_174 : (Jvm.Cond.methodLink "ParserGeneratorLaw" (43 : Nat) ({ cls := "ParserGeneratorModel", name := "clash", desc := "(I)I" } : Jvm.MethodName)) ∈ tb_all := tb_in3 (List.mem_of_getElem? (i := 174) rfl) rfl
theorem tx_2_99 : (Jvm.Cond.code ({ cls := "ParserGenerator", name := "feed", desc := "(I)I" } : Jvm.MethodName) prog_1_method_9_code (2 : Nat) (Option.some Jvm.ClassFile.FieldType.int)) ∈ tb_all := tb_in2 (List.mem_of_getElem? (i := 99) rfl) rfl
theorem tx_2_97 : (Jvm.Cond.instanceMethod ({ cls := "ParserGenerator", name := "feed", desc := "(I)I" } : Jvm.MethodName)) ∈ tb_all := tb_in2 (List.mem_of_getElem? (i := 97) rfl) rfl
theorem tx_2_98 : (Jvm.Cond.selects "ParserGenerator" ({ cls := "ParserGenerator", name := "feed", desc := "(I)I" } : Jvm.MethodName) ({ cls := "ParserGenerator", name := "feed", desc := "(I)I" } : Jvm.MethodName)) ∈ tb_all := tb_in2 (List.mem_of_getElem? (i := 98) rfl) rfl
theorem tx_2_96 : (Jvm.Cond.methodLink "ParserGeneratorLaw" (44 : Nat) ({ cls := "ParserGenerator", name := "feed", desc := "(I)I" } : Jvm.MethodName)) ∈ tb_all := tb_in2 (List.mem_of_getElem? (i := 96) rfl) rfl
theorem tx_3_185 : (Jvm.Cond.code ({ cls := "ParserGeneratorModel", name := "feed", desc := "(I)I" } : Jvm.MethodName) prog_8_method_26_code (2 : Nat) (Option.some Jvm.ClassFile.FieldType.int)) ∈ tb_all := tb_in3 (List.mem_of_getElem? (i := 185) rfl) rfl
theorem tx_3_183 : (Jvm.Cond.instanceMethod ({ cls := "ParserGeneratorModel", name := "feed", desc := "(I)I" } : Jvm.MethodName)) ∈ tb_all := tb_in3 (List.mem_of_getElem? (i := 183) rfl) rfl
theorem tx_3_184 : (Jvm.Cond.selects "ParserGeneratorModel" ({ cls := "ParserGeneratorModel", name := "feed", desc := "(I)I" } : Jvm.MethodName) ({ cls := "ParserGeneratorModel", name := "feed", desc := "(I)I" } : Jvm.MethodName)) ∈ tb_all := tb_in3 (List.mem_of_getElem? (i := 184) rfl) rfl
theorem tx_3_182 : (Jvm.Cond.methodLink "ParserGeneratorLaw" (47 : Nat) ({ cls := "ParserGeneratorModel", name := "feed", desc := "(I)I" } : Jvm.MethodName)) ∈ tb_all := tb_in3 (List.mem_of_getElem? (i := 182) rfl) rfl
theorem tx_2_108 : (Jvm.Cond.code ({ cls := "ParserGenerator", name := "wipe", desc := "()I" } : Jvm.MethodName) prog_1_method_10_code (2 : Nat) (Option.some Jvm.ClassFile.FieldType.int)) ∈ tb_all := tb_in2 (List.mem_of_getElem? (i := 108) rfl) rfl
theorem tx_2_106 : (Jvm.Cond.instanceMethod ({ cls := "ParserGenerator", name := "wipe", desc := "()I" } : Jvm.MethodName)) ∈ tb_all := tb_in2 (List.mem_of_getElem? (i := 106) rfl) rfl
theorem tx_2_107 : (Jvm.Cond.selects "ParserGenerator" ({ cls := "ParserGenerator", name := "wipe", desc := "()I" } : Jvm.MethodName) ({ cls := "ParserGenerator", name := "wipe", desc := "()I" } : Jvm.MethodName)) ∈ tb_all := tb_in2 (List.mem_of_getElem? (i := 107) rfl) rfl
theorem tx_2_105 : (Jvm.Cond.methodLink "ParserGeneratorLaw" (48 : Nat) ({ cls := "ParserGenerator", name := "wipe", desc := "()I" } : Jvm.MethodName)) ∈ tb_all := tb_in2 (List.mem_of_getElem? (i := 105) rfl) rfl
theorem tx_3_189 : (Jvm.Cond.code ({ cls := "ParserGeneratorModel", name := "wipe", desc := "()I" } : Jvm.MethodName) prog_8_method_27_code (2 : Nat) (Option.some Jvm.ClassFile.FieldType.int)) ∈ tb_all := tb_in3 (List.mem_of_getElem? (i := 189) rfl) rfl
theorem tx_3_187 : (Jvm.Cond.instanceMethod ({ cls := "ParserGeneratorModel", name := "wipe", desc := "()I" } : Jvm.MethodName)) ∈ tb_all := tb_in3 (List.mem_of_getElem? (i := 187) rfl) rfl
theorem tx_3_188 : (Jvm.Cond.selects "ParserGeneratorModel" ({ cls := "ParserGeneratorModel", name := "wipe", desc := "()I" } : Jvm.MethodName) ({ cls := "ParserGeneratorModel", name := "wipe", desc := "()I" } : Jvm.MethodName)) ∈ tb_all := tb_in3 (List.mem_of_getElem? (i := 188) rfl) rfl
theorem tx_3_186 : (Jvm.Cond.methodLink "ParserGeneratorLaw" (52 : Nat) ({ cls := "ParserGeneratorModel", name := "wipe", desc := "()I" } : Jvm.MethodName)) ∈ tb_all := tb_in3 (List.mem_of_getElem? (i := 186) rfl) rfl
theorem tx_2_112 : (Jvm.Cond.code ({ cls := "ParserGenerator", name := "parse", desc := "()I" } : Jvm.MethodName) prog_1_method_11_code (1 : Nat) (Option.some Jvm.ClassFile.FieldType.int)) ∈ tb_all := tb_in2 (List.mem_of_getElem? (i := 112) rfl) rfl
theorem tx_2_110 : (Jvm.Cond.instanceMethod ({ cls := "ParserGenerator", name := "parse", desc := "()I" } : Jvm.MethodName)) ∈ tb_all := tb_in2 (List.mem_of_getElem? (i := 110) rfl) rfl
theorem tx_2_111 : (Jvm.Cond.selects "ParserGenerator" ({ cls := "ParserGenerator", name := "parse", desc := "()I" } : Jvm.MethodName) ({ cls := "ParserGenerator", name := "parse", desc := "()I" } : Jvm.MethodName)) ∈ tb_all := tb_in2 (List.mem_of_getElem? (i := 111) rfl) rfl
theorem tx_2_109 : (Jvm.Cond.methodLink "ParserGeneratorLaw" (53 : Nat) ({ cls := "ParserGenerator", name := "parse", desc := "()I" } : Jvm.MethodName)) ∈ tb_all := tb_in2 (List.mem_of_getElem? (i := 109) rfl) rfl
theorem tx_3_193 : (Jvm.Cond.code ({ cls := "ParserGeneratorModel", name := "parse", desc := "()I" } : Jvm.MethodName) prog_8_method_39_code (1 : Nat) (Option.some Jvm.ClassFile.FieldType.int)) ∈ tb_all := tb_in3 (List.mem_of_getElem? (i := 193) rfl) rfl
theorem tx_3_191 : (Jvm.Cond.instanceMethod ({ cls := "ParserGeneratorModel", name := "parse", desc := "()I" } : Jvm.MethodName)) ∈ tb_all := tb_in3 (List.mem_of_getElem? (i := 191) rfl) rfl
theorem tx_3_192 : (Jvm.Cond.selects "ParserGeneratorModel" ({ cls := "ParserGeneratorModel", name := "parse", desc := "()I" } : Jvm.MethodName) ({ cls := "ParserGeneratorModel", name := "parse", desc := "()I" } : Jvm.MethodName)) ∈ tb_all := tb_in3 (List.mem_of_getElem? (i := 192) rfl) rfl
theorem tx_3_190 : (Jvm.Cond.methodLink "ParserGeneratorLaw" (56 : Nat) ({ cls := "ParserGeneratorModel", name := "parse", desc := "()I" } : Jvm.MethodName)) ∈ tb_all := tb_in3 (List.mem_of_getElem? (i := 190) rfl) rfl
theorem tx_2_193 : (Jvm.Cond.code ({ cls := "ParserGenerator", name := "place", desc := "()I" } : Jvm.MethodName) prog_1_method_12_code (1 : Nat) (Option.some Jvm.ClassFile.FieldType.int)) ∈ tb_all := tb_in2 (List.mem_of_getElem? (i := 193) rfl) rfl
theorem tx_2_191 : (Jvm.Cond.instanceMethod ({ cls := "ParserGenerator", name := "place", desc := "()I" } : Jvm.MethodName)) ∈ tb_all := tb_in2 (List.mem_of_getElem? (i := 191) rfl) rfl
theorem tx_2_192 : (Jvm.Cond.selects "ParserGenerator" ({ cls := "ParserGenerator", name := "place", desc := "()I" } : Jvm.MethodName) ({ cls := "ParserGenerator", name := "place", desc := "()I" } : Jvm.MethodName)) ∈ tb_all := tb_in2 (List.mem_of_getElem? (i := 192) rfl) rfl
theorem tx_2_190 : (Jvm.Cond.methodLink "ParserGeneratorLaw" (57 : Nat) ({ cls := "ParserGenerator", name := "place", desc := "()I" } : Jvm.MethodName)) ∈ tb_all := tb_in2 (List.mem_of_getElem? (i := 190) rfl) rfl
theorem tx_4_1 : (Jvm.Cond.code ({ cls := "ParserGeneratorModel", name := "place", desc := "()I" } : Jvm.MethodName) prog_8_method_40_code (1 : Nat) (Option.some Jvm.ClassFile.FieldType.int)) ∈ tb_all := tb_in4 (List.mem_of_getElem? (i := 1) rfl) rfl
theorem tx_3_239 : (Jvm.Cond.instanceMethod ({ cls := "ParserGeneratorModel", name := "place", desc := "()I" } : Jvm.MethodName)) ∈ tb_all := tb_in3 (List.mem_of_getElem? (i := 239) rfl) rfl
theorem tx_4_0 : (Jvm.Cond.selects "ParserGeneratorModel" ({ cls := "ParserGeneratorModel", name := "place", desc := "()I" } : Jvm.MethodName) ({ cls := "ParserGeneratorModel", name := "place", desc := "()I" } : Jvm.MethodName)) ∈ tb_all := tb_in4 (List.mem_of_getElem? (i := 0) rfl) rfl
theorem tx_3_238 : (Jvm.Cond.methodLink "ParserGeneratorLaw" (60 : Nat) ({ cls := "ParserGeneratorModel", name := "place", desc := "()I" } : Jvm.MethodName)) ∈ tb_all := tb_in3 (List.mem_of_getElem? (i := 238) rfl) rfl
theorem tx_2_197 : (Jvm.Cond.code ({ cls := "ParserGenerator", name := "due", desc := "()I" } : Jvm.MethodName) prog_1_method_13_code (1 : Nat) (Option.some Jvm.ClassFile.FieldType.int)) ∈ tb_all := tb_in2 (List.mem_of_getElem? (i := 197) rfl) rfl
theorem tx_2_195 : (Jvm.Cond.instanceMethod ({ cls := "ParserGenerator", name := "due", desc := "()I" } : Jvm.MethodName)) ∈ tb_all := tb_in2 (List.mem_of_getElem? (i := 195) rfl) rfl
theorem tx_2_196 : (Jvm.Cond.selects "ParserGenerator" ({ cls := "ParserGenerator", name := "due", desc := "()I" } : Jvm.MethodName) ({ cls := "ParserGenerator", name := "due", desc := "()I" } : Jvm.MethodName)) ∈ tb_all := tb_in2 (List.mem_of_getElem? (i := 196) rfl) rfl
theorem tx_2_194 : (Jvm.Cond.methodLink "ParserGeneratorLaw" (61 : Nat) ({ cls := "ParserGenerator", name := "due", desc := "()I" } : Jvm.MethodName)) ∈ tb_all := tb_in2 (List.mem_of_getElem? (i := 194) rfl) rfl
theorem tx_4_5 : (Jvm.Cond.code ({ cls := "ParserGeneratorModel", name := "due", desc := "()I" } : Jvm.MethodName) prog_8_method_41_code (1 : Nat) (Option.some Jvm.ClassFile.FieldType.int)) ∈ tb_all := tb_in4 (List.mem_of_getElem? (i := 5) rfl) rfl
theorem tx_4_3 : (Jvm.Cond.instanceMethod ({ cls := "ParserGeneratorModel", name := "due", desc := "()I" } : Jvm.MethodName)) ∈ tb_all := tb_in4 (List.mem_of_getElem? (i := 3) rfl) rfl
theorem tx_4_4 : (Jvm.Cond.selects "ParserGeneratorModel" ({ cls := "ParserGeneratorModel", name := "due", desc := "()I" } : Jvm.MethodName) ({ cls := "ParserGeneratorModel", name := "due", desc := "()I" } : Jvm.MethodName)) ∈ tb_all := tb_in4 (List.mem_of_getElem? (i := 4) rfl) rfl
theorem tx_4_2 : (Jvm.Cond.methodLink "ParserGeneratorLaw" (64 : Nat) ({ cls := "ParserGeneratorModel", name := "due", desc := "()I" } : Jvm.MethodName)) ∈ tb_all := tb_in4 (List.mem_of_getElem? (i := 2) rfl) rfl
theorem tx_2_201 : (Jvm.Cond.code ({ cls := "ParserGenerator", name := "tree", desc := "(II)I" } : Jvm.MethodName) prog_1_method_14_code (3 : Nat) (Option.some Jvm.ClassFile.FieldType.int)) ∈ tb_all := tb_in2 (List.mem_of_getElem? (i := 201) rfl) rfl
theorem tx_2_199 : (Jvm.Cond.instanceMethod ({ cls := "ParserGenerator", name := "tree", desc := "(II)I" } : Jvm.MethodName)) ∈ tb_all := tb_in2 (List.mem_of_getElem? (i := 199) rfl) rfl
theorem tx_2_200 : (Jvm.Cond.selects "ParserGenerator" ({ cls := "ParserGenerator", name := "tree", desc := "(II)I" } : Jvm.MethodName) ({ cls := "ParserGenerator", name := "tree", desc := "(II)I" } : Jvm.MethodName)) ∈ tb_all := tb_in2 (List.mem_of_getElem? (i := 200) rfl) rfl
theorem tx_2_198 : (Jvm.Cond.methodLink "ParserGeneratorLaw" (65 : Nat) ({ cls := "ParserGenerator", name := "tree", desc := "(II)I" } : Jvm.MethodName)) ∈ tb_all := tb_in2 (List.mem_of_getElem? (i := 198) rfl) rfl
theorem tx_4_9 : (Jvm.Cond.code ({ cls := "ParserGeneratorModel", name := "tree", desc := "(II)I" } : Jvm.MethodName) prog_8_method_42_code (3 : Nat) (Option.some Jvm.ClassFile.FieldType.int)) ∈ tb_all := tb_in4 (List.mem_of_getElem? (i := 9) rfl) rfl
theorem tx_4_7 : (Jvm.Cond.instanceMethod ({ cls := "ParserGeneratorModel", name := "tree", desc := "(II)I" } : Jvm.MethodName)) ∈ tb_all := tb_in4 (List.mem_of_getElem? (i := 7) rfl) rfl
theorem tx_4_8 : (Jvm.Cond.selects "ParserGeneratorModel" ({ cls := "ParserGeneratorModel", name := "tree", desc := "(II)I" } : Jvm.MethodName) ({ cls := "ParserGeneratorModel", name := "tree", desc := "(II)I" } : Jvm.MethodName)) ∈ tb_all := tb_in4 (List.mem_of_getElem? (i := 8) rfl) rfl
theorem tx_4_6 : (Jvm.Cond.methodLink "ParserGeneratorLaw" (68 : Nat) ({ cls := "ParserGeneratorModel", name := "tree", desc := "(II)I" } : Jvm.MethodName)) ∈ tb_all := tb_in4 (List.mem_of_getElem? (i := 6) rfl) rfl
theorem tx_2_210 : (Jvm.Cond.code ({ cls := "ParserGenerator", name := "count", desc := "(I)I" } : Jvm.MethodName) prog_1_method_15_code (2 : Nat) (Option.some Jvm.ClassFile.FieldType.int)) ∈ tb_all := tb_in2 (List.mem_of_getElem? (i := 210) rfl) rfl
theorem tx_2_208 : (Jvm.Cond.instanceMethod ({ cls := "ParserGenerator", name := "count", desc := "(I)I" } : Jvm.MethodName)) ∈ tb_all := tb_in2 (List.mem_of_getElem? (i := 208) rfl) rfl
theorem tx_2_209 : (Jvm.Cond.selects "ParserGenerator" ({ cls := "ParserGenerator", name := "count", desc := "(I)I" } : Jvm.MethodName) ({ cls := "ParserGenerator", name := "count", desc := "(I)I" } : Jvm.MethodName)) ∈ tb_all := tb_in2 (List.mem_of_getElem? (i := 209) rfl) rfl
theorem tx_2_207 : (Jvm.Cond.methodLink "ParserGeneratorLaw" (69 : Nat) ({ cls := "ParserGenerator", name := "count", desc := "(I)I" } : Jvm.MethodName)) ∈ tb_all := tb_in2 (List.mem_of_getElem? (i := 207) rfl) rfl
theorem tx_4_13 : (Jvm.Cond.code ({ cls := "ParserGeneratorModel", name := "count", desc := "(I)I" } : Jvm.MethodName) prog_8_method_43_code (4 : Nat) (Option.some Jvm.ClassFile.FieldType.int)) ∈ tb_all := tb_in4 (List.mem_of_getElem? (i := 13) rfl) rfl
theorem tx_4_11 : (Jvm.Cond.instanceMethod ({ cls := "ParserGeneratorModel", name := "count", desc := "(I)I" } : Jvm.MethodName)) ∈ tb_all := tb_in4 (List.mem_of_getElem? (i := 11) rfl) rfl
theorem tx_4_12 : (Jvm.Cond.selects "ParserGeneratorModel" ({ cls := "ParserGeneratorModel", name := "count", desc := "(I)I" } : Jvm.MethodName) ({ cls := "ParserGeneratorModel", name := "count", desc := "(I)I" } : Jvm.MethodName)) ∈ tb_all := tb_in4 (List.mem_of_getElem? (i := 12) rfl) rfl
theorem tx_4_10 : (Jvm.Cond.methodLink "ParserGeneratorLaw" (72 : Nat) ({ cls := "ParserGeneratorModel", name := "count", desc := "(I)I" } : Jvm.MethodName)) ∈ tb_all := tb_in4 (List.mem_of_getElem? (i := 10) rfl) rfl
theorem dl_0 : decode code 0 = .ok (.new 7, 3) := by decide +kernel
theorem dl_3 : decode code 3 = .ok (.dup, 1) := by decide +kernel
theorem dl_4 : decode code 4 = .ok (.invokespecial 9, 3) := by decide +kernel
theorem dl_7 : decode code 7 = .ok (.astore_n 1, 1) := by decide +kernel
theorem dl_8 : decode code 8 = .ok (.new 10, 3) := by decide +kernel
theorem dl_11 : decode code 11 = .ok (.dup, 1) := by decide +kernel
theorem dl_12 : decode code 12 = .ok (.invokespecial 12, 3) := by decide +kernel
theorem dl_15 : decode code 15 = .ok (.astore_n 2, 1) := by decide +kernel
theorem dl_16 : decode code 16 = .ok (.iconst 0, 1) := by decide +kernel
theorem dl_17 : decode code 17 = .ok (.istore_n 3, 1) := by decide +kernel
theorem dl_18 : decode code 18 = .ok (.iload_n 3, 1) := by decide +kernel
theorem dl_19 : decode code 19 = .ok (.aload_n 0, 1) := by decide +kernel
theorem dl_20 : decode code 20 = .ok (.arraylength, 1) := by decide +kernel
theorem dl_21 : decode code 21 = .ok (.iconst 4, 1) := by decide +kernel
theorem dl_22 : decode code 22 = .ok (.isub, 1) := by decide +kernel
theorem dl_23 : decode code 23 = .ok (.if_icmp .gt 409, 3) := by decide +kernel
theorem dl_26 : decode code 26 = .ok (.aload_n 0, 1) := by decide +kernel
theorem dl_27 : decode code 27 = .ok (.iload_n 3, 1) := by decide +kernel
theorem dl_28 : decode code 28 = .ok (.iaload, 1) := by decide +kernel
theorem dl_29 : decode code 29 = .ok (.bipush 15, 2) := by decide +kernel
theorem dl_31 : decode code 31 = .ok (.iand, 1) := by decide +kernel
theorem dl_32 : decode code 32 = .ok (.tableswitch 394 0 13 #[72, 115, 148, 171, 194, 217, 240, 263, 286, 299, 312, 325, 338, 371], 72) := by decide +kernel
theorem dl_104 : decode code 104 = .ok (.aload_n 1, 1) := by decide +kernel
theorem dl_105 : decode code 105 = .ok (.aload_n 0, 1) := by decide +kernel
theorem dl_106 : decode code 106 = .ok (.iload_n 3, 1) := by decide +kernel
theorem dl_107 : decode code 107 = .ok (.iconst 1, 1) := by decide +kernel
theorem dl_108 : decode code 108 = .ok (.iadd, 1) := by decide +kernel
theorem dl_109 : decode code 109 = .ok (.iaload, 1) := by decide +kernel
theorem dl_110 : decode code 110 = .ok (.aload_n 0, 1) := by decide +kernel
theorem dl_111 : decode code 111 = .ok (.iload_n 3, 1) := by decide +kernel
theorem dl_112 : decode code 112 = .ok (.iconst 2, 1) := by decide +kernel
theorem dl_113 : decode code 113 = .ok (.iadd, 1) := by decide +kernel
theorem dl_114 : decode code 114 = .ok (.iaload, 1) := by decide +kernel
theorem dl_115 : decode code 115 = .ok (.aload_n 0, 1) := by decide +kernel
theorem dl_116 : decode code 116 = .ok (.iload_n 3, 1) := by decide +kernel
theorem dl_117 : decode code 117 = .ok (.iconst 3, 1) := by decide +kernel
theorem dl_118 : decode code 118 = .ok (.iadd, 1) := by decide +kernel
theorem dl_119 : decode code 119 = .ok (.iaload, 1) := by decide +kernel
theorem dl_120 : decode code 120 = .ok (.invokevirtual 13, 3) := by decide +kernel
theorem dl_123 : decode code 123 = .ok (.aload_n 2, 1) := by decide +kernel
theorem dl_124 : decode code 124 = .ok (.aload_n 0, 1) := by decide +kernel
theorem dl_125 : decode code 125 = .ok (.iload_n 3, 1) := by decide +kernel
theorem dl_126 : decode code 126 = .ok (.iconst 1, 1) := by decide +kernel
theorem dl_127 : decode code 127 = .ok (.iadd, 1) := by decide +kernel
theorem dl_128 : decode code 128 = .ok (.iaload, 1) := by decide +kernel
theorem dl_129 : decode code 129 = .ok (.aload_n 0, 1) := by decide +kernel
theorem dl_130 : decode code 130 = .ok (.iload_n 3, 1) := by decide +kernel
theorem dl_131 : decode code 131 = .ok (.iconst 2, 1) := by decide +kernel
theorem dl_132 : decode code 132 = .ok (.iadd, 1) := by decide +kernel
theorem dl_133 : decode code 133 = .ok (.iaload, 1) := by decide +kernel
theorem dl_134 : decode code 134 = .ok (.aload_n 0, 1) := by decide +kernel
theorem dl_135 : decode code 135 = .ok (.iload_n 3, 1) := by decide +kernel
theorem dl_136 : decode code 136 = .ok (.iconst 3, 1) := by decide +kernel
theorem dl_137 : decode code 137 = .ok (.iadd, 1) := by decide +kernel
theorem dl_138 : decode code 138 = .ok (.iaload, 1) := by decide +kernel
theorem dl_139 : decode code 139 = .ok (.invokevirtual 17, 3) := by decide +kernel
theorem dl_142 : decode code 142 = .ok (.if_icmp .eq 284, 3) := by decide +kernel
theorem dl_145 : decode code 145 = .ok (.iconst 0, 1) := by decide +kernel
theorem dl_146 : decode code 146 = .ok (.ireturn, 1) := by decide +kernel
theorem dl_147 : decode code 147 = .ok (.aload_n 1, 1) := by decide +kernel
theorem dl_148 : decode code 148 = .ok (.aload_n 0, 1) := by decide +kernel
theorem dl_149 : decode code 149 = .ok (.iload_n 3, 1) := by decide +kernel
theorem dl_150 : decode code 150 = .ok (.iconst 1, 1) := by decide +kernel
theorem dl_151 : decode code 151 = .ok (.iadd, 1) := by decide +kernel
theorem dl_152 : decode code 152 = .ok (.iaload, 1) := by decide +kernel
theorem dl_153 : decode code 153 = .ok (.aload_n 0, 1) := by decide +kernel
theorem dl_154 : decode code 154 = .ok (.iload_n 3, 1) := by decide +kernel
theorem dl_155 : decode code 155 = .ok (.iconst 2, 1) := by decide +kernel
theorem dl_156 : decode code 156 = .ok (.iadd, 1) := by decide +kernel
theorem dl_157 : decode code 157 = .ok (.iaload, 1) := by decide +kernel
theorem dl_158 : decode code 158 = .ok (.invokevirtual 18, 3) := by decide +kernel
theorem dl_161 : decode code 161 = .ok (.aload_n 2, 1) := by decide +kernel
theorem dl_162 : decode code 162 = .ok (.aload_n 0, 1) := by decide +kernel
theorem dl_163 : decode code 163 = .ok (.iload_n 3, 1) := by decide +kernel
theorem dl_164 : decode code 164 = .ok (.iconst 1, 1) := by decide +kernel
theorem dl_165 : decode code 165 = .ok (.iadd, 1) := by decide +kernel
theorem dl_166 : decode code 166 = .ok (.iaload, 1) := by decide +kernel
theorem dl_167 : decode code 167 = .ok (.aload_n 0, 1) := by decide +kernel
theorem dl_168 : decode code 168 = .ok (.iload_n 3, 1) := by decide +kernel
theorem dl_169 : decode code 169 = .ok (.iconst 2, 1) := by decide +kernel
theorem dl_170 : decode code 170 = .ok (.iadd, 1) := by decide +kernel
theorem dl_171 : decode code 171 = .ok (.iaload, 1) := by decide +kernel
theorem dl_172 : decode code 172 = .ok (.invokevirtual 22, 3) := by decide +kernel
theorem dl_175 : decode code 175 = .ok (.if_icmp .eq 251, 3) := by decide +kernel
theorem dl_178 : decode code 178 = .ok (.iconst 0, 1) := by decide +kernel
theorem dl_179 : decode code 179 = .ok (.ireturn, 1) := by decide +kernel
theorem dl_180 : decode code 180 = .ok (.aload_n 1, 1) := by decide +kernel
theorem dl_181 : decode code 181 = .ok (.aload_n 0, 1) := by decide +kernel
theorem dl_182 : decode code 182 = .ok (.iload_n 3, 1) := by decide +kernel
theorem dl_183 : decode code 183 = .ok (.iconst 1, 1) := by decide +kernel
theorem dl_184 : decode code 184 = .ok (.iadd, 1) := by decide +kernel
theorem dl_185 : decode code 185 = .ok (.iaload, 1) := by decide +kernel
theorem dl_186 : decode code 186 = .ok (.invokevirtual 23, 3) := by decide +kernel
theorem dl_189 : decode code 189 = .ok (.aload_n 2, 1) := by decide +kernel
theorem dl_190 : decode code 190 = .ok (.aload_n 0, 1) := by decide +kernel
theorem dl_191 : decode code 191 = .ok (.iload_n 3, 1) := by decide +kernel
theorem dl_192 : decode code 192 = .ok (.iconst 1, 1) := by decide +kernel
theorem dl_193 : decode code 193 = .ok (.iadd, 1) := by decide +kernel
theorem dl_194 : decode code 194 = .ok (.iaload, 1) := by decide +kernel
theorem dl_195 : decode code 195 = .ok (.invokevirtual 27, 3) := by decide +kernel
theorem dl_198 : decode code 198 = .ok (.if_icmp .eq 228, 3) := by decide +kernel
theorem dl_201 : decode code 201 = .ok (.iconst 0, 1) := by decide +kernel
theorem dl_202 : decode code 202 = .ok (.ireturn, 1) := by decide +kernel
theorem dl_203 : decode code 203 = .ok (.aload_n 1, 1) := by decide +kernel
theorem dl_204 : decode code 204 = .ok (.aload_n 0, 1) := by decide +kernel
theorem dl_205 : decode code 205 = .ok (.iload_n 3, 1) := by decide +kernel
theorem dl_206 : decode code 206 = .ok (.iconst 1, 1) := by decide +kernel
theorem dl_207 : decode code 207 = .ok (.iadd, 1) := by decide +kernel
theorem dl_208 : decode code 208 = .ok (.iaload, 1) := by decide +kernel
theorem dl_209 : decode code 209 = .ok (.invokevirtual 28, 3) := by decide +kernel
theorem dl_212 : decode code 212 = .ok (.aload_n 2, 1) := by decide +kernel
theorem dl_213 : decode code 213 = .ok (.aload_n 0, 1) := by decide +kernel
theorem dl_214 : decode code 214 = .ok (.iload_n 3, 1) := by decide +kernel
theorem dl_215 : decode code 215 = .ok (.iconst 1, 1) := by decide +kernel
theorem dl_216 : decode code 216 = .ok (.iadd, 1) := by decide +kernel
theorem dl_217 : decode code 217 = .ok (.iaload, 1) := by decide +kernel
theorem dl_218 : decode code 218 = .ok (.invokevirtual 31, 3) := by decide +kernel
theorem dl_221 : decode code 221 = .ok (.if_icmp .eq 205, 3) := by decide +kernel
theorem dl_224 : decode code 224 = .ok (.iconst 0, 1) := by decide +kernel
theorem dl_225 : decode code 225 = .ok (.ireturn, 1) := by decide +kernel
theorem dl_226 : decode code 226 = .ok (.aload_n 1, 1) := by decide +kernel
theorem dl_227 : decode code 227 = .ok (.aload_n 0, 1) := by decide +kernel
theorem dl_228 : decode code 228 = .ok (.iload_n 3, 1) := by decide +kernel
theorem dl_229 : decode code 229 = .ok (.iconst 1, 1) := by decide +kernel
theorem dl_230 : decode code 230 = .ok (.iadd, 1) := by decide +kernel
theorem dl_231 : decode code 231 = .ok (.iaload, 1) := by decide +kernel
theorem dl_232 : decode code 232 = .ok (.invokevirtual 32, 3) := by decide +kernel
theorem dl_235 : decode code 235 = .ok (.aload_n 2, 1) := by decide +kernel
theorem dl_236 : decode code 236 = .ok (.aload_n 0, 1) := by decide +kernel
theorem dl_237 : decode code 237 = .ok (.iload_n 3, 1) := by decide +kernel
theorem dl_238 : decode code 238 = .ok (.iconst 1, 1) := by decide +kernel
theorem dl_239 : decode code 239 = .ok (.iadd, 1) := by decide +kernel
theorem dl_240 : decode code 240 = .ok (.iaload, 1) := by decide +kernel
theorem dl_241 : decode code 241 = .ok (.invokevirtual 35, 3) := by decide +kernel
theorem dl_244 : decode code 244 = .ok (.if_icmp .eq 182, 3) := by decide +kernel
theorem dl_247 : decode code 247 = .ok (.iconst 0, 1) := by decide +kernel
theorem dl_248 : decode code 248 = .ok (.ireturn, 1) := by decide +kernel
theorem dl_249 : decode code 249 = .ok (.aload_n 1, 1) := by decide +kernel
theorem dl_250 : decode code 250 = .ok (.aload_n 0, 1) := by decide +kernel
theorem dl_251 : decode code 251 = .ok (.iload_n 3, 1) := by decide +kernel
theorem dl_252 : decode code 252 = .ok (.iconst 1, 1) := by decide +kernel
theorem dl_253 : decode code 253 = .ok (.iadd, 1) := by decide +kernel
theorem dl_254 : decode code 254 = .ok (.iaload, 1) := by decide +kernel
theorem dl_255 : decode code 255 = .ok (.invokevirtual 36, 3) := by decide +kernel
theorem dl_258 : decode code 258 = .ok (.aload_n 2, 1) := by decide +kernel
theorem dl_259 : decode code 259 = .ok (.aload_n 0, 1) := by decide +kernel
theorem dl_260 : decode code 260 = .ok (.iload_n 3, 1) := by decide +kernel
theorem dl_261 : decode code 261 = .ok (.iconst 1, 1) := by decide +kernel
theorem dl_262 : decode code 262 = .ok (.iadd, 1) := by decide +kernel
theorem dl_263 : decode code 263 = .ok (.iaload, 1) := by decide +kernel
theorem dl_264 : decode code 264 = .ok (.invokevirtual 39, 3) := by decide +kernel
theorem dl_267 : decode code 267 = .ok (.if_icmp .eq 159, 3) := by decide +kernel
theorem dl_270 : decode code 270 = .ok (.iconst 0, 1) := by decide +kernel
theorem dl_271 : decode code 271 = .ok (.ireturn, 1) := by decide +kernel
theorem dl_272 : decode code 272 = .ok (.aload_n 1, 1) := by decide +kernel
theorem dl_273 : decode code 273 = .ok (.aload_n 0, 1) := by decide +kernel
theorem dl_274 : decode code 274 = .ok (.iload_n 3, 1) := by decide +kernel
theorem dl_275 : decode code 275 = .ok (.iconst 1, 1) := by decide +kernel
theorem dl_276 : decode code 276 = .ok (.iadd, 1) := by decide +kernel
theorem dl_277 : decode code 277 = .ok (.iaload, 1) := by decide +kernel
theorem dl_278 : decode code 278 = .ok (.invokevirtual 40, 3) := by decide +kernel
theorem dl_281 : decode code 281 = .ok (.aload_n 2, 1) := by decide +kernel
theorem dl_282 : decode code 282 = .ok (.aload_n 0, 1) := by decide +kernel
theorem dl_283 : decode code 283 = .ok (.iload_n 3, 1) := by decide +kernel
theorem dl_284 : decode code 284 = .ok (.iconst 1, 1) := by decide +kernel
theorem dl_285 : decode code 285 = .ok (.iadd, 1) := by decide +kernel
theorem dl_286 : decode code 286 = .ok (.iaload, 1) := by decide +kernel
theorem dl_287 : decode code 287 = .ok (.invokevirtual 43, 3) := by decide +kernel
theorem dl_290 : decode code 290 = .ok (.if_icmp .eq 136, 3) := by decide +kernel
theorem dl_293 : decode code 293 = .ok (.iconst 0, 1) := by decide +kernel
theorem dl_294 : decode code 294 = .ok (.ireturn, 1) := by decide +kernel
theorem dl_295 : decode code 295 = .ok (.aload_n 1, 1) := by decide +kernel
theorem dl_296 : decode code 296 = .ok (.aload_n 0, 1) := by decide +kernel
theorem dl_297 : decode code 297 = .ok (.iload_n 3, 1) := by decide +kernel
theorem dl_298 : decode code 298 = .ok (.iconst 1, 1) := by decide +kernel
theorem dl_299 : decode code 299 = .ok (.iadd, 1) := by decide +kernel
theorem dl_300 : decode code 300 = .ok (.iaload, 1) := by decide +kernel
theorem dl_301 : decode code 301 = .ok (.invokevirtual 44, 3) := by decide +kernel
theorem dl_304 : decode code 304 = .ok (.aload_n 2, 1) := by decide +kernel
theorem dl_305 : decode code 305 = .ok (.aload_n 0, 1) := by decide +kernel
theorem dl_306 : decode code 306 = .ok (.iload_n 3, 1) := by decide +kernel
theorem dl_307 : decode code 307 = .ok (.iconst 1, 1) := by decide +kernel
theorem dl_308 : decode code 308 = .ok (.iadd, 1) := by decide +kernel
theorem dl_309 : decode code 309 = .ok (.iaload, 1) := by decide +kernel
theorem dl_310 : decode code 310 = .ok (.invokevirtual 47, 3) := by decide +kernel
theorem dl_313 : decode code 313 = .ok (.if_icmp .eq 113, 3) := by decide +kernel
theorem dl_316 : decode code 316 = .ok (.iconst 0, 1) := by decide +kernel
theorem dl_317 : decode code 317 = .ok (.ireturn, 1) := by decide +kernel
theorem dl_318 : decode code 318 = .ok (.aload_n 1, 1) := by decide +kernel
theorem dl_319 : decode code 319 = .ok (.invokevirtual 48, 3) := by decide +kernel
theorem dl_322 : decode code 322 = .ok (.aload_n 2, 1) := by decide +kernel
theorem dl_323 : decode code 323 = .ok (.invokevirtual 52, 3) := by decide +kernel
theorem dl_326 : decode code 326 = .ok (.if_icmp .eq 100, 3) := by decide +kernel
theorem dl_329 : decode code 329 = .ok (.iconst 0, 1) := by decide +kernel
theorem dl_330 : decode code 330 = .ok (.ireturn, 1) := by decide +kernel
theorem dl_331 : decode code 331 = .ok (.aload_n 1, 1) := by decide +kernel
theorem dl_332 : decode code 332 = .ok (.invokevirtual 53, 3) := by decide +kernel
theorem dl_335 : decode code 335 = .ok (.aload_n 2, 1) := by decide +kernel
theorem dl_336 : decode code 336 = .ok (.invokevirtual 56, 3) := by decide +kernel
theorem dl_339 : decode code 339 = .ok (.if_icmp .eq 87, 3) := by decide +kernel
theorem dl_342 : decode code 342 = .ok (.iconst 0, 1) := by decide +kernel
theorem dl_343 : decode code 343 = .ok (.ireturn, 1) := by decide +kernel
theorem dl_344 : decode code 344 = .ok (.aload_n 1, 1) := by decide +kernel
theorem dl_345 : decode code 345 = .ok (.invokevirtual 57, 3) := by decide +kernel
theorem dl_348 : decode code 348 = .ok (.aload_n 2, 1) := by decide +kernel
theorem dl_349 : decode code 349 = .ok (.invokevirtual 60, 3) := by decide +kernel
theorem dl_352 : decode code 352 = .ok (.if_icmp .eq 74, 3) := by decide +kernel
theorem dl_355 : decode code 355 = .ok (.iconst 0, 1) := by decide +kernel
theorem dl_356 : decode code 356 = .ok (.ireturn, 1) := by decide +kernel
theorem dl_357 : decode code 357 = .ok (.aload_n 1, 1) := by decide +kernel
theorem dl_358 : decode code 358 = .ok (.invokevirtual 61, 3) := by decide +kernel
theorem dl_361 : decode code 361 = .ok (.aload_n 2, 1) := by decide +kernel
theorem dl_362 : decode code 362 = .ok (.invokevirtual 64, 3) := by decide +kernel
theorem dl_365 : decode code 365 = .ok (.if_icmp .eq 61, 3) := by decide +kernel
theorem dl_368 : decode code 368 = .ok (.iconst 0, 1) := by decide +kernel
theorem dl_369 : decode code 369 = .ok (.ireturn, 1) := by decide +kernel
theorem dl_370 : decode code 370 = .ok (.aload_n 1, 1) := by decide +kernel
theorem dl_371 : decode code 371 = .ok (.aload_n 0, 1) := by decide +kernel
theorem dl_372 : decode code 372 = .ok (.iload_n 3, 1) := by decide +kernel
theorem dl_373 : decode code 373 = .ok (.iconst 1, 1) := by decide +kernel
theorem dl_374 : decode code 374 = .ok (.iadd, 1) := by decide +kernel
theorem dl_375 : decode code 375 = .ok (.iaload, 1) := by decide +kernel
theorem dl_376 : decode code 376 = .ok (.aload_n 0, 1) := by decide +kernel
theorem dl_377 : decode code 377 = .ok (.iload_n 3, 1) := by decide +kernel
theorem dl_378 : decode code 378 = .ok (.iconst 2, 1) := by decide +kernel
theorem dl_379 : decode code 379 = .ok (.iadd, 1) := by decide +kernel
theorem dl_380 : decode code 380 = .ok (.iaload, 1) := by decide +kernel
theorem dl_381 : decode code 381 = .ok (.invokevirtual 65, 3) := by decide +kernel
theorem dl_384 : decode code 384 = .ok (.aload_n 2, 1) := by decide +kernel
theorem dl_385 : decode code 385 = .ok (.aload_n 0, 1) := by decide +kernel
theorem dl_386 : decode code 386 = .ok (.iload_n 3, 1) := by decide +kernel
theorem dl_387 : decode code 387 = .ok (.iconst 1, 1) := by decide +kernel
theorem dl_388 : decode code 388 = .ok (.iadd, 1) := by decide +kernel
theorem dl_389 : decode code 389 = .ok (.iaload, 1) := by decide +kernel
theorem dl_390 : decode code 390 = .ok (.aload_n 0, 1) := by decide +kernel
theorem dl_391 : decode code 391 = .ok (.iload_n 3, 1) := by decide +kernel
theorem dl_392 : decode code 392 = .ok (.iconst 2, 1) := by decide +kernel
theorem dl_393 : decode code 393 = .ok (.iadd, 1) := by decide +kernel
theorem dl_394 : decode code 394 = .ok (.iaload, 1) := by decide +kernel
theorem dl_395 : decode code 395 = .ok (.invokevirtual 68, 3) := by decide +kernel
theorem dl_398 : decode code 398 = .ok (.if_icmp .eq 28, 3) := by decide +kernel
theorem dl_401 : decode code 401 = .ok (.iconst 0, 1) := by decide +kernel
theorem dl_402 : decode code 402 = .ok (.ireturn, 1) := by decide +kernel
theorem dl_403 : decode code 403 = .ok (.aload_n 1, 1) := by decide +kernel
theorem dl_404 : decode code 404 = .ok (.aload_n 0, 1) := by decide +kernel
theorem dl_405 : decode code 405 = .ok (.iload_n 3, 1) := by decide +kernel
theorem dl_406 : decode code 406 = .ok (.iconst 1, 1) := by decide +kernel
theorem dl_407 : decode code 407 = .ok (.iadd, 1) := by decide +kernel
theorem dl_408 : decode code 408 = .ok (.iaload, 1) := by decide +kernel
theorem dl_409 : decode code 409 = .ok (.invokevirtual 69, 3) := by decide +kernel
theorem dl_412 : decode code 412 = .ok (.aload_n 2, 1) := by decide +kernel
theorem dl_413 : decode code 413 = .ok (.aload_n 0, 1) := by decide +kernel
theorem dl_414 : decode code 414 = .ok (.iload_n 3, 1) := by decide +kernel
theorem dl_415 : decode code 415 = .ok (.iconst 1, 1) := by decide +kernel
theorem dl_416 : decode code 416 = .ok (.iadd, 1) := by decide +kernel
theorem dl_417 : decode code 417 = .ok (.iaload, 1) := by decide +kernel
theorem dl_418 : decode code 418 = .ok (.invokevirtual 72, 3) := by decide +kernel
theorem dl_421 : decode code 421 = .ok (.if_icmp .eq 5, 3) := by decide +kernel
theorem dl_424 : decode code 424 = .ok (.iconst 0, 1) := by decide +kernel
theorem dl_425 : decode code 425 = .ok (.ireturn, 1) := by decide +kernel
theorem dl_426 : decode code 426 = .ok (.iinc 3 4, 3) := by decide +kernel
theorem dl_429 : decode code 429 = .ok (.goto (-411), 3) := by decide +kernel
theorem dl_432 : decode code 432 = .ok (.iconst 1, 1) := by decide +kernel
theorem dl_433 : decode code 433 = .ok (.ireturn, 1) := by decide +kernel
/-- what the law's calls need of a method -/
def lc_ok (j : Nat) (own : String) (idx n : Nat) (me : mm_Y) : Prop := pg j = some me ∧ mm_cok tb_all me ∧ Cond.instanceMethod me.1 ∈ tb_all ∧ Cond.selects me.1.cls me.1 me.1 ∈ tb_all ∧ (parseMethodDescriptor me.1.desc).map (fun d => d.parameters.length) = some n ∧ Cond.methodLink own idx me.1 ∈ tb_all ∧ ∃ C, cl_all[me.2.1]? = some C ∧ C.1 = me.1.cls
theorem lc_PG_node : lc_ok 0 "ParserGeneratorLaw" 13 3 yy_PG_node := ⟨pg_PG_node, ⟨tx_1_185, tx_1_1, ⟨by decide, by decide⟩, by decide⟩, tx_1_183, tx_1_184, by decide +kernel, tx_1_182, ⟨_, rfl, rfl⟩⟩
theorem lc_Mo_node : lc_ok 69 "ParserGeneratorLaw" 17 3 yy_Mo_node := ⟨pg_Mo_node, ⟨tx_3_89, tx_1_7, ⟨by decide, by decide⟩, by decide⟩, tx_3_87, tx_3_88, by decide +kernel, tx_3_86, ⟨_, rfl, rfl⟩⟩
theorem lc_PG_rule : lc_ok 1 "ParserGeneratorLaw" 18 2 yy_PG_rule := ⟨pg_PG_rule, ⟨tx_1_219, tx_1_1, ⟨by decide, by decide⟩, by decide⟩, tx_1_217, tx_1_218, by decide +kernel, tx_1_216, ⟨_, rfl, rfl⟩⟩
theorem lc_Mo_rule : lc_ok 70 "ParserGeneratorLaw" 22 2 yy_Mo_rule := ⟨pg_Mo_rule, ⟨tx_3_109, tx_1_7, ⟨by decide, by decide⟩, by decide⟩, tx_3_107, tx_3_108, by decide +kernel, tx_3_106, ⟨_, rfl, rfl⟩⟩
theorem lc_PG_compile : lc_ok 2 "ParserGeneratorLaw" 23 1 yy_PG_compile := ⟨pg_PG_compile, ⟨tx_1_227, tx_1_1, ⟨by decide, by decide⟩, by decide⟩, tx_1_225, tx_1_226, by decide +kernel, tx_1_224, ⟨_, rfl, rfl⟩⟩
theorem lc_Mo_compile : lc_ok 82 "ParserGeneratorLaw" 27 1 yy_Mo_compile := ⟨pg_Mo_compile, ⟨tx_3_113, tx_1_7, ⟨by decide, by decide⟩, by decide⟩, tx_3_111, tx_3_112, by decide +kernel, tx_3_110, ⟨_, rfl, rfl⟩⟩
theorem lc_PG_empty : lc_ok 3 "ParserGeneratorLaw" 28 1 yy_PG_empty := ⟨pg_PG_empty, ⟨tx_2_74, tx_1_1, ⟨by decide, by decide⟩, by decide⟩, tx_2_72, tx_2_73, by decide +kernel, tx_2_71, ⟨_, rfl, rfl⟩⟩
theorem lc_Mo_empty : lc_ok 85 "ParserGeneratorLaw" 31 1 yy_Mo_empty := ⟨pg_Mo_empty, ⟨tx_3_161, tx_1_7, ⟨by decide, by decide⟩, by decide⟩, tx_3_159, tx_3_160, by decide +kernel, tx_3_158, ⟨_, rfl, rfl⟩⟩
theorem lc_PG_first : lc_ok 4 "ParserGeneratorLaw" 32 1 yy_PG_first := ⟨pg_PG_first, ⟨tx_2_79, tx_1_1, ⟨by decide, by decide⟩, by decide⟩, tx_2_77, tx_2_78, by decide +kernel, tx_2_76, ⟨_, rfl, rfl⟩⟩
theorem lc_Mo_first : lc_ok 86 "ParserGeneratorLaw" 35 1 yy_Mo_first := ⟨pg_Mo_first, ⟨tx_3_169, tx_1_7, ⟨by decide, by decide⟩, by decide⟩, tx_3_167, tx_3_168, by decide +kernel, tx_3_166, ⟨_, rfl, rfl⟩⟩
theorem lc_PG_next : lc_ok 5 "ParserGeneratorLaw" 36 1 yy_PG_next := ⟨pg_PG_next, ⟨tx_2_83, tx_1_1, ⟨by decide, by decide⟩, by decide⟩, tx_2_81, tx_2_82, by decide +kernel, tx_2_80, ⟨_, rfl, rfl⟩⟩
theorem lc_Mo_next : lc_ok 87 "ParserGeneratorLaw" 39 1 yy_Mo_next := ⟨pg_Mo_next, ⟨tx_3_173, tx_1_7, ⟨by decide, by decide⟩, by decide⟩, tx_3_171, tx_3_172, by decide +kernel, tx_3_170, ⟨_, rfl, rfl⟩⟩
theorem lc_PG_clash : lc_ok 6 "ParserGeneratorLaw" 40 1 yy_PG_clash := ⟨pg_PG_clash, ⟨tx_2_87, tx_1_1, ⟨by decide, by decide⟩, by decide⟩, tx_2_85, tx_2_86, by decide +kernel, tx_2_84, ⟨_, rfl, rfl⟩⟩
theorem lc_Mo_clash : lc_ok 88 "ParserGeneratorLaw" 43 1 yy_Mo_clash := ⟨pg_Mo_clash, ⟨tx_3_177, tx_1_7, ⟨by decide, by decide⟩, by decide⟩, tx_3_175, tx_3_176, by decide +kernel, tx_3_174, ⟨_, rfl, rfl⟩⟩
theorem lc_PG_feed : lc_ok 7 "ParserGeneratorLaw" 44 1 yy_PG_feed := ⟨pg_PG_feed, ⟨tx_2_99, tx_1_1, ⟨by decide, by decide⟩, by decide⟩, tx_2_97, tx_2_98, by decide +kernel, tx_2_96, ⟨_, rfl, rfl⟩⟩
theorem lc_Mo_feed : lc_ok 89 "ParserGeneratorLaw" 47 1 yy_Mo_feed := ⟨pg_Mo_feed, ⟨tx_3_185, tx_1_7, ⟨by decide, by decide⟩, by decide⟩, tx_3_183, tx_3_184, by decide +kernel, tx_3_182, ⟨_, rfl, rfl⟩⟩
theorem lc_PG_wipe : lc_ok 8 "ParserGeneratorLaw" 48 0 yy_PG_wipe := ⟨pg_PG_wipe, ⟨tx_2_108, tx_1_1, ⟨by decide, by decide⟩, by decide⟩, tx_2_106, tx_2_107, by decide +kernel, tx_2_105, ⟨_, rfl, rfl⟩⟩
theorem lc_Mo_wipe : lc_ok 90 "ParserGeneratorLaw" 52 0 yy_Mo_wipe := ⟨pg_Mo_wipe, ⟨tx_3_189, tx_1_7, ⟨by decide, by decide⟩, by decide⟩, tx_3_187, tx_3_188, by decide +kernel, tx_3_186, ⟨_, rfl, rfl⟩⟩
theorem lc_PG_parse : lc_ok 9 "ParserGeneratorLaw" 53 0 yy_PG_parse := ⟨pg_PG_parse, ⟨tx_2_112, tx_1_1, ⟨by decide, by decide⟩, by decide⟩, tx_2_110, tx_2_111, by decide +kernel, tx_2_109, ⟨_, rfl, rfl⟩⟩
theorem lc_Mo_parse : lc_ok 102 "ParserGeneratorLaw" 56 0 yy_Mo_parse := ⟨pg_Mo_parse, ⟨tx_3_193, tx_1_7, ⟨by decide, by decide⟩, by decide⟩, tx_3_191, tx_3_192, by decide +kernel, tx_3_190, ⟨_, rfl, rfl⟩⟩
theorem lc_PG_place : lc_ok 10 "ParserGeneratorLaw" 57 0 yy_PG_place := ⟨pg_PG_place, ⟨tx_2_193, tx_1_1, ⟨by decide, by decide⟩, by decide⟩, tx_2_191, tx_2_192, by decide +kernel, tx_2_190, ⟨_, rfl, rfl⟩⟩
theorem lc_Mo_place : lc_ok 103 "ParserGeneratorLaw" 60 0 yy_Mo_place := ⟨pg_Mo_place, ⟨tx_4_1, tx_1_7, ⟨by decide, by decide⟩, by decide⟩, tx_3_239, tx_4_0, by decide +kernel, tx_3_238, ⟨_, rfl, rfl⟩⟩
theorem lc_PG_due : lc_ok 11 "ParserGeneratorLaw" 61 0 yy_PG_due := ⟨pg_PG_due, ⟨tx_2_197, tx_1_1, ⟨by decide, by decide⟩, by decide⟩, tx_2_195, tx_2_196, by decide +kernel, tx_2_194, ⟨_, rfl, rfl⟩⟩
theorem lc_Mo_due : lc_ok 104 "ParserGeneratorLaw" 64 0 yy_Mo_due := ⟨pg_Mo_due, ⟨tx_4_5, tx_1_7, ⟨by decide, by decide⟩, by decide⟩, tx_4_3, tx_4_4, by decide +kernel, tx_4_2, ⟨_, rfl, rfl⟩⟩
theorem lc_PG_tree : lc_ok 12 "ParserGeneratorLaw" 65 2 yy_PG_tree := ⟨pg_PG_tree, ⟨tx_2_201, tx_1_1, ⟨by decide, by decide⟩, by decide⟩, tx_2_199, tx_2_200, by decide +kernel, tx_2_198, ⟨_, rfl, rfl⟩⟩
theorem lc_Mo_tree : lc_ok 105 "ParserGeneratorLaw" 68 2 yy_Mo_tree := ⟨pg_Mo_tree, ⟨tx_4_9, tx_1_7, ⟨by decide, by decide⟩, by decide⟩, tx_4_7, tx_4_8, by decide +kernel, tx_4_6, ⟨_, rfl, rfl⟩⟩
theorem lc_PG_count : lc_ok 13 "ParserGeneratorLaw" 69 1 yy_PG_count := ⟨pg_PG_count, ⟨tx_2_210, tx_1_1, ⟨by decide, by decide⟩, by decide⟩, tx_2_208, tx_2_209, by decide +kernel, tx_2_207, ⟨_, rfl, rfl⟩⟩
theorem lc_Mo_count : lc_ok 106 "ParserGeneratorLaw" 72 1 yy_Mo_count := ⟨pg_Mo_count, ⟨tx_4_13, tx_1_7, ⟨by decide, by decide⟩, by decide⟩, tx_4_11, tx_4_12, by decide +kernel, tx_4_10, ⟨_, rfl, rfl⟩⟩
section LC
variable {p : Program} {l : Launch} {e : Env} {s : State} {m : MethodId} {args : Array Value} {below : List Frame} {meth : Method} {c : Code} {H : Heap} {locs : List Loc} {Z : State → Prop} {cells slots : Nat}
theorem lc_run {R : Room} {pc : Nat} {ls : Array Slot} {rest st0 : List Value} {a : Array Value} {A0 A1 : Nat → Prop} {H0 : Heap} {free : Addr → Prop} {D : va_G} {cl : List vw_C} {ad : Nat → Nat} {cI cZ : ClassId} {lay : List mm_R} {Q : mm_Qt}
    (hr : va_Run p l e R s m args below meth c H locs cells slots 0 0 (F0 m pc ls st0) rest (mm_Qc D cl ad cI cZ lay Q A1 a) free) (hS : va_S A0 H0 H locs) (hA : ∀ q, q < H.size → A1 q → A0 q) (hf : ∀ q, free q → A0 q)
    (kk : ∀ (v : Option mm_V) (M' : mm_M) (H1 : Heap) (locs1 : List Loc), Q v M' → va_P D cl (mm_W ad cI cZ lay M') H1 → va_S A0 H0 H1 locs1 → W p l e R s m args below meth c H1 locs1 cells slots Z (F0 m (pc + 3) ls ((v.map (mm_val ad)).toList ++ rest))) : W p l e R s m args below meth c H locs cells slots Z (F0 m pc ls st0) := by
  intro T hT X
  obtain ⟨v, st₀, t, T', L, h0, X', hL, e1, e2, ⟨⟨v2, M', hv, hp, hb⟩, hz, hk⟩, st⟩ := hr T hT X
  cases hv
  rw [h0] at hz hk
  obtain ⟨t2, a1, b1⟩ := kk v2 M' T'.heap (locs ++ L) hp (by rw [e1]; exact hb)
    ⟨Nat.le_trans hS.1 (by rw [e1]; exact hz), fun q h1 h2 => by rw [e1, hk q (Nat.lt_of_lt_of_le h1 hS.1) (fun z => h2 (hA q (Nat.lt_of_lt_of_le h1 hS.1) z))]; exact hS.2.1 q h1 h2, fun q hq => by
      rcases List.mem_append.mp hq with h | h
      · exact hS.2.2 q h
      · exact hf _ (hL q h)⟩ T' rfl X'
  exact ⟨t2, st t2 a1, b1⟩
set_option maxHeartbeats 1000000 in
/-- a call of the law, by the little machine -/
theorem lc_call {j idx n q : Nat} {me : mm_Y} (hc : lc_ok j R_law idx n me) {D : va_G} {ad : Nat → Nat} {cI cZ : ClassId} {M : mm_M} {pc : Nat} {ls : Array Slot} {st0 : List Value} {Q : mm_Qt} {fl : List mm_F} (hFix : CallFix p m c code 4 s args tb_all R_law) (hnb : ∀ w ∈ nb_all, va_Nw w s) (hK : va_K D cl_all [(cI, .int), (cZ, .boolean)] s)
    (hP : va_P D cl_all (mm_W ad cI cZ ly M) H) (hD : va_D (fun q : Nat => s.heap.size ≤ q) (mm_W ad cI cZ ly M)) (hS : va_S (fun q : Nat => s.heap.size ≤ q) s.heap H locs) {As : List mm_V} {rest : List Value} (hrest : (rest.map fun v => v.category).sum ≤ 8) (hn : As.length = n) (hq : ly[q]? = some (.inr (me.2.1, fl)))
    (hE : mm_Ev pg ly 1000 j (.inr q :: As) M Q) (hst : st0 = (As.map (mm_val ad)).reverse ++ .ref (ad q) :: rest) (hls : ls.size = 4) (hcs : cells ≤ 600000 ∧ slots ≤ 7302250) (hdg : decode code pc = .ok (.invokevirtual idx, 3))
    (kk : ∀ (v : Option mm_V) (M' : mm_M) (H1 : Heap) (locs1 : List Loc), Q v M' → va_P D cl_all (mm_W ad cI cZ ly M') H1 → va_S (fun q : Nat => s.heap.size ≤ q) s.heap H1 locs1 → W p l e room_1 s m args below meth c H1 locs1 cells slots Z (F0 m (pc + 3) ls ((v.map (mm_val ad)).toList ++ rest))) : W p l e room_1 s m args below meth c H locs cells slots Z (F0 m pc ls st0) := by
  obtain ⟨hpg, hcok, hins, hsel, hpar, hlk, C, hcl, hcn⟩ := hc
  have hts := hFix.2.2.2.2
  obtain ⟨hd1, hM⟩ := mm_sound mm_all l D ad cI cZ 1000 j me hpg (.inr q :: As) M Q hE H.size
  have he : (mm_W ad cI cZ ly M)[q]? = some (ad q, .inr (me.2.1, fl.mapIdx (fun j t => mm_fv ad (M q) j t))) := mm_W_at hq
  have hR : (mm_rm (1000 - 1)).frames + 1 ≤ room_1.frames ∧ 8 + (me.2.2.2.1 + 11) + (mm_rm (1000 - 1)).locals ≤ room_1.locals := by
    have := hcok.2.2.2
    simp only [mm_rm, room_1]
    omega
  have hrecv := va_recv hK hP hcl he
  rw [hcn] at hrecv
  have hp : PreV s H me.1.cls (ad q) (mm_Pc D cl_all nb_all ad cI cZ ly (.inr q :: As) M H.size) (As.map (mm_val ad)) := ⟨mm_blind nb_nd, hrecv, fun U hU hW => ⟨rfl, by rw [hU], by rw [hU]; exact hP, va_K.moved hW.alike hK, mm_Nw_warm nb_nd hW hnb, hD.weaken (fun _ _ _ _ => trivial)⟩⟩
  have hAll : ∀ q, mm_A ad ly H.size q → s.heap.size ≤ q := by
    intro q' h
    rcases h with ⟨k, hk, rfl⟩ | h
    · exact hD.2 k _ (mm_W_at (List.getElem?_eq_getElem hk))
    · exact Nat.le_trans hS.1 h
  exact lc_run (va_runV (As := As.map (mm_val ad)) (rest := rest) (Ts := tb_all) (own := R_law) (n := n) hFix hM ⟨callB_of n hts (mm_good tb_gd hcok) rfl rfl rfl (hts _ hcok.2.1) (hts _ hlk) ⟨hcok.2.2.1.1, hcok.2.2.1.2, hpar⟩ hR, hts _ hins, hts _ hsel⟩ hp rfl (by rw [List.length_map]; exact hn) hls hst (lv_room hrest) hdg ⟨by rw [Nat.add_zero]; exact hcs.1, by rw [Nat.add_zero]; exact hcs.2⟩) hS (fun q _ h => hAll q h) hAll kk
end LC
theorem lc_15 (y : Int32) : ∃ j, j < 16 ∧ y &&& 15 = nI j := by
  refine ⟨(y &&& 15).toBitVec.toNat, ?_, ?_⟩
  · rw [Int32.toBitVec_and, BitVec.toNat_and]
    exact Nat.lt_succ_of_le (Nat.le_trans Nat.and_le_right (by decide))
  · apply Int32.toBitVec_inj.mp
    show _ = BitVec.ofNat 32 _
    simp
theorem lc_sub4 (n : Nat) : nI (n + 4) - 4 = nI n := by
  have h : nI (n + 4) = nI n + 4 := (nI_add n 4).symm
  rw [h]
  exact Int32.add_sub_cancel _ _
theorem lc_cmp {L i : Nat} (hL : L ≤ 2048) (hi : i ≤ L) (h : ¬ nI L - 4 < nI i) : i + 4 ≤ L := by
  rcases Nat.lt_or_ge L 4 with h4 | h4
  · exfalso
    have hL4 : L = 0 ∨ L = 1 ∨ L = 2 ∨ L = 3 := by omega
    have hi4 : i = 0 ∨ i = 1 ∨ i = 2 ∨ i = 3 := by omega
    rcases hL4 with rfl | rfl | rfl | rfl <;> rcases hi4 with rfl | rfl | rfl | rfl <;> exact h (by decide)
  · obtain ⟨n, rfl⟩ : ∃ n, L = n + 4 := ⟨L - 4, by omega⟩
    rw [lc_sub4] at h
    have := Nat.not_lt.mp (fun z => h ((nI_ltI (by omega) (by omega)).mpr z))
    omega
