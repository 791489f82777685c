theorem tx_1_11 : (Jvm.Cond.instantiable "ParserGenerator" (5 : Nat)) ∈ tb_all := tb_in1 (List.mem_of_getElem? (i := 11) rfl) rfl
theorem tx_2_218 : (Jvm.Cond.instantiable "ParserGeneratorModel" (34 : Nat)) ∈ tb_all := tb_in2 (List.mem_of_getElem? (i := 218) rfl) rfl
theorem tx_1_10 : (Jvm.Cond.classLink "ParserGeneratorLaw" (7 : Nat) "ParserGenerator") ∈ tb_all := tb_in1 (List.mem_of_getElem? (i := 10) rfl) rfl
theorem tx_1_12 : (Jvm.Cond.methodLink "ParserGeneratorLaw" (9 : Nat) ({ cls := "ParserGenerator", name := "<init>", desc := "()V" } : Jvm.MethodName)) ∈ tb_all := tb_in1 (List.mem_of_getElem? (i := 12) rfl) rfl
theorem tx_1_13 : (Jvm.Cond.instanceMethod ({ cls := "ParserGenerator", name := "<init>", desc := "()V" } : Jvm.MethodName)) ∈ tb_all := tb_in1 (List.mem_of_getElem? (i := 13) rfl) rfl
theorem tx_2_217 : (Jvm.Cond.classLink "ParserGeneratorLaw" (10 : Nat) "ParserGeneratorModel") ∈ tb_all := tb_in2 (List.mem_of_getElem? (i := 217) rfl) rfl
theorem tx_2_219 : (Jvm.Cond.methodLink "ParserGeneratorLaw" (12 : Nat) ({ cls := "ParserGeneratorModel", name := "<init>", desc := "()V" } : Jvm.MethodName)) ∈ tb_all := tb_in2 (List.mem_of_getElem? (i := 219) rfl) rfl
theorem tx_2_220 : (Jvm.Cond.instanceMethod ({ cls := "ParserGeneratorModel", name := "<init>", desc := "()V" } : Jvm.MethodName)) ∈ tb_all := tb_in2 (List.mem_of_getElem? (i := 220) rfl) rfl
theorem tx_2_221 : (Jvm.Cond.code ({ cls := "ParserGeneratorModel", name := "<init>", desc := "()V" } : Jvm.MethodName) prog_8_method_1_code (2 : Nat) (Option.none : Option Jvm.ClassFile.FieldType)) ∈ tb_all := tb_in2 (List.mem_of_getElem? (i := 221) rfl) rfl
theorem tx_1_14 : (Jvm.Cond.code ({ cls := "ParserGenerator", name := "<init>", desc := "()V" } : Jvm.MethodName) prog_1_method_1_code (1 : Nat) (Option.none : Option Jvm.ClassFile.FieldType)) ∈ tb_all := tb_in1 (List.mem_of_getElem? (i := 14) rfl) rfl
/-- the addresses of the regions; the memory behind the two constructors -/
def lq_ad (xs : List Nat) : Nat → Nat := fun k => xs.getD k 0
def lq_M0 (f g : Nat → Int32) : mm_M := fun k => match k with
  | 5 => f
  | 16 => fun j => if j = 3 then -1 else 0
  | 20 => fun j => if j = 4 then -10 else if j = 5 then -10 else 0
  | 21 => fun j => if j = 2 then -1 else if j = 4 then 1 else if j = 6 then -10 else if j = 10 then -1 else if j = 12 then -10 else if j = 13 then -10 else 0
  | 26 => g
  | _ => fun _ => 0
theorem lq_inv {f g : Nat → Int32} (hf : ∀ r, r < 8 → f r = -1) (hg : ∀ r, r < 8 → g r = -1) : lw_inv (lq_M0 f g) := by
  refine ⟨0, fun _ => 0, fun _ => 0, fun _ => 0, fun _ => 0, fun _ => -1, false, fun _ => 0, fun _ => 0, fun _ => 0, fun _ => 0, fun _ => 0, 0, 0, 0, ?_, ?_, ?_, ?_, ?_, ?_, ?_, ?_⟩
  · exact ⟨rfl, fun i hi => absurd hi (Nat.not_lt_zero _), hf⟩
  · exact ⟨rfl, fun i hi => absurd hi (Nat.not_lt_zero _), hg⟩
  · exact ⟨Nat.zero_le _, fun i hi => absurd hi (Nat.not_lt_zero _), fun r _ => Or.inl rfl⟩
  · exact ⟨rfl, fun h => absurd h (by decide)⟩
  · exact ⟨fun _ => rfl, rfl, fun h => absurd h (by decide)⟩
  · exact fun h => absurd h (by decide)
  · exact ⟨Nat.zero_le _, rfl, rfl, fun i hi => absurd hi (Nat.not_lt_zero _)⟩
  · exact ⟨Nat.zero_le _, rfl, rfl, rfl, rfl, rfl, fun i hi => absurd hi (Nat.not_lt_zero _)⟩
abbrev lq_W (cI cZ : ClassId) (x0 x1 x2 x3 x4 x5 x6 x7 x8 x9 x10 x11 x12 x13 x14 x15 x16 x17 x18 x19 x20 x21 x22 x23 x24 x25 x26 x27 x28 x29 x30 x31 x32 x33 x34 x35 x36 x37 x38 x39 x40 : Nat) (f g : Nat → Int32) : va_W := [(x0, .inr (0, [.ref x1, .ref x7, .ref x14, .ref x16, .ref x20])), (x1, .inr (1, [.ref x2, .ref x3, .ref x4, .ref x5, .ref x6, .int 0])), (x2, .inl (cI, 60, .inl (fun _ => 0))), (x3, .inl (cI, 60, .inl (fun _ => 0))), (x4, .inl (cI, 60, .inl (fun _ => 0))), (x5, .inl (cI, 8, .inl f)), (x6, .inl (cI, 60, .inl (fun _ => 0))), (x7, .inr (2, [.ref x1, .ref x8, .ref x9, .ref x10, .ref x11, .ref x12, .ref x13, .int 0, .int 0, .int 0])), (x8, .inl (cZ, 60, .inl (fun _ => 0))), (x9, .inl (cI, 60, .inl (fun _ => 0))), (x10, .inl (cZ, 60, .inl (fun _ => 0))), (x11, .inl (cI, 60, .inl (fun _ => 0))), (x12, .inl (cI, 60, .inl (fun _ => 0))), (x13, .inl (cI, 8, .inl (fun _ => 0))), (x14, .inr (3, [.ref x15, .int 0])), (x15, .inl (cI, 40, .inl (fun _ => 0))), (x16, .inr (4, [.ref x17, .ref x18, .ref x19, .int (-1), .int 0])), (x17, .inl (cI, 90, .inl (fun _ => 0))), (x18, .inl (cI, 90, .inl (fun _ => 0))), (x19, .inl (cI, 90, .inl (fun _ => 0))), (x20, .inr (5, [.ref x1, .ref x7, .ref x14, .ref x16, .int (-10), .int (-10), .int 0])), (x21, .inr (6, [.int 0, .int 0, .int (-1), .int 0, .int 1, .int 0, .int (-10), .int 0, .int 0, .int 0, .int (-1), .int 0, .int (-10), .int (-10), .int 0, .ref x22, .ref x23, .ref x24, .ref x25, .ref x26, .ref x27, .ref x28, .ref x29, .ref x30, .ref x31, .ref x32, .ref x33, .ref x34, .ref x35, .ref x36, .ref x37, .ref x38, .ref x39, .ref x40])), (x22, .inl (cI, 60, .inl (fun _ => 0))), (x23, .inl (cI, 60, .inl (fun _ => 0))), (x24, .inl (cI, 60, .inl (fun _ => 0))), (x25, .inl (cI, 60, .inl (fun _ => 0))), (x26, .inl (cI, 8, .inl g)), (x27, .inl (cI, 8, .inl (fun _ => 0))), (x28, .inl (cZ, 60, .inl (fun _ => 0))), (x29, .inl (cZ, 60, .inl (fun _ => 0))), (x30, .inl (cI, 60, .inl (fun _ => 0))), (x31, .inl (cI, 60, .inl (fun _ => 0))), (x32, .inl (cI, 60, .inl (fun _ => 0))), (x33, .inl (cI, 40, .inl (fun _ => 0))), (x34, .inl (cI, 120, .inl (fun _ => 0))), (x35, .inl (cI, 120, .inl (fun _ => 0))), (x36, .inl (cI, 120, .inl (fun _ => 0))), (x37, .inl (cI, 91, .inl (fun _ => 0))), (x38, .inl (cI, 91, .inl (fun _ => 0))), (x39, .inl (cI, 91, .inl (fun _ => 0))), (x40, .inl (cI, 91, .inl (fun _ => 0)))]
theorem lq_o0 (ad : Nat → Nat) (F : Nat → Int32) : ([some (some 1), some (some 7), some (some 14), some (some 16), some (some 20)] : List mm_F).mapIdx (fun j t => mm_fv ad F j t) = [.ref (ad 1), .ref (ad 7), .ref (ad 14), .ref (ad 16), .ref (ad 20)] := by
  apply List.ext_getElem?
  intro j
  rw [List.getElem?_mapIdx]
  match j with
  | 0 => rfl
  | 1 => rfl
  | 2 => rfl
  | 3 => rfl
  | 4 => rfl
  | j + 5 => rfl
theorem lq_o1 (ad : Nat → Nat) (F : Nat → Int32) : ([some (some 2), some (some 3), some (some 4), some (some 5), some (some 6), none] : List mm_F).mapIdx (fun j t => mm_fv ad F j t) = [.ref (ad 2), .ref (ad 3), .ref (ad 4), .ref (ad 5), .ref (ad 6), .int (F 5)] := by
  apply List.ext_getElem?
  intro j
  rw [List.getElem?_mapIdx]
  match j with
  | 0 => rfl
  | 1 => rfl
  | 2 => rfl
  | 3 => rfl
  | 4 => rfl
  | 5 => rfl
  | j + 6 => rfl
theorem lq_o7 (ad : Nat → Nat) (F : Nat → Int32) : ([some (some 1), some (some 8), some (some 9), some (some 10), some (some 11), some (some 12), some (some 13), none, some none, some none] : List mm_F).mapIdx (fun j t => mm_fv ad F j t) = [.ref (ad 1), .ref (ad 8), .ref (ad 9), .ref (ad 10), .ref (ad 11), .ref (ad 12), .ref (ad 13), .int (F 7), .int (F 8), .int (F 9)] := by
  apply List.ext_getElem?
  intro j
  rw [List.getElem?_mapIdx]
  match j with
  | 0 => rfl
  | 1 => rfl
  | 2 => rfl
  | 3 => rfl
  | 4 => rfl
  | 5 => rfl
  | 6 => rfl
  | 7 => rfl
  | 8 => rfl
  | 9 => rfl
  | j + 10 => rfl
theorem lq_o14 (ad : Nat → Nat) (F : Nat → Int32) : ([some (some 15), none] : List mm_F).mapIdx (fun j t => mm_fv ad F j t) = [.ref (ad 15), .int (F 1)] := by
  apply List.ext_getElem?
  intro j
  rw [List.getElem?_mapIdx]
  match j with
  | 0 => rfl
  | 1 => rfl
  | j + 2 => rfl
theorem lq_o16 (ad : Nat → Nat) (F : Nat → Int32) : ([some (some 17), some (some 18), some (some 19), none, none] : List mm_F).mapIdx (fun j t => mm_fv ad F j t) = [.ref (ad 17), .ref (ad 18), .ref (ad 19), .int (F 3), .int (F 4)] := by
  apply List.ext_getElem?
  intro j
  rw [List.getElem?_mapIdx]
  match j with
  | 0 => rfl
  | 1 => rfl
  | 2 => rfl
  | 3 => rfl
  | 4 => rfl
  | j + 5 => rfl
theorem lq_o20 (ad : Nat → Nat) (F : Nat → Int32) : ([some (some 1), some (some 7), some (some 14), some (some 16), none, none, none] : List mm_F).mapIdx (fun j t => mm_fv ad F j t) = [.ref (ad 1), .ref (ad 7), .ref (ad 14), .ref (ad 16), .int (F 4), .int (F 5), .int (F 6)] := by
  apply List.ext_getElem?
  intro j
  rw [List.getElem?_mapIdx]
  match j with
  | 0 => rfl
  | 1 => rfl
  | 2 => rfl
  | 3 => rfl
  | 4 => rfl
  | 5 => rfl
  | 6 => rfl
  | j + 7 => rfl
theorem lq_o21 (ad : Nat → Nat) (F : Nat → Int32) : ([none, none, none, none, none, none, none, none, none, none, none, none, none, none, none, some (some 22), some (some 23), some (some 24), some (some 25), some (some 26), some (some 27), some (some 28), some (some 29), some (some 30), some (some 31), some (some 32), some (some 33), some (some 34), some (some 35), some (some 36), some (some 37), some (some 38), some (some 39), some (some 40)] : List mm_F).mapIdx (fun j t => mm_fv ad F j t) = [.int (F 0), .int (F 1), .int (F 2), .int (F 3), .int (F 4), .int (F 5), .int (F 6), .int (F 7), .int (F 8), .int (F 9), .int (F 10), .int (F 11), .int (F 12), .int (F 13), .int (F 14), .ref (ad 22), .ref (ad 23), .ref (ad 24), .ref (ad 25), .ref (ad 26), .ref (ad 27), .ref (ad 28), .ref (ad 29), .ref (ad 30), .ref (ad 31), .ref (ad 32), .ref (ad 33), .ref (ad 34), .ref (ad 35), .ref (ad 36), .ref (ad 37), .ref (ad 38), .ref (ad 39), .ref (ad 40)] := by
  apply List.ext_getElem?
  intro j
  rw [List.getElem?_mapIdx]
  match j with
  | 0 => rfl
  | 1 => rfl
  | 2 => rfl
  | 3 => rfl
  | 4 => rfl
  | 5 => rfl
  | 6 => rfl
  | 7 => rfl
  | 8 => rfl
  | 9 => rfl
  | 10 => rfl
  | 11 => rfl
  | 12 => rfl
  | 13 => rfl
  | 14 => rfl
  | 15 => rfl
  | 16 => rfl
  | 17 => rfl
  | 18 => rfl
  | 19 => rfl
  | 20 => rfl
  | 21 => rfl
  | 22 => rfl
  | 23 => rfl
  | 24 => rfl
  | 25 => rfl
  | 26 => rfl
  | 27 => rfl
  | 28 => rfl
  | 29 => rfl
  | 30 => rfl
  | 31 => rfl
  | 32 => rfl
  | 33 => rfl
  | j + 34 => rfl
set_option maxHeartbeats 4000000 in
set_option maxRecDepth 20000 in
theorem lq_same {cI cZ : ClassId} {x0 x1 x2 x3 x4 x5 x6 x7 x8 x9 x10 x11 x12 x13 x14 x15 x16 x17 x18 x19 x20 x21 x22 x23 x24 x25 x26 x27 x28 x29 x30 x31 x32 x33 x34 x35 x36 x37 x38 x39 x40 : Nat} {f g : Nat → Int32} : mm_W (lq_ad [x0, x1, x2, x3, x4, x5, x6, x7, x8, x9, x10, x11, x12, x13, x14, x15, x16, x17, x18, x19, x20, x21, x22, x23, x24, x25, x26, x27, x28, x29, x30, x31, x32, x33, x34, x35, x36, x37, x38, x39, x40]) cI cZ ly (lq_M0 f g) = lq_W cI cZ x0 x1 x2 x3 x4 x5 x6 x7 x8 x9 x10 x11 x12 x13 x14 x15 x16 x17 x18 x19 x20 x21 x22 x23 x24 x25 x26 x27 x28 x29 x30 x31 x32 x33 x34 x35 x36 x37 x38 x39 x40 f g := by
  apply List.ext_getElem?
  intro k
  match k with
  | 0 =>
    refine (mm_W_at (lay := ly) (k := 0) (r := .inr (0, [some (some 1), some (some 7), some (some 14), some (some 16), some (some 20)])) rfl).trans ?_
    show some (_, Sum.inr (0, List.mapIdx _ _)) = _
    rw [lq_o0]
    rfl
  | 1 =>
    refine (mm_W_at (lay := ly) (k := 1) (r := .inr (1, [some (some 2), some (some 3), some (some 4), some (some 5), some (some 6), none])) rfl).trans ?_
    show some (_, Sum.inr (1, List.mapIdx _ _)) = _
    rw [lq_o1]
    rfl
  | 2 => exact mm_W_at (lay := ly) (k := 2) (r := .inl (false, 60)) rfl
  | 3 => exact mm_W_at (lay := ly) (k := 3) (r := .inl (false, 60)) rfl
  | 4 => exact mm_W_at (lay := ly) (k := 4) (r := .inl (false, 60)) rfl
  | 5 => exact mm_W_at (lay := ly) (k := 5) (r := .inl (false, 8)) rfl
  | 6 => exact mm_W_at (lay := ly) (k := 6) (r := .inl (false, 60)) rfl
  | 7 =>
    refine (mm_W_at (lay := ly) (k := 7) (r := .inr (2, [some (some 1), some (some 8), some (some 9), some (some 10), some (some 11), some (some 12), some (some 13), none, some none, some none])) rfl).trans ?_
    show some (_, Sum.inr (2, List.mapIdx _ _)) = _
    rw [lq_o7]
    rfl
  | 8 => exact mm_W_at (lay := ly) (k := 8) (r := .inl (true, 60)) rfl
  | 9 => exact mm_W_at (lay := ly) (k := 9) (r := .inl (false, 60)) rfl
  | 10 => exact mm_W_at (lay := ly) (k := 10) (r := .inl (true, 60)) rfl
  | 11 => exact mm_W_at (lay := ly) (k := 11) (r := .inl (false, 60)) rfl
  | 12 => exact mm_W_at (lay := ly) (k := 12) (r := .inl (false, 60)) rfl
  | 13 => exact mm_W_at (lay := ly) (k := 13) (r := .inl (false, 8)) rfl
  | 14 =>
    refine (mm_W_at (lay := ly) (k := 14) (r := .inr (3, [some (some 15), none])) rfl).trans ?_
    show some (_, Sum.inr (3, List.mapIdx _ _)) = _
    rw [lq_o14]
    rfl
  | 15 => exact mm_W_at (lay := ly) (k := 15) (r := .inl (false, 40)) rfl
  | 16 =>
    refine (mm_W_at (lay := ly) (k := 16) (r := .inr (4, [some (some 17), some (some 18), some (some 19), none, none])) rfl).trans ?_
    show some (_, Sum.inr (4, List.mapIdx _ _)) = _
    rw [lq_o16]
    rfl
  | 17 => exact mm_W_at (lay := ly) (k := 17) (r := .inl (false, 90)) rfl
  | 18 => exact mm_W_at (lay := ly) (k := 18) (r := .inl (false, 90)) rfl
  | 19 => exact mm_W_at (lay := ly) (k := 19) (r := .inl (false, 90)) rfl
  | 20 =>
    refine (mm_W_at (lay := ly) (k := 20) (r := .inr (5, [some (some 1), some (some 7), some (some 14), some (some 16), none, none, none])) rfl).trans ?_
    show some (_, Sum.inr (5, List.mapIdx _ _)) = _
    rw [lq_o20]
    rfl
  | 21 =>
    refine (mm_W_at (lay := ly) (k := 21) (r := .inr (6, [none, none, none, none, none, none, none, none, none, none, none, none, none, none, none, some (some 22), some (some 23), some (some 24), some (some 25), some (some 26), some (some 27), some (some 28), some (some 29), some (some 30), some (some 31), some (some 32), some (some 33), some (some 34), some (some 35), some (some 36), some (some 37), some (some 38), some (some 39), some (some 40)])) rfl).trans ?_
    show some (_, Sum.inr (6, List.mapIdx _ _)) = _
    rw [lq_o21]
    rfl
  | 22 => exact mm_W_at (lay := ly) (k := 22) (r := .inl (false, 60)) rfl
  | 23 => exact mm_W_at (lay := ly) (k := 23) (r := .inl (false, 60)) rfl
  | 24 => exact mm_W_at (lay := ly) (k := 24) (r := .inl (false, 60)) rfl
  | 25 => exact mm_W_at (lay := ly) (k := 25) (r := .inl (false, 60)) rfl
  | 26 => exact mm_W_at (lay := ly) (k := 26) (r := .inl (false, 8)) rfl
  | 27 => exact mm_W_at (lay := ly) (k := 27) (r := .inl (false, 8)) rfl
  | 28 => exact mm_W_at (lay := ly) (k := 28) (r := .inl (true, 60)) rfl
  | 29 => exact mm_W_at (lay := ly) (k := 29) (r := .inl (true, 60)) rfl
  | 30 => exact mm_W_at (lay := ly) (k := 30) (r := .inl (false, 60)) rfl
  | 31 => exact mm_W_at (lay := ly) (k := 31) (r := .inl (false, 60)) rfl
  | 32 => exact mm_W_at (lay := ly) (k := 32) (r := .inl (false, 60)) rfl
  | 33 => exact mm_W_at (lay := ly) (k := 33) (r := .inl (false, 40)) rfl
  | 34 => exact mm_W_at (lay := ly) (k := 34) (r := .inl (false, 120)) rfl
  | 35 => exact mm_W_at (lay := ly) (k := 35) (r := .inl (false, 120)) rfl
  | 36 => exact mm_W_at (lay := ly) (k := 36) (r := .inl (false, 120)) rfl
  | 37 => exact mm_W_at (lay := ly) (k := 37) (r := .inl (false, 91)) rfl
  | 38 => exact mm_W_at (lay := ly) (k := 38) (r := .inl (false, 91)) rfl
  | 39 => exact mm_W_at (lay := ly) (k := 39) (r := .inl (false, 91)) rfl
  | 40 => exact mm_W_at (lay := ly) (k := 40) (r := .inl (false, 91)) rfl
  | k + 41 =>
    rw [List.getElem?_eq_none (show (mm_W _ cI cZ ly (lq_M0 f g)).length ≤ k + 41 by simp [mm_W, ly]), List.getElem?_eq_none (show (lq_W cI cZ x0 x1 x2 x3 x4 x5 x6 x7 x8 x9 x10 x11 x12 x13 x14 x15 x16 x17 x18 x19 x20 x21 x22 x23 x24 x25 x26 x27 x28 x29 x30 x31 x32 x33 x34 x35 x36 x37 x38 x39 x40 f g).length ≤ k + 41 by simp)]
theorem lq_world {D : va_G} {cI cZ : ClassId} {H : Heap} {x0 x1 x2 x3 x4 x5 x6 x7 x8 x9 x10 x11 x12 x13 x14 x15 x16 x17 x18 x19 x20 x21 x22 x23 x24 x25 x26 x27 x28 x29 x30 x31 x32 x33 x34 x35 x36 x37 x38 x39 x40 : Nat} {f g : Nat → Int32} (hP : va_P D cl_all (lq_W cI cZ x0 x1 x2 x3 x4 x5 x6 x7 x8 x9 x10 x11 x12 x13 x14 x15 x16 x17 x18 x19 x20 x21 x22 x23 x24 x25 x26 x27 x28 x29 x30 x31 x32 x33 x34 x35 x36 x37 x38 x39 x40 f g) H) : va_P D cl_all (mm_W (lq_ad [x0, x1, x2, x3, x4, x5, x6, x7, x8, x9, x10, x11, x12, x13, x14, x15, x16, x17, x18, x19, x20, x21, x22, x23, x24, x25, x26, x27, x28, x29, x30, x31, x32, x33, x34, x35, x36, x37, x38, x39, x40]) cI cZ ly (lq_M0 f g)) H := by
  rw [lq_same]; exact hP
theorem lq_D {A : Nat → Prop} {cI cZ : ClassId} {x0 x1 x2 x3 x4 x5 x6 x7 x8 x9 x10 x11 x12 x13 x14 x15 x16 x17 x18 x19 x20 x21 x22 x23 x24 x25 x26 x27 x28 x29 x30 x31 x32 x33 x34 x35 x36 x37 x38 x39 x40 : Nat} {f g : Nat → Int32} (hD : va_D A (lq_W cI cZ x0 x1 x2 x3 x4 x5 x6 x7 x8 x9 x10 x11 x12 x13 x14 x15 x16 x17 x18 x19 x20 x21 x22 x23 x24 x25 x26 x27 x28 x29 x30 x31 x32 x33 x34 x35 x36 x37 x38 x39 x40 f g)) : va_D A (mm_W (lq_ad [x0, x1, x2, x3, x4, x5, x6, x7, x8, x9, x10, x11, x12, x13, x14, x15, x16, x17, x18, x19, x20, x21, x22, x23, x24, x25, x26, x27, x28, x29, x30, x31, x32, x33, x34, x35, x36, x37, x38, x39, x40]) cI cZ ly (lq_M0 f g)) := by
  rw [lq_same]; exact hD
theorem cgd_Mo : GoodIn tb_all cws_Mo := fun w hw => by
  rcases List.mem_cons.mp hw with rfl | hw
  · exact ⟨tx_2_221, tb_gd _ tx_2_221⟩
  · exact ⟨hw, tb_gd w hw⟩
theorem cgd_PG : GoodIn tb_all cws_PG := fun w hw => by
  rcases List.mem_cons.mp hw with rfl | hw
  · exact ⟨tx_1_14, tb_gd _ tx_1_14⟩
  · exact ⟨hw, tb_gd w hw⟩
set_option maxHeartbeats 8000000 in
set_option maxRecDepth 100000 in
/-- THE LAW, from its entry -/
theorem whole_start {p : Program} {e : Env} {s : State} {m : MethodId} {below : List Frame} {meth : Method} {c : Code} (l : Launch) {b L : Nat} {xs : Nat → Int32} (hL : L ≤ 2048) (C0 : lw_At p s m meth c b L xs) : W p l e room_1 s m #[Value.ref b] below meth c s.heap [] 0 0 (lw_Z below #[Value.ref b] s) (entryFrame m ([Value.ref b] : List Value).toArray 4) := by
  obtain ⟨hx, hb, hr, hml, hown, hts, hX, hbl, hlocks, hgv⟩ := id C0
  have hA : ∀ q : Nat, s.heap.size ≤ q → (fun q : Nat => s.heap.size ≤ q) q := fun _ h => h
  have hts' : ∀ w ∈ tb_all, w.before #[Value.ref b] s = true := fun w h => hts w (List.mem_filter.mp h).1
  obtain ⟨c0, iS0, hKn0⟩ := u_known (C := "ParserGenerator") (T := ct_0) (N := 5) (n := 5) hts' cw_0 (hts' _ tx_1_11)
  obtain ⟨c1, iS1, hKn1⟩ := u_known (C := "ParserGenerator$Grammar") (T := ct_1) (N := 6) (n := 6) hts' cw_1 (hts' _ tx_1_19)
  obtain ⟨c2, iS2, hKn2⟩ := u_known (C := "ParserGenerator$Analysis") (T := ct_2) (N := 10) (n := 10) hts' cw_2 (hts' _ tx_1_54)
  obtain ⟨c3, iS3, hKn3⟩ := u_known (C := "ParserGenerator$Input") (T := ct_3) (N := 2) (n := 2) hts' cw_3 (hts' _ tx_1_99)
  obtain ⟨c4, iS4, hKn4⟩ := u_known (C := "ParserGenerator$Forest") (T := ct_4) (N := 5) (n := 5) hts' cw_4 (hts' _ tx_1_113)
  obtain ⟨c5, iS5, hKn5⟩ := u_known (C := "ParserGenerator$Parser") (T := ct_5) (N := 7) (n := 7) hts' cw_5 (hts' _ tx_1_136)
  obtain ⟨c6, iS6, hKn6⟩ := u_known (C := "ParserGeneratorModel") (T := ct_6) (N := 34) (n := 34) hts' cw_6 (hts' _ tx_2_218)
  obtain ⟨D, hKc⟩ : ∃ D : va_G, ∀ (k : Nat) (q : vw_C), cl_all[k]? = some q → u_Kn s q.1 q.2.1 q.2.2 (D.1 k) (D.2 k) := by
    refine ⟨(fun k => if k = 0 then c0 else if k = 1 then c1 else if k = 2 then c2 else if k = 3 then c3 else if k = 4 then c4 else if k = 5 then c5 else c6, fun k => if k = 0 then iS0 else if k = 1 then iS1 else if k = 2 then iS2 else if k = 3 then iS3 else if k = 4 then iS4 else if k = 5 then iS5 else iS6), ?_⟩
    intro k q hq
    match k, hq with
    | 0, hq => cases hq; exact hKn0
    | 1, hq => cases hq; exact hKn1
    | 2, hq => cases hq; exact hKn2
    | 3, hq => cases hq; exact hKn3
    | 4, hq => cases hq; exact hKn4
    | 5, hq => cases hq; exact hKn5
    | 6, hq => cases hq; exact hKn6
    | k + 7, hq => cases hq
  obtain ⟨cI, kI, compI, aI1, aI2, aI3⟩ := Cond.arrayClass_spec (type := .int) (hts' _ tx_1_52)
  obtain ⟨cZ, kZ, compZ, aZ1, aZ2, aZ3⟩ := Cond.arrayClass_spec (type := .boolean) (hts' _ tx_1_97)
  have hK : va_K D cl_all [(cI, .int), (cZ, .boolean)] s := by
    refine ⟨hKc, fun k q h => ?_⟩
    match k, h with
    | 0, h => cases h; exact ⟨fun n z => ⟨fun k h => (by cases h), kI, aI2, compI, aI3⟩, aI1⟩
    | 1, h => cases h; exact ⟨fun n z => ⟨fun k h => (by cases h), kZ, aZ2, compZ, aZ3⟩, aZ1⟩
    | k + 2, h => cases h
  have hcn : ∀ w ∈ cnb, va_Nw w s := fun w h => va_Nw.of (cnb_on w h) (hts w (cnb_in w h))
  have hS : va_S (fun q : Nat => s.heap.size ≤ q) s.heap s.heap [] := va_S.rf
  have hP : va_P D cl_all [] s.heap := fun k q h => by simp at h
  have hD : va_D (fun q : Nat => s.heap.size ≤ q) [] := ⟨fun i j p q h => by simp at h, fun k q h => by simp at h⟩
  have hl := lv_entry ([.ref b]) (n := 4) (Nat.le_of_ble_eq_true rfl)
  rw [lg_entry_eq]
  generalize (lg_sl ([.ref b]) ++ List.replicate (4 - (lg_sl ([.ref b])).length) Slot.unset).toArray = ls at hl ⊢
  have hl : lv_has ls 4 [(0, .ref b)] := hl
  refine va_new (ci := 0) (fs := [.null, .null, .null, .null, .null]) (C := "ParserGenerator") (T := ct_0) (N := 5) hx hb hts' cw_0 cy_0 cd_0 hown (hts' _ tx_1_10) (hts' _ tx_1_11) (hts' _ tx_1_1) hK hP hD hS hA rfl (fun j hj => by rcases (show j = 0 ∨ j = 1 ∨ j = 2 ∨ j = 3 ∨ j = 4 by omega) with rfl | rfl | rfl | rfl | rfl <;> rfl) (Nat.le_of_ble_eq_true rfl) (Nat.le_of_ble_eq_true rfl) dl_0 (fun x0 H hP hD hS => ?_)
  have hP : va_P D cl_all [(x0, .inr (0, [.null, .null, .null, .null, .null]))] H := hP
  have hD : va_D (fun q : Nat => s.heap.size ≤ q) [(x0, .inr (0, [.null, .null, .null, .null, .null]))] := hD
  refine W.widen (k := 1) (n := 5) (by omega) (by omega) ?_
  refine lv_dup hx hb dl_3 rfl ?_
  have hPc := hP.sub (ws' := [(x0, .inr (0, [.null, .null, .null, .null, .null]))]) [0] rfl
  have hDc := hD.sub (ws' := [(x0, .inr (0, [.null, .null, .null, .null, .null]))]) [0] (by decide) rfl
  have hFc := va_free (wc := [(x0, .inr (0, [.null, .null, .null, .null, .null]))]) hD hS hA [0] rfl
  refine va_callv (va_runI (As := []) (rest := [.ref x0]) ⟨hx, hb, hml, hown, hts'⟩ (c_PG_init l D cI cZ x0 H.size) (cwI 0 hts' cgd_PG rfl rfl rfl (hts' _ tx_1_1) (hts' _ tx_1_12) (hts' _ tx_1_13) rfl (by decide +kernel) ⟨Nat.le_of_ble_eq_true rfl, Nat.le_of_ble_eq_true rfl⟩) ⟨fun a U g mk q => by obtain ⟨q0, q1, qP, qK, qN, qD⟩ := q; exact ⟨q0, q1, qP, va_K.moved (u := U) (U := U.calling g mk a) (Vm.Alike.refl U.vm) qK, fun w hw => va_Nw.same (u := U) (U := U.calling g mk a) (cnb_on w hw) rfl (qN w hw), qD⟩, fun U hU hW => ⟨rfl, by rw [hU], by rw [hU]; exact hPc, va_K.moved hW.alike hK, cnb_warm hW hcn, hDc.weaken (fun _ _ _ _ => trivial)⟩⟩ rfl rfl hl.1 rfl (lv_room (Nat.le_of_ble_eq_true rfl)) dl_4 ⟨Nat.le_of_ble_eq_true rfl, Nat.le_of_ble_eq_true rfl⟩) hS (fun q _ h => hFc q h) hFc (fun u t H1 locs ht hvm hw hB hz1 hk1 hS => ?_)
  obtain ⟨x1, x2, x3, x4, x5, x6, x7, x8, x9, x10, x11, x12, x13, x14, x15, x16, x17, x18, x19, x20, f, hf, hP1, hK1, hD1⟩ := hB
  rw [ht] at hP1
  obtain ⟨hP, hD⟩ := va_join (wr := []) (w1 := cw1_PG cI cZ x0 x1 x2 x3 x4 x5 x6 x7 x8 x9 x10 x11 x12 x13 x14 x15 x16 x17 x18 x19 x20 f) hP hD [0] [] rfl rfl (by decide) (by decide) hk1 hFc hP1 hD1
  generalize H1 = H at hP hS ⊢
  have hP : va_P D cl_all [(x0, .inr (0, [.ref x1, .ref x7, .ref x14, .ref x16, .ref x20])), (x1, .inr (1, [.ref x2, .ref x3, .ref x4, .ref x5, .ref x6, .int 0])), (x2, .inl (cI, 60, .inl (fun _ => 0))), (x3, .inl (cI, 60, .inl (fun _ => 0))), (x4, .inl (cI, 60, .inl (fun _ => 0))), (x5, .inl (cI, 8, .inl f)), (x6, .inl (cI, 60, .inl (fun _ => 0))), (x7, .inr (2, [.ref x1, .ref x8, .ref x9, .ref x10, .ref x11, .ref x12, .ref x13, .int 0, .int 0, .int 0])), (x8, .inl (cZ, 60, .inl (fun _ => 0))), (x9, .inl (cI, 60, .inl (fun _ => 0))), (x10, .inl (cZ, 60, .inl (fun _ => 0))), (x11, .inl (cI, 60, .inl (fun _ => 0))), (x12, .inl (cI, 60, .inl (fun _ => 0))), (x13, .inl (cI, 8, .inl (fun _ => 0))), (x14, .inr (3, [.ref x15, .int 0])), (x15, .inl (cI, 40, .inl (fun _ => 0))), (x16, .inr (4, [.ref x17, .ref x18, .ref x19, .int (-1), .int 0])), (x17, .inl (cI, 90, .inl (fun _ => 0))), (x18, .inl (cI, 90, .inl (fun _ => 0))), (x19, .inl (cI, 90, .inl (fun _ => 0))), (x20, .inr (5, [.ref x1, .ref x7, .ref x14, .ref x16, .int (-10), .int (-10), .int 0]))] H := hP
  have hD : va_D (fun q : Nat => s.heap.size ≤ q) [(x0, .inr (0, [.ref x1, .ref x7, .ref x14, .ref x16, .ref x20])), (x1, .inr (1, [.ref x2, .ref x3, .ref x4, .ref x5, .ref x6, .int 0])), (x2, .inl (cI, 60, .inl (fun _ => 0))), (x3, .inl (cI, 60, .inl (fun _ => 0))), (x4, .inl (cI, 60, .inl (fun _ => 0))), (x5, .inl (cI, 8, .inl f)), (x6, .inl (cI, 60, .inl (fun _ => 0))), (x7, .inr (2, [.ref x1, .ref x8, .ref x9, .ref x10, .ref x11, .ref x12, .ref x13, .int 0, .int 0, .int 0])), (x8, .inl (cZ, 60, .inl (fun _ => 0))), (x9, .inl (cI, 60, .inl (fun _ => 0))), (x10, .inl (cZ, 60, .inl (fun _ => 0))), (x11, .inl (cI, 60, .inl (fun _ => 0))), (x12, .inl (cI, 60, .inl (fun _ => 0))), (x13, .inl (cI, 8, .inl (fun _ => 0))), (x14, .inr (3, [.ref x15, .int 0])), (x15, .inl (cI, 40, .inl (fun _ => 0))), (x16, .inr (4, [.ref x17, .ref x18, .ref x19, .int (-1), .int 0])), (x17, .inl (cI, 90, .inl (fun _ => 0))), (x18, .inl (cI, 90, .inl (fun _ => 0))), (x19, .inl (cI, 90, .inl (fun _ => 0))), (x20, .inr (5, [.ref x1, .ref x7, .ref x14, .ref x16, .int (-10), .int (-10), .int 0]))] := hD
  refine W.widen (k := 21) (n := 901) (by omega) (by omega) ?_
  refine lv_astore_n (lv' := [(1, .ref x0), (0, .ref b)]) hx hb dl_7 rfl hl (by decide) rfl (fun ls hl => ?_)
  refine va_new (ci := 6) (fs := [.int 0, .int 0, .int 0, .int 0, .int 0, .int 0, .int 0, .int 0, .int 0, .int 0, .int 0, .int 0, .int 0, .int 0, .int 0, .null, .null, .null, .null, .null, .null, .null, .null, .null, .null, .null, .null, .null, .null, .null, .null, .null, .null, .null]) (C := "ParserGeneratorModel") (T := ct_6) (N := 34) hx hb hts' cw_6 cy_6 cd_6 hown (hts' _ tx_2_217) (hts' _ tx_2_218) (hts' _ tx_1_7) hK hP hD hS hA rfl (fun j hj => by rcases (show j = 0 ∨ j = 1 ∨ j = 2 ∨ j = 3 ∨ j = 4 ∨ j = 5 ∨ j = 6 ∨ j = 7 ∨ j = 8 ∨ j = 9 ∨ j = 10 ∨ j = 11 ∨ j = 12 ∨ j = 13 ∨ j = 14 ∨ j = 15 ∨ j = 16 ∨ j = 17 ∨ j = 18 ∨ j = 19 ∨ j = 20 ∨ j = 21 ∨ j = 22 ∨ j = 23 ∨ j = 24 ∨ j = 25 ∨ j = 26 ∨ j = 27 ∨ j = 28 ∨ j = 29 ∨ j = 30 ∨ j = 31 ∨ j = 32 ∨ j = 33 by omega) with rfl | rfl | rfl | rfl | rfl | rfl | rfl | rfl | rfl | rfl | rfl | rfl | rfl | rfl | rfl | rfl | rfl | rfl | rfl | rfl | rfl | rfl | rfl | rfl | rfl | rfl | rfl | rfl | rfl | rfl | rfl | rfl | rfl | rfl <;> rfl) (Nat.le_of_ble_eq_true rfl) (Nat.le_of_ble_eq_true rfl) dl_8 (fun x21 H hP hD hS => ?_)
  have hP : va_P D cl_all [(x0, .inr (0, [.ref x1, .ref x7, .ref x14, .ref x16, .ref x20])), (x1, .inr (1, [.ref x2, .ref x3, .ref x4, .ref x5, .ref x6, .int 0])), (x2, .inl (cI, 60, .inl (fun _ => 0))), (x3, .inl (cI, 60, .inl (fun _ => 0))), (x4, .inl (cI, 60, .inl (fun _ => 0))), (x5, .inl (cI, 8, .inl f)), (x6, .inl (cI, 60, .inl (fun _ => 0))), (x7, .inr (2, [.ref x1, .ref x8, .ref x9, .ref x10, .ref x11, .ref x12, .ref x13, .int 0, .int 0, .int 0])), (x8, .inl (cZ, 60, .inl (fun _ => 0))), (x9, .inl (cI, 60, .inl (fun _ => 0))), (x10, .inl (cZ, 60, .inl (fun _ => 0))), (x11, .inl (cI, 60, .inl (fun _ => 0))), (x12, .inl (cI, 60, .inl (fun _ => 0))), (x13, .inl (cI, 8, .inl (fun _ => 0))), (x14, .inr (3, [.ref x15, .int 0])), (x15, .inl (cI, 40, .inl (fun _ => 0))), (x16, .inr (4, [.ref x17, .ref x18, .ref x19, .int (-1), .int 0])), (x17, .inl (cI, 90, .inl (fun _ => 0))), (x18, .inl (cI, 90, .inl (fun _ => 0))), (x19, .inl (cI, 90, .inl (fun _ => 0))), (x20, .inr (5, [.ref x1, .ref x7, .ref x14, .ref x16, .int (-10), .int (-10), .int 0])), (x21, .inr (6, [.int 0, .int 0, .int 0, .int 0, .int 0, .int 0, .int 0, .int 0, .int 0, .int 0, .int 0, .int 0, .int 0, .int 0, .int 0, .null, .null, .null, .null, .null, .null, .null, .null, .null, .null, .null, .null, .null, .null, .null, .null, .null, .null, .null]))] H := hP
  have hD : va_D (fun q : Nat => s.heap.size ≤ q) [(x0, .inr (0, [.ref x1, .ref x7, .ref x14, .ref x16, .ref x20])), (x1, .inr (1, [.ref x2, .ref x3, .ref x4, .ref x5, .ref x6, .int 0])), (x2, .inl (cI, 60, .inl (fun _ => 0))), (x3, .inl (cI, 60, .inl (fun _ => 0))), (x4, .inl (cI, 60, .inl (fun _ => 0))), (x5, .inl (cI, 8, .inl f)), (x6, .inl (cI, 60, .inl (fun _ => 0))), (x7, .inr (2, [.ref x1, .ref x8, .ref x9, .ref x10, .ref x11, .ref x12, .ref x13, .int 0, .int 0, .int 0])), (x8, .inl (cZ, 60, .inl (fun _ => 0))), (x9, .inl (cI, 60, .inl (fun _ => 0))), (x10, .inl (cZ, 60, .inl (fun _ => 0))), (x11, .inl (cI, 60, .inl (fun _ => 0))), (x12, .inl (cI, 60, .inl (fun _ => 0))), (x13, .inl (cI, 8, .inl (fun _ => 0))), (x14, .inr (3, [.ref x15, .int 0])), (x15, .inl (cI, 40, .inl (fun _ => 0))), (x16, .inr (4, [.ref x17, .ref x18, .ref x19, .int (-1), .int 0])), (x17, .inl (cI, 90, .inl (fun _ => 0))), (x18, .inl (cI, 90, .inl (fun _ => 0))), (x19, .inl (cI, 90, .inl (fun _ => 0))), (x20, .inr (5, [.ref x1, .ref x7, .ref x14, .ref x16, .int (-10), .int (-10), .int 0])), (x21, .inr (6, [.int 0, .int 0, .int 0, .int 0, .int 0, .int 0, .int 0, .int 0, .int 0, .int 0, .int 0, .int 0, .int 0, .int 0, .int 0, .null, .null, .null, .null, .null, .null, .null, .null, .null, .null, .null, .null, .null, .null, .null, .null, .null, .null, .null]))] := hD
  refine W.widen (k := 22) (n := 935) (by omega) (by omega) ?_
  refine lv_dup hx hb dl_11 rfl ?_
  have hPc := hP.sub (ws' := [(x21, .inr (6, [.int 0, .int 0, .int 0, .int 0, .int 0, .int 0, .int 0, .int 0, .int 0, .int 0, .int 0, .int 0, .int 0, .int 0, .int 0, .null, .null, .null, .null, .null, .null, .null, .null, .null, .null, .null, .null, .null, .null, .null, .null, .null, .null, .null]))]) [21] rfl
  have hDc := hD.sub (ws' := [(x21, .inr (6, [.int 0, .int 0, .int 0, .int 0, .int 0, .int 0, .int 0, .int 0, .int 0, .int 0, .int 0, .int 0, .int 0, .int 0, .int 0, .null, .null, .null, .null, .null, .null, .null, .null, .null, .null, .null, .null, .null, .null, .null, .null, .null, .null, .null]))]) [21] (by decide) rfl
  have hFc := va_free (wc := [(x21, .inr (6, [.int 0, .int 0, .int 0, .int 0, .int 0, .int 0, .int 0, .int 0, .int 0, .int 0, .int 0, .int 0, .int 0, .int 0, .int 0, .null, .null, .null, .null, .null, .null, .null, .null, .null, .null, .null, .null, .null, .null, .null, .null, .null, .null, .null]))]) hD hS hA [21] rfl
  refine va_callv (va_runI (As := []) (rest := [.ref x21]) ⟨hx, hb, hml, hown, hts'⟩ (c_Mo_init l D cI cZ x21 H.size) (cwI 0 hts' cgd_Mo rfl rfl rfl (hts' _ tx_1_7) (hts' _ tx_2_219) (hts' _ tx_2_220) rfl (by decide +kernel) ⟨Nat.le_of_ble_eq_true rfl, Nat.le_of_ble_eq_true rfl⟩) ⟨fun a U g mk q => by obtain ⟨q0, q1, qP, qK, qD⟩ := q; exact ⟨q0, q1, qP, va_K.moved (u := U) (U := U.calling g mk a) (Vm.Alike.refl U.vm) qK, qD⟩, fun U hU hW => ⟨rfl, by rw [hU], by rw [hU]; exact hPc, va_K.moved hW.alike hK, hDc.weaken (fun _ _ _ _ => trivial)⟩⟩ rfl rfl hl.1 rfl (lv_room (Nat.le_of_ble_eq_true rfl)) dl_12 ⟨Nat.le_of_ble_eq_true rfl, Nat.le_of_ble_eq_true rfl⟩) hS (fun q _ h => hFc q h) hFc (fun u t H1 locs ht hvm hw hB hz1 hk1 hS => ?_)
  obtain ⟨x22, x23, x24, x25, x26, x27, x28, x29, x30, x31, x32, x33, x34, x35, x36, x37, x38, x39, x40, g, hg, hP1, hK1, hD1⟩ := hB
  rw [ht] at hP1
  obtain ⟨hP, hD⟩ := va_join (wr := [(x0, .inr (0, [.ref x1, .ref x7, .ref x14, .ref x16, .ref x20])), (x1, .inr (1, [.ref x2, .ref x3, .ref x4, .ref x5, .ref x6, .int 0])), (x2, .inl (cI, 60, .inl (fun _ => 0))), (x3, .inl (cI, 60, .inl (fun _ => 0))), (x4, .inl (cI, 60, .inl (fun _ => 0))), (x5, .inl (cI, 8, .inl f)), (x6, .inl (cI, 60, .inl (fun _ => 0))), (x7, .inr (2, [.ref x1, .ref x8, .ref x9, .ref x10, .ref x11, .ref x12, .ref x13, .int 0, .int 0, .int 0])), (x8, .inl (cZ, 60, .inl (fun _ => 0))), (x9, .inl (cI, 60, .inl (fun _ => 0))), (x10, .inl (cZ, 60, .inl (fun _ => 0))), (x11, .inl (cI, 60, .inl (fun _ => 0))), (x12, .inl (cI, 60, .inl (fun _ => 0))), (x13, .inl (cI, 8, .inl (fun _ => 0))), (x14, .inr (3, [.ref x15, .int 0])), (x15, .inl (cI, 40, .inl (fun _ => 0))), (x16, .inr (4, [.ref x17, .ref x18, .ref x19, .int (-1), .int 0])), (x17, .inl (cI, 90, .inl (fun _ => 0))), (x18, .inl (cI, 90, .inl (fun _ => 0))), (x19, .inl (cI, 90, .inl (fun _ => 0))), (x20, .inr (5, [.ref x1, .ref x7, .ref x14, .ref x16, .int (-10), .int (-10), .int 0]))]) (w1 := cw1_Mo cI cZ x21 x22 x23 x24 x25 x26 x27 x28 x29 x30 x31 x32 x33 x34 x35 x36 x37 x38 x39 x40 g) hP hD [21] [0, 1, 2, 3, 4, 5, 6, 7, 8, 9, 10, 11, 12, 13, 14, 15, 16, 17, 18, 19, 20] rfl rfl (by decide) (by decide) hk1 hFc hP1 hD1
  generalize H1 = H at hP hS ⊢
  have hP : va_P D cl_all [(x0, .inr (0, [.ref x1, .ref x7, .ref x14, .ref x16, .ref x20])), (x1, .inr (1, [.ref x2, .ref x3, .ref x4, .ref x5, .ref x6, .int 0])), (x2, .inl (cI, 60, .inl (fun _ => 0))), (x3, .inl (cI, 60, .inl (fun _ => 0))), (x4, .inl (cI, 60, .inl (fun _ => 0))), (x5, .inl (cI, 8, .inl f)), (x6, .inl (cI, 60, .inl (fun _ => 0))), (x7, .inr (2, [.ref x1, .ref x8, .ref x9, .ref x10, .ref x11, .ref x12, .ref x13, .int 0, .int 0, .int 0])), (x8, .inl (cZ, 60, .inl (fun _ => 0))), (x9, .inl (cI, 60, .inl (fun _ => 0))), (x10, .inl (cZ, 60, .inl (fun _ => 0))), (x11, .inl (cI, 60, .inl (fun _ => 0))), (x12, .inl (cI, 60, .inl (fun _ => 0))), (x13, .inl (cI, 8, .inl (fun _ => 0))), (x14, .inr (3, [.ref x15, .int 0])), (x15, .inl (cI, 40, .inl (fun _ => 0))), (x16, .inr (4, [.ref x17, .ref x18, .ref x19, .int (-1), .int 0])), (x17, .inl (cI, 90, .inl (fun _ => 0))), (x18, .inl (cI, 90, .inl (fun _ => 0))), (x19, .inl (cI, 90, .inl (fun _ => 0))), (x20, .inr (5, [.ref x1, .ref x7, .ref x14, .ref x16, .int (-10), .int (-10), .int 0])), (x21, .inr (6, [.int 0, .int 0, .int (-1), .int 0, .int 1, .int 0, .int (-10), .int 0, .int 0, .int 0, .int (-1), .int 0, .int (-10), .int (-10), .int 0, .ref x22, .ref x23, .ref x24, .ref x25, .ref x26, .ref x27, .ref x28, .ref x29, .ref x30, .ref x31, .ref x32, .ref x33, .ref x34, .ref x35, .ref x36, .ref x37, .ref x38, .ref x39, .ref x40])), (x22, .inl (cI, 60, .inl (fun _ => 0))), (x23, .inl (cI, 60, .inl (fun _ => 0))), (x24, .inl (cI, 60, .inl (fun _ => 0))), (x25, .inl (cI, 60, .inl (fun _ => 0))), (x26, .inl (cI, 8, .inl g)), (x27, .inl (cI, 8, .inl (fun _ => 0))), (x28, .inl (cZ, 60, .inl (fun _ => 0))), (x29, .inl (cZ, 60, .inl (fun _ => 0))), (x30, .inl (cI, 60, .inl (fun _ => 0))), (x31, .inl (cI, 60, .inl (fun _ => 0))), (x32, .inl (cI, 60, .inl (fun _ => 0))), (x33, .inl (cI, 40, .inl (fun _ => 0))), (x34, .inl (cI, 120, .inl (fun _ => 0))), (x35, .inl (cI, 120, .inl (fun _ => 0))), (x36, .inl (cI, 120, .inl (fun _ => 0))), (x37, .inl (cI, 91, .inl (fun _ => 0))), (x38, .inl (cI, 91, .inl (fun _ => 0))), (x39, .inl (cI, 91, .inl (fun _ => 0))), (x40, .inl (cI, 91, .inl (fun _ => 0)))] H := hP
  have hD : va_D (fun q : Nat => s.heap.size ≤ q) [(x0, .inr (0, [.ref x1, .ref x7, .ref x14, .ref x16, .ref x20])), (x1, .inr (1, [.ref x2, .ref x3, .ref x4, .ref x5, .ref x6, .int 0])), (x2, .inl (cI, 60, .inl (fun _ => 0))), (x3, .inl (cI, 60, .inl (fun _ => 0))), (x4, .inl (cI, 60, .inl (fun _ => 0))), (x5, .inl (cI, 8, .inl f)), (x6, .inl (cI, 60, .inl (fun _ => 0))), (x7, .inr (2, [.ref x1, .ref x8, .ref x9, .ref x10, .ref x11, .ref x12, .ref x13, .int 0, .int 0, .int 0])), (x8, .inl (cZ, 60, .inl (fun _ => 0))), (x9, .inl (cI, 60, .inl (fun _ => 0))), (x10, .inl (cZ, 60, .inl (fun _ => 0))), (x11, .inl (cI, 60, .inl (fun _ => 0))), (x12, .inl (cI, 60, .inl (fun _ => 0))), (x13, .inl (cI, 8, .inl (fun _ => 0))), (x14, .inr (3, [.ref x15, .int 0])), (x15, .inl (cI, 40, .inl (fun _ => 0))), (x16, .inr (4, [.ref x17, .ref x18, .ref x19, .int (-1), .int 0])), (x17, .inl (cI, 90, .inl (fun _ => 0))), (x18, .inl (cI, 90, .inl (fun _ => 0))), (x19, .inl (cI, 90, .inl (fun _ => 0))), (x20, .inr (5, [.ref x1, .ref x7, .ref x14, .ref x16, .int (-10), .int (-10), .int 0])), (x21, .inr (6, [.int 0, .int 0, .int (-1), .int 0, .int 1, .int 0, .int (-10), .int 0, .int 0, .int 0, .int (-1), .int 0, .int (-10), .int (-10), .int 0, .ref x22, .ref x23, .ref x24, .ref x25, .ref x26, .ref x27, .ref x28, .ref x29, .ref x30, .ref x31, .ref x32, .ref x33, .ref x34, .ref x35, .ref x36, .ref x37, .ref x38, .ref x39, .ref x40])), (x22, .inl (cI, 60, .inl (fun _ => 0))), (x23, .inl (cI, 60, .inl (fun _ => 0))), (x24, .inl (cI, 60, .inl (fun _ => 0))), (x25, .inl (cI, 60, .inl (fun _ => 0))), (x26, .inl (cI, 8, .inl g)), (x27, .inl (cI, 8, .inl (fun _ => 0))), (x28, .inl (cZ, 60, .inl (fun _ => 0))), (x29, .inl (cZ, 60, .inl (fun _ => 0))), (x30, .inl (cI, 60, .inl (fun _ => 0))), (x31, .inl (cI, 60, .inl (fun _ => 0))), (x32, .inl (cI, 60, .inl (fun _ => 0))), (x33, .inl (cI, 40, .inl (fun _ => 0))), (x34, .inl (cI, 120, .inl (fun _ => 0))), (x35, .inl (cI, 120, .inl (fun _ => 0))), (x36, .inl (cI, 120, .inl (fun _ => 0))), (x37, .inl (cI, 91, .inl (fun _ => 0))), (x38, .inl (cI, 91, .inl (fun _ => 0))), (x39, .inl (cI, 91, .inl (fun _ => 0))), (x40, .inl (cI, 91, .inl (fun _ => 0)))] := hD
  refine W.widen (k := 41) (n := 2255) (by omega) (by omega) ?_
  refine lv_astore_n (lv' := [(2, .ref x21), (1, .ref x0), (0, .ref b)]) hx hb dl_15 rfl hl (by decide) rfl (fun ls hl => ?_)
  refine lv_iconst (v := 0) hx hb dl_16 (by decide) ?_
  refine lv_istore_n (lv' := [(3, .int 0), (2, .ref x21), (1, .ref x0), (0, .ref b)]) hx hb dl_17 rfl hl (by decide) rfl (fun ls hl => ?_)
  have hIv : lw_inv (lq_M0 f g) := lq_inv hf hg
  exact law_loop (ad := lq_ad [x0, x1, x2, x3, x4, x5, x6, x7, x8, x9, x10, x11, x12, x13, x14, x15, x16, x17, x18, x19, x20, x21, x22, x23, x24, x25, x26, x27, x28, x29, x30, x31, x32, x33, x34, x35, x36, x37, x38, x39, x40]) hL C0 hK (L + 1) 0 0 (Nat.zero_le L) (by omega) nI_0.symm (lq_M0 f g) H _ hIv (lq_world hP) (lq_D hD) hS ls (lv_sub hl [3, 2, 1, 0] rfl)
