/-! THE LITTLE MACHINE: bytecode over a fixed row of regions (objects and arrays that are made once), as predicates. Values: an int, or a region's number. -/
abbrev mm_V : Type := Int32 ⊕ Nat
abbrev mm_M : Type := Nat → Nat → Int32
abbrev mm_L : Type := List (Nat × mm_V)
/-- a field: an int, a boolean, a constant reference to a region -/
abbrev mm_F : Type := Option (Option Nat)
/-- a region: an array (of booleans or of ints) and its length; an object: its class's number and its fields -/
abbrev mm_R : Type := (Bool × Nat) ⊕ (Nat × List mm_F)
/-- a row of code: pc, instruction, length, two numbers that it links -/
abbrev mm_I : Type := Nat × Jvm.ClassFile.Instr × Nat × Nat × Nat
/-- a method: name, class's number, bytes, locals, answer's type, rows -/
abbrev mm_Y : Type := MethodName × Nat × ByteArray × Nat × Option FieldType × List mm_I
abbrev mm_P : Type := Nat → Option mm_Y
abbrev mm_Qt : Type := Option mm_V → mm_M → Prop
abbrev mm_Kt : Type := Nat → mm_L → List mm_V → mm_M → Prop
abbrev mm_Ct : Type := Nat → List mm_V → mm_M → mm_Qt → Prop
def mm_val (ad : Nat → Nat) : mm_V → Value
  | .inl x => .int x
  | .inr k => .ref (ad k)
def mm_get (L : mm_L) (i : Nat) : Option mm_V := (L.find? (fun q => q.1 == i)).map (fun q => q.2)
def mm_ins : mm_L → Nat → mm_V → mm_L
  | [], i, v => [(i, v)]
  | q :: r, i, v => bif Nat.blt i q.1 then (i, v) :: q :: r else q :: mm_ins r i v
/-- storing a local: the list stays in the order of the locals' numbers -/
def mm_set (L : mm_L) (i : Nat) (v : mm_V) : mm_L := mm_ins (L.filter (fun q => !(q.1 == i))) i v
def mm_up (M : mm_M) (k j : Nat) (x : Int32) : mm_M := fun k' => if k' = k then upd (M k) j x else M k'
def mm_cp (M : mm_M) (a b sp dp n : Nat) : mm_M := fun k' => if k' = b then va_cpy (M a) (M b) sp dp n else M k'
def mm_fv (ad : Nat → Nat) (f : Nat → Int32) (j : Nat) : mm_F → Value
  | some (some r) => .ref (ad r)
  | _ => .int (f j)
def mm_fm (f : Nat → Int32) (j : Nat) : mm_F → mm_V
  | some (some r) => .inr r
  | _ => .inl (f j)
def mm_cell (ad : Nat → Nat) (cI cZ : ClassId) (f : Nat → Int32) : mm_R → va_E
  | .inl q => .inl (if q.1 then cZ else cI, q.2, .inl f)
  | .inr q => .inr (q.1, q.2.mapIdx (fun j t => mm_fv ad f j t))
def mm_W (ad : Nat → Nat) (cI cZ : ClassId) (lay : List mm_R) (M : mm_M) : va_W := lay.mapIdx (fun k r => (ad k, mm_cell ad cI cZ (M k) r))
def mm_cnd : Jvm.ClassFile.Cond → Int32 → Int32 → Prop
  | .eq, x, y => x = y
  | .ne, x, y => ¬ x = y
  | .lt, x, y => x < y
  | .ge, x, y => y ≤ x
  | .gt, x, y => y < x
  | .le, x, y => x ≤ y
def mm_args : Nat → List mm_V → mm_L
  | _, [] => []
  | i, v :: vs => (i, v) :: mm_args (i + 1) vs
/-- one instruction, backwards: what must hold for the run to go on by K, or to end by Q; dd: how many calls may still be nested -/
def mm_step (Pg : mm_P) (lay : List mm_R) (dd : Nat) (C : mm_Ct) (me : mm_Y) (Q : mm_Qt) (K : mm_Kt) (pc : Nat) (L : mm_L) (st : List mm_V) (M : mm_M) (r : mm_I) : Prop :=
  match r.2.1 with
  | .iconst n => K (pc + 1) L (.inl (Int32.ofInt n) :: st) M
  | .bipush n => K (pc + 2) L (.inl (Int8.ofInt n).toInt32 :: st) M
  | .sipush n => K (pc + 3) L (.inl (Int16.ofInt n).toInt32 :: st) M
  | .iload i => ∃ x : Int32, mm_get L i = some (.inl x) ∧ K (pc + 2) L (.inl x :: st) M
  | .iload_n i => ∃ x : Int32, mm_get L i.val = some (.inl x) ∧ K (pc + 1) L (.inl x :: st) M
  | .aload i => ∃ x : Nat, mm_get L i = some (.inr x) ∧ K (pc + 2) L (.inr x :: st) M
  | .aload_n i => ∃ x : Nat, mm_get L i.val = some (.inr x) ∧ K (pc + 1) L (.inr x :: st) M
  | .istore i => ∃ (x : Int32) (st' : List mm_V), st = .inl x :: st' ∧ i < me.2.2.2.1 ∧ K (pc + 2) (mm_set L i (.inl x)) st' M
  | .istore_n i => ∃ (x : Int32) (st' : List mm_V), st = .inl x :: st' ∧ i.val < me.2.2.2.1 ∧ K (pc + 1) (mm_set L i.val (.inl x)) st' M
  | .astore i => ∃ (x : Nat) (st' : List mm_V), st = .inr x :: st' ∧ i < me.2.2.2.1 ∧ K (pc + 2) (mm_set L i (.inr x)) st' M
  | .astore_n i => ∃ (x : Nat) (st' : List mm_V), st = .inr x :: st' ∧ i.val < me.2.2.2.1 ∧ K (pc + 1) (mm_set L i.val (.inr x)) st' M
  | .iinc i n => ∃ x : Int32, mm_get L i = some (.inl x) ∧ i < me.2.2.2.1 ∧ K (pc + 3) (mm_set L i (.inl (x + Int32.ofInt n))) st M
  | .iadd => ∃ (x y : Int32) (st' : List mm_V), st = .inl y :: .inl x :: st' ∧ K (pc + 1) L (.inl (x + y) :: st') M
  | .isub => ∃ (x y : Int32) (st' : List mm_V), st = .inl y :: .inl x :: st' ∧ K (pc + 1) L (.inl (x - y) :: st') M
  | .imul => ∃ (x y : Int32) (st' : List mm_V), st = .inl y :: .inl x :: st' ∧ K (pc + 1) L (.inl (x * y) :: st') M
  | .iand => ∃ (x y : Int32) (st' : List mm_V), st = .inl y :: .inl x :: st' ∧ K (pc + 1) L (.inl (x &&& y) :: st') M
  | .ior => ∃ (x y : Int32) (st' : List mm_V), st = .inl y :: .inl x :: st' ∧ K (pc + 1) L (.inl (x ||| y) :: st') M
  | .ixor => ∃ (x y : Int32) (st' : List mm_V), st = .inl y :: .inl x :: st' ∧ K (pc + 1) L (.inl (x ^^^ y) :: st') M
  | .ishl => ∃ (x y : Int32) (st' : List mm_V), st = .inl y :: .inl x :: st' ∧ K (pc + 1) L (.inl (x <<< (y &&& 31)) :: st') M
  | .ishr => ∃ (x y : Int32) (st' : List mm_V), st = .inl y :: .inl x :: st' ∧ K (pc + 1) L (.inl (x >>> (y &&& 31)) :: st') M
  | .iushr => ∃ (x y : Int32) (st' : List mm_V), st = .inl y :: .inl x :: st' ∧ K (pc + 1) L (.inl (x.toUInt32 >>> (y.toUInt32 &&& Int32.toUInt32 31)).toInt32 :: st') M
  | .ineg => ∃ (x : Int32) (st' : List mm_V), st = .inl x :: st' ∧ K (pc + 1) L (.inl (-x) :: st') M
  | .dup => ∃ (v : mm_V) (st' : List mm_V), st = v :: st' ∧ K (pc + 1) L (v :: v :: st') M
  | .pop => ∃ (v : mm_V) (st' : List mm_V), st = v :: st' ∧ K (pc + 1) L st' M
  | .dup_x1 => ∃ (v w : mm_V) (st' : List mm_V), st = v :: w :: st' ∧ K (pc + 1) L (v :: w :: v :: st') M
  | .dup_x2 => ∃ (v w u : mm_V) (st' : List mm_V), st = v :: w :: u :: st' ∧ K (pc + 1) L (v :: w :: u :: v :: st') M
  | .dup2 => ∃ (v w : mm_V) (st' : List mm_V), st = v :: w :: st' ∧ K (pc + 1) L (v :: w :: v :: w :: st') M
  | .ifCond c off => ∃ (x : Int32) (st' : List mm_V) (tgt : Nat), st = .inl x :: st' ∧ (pc : Int) + off = (tgt : Int) ∧ (mm_cnd c x 0 → K tgt L st' M) ∧ (¬ mm_cnd c x 0 → K (pc + 3) L st' M)
  | .if_icmp c off => ∃ (x y : Int32) (st' : List mm_V) (tgt : Nat), st = .inl y :: .inl x :: st' ∧ (pc : Int) + off = (tgt : Int) ∧ (mm_cnd c x y → K tgt L st' M) ∧ (¬ mm_cnd c x y → K (pc + 3) L st' M)
  | .goto off => ∃ tgt : Nat, (pc : Int) + off = (tgt : Int) ∧ K tgt L st M
  | .tableswitch d lo hi offs => ∃ (x : Int32) (st' : List mm_V), st = .inl x :: st' ∧
      (x.toInt < lo ∨ hi < x.toInt → ∃ tgt : Nat, (pc : Int) + d = (tgt : Int) ∧ K tgt L st' M) ∧
      (¬ x.toInt < lo → ¬ hi < x.toInt → ∃ (off : Int) (tgt : Nat), offs[(x.toInt - lo).toNat]? = some off ∧ (pc : Int) + off = (tgt : Int) ∧ K tgt L st' M)
  | .lookupswitch d ps => ∃ (x : Int32) (st' : List mm_V) (tgt : Nat), st = .inl x :: st' ∧ (ps.toList.zip (ps.toList.drop 1)).all (fun (a, next) => a.1 < next.1) = true ∧ (pc : Int) + Op.lookupswitch.offset ps.toList d x.toInt = (tgt : Int) ∧ K tgt L st' M
  | .getfield _ => ∃ (q : Nat) (st' : List mm_V) (fl : List mm_F) (f : mm_F), st = .inr q :: st' ∧ lay[q]? = some (.inr (r.2.2.2.1, fl)) ∧ fl[r.2.2.2.2]? = some f ∧ K (pc + 3) L (mm_fm (M q) r.2.2.2.2 f :: st') M
  | .putfield _ => ∃ (q : Nat) (x : Int32) (st' : List mm_V) (fl : List mm_F), st = .inl x :: .inr q :: st' ∧ lay[q]? = some (.inr (r.2.2.2.1, fl)) ∧
      (fl[r.2.2.2.2]? = some none ∨ (fl[r.2.2.2.2]? = some (some none) ∧ (x = 0 ∨ x = 1))) ∧ K (pc + 3) L st' (mm_up M q r.2.2.2.2 x)
  | .iaload => ∃ (q n : Nat) (i : Int32) (st' : List mm_V), st = .inl i :: .inr q :: st' ∧ lay[q]? = some (.inl (false, n)) ∧ vp_in i n ∧ K (pc + 1) L (.inl (M q i.toNatClampNeg) :: st') M
  | .baload => ∃ (q n : Nat) (i : Int32) (st' : List mm_V), st = .inl i :: .inr q :: st' ∧ lay[q]? = some (.inl (true, n)) ∧ vp_in i n ∧ K (pc + 1) L (.inl (M q i.toNatClampNeg) :: st') M
  | .iastore => ∃ (q n : Nat) (i x : Int32) (st' : List mm_V), st = .inl x :: .inl i :: .inr q :: st' ∧ lay[q]? = some (.inl (false, n)) ∧ vp_in i n ∧ K (pc + 1) L st' (mm_up M q i.toNatClampNeg x)
  | .bastore => ∃ (q n : Nat) (i x : Int32) (st' : List mm_V), st = .inl x :: .inl i :: .inr q :: st' ∧ lay[q]? = some (.inl (true, n)) ∧ vp_in i n ∧ K (pc + 1) L st' (mm_up M q i.toNatClampNeg (vp_nar .boolean x))
  | .arraylength => ∃ (q n : Nat) (b : Bool) (st' : List mm_V), st = .inr q :: st' ∧ lay[q]? = some (.inl (b, n)) ∧ K (pc + 1) L (.inl (Int32.ofNat n) :: st') M
  | .invokevirtual _ => ∃ (As : List mm_V) (q : Nat) (rest : List mm_V) (me' : mm_Y) (fl : List mm_F), st = As.reverse ++ .inr q :: rest ∧ As.length = r.2.2.2.2 ∧ rest.length ≤ 8 ∧ Pg r.2.2.2.1 = some me' ∧ lay[q]? = some (.inr (me'.2.1, fl)) ∧
      C r.2.2.2.1 (.inr q :: As) M (fun v M' => K (pc + 3) L (v.toList ++ rest) M')
  | .invokestatic _ =>
      (r.2.2.2.1 = 1000 ∧ ∃ (x y : Int32) (st' : List mm_V), st = .inl y :: .inl x :: st' ∧ st'.length ≤ 8 ∧ 1 ≤ dd ∧ K (pc + 3) L (.inl (if x < y then y else x) :: st') M) ∨
      (r.2.2.2.1 = 1001 ∧ ∃ (a b na nb : Nat) (sp dp n : Int32) (st' : List mm_V), st = .inl n :: .inl dp :: .inr b :: .inl sp :: .inr a :: st' ∧ st'.length ≤ 8 ∧ 1 ≤ dd ∧ lay[a]? = some (.inl (false, na)) ∧ lay[b]? = some (.inl (false, nb)) ∧
        ¬ sp < 0 ∧ ¬ dp < 0 ∧ ¬ n < 0 ∧ sp.toNatClampNeg + n.toNatClampNeg ≤ na ∧ dp.toNatClampNeg + n.toNatClampNeg ≤ nb ∧ K (pc + 3) L st' (mm_cp M a b sp.toNatClampNeg dp.toNatClampNeg n.toNatClampNeg)) ∨
      (r.2.2.2.1 < 1000 ∧ ∃ (As rest : List mm_V) (me' : mm_Y), st = As.reverse ++ rest ∧ As.length = r.2.2.2.2 ∧ rest.length ≤ 8 ∧ Pg r.2.2.2.1 = some me' ∧
        C r.2.2.2.1 As M (fun v M' => K (pc + 3) L (v.toList ++ rest) M'))
  | .ireturn => ∃ (x : Int32) (ty : FieldType), st = [.inl x] ∧ me.2.2.2.2.1 = some ty ∧ (ty = .int ∨ (ty = .boolean ∧ (x = 0 ∨ x = 1))) ∧ Q (some (.inl x)) M
  | .return_ => st = [] ∧ me.2.2.2.2.1 = none ∧ Q none M
  | _ => False
def mm_row (me : mm_Y) (pc : Nat) : Option mm_I := me.2.2.2.2.2.find? (fun r => r.1 == pc)
def mm_at (Pg : mm_P) (lay : List mm_R) (dd : Nat) (C : mm_Ct) (me : mm_Y) (Q : mm_Qt) (K : mm_Kt) (pc : Nat) (L : mm_L) (st : List mm_V) (M : mm_M) : Prop := ∃ r, mm_row me pc = some r ∧ mm_step Pg lay dd C me Q K pc L st M r
/-- the run from a point ends, with Q: the least such -/
def mm_Rn (Pg : mm_P) (lay : List mm_R) (dd : Nat) (C : mm_Ct) (me : mm_Y) (Q : mm_Qt) : mm_Kt := fun pc L st M => ∀ R : mm_Kt, (∀ pc L st M, mm_at Pg lay dd C me Q R pc L st M → R pc L st M) → R pc L st M
/-- method j, with d - 1 calls nested at most, ends with Q -/
def mm_Ev (Pg : mm_P) (lay : List mm_R) : Nat → mm_Ct
  | 0 => fun _ _ _ _ => False
  | d + 1 => fun j args M Q => ∃ me, Pg j = some me ∧ args.length ≤ me.2.2.2.1 ∧ mm_Rn Pg lay d (mm_Ev Pg lay d) me Q 0 (mm_args 0 args) [] M
def mm_mono (C : mm_Ct) : Prop := ∀ (j : Nat) (a : List mm_V) (M : mm_M) (Q Q' : mm_Qt), (∀ v M', Q v M' → Q' v M') → C j a M Q → C j a M Q'
theorem mm_step_mono {Pg : mm_P} {lay : List mm_R} {dd : Nat} {C : mm_Ct} (hC : mm_mono C) {me : mm_Y} {Q Q' : mm_Qt} {K K' : mm_Kt} (hQ : ∀ v M, Q v M → Q' v M) (hK : ∀ pc L st M, K pc L st M → K' pc L st M) {pc : Nat} {L : mm_L} {st : List mm_V} {M : mm_M} {r : mm_I}
    (h : mm_step Pg lay dd C me Q K pc L st M r) : mm_step Pg lay dd C me Q' K' pc L st M r := by
  obtain ⟨r1, ins, r3, r4, r5⟩ := r
  cases ins <;> simp only [mm_step] at h ⊢
  case iconst => exact hK _ _ _ _ h
  case bipush => exact hK _ _ _ _ h
  case sipush => exact hK _ _ _ _ h
  case iload => obtain ⟨x, a, b⟩ := h; exact ⟨x, a, hK _ _ _ _ b⟩
  case iload_n => obtain ⟨x, a, b⟩ := h; exact ⟨x, a, hK _ _ _ _ b⟩
  case aload => obtain ⟨x, a, b⟩ := h; exact ⟨x, a, hK _ _ _ _ b⟩
  case aload_n => obtain ⟨x, a, b⟩ := h; exact ⟨x, a, hK _ _ _ _ b⟩
  case istore => obtain ⟨x, s, a, b, c⟩ := h; exact ⟨x, s, a, b, hK _ _ _ _ c⟩
  case istore_n => obtain ⟨x, s, a, b, c⟩ := h; exact ⟨x, s, a, b, hK _ _ _ _ c⟩
  case astore => obtain ⟨x, s, a, b, c⟩ := h; exact ⟨x, s, a, b, hK _ _ _ _ c⟩
  case astore_n => obtain ⟨x, s, a, b, c⟩ := h; exact ⟨x, s, a, b, hK _ _ _ _ c⟩
  case iinc => obtain ⟨x, a, b, c⟩ := h; exact ⟨x, a, b, hK _ _ _ _ c⟩
  case iadd => obtain ⟨x, y, s, a, b⟩ := h; exact ⟨x, y, s, a, hK _ _ _ _ b⟩
  case isub => obtain ⟨x, y, s, a, b⟩ := h; exact ⟨x, y, s, a, hK _ _ _ _ b⟩
  case imul => obtain ⟨x, y, s, a, b⟩ := h; exact ⟨x, y, s, a, hK _ _ _ _ b⟩
  case iand => obtain ⟨x, y, s, a, b⟩ := h; exact ⟨x, y, s, a, hK _ _ _ _ b⟩
  case ior => obtain ⟨x, y, s, a, b⟩ := h; exact ⟨x, y, s, a, hK _ _ _ _ b⟩
  case ixor => obtain ⟨x, y, s, a, b⟩ := h; exact ⟨x, y, s, a, hK _ _ _ _ b⟩
  case ishl => obtain ⟨x, y, s, a, b⟩ := h; exact ⟨x, y, s, a, hK _ _ _ _ b⟩
  case ishr => obtain ⟨x, y, s, a, b⟩ := h; exact ⟨x, y, s, a, hK _ _ _ _ b⟩
  case iushr => obtain ⟨x, y, s, a, b⟩ := h; exact ⟨x, y, s, a, hK _ _ _ _ b⟩
  case ineg => obtain ⟨x, s, a, b⟩ := h; exact ⟨x, s, a, hK _ _ _ _ b⟩
  case dup => obtain ⟨x, s, a, b⟩ := h; exact ⟨x, s, a, hK _ _ _ _ b⟩
  case pop => obtain ⟨x, s, a, b⟩ := h; exact ⟨x, s, a, hK _ _ _ _ b⟩
  case dup_x1 => obtain ⟨x, y, s, a, b⟩ := h; exact ⟨x, y, s, a, hK _ _ _ _ b⟩
  case dup_x2 => obtain ⟨x, y, z, s, a, b⟩ := h; exact ⟨x, y, z, s, a, hK _ _ _ _ b⟩
  case dup2 => obtain ⟨x, y, s, a, b⟩ := h; exact ⟨x, y, s, a, hK _ _ _ _ b⟩
  case ifCond => obtain ⟨x, s, t, a, b, c, d⟩ := h; exact ⟨x, s, t, a, b, fun z => hK _ _ _ _ (c z), fun z => hK _ _ _ _ (d z)⟩
  case if_icmp => obtain ⟨x, y, s, t, a, b, c, d⟩ := h; exact ⟨x, y, s, t, a, b, fun z => hK _ _ _ _ (c z), fun z => hK _ _ _ _ (d z)⟩
  case goto => obtain ⟨t, a, b⟩ := h; exact ⟨t, a, hK _ _ _ _ b⟩
  case tableswitch =>
    obtain ⟨x, s, a, b, c⟩ := h
    refine ⟨x, s, a, fun z => ?_, fun z1 z2 => ?_⟩
    · obtain ⟨t, e, f⟩ := b z; exact ⟨t, e, hK _ _ _ _ f⟩
    · obtain ⟨o, t, e, f, g⟩ := c z1 z2; exact ⟨o, t, e, f, hK _ _ _ _ g⟩
  case lookupswitch => obtain ⟨x, s, t, a, b, c, d⟩ := h; exact ⟨x, s, t, a, b, c, hK _ _ _ _ d⟩
  case getfield => obtain ⟨q, s, fl, f, a, b, c, d⟩ := h; exact ⟨q, s, fl, f, a, b, c, hK _ _ _ _ d⟩
  case putfield => obtain ⟨q, x, s, fl, a, b, c, d⟩ := h; exact ⟨q, x, s, fl, a, b, c, hK _ _ _ _ d⟩
  case iaload => obtain ⟨q, n, i, s, a, b, c, d⟩ := h; exact ⟨q, n, i, s, a, b, c, hK _ _ _ _ d⟩
  case baload => obtain ⟨q, n, i, s, a, b, c, d⟩ := h; exact ⟨q, n, i, s, a, b, c, hK _ _ _ _ d⟩
  case iastore => obtain ⟨q, n, i, x, s, a, b, c, d⟩ := h; exact ⟨q, n, i, x, s, a, b, c, hK _ _ _ _ d⟩
  case bastore => obtain ⟨q, n, i, x, s, a, b, c, d⟩ := h; exact ⟨q, n, i, x, s, a, b, c, hK _ _ _ _ d⟩
  case arraylength => obtain ⟨q, n, b, s, a, c, d⟩ := h; exact ⟨q, n, b, s, a, c, hK _ _ _ _ d⟩
  case invokevirtual => obtain ⟨As, q, rest, me', fl, a, b, c, d, e, f⟩ := h; exact ⟨As, q, rest, me', fl, a, b, c, d, e, hC _ _ _ _ _ (fun v M' z => hK _ _ _ _ z) f⟩
  case invokestatic =>
    rcases h with ⟨h0, x, y, s, a, b, c, d⟩ | ⟨h0, x1, x2, x3, x4, x5, x6, x7, s, a, b, c, e1, e2, e3, e4, e5, e6, e7, d⟩ | ⟨h0, As, rest, me', a, b, c, d, f⟩
    · exact Or.inl ⟨h0, x, y, s, a, b, c, hK _ _ _ _ d⟩
    · exact Or.inr (Or.inl ⟨h0, x1, x2, x3, x4, x5, x6, x7, s, a, b, c, e1, e2, e3, e4, e5, e6, e7, hK _ _ _ _ d⟩)
    · exact Or.inr (Or.inr ⟨h0, As, rest, me', a, b, c, d, hC _ _ _ _ _ (fun v M' z => hK _ _ _ _ z) f⟩)
  case ireturn => obtain ⟨x, ty, a, b, c, d⟩ := h; exact ⟨x, ty, a, b, c, hQ _ _ d⟩
  case return_ => exact ⟨h.1, h.2.1, hQ _ _ h.2.2⟩
theorem mm_Rn_mono {Pg : mm_P} {lay : List mm_R} {dd : Nat} {C : mm_Ct} (hC : mm_mono C) {me : mm_Y} {Q Q' : mm_Qt} (hQ : ∀ v M, Q v M → Q' v M) {pc : Nat} {L : mm_L} {st : List mm_V} {M : mm_M}
    (h : mm_Rn Pg lay dd C me Q pc L st M) : mm_Rn Pg lay dd C me Q' pc L st M := by
  intro R hR
  refine h R (fun pc L st M z => hR pc L st M ?_)
  obtain ⟨r, h1, h2⟩ := z
  exact ⟨r, h1, mm_step_mono hC hQ (fun _ _ _ _ z => z) h2⟩
theorem mm_Ev_mono (Pg : mm_P) (lay : List mm_R) : ∀ d, mm_mono (mm_Ev Pg lay d) := by
  intro d
  induction d with
  | zero => intro j a M Q Q' _ h; exact h.elim
  | succ d ih =>
    intro j a M Q Q' hQ h
    obtain ⟨me, h1, h2, h3⟩ := h
    exact ⟨me, h1, h2, mm_Rn_mono ih hQ h3⟩
theorem mm_go {Pg : mm_P} {lay : List mm_R} {d : Nat} {me : mm_Y} {Q : mm_Qt} {pc : Nat} {L : mm_L} {st : List mm_V} {M : mm_M} {r : mm_I} (hr : mm_row me pc = some r)
    (h : mm_step Pg lay d (mm_Ev Pg lay d) me Q (mm_Rn Pg lay d (mm_Ev Pg lay d) me Q) pc L st M r) : mm_Rn Pg lay d (mm_Ev Pg lay d) me Q pc L st M := by
  intro R hR
  refine hR pc L st M ⟨r, hr, mm_step_mono (mm_Ev_mono Pg lay d) (fun _ _ z => z) (fun pc L st M z => z R hR) h⟩
theorem mm_ins_mem {q : Nat × mm_V} {i : Nat} {v : mm_V} : ∀ {L : mm_L}, q ∈ mm_ins L i v → q = (i, v) ∨ q ∈ L := by
  intro L
  induction L with
  | nil => intro h; exact Or.inl (List.mem_singleton.mp h)
  | cons a r ih =>
    intro h
    unfold mm_ins at h
    cases hb : Nat.blt i a.1 with
    | true =>
      rw [hb] at h
      rcases List.mem_cons.mp h with h | h
      · exact Or.inl h
      · exact Or.inr h
    | false =>
      rw [hb] at h
      rcases List.mem_cons.mp h with h | h
      · exact Or.inr (h ▸ List.mem_cons_self)
      · rcases ih h with h | h
        · exact Or.inl h
        · exact Or.inr (List.mem_cons_of_mem _ h)
theorem mm_get_cons (a : Nat × mm_V) (r : mm_L) (j : Nat) : mm_get (a :: r) j = if a.1 = j then some a.2 else mm_get r j := by
  unfold mm_get
  by_cases h : a.1 = j <;> simp [h]
theorem mm_get_insS {i : Nat} {v : mm_V} : ∀ {L : mm_L}, (∀ q ∈ L, q.1 ≠ i) → mm_get (mm_ins L i v) i = some v := by
  intro L
  induction L with
  | nil => intro _; simp [mm_ins, mm_get]
  | cons a r ih =>
    intro h
    unfold mm_ins
    cases hb : Nat.blt i a.1 with
    | true => simp [mm_get_cons]
    | false =>
      have h1 : a.1 ≠ i := h a List.mem_cons_self
      simp only [cond_false, mm_get_cons, if_neg h1]
      exact ih (fun q hq => h q (List.mem_cons_of_mem _ hq))
theorem mm_get_insN {i j : Nat} {v : mm_V} (hj : j ≠ i) : ∀ {L : mm_L}, mm_get (mm_ins L i v) j = mm_get L j := by
  intro L
  induction L with
  | nil => simp [mm_ins, mm_get_cons, Ne.symm hj]
  | cons a r ih =>
    unfold mm_ins
    cases hb : Nat.blt i a.1 with
    | true => simp [mm_get_cons, Ne.symm hj]
    | false => simp only [cond_false, mm_get_cons, ih]
theorem mm_get_fil {i j : Nat} (hj : j ≠ i) : ∀ {L : mm_L}, mm_get (L.filter (fun q => !(q.1 == i))) j = mm_get L j := by
  intro L
  induction L with
  | nil => rfl
  | cons a r ih =>
    by_cases ha : a.1 = i
    · have h1 : ¬ a.1 = j := fun z => hj (z ▸ ha)
      rw [List.filter_cons_of_neg (by simp [ha]), ih, mm_get_cons, if_neg h1]
    · rw [List.filter_cons_of_pos (by simp [ha]), mm_get_cons, mm_get_cons, ih]
theorem mm_get_set (L : mm_L) (i j : Nat) (v : mm_V) : mm_get (mm_set L i v) j = if j = i then some v else mm_get L j := by
  by_cases h : j = i
  · subst h
    rw [if_pos rfl]
    exact mm_get_insS (fun q hq => by simpa using (List.mem_filter.mp hq).2)
  · rw [if_neg h, mm_set, mm_get_insN h, mm_get_fil h]
/-- fewer locals are known in L than in L2 -/
def mm_le (L L2 : mm_L) : Prop := ∀ i v, mm_get L i = some v → mm_get L2 i = some v
theorem mm_le_set {L L2 : mm_L} (h : mm_le L L2) (i : Nat) (v : mm_V) : mm_le (mm_set L i v) (mm_set L2 i v) := by
  intro j w hw
  rw [mm_get_set] at hw ⊢
  by_cases hj : j = i
  · rw [if_pos hj] at hw ⊢; exact hw
  · rw [if_neg hj] at hw ⊢; exact h j w hw
def mm_sub : mm_L → mm_L → Prop
  | [], _ => True
  | q :: r, L2 => mm_get L2 q.1 = some q.2 ∧ mm_sub r L2
theorem mm_sub_le : ∀ {L L2 : mm_L}, mm_sub L L2 → mm_le L L2 := by
  intro L
  induction L with
  | nil => intro L2 _ i v h; simp [mm_get] at h
  | cons a r ih =>
    intro L2 h i v hv
    rw [mm_get_cons] at hv
    by_cases ha : a.1 = i
    · rw [if_pos ha] at hv
      rw [← ha, ← Option.some.inj hv]
      exact h.1
    · rw [if_neg ha] at hv
      exact ih h.2 i v hv
theorem mm_step_loc {Pg : mm_P} {lay : List mm_R} {dd : Nat} {C : mm_Ct} (hC : mm_mono C) {me : mm_Y} {Q : mm_Qt} {K K' : mm_Kt} {L L2 : mm_L} (hle : mm_le L L2) (hK : ∀ pc L L2 st M, mm_le L L2 → K pc L st M → K' pc L2 st M) {pc : Nat} {st : List mm_V} {M : mm_M} {r : mm_I}
    (h : mm_step Pg lay dd C me Q K pc L st M r) : mm_step Pg lay dd C me Q K' pc L2 st M r := by
  obtain ⟨r1, ins, r3, r4, r5⟩ := r
  cases ins <;> simp only [mm_step] at h ⊢
  case iconst => exact hK _ _ _ _ _ hle h
  case bipush => exact hK _ _ _ _ _ hle h
  case sipush => exact hK _ _ _ _ _ hle h
  case iload => obtain ⟨x, a, b⟩ := h; exact ⟨x, hle _ _ a, hK _ _ _ _ _ hle b⟩
  case iload_n => obtain ⟨x, a, b⟩ := h; exact ⟨x, hle _ _ a, hK _ _ _ _ _ hle b⟩
  case aload => obtain ⟨x, a, b⟩ := h; exact ⟨x, hle _ _ a, hK _ _ _ _ _ hle b⟩
  case aload_n => obtain ⟨x, a, b⟩ := h; exact ⟨x, hle _ _ a, hK _ _ _ _ _ hle b⟩
  case istore => obtain ⟨x, s, a, b, c⟩ := h; exact ⟨x, s, a, b, hK _ _ _ _ _ (mm_le_set hle _ _) c⟩
  case istore_n => obtain ⟨x, s, a, b, c⟩ := h; exact ⟨x, s, a, b, hK _ _ _ _ _ (mm_le_set hle _ _) c⟩
  case astore => obtain ⟨x, s, a, b, c⟩ := h; exact ⟨x, s, a, b, hK _ _ _ _ _ (mm_le_set hle _ _) c⟩
  case astore_n => obtain ⟨x, s, a, b, c⟩ := h; exact ⟨x, s, a, b, hK _ _ _ _ _ (mm_le_set hle _ _) c⟩
  case iinc => obtain ⟨x, a, b, c⟩ := h; exact ⟨x, hle _ _ a, b, hK _ _ _ _ _ (mm_le_set hle _ _) c⟩
  case iadd => obtain ⟨x, y, s, a, b⟩ := h; exact ⟨x, y, s, a, hK _ _ _ _ _ hle b⟩
  case isub => obtain ⟨x, y, s, a, b⟩ := h; exact ⟨x, y, s, a, hK _ _ _ _ _ hle b⟩
  case imul => obtain ⟨x, y, s, a, b⟩ := h; exact ⟨x, y, s, a, hK _ _ _ _ _ hle b⟩
  case iand => obtain ⟨x, y, s, a, b⟩ := h; exact ⟨x, y, s, a, hK _ _ _ _ _ hle b⟩
  case ior => obtain ⟨x, y, s, a, b⟩ := h; exact ⟨x, y, s, a, hK _ _ _ _ _ hle b⟩
  case ixor => obtain ⟨x, y, s, a, b⟩ := h; exact ⟨x, y, s, a, hK _ _ _ _ _ hle b⟩
  case ishl => obtain ⟨x, y, s, a, b⟩ := h; exact ⟨x, y, s, a, hK _ _ _ _ _ hle b⟩
  case ishr => obtain ⟨x, y, s, a, b⟩ := h; exact ⟨x, y, s, a, hK _ _ _ _ _ hle b⟩
  case iushr => obtain ⟨x, y, s, a, b⟩ := h; exact ⟨x, y, s, a, hK _ _ _ _ _ hle b⟩
  case ineg => obtain ⟨x, s, a, b⟩ := h; exact ⟨x, s, a, hK _ _ _ _ _ hle b⟩
  case dup => obtain ⟨x, s, a, b⟩ := h; exact ⟨x, s, a, hK _ _ _ _ _ hle b⟩
  case pop => obtain ⟨x, s, a, b⟩ := h; exact ⟨x, s, a, hK _ _ _ _ _ hle b⟩
  case dup_x1 => obtain ⟨x, y, s, a, b⟩ := h; exact ⟨x, y, s, a, hK _ _ _ _ _ hle b⟩
  case dup_x2 => obtain ⟨x, y, z, s, a, b⟩ := h; exact ⟨x, y, z, s, a, hK _ _ _ _ _ hle b⟩
  case dup2 => obtain ⟨x, y, s, a, b⟩ := h; exact ⟨x, y, s, a, hK _ _ _ _ _ hle b⟩
  case ifCond => obtain ⟨x, s, t, a, b, c, d⟩ := h; exact ⟨x, s, t, a, b, fun z => hK _ _ _ _ _ hle (c z), fun z => hK _ _ _ _ _ hle (d z)⟩
  case if_icmp => obtain ⟨x, y, s, t, a, b, c, d⟩ := h; exact ⟨x, y, s, t, a, b, fun z => hK _ _ _ _ _ hle (c z), fun z => hK _ _ _ _ _ hle (d z)⟩
  case goto => obtain ⟨t, a, b⟩ := h; exact ⟨t, a, hK _ _ _ _ _ hle b⟩
  case tableswitch =>
    obtain ⟨x, s, a, b, c⟩ := h
    refine ⟨x, s, a, fun z => ?_, fun z1 z2 => ?_⟩
    · obtain ⟨t, e, f⟩ := b z; exact ⟨t, e, hK _ _ _ _ _ hle f⟩
    · obtain ⟨o, t, e, f, g⟩ := c z1 z2; exact ⟨o, t, e, f, hK _ _ _ _ _ hle g⟩
  case lookupswitch => obtain ⟨x, s, t, a, b, c, d⟩ := h; exact ⟨x, s, t, a, b, c, hK _ _ _ _ _ hle d⟩
  case getfield => obtain ⟨q, s, fl, f, a, b, c, d⟩ := h; exact ⟨q, s, fl, f, a, b, c, hK _ _ _ _ _ hle d⟩
  case putfield => obtain ⟨q, x, s, fl, a, b, c, d⟩ := h; exact ⟨q, x, s, fl, a, b, c, hK _ _ _ _ _ hle d⟩
  case iaload => obtain ⟨q, n, i, s, a, b, c, d⟩ := h; exact ⟨q, n, i, s, a, b, c, hK _ _ _ _ _ hle d⟩
  case baload => obtain ⟨q, n, i, s, a, b, c, d⟩ := h; exact ⟨q, n, i, s, a, b, c, hK _ _ _ _ _ hle d⟩
  case iastore => obtain ⟨q, n, i, x, s, a, b, c, d⟩ := h; exact ⟨q, n, i, x, s, a, b, c, hK _ _ _ _ _ hle d⟩
  case bastore => obtain ⟨q, n, i, x, s, a, b, c, d⟩ := h; exact ⟨q, n, i, x, s, a, b, c, hK _ _ _ _ _ hle d⟩
  case arraylength => obtain ⟨q, n, b, s, a, c, d⟩ := h; exact ⟨q, n, b, s, a, c, hK _ _ _ _ _ hle d⟩
  case invokevirtual => obtain ⟨As, q, rest, me', fl, a, b, c, d, e, f⟩ := h; exact ⟨As, q, rest, me', fl, a, b, c, d, e, hC _ _ _ _ _ (fun v M' z => hK _ _ _ _ _ hle z) f⟩
  case invokestatic =>
    rcases h with ⟨h0, x, y, s, a, b, c, d⟩ | ⟨h0, x1, x2, x3, x4, x5, x6, x7, s, a, b, c, e1, e2, e3, e4, e5, e6, e7, d⟩ | ⟨h0, As, rest, me', a, b, c, d, f⟩
    · exact Or.inl ⟨h0, x, y, s, a, b, c, hK _ _ _ _ _ hle d⟩
    · exact Or.inr (Or.inl ⟨h0, x1, x2, x3, x4, x5, x6, x7, s, a, b, c, e1, e2, e3, e4, e5, e6, e7, hK _ _ _ _ _ hle d⟩)
    · exact Or.inr (Or.inr ⟨h0, As, rest, me', a, b, c, d, hC _ _ _ _ _ (fun v M' z => hK _ _ _ _ _ hle z) f⟩)
  case ireturn => exact h
  case return_ => exact h
theorem mm_Rn_loc {Pg : mm_P} {lay : List mm_R} {d : Nat} {me : mm_Y} {Q : mm_Qt} {pc : Nat} {L L2 : mm_L} {st : List mm_V} {M : mm_M} (h : mm_Rn Pg lay d (mm_Ev Pg lay d) me Q pc L st M) (hle : mm_le L L2) : mm_Rn Pg lay d (mm_Ev Pg lay d) me Q pc L2 st M := by
  refine h (fun pc L st M => ∀ L2, mm_le L L2 → mm_Rn Pg lay d (mm_Ev Pg lay d) me Q pc L2 st M) (fun pc L st M z L2 hle => ?_) L2 hle
  obtain ⟨r, h1, h2⟩ := z
  exact mm_go h1 (mm_step_loc (mm_Ev_mono Pg lay d) hle (fun pc L L2 st M hle z => z L2 hle) h2)
/-- forget locals: go on with those of L alone -/
theorem mg_loc {Pg : mm_P} {lay : List mm_R} {d : Nat} {me : mm_Y} {Q : mm_Qt} {pc : Nat} {L2 : mm_L} {st : List mm_V} {M : mm_M} (L : mm_L) (hs : mm_sub L L2) (k : mm_Rn Pg lay d (mm_Ev Pg lay d) me Q pc L st M) : mm_Rn Pg lay d (mm_Ev Pg lay d) me Q pc L2 st M := mm_Rn_loc k (mm_sub_le hs)
