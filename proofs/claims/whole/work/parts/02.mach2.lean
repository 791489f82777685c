/-! THE LITTLE MACHINE IS SOUND: what mm_Ev says of a method is a contract of the method over the model -/
theorem mm_W_at {ad : Nat → Nat} {cI cZ : ClassId} {lay : List mm_R} {M : mm_M} {k : Nat} {r : mm_R} (h : lay[k]? = some r) : (mm_W ad cI cZ lay M)[k]? = some (ad k, mm_cell ad cI cZ (M k) r) := by
  simp [mm_W, List.getElem?_mapIdx, h]
theorem mm_W_inv {ad : Nat → Nat} {cI cZ : ClassId} {lay : List mm_R} {M : mm_M} {k : Nat} {q : Nat × va_E} (h : (mm_W ad cI cZ lay M)[k]? = some q) : ∃ r, lay[k]? = some r ∧ q = (ad k, mm_cell ad cI cZ (M k) r) := by
  rw [mm_W, List.getElem?_mapIdx] at h
  cases hk : lay[k]? with
  | none => rw [hk] at h; cases h
  | some r => rw [hk] at h; exact ⟨r, rfl, (Option.some.inj h).symm⟩
theorem mm_D_any {A : Nat → Prop} {ad : Nat → Nat} {cI cZ : ClassId} {lay : List mm_R} {M M' : mm_M} (h : va_D A (mm_W ad cI cZ lay M)) : va_D A (mm_W ad cI cZ lay M') := by
  refine ⟨fun i j p q hi hj hpq => ?_, fun k q hk => ?_⟩
  · obtain ⟨r1, a1, rfl⟩ := mm_W_inv hi
    obtain ⟨r2, a2, rfl⟩ := mm_W_inv hj
    exact h.1 i j _ _ (mm_W_at a1) (mm_W_at a2) hpq
  · obtain ⟨r1, a1, rfl⟩ := mm_W_inv hk
    exact h.2 k (ad k, mm_cell ad cI cZ (M k) r1) (mm_W_at a1)
theorem mm_W_set {ad : Nat → Nat} {cI cZ : ClassId} {lay : List mm_R} {M M' : mm_M} {k : Nat} {r : mm_R} {x : va_E} (h : lay[k]? = some r) (ho : ∀ j, j ≠ k → M' j = M j) (hx : x = mm_cell ad cI cZ (M' k) r) : (mm_W ad cI cZ lay M).set k (ad k, x) = mm_W ad cI cZ lay M' := by
  subst hx
  apply List.ext_getElem?
  intro i
  by_cases hi : i = k
  · subst hi
    have hl : i < (mm_W ad cI cZ lay M).length := by simp [mm_W]; exact (List.getElem?_eq_some_iff.mp h).1
    rw [List.getElem?_set_self hl, mm_W_at h]
  · rw [List.getElem?_set_ne (Ne.symm hi)]
    simp only [mm_W, List.getElem?_mapIdx, ho i hi]
theorem mm_up_ne {M : mm_M} {k j : Nat} {x : Int32} : ∀ i, i ≠ k → mm_up M k j x i = M i := fun i h => by simp [mm_up, h]
theorem mm_up_at {M : mm_M} {k j : Nat} {x : Int32} : mm_up M k j x k = upd (M k) j x := by simp [mm_up]
theorem mm_cp_ne {M : mm_M} {a b sp dp n : Nat} : ∀ i, i ≠ b → mm_cp M a b sp dp n i = M i := fun i h => by simp [mm_cp, h]
theorem mm_cp_at {M : mm_M} {a b sp dp n : Nat} : mm_cp M a b sp dp n b = va_cpy (M a) (M b) sp dp n := by simp [mm_cp]
theorem mm_fs_set {ad : Nat → Nat} {f : Nat → Int32} {fl : List mm_F} {k : Nat} {x : Int32} (h : fl[k]? = some none ∨ fl[k]? = some (some none)) : (fl.mapIdx (fun j t => mm_fv ad f j t)).set k (.int x) = fl.mapIdx (fun j t => mm_fv ad (upd f k x) j t) := by
  apply List.ext_getElem?
  intro i
  by_cases hi : i = k
  · subst hi
    have hl : i < fl.length := by rcases h with h | h <;> exact (List.getElem?_eq_some_iff.mp h).1
    rw [List.getElem?_set_self (by simpa using hl), List.getElem?_mapIdx]
    rcases h with h | h <;> simp [h, mm_fv, upd]
  · rw [List.getElem?_set_ne (Ne.symm hi), List.getElem?_mapIdx, List.getElem?_mapIdx]
    cases hf : fl[i]? with
    | none => rfl
    | some t => rcases t with _ | _ | t <;> simp [mm_fv, upd, hi]
def mm_lv (ad : Nat → Nat) (L : mm_L) : List (Nat × Value) := L.map (fun q => (q.1, mm_val ad q.2))
theorem mm_cat1 (ad : Nat → Nat) (v : mm_V) : (mm_val ad v).category = 1 := by cases v <;> rfl
theorem mm_lv_get {ad : Nat → Nat} {ls : Array Slot} {nL : Nat} {L : mm_L} {i : Nat} {v : mm_V} (h : lv_has ls nL (mm_lv ad L)) (hg : mm_get L i = some v) : ∃ k : Nat, (mm_lv ad L)[k]? = some (i, mm_val ad v) := by
  unfold mm_get at hg
  cases hf : L.find? (fun q => q.1 == i) with
  | none => rw [hf] at hg; cases hg
  | some q =>
    rw [hf] at hg
    have h1 := List.mem_of_find?_eq_some hf
    have h2 := List.find?_some hf
    simp only [beq_iff_eq] at h2
    have h3 : q.2 = v := Option.some.inj hg
    have hm : (i, mm_val ad v) ∈ mm_lv ad L := List.mem_map.mpr ⟨q, h1, by rw [h2, h3]⟩
    obtain ⟨k, hk⟩ := List.getElem?_of_mem hm
    exact ⟨k, hk⟩
theorem mm_lv_at {ad : Nat → Nat} {ls : Array Slot} {nL : Nat} {L : mm_L} {i : Nat} {v : mm_V} (h : lv_has ls nL (mm_lv ad L)) (hg : mm_get L i = some v) : ls[i]? = some (.val (mm_val ad v)) := by
  obtain ⟨k, hk⟩ := mm_lv_get h hg
  exact lv_at h k hk
theorem mm_lv_set {ad : Nat → Nat} {ls : Array Slot} {nL : Nat} {L : mm_L} {i : Nat} {v : mm_V} (h : lv_has ls nL ((i, mm_val ad v) :: (mm_lv ad L).filter (fun q => !(q.1 == i) && !(q.1 + 1 == i && q.2.category == 2)))) : lv_has ls nL (mm_lv ad (mm_set L i v)) := by
  refine ⟨h.1, h.2.1, fun q hq => h.2.2 q ?_⟩
  obtain ⟨q', hq', rfl⟩ := List.mem_map.mp hq
  rcases mm_ins_mem hq' with rfl | hm
  · exact List.mem_cons_self
  · obtain ⟨h1, h2⟩ := List.mem_filter.mp hm
    refine List.mem_cons_of_mem _ (List.mem_filter.mpr ⟨List.mem_map.mpr ⟨q', h1, rfl⟩, ?_⟩)
    have hc := mm_cat1 ad q'.2
    have h3 : ¬ q'.1 = i := by simpa using h2
    simp [h3, hc]
theorem mm_args_lv (ad : Nat → Nat) : ∀ (vs : List mm_V) (i : Nat), lv_args i (vs.map (mm_val ad)) = mm_lv ad (mm_args i vs) := by
  intro vs
  induction vs with
  | nil => intro i; rfl
  | cons v vs ih =>
    intro i
    simp only [List.map_cons, lv_args, mm_args, mm_lv, mm_cat1]
    have := ih (i + 1)
    simp only [mm_lv] at this
    simp [this]
theorem mm_sl_len (ad : Nat → Nat) (vs : List mm_V) : (lg_sl (vs.map (mm_val ad))).length = vs.length := by
  induction vs with
  | nil => rfl
  | cons v vs ih =>
    have e : lg_sl ((v :: vs).map (mm_val ad)) = [Slot.val (mm_val ad v)] ++ lg_sl (vs.map (mm_val ad)) := by simp [lg_sl, mm_cat1]
    rw [e, List.length_append, ih]
    simp; omega
theorem mm_cats (ad : Nat → Nat) (vs : List mm_V) : ((vs.map (mm_val ad)).map fun v => v.category).sum = vs.length := by
  induction vs with
  | nil => rfl
  | cons v vs ih => simp only [List.map_cons, List.sum_cons, mm_cat1, List.length_cons]; rw [ih]; omega
/-! what the tables must say -/
def mm_len : Jvm.ClassFile.Instr → Nat
  | .bipush _ => 2 | .iload _ => 2 | .istore _ => 2 | .aload _ => 2 | .astore _ => 2
  | .sipush _ => 3 | .iinc _ _ => 3 | .ifCond _ _ => 3 | .if_icmp _ _ => 3 | .goto _ => 3 | .getfield _ => 3 | .putfield _ => 3 | .invokevirtual _ => 3 | .invokestatic _ => 3
  | .tableswitch _ _ _ _ => 0 | .lookupswitch _ _ => 0
  | _ => 1
def mm_cok (Tb : List Cond) (me : mm_Y) : Prop := Cond.code me.1 me.2.2.1 me.2.2.2.1 me.2.2.2.2.1 ∈ Tb ∧ Cond.initialized me.1.cls ∈ Tb ∧ (me.1.cls ≠ "java/lang/invoke/MethodHandle" ∧ me.1.cls ≠ "java/lang/invoke/VarHandle") ∧ me.2.2.2.1 ≤ 21
def mm_lok (Tb Nb : List Cond) (own : String) (idx : Nat) (y : MethodName) : Prop := Cond.methodLink own idx y ∈ Tb ∨ ∃ host, Cond.methodLinkNest own idx y host ∈ Nb
def mm_fok (Tb Nb : List Cond) (own : String) (idx : Nat) (q : String × String × String × Bool) : Prop := Cond.fieldLink own idx q.1 q.2.1 q.2.2.1 ∈ Tb ∨ ∃ host, Cond.fieldLinkNest own idx q.1 q.2.1 q.2.2.1 host ∈ Nb
def mm_rok (Pg : mm_P) (cl : List vw_C) (Tb Nb : List Cond) (me : mm_Y) (r : mm_I) : Prop :=
  match r.2.1 with
  | .getfield idx => ∃ C, cl[r.2.2.2.1]? = some C ∧ r.2.2.2.2 < C.2.2 ∧ mm_fok Tb Nb me.1.cls idx (C.2.1 r.2.2.2.2)
  | .putfield idx => ∃ C, cl[r.2.2.2.1]? = some C ∧ r.2.2.2.2 < C.2.2 ∧ mm_fok Tb Nb me.1.cls idx (C.2.1 r.2.2.2.2) ∧ (C.2.1 r.2.2.2.2).2.2.2 = false
  | .invokevirtual idx => ∃ me' C, Pg r.2.2.2.1 = some me' ∧ mm_cok Tb me' ∧ cl[me'.2.1]? = some C ∧ C.1 = me'.1.cls ∧ Cond.instanceMethod me'.1 ∈ Tb ∧ Cond.selects me'.1.cls me'.1 me'.1 ∈ Tb ∧ (parseMethodDescriptor me'.1.desc).map (fun d => d.parameters.length) = some r.2.2.2.2 ∧ mm_lok Tb Nb me.1.cls idx me'.1
  | .invokestatic idx =>
    (r.2.2.2.1 = 1000 ∧ Cond.methodLink me.1.cls idx Lib.Math.max.name ∈ Tb ∧ Cond.static Lib.Math.max.name ∈ Tb ∧ Cond.initialized "java/lang/Math" ∈ Tb ∧ Cond.code Lib.Math.max.name Lib.Math.max.code 2 (some .int) ∈ Tb) ∨
    (r.2.2.2.1 = 1001 ∧ Cond.methodLink me.1.cls idx arraycopyName ∈ Tb ∧ Cond.native arraycopyName ∈ Tb ∧ Cond.static arraycopyName ∈ Tb ∧ Cond.initialized "java/lang/System" ∈ Tb) ∨
    (r.2.2.2.1 < 1000 ∧ ∃ me', Pg r.2.2.2.1 = some me' ∧ mm_cok Tb me' ∧ Cond.static me'.1 ∈ Tb ∧ (parseMethodDescriptor me'.1.desc).map (fun d => d.parameters.length) = some r.2.2.2.2 ∧ mm_lok Tb Nb me.1.cls idx me'.1)
  | _ => True
def mm_clok (cl : List vw_C) (tt : Nat → Nat → FieldType) (Tb : List Cond) : Prop := ∀ (ci : Nat) (C : vw_C), cl[ci]? = some C → (∀ w ∈ u_ws C.1 C.2.1 C.2.2, w ∈ Tb) ∧ (∀ k, k < C.2.2 → parseFieldDescriptor (C.2.1 k).2.2.1 = some (tt ci k)) ∧ (∀ a, a < C.2.2 → ∀ b, b < C.2.2 → a ≠ b → (C.2.1 a).2.1 ≠ (C.2.1 b).2.1)
def mm_layok (lay : List mm_R) (cl : List vw_C) (tt : Nat → Nat → FieldType) : Prop := ∀ (q ci : Nat) (fl : List mm_F), lay[q]? = some (.inr (ci, fl)) → ∃ C, cl[ci]? = some C ∧ fl.length = C.2.2 ∧ ∀ k : Nat, (fl[k]? = some none → tt ci k = .int) ∧ (fl[k]? = some (some none) → tt ci k = .boolean)
def mm_gd (Tb : List Cond) : Prop := ∀ w ∈ Tb, (w.onTables && w.keeps) = true ∨ ∃ ty, w = .arrayClass ty
def mm_nd (Nb : List Cond) : Prop := ∀ w ∈ Nb, (∃ a i b n d h, w = .fieldLinkNest a i b n d h) ∨ ∃ a i x h, w = .methodLinkNest a i x h
def mm_pok (Pg : mm_P) (cl : List vw_C) (Tb Nb : List Cond) : Prop := ∀ (j : Nat) (me : mm_Y), Pg j = some me → plainName me.1.cls = true ∧ ∀ r ∈ me.2.2.2.2.2, decode me.2.2.1 r.1 = .ok (r.2.1, r.2.2.1) ∧ (mm_len r.2.1 = 0 ∨ mm_len r.2.1 = r.2.2.1) ∧ mm_rok Pg cl Tb Nb me r
def mm_ok (Pg : mm_P) (lay : List mm_R) (cl : List vw_C) (tt : Nat → Nat → FieldType) (Tb Nb : List Cond) : Prop := mm_gd Tb ∧ mm_nd Nb ∧ mm_clok cl tt Tb ∧ mm_layok lay cl tt ∧ mm_pok Pg cl Tb Nb
def mm_ws (Tb : List Cond) (me : mm_Y) : List Cond := .code me.1 me.2.2.1 me.2.2.2.1 me.2.2.2.2.1 :: Tb
def mm_rm (d : Nat) : Room := { frames := d, cells := 0, slots := 0, locals := 40 * d }
def mm_A (ad : Nat → Nat) (lay : List mm_R) (sz : Nat) : Nat → Prop := fun q => (∃ k, k < lay.length ∧ q = ad k) ∨ sz ≤ q
def mm_B (D : va_G) (cl : List vw_C) (Nb : List Cond) (ad : Nat → Nat) (cI cZ : ClassId) (lay : List mm_R) (M : mm_M) (U : State) : Prop :=
  va_P D cl (mm_W ad cI cZ lay M) U.heap ∧ va_K D cl [(cI, .int), (cZ, .boolean)] U ∧ (∀ w ∈ Nb, va_Nw w U) ∧ va_D (fun _ => True) (mm_W ad cI cZ lay M)
def mm_Pc (D : va_G) (cl : List vw_C) (Nb : List Cond) (ad : Nat → Nat) (cI cZ : ClassId) (lay : List mm_R) (args : List mm_V) (M : mm_M) (sz : Nat) : Array Value → State → Prop := va_Pc (args.map (mm_val ad)) (fun U => U.heap.size = sz ∧ mm_B D cl Nb ad cI cZ lay M U)
def mm_Qc (D : va_G) (cl : List vw_C) (ad : Nat → Nat) (cI cZ : ClassId) (lay : List mm_R) (Q : mm_Qt) (A : Nat → Prop) : Array Value → State → Outcome → State → Prop := fun _ st oc t =>
  (∃ (v : Option mm_V) (M' : mm_M), oc = .returned (v.map (mm_val ad)) ∧ Q v M' ∧ va_P D cl (mm_W ad cI cZ lay M') t.heap) ∧ va_F A st t
theorem mm_Nw_on {Nb : List Cond} (h : mm_nd Nb) {w : Cond} (hw : w ∈ Nb) : w.onTables = true := by
  rcases h w hw with ⟨_, _, _, _, _, _, rfl⟩ | ⟨_, _, _, _, rfl⟩ <;> rfl
theorem mm_Nw_warm {Nb : List Cond} (h : mm_nd Nb) {s U : State} (hW : s.WarmedH U.vm) (hs : ∀ w ∈ Nb, va_Nw w s) : ∀ w ∈ Nb, va_Nw w U := by
  intro w hw
  have h1 := hs w hw
  rcases h w hw with ⟨_, _, _, _, _, _, rfl⟩ | ⟨_, _, _, _, rfl⟩
  · exact va_Nw.warmF hW h1
  · exact va_Nw.warmM hW h1
theorem mm_blind {D : va_G} {cl : List vw_C} {Nb : List Cond} {ad : Nat → Nat} {cI cZ : ClassId} {lay : List mm_R} {args : List mm_V} {M : mm_M} {sz : Nat} (hn : mm_nd Nb) : FrameBlind (mm_Pc D cl Nb ad cI cZ lay args M sz) := by
  intro a U g mk q
  obtain ⟨q0, q1, qP, qK, qN, qD⟩ := q
  exact ⟨q0, q1, qP, va_K.moved (u := U) (U := U.calling g mk a) (Vm.Alike.refl U.vm) qK, fun w hw => va_Nw.same (u := U) (U := U.calling g mk a) (mm_Nw_on hn hw) rfl (qN w hw), qD⟩
section MMC
variable {p : Program} {l : Launch} {e : Env} {R : Room} {s : State} {m : MethodId} {args : Array Value} {below : List Frame} {meth : Method} {c : Code} {H : Heap} {locs : List Loc} {Z : State → Prop}
theorem mm_call {pc : Nat} {ls : Array Slot} {rest st0 : List Value} {a : Array Value} {A0 A1 : Nat → Prop} {H0 : Heap} {free : Addr → Prop} {D : va_G} {cl : List vw_C} {ad : Nat → Nat} {cI cZ : ClassId} {lay : List mm_R} {Q : mm_Qt}
    (hr : va_Run p l e R s m args below meth c H locs 0 0 0 0 (F0 m pc ls st0) rest (mm_Qc D cl ad cI cZ lay Q A1 a) free) (hS : va_S A0 H0 H locs) (hA : ∀ q, q < H.size → A1 q → A0 q) (hf : ∀ q, free q → A0 q)
    (kk : ∀ (v : Option mm_V) (M' : mm_M) (H1 : Heap) (locs1 : List Loc), Q v M' → va_P D cl (mm_W ad cI cZ lay M') H1 → va_S A0 H0 H1 locs1 → W p l e R s m args below meth c H1 locs1 0 0 Z (F0 m (pc + 3) ls ((v.map (mm_val ad)).toList ++ rest))) : W p l e R s m args below meth c H locs 0 0 Z (F0 m pc ls st0) := by
  intro T hT X
  obtain ⟨v, st₀, t, T', L, h0, X', hL, e1, e2, ⟨⟨v2, M', hv, hp, hb⟩, hz, hk⟩, st⟩ := hr T hT X
  cases hv
  rw [h0] at hz hk
  obtain ⟨t2, a1, b1⟩ := kk v2 M' T'.heap (locs ++ L) hp (by rw [e1]; exact hb)
    ⟨Nat.le_trans hS.1 (by rw [e1]; exact hz), fun q h1 h2 => by rw [e1, hk q (Nat.lt_of_lt_of_le h1 hS.1) (fun z => h2 (hA q (Nat.lt_of_lt_of_le h1 hS.1) z))]; exact hS.2.1 q h1 h2, fun q hq => by
      rcases List.mem_append.mp hq with h | h
      · exact hS.2.2 q h
      · exact hf _ (hL q h)⟩ T' rfl X'
  exact ⟨t2, st t2 a1, b1⟩
end MMC
