/-! CONSTRUCTORS, over the kit's rows: the cells that come, in the order of the regions -/
abbrev cpre (D : va_G) (cI cZ : ClassId) (sz : Nat) (ws : va_W) (U : State) : Prop := U.heap.size = sz ∧ va_P D cl_all ws U.heap ∧ va_K D cl_all [(cI, .int), (cZ, .boolean)] U ∧ va_D (fun _ => True) ws
def cy_Gr_init : MethodName := ({ cls := "ParserGenerator$Grammar", name := "<init>", desc := "()V" } : Jvm.MethodName)
def cws_Gr : List Cond := .code cy_Gr_init prog_4_method_1_code 2 none :: tb_all
abbrev cw0_Gr (h0 : Nat) : va_W := [(h0, .inr (1, [.null, .null, .null, .null, .null, .int 0]))]
abbrev cw1_Gr (cI cZ : ClassId) (h0 q1 q2 q3 q4 q5 : Nat) (f : Nat → Int32) : va_W := [(h0, .inr (1, [.ref q1, .ref q2, .ref q3, .ref q4, .ref q5, .int 0])), (q1, .inl (cI, 60, .inl (fun _ => 0))), (q2, .inl (cI, 60, .inl (fun _ => 0))), (q3, .inl (cI, 60, .inl (fun _ => 0))), (q4, .inl (cI, 8, .inl f)), (q5, .inl (cI, 60, .inl (fun _ => 0)))]
abbrev cb_Gr (D : va_G) (cI cZ : ClassId) (A : Nat → Prop) (h0 : Nat) (t : State) : Prop := ∃ q1 : Nat, ∃ q2 : Nat, ∃ q3 : Nat, ∃ q4 : Nat, ∃ q5 : Nat, ∃ f : Nat → Int32, (∀ r, r < 8 → f r = -1) ∧ va_P D cl_all (cw1_Gr cI cZ h0 q1 q2 q3 q4 q5 f) t.heap ∧ va_K D cl_all [(cI, .int), (cZ, .boolean)] t ∧ va_D A (cw1_Gr cI cZ h0 q1 q2 q3 q4 q5 f)
set_option maxHeartbeats 4000000 in
set_option maxRecDepth 100000 in
theorem c_Gr_init (l : Launch) (D : va_G) (cI cZ : ClassId) (h0 sz : Nat) : Met l cy_Gr_init cws_Gr ({ frames := 1, cells := 5, slots := 248, locals := 12 }) (va_Pc [.ref h0] (cpre D cI cZ sz (cw0_Gr h0))) (va_Qv (fun _ : Unit => True) (fun _ t => cb_Gr D cI cZ (va_A (cw0_Gr h0) sz) h0 t) (va_A (cw0_Gr h0) sz)) 5 248 (va_A (cw0_Gr h0) sz) := by
  refine Met.ofW (cc := prog_4_method_1_code) (maxL := 2) (ret := none) (by decide) rfl ?_
  intro p e s m args below meth c s₁ B hml hv
  obtain ⟨rfl, hsz, hP, hK, hD0⟩ := hv
  have hx := B.exec
  have hb := B.bytes
  have hr := B.returns
  have hts : ∀ w ∈ tb_all, _ := fun w h => atoms_spec (ws := cws_Gr) B.pre w (List.mem_cons_of_mem _ h)
  have hown : s.vm.findClass "ParserGenerator$Grammar" = some m.cls := findClass_of_methodNamed B.named
  have hlocks := B.notSynchronized
  have hin : meth.name = "<init>" := (name_of_methodNamed B.named B.method).1
  subst hsz
  have hD := hD0.self (sz := s.heap.size)
  generalize hAe : va_A [(h0, .inr (1, [.null, .null, .null, .null, .null, .int 0]))] s.heap.size = A at hD ⊢
  have hA : ∀ q : Nat, s.heap.size ≤ q → A q := fun q h => by rw [← hAe]; exact Or.inr h
  have hS : va_S A s.heap s.heap [] := va_S.rf
  have hP : va_P D cl_all [(h0, .inr (1, [.null, .null, .null, .null, .null, .int 0]))] s.heap := hP
  have hl := lv_entry ([.ref h0]) (n := 2) (Nat.le_of_ble_eq_true rfl)
  rw [lg_entry_eq]
  generalize (lg_sl ([.ref h0]) ++ List.replicate (2 - (lg_sl ([.ref h0])).length) Slot.unset).toArray = ls at hl ⊢
  have hl : lv_has ls 2 [(0, .ref h0)] := hl
  refine lv_aload_n hx hb dc_Gr_0 rfl (lv_at hl 0 rfl) ?_
  refine W.objInit hx hb hown (hts _ tx_1_23) (hts _ tx_1_16) (hts _ tx_1_17) rfl (by rw [hml]; exact hl.1) rfl dc_Gr_1 (Nat.le_of_ble_eq_true rfl) (Nat.le_of_ble_eq_true rfl) ?_
  refine W.eq (g2 := F0 m 4 ls []) rfl ?_
  refine lv_aload_n hx hb dc_Gr_4 rfl (lv_at hl 0 rfl) ?_
  refine lv_bipush (v := 60) hx hb dc_Gr_5 (by decide) ?_
  refine va_newa (atype := .int) (ty := .int) (N' := 60) (a0 := (60, .inl (fun _ => 0))) hx hb (hts _ tx_1_52) rfl hK hP hD hS hA (fun _ => rfl) (by decide) (by decide) (by decide) (Nat.le_of_ble_eq_true rfl) (Nat.le_of_ble_eq_true rfl) dc_Gr_7 (fun q1 cA H hK1 hP hD hS => ?_)
  have eA : cA = cI := Option.some.inj ((va_nm_int (hK1.2 2 _ rfl).2).symm.trans (va_nm_int (hK.2 0 _ rfl).2))
  rw [eA] at hP hD
  have hP : va_P D cl_all [(h0, .inr (1, [.null, .null, .null, .null, .null, .int 0])), (q1, .inl (cI, 60, .inl (fun _ => 0)))] H := hP
  have hD : va_D A [(h0, .inr (1, [.null, .null, .null, .null, .null, .int 0])), (q1, .inl (cI, 60, .inl (fun _ => 0)))] := hD
  refine W.widen (k := 1) (n := 60) (by omega) (by omega) ?_
  refine va_putF (D := D) (ci := 1) (v := .ref q1) (ty := (.array .int)) (C := "ParserGenerator$Grammar") (T := ct_1) (N := 6) hx hb hts cw_1 cy_1 cd_1 cn_1 hown hK hP hD hS 0 rfl rfl 0 (by decide) (hts _ tx_1_24) (fun _ h9 => h9) rfl hin rfl (by decide +kernel) rfl rfl (Nat.le_of_ble_eq_true rfl) dc_Gr_9 (fun H locs hP hD hS => ?_)
  have hP : va_P D cl_all [(h0, .inr (1, [.ref q1, .null, .null, .null, .null, .int 0])), (q1, .inl (cI, 60, .inl (fun _ => 0)))] H := hP
  have hD : va_D A [(h0, .inr (1, [.ref q1, .null, .null, .null, .null, .int 0])), (q1, .inl (cI, 60, .inl (fun _ => 0)))] := hD
  refine lv_aload_n hx hb dc_Gr_12 rfl (lv_at hl 0 rfl) ?_
  refine lv_bipush (v := 60) hx hb dc_Gr_13 (by decide) ?_
  refine va_newa (atype := .int) (ty := .int) (N' := 60) (a0 := (60, .inl (fun _ => 0))) hx hb (hts _ tx_1_52) rfl hK hP hD hS hA (fun _ => rfl) (by decide) (by decide) (by decide) (Nat.le_of_ble_eq_true rfl) (Nat.le_of_ble_eq_true rfl) dc_Gr_15 (fun q2 cA H hK1 hP hD hS => ?_)
  have eA : cA = cI := Option.some.inj ((va_nm_int (hK1.2 2 _ rfl).2).symm.trans (va_nm_int (hK.2 0 _ rfl).2))
  rw [eA] at hP hD
  have hP : va_P D cl_all [(h0, .inr (1, [.ref q1, .null, .null, .null, .null, .int 0])), (q1, .inl (cI, 60, .inl (fun _ => 0))), (q2, .inl (cI, 60, .inl (fun _ => 0)))] H := hP
  have hD : va_D A [(h0, .inr (1, [.ref q1, .null, .null, .null, .null, .int 0])), (q1, .inl (cI, 60, .inl (fun _ => 0))), (q2, .inl (cI, 60, .inl (fun _ => 0)))] := hD
  refine W.widen (k := 2) (n := 120) (by omega) (by omega) ?_
  refine va_putF (D := D) (ci := 1) (v := .ref q2) (ty := (.array .int)) (C := "ParserGenerator$Grammar") (T := ct_1) (N := 6) hx hb hts cw_1 cy_1 cd_1 cn_1 hown hK hP hD hS 0 rfl rfl 1 (by decide) (hts _ tx_1_27) (fun _ h9 => h9) rfl hin rfl (by decide +kernel) rfl rfl (Nat.le_of_ble_eq_true rfl) dc_Gr_17 (fun H locs hP hD hS => ?_)
  have hP : va_P D cl_all [(h0, .inr (1, [.ref q1, .ref q2, .null, .null, .null, .int 0])), (q1, .inl (cI, 60, .inl (fun _ => 0))), (q2, .inl (cI, 60, .inl (fun _ => 0)))] H := hP
  have hD : va_D A [(h0, .inr (1, [.ref q1, .ref q2, .null, .null, .null, .int 0])), (q1, .inl (cI, 60, .inl (fun _ => 0))), (q2, .inl (cI, 60, .inl (fun _ => 0)))] := hD
  refine lv_aload_n hx hb dc_Gr_20 rfl (lv_at hl 0 rfl) ?_
  refine lv_bipush (v := 60) hx hb dc_Gr_21 (by decide) ?_
  refine va_newa (atype := .int) (ty := .int) (N' := 60) (a0 := (60, .inl (fun _ => 0))) hx hb (hts _ tx_1_52) rfl hK hP hD hS hA (fun _ => rfl) (by decide) (by decide) (by decide) (Nat.le_of_ble_eq_true rfl) (Nat.le_of_ble_eq_true rfl) dc_Gr_23 (fun q3 cA H hK1 hP hD hS => ?_)
  have eA : cA = cI := Option.some.inj ((va_nm_int (hK1.2 2 _ rfl).2).symm.trans (va_nm_int (hK.2 0 _ rfl).2))
  rw [eA] at hP hD
  have hP : va_P D cl_all [(h0, .inr (1, [.ref q1, .ref q2, .null, .null, .null, .int 0])), (q1, .inl (cI, 60, .inl (fun _ => 0))), (q2, .inl (cI, 60, .inl (fun _ => 0))), (q3, .inl (cI, 60, .inl (fun _ => 0)))] H := hP
  have hD : va_D A [(h0, .inr (1, [.ref q1, .ref q2, .null, .null, .null, .int 0])), (q1, .inl (cI, 60, .inl (fun _ => 0))), (q2, .inl (cI, 60, .inl (fun _ => 0))), (q3, .inl (cI, 60, .inl (fun _ => 0)))] := hD
  refine W.widen (k := 3) (n := 180) (by omega) (by omega) ?_
  refine va_putF (D := D) (ci := 1) (v := .ref q3) (ty := (.array .int)) (C := "ParserGenerator$Grammar") (T := ct_1) (N := 6) hx hb hts cw_1 cy_1 cd_1 cn_1 hown hK hP hD hS 0 rfl rfl 2 (by decide) (hts _ tx_1_30) (fun _ h9 => h9) rfl hin rfl (by decide +kernel) rfl rfl (Nat.le_of_ble_eq_true rfl) dc_Gr_25 (fun H locs hP hD hS => ?_)
  have hP : va_P D cl_all [(h0, .inr (1, [.ref q1, .ref q2, .ref q3, .null, .null, .int 0])), (q1, .inl (cI, 60, .inl (fun _ => 0))), (q2, .inl (cI, 60, .inl (fun _ => 0))), (q3, .inl (cI, 60, .inl (fun _ => 0)))] H := hP
  have hD : va_D A [(h0, .inr (1, [.ref q1, .ref q2, .ref q3, .null, .null, .int 0])), (q1, .inl (cI, 60, .inl (fun _ => 0))), (q2, .inl (cI, 60, .inl (fun _ => 0))), (q3, .inl (cI, 60, .inl (fun _ => 0)))] := hD
  refine lv_aload_n hx hb dc_Gr_28 rfl (lv_at hl 0 rfl) ?_
  refine lv_bipush (v := 8) hx hb dc_Gr_29 (by decide) ?_
  refine va_newa (atype := .int) (ty := .int) (N' := 8) (a0 := (8, .inl (fun _ => 0))) hx hb (hts _ tx_1_52) rfl hK hP hD hS hA (fun _ => rfl) (by decide) (by decide) (by decide) (Nat.le_of_ble_eq_true rfl) (Nat.le_of_ble_eq_true rfl) dc_Gr_31 (fun q4 cA H hK1 hP hD hS => ?_)
  have eA : cA = cI := Option.some.inj ((va_nm_int (hK1.2 2 _ rfl).2).symm.trans (va_nm_int (hK.2 0 _ rfl).2))
  rw [eA] at hP hD
  have hP : va_P D cl_all [(h0, .inr (1, [.ref q1, .ref q2, .ref q3, .null, .null, .int 0])), (q1, .inl (cI, 60, .inl (fun _ => 0))), (q2, .inl (cI, 60, .inl (fun _ => 0))), (q3, .inl (cI, 60, .inl (fun _ => 0))), (q4, .inl (cI, 8, .inl (fun _ => 0)))] H := hP
  have hD : va_D A [(h0, .inr (1, [.ref q1, .ref q2, .ref q3, .null, .null, .int 0])), (q1, .inl (cI, 60, .inl (fun _ => 0))), (q2, .inl (cI, 60, .inl (fun _ => 0))), (q3, .inl (cI, 60, .inl (fun _ => 0))), (q4, .inl (cI, 8, .inl (fun _ => 0)))] := hD
  refine W.widen (k := 4) (n := 188) (by omega) (by omega) ?_
  refine va_putF (D := D) (ci := 1) (v := .ref q4) (ty := (.array .int)) (C := "ParserGenerator$Grammar") (T := ct_1) (N := 6) hx hb hts cw_1 cy_1 cd_1 cn_1 hown hK hP hD hS 0 rfl rfl 3 (by decide) (hts _ tx_1_33) (fun _ h9 => h9) rfl hin rfl (by decide +kernel) rfl rfl (Nat.le_of_ble_eq_true rfl) dc_Gr_33 (fun H locs hP hD hS => ?_)
  have hP : va_P D cl_all [(h0, .inr (1, [.ref q1, .ref q2, .ref q3, .ref q4, .null, .int 0])), (q1, .inl (cI, 60, .inl (fun _ => 0))), (q2, .inl (cI, 60, .inl (fun _ => 0))), (q3, .inl (cI, 60, .inl (fun _ => 0))), (q4, .inl (cI, 8, .inl (fun _ => 0)))] H := hP
  have hD : va_D A [(h0, .inr (1, [.ref q1, .ref q2, .ref q3, .ref q4, .null, .int 0])), (q1, .inl (cI, 60, .inl (fun _ => 0))), (q2, .inl (cI, 60, .inl (fun _ => 0))), (q3, .inl (cI, 60, .inl (fun _ => 0))), (q4, .inl (cI, 8, .inl (fun _ => 0)))] := hD
  refine lv_aload_n hx hb dc_Gr_36 rfl (lv_at hl 0 rfl) ?_
  refine lv_bipush (v := 60) hx hb dc_Gr_37 (by decide) ?_
  refine va_newa (atype := .int) (ty := .int) (N' := 60) (a0 := (60, .inl (fun _ => 0))) hx hb (hts _ tx_1_52) rfl hK hP hD hS hA (fun _ => rfl) (by decide) (by decide) (by decide) (Nat.le_of_ble_eq_true rfl) (Nat.le_of_ble_eq_true rfl) dc_Gr_39 (fun q5 cA H hK1 hP hD hS => ?_)
  have eA : cA = cI := Option.some.inj ((va_nm_int (hK1.2 2 _ rfl).2).symm.trans (va_nm_int (hK.2 0 _ rfl).2))
  rw [eA] at hP hD
  have hP : va_P D cl_all [(h0, .inr (1, [.ref q1, .ref q2, .ref q3, .ref q4, .null, .int 0])), (q1, .inl (cI, 60, .inl (fun _ => 0))), (q2, .inl (cI, 60, .inl (fun _ => 0))), (q3, .inl (cI, 60, .inl (fun _ => 0))), (q4, .inl (cI, 8, .inl (fun _ => 0))), (q5, .inl (cI, 60, .inl (fun _ => 0)))] H := hP
  have hD : va_D A [(h0, .inr (1, [.ref q1, .ref q2, .ref q3, .ref q4, .null, .int 0])), (q1, .inl (cI, 60, .inl (fun _ => 0))), (q2, .inl (cI, 60, .inl (fun _ => 0))), (q3, .inl (cI, 60, .inl (fun _ => 0))), (q4, .inl (cI, 8, .inl (fun _ => 0))), (q5, .inl (cI, 60, .inl (fun _ => 0)))] := hD
  refine W.widen (k := 5) (n := 248) (by omega) (by omega) ?_
  refine va_putF (D := D) (ci := 1) (v := .ref q5) (ty := (.array .int)) (C := "ParserGenerator$Grammar") (T := ct_1) (N := 6) hx hb hts cw_1 cy_1 cd_1 cn_1 hown hK hP hD hS 0 rfl rfl 4 (by decide) (hts _ tx_1_35) (fun _ h9 => h9) rfl hin rfl (by decide +kernel) rfl rfl (Nat.le_of_ble_eq_true rfl) dc_Gr_41 (fun H locs hP hD hS => ?_)
  have hP : va_P D cl_all [(h0, .inr (1, [.ref q1, .ref q2, .ref q3, .ref q4, .ref q5, .int 0])), (q1, .inl (cI, 60, .inl (fun _ => 0))), (q2, .inl (cI, 60, .inl (fun _ => 0))), (q3, .inl (cI, 60, .inl (fun _ => 0))), (q4, .inl (cI, 8, .inl (fun _ => 0))), (q5, .inl (cI, 60, .inl (fun _ => 0)))] H := hP
  have hD : va_D A [(h0, .inr (1, [.ref q1, .ref q2, .ref q3, .ref q4, .ref q5, .int 0])), (q1, .inl (cI, 60, .inl (fun _ => 0))), (q2, .inl (cI, 60, .inl (fun _ => 0))), (q3, .inl (cI, 60, .inl (fun _ => 0))), (q4, .inl (cI, 8, .inl (fun _ => 0))), (q5, .inl (cI, 60, .inl (fun _ => 0)))] := hD
  refine lv_iconst (v := 0) hx hb dc_Gr_44 (by decide) ?_
  refine lv_istore_n (lv' := [(1, .int 0), (0, .ref h0)]) hx hb dc_Gr_45 rfl hl (by decide) rfl (fun ls hl => ?_)
  refine lv_iload_n hx hb dc_Gr_46 rfl (lv_at hl 0 rfl) ?_
  refine lv_bipush (v := 8) hx hb dc_Gr_47 (by decide) ?_
  refine lv_icmp_ge (tgt := 65) hx hb dc_Gr_49 (by decide) (fun c9 => absurd c9 (by decide)) (fun _ => ?_)
  refine lv_aload_n hx hb dc_Gr_52 rfl (lv_at hl 1 rfl) ?_
  refine va_get (D := D) (ci := 1) (v := .ref q4) (C := "ParserGenerator$Grammar") (T := ct_1) (N := 6) hx hb hts cw_1 hown hK hP 0 rfl rfl 3 (by decide) (hts _ tx_1_33) (fun _ h9 => h9) rfl dc_Gr_53 ?_
  refine lv_iload_n hx hb dc_Gr_56 rfl (lv_at hl 0 rfl) ?_
  refine lv_iconst (v := (-1)) hx hb dc_Gr_57 (by decide) ?_
  refine va_iast hx hb hK hP hD hS 4 0 rfl rfl (show vp_in (nI 0) 8 from vp_in_nI (by omega) (by omega)) dc_Gr_58 (fun H locs hP hD hS => ?_)
  have hP : va_P D cl_all [(h0, .inr (1, [.ref q1, .ref q2, .ref q3, .ref q4, .ref q5, .int 0])), (q1, .inl (cI, 60, .inl (fun _ => 0))), (q2, .inl (cI, 60, .inl (fun _ => 0))), (q3, .inl (cI, 60, .inl (fun _ => 0))), (q4, .inl (cI, 8, .inl (upd (fun _ => 0) 0 (-1)))), (q5, .inl (cI, 60, .inl (fun _ => 0)))] H := hP
  have hD : va_D A [(h0, .inr (1, [.ref q1, .ref q2, .ref q3, .ref q4, .ref q5, .int 0])), (q1, .inl (cI, 60, .inl (fun _ => 0))), (q2, .inl (cI, 60, .inl (fun _ => 0))), (q3, .inl (cI, 60, .inl (fun _ => 0))), (q4, .inl (cI, 8, .inl (upd (fun _ => 0) 0 (-1)))), (q5, .inl (cI, 60, .inl (fun _ => 0)))] := hD
  obtain ⟨f1, ef1⟩ : ∃ g : Nat → Int32, g = upd (fun _ => 0) 0 (-1) := ⟨_, rfl⟩
  rw [← ef1] at hP hD
  refine lv_iinc (v := 1) (lv' := [(1, .int 1), (0, .ref h0)]) hx hb dc_Gr_59 hl (k := 0) rfl (by decide) (by decide) rfl (fun ls hl => ?_)
  refine lv_goto (tgt := 46) hx hb dc_Gr_62 (by decide) ?_
  refine lv_iload_n hx hb dc_Gr_46 rfl (lv_at hl 0 rfl) ?_
  refine lv_bipush (v := 8) hx hb dc_Gr_47 (by decide) ?_
  refine lv_icmp_ge (tgt := 65) hx hb dc_Gr_49 (by decide) (fun c9 => absurd c9 (by decide)) (fun _ => ?_)
  refine lv_aload_n hx hb dc_Gr_52 rfl (lv_at hl 1 rfl) ?_
  refine va_get (D := D) (ci := 1) (v := .ref q4) (C := "ParserGenerator$Grammar") (T := ct_1) (N := 6) hx hb hts cw_1 hown hK hP 0 rfl rfl 3 (by decide) (hts _ tx_1_33) (fun _ h9 => h9) rfl dc_Gr_53 ?_
  refine lv_iload_n hx hb dc_Gr_56 rfl (lv_at hl 0 rfl) ?_
  refine lv_iconst (v := (-1)) hx hb dc_Gr_57 (by decide) ?_
  refine va_iast hx hb hK hP hD hS 4 0 rfl rfl (show vp_in (nI 1) 8 from vp_in_nI (by omega) (by omega)) dc_Gr_58 (fun H locs hP hD hS => ?_)
  have hP : va_P D cl_all [(h0, .inr (1, [.ref q1, .ref q2, .ref q3, .ref q4, .ref q5, .int 0])), (q1, .inl (cI, 60, .inl (fun _ => 0))), (q2, .inl (cI, 60, .inl (fun _ => 0))), (q3, .inl (cI, 60, .inl (fun _ => 0))), (q4, .inl (cI, 8, .inl (upd f1 1 (-1)))), (q5, .inl (cI, 60, .inl (fun _ => 0)))] H := hP
  have hD : va_D A [(h0, .inr (1, [.ref q1, .ref q2, .ref q3, .ref q4, .ref q5, .int 0])), (q1, .inl (cI, 60, .inl (fun _ => 0))), (q2, .inl (cI, 60, .inl (fun _ => 0))), (q3, .inl (cI, 60, .inl (fun _ => 0))), (q4, .inl (cI, 8, .inl (upd f1 1 (-1)))), (q5, .inl (cI, 60, .inl (fun _ => 0)))] := hD
  obtain ⟨f2, ef2⟩ : ∃ g : Nat → Int32, g = upd f1 1 (-1) := ⟨_, rfl⟩
  rw [← ef2] at hP hD
  refine lv_iinc (v := 2) (lv' := [(1, .int 2), (0, .ref h0)]) hx hb dc_Gr_59 hl (k := 0) rfl (by decide) (by decide) rfl (fun ls hl => ?_)
  refine lv_goto (tgt := 46) hx hb dc_Gr_62 (by decide) ?_
  refine lv_iload_n hx hb dc_Gr_46 rfl (lv_at hl 0 rfl) ?_
  refine lv_bipush (v := 8) hx hb dc_Gr_47 (by decide) ?_
  refine lv_icmp_ge (tgt := 65) hx hb dc_Gr_49 (by decide) (fun c9 => absurd c9 (by decide)) (fun _ => ?_)
  refine lv_aload_n hx hb dc_Gr_52 rfl (lv_at hl 1 rfl) ?_
  refine va_get (D := D) (ci := 1) (v := .ref q4) (C := "ParserGenerator$Grammar") (T := ct_1) (N := 6) hx hb hts cw_1 hown hK hP 0 rfl rfl 3 (by decide) (hts _ tx_1_33) (fun _ h9 => h9) rfl dc_Gr_53 ?_
  refine lv_iload_n hx hb dc_Gr_56 rfl (lv_at hl 0 rfl) ?_
  refine lv_iconst (v := (-1)) hx hb dc_Gr_57 (by decide) ?_
  refine va_iast hx hb hK hP hD hS 4 0 rfl rfl (show vp_in (nI 2) 8 from vp_in_nI (by omega) (by omega)) dc_Gr_58 (fun H locs hP hD hS => ?_)
  have hP : va_P D cl_all [(h0, .inr (1, [.ref q1, .ref q2, .ref q3, .ref q4, .ref q5, .int 0])), (q1, .inl (cI, 60, .inl (fun _ => 0))), (q2, .inl (cI, 60, .inl (fun _ => 0))), (q3, .inl (cI, 60, .inl (fun _ => 0))), (q4, .inl (cI, 8, .inl (upd f2 2 (-1)))), (q5, .inl (cI, 60, .inl (fun _ => 0)))] H := hP
  have hD : va_D A [(h0, .inr (1, [.ref q1, .ref q2, .ref q3, .ref q4, .ref q5, .int 0])), (q1, .inl (cI, 60, .inl (fun _ => 0))), (q2, .inl (cI, 60, .inl (fun _ => 0))), (q3, .inl (cI, 60, .inl (fun _ => 0))), (q4, .inl (cI, 8, .inl (upd f2 2 (-1)))), (q5, .inl (cI, 60, .inl (fun _ => 0)))] := hD
  obtain ⟨f3, ef3⟩ : ∃ g : Nat → Int32, g = upd f2 2 (-1) := ⟨_, rfl⟩
  rw [← ef3] at hP hD
  refine lv_iinc (v := 3) (lv' := [(1, .int 3), (0, .ref h0)]) hx hb dc_Gr_59 hl (k := 0) rfl (by decide) (by decide) rfl (fun ls hl => ?_)
  refine lv_goto (tgt := 46) hx hb dc_Gr_62 (by decide) ?_
  refine lv_iload_n hx hb dc_Gr_46 rfl (lv_at hl 0 rfl) ?_
  refine lv_bipush (v := 8) hx hb dc_Gr_47 (by decide) ?_
  refine lv_icmp_ge (tgt := 65) hx hb dc_Gr_49 (by decide) (fun c9 => absurd c9 (by decide)) (fun _ => ?_)
  refine lv_aload_n hx hb dc_Gr_52 rfl (lv_at hl 1 rfl) ?_
  refine va_get (D := D) (ci := 1) (v := .ref q4) (C := "ParserGenerator$Grammar") (T := ct_1) (N := 6) hx hb hts cw_1 hown hK hP 0 rfl rfl 3 (by decide) (hts _ tx_1_33) (fun _ h9 => h9) rfl dc_Gr_53 ?_
  refine lv_iload_n hx hb dc_Gr_56 rfl (lv_at hl 0 rfl) ?_
  refine lv_iconst (v := (-1)) hx hb dc_Gr_57 (by decide) ?_
  refine va_iast hx hb hK hP hD hS 4 0 rfl rfl (show vp_in (nI 3) 8 from vp_in_nI (by omega) (by omega)) dc_Gr_58 (fun H locs hP hD hS => ?_)
  have hP : va_P D cl_all [(h0, .inr (1, [.ref q1, .ref q2, .ref q3, .ref q4, .ref q5, .int 0])), (q1, .inl (cI, 60, .inl (fun _ => 0))), (q2, .inl (cI, 60, .inl (fun _ => 0))), (q3, .inl (cI, 60, .inl (fun _ => 0))), (q4, .inl (cI, 8, .inl (upd f3 3 (-1)))), (q5, .inl (cI, 60, .inl (fun _ => 0)))] H := hP
  have hD : va_D A [(h0, .inr (1, [.ref q1, .ref q2, .ref q3, .ref q4, .ref q5, .int 0])), (q1, .inl (cI, 60, .inl (fun _ => 0))), (q2, .inl (cI, 60, .inl (fun _ => 0))), (q3, .inl (cI, 60, .inl (fun _ => 0))), (q4, .inl (cI, 8, .inl (upd f3 3 (-1)))), (q5, .inl (cI, 60, .inl (fun _ => 0)))] := hD
  obtain ⟨f4, ef4⟩ : ∃ g : Nat → Int32, g = upd f3 3 (-1) := ⟨_, rfl⟩
  rw [← ef4] at hP hD
  refine lv_iinc (v := 4) (lv' := [(1, .int 4), (0, .ref h0)]) hx hb dc_Gr_59 hl (k := 0) rfl (by decide) (by decide) rfl (fun ls hl => ?_)
  refine lv_goto (tgt := 46) hx hb dc_Gr_62 (by decide) ?_
  refine lv_iload_n hx hb dc_Gr_46 rfl (lv_at hl 0 rfl) ?_
  refine lv_bipush (v := 8) hx hb dc_Gr_47 (by decide) ?_
  refine lv_icmp_ge (tgt := 65) hx hb dc_Gr_49 (by decide) (fun c9 => absurd c9 (by decide)) (fun _ => ?_)
  refine lv_aload_n hx hb dc_Gr_52 rfl (lv_at hl 1 rfl) ?_
  refine va_get (D := D) (ci := 1) (v := .ref q4) (C := "ParserGenerator$Grammar") (T := ct_1) (N := 6) hx hb hts cw_1 hown hK hP 0 rfl rfl 3 (by decide) (hts _ tx_1_33) (fun _ h9 => h9) rfl dc_Gr_53 ?_
  refine lv_iload_n hx hb dc_Gr_56 rfl (lv_at hl 0 rfl) ?_
  refine lv_iconst (v := (-1)) hx hb dc_Gr_57 (by decide) ?_
  refine va_iast hx hb hK hP hD hS 4 0 rfl rfl (show vp_in (nI 4) 8 from vp_in_nI (by omega) (by omega)) dc_Gr_58 (fun H locs hP hD hS => ?_)
  have hP : va_P D cl_all [(h0, .inr (1, [.ref q1, .ref q2, .ref q3, .ref q4, .ref q5, .int 0])), (q1, .inl (cI, 60, .inl (fun _ => 0))), (q2, .inl (cI, 60, .inl (fun _ => 0))), (q3, .inl (cI, 60, .inl (fun _ => 0))), (q4, .inl (cI, 8, .inl (upd f4 4 (-1)))), (q5, .inl (cI, 60, .inl (fun _ => 0)))] H := hP
  have hD : va_D A [(h0, .inr (1, [.ref q1, .ref q2, .ref q3, .ref q4, .ref q5, .int 0])), (q1, .inl (cI, 60, .inl (fun _ => 0))), (q2, .inl (cI, 60, .inl (fun _ => 0))), (q3, .inl (cI, 60, .inl (fun _ => 0))), (q4, .inl (cI, 8, .inl (upd f4 4 (-1)))), (q5, .inl (cI, 60, .inl (fun _ => 0)))] := hD
  obtain ⟨f5, ef5⟩ : ∃ g : Nat → Int32, g = upd f4 4 (-1) := ⟨_, rfl⟩
  rw [← ef5] at hP hD
  refine lv_iinc (v := 5) (lv' := [(1, .int 5), (0, .ref h0)]) hx hb dc_Gr_59 hl (k := 0) rfl (by decide) (by decide) rfl (fun ls hl => ?_)
  refine lv_goto (tgt := 46) hx hb dc_Gr_62 (by decide) ?_
  refine lv_iload_n hx hb dc_Gr_46 rfl (lv_at hl 0 rfl) ?_
  refine lv_bipush (v := 8) hx hb dc_Gr_47 (by decide) ?_
  refine lv_icmp_ge (tgt := 65) hx hb dc_Gr_49 (by decide) (fun c9 => absurd c9 (by decide)) (fun _ => ?_)
  refine lv_aload_n hx hb dc_Gr_52 rfl (lv_at hl 1 rfl) ?_
  refine va_get (D := D) (ci := 1) (v := .ref q4) (C := "ParserGenerator$Grammar") (T := ct_1) (N := 6) hx hb hts cw_1 hown hK hP 0 rfl rfl 3 (by decide) (hts _ tx_1_33) (fun _ h9 => h9) rfl dc_Gr_53 ?_
  refine lv_iload_n hx hb dc_Gr_56 rfl (lv_at hl 0 rfl) ?_
  refine lv_iconst (v := (-1)) hx hb dc_Gr_57 (by decide) ?_
  refine va_iast hx hb hK hP hD hS 4 0 rfl rfl (show vp_in (nI 5) 8 from vp_in_nI (by omega) (by omega)) dc_Gr_58 (fun H locs hP hD hS => ?_)
  have hP : va_P D cl_all [(h0, .inr (1, [.ref q1, .ref q2, .ref q3, .ref q4, .ref q5, .int 0])), (q1, .inl (cI, 60, .inl (fun _ => 0))), (q2, .inl (cI, 60, .inl (fun _ => 0))), (q3, .inl (cI, 60, .inl (fun _ => 0))), (q4, .inl (cI, 8, .inl (upd f5 5 (-1)))), (q5, .inl (cI, 60, .inl (fun _ => 0)))] H := hP
  have hD : va_D A [(h0, .inr (1, [.ref q1, .ref q2, .ref q3, .ref q4, .ref q5, .int 0])), (q1, .inl (cI, 60, .inl (fun _ => 0))), (q2, .inl (cI, 60, .inl (fun _ => 0))), (q3, .inl (cI, 60, .inl (fun _ => 0))), (q4, .inl (cI, 8, .inl (upd f5 5 (-1)))), (q5, .inl (cI, 60, .inl (fun _ => 0)))] := hD
  obtain ⟨f6, ef6⟩ : ∃ g : Nat → Int32, g = upd f5 5 (-1) := ⟨_, rfl⟩
  rw [← ef6] at hP hD
  refine lv_iinc (v := 6) (lv' := [(1, .int 6), (0, .ref h0)]) hx hb dc_Gr_59 hl (k := 0) rfl (by decide) (by decide) rfl (fun ls hl => ?_)
  refine lv_goto (tgt := 46) hx hb dc_Gr_62 (by decide) ?_
  refine lv_iload_n hx hb dc_Gr_46 rfl (lv_at hl 0 rfl) ?_
  refine lv_bipush (v := 8) hx hb dc_Gr_47 (by decide) ?_
  refine lv_icmp_ge (tgt := 65) hx hb dc_Gr_49 (by decide) (fun c9 => absurd c9 (by decide)) (fun _ => ?_)
  refine lv_aload_n hx hb dc_Gr_52 rfl (lv_at hl 1 rfl) ?_
  refine va_get (D := D) (ci := 1) (v := .ref q4) (C := "ParserGenerator$Grammar") (T := ct_1) (N := 6) hx hb hts cw_1 hown hK hP 0 rfl rfl 3 (by decide) (hts _ tx_1_33) (fun _ h9 => h9) rfl dc_Gr_53 ?_
  refine lv_iload_n hx hb dc_Gr_56 rfl (lv_at hl 0 rfl) ?_
  refine lv_iconst (v := (-1)) hx hb dc_Gr_57 (by decide) ?_
  refine va_iast hx hb hK hP hD hS 4 0 rfl rfl (show vp_in (nI 6) 8 from vp_in_nI (by omega) (by omega)) dc_Gr_58 (fun H locs hP hD hS => ?_)
  have hP : va_P D cl_all [(h0, .inr (1, [.ref q1, .ref q2, .ref q3, .ref q4, .ref q5, .int 0])), (q1, .inl (cI, 60, .inl (fun _ => 0))), (q2, .inl (cI, 60, .inl (fun _ => 0))), (q3, .inl (cI, 60, .inl (fun _ => 0))), (q4, .inl (cI, 8, .inl (upd f6 6 (-1)))), (q5, .inl (cI, 60, .inl (fun _ => 0)))] H := hP
  have hD : va_D A [(h0, .inr (1, [.ref q1, .ref q2, .ref q3, .ref q4, .ref q5, .int 0])), (q1, .inl (cI, 60, .inl (fun _ => 0))), (q2, .inl (cI, 60, .inl (fun _ => 0))), (q3, .inl (cI, 60, .inl (fun _ => 0))), (q4, .inl (cI, 8, .inl (upd f6 6 (-1)))), (q5, .inl (cI, 60, .inl (fun _ => 0)))] := hD
  obtain ⟨f7, ef7⟩ : ∃ g : Nat → Int32, g = upd f6 6 (-1) := ⟨_, rfl⟩
  rw [← ef7] at hP hD
  refine lv_iinc (v := 7) (lv' := [(1, .int 7), (0, .ref h0)]) hx hb dc_Gr_59 hl (k := 0) rfl (by decide) (by decide) rfl (fun ls hl => ?_)
  refine lv_goto (tgt := 46) hx hb dc_Gr_62 (by decide) ?_
  refine lv_iload_n hx hb dc_Gr_46 rfl (lv_at hl 0 rfl) ?_
  refine lv_bipush (v := 8) hx hb dc_Gr_47 (by decide) ?_
  refine lv_icmp_ge (tgt := 65) hx hb dc_Gr_49 (by decide) (fun c9 => absurd c9 (by decide)) (fun _ => ?_)
  refine lv_aload_n hx hb dc_Gr_52 rfl (lv_at hl 1 rfl) ?_
  refine va_get (D := D) (ci := 1) (v := .ref q4) (C := "ParserGenerator$Grammar") (T := ct_1) (N := 6) hx hb hts cw_1 hown hK hP 0 rfl rfl 3 (by decide) (hts _ tx_1_33) (fun _ h9 => h9) rfl dc_Gr_53 ?_
  refine lv_iload_n hx hb dc_Gr_56 rfl (lv_at hl 0 rfl) ?_
  refine lv_iconst (v := (-1)) hx hb dc_Gr_57 (by decide) ?_
  refine va_iast hx hb hK hP hD hS 4 0 rfl rfl (show vp_in (nI 7) 8 from vp_in_nI (by omega) (by omega)) dc_Gr_58 (fun H locs hP hD hS => ?_)
  have hP : va_P D cl_all [(h0, .inr (1, [.ref q1, .ref q2, .ref q3, .ref q4, .ref q5, .int 0])), (q1, .inl (cI, 60, .inl (fun _ => 0))), (q2, .inl (cI, 60, .inl (fun _ => 0))), (q3, .inl (cI, 60, .inl (fun _ => 0))), (q4, .inl (cI, 8, .inl (upd f7 7 (-1)))), (q5, .inl (cI, 60, .inl (fun _ => 0)))] H := hP
  have hD : va_D A [(h0, .inr (1, [.ref q1, .ref q2, .ref q3, .ref q4, .ref q5, .int 0])), (q1, .inl (cI, 60, .inl (fun _ => 0))), (q2, .inl (cI, 60, .inl (fun _ => 0))), (q3, .inl (cI, 60, .inl (fun _ => 0))), (q4, .inl (cI, 8, .inl (upd f7 7 (-1)))), (q5, .inl (cI, 60, .inl (fun _ => 0)))] := hD
  obtain ⟨f8, ef8⟩ : ∃ g : Nat → Int32, g = upd f7 7 (-1) := ⟨_, rfl⟩
  rw [← ef8] at hP hD
  refine lv_iinc (v := 8) (lv' := [(1, .int 8), (0, .ref h0)]) hx hb dc_Gr_59 hl (k := 0) rfl (by decide) (by decide) rfl (fun ls hl => ?_)
  refine lv_goto (tgt := 46) hx hb dc_Gr_62 (by decide) ?_
  refine lv_iload_n hx hb dc_Gr_46 rfl (lv_at hl 0 rfl) ?_
  refine lv_bipush (v := 8) hx hb dc_Gr_47 (by decide) ?_
  refine lv_icmp_ge (tgt := 65) hx hb dc_Gr_49 (by decide) (fun _ => ?_) (fun c9 => absurd (by decide) c9)
  have hf : ∀ r, r < 8 → f8 r = -1 := by
    intro r hr
    rw [ef8, ef7, ef6, ef5, ef4, ef3, ef2, ef1]
    rcases (by omega : r = 0 ∨ r = 1 ∨ r = 2 ∨ r = 3 ∨ r = 4 ∨ r = 5 ∨ r = 6 ∨ r = 7) with h | h | h | h | h | h | h | h <;> subst h <;> simp [upd]
  refine W.widen (k := 5) (n := 248) (Nat.le_refl _) (Nat.le_refl _) ?_
  exact W.vret hx hb hr (fun t ht hW => ⟨⟨(), rfl, trivial, q1, q2, q3, q4, q5, f8, hf, by rw [ht]; exact hP, va_K.moved hW.alike hK, hD⟩, hS.F ht⟩) hS.2.2 dc_Gr_65
def cy_An_init : MethodName := ({ cls := "ParserGenerator$Analysis", name := "<init>", desc := "(LParserGenerator$Grammar;)V" } : Jvm.MethodName)
def cws_An : List Cond := .code cy_An_init prog_2_method_1_code 2 none :: tb_all
abbrev cw0_An (h0 : Nat) : va_W := [(h0, .inr (2, [.null, .null, .null, .null, .null, .null, .null, .int 0, .int 0, .int 0]))]
abbrev cw1_An (cI cZ : ClassId) (h0 g1 q1 q2 q3 q4 q5 q6 : Nat) : va_W := [(h0, .inr (2, [.ref g1, .ref q1, .ref q2, .ref q3, .ref q4, .ref q5, .ref q6, .int 0, .int 0, .int 0])), (q1, .inl (cZ, 60, .inl (fun _ => 0))), (q2, .inl (cI, 60, .inl (fun _ => 0))), (q3, .inl (cZ, 60, .inl (fun _ => 0))), (q4, .inl (cI, 60, .inl (fun _ => 0))), (q5, .inl (cI, 60, .inl (fun _ => 0))), (q6, .inl (cI, 8, .inl (fun _ => 0)))]
abbrev cb_An (D : va_G) (cI cZ : ClassId) (A : Nat → Prop) (h0 g1 : Nat) (t : State) : Prop := ∃ q1 : Nat, ∃ q2 : Nat, ∃ q3 : Nat, ∃ q4 : Nat, ∃ q5 : Nat, ∃ q6 : Nat, va_P D cl_all (cw1_An cI cZ h0 g1 q1 q2 q3 q4 q5 q6) t.heap ∧ va_K D cl_all [(cI, .int), (cZ, .boolean)] t ∧ va_D A (cw1_An cI cZ h0 g1 q1 q2 q3 q4 q5 q6)
set_option maxHeartbeats 4000000 in
set_option maxRecDepth 100000 in
theorem c_An_init (l : Launch) (D : va_G) (cI cZ : ClassId) (h0 g1 sz : Nat) : Met l cy_An_init cws_An ({ frames := 1, cells := 6, slots := 308, locals := 12 }) (va_Pc [.ref h0, .ref g1] (cpre D cI cZ sz (cw0_An h0))) (va_Qv (fun _ : Unit => True) (fun _ t => cb_An D cI cZ (va_A (cw0_An h0) sz) h0 g1 t) (va_A (cw0_An h0) sz)) 6 308 (va_A (cw0_An h0) sz) := by
  refine Met.ofW (cc := prog_2_method_1_code) (maxL := 2) (ret := none) (by decide) rfl ?_
  intro p e s m args below meth c s₁ B hml hv
  obtain ⟨rfl, hsz, hP, hK, hD0⟩ := hv
  have hx := B.exec
  have hb := B.bytes
  have hr := B.returns
  have hts : ∀ w ∈ tb_all, _ := fun w h => atoms_spec (ws := cws_An) B.pre w (List.mem_cons_of_mem _ h)
  have hown : s.vm.findClass "ParserGenerator$Analysis" = some m.cls := findClass_of_methodNamed B.named
  have hlocks := B.notSynchronized
  have hin : meth.name = "<init>" := (name_of_methodNamed B.named B.method).1
  subst hsz
  have hD := hD0.self (sz := s.heap.size)
  generalize hAe : va_A [(h0, .inr (2, [.null, .null, .null, .null, .null, .null, .null, .int 0, .int 0, .int 0]))] s.heap.size = A at hD ⊢
  have hA : ∀ q : Nat, s.heap.size ≤ q → A q := fun q h => by rw [← hAe]; exact Or.inr h
  have hS : va_S A s.heap s.heap [] := va_S.rf
  have hP : va_P D cl_all [(h0, .inr (2, [.null, .null, .null, .null, .null, .null, .null, .int 0, .int 0, .int 0]))] s.heap := hP
  have hl := lv_entry ([.ref h0, .ref g1]) (n := 2) (Nat.le_of_ble_eq_true rfl)
  rw [lg_entry_eq]
  generalize (lg_sl ([.ref h0, .ref g1]) ++ List.replicate (2 - (lg_sl ([.ref h0, .ref g1])).length) Slot.unset).toArray = ls at hl ⊢
  have hl : lv_has ls 2 [(0, .ref h0), (1, .ref g1)] := hl
  refine lv_aload_n hx hb dc_An_0 rfl (lv_at hl 0 rfl) ?_
  refine W.objInit hx hb hown (hts _ tx_1_58) (hts _ tx_1_16) (hts _ tx_1_17) rfl (by rw [hml]; exact hl.1) rfl dc_An_1 (Nat.le_of_ble_eq_true rfl) (Nat.le_of_ble_eq_true rfl) ?_
  refine W.eq (g2 := F0 m 4 ls []) rfl ?_
  refine lv_aload_n hx hb dc_An_4 rfl (lv_at hl 0 rfl) ?_
  refine lv_bipush (v := 60) hx hb dc_An_5 (by decide) ?_
  refine va_newa (atype := .boolean) (ty := .boolean) (N' := 60) (a0 := (60, .inl (fun _ => 0))) hx hb (hts _ tx_1_97) rfl hK hP hD hS hA (fun _ => rfl) (by decide) (by decide) (by decide) (Nat.le_of_ble_eq_true rfl) (Nat.le_of_ble_eq_true rfl) dc_An_7 (fun q1 cA H hK1 hP hD hS => ?_)
  have eA : cA = cZ := Option.some.inj ((va_nm_boolean (hK1.2 2 _ rfl).2).symm.trans (va_nm_boolean (hK.2 1 _ rfl).2))
  rw [eA] at hP hD
  have hP : va_P D cl_all [(h0, .inr (2, [.null, .null, .null, .null, .null, .null, .null, .int 0, .int 0, .int 0])), (q1, .inl (cZ, 60, .inl (fun _ => 0)))] H := hP
  have hD : va_D A [(h0, .inr (2, [.null, .null, .null, .null, .null, .null, .null, .int 0, .int 0, .int 0])), (q1, .inl (cZ, 60, .inl (fun _ => 0)))] := hD
  refine W.widen (k := 1) (n := 60) (by omega) (by omega) ?_
  refine va_putF (D := D) (ci := 2) (v := .ref q1) (ty := (.array .boolean)) (C := "ParserGenerator$Analysis") (T := ct_2) (N := 10) hx hb hts cw_2 cy_2 cd_2 cn_2 hown hK hP hD hS 0 rfl rfl 1 (by decide) (hts _ tx_1_60) (fun _ h9 => h9) rfl hin rfl (by decide +kernel) rfl rfl (Nat.le_of_ble_eq_true rfl) dc_An_9 (fun H locs hP hD hS => ?_)
  have hP : va_P D cl_all [(h0, .inr (2, [.null, .ref q1, .null, .null, .null, .null, .null, .int 0, .int 0, .int 0])), (q1, .inl (cZ, 60, .inl (fun _ => 0)))] H := hP
  have hD : va_D A [(h0, .inr (2, [.null, .ref q1, .null, .null, .null, .null, .null, .int 0, .int 0, .int 0])), (q1, .inl (cZ, 60, .inl (fun _ => 0)))] := hD
  refine lv_aload_n hx hb dc_An_12 rfl (lv_at hl 0 rfl) ?_
  refine lv_bipush (v := 60) hx hb dc_An_13 (by decide) ?_
  refine va_newa (atype := .int) (ty := .int) (N' := 60) (a0 := (60, .inl (fun _ => 0))) hx hb (hts _ tx_1_52) rfl hK hP hD hS hA (fun _ => rfl) (by decide) (by decide) (by decide) (Nat.le_of_ble_eq_true rfl) (Nat.le_of_ble_eq_true rfl) dc_An_15 (fun q2 cA H hK1 hP hD hS => ?_)
  have eA : cA = cI := Option.some.inj ((va_nm_int (hK1.2 2 _ rfl).2).symm.trans (va_nm_int (hK.2 0 _ rfl).2))
  rw [eA] at hP hD
  have hP : va_P D cl_all [(h0, .inr (2, [.null, .ref q1, .null, .null, .null, .null, .null, .int 0, .int 0, .int 0])), (q1, .inl (cZ, 60, .inl (fun _ => 0))), (q2, .inl (cI, 60, .inl (fun _ => 0)))] H := hP
  have hD : va_D A [(h0, .inr (2, [.null, .ref q1, .null, .null, .null, .null, .null, .int 0, .int 0, .int 0])), (q1, .inl (cZ, 60, .inl (fun _ => 0))), (q2, .inl (cI, 60, .inl (fun _ => 0)))] := hD
  refine W.widen (k := 2) (n := 120) (by omega) (by omega) ?_
  refine va_putF (D := D) (ci := 2) (v := .ref q2) (ty := (.array .int)) (C := "ParserGenerator$Analysis") (T := ct_2) (N := 10) hx hb hts cw_2 cy_2 cd_2 cn_2 hown hK hP hD hS 0 rfl rfl 2 (by decide) (hts _ tx_1_61) (fun _ h9 => h9) rfl hin rfl (by decide +kernel) rfl rfl (Nat.le_of_ble_eq_true rfl) dc_An_17 (fun H locs hP hD hS => ?_)
  have hP : va_P D cl_all [(h0, .inr (2, [.null, .ref q1, .ref q2, .null, .null, .null, .null, .int 0, .int 0, .int 0])), (q1, .inl (cZ, 60, .inl (fun _ => 0))), (q2, .inl (cI, 60, .inl (fun _ => 0)))] H := hP
  have hD : va_D A [(h0, .inr (2, [.null, .ref q1, .ref q2, .null, .null, .null, .null, .int 0, .int 0, .int 0])), (q1, .inl (cZ, 60, .inl (fun _ => 0))), (q2, .inl (cI, 60, .inl (fun _ => 0)))] := hD
  refine lv_aload_n hx hb dc_An_20 rfl (lv_at hl 0 rfl) ?_
  refine lv_bipush (v := 60) hx hb dc_An_21 (by decide) ?_
  refine va_newa (atype := .boolean) (ty := .boolean) (N' := 60) (a0 := (60, .inl (fun _ => 0))) hx hb (hts _ tx_1_97) rfl hK hP hD hS hA (fun _ => rfl) (by decide) (by decide) (by decide) (Nat.le_of_ble_eq_true rfl) (Nat.le_of_ble_eq_true rfl) dc_An_23 (fun q3 cA H hK1 hP hD hS => ?_)
  have eA : cA = cZ := Option.some.inj ((va_nm_boolean (hK1.2 2 _ rfl).2).symm.trans (va_nm_boolean (hK.2 1 _ rfl).2))
  rw [eA] at hP hD
  have hP : va_P D cl_all [(h0, .inr (2, [.null, .ref q1, .ref q2, .null, .null, .null, .null, .int 0, .int 0, .int 0])), (q1, .inl (cZ, 60, .inl (fun _ => 0))), (q2, .inl (cI, 60, .inl (fun _ => 0))), (q3, .inl (cZ, 60, .inl (fun _ => 0)))] H := hP
  have hD : va_D A [(h0, .inr (2, [.null, .ref q1, .ref q2, .null, .null, .null, .null, .int 0, .int 0, .int 0])), (q1, .inl (cZ, 60, .inl (fun _ => 0))), (q2, .inl (cI, 60, .inl (fun _ => 0))), (q3, .inl (cZ, 60, .inl (fun _ => 0)))] := hD
  refine W.widen (k := 3) (n := 180) (by omega) (by omega) ?_
  refine va_putF (D := D) (ci := 2) (v := .ref q3) (ty := (.array .boolean)) (C := "ParserGenerator$Analysis") (T := ct_2) (N := 10) hx hb hts cw_2 cy_2 cd_2 cn_2 hown hK hP hD hS 0 rfl rfl 3 (by decide) (hts _ tx_1_62) (fun _ h9 => h9) rfl hin rfl (by decide +kernel) rfl rfl (Nat.le_of_ble_eq_true rfl) dc_An_25 (fun H locs hP hD hS => ?_)
  have hP : va_P D cl_all [(h0, .inr (2, [.null, .ref q1, .ref q2, .ref q3, .null, .null, .null, .int 0, .int 0, .int 0])), (q1, .inl (cZ, 60, .inl (fun _ => 0))), (q2, .inl (cI, 60, .inl (fun _ => 0))), (q3, .inl (cZ, 60, .inl (fun _ => 0)))] H := hP
  have hD : va_D A [(h0, .inr (2, [.null, .ref q1, .ref q2, .ref q3, .null, .null, .null, .int 0, .int 0, .int 0])), (q1, .inl (cZ, 60, .inl (fun _ => 0))), (q2, .inl (cI, 60, .inl (fun _ => 0))), (q3, .inl (cZ, 60, .inl (fun _ => 0)))] := hD
  refine lv_aload_n hx hb dc_An_28 rfl (lv_at hl 0 rfl) ?_
  refine lv_bipush (v := 60) hx hb dc_An_29 (by decide) ?_
  refine va_newa (atype := .int) (ty := .int) (N' := 60) (a0 := (60, .inl (fun _ => 0))) hx hb (hts _ tx_1_52) rfl hK hP hD hS hA (fun _ => rfl) (by decide) (by decide) (by decide) (Nat.le_of_ble_eq_true rfl) (Nat.le_of_ble_eq_true rfl) dc_An_31 (fun q4 cA H hK1 hP hD hS => ?_)
  have eA : cA = cI := Option.some.inj ((va_nm_int (hK1.2 2 _ rfl).2).symm.trans (va_nm_int (hK.2 0 _ rfl).2))
  rw [eA] at hP hD
  have hP : va_P D cl_all [(h0, .inr (2, [.null, .ref q1, .ref q2, .ref q3, .null, .null, .null, .int 0, .int 0, .int 0])), (q1, .inl (cZ, 60, .inl (fun _ => 0))), (q2, .inl (cI, 60, .inl (fun _ => 0))), (q3, .inl (cZ, 60, .inl (fun _ => 0))), (q4, .inl (cI, 60, .inl (fun _ => 0)))] H := hP
  have hD : va_D A [(h0, .inr (2, [.null, .ref q1, .ref q2, .ref q3, .null, .null, .null, .int 0, .int 0, .int 0])), (q1, .inl (cZ, 60, .inl (fun _ => 0))), (q2, .inl (cI, 60, .inl (fun _ => 0))), (q3, .inl (cZ, 60, .inl (fun _ => 0))), (q4, .inl (cI, 60, .inl (fun _ => 0)))] := hD
  refine W.widen (k := 4) (n := 240) (by omega) (by omega) ?_
  refine va_putF (D := D) (ci := 2) (v := .ref q4) (ty := (.array .int)) (C := "ParserGenerator$Analysis") (T := ct_2) (N := 10) hx hb hts cw_2 cy_2 cd_2 cn_2 hown hK hP hD hS 0 rfl rfl 4 (by decide) (hts _ tx_1_64) (fun _ h9 => h9) rfl hin rfl (by decide +kernel) rfl rfl (Nat.le_of_ble_eq_true rfl) dc_An_33 (fun H locs hP hD hS => ?_)
  have hP : va_P D cl_all [(h0, .inr (2, [.null, .ref q1, .ref q2, .ref q3, .ref q4, .null, .null, .int 0, .int 0, .int 0])), (q1, .inl (cZ, 60, .inl (fun _ => 0))), (q2, .inl (cI, 60, .inl (fun _ => 0))), (q3, .inl (cZ, 60, .inl (fun _ => 0))), (q4, .inl (cI, 60, .inl (fun _ => 0)))] H := hP
  have hD : va_D A [(h0, .inr (2, [.null, .ref q1, .ref q2, .ref q3, .ref q4, .null, .null, .int 0, .int 0, .int 0])), (q1, .inl (cZ, 60, .inl (fun _ => 0))), (q2, .inl (cI, 60, .inl (fun _ => 0))), (q3, .inl (cZ, 60, .inl (fun _ => 0))), (q4, .inl (cI, 60, .inl (fun _ => 0)))] := hD
  refine lv_aload_n hx hb dc_An_36 rfl (lv_at hl 0 rfl) ?_
  refine lv_bipush (v := 60) hx hb dc_An_37 (by decide) ?_
  refine va_newa (atype := .int) (ty := .int) (N' := 60) (a0 := (60, .inl (fun _ => 0))) hx hb (hts _ tx_1_52) rfl hK hP hD hS hA (fun _ => rfl) (by decide) (by decide) (by decide) (Nat.le_of_ble_eq_true rfl) (Nat.le_of_ble_eq_true rfl) dc_An_39 (fun q5 cA H hK1 hP hD hS => ?_)
  have eA : cA = cI := Option.some.inj ((va_nm_int (hK1.2 2 _ rfl).2).symm.trans (va_nm_int (hK.2 0 _ rfl).2))
  rw [eA] at hP hD
  have hP : va_P D cl_all [(h0, .inr (2, [.null, .ref q1, .ref q2, .ref q3, .ref q4, .null, .null, .int 0, .int 0, .int 0])), (q1, .inl (cZ, 60, .inl (fun _ => 0))), (q2, .inl (cI, 60, .inl (fun _ => 0))), (q3, .inl (cZ, 60, .inl (fun _ => 0))), (q4, .inl (cI, 60, .inl (fun _ => 0))), (q5, .inl (cI, 60, .inl (fun _ => 0)))] H := hP
  have hD : va_D A [(h0, .inr (2, [.null, .ref q1, .ref q2, .ref q3, .ref q4, .null, .null, .int 0, .int 0, .int 0])), (q1, .inl (cZ, 60, .inl (fun _ => 0))), (q2, .inl (cI, 60, .inl (fun _ => 0))), (q3, .inl (cZ, 60, .inl (fun _ => 0))), (q4, .inl (cI, 60, .inl (fun _ => 0))), (q5, .inl (cI, 60, .inl (fun _ => 0)))] := hD
  refine W.widen (k := 5) (n := 300) (by omega) (by omega) ?_
  refine va_putF (D := D) (ci := 2) (v := .ref q5) (ty := (.array .int)) (C := "ParserGenerator$Analysis") (T := ct_2) (N := 10) hx hb hts cw_2 cy_2 cd_2 cn_2 hown hK hP hD hS 0 rfl rfl 5 (by decide) (hts _ tx_1_67) (fun _ h9 => h9) rfl hin rfl (by decide +kernel) rfl rfl (Nat.le_of_ble_eq_true rfl) dc_An_41 (fun H locs hP hD hS => ?_)
  have hP : va_P D cl_all [(h0, .inr (2, [.null, .ref q1, .ref q2, .ref q3, .ref q4, .ref q5, .null, .int 0, .int 0, .int 0])), (q1, .inl (cZ, 60, .inl (fun _ => 0))), (q2, .inl (cI, 60, .inl (fun _ => 0))), (q3, .inl (cZ, 60, .inl (fun _ => 0))), (q4, .inl (cI, 60, .inl (fun _ => 0))), (q5, .inl (cI, 60, .inl (fun _ => 0)))] H := hP
  have hD : va_D A [(h0, .inr (2, [.null, .ref q1, .ref q2, .ref q3, .ref q4, .ref q5, .null, .int 0, .int 0, .int 0])), (q1, .inl (cZ, 60, .inl (fun _ => 0))), (q2, .inl (cI, 60, .inl (fun _ => 0))), (q3, .inl (cZ, 60, .inl (fun _ => 0))), (q4, .inl (cI, 60, .inl (fun _ => 0))), (q5, .inl (cI, 60, .inl (fun _ => 0)))] := hD
  refine lv_aload_n hx hb dc_An_44 rfl (lv_at hl 0 rfl) ?_
  refine lv_bipush (v := 8) hx hb dc_An_45 (by decide) ?_
  refine va_newa (atype := .int) (ty := .int) (N' := 8) (a0 := (8, .inl (fun _ => 0))) hx hb (hts _ tx_1_52) rfl hK hP hD hS hA (fun _ => rfl) (by decide) (by decide) (by decide) (Nat.le_of_ble_eq_true rfl) (Nat.le_of_ble_eq_true rfl) dc_An_47 (fun q6 cA H hK1 hP hD hS => ?_)
  have eA : cA = cI := Option.some.inj ((va_nm_int (hK1.2 2 _ rfl).2).symm.trans (va_nm_int (hK.2 0 _ rfl).2))
  rw [eA] at hP hD
  have hP : va_P D cl_all [(h0, .inr (2, [.null, .ref q1, .ref q2, .ref q3, .ref q4, .ref q5, .null, .int 0, .int 0, .int 0])), (q1, .inl (cZ, 60, .inl (fun _ => 0))), (q2, .inl (cI, 60, .inl (fun _ => 0))), (q3, .inl (cZ, 60, .inl (fun _ => 0))), (q4, .inl (cI, 60, .inl (fun _ => 0))), (q5, .inl (cI, 60, .inl (fun _ => 0))), (q6, .inl (cI, 8, .inl (fun _ => 0)))] H := hP
  have hD : va_D A [(h0, .inr (2, [.null, .ref q1, .ref q2, .ref q3, .ref q4, .ref q5, .null, .int 0, .int 0, .int 0])), (q1, .inl (cZ, 60, .inl (fun _ => 0))), (q2, .inl (cI, 60, .inl (fun _ => 0))), (q3, .inl (cZ, 60, .inl (fun _ => 0))), (q4, .inl (cI, 60, .inl (fun _ => 0))), (q5, .inl (cI, 60, .inl (fun _ => 0))), (q6, .inl (cI, 8, .inl (fun _ => 0)))] := hD
  refine W.widen (k := 6) (n := 308) (by omega) (by omega) ?_
  refine va_putF (D := D) (ci := 2) (v := .ref q6) (ty := (.array .int)) (C := "ParserGenerator$Analysis") (T := ct_2) (N := 10) hx hb hts cw_2 cy_2 cd_2 cn_2 hown hK hP hD hS 0 rfl rfl 6 (by decide) (hts _ tx_1_69) (fun _ h9 => h9) rfl hin rfl (by decide +kernel) rfl rfl (Nat.le_of_ble_eq_true rfl) dc_An_49 (fun H locs hP hD hS => ?_)
  have hP : va_P D cl_all [(h0, .inr (2, [.null, .ref q1, .ref q2, .ref q3, .ref q4, .ref q5, .ref q6, .int 0, .int 0, .int 0])), (q1, .inl (cZ, 60, .inl (fun _ => 0))), (q2, .inl (cI, 60, .inl (fun _ => 0))), (q3, .inl (cZ, 60, .inl (fun _ => 0))), (q4, .inl (cI, 60, .inl (fun _ => 0))), (q5, .inl (cI, 60, .inl (fun _ => 0))), (q6, .inl (cI, 8, .inl (fun _ => 0)))] H := hP
  have hD : va_D A [(h0, .inr (2, [.null, .ref q1, .ref q2, .ref q3, .ref q4, .ref q5, .ref q6, .int 0, .int 0, .int 0])), (q1, .inl (cZ, 60, .inl (fun _ => 0))), (q2, .inl (cI, 60, .inl (fun _ => 0))), (q3, .inl (cZ, 60, .inl (fun _ => 0))), (q4, .inl (cI, 60, .inl (fun _ => 0))), (q5, .inl (cI, 60, .inl (fun _ => 0))), (q6, .inl (cI, 8, .inl (fun _ => 0)))] := hD
  refine lv_aload_n hx hb dc_An_52 rfl (lv_at hl 0 rfl) ?_
  refine lv_aload_n hx hb dc_An_53 rfl (lv_at hl 1 rfl) ?_
  refine va_putF (D := D) (ci := 2) (v := .ref g1) (ty := (.object "ParserGenerator$Grammar")) (C := "ParserGenerator$Analysis") (T := ct_2) (N := 10) hx hb hts cw_2 cy_2 cd_2 cn_2 hown hK hP hD hS 0 rfl rfl 0 (by decide) (hts _ tx_1_59) (fun _ h9 => h9) rfl hin rfl (by decide +kernel) rfl rfl (Nat.le_of_ble_eq_true rfl) dc_An_54 (fun H locs hP hD hS => ?_)
  have hP : va_P D cl_all [(h0, .inr (2, [.ref g1, .ref q1, .ref q2, .ref q3, .ref q4, .ref q5, .ref q6, .int 0, .int 0, .int 0])), (q1, .inl (cZ, 60, .inl (fun _ => 0))), (q2, .inl (cI, 60, .inl (fun _ => 0))), (q3, .inl (cZ, 60, .inl (fun _ => 0))), (q4, .inl (cI, 60, .inl (fun _ => 0))), (q5, .inl (cI, 60, .inl (fun _ => 0))), (q6, .inl (cI, 8, .inl (fun _ => 0)))] H := hP
  have hD : va_D A [(h0, .inr (2, [.ref g1, .ref q1, .ref q2, .ref q3, .ref q4, .ref q5, .ref q6, .int 0, .int 0, .int 0])), (q1, .inl (cZ, 60, .inl (fun _ => 0))), (q2, .inl (cI, 60, .inl (fun _ => 0))), (q3, .inl (cZ, 60, .inl (fun _ => 0))), (q4, .inl (cI, 60, .inl (fun _ => 0))), (q5, .inl (cI, 60, .inl (fun _ => 0))), (q6, .inl (cI, 8, .inl (fun _ => 0)))] := hD
  refine W.widen (k := 6) (n := 308) (Nat.le_refl _) (Nat.le_refl _) ?_
  exact W.vret hx hb hr (fun t ht hW => ⟨⟨(), rfl, trivial, q1, q2, q3, q4, q5, q6, by rw [ht]; exact hP, va_K.moved hW.alike hK, hD⟩, hS.F ht⟩) hS.2.2 dc_An_57
def cy_In_init : MethodName := ({ cls := "ParserGenerator$Input", name := "<init>", desc := "()V" } : Jvm.MethodName)
def cws_In : List Cond := .code cy_In_init prog_5_method_1_code 1 none :: tb_all
abbrev cw0_In (h0 : Nat) : va_W := [(h0, .inr (3, [.null, .int 0]))]
abbrev cw1_In (cI cZ : ClassId) (h0 q1 : Nat) : va_W := [(h0, .inr (3, [.ref q1, .int 0])), (q1, .inl (cI, 40, .inl (fun _ => 0)))]
abbrev cb_In (D : va_G) (cI cZ : ClassId) (A : Nat → Prop) (h0 : Nat) (t : State) : Prop := ∃ q1 : Nat, va_P D cl_all (cw1_In cI cZ h0 q1) t.heap ∧ va_K D cl_all [(cI, .int), (cZ, .boolean)] t ∧ va_D A (cw1_In cI cZ h0 q1)
set_option maxHeartbeats 4000000 in
set_option maxRecDepth 100000 in
theorem c_In_init (l : Launch) (D : va_G) (cI cZ : ClassId) (h0 sz : Nat) : Met l cy_In_init cws_In ({ frames := 1, cells := 1, slots := 40, locals := 12 }) (va_Pc [.ref h0] (cpre D cI cZ sz (cw0_In h0))) (va_Qv (fun _ : Unit => True) (fun _ t => cb_In D cI cZ (va_A (cw0_In h0) sz) h0 t) (va_A (cw0_In h0) sz)) 1 40 (va_A (cw0_In h0) sz) := by
  refine Met.ofW (cc := prog_5_method_1_code) (maxL := 1) (ret := none) (by decide) rfl ?_
  intro p e s m args below meth c s₁ B hml hv
  obtain ⟨rfl, hsz, hP, hK, hD0⟩ := hv
  have hx := B.exec
  have hb := B.bytes
  have hr := B.returns
  have hts : ∀ w ∈ tb_all, _ := fun w h => atoms_spec (ws := cws_In) B.pre w (List.mem_cons_of_mem _ h)
  have hown : s.vm.findClass "ParserGenerator$Input" = some m.cls := findClass_of_methodNamed B.named
  have hlocks := B.notSynchronized
  have hin : meth.name = "<init>" := (name_of_methodNamed B.named B.method).1
  subst hsz
  have hD := hD0.self (sz := s.heap.size)
  generalize hAe : va_A [(h0, .inr (3, [.null, .int 0]))] s.heap.size = A at hD ⊢
  have hA : ∀ q : Nat, s.heap.size ≤ q → A q := fun q h => by rw [← hAe]; exact Or.inr h
  have hS : va_S A s.heap s.heap [] := va_S.rf
  have hP : va_P D cl_all [(h0, .inr (3, [.null, .int 0]))] s.heap := hP
  have hl := lv_entry ([.ref h0]) (n := 1) (Nat.le_of_ble_eq_true rfl)
  rw [lg_entry_eq]
  generalize (lg_sl ([.ref h0]) ++ List.replicate (1 - (lg_sl ([.ref h0])).length) Slot.unset).toArray = ls at hl ⊢
  have hl : lv_has ls 1 [(0, .ref h0)] := hl
  refine lv_aload_n hx hb dc_In_0 rfl (lv_at hl 0 rfl) ?_
  refine W.objInit hx hb hown (hts _ tx_1_103) (hts _ tx_1_16) (hts _ tx_1_17) rfl (by rw [hml]; exact hl.1) rfl dc_In_1 (Nat.le_of_ble_eq_true rfl) (Nat.le_of_ble_eq_true rfl) ?_
  refine W.eq (g2 := F0 m 4 ls []) rfl ?_
  refine lv_aload_n hx hb dc_In_4 rfl (lv_at hl 0 rfl) ?_
  refine lv_bipush (v := 40) hx hb dc_In_5 (by decide) ?_
  refine va_newa (atype := .int) (ty := .int) (N' := 40) (a0 := (40, .inl (fun _ => 0))) hx hb (hts _ tx_1_52) rfl hK hP hD hS hA (fun _ => rfl) (by decide) (by decide) (by decide) (Nat.le_of_ble_eq_true rfl) (Nat.le_of_ble_eq_true rfl) dc_In_7 (fun q1 cA H hK1 hP hD hS => ?_)
  have eA : cA = cI := Option.some.inj ((va_nm_int (hK1.2 2 _ rfl).2).symm.trans (va_nm_int (hK.2 0 _ rfl).2))
  rw [eA] at hP hD
  have hP : va_P D cl_all [(h0, .inr (3, [.null, .int 0])), (q1, .inl (cI, 40, .inl (fun _ => 0)))] H := hP
  have hD : va_D A [(h0, .inr (3, [.null, .int 0])), (q1, .inl (cI, 40, .inl (fun _ => 0)))] := hD
  refine W.widen (k := 1) (n := 40) (by omega) (by omega) ?_
  refine va_putF (D := D) (ci := 3) (v := .ref q1) (ty := (.array .int)) (C := "ParserGenerator$Input") (T := ct_3) (N := 2) hx hb hts cw_3 cy_3 cd_3 cn_3 hown hK hP hD hS 0 rfl rfl 0 (by decide) (hts _ tx_1_104) (fun _ h9 => h9) rfl hin rfl (by decide +kernel) rfl rfl (Nat.le_of_ble_eq_true rfl) dc_In_9 (fun H locs hP hD hS => ?_)
  have hP : va_P D cl_all [(h0, .inr (3, [.ref q1, .int 0])), (q1, .inl (cI, 40, .inl (fun _ => 0)))] H := hP
  have hD : va_D A [(h0, .inr (3, [.ref q1, .int 0])), (q1, .inl (cI, 40, .inl (fun _ => 0)))] := hD
  refine W.widen (k := 1) (n := 40) (Nat.le_refl _) (Nat.le_refl _) ?_
  exact W.vret hx hb hr (fun t ht hW => ⟨⟨(), rfl, trivial, q1, by rw [ht]; exact hP, va_K.moved hW.alike hK, hD⟩, hS.F ht⟩) hS.2.2 dc_In_12
def cy_Fo_init : MethodName := ({ cls := "ParserGenerator$Forest", name := "<init>", desc := "()V" } : Jvm.MethodName)
def cws_Fo : List Cond := .code cy_Fo_init prog_3_method_1_code 1 none :: tb_all
abbrev cw0_Fo (h0 : Nat) : va_W := [(h0, .inr (4, [.null, .null, .null, .int 0, .int 0]))]
abbrev cw1_Fo (cI cZ : ClassId) (h0 q1 q2 q3 : Nat) : va_W := [(h0, .inr (4, [.ref q1, .ref q2, .ref q3, .int (-1), .int 0])), (q1, .inl (cI, 90, .inl (fun _ => 0))), (q2, .inl (cI, 90, .inl (fun _ => 0))), (q3, .inl (cI, 90, .inl (fun _ => 0)))]
abbrev cb_Fo (D : va_G) (cI cZ : ClassId) (A : Nat → Prop) (h0 : Nat) (t : State) : Prop := ∃ q1 : Nat, ∃ q2 : Nat, ∃ q3 : Nat, va_P D cl_all (cw1_Fo cI cZ h0 q1 q2 q3) t.heap ∧ va_K D cl_all [(cI, .int), (cZ, .boolean)] t ∧ va_D A (cw1_Fo cI cZ h0 q1 q2 q3)
set_option maxHeartbeats 4000000 in
set_option maxRecDepth 100000 in
theorem c_Fo_init (l : Launch) (D : va_G) (cI cZ : ClassId) (h0 sz : Nat) : Met l cy_Fo_init cws_Fo ({ frames := 1, cells := 3, slots := 270, locals := 12 }) (va_Pc [.ref h0] (cpre D cI cZ sz (cw0_Fo h0))) (va_Qv (fun _ : Unit => True) (fun _ t => cb_Fo D cI cZ (va_A (cw0_Fo h0) sz) h0 t) (va_A (cw0_Fo h0) sz)) 3 270 (va_A (cw0_Fo h0) sz) := by
  refine Met.ofW (cc := prog_3_method_1_code) (maxL := 1) (ret := none) (by decide) rfl ?_
  intro p e s m args below meth c s₁ B hml hv
  obtain ⟨rfl, hsz, hP, hK, hD0⟩ := hv
  have hx := B.exec
  have hb := B.bytes
  have hr := B.returns
  have hts : ∀ w ∈ tb_all, _ := fun w h => atoms_spec (ws := cws_Fo) B.pre w (List.mem_cons_of_mem _ h)
  have hown : s.vm.findClass "ParserGenerator$Forest" = some m.cls := findClass_of_methodNamed B.named
  have hlocks := B.notSynchronized
  have hin : meth.name = "<init>" := (name_of_methodNamed B.named B.method).1
  subst hsz
  have hD := hD0.self (sz := s.heap.size)
  generalize hAe : va_A [(h0, .inr (4, [.null, .null, .null, .int 0, .int 0]))] s.heap.size = A at hD ⊢
  have hA : ∀ q : Nat, s.heap.size ≤ q → A q := fun q h => by rw [← hAe]; exact Or.inr h
  have hS : va_S A s.heap s.heap [] := va_S.rf
  have hP : va_P D cl_all [(h0, .inr (4, [.null, .null, .null, .int 0, .int 0]))] s.heap := hP
  have hl := lv_entry ([.ref h0]) (n := 1) (Nat.le_of_ble_eq_true rfl)
  rw [lg_entry_eq]
  generalize (lg_sl ([.ref h0]) ++ List.replicate (1 - (lg_sl ([.ref h0])).length) Slot.unset).toArray = ls at hl ⊢
  have hl : lv_has ls 1 [(0, .ref h0)] := hl
  refine lv_aload_n hx hb dc_Fo_0 rfl (lv_at hl 0 rfl) ?_
  refine W.objInit hx hb hown (hts _ tx_1_117) (hts _ tx_1_16) (hts _ tx_1_17) rfl (by rw [hml]; exact hl.1) rfl dc_Fo_1 (Nat.le_of_ble_eq_true rfl) (Nat.le_of_ble_eq_true rfl) ?_
  refine W.eq (g2 := F0 m 4 ls []) rfl ?_
  refine lv_aload_n hx hb dc_Fo_4 rfl (lv_at hl 0 rfl) ?_
  refine lv_bipush (v := 90) hx hb dc_Fo_5 (by decide) ?_
  refine va_newa (atype := .int) (ty := .int) (N' := 90) (a0 := (90, .inl (fun _ => 0))) hx hb (hts _ tx_1_52) rfl hK hP hD hS hA (fun _ => rfl) (by decide) (by decide) (by decide) (Nat.le_of_ble_eq_true rfl) (Nat.le_of_ble_eq_true rfl) dc_Fo_7 (fun q1 cA H hK1 hP hD hS => ?_)
  have eA : cA = cI := Option.some.inj ((va_nm_int (hK1.2 2 _ rfl).2).symm.trans (va_nm_int (hK.2 0 _ rfl).2))
  rw [eA] at hP hD
  have hP : va_P D cl_all [(h0, .inr (4, [.null, .null, .null, .int 0, .int 0])), (q1, .inl (cI, 90, .inl (fun _ => 0)))] H := hP
  have hD : va_D A [(h0, .inr (4, [.null, .null, .null, .int 0, .int 0])), (q1, .inl (cI, 90, .inl (fun _ => 0)))] := hD
  refine W.widen (k := 1) (n := 90) (by omega) (by omega) ?_
  refine va_putF (D := D) (ci := 4) (v := .ref q1) (ty := (.array .int)) (C := "ParserGenerator$Forest") (T := ct_4) (N := 5) hx hb hts cw_4 cy_4 cd_4 cn_4 hown hK hP hD hS 0 rfl rfl 0 (by decide) (hts _ tx_1_118) (fun _ h9 => h9) rfl hin rfl (by decide +kernel) rfl rfl (Nat.le_of_ble_eq_true rfl) dc_Fo_9 (fun H locs hP hD hS => ?_)
  have hP : va_P D cl_all [(h0, .inr (4, [.ref q1, .null, .null, .int 0, .int 0])), (q1, .inl (cI, 90, .inl (fun _ => 0)))] H := hP
  have hD : va_D A [(h0, .inr (4, [.ref q1, .null, .null, .int 0, .int 0])), (q1, .inl (cI, 90, .inl (fun _ => 0)))] := hD
  refine lv_aload_n hx hb dc_Fo_12 rfl (lv_at hl 0 rfl) ?_
  refine lv_bipush (v := 90) hx hb dc_Fo_13 (by decide) ?_
  refine va_newa (atype := .int) (ty := .int) (N' := 90) (a0 := (90, .inl (fun _ => 0))) hx hb (hts _ tx_1_52) rfl hK hP hD hS hA (fun _ => rfl) (by decide) (by decide) (by decide) (Nat.le_of_ble_eq_true rfl) (Nat.le_of_ble_eq_true rfl) dc_Fo_15 (fun q2 cA H hK1 hP hD hS => ?_)
  have eA : cA = cI := Option.some.inj ((va_nm_int (hK1.2 2 _ rfl).2).symm.trans (va_nm_int (hK.2 0 _ rfl).2))
  rw [eA] at hP hD
  have hP : va_P D cl_all [(h0, .inr (4, [.ref q1, .null, .null, .int 0, .int 0])), (q1, .inl (cI, 90, .inl (fun _ => 0))), (q2, .inl (cI, 90, .inl (fun _ => 0)))] H := hP
  have hD : va_D A [(h0, .inr (4, [.ref q1, .null, .null, .int 0, .int 0])), (q1, .inl (cI, 90, .inl (fun _ => 0))), (q2, .inl (cI, 90, .inl (fun _ => 0)))] := hD
  refine W.widen (k := 2) (n := 180) (by omega) (by omega) ?_
  refine va_putF (D := D) (ci := 4) (v := .ref q2) (ty := (.array .int)) (C := "ParserGenerator$Forest") (T := ct_4) (N := 5) hx hb hts cw_4 cy_4 cd_4 cn_4 hown hK hP hD hS 0 rfl rfl 1 (by decide) (hts _ tx_1_119) (fun _ h9 => h9) rfl hin rfl (by decide +kernel) rfl rfl (Nat.le_of_ble_eq_true rfl) dc_Fo_17 (fun H locs hP hD hS => ?_)
  have hP : va_P D cl_all [(h0, .inr (4, [.ref q1, .ref q2, .null, .int 0, .int 0])), (q1, .inl (cI, 90, .inl (fun _ => 0))), (q2, .inl (cI, 90, .inl (fun _ => 0)))] H := hP
  have hD : va_D A [(h0, .inr (4, [.ref q1, .ref q2, .null, .int 0, .int 0])), (q1, .inl (cI, 90, .inl (fun _ => 0))), (q2, .inl (cI, 90, .inl (fun _ => 0)))] := hD
  refine lv_aload_n hx hb dc_Fo_20 rfl (lv_at hl 0 rfl) ?_
  refine lv_bipush (v := 90) hx hb dc_Fo_21 (by decide) ?_
  refine va_newa (atype := .int) (ty := .int) (N' := 90) (a0 := (90, .inl (fun _ => 0))) hx hb (hts _ tx_1_52) rfl hK hP hD hS hA (fun _ => rfl) (by decide) (by decide) (by decide) (Nat.le_of_ble_eq_true rfl) (Nat.le_of_ble_eq_true rfl) dc_Fo_23 (fun q3 cA H hK1 hP hD hS => ?_)
  have eA : cA = cI := Option.some.inj ((va_nm_int (hK1.2 2 _ rfl).2).symm.trans (va_nm_int (hK.2 0 _ rfl).2))
  rw [eA] at hP hD
  have hP : va_P D cl_all [(h0, .inr (4, [.ref q1, .ref q2, .null, .int 0, .int 0])), (q1, .inl (cI, 90, .inl (fun _ => 0))), (q2, .inl (cI, 90, .inl (fun _ => 0))), (q3, .inl (cI, 90, .inl (fun _ => 0)))] H := hP
  have hD : va_D A [(h0, .inr (4, [.ref q1, .ref q2, .null, .int 0, .int 0])), (q1, .inl (cI, 90, .inl (fun _ => 0))), (q2, .inl (cI, 90, .inl (fun _ => 0))), (q3, .inl (cI, 90, .inl (fun _ => 0)))] := hD
  refine W.widen (k := 3) (n := 270) (by omega) (by omega) ?_
  refine va_putF (D := D) (ci := 4) (v := .ref q3) (ty := (.array .int)) (C := "ParserGenerator$Forest") (T := ct_4) (N := 5) hx hb hts cw_4 cy_4 cd_4 cn_4 hown hK hP hD hS 0 rfl rfl 2 (by decide) (hts _ tx_1_120) (fun _ h9 => h9) rfl hin rfl (by decide +kernel) rfl rfl (Nat.le_of_ble_eq_true rfl) dc_Fo_25 (fun H locs hP hD hS => ?_)
  have hP : va_P D cl_all [(h0, .inr (4, [.ref q1, .ref q2, .ref q3, .int 0, .int 0])), (q1, .inl (cI, 90, .inl (fun _ => 0))), (q2, .inl (cI, 90, .inl (fun _ => 0))), (q3, .inl (cI, 90, .inl (fun _ => 0)))] H := hP
  have hD : va_D A [(h0, .inr (4, [.ref q1, .ref q2, .ref q3, .int 0, .int 0])), (q1, .inl (cI, 90, .inl (fun _ => 0))), (q2, .inl (cI, 90, .inl (fun _ => 0))), (q3, .inl (cI, 90, .inl (fun _ => 0)))] := hD
  refine lv_aload_n hx hb dc_Fo_28 rfl (lv_at hl 0 rfl) ?_
  refine lv_iconst (v := (-1)) hx hb dc_Fo_29 (by decide) ?_
  refine va_put (D := D) (ci := 4) (v := .int (-1)) (ty := .int) (C := "ParserGenerator$Forest") (T := ct_4) (N := 5) hx hb hts cw_4 cy_4 cd_4 cn_4 hown hK hP hD hS 0 rfl rfl 3 (by decide) (hts _ tx_1_121) (fun _ h9 => h9) rfl (by decide +kernel) rfl rfl (Nat.le_of_ble_eq_true rfl) dc_Fo_30 (fun H locs hP hD hS => ?_)
  have hP : va_P D cl_all [(h0, .inr (4, [.ref q1, .ref q2, .ref q3, .int (-1), .int 0])), (q1, .inl (cI, 90, .inl (fun _ => 0))), (q2, .inl (cI, 90, .inl (fun _ => 0))), (q3, .inl (cI, 90, .inl (fun _ => 0)))] H := hP
  have hD : va_D A [(h0, .inr (4, [.ref q1, .ref q2, .ref q3, .int (-1), .int 0])), (q1, .inl (cI, 90, .inl (fun _ => 0))), (q2, .inl (cI, 90, .inl (fun _ => 0))), (q3, .inl (cI, 90, .inl (fun _ => 0)))] := hD
  refine W.widen (k := 3) (n := 270) (Nat.le_refl _) (Nat.le_refl _) ?_
  exact W.vret hx hb hr (fun t ht hW => ⟨⟨(), rfl, trivial, q1, q2, q3, by rw [ht]; exact hP, va_K.moved hW.alike hK, hD⟩, hS.F ht⟩) hS.2.2 dc_Fo_33
def cy_Pa_init : MethodName := ({ cls := "ParserGenerator$Parser", name := "<init>", desc := "(LParserGenerator$Grammar;LParserGenerator$Analysis;LParserGenerator$Input;LParserGenerator$Forest;)V" } : Jvm.MethodName)
def cws_Pa : List Cond := .code cy_Pa_init prog_6_method_1_code 5 none :: tb_all
abbrev cw0_Pa (h0 : Nat) : va_W := [(h0, .inr (5, [.null, .null, .null, .null, .int 0, .int 0, .int 0]))]
abbrev cw1_Pa (cI cZ : ClassId) (h0 g1 g2 g3 g4 : Nat) : va_W := [(h0, .inr (5, [.ref g1, .ref g2, .ref g3, .ref g4, .int (-10), .int (-10), .int 0]))]
abbrev cb_Pa (D : va_G) (cI cZ : ClassId) (A : Nat → Prop) (h0 g1 g2 g3 g4 : Nat) (t : State) : Prop := va_P D cl_all (cw1_Pa cI cZ h0 g1 g2 g3 g4) t.heap ∧ va_K D cl_all [(cI, .int), (cZ, .boolean)] t ∧ va_D A (cw1_Pa cI cZ h0 g1 g2 g3 g4)
set_option maxHeartbeats 4000000 in
set_option maxRecDepth 100000 in
theorem c_Pa_init (l : Launch) (D : va_G) (cI cZ : ClassId) (h0 g1 g2 g3 g4 sz : Nat) : Met l cy_Pa_init cws_Pa ({ frames := 1, cells := 0, slots := 0, locals := 12 }) (va_Pc [.ref h0, .ref g1, .ref g2, .ref g3, .ref g4] (cpre D cI cZ sz (cw0_Pa h0))) (va_Qv (fun _ : Unit => True) (fun _ t => cb_Pa D cI cZ (va_A (cw0_Pa h0) sz) h0 g1 g2 g3 g4 t) (va_A (cw0_Pa h0) sz)) 0 0 (va_A (cw0_Pa h0) sz) := by
  refine Met.ofW (cc := prog_6_method_1_code) (maxL := 5) (ret := none) (by decide) rfl ?_
  intro p e s m args below meth c s₁ B hml hv
  obtain ⟨rfl, hsz, hP, hK, hD0⟩ := hv
  have hx := B.exec
  have hb := B.bytes
  have hr := B.returns
  have hts : ∀ w ∈ tb_all, _ := fun w h => atoms_spec (ws := cws_Pa) B.pre w (List.mem_cons_of_mem _ h)
  have hown : s.vm.findClass "ParserGenerator$Parser" = some m.cls := findClass_of_methodNamed B.named
  have hlocks := B.notSynchronized
  have hin : meth.name = "<init>" := (name_of_methodNamed B.named B.method).1
  subst hsz
  have hD := hD0.self (sz := s.heap.size)
  generalize hAe : va_A [(h0, .inr (5, [.null, .null, .null, .null, .int 0, .int 0, .int 0]))] s.heap.size = A at hD ⊢
  have hA : ∀ q : Nat, s.heap.size ≤ q → A q := fun q h => by rw [← hAe]; exact Or.inr h
  have hS : va_S A s.heap s.heap [] := va_S.rf
  have hP : va_P D cl_all [(h0, .inr (5, [.null, .null, .null, .null, .int 0, .int 0, .int 0]))] s.heap := hP
  have hl := lv_entry ([.ref h0, .ref g1, .ref g2, .ref g3, .ref g4]) (n := 5) (Nat.le_of_ble_eq_true rfl)
  rw [lg_entry_eq]
  generalize (lg_sl ([.ref h0, .ref g1, .ref g2, .ref g3, .ref g4]) ++ List.replicate (5 - (lg_sl ([.ref h0, .ref g1, .ref g2, .ref g3, .ref g4])).length) Slot.unset).toArray = ls at hl ⊢
  have hl : lv_has ls 5 [(0, .ref h0), (1, .ref g1), (2, .ref g2), (3, .ref g3), (4, .ref g4)] := hl
  refine lv_aload_n hx hb dc_Pa_0 rfl (lv_at hl 0 rfl) ?_
  refine W.objInit hx hb hown (hts _ tx_1_140) (hts _ tx_1_16) (hts _ tx_1_17) rfl (by rw [hml]; exact hl.1) rfl dc_Pa_1 (Nat.le_of_ble_eq_true rfl) (Nat.le_of_ble_eq_true rfl) ?_
  refine W.eq (g2 := F0 m 4 ls []) rfl ?_
  refine lv_aload_n hx hb dc_Pa_4 rfl (lv_at hl 0 rfl) ?_
  refine lv_bipush (v := (-10)) hx hb dc_Pa_5 (by decide) ?_
  refine va_put (D := D) (ci := 5) (v := .int (-10)) (ty := .int) (C := "ParserGenerator$Parser") (T := ct_5) (N := 7) hx hb hts cw_5 cy_5 cd_5 cn_5 hown hK hP hD hS 0 rfl rfl 4 (by decide) (hts _ tx_1_145) (fun _ h9 => h9) rfl (by decide +kernel) rfl rfl (Nat.le_of_ble_eq_true rfl) dc_Pa_7 (fun H locs hP hD hS => ?_)
  have hP : va_P D cl_all [(h0, .inr (5, [.null, .null, .null, .null, .int (-10), .int 0, .int 0]))] H := hP
  have hD : va_D A [(h0, .inr (5, [.null, .null, .null, .null, .int (-10), .int 0, .int 0]))] := hD
  refine lv_aload_n hx hb dc_Pa_10 rfl (lv_at hl 0 rfl) ?_
  refine lv_bipush (v := (-10)) hx hb dc_Pa_11 (by decide) ?_
  refine va_put (D := D) (ci := 5) (v := .int (-10)) (ty := .int) (C := "ParserGenerator$Parser") (T := ct_5) (N := 7) hx hb hts cw_5 cy_5 cd_5 cn_5 hown hK hP hD hS 0 rfl rfl 5 (by decide) (hts _ tx_1_147) (fun _ h9 => h9) rfl (by decide +kernel) rfl rfl (Nat.le_of_ble_eq_true rfl) dc_Pa_13 (fun H locs hP hD hS => ?_)
  have hP : va_P D cl_all [(h0, .inr (5, [.null, .null, .null, .null, .int (-10), .int (-10), .int 0]))] H := hP
  have hD : va_D A [(h0, .inr (5, [.null, .null, .null, .null, .int (-10), .int (-10), .int 0]))] := hD
  refine lv_aload_n hx hb dc_Pa_16 rfl (lv_at hl 0 rfl) ?_
  refine lv_aload_n hx hb dc_Pa_17 rfl (lv_at hl 1 rfl) ?_
  refine va_putF (D := D) (ci := 5) (v := .ref g1) (ty := (.object "ParserGenerator$Grammar")) (C := "ParserGenerator$Parser") (T := ct_5) (N := 7) hx hb hts cw_5 cy_5 cd_5 cn_5 hown hK hP hD hS 0 rfl rfl 0 (by decide) (hts _ tx_1_141) (fun _ h9 => h9) rfl hin rfl (by decide +kernel) rfl rfl (Nat.le_of_ble_eq_true rfl) dc_Pa_18 (fun H locs hP hD hS => ?_)
  have hP : va_P D cl_all [(h0, .inr (5, [.ref g1, .null, .null, .null, .int (-10), .int (-10), .int 0]))] H := hP
  have hD : va_D A [(h0, .inr (5, [.ref g1, .null, .null, .null, .int (-10), .int (-10), .int 0]))] := hD
  refine lv_aload_n hx hb dc_Pa_21 rfl (lv_at hl 0 rfl) ?_
  refine lv_aload_n hx hb dc_Pa_22 rfl (lv_at hl 2 rfl) ?_
  refine va_putF (D := D) (ci := 5) (v := .ref g2) (ty := (.object "ParserGenerator$Analysis")) (C := "ParserGenerator$Parser") (T := ct_5) (N := 7) hx hb hts cw_5 cy_5 cd_5 cn_5 hown hK hP hD hS 0 rfl rfl 1 (by decide) (hts _ tx_1_142) (fun _ h9 => h9) rfl hin rfl (by decide +kernel) rfl rfl (Nat.le_of_ble_eq_true rfl) dc_Pa_23 (fun H locs hP hD hS => ?_)
  have hP : va_P D cl_all [(h0, .inr (5, [.ref g1, .ref g2, .null, .null, .int (-10), .int (-10), .int 0]))] H := hP
  have hD : va_D A [(h0, .inr (5, [.ref g1, .ref g2, .null, .null, .int (-10), .int (-10), .int 0]))] := hD
  refine lv_aload_n hx hb dc_Pa_26 rfl (lv_at hl 0 rfl) ?_
  refine lv_aload_n hx hb dc_Pa_27 rfl (lv_at hl 3 rfl) ?_
  refine va_putF (D := D) (ci := 5) (v := .ref g3) (ty := (.object "ParserGenerator$Input")) (C := "ParserGenerator$Parser") (T := ct_5) (N := 7) hx hb hts cw_5 cy_5 cd_5 cn_5 hown hK hP hD hS 0 rfl rfl 2 (by decide) (hts _ tx_1_143) (fun _ h9 => h9) rfl hin rfl (by decide +kernel) rfl rfl (Nat.le_of_ble_eq_true rfl) dc_Pa_28 (fun H locs hP hD hS => ?_)
  have hP : va_P D cl_all [(h0, .inr (5, [.ref g1, .ref g2, .ref g3, .null, .int (-10), .int (-10), .int 0]))] H := hP
  have hD : va_D A [(h0, .inr (5, [.ref g1, .ref g2, .ref g3, .null, .int (-10), .int (-10), .int 0]))] := hD
  refine lv_aload_n hx hb dc_Pa_31 rfl (lv_at hl 0 rfl) ?_
  refine lv_aload hx hb dc_Pa_32 (lv_at hl 4 rfl) ?_
  refine va_putF (D := D) (ci := 5) (v := .ref g4) (ty := (.object "ParserGenerator$Forest")) (C := "ParserGenerator$Parser") (T := ct_5) (N := 7) hx hb hts cw_5 cy_5 cd_5 cn_5 hown hK hP hD hS 0 rfl rfl 3 (by decide) (hts _ tx_1_144) (fun _ h9 => h9) rfl hin rfl (by decide +kernel) rfl rfl (Nat.le_of_ble_eq_true rfl) dc_Pa_34 (fun H locs hP hD hS => ?_)
  have hP : va_P D cl_all [(h0, .inr (5, [.ref g1, .ref g2, .ref g3, .ref g4, .int (-10), .int (-10), .int 0]))] H := hP
  have hD : va_D A [(h0, .inr (5, [.ref g1, .ref g2, .ref g3, .ref g4, .int (-10), .int (-10), .int 0]))] := hD
  refine W.widen (k := 0) (n := 0) (Nat.le_refl _) (Nat.le_refl _) ?_
  exact W.vret hx hb hr (fun t ht hW => ⟨⟨(), rfl, trivial, by rw [ht]; exact hP, va_K.moved hW.alike hK, hD⟩, hS.F ht⟩) hS.2.2 dc_Pa_37
def cy_Mo_init : MethodName := ({ cls := "ParserGeneratorModel", name := "<init>", desc := "()V" } : Jvm.MethodName)
def cws_Mo : List Cond := .code cy_Mo_init prog_8_method_1_code 2 none :: tb_all
abbrev cw0_Mo (h0 : Nat) : va_W := [(h0, .inr (6, [.int 0, .int 0, .int 0, .int 0, .int 0, .int 0, .int 0, .int 0, .int 0, .int 0, .int 0, .int 0, .int 0, .int 0, .int 0, .null, .null, .null, .null, .null, .null, .null, .null, .null, .null, .null, .null, .null, .null, .null, .null, .null, .null, .null]))]
abbrev cw1_Mo (cI cZ : ClassId) (h0 q1 q2 q3 q4 q5 q6 q7 q8 q9 q10 q11 q12 q13 q14 q15 q16 q17 q18 q19 : Nat) (f : Nat → Int32) : va_W := [(h0, .inr (6, [.int 0, .int 0, .int (-1), .int 0, .int 1, .int 0, .int (-10), .int 0, .int 0, .int 0, .int (-1), .int 0, .int (-10), .int (-10), .int 0, .ref q1, .ref q2, .ref q3, .ref q4, .ref q5, .ref q6, .ref q7, .ref q8, .ref q9, .ref q10, .ref q11, .ref q12, .ref q13, .ref q14, .ref q15, .ref q16, .ref q17, .ref q18, .ref q19])), (q1, .inl (cI, 60, .inl (fun _ => 0))), (q2, .inl (cI, 60, .inl (fun _ => 0))), (q3, .inl (cI, 60, .inl (fun _ => 0))), (q4, .inl (cI, 60, .inl (fun _ => 0))), (q5, .inl (cI, 8, .inl f)), (q6, .inl (cI, 8, .inl (fun _ => 0))), (q7, .inl (cZ, 60, .inl (fun _ => 0))), (q8, .inl (cZ, 60, .inl (fun _ => 0))), (q9, .inl (cI, 60, .inl (fun _ => 0))), (q10, .inl (cI, 60, .inl (fun _ => 0))), (q11, .inl (cI, 60, .inl (fun _ => 0))), (q12, .inl (cI, 40, .inl (fun _ => 0))), (q13, .inl (cI, 120, .inl (fun _ => 0))), (q14, .inl (cI, 120, .inl (fun _ => 0))), (q15, .inl (cI, 120, .inl (fun _ => 0))), (q16, .inl (cI, 91, .inl (fun _ => 0))), (q17, .inl (cI, 91, .inl (fun _ => 0))), (q18, .inl (cI, 91, .inl (fun _ => 0))), (q19, .inl (cI, 91, .inl (fun _ => 0)))]
abbrev cb_Mo (D : va_G) (cI cZ : ClassId) (A : Nat → Prop) (h0 : Nat) (t : State) : Prop := ∃ q1 : Nat, ∃ q2 : Nat, ∃ q3 : Nat, ∃ q4 : Nat, ∃ q5 : Nat, ∃ q6 : Nat, ∃ q7 : Nat, ∃ q8 : Nat, ∃ q9 : Nat, ∃ q10 : Nat, ∃ q11 : Nat, ∃ q12 : Nat, ∃ q13 : Nat, ∃ q14 : Nat, ∃ q15 : Nat, ∃ q16 : Nat, ∃ q17 : Nat, ∃ q18 : Nat, ∃ q19 : Nat, ∃ f : Nat → Int32, (∀ r, r < 8 → f r = -1) ∧ va_P D cl_all (cw1_Mo cI cZ h0 q1 q2 q3 q4 q5 q6 q7 q8 q9 q10 q11 q12 q13 q14 q15 q16 q17 q18 q19 f) t.heap ∧ va_K D cl_all [(cI, .int), (cZ, .boolean)] t ∧ va_D A (cw1_Mo cI cZ h0 q1 q2 q3 q4 q5 q6 q7 q8 q9 q10 q11 q12 q13 q14 q15 q16 q17 q18 q19 f)
set_option maxHeartbeats 4000000 in
set_option maxRecDepth 100000 in
theorem c_Mo_init (l : Launch) (D : va_G) (cI cZ : ClassId) (h0 sz : Nat) : Met l cy_Mo_init cws_Mo ({ frames := 1, cells := 19, slots := 1320, locals := 12 }) (va_Pc [.ref h0] (cpre D cI cZ sz (cw0_Mo h0))) (va_Qv (fun _ : Unit => True) (fun _ t => cb_Mo D cI cZ (va_A (cw0_Mo h0) sz) h0 t) (va_A (cw0_Mo h0) sz)) 19 1320 (va_A (cw0_Mo h0) sz) := by
  refine Met.ofW (cc := prog_8_method_1_code) (maxL := 2) (ret := none) (by decide) rfl ?_
  intro p e s m args below meth c s₁ B hml hv
  obtain ⟨rfl, hsz, hP, hK, hD0⟩ := hv
  have hx := B.exec
  have hb := B.bytes
  have hr := B.returns
  have hts : ∀ w ∈ tb_all, _ := fun w h => atoms_spec (ws := cws_Mo) B.pre w (List.mem_cons_of_mem _ h)
  have hown : s.vm.findClass "ParserGeneratorModel" = some m.cls := findClass_of_methodNamed B.named
  have hlocks := B.notSynchronized
  have hin : meth.name = "<init>" := (name_of_methodNamed B.named B.method).1
  subst hsz
  have hD := hD0.self (sz := s.heap.size)
  generalize hAe : va_A [(h0, .inr (6, [.int 0, .int 0, .int 0, .int 0, .int 0, .int 0, .int 0, .int 0, .int 0, .int 0, .int 0, .int 0, .int 0, .int 0, .int 0, .null, .null, .null, .null, .null, .null, .null, .null, .null, .null, .null, .null, .null, .null, .null, .null, .null, .null, .null]))] s.heap.size = A at hD ⊢
  have hA : ∀ q : Nat, s.heap.size ≤ q → A q := fun q h => by rw [← hAe]; exact Or.inr h
  have hS : va_S A s.heap s.heap [] := va_S.rf
  have hP : va_P D cl_all [(h0, .inr (6, [.int 0, .int 0, .int 0, .int 0, .int 0, .int 0, .int 0, .int 0, .int 0, .int 0, .int 0, .int 0, .int 0, .int 0, .int 0, .null, .null, .null, .null, .null, .null, .null, .null, .null, .null, .null, .null, .null, .null, .null, .null, .null, .null, .null]))] s.heap := hP
  have hl := lv_entry ([.ref h0]) (n := 2) (Nat.le_of_ble_eq_true rfl)
  rw [lg_entry_eq]
  generalize (lg_sl ([.ref h0]) ++ List.replicate (2 - (lg_sl ([.ref h0])).length) Slot.unset).toArray = ls at hl ⊢
  have hl : lv_has ls 2 [(0, .ref h0)] := hl
  refine lv_aload_n hx hb dc_Mo_0 rfl (lv_at hl 0 rfl) ?_
  refine W.objInit hx hb hown (hts _ tx_2_222) (hts _ tx_1_16) (hts _ tx_1_17) rfl (by rw [hml]; exact hl.1) rfl dc_Mo_1 (Nat.le_of_ble_eq_true rfl) (Nat.le_of_ble_eq_true rfl) ?_
  refine W.eq (g2 := F0 m 4 ls []) rfl ?_
  refine lv_aload_n hx hb dc_Mo_4 rfl (lv_at hl 0 rfl) ?_
  refine lv_iconst (v := 0) hx hb dc_Mo_5 (by decide) ?_
  refine va_put (D := D) (ci := 6) (v := .int 0) (ty := .int) (C := "ParserGeneratorModel") (T := ct_6) (N := 34) hx hb hts cw_6 cy_6 cd_6 cn_6 hown hK hP hD hS 0 rfl rfl 0 (by decide) (hts _ tx_2_223) (fun _ h9 => h9) rfl (by decide +kernel) rfl rfl (Nat.le_of_ble_eq_true rfl) dc_Mo_6 (fun H locs hP hD hS => ?_)
  have hP : va_P D cl_all [(h0, .inr (6, [.int 0, .int 0, .int 0, .int 0, .int 0, .int 0, .int 0, .int 0, .int 0, .int 0, .int 0, .int 0, .int 0, .int 0, .int 0, .null, .null, .null, .null, .null, .null, .null, .null, .null, .null, .null, .null, .null, .null, .null, .null, .null, .null, .null]))] H := hP
  have hD : va_D A [(h0, .inr (6, [.int 0, .int 0, .int 0, .int 0, .int 0, .int 0, .int 0, .int 0, .int 0, .int 0, .int 0, .int 0, .int 0, .int 0, .int 0, .null, .null, .null, .null, .null, .null, .null, .null, .null, .null, .null, .null, .null, .null, .null, .null, .null, .null, .null]))] := hD
  refine lv_aload_n hx hb dc_Mo_9 rfl (lv_at hl 0 rfl) ?_
  refine lv_iconst (v := 0) hx hb dc_Mo_10 (by decide) ?_
  refine va_put (D := D) (ci := 6) (v := .int 0) (ty := .int) (C := "ParserGeneratorModel") (T := ct_6) (N := 34) hx hb hts cw_6 cy_6 cd_6 cn_6 hown hK hP hD hS 0 rfl rfl 1 (by decide) (hts _ tx_2_224) (fun _ h9 => h9) rfl (by decide +kernel) rfl rfl (Nat.le_of_ble_eq_true rfl) dc_Mo_11 (fun H locs hP hD hS => ?_)
  have hP : va_P D cl_all [(h0, .inr (6, [.int 0, .int 0, .int 0, .int 0, .int 0, .int 0, .int 0, .int 0, .int 0, .int 0, .int 0, .int 0, .int 0, .int 0, .int 0, .null, .null, .null, .null, .null, .null, .null, .null, .null, .null, .null, .null, .null, .null, .null, .null, .null, .null, .null]))] H := hP
  have hD : va_D A [(h0, .inr (6, [.int 0, .int 0, .int 0, .int 0, .int 0, .int 0, .int 0, .int 0, .int 0, .int 0, .int 0, .int 0, .int 0, .int 0, .int 0, .null, .null, .null, .null, .null, .null, .null, .null, .null, .null, .null, .null, .null, .null, .null, .null, .null, .null, .null]))] := hD
  refine lv_aload_n hx hb dc_Mo_14 rfl (lv_at hl 0 rfl) ?_
  refine lv_iconst (v := (-1)) hx hb dc_Mo_15 (by decide) ?_
  refine va_put (D := D) (ci := 6) (v := .int (-1)) (ty := .int) (C := "ParserGeneratorModel") (T := ct_6) (N := 34) hx hb hts cw_6 cy_6 cd_6 cn_6 hown hK hP hD hS 0 rfl rfl 2 (by decide) (hts _ tx_2_225) (fun _ h9 => h9) rfl (by decide +kernel) rfl rfl (Nat.le_of_ble_eq_true rfl) dc_Mo_16 (fun H locs hP hD hS => ?_)
  have hP : va_P D cl_all [(h0, .inr (6, [.int 0, .int 0, .int (-1), .int 0, .int 0, .int 0, .int 0, .int 0, .int 0, .int 0, .int 0, .int 0, .int 0, .int 0, .int 0, .null, .null, .null, .null, .null, .null, .null, .null, .null, .null, .null, .null, .null, .null, .null, .null, .null, .null, .null]))] H := hP
  have hD : va_D A [(h0, .inr (6, [.int 0, .int 0, .int (-1), .int 0, .int 0, .int 0, .int 0, .int 0, .int 0, .int 0, .int 0, .int 0, .int 0, .int 0, .int 0, .null, .null, .null, .null, .null, .null, .null, .null, .null, .null, .null, .null, .null, .null, .null, .null, .null, .null, .null]))] := hD
  refine lv_aload_n hx hb dc_Mo_19 rfl (lv_at hl 0 rfl) ?_
  refine lv_iconst (v := 0) hx hb dc_Mo_20 (by decide) ?_
  refine va_put (D := D) (ci := 6) (v := .int 0) (ty := .int) (C := "ParserGeneratorModel") (T := ct_6) (N := 34) hx hb hts cw_6 cy_6 cd_6 cn_6 hown hK hP hD hS 0 rfl rfl 3 (by decide) (hts _ tx_2_226) (fun _ h9 => h9) rfl (by decide +kernel) rfl rfl (Nat.le_of_ble_eq_true rfl) dc_Mo_21 (fun H locs hP hD hS => ?_)
  have hP : va_P D cl_all [(h0, .inr (6, [.int 0, .int 0, .int (-1), .int 0, .int 0, .int 0, .int 0, .int 0, .int 0, .int 0, .int 0, .int 0, .int 0, .int 0, .int 0, .null, .null, .null, .null, .null, .null, .null, .null, .null, .null, .null, .null, .null, .null, .null, .null, .null, .null, .null]))] H := hP
  have hD : va_D A [(h0, .inr (6, [.int 0, .int 0, .int (-1), .int 0, .int 0, .int 0, .int 0, .int 0, .int 0, .int 0, .int 0, .int 0, .int 0, .int 0, .int 0, .null, .null, .null, .null, .null, .null, .null, .null, .null, .null, .null, .null, .null, .null, .null, .null, .null, .null, .null]))] := hD
  refine lv_aload_n hx hb dc_Mo_24 rfl (lv_at hl 0 rfl) ?_
  refine lv_iconst (v := 1) hx hb dc_Mo_25 (by decide) ?_
  refine va_put (D := D) (ci := 6) (v := .int 1) (ty := .int) (C := "ParserGeneratorModel") (T := ct_6) (N := 34) hx hb hts cw_6 cy_6 cd_6 cn_6 hown hK hP hD hS 0 rfl rfl 4 (by decide) (hts _ tx_2_227) (fun _ h9 => h9) rfl (by decide +kernel) rfl rfl (Nat.le_of_ble_eq_true rfl) dc_Mo_26 (fun H locs hP hD hS => ?_)
  have hP : va_P D cl_all [(h0, .inr (6, [.int 0, .int 0, .int (-1), .int 0, .int 1, .int 0, .int 0, .int 0, .int 0, .int 0, .int 0, .int 0, .int 0, .int 0, .int 0, .null, .null, .null, .null, .null, .null, .null, .null, .null, .null, .null, .null, .null, .null, .null, .null, .null, .null, .null]))] H := hP
  have hD : va_D A [(h0, .inr (6, [.int 0, .int 0, .int (-1), .int 0, .int 1, .int 0, .int 0, .int 0, .int 0, .int 0, .int 0, .int 0, .int 0, .int 0, .int 0, .null, .null, .null, .null, .null, .null, .null, .null, .null, .null, .null, .null, .null, .null, .null, .null, .null, .null, .null]))] := hD
  refine lv_aload_n hx hb dc_Mo_29 rfl (lv_at hl 0 rfl) ?_
  refine lv_iconst (v := 0) hx hb dc_Mo_30 (by decide) ?_
  refine va_put (D := D) (ci := 6) (v := .int 0) (ty := .int) (C := "ParserGeneratorModel") (T := ct_6) (N := 34) hx hb hts cw_6 cy_6 cd_6 cn_6 hown hK hP hD hS 0 rfl rfl 5 (by decide) (hts _ tx_2_228) (fun _ h9 => h9) rfl (by decide +kernel) rfl rfl (Nat.le_of_ble_eq_true rfl) dc_Mo_31 (fun H locs hP hD hS => ?_)
  have hP : va_P D cl_all [(h0, .inr (6, [.int 0, .int 0, .int (-1), .int 0, .int 1, .int 0, .int 0, .int 0, .int 0, .int 0, .int 0, .int 0, .int 0, .int 0, .int 0, .null, .null, .null, .null, .null, .null, .null, .null, .null, .null, .null, .null, .null, .null, .null, .null, .null, .null, .null]))] H := hP
  have hD : va_D A [(h0, .inr (6, [.int 0, .int 0, .int (-1), .int 0, .int 1, .int 0, .int 0, .int 0, .int 0, .int 0, .int 0, .int 0, .int 0, .int 0, .int 0, .null, .null, .null, .null, .null, .null, .null, .null, .null, .null, .null, .null, .null, .null, .null, .null, .null, .null, .null]))] := hD
  refine lv_aload_n hx hb dc_Mo_34 rfl (lv_at hl 0 rfl) ?_
  refine lv_bipush (v := (-10)) hx hb dc_Mo_35 (by decide) ?_
  refine va_put (D := D) (ci := 6) (v := .int (-10)) (ty := .int) (C := "ParserGeneratorModel") (T := ct_6) (N := 34) hx hb hts cw_6 cy_6 cd_6 cn_6 hown hK hP hD hS 0 rfl rfl 6 (by decide) (hts _ tx_2_229) (fun _ h9 => h9) rfl (by decide +kernel) rfl rfl (Nat.le_of_ble_eq_true rfl) dc_Mo_37 (fun H locs hP hD hS => ?_)
  have hP : va_P D cl_all [(h0, .inr (6, [.int 0, .int 0, .int (-1), .int 0, .int 1, .int 0, .int (-10), .int 0, .int 0, .int 0, .int 0, .int 0, .int 0, .int 0, .int 0, .null, .null, .null, .null, .null, .null, .null, .null, .null, .null, .null, .null, .null, .null, .null, .null, .null, .null, .null]))] H := hP
  have hD : va_D A [(h0, .inr (6, [.int 0, .int 0, .int (-1), .int 0, .int 1, .int 0, .int (-10), .int 0, .int 0, .int 0, .int 0, .int 0, .int 0, .int 0, .int 0, .null, .null, .null, .null, .null, .null, .null, .null, .null, .null, .null, .null, .null, .null, .null, .null, .null, .null, .null]))] := hD
  refine lv_aload_n hx hb dc_Mo_40 rfl (lv_at hl 0 rfl) ?_
  refine lv_iconst (v := 0) hx hb dc_Mo_41 (by decide) ?_
  refine va_put (D := D) (ci := 6) (v := .int 0) (ty := .int) (C := "ParserGeneratorModel") (T := ct_6) (N := 34) hx hb hts cw_6 cy_6 cd_6 cn_6 hown hK hP hD hS 0 rfl rfl 7 (by decide) (hts _ tx_2_230) (fun _ h9 => h9) rfl (by decide +kernel) rfl rfl (Nat.le_of_ble_eq_true rfl) dc_Mo_42 (fun H locs hP hD hS => ?_)
  have hP : va_P D cl_all [(h0, .inr (6, [.int 0, .int 0, .int (-1), .int 0, .int 1, .int 0, .int (-10), .int 0, .int 0, .int 0, .int 0, .int 0, .int 0, .int 0, .int 0, .null, .null, .null, .null, .null, .null, .null, .null, .null, .null, .null, .null, .null, .null, .null, .null, .null, .null, .null]))] H := hP
  have hD : va_D A [(h0, .inr (6, [.int 0, .int 0, .int (-1), .int 0, .int 1, .int 0, .int (-10), .int 0, .int 0, .int 0, .int 0, .int 0, .int 0, .int 0, .int 0, .null, .null, .null, .null, .null, .null, .null, .null, .null, .null, .null, .null, .null, .null, .null, .null, .null, .null, .null]))] := hD
  refine lv_aload_n hx hb dc_Mo_45 rfl (lv_at hl 0 rfl) ?_
  refine lv_iconst (v := 0) hx hb dc_Mo_46 (by decide) ?_
  refine va_put (D := D) (ci := 6) (v := .int 0) (ty := .int) (C := "ParserGeneratorModel") (T := ct_6) (N := 34) hx hb hts cw_6 cy_6 cd_6 cn_6 hown hK hP hD hS 0 rfl rfl 8 (by decide) (hts _ tx_2_231) (fun _ h9 => h9) rfl (by decide +kernel) rfl rfl (Nat.le_of_ble_eq_true rfl) dc_Mo_47 (fun H locs hP hD hS => ?_)
  have hP : va_P D cl_all [(h0, .inr (6, [.int 0, .int 0, .int (-1), .int 0, .int 1, .int 0, .int (-10), .int 0, .int 0, .int 0, .int 0, .int 0, .int 0, .int 0, .int 0, .null, .null, .null, .null, .null, .null, .null, .null, .null, .null, .null, .null, .null, .null, .null, .null, .null, .null, .null]))] H := hP
  have hD : va_D A [(h0, .inr (6, [.int 0, .int 0, .int (-1), .int 0, .int 1, .int 0, .int (-10), .int 0, .int 0, .int 0, .int 0, .int 0, .int 0, .int 0, .int 0, .null, .null, .null, .null, .null, .null, .null, .null, .null, .null, .null, .null, .null, .null, .null, .null, .null, .null, .null]))] := hD
  refine lv_aload_n hx hb dc_Mo_50 rfl (lv_at hl 0 rfl) ?_
  refine lv_iconst (v := 0) hx hb dc_Mo_51 (by decide) ?_
  refine va_put (D := D) (ci := 6) (v := .int 0) (ty := .int) (C := "ParserGeneratorModel") (T := ct_6) (N := 34) hx hb hts cw_6 cy_6 cd_6 cn_6 hown hK hP hD hS 0 rfl rfl 9 (by decide) (hts _ tx_2_232) (fun _ h9 => h9) rfl (by decide +kernel) rfl rfl (Nat.le_of_ble_eq_true rfl) dc_Mo_52 (fun H locs hP hD hS => ?_)
  have hP : va_P D cl_all [(h0, .inr (6, [.int 0, .int 0, .int (-1), .int 0, .int 1, .int 0, .int (-10), .int 0, .int 0, .int 0, .int 0, .int 0, .int 0, .int 0, .int 0, .null, .null, .null, .null, .null, .null, .null, .null, .null, .null, .null, .null, .null, .null, .null, .null, .null, .null, .null]))] H := hP
  have hD : va_D A [(h0, .inr (6, [.int 0, .int 0, .int (-1), .int 0, .int 1, .int 0, .int (-10), .int 0, .int 0, .int 0, .int 0, .int 0, .int 0, .int 0, .int 0, .null, .null, .null, .null, .null, .null, .null, .null, .null, .null, .null, .null, .null, .null, .null, .null, .null, .null, .null]))] := hD
  refine lv_aload_n hx hb dc_Mo_55 rfl (lv_at hl 0 rfl) ?_
  refine lv_iconst (v := (-1)) hx hb dc_Mo_56 (by decide) ?_
  refine va_put (D := D) (ci := 6) (v := .int (-1)) (ty := .int) (C := "ParserGeneratorModel") (T := ct_6) (N := 34) hx hb hts cw_6 cy_6 cd_6 cn_6 hown hK hP hD hS 0 rfl rfl 10 (by decide) (hts _ tx_2_233) (fun _ h9 => h9) rfl (by decide +kernel) rfl rfl (Nat.le_of_ble_eq_true rfl) dc_Mo_57 (fun H locs hP hD hS => ?_)
  have hP : va_P D cl_all [(h0, .inr (6, [.int 0, .int 0, .int (-1), .int 0, .int 1, .int 0, .int (-10), .int 0, .int 0, .int 0, .int (-1), .int 0, .int 0, .int 0, .int 0, .null, .null, .null, .null, .null, .null, .null, .null, .null, .null, .null, .null, .null, .null, .null, .null, .null, .null, .null]))] H := hP
  have hD : va_D A [(h0, .inr (6, [.int 0, .int 0, .int (-1), .int 0, .int 1, .int 0, .int (-10), .int 0, .int 0, .int 0, .int (-1), .int 0, .int 0, .int 0, .int 0, .null, .null, .null, .null, .null, .null, .null, .null, .null, .null, .null, .null, .null, .null, .null, .null, .null, .null, .null]))] := hD
  refine lv_aload_n hx hb dc_Mo_60 rfl (lv_at hl 0 rfl) ?_
  refine lv_iconst (v := 0) hx hb dc_Mo_61 (by decide) ?_
  refine va_put (D := D) (ci := 6) (v := .int 0) (ty := .int) (C := "ParserGeneratorModel") (T := ct_6) (N := 34) hx hb hts cw_6 cy_6 cd_6 cn_6 hown hK hP hD hS 0 rfl rfl 11 (by decide) (hts _ tx_2_234) (fun _ h9 => h9) rfl (by decide +kernel) rfl rfl (Nat.le_of_ble_eq_true rfl) dc_Mo_62 (fun H locs hP hD hS => ?_)
  have hP : va_P D cl_all [(h0, .inr (6, [.int 0, .int 0, .int (-1), .int 0, .int 1, .int 0, .int (-10), .int 0, .int 0, .int 0, .int (-1), .int 0, .int 0, .int 0, .int 0, .null, .null, .null, .null, .null, .null, .null, .null, .null, .null, .null, .null, .null, .null, .null, .null, .null, .null, .null]))] H := hP
  have hD : va_D A [(h0, .inr (6, [.int 0, .int 0, .int (-1), .int 0, .int 1, .int 0, .int (-10), .int 0, .int 0, .int 0, .int (-1), .int 0, .int 0, .int 0, .int 0, .null, .null, .null, .null, .null, .null, .null, .null, .null, .null, .null, .null, .null, .null, .null, .null, .null, .null, .null]))] := hD
  refine lv_aload_n hx hb dc_Mo_65 rfl (lv_at hl 0 rfl) ?_
  refine lv_bipush (v := (-10)) hx hb dc_Mo_66 (by decide) ?_
  refine va_put (D := D) (ci := 6) (v := .int (-10)) (ty := .int) (C := "ParserGeneratorModel") (T := ct_6) (N := 34) hx hb hts cw_6 cy_6 cd_6 cn_6 hown hK hP hD hS 0 rfl rfl 12 (by decide) (hts _ tx_2_235) (fun _ h9 => h9) rfl (by decide +kernel) rfl rfl (Nat.le_of_ble_eq_true rfl) dc_Mo_68 (fun H locs hP hD hS => ?_)
  have hP : va_P D cl_all [(h0, .inr (6, [.int 0, .int 0, .int (-1), .int 0, .int 1, .int 0, .int (-10), .int 0, .int 0, .int 0, .int (-1), .int 0, .int (-10), .int 0, .int 0, .null, .null, .null, .null, .null, .null, .null, .null, .null, .null, .null, .null, .null, .null, .null, .null, .null, .null, .null]))] H := hP
  have hD : va_D A [(h0, .inr (6, [.int 0, .int 0, .int (-1), .int 0, .int 1, .int 0, .int (-10), .int 0, .int 0, .int 0, .int (-1), .int 0, .int (-10), .int 0, .int 0, .null, .null, .null, .null, .null, .null, .null, .null, .null, .null, .null, .null, .null, .null, .null, .null, .null, .null, .null]))] := hD
  refine lv_aload_n hx hb dc_Mo_71 rfl (lv_at hl 0 rfl) ?_
  refine lv_bipush (v := (-10)) hx hb dc_Mo_72 (by decide) ?_
  refine va_put (D := D) (ci := 6) (v := .int (-10)) (ty := .int) (C := "ParserGeneratorModel") (T := ct_6) (N := 34) hx hb hts cw_6 cy_6 cd_6 cn_6 hown hK hP hD hS 0 rfl rfl 13 (by decide) (hts _ tx_2_236) (fun _ h9 => h9) rfl (by decide +kernel) rfl rfl (Nat.le_of_ble_eq_true rfl) dc_Mo_74 (fun H locs hP hD hS => ?_)
  have hP : va_P D cl_all [(h0, .inr (6, [.int 0, .int 0, .int (-1), .int 0, .int 1, .int 0, .int (-10), .int 0, .int 0, .int 0, .int (-1), .int 0, .int (-10), .int (-10), .int 0, .null, .null, .null, .null, .null, .null, .null, .null, .null, .null, .null, .null, .null, .null, .null, .null, .null, .null, .null]))] H := hP
  have hD : va_D A [(h0, .inr (6, [.int 0, .int 0, .int (-1), .int 0, .int 1, .int 0, .int (-10), .int 0, .int 0, .int 0, .int (-1), .int 0, .int (-10), .int (-10), .int 0, .null, .null, .null, .null, .null, .null, .null, .null, .null, .null, .null, .null, .null, .null, .null, .null, .null, .null, .null]))] := hD
  refine lv_aload_n hx hb dc_Mo_77 rfl (lv_at hl 0 rfl) ?_
  refine lv_iconst (v := 0) hx hb dc_Mo_78 (by decide) ?_
  refine va_put (D := D) (ci := 6) (v := .int 0) (ty := .int) (C := "ParserGeneratorModel") (T := ct_6) (N := 34) hx hb hts cw_6 cy_6 cd_6 cn_6 hown hK hP hD hS 0 rfl rfl 14 (by decide) (hts _ tx_2_237) (fun _ h9 => h9) rfl (by decide +kernel) rfl rfl (Nat.le_of_ble_eq_true rfl) dc_Mo_79 (fun H locs hP hD hS => ?_)
  have hP : va_P D cl_all [(h0, .inr (6, [.int 0, .int 0, .int (-1), .int 0, .int 1, .int 0, .int (-10), .int 0, .int 0, .int 0, .int (-1), .int 0, .int (-10), .int (-10), .int 0, .null, .null, .null, .null, .null, .null, .null, .null, .null, .null, .null, .null, .null, .null, .null, .null, .null, .null, .null]))] H := hP
  have hD : va_D A [(h0, .inr (6, [.int 0, .int 0, .int (-1), .int 0, .int 1, .int 0, .int (-10), .int 0, .int 0, .int 0, .int (-1), .int 0, .int (-10), .int (-10), .int 0, .null, .null, .null, .null, .null, .null, .null, .null, .null, .null, .null, .null, .null, .null, .null, .null, .null, .null, .null]))] := hD
  refine lv_aload_n hx hb dc_Mo_82 rfl (lv_at hl 0 rfl) ?_
  refine lv_bipush (v := 60) hx hb dc_Mo_83 (by decide) ?_
  refine va_newa (atype := .int) (ty := .int) (N' := 60) (a0 := (60, .inl (fun _ => 0))) hx hb (hts _ tx_1_52) rfl hK hP hD hS hA (fun _ => rfl) (by decide) (by decide) (by decide) (Nat.le_of_ble_eq_true rfl) (Nat.le_of_ble_eq_true rfl) dc_Mo_85 (fun q1 cA H hK1 hP hD hS => ?_)
  have eA : cA = cI := Option.some.inj ((va_nm_int (hK1.2 2 _ rfl).2).symm.trans (va_nm_int (hK.2 0 _ rfl).2))
  rw [eA] at hP hD
  have hP : va_P D cl_all [(h0, .inr (6, [.int 0, .int 0, .int (-1), .int 0, .int 1, .int 0, .int (-10), .int 0, .int 0, .int 0, .int (-1), .int 0, .int (-10), .int (-10), .int 0, .null, .null, .null, .null, .null, .null, .null, .null, .null, .null, .null, .null, .null, .null, .null, .null, .null, .null, .null])), (q1, .inl (cI, 60, .inl (fun _ => 0)))] H := hP
  have hD : va_D A [(h0, .inr (6, [.int 0, .int 0, .int (-1), .int 0, .int 1, .int 0, .int (-10), .int 0, .int 0, .int 0, .int (-1), .int 0, .int (-10), .int (-10), .int 0, .null, .null, .null, .null, .null, .null, .null, .null, .null, .null, .null, .null, .null, .null, .null, .null, .null, .null, .null])), (q1, .inl (cI, 60, .inl (fun _ => 0)))] := hD
  refine W.widen (k := 1) (n := 60) (by omega) (by omega) ?_
  refine va_putF (D := D) (ci := 6) (v := .ref q1) (ty := (.array .int)) (C := "ParserGeneratorModel") (T := ct_6) (N := 34) hx hb hts cw_6 cy_6 cd_6 cn_6 hown hK hP hD hS 0 rfl rfl 15 (by decide) (hts _ tx_2_238) (fun _ h9 => h9) rfl hin rfl (by decide +kernel) rfl rfl (Nat.le_of_ble_eq_true rfl) dc_Mo_87 (fun H locs hP hD hS => ?_)
  have hP : va_P D cl_all [(h0, .inr (6, [.int 0, .int 0, .int (-1), .int 0, .int 1, .int 0, .int (-10), .int 0, .int 0, .int 0, .int (-1), .int 0, .int (-10), .int (-10), .int 0, .ref q1, .null, .null, .null, .null, .null, .null, .null, .null, .null, .null, .null, .null, .null, .null, .null, .null, .null, .null])), (q1, .inl (cI, 60, .inl (fun _ => 0)))] H := hP
  have hD : va_D A [(h0, .inr (6, [.int 0, .int 0, .int (-1), .int 0, .int 1, .int 0, .int (-10), .int 0, .int 0, .int 0, .int (-1), .int 0, .int (-10), .int (-10), .int 0, .ref q1, .null, .null, .null, .null, .null, .null, .null, .null, .null, .null, .null, .null, .null, .null, .null, .null, .null, .null])), (q1, .inl (cI, 60, .inl (fun _ => 0)))] := hD
  refine lv_aload_n hx hb dc_Mo_90 rfl (lv_at hl 0 rfl) ?_
  refine lv_bipush (v := 60) hx hb dc_Mo_91 (by decide) ?_
  refine va_newa (atype := .int) (ty := .int) (N' := 60) (a0 := (60, .inl (fun _ => 0))) hx hb (hts _ tx_1_52) rfl hK hP hD hS hA (fun _ => rfl) (by decide) (by decide) (by decide) (Nat.le_of_ble_eq_true rfl) (Nat.le_of_ble_eq_true rfl) dc_Mo_93 (fun q2 cA H hK1 hP hD hS => ?_)
  have eA : cA = cI := Option.some.inj ((va_nm_int (hK1.2 2 _ rfl).2).symm.trans (va_nm_int (hK.2 0 _ rfl).2))
  rw [eA] at hP hD
  have hP : va_P D cl_all [(h0, .inr (6, [.int 0, .int 0, .int (-1), .int 0, .int 1, .int 0, .int (-10), .int 0, .int 0, .int 0, .int (-1), .int 0, .int (-10), .int (-10), .int 0, .ref q1, .null, .null, .null, .null, .null, .null, .null, .null, .null, .null, .null, .null, .null, .null, .null, .null, .null, .null])), (q1, .inl (cI, 60, .inl (fun _ => 0))), (q2, .inl (cI, 60, .inl (fun _ => 0)))] H := hP
  have hD : va_D A [(h0, .inr (6, [.int 0, .int 0, .int (-1), .int 0, .int 1, .int 0, .int (-10), .int 0, .int 0, .int 0, .int (-1), .int 0, .int (-10), .int (-10), .int 0, .ref q1, .null, .null, .null, .null, .null, .null, .null, .null, .null, .null, .null, .null, .null, .null, .null, .null, .null, .null])), (q1, .inl (cI, 60, .inl (fun _ => 0))), (q2, .inl (cI, 60, .inl (fun _ => 0)))] := hD
  refine W.widen (k := 2) (n := 120) (by omega) (by omega) ?_
  refine va_putF (D := D) (ci := 6) (v := .ref q2) (ty := (.array .int)) (C := "ParserGeneratorModel") (T := ct_6) (N := 34) hx hb hts cw_6 cy_6 cd_6 cn_6 hown hK hP hD hS 0 rfl rfl 16 (by decide) (hts _ tx_2_239) (fun _ h9 => h9) rfl hin rfl (by decide +kernel) rfl rfl (Nat.le_of_ble_eq_true rfl) dc_Mo_95 (fun H locs hP hD hS => ?_)
  have hP : va_P D cl_all [(h0, .inr (6, [.int 0, .int 0, .int (-1), .int 0, .int 1, .int 0, .int (-10), .int 0, .int 0, .int 0, .int (-1), .int 0, .int (-10), .int (-10), .int 0, .ref q1, .ref q2, .null, .null, .null, .null, .null, .null, .null, .null, .null, .null, .null, .null, .null, .null, .null, .null, .null])), (q1, .inl (cI, 60, .inl (fun _ => 0))), (q2, .inl (cI, 60, .inl (fun _ => 0)))] H := hP
  have hD : va_D A [(h0, .inr (6, [.int 0, .int 0, .int (-1), .int 0, .int 1, .int 0, .int (-10), .int 0, .int 0, .int 0, .int (-1), .int 0, .int (-10), .int (-10), .int 0, .ref q1, .ref q2, .null, .null, .null, .null, .null, .null, .null, .null, .null, .null, .null, .null, .null, .null, .null, .null, .null])), (q1, .inl (cI, 60, .inl (fun _ => 0))), (q2, .inl (cI, 60, .inl (fun _ => 0)))] := hD
  refine lv_aload_n hx hb dc_Mo_98 rfl (lv_at hl 0 rfl) ?_
  refine lv_bipush (v := 60) hx hb dc_Mo_99 (by decide) ?_
  refine va_newa (atype := .int) (ty := .int) (N' := 60) (a0 := (60, .inl (fun _ => 0))) hx hb (hts _ tx_1_52) rfl hK hP hD hS hA (fun _ => rfl) (by decide) (by decide) (by decide) (Nat.le_of_ble_eq_true rfl) (Nat.le_of_ble_eq_true rfl) dc_Mo_101 (fun q3 cA H hK1 hP hD hS => ?_)
  have eA : cA = cI := Option.some.inj ((va_nm_int (hK1.2 2 _ rfl).2).symm.trans (va_nm_int (hK.2 0 _ rfl).2))
  rw [eA] at hP hD
  have hP : va_P D cl_all [(h0, .inr (6, [.int 0, .int 0, .int (-1), .int 0, .int 1, .int 0, .int (-10), .int 0, .int 0, .int 0, .int (-1), .int 0, .int (-10), .int (-10), .int 0, .ref q1, .ref q2, .null, .null, .null, .null, .null, .null, .null, .null, .null, .null, .null, .null, .null, .null, .null, .null, .null])), (q1, .inl (cI, 60, .inl (fun _ => 0))), (q2, .inl (cI, 60, .inl (fun _ => 0))), (q3, .inl (cI, 60, .inl (fun _ => 0)))] H := hP
  have hD : va_D A [(h0, .inr (6, [.int 0, .int 0, .int (-1), .int 0, .int 1, .int 0, .int (-10), .int 0, .int 0, .int 0, .int (-1), .int 0, .int (-10), .int (-10), .int 0, .ref q1, .ref q2, .null, .null, .null, .null, .null, .null, .null, .null, .null, .null, .null, .null, .null, .null, .null, .null, .null])), (q1, .inl (cI, 60, .inl (fun _ => 0))), (q2, .inl (cI, 60, .inl (fun _ => 0))), (q3, .inl (cI, 60, .inl (fun _ => 0)))] := hD
  refine W.widen (k := 3) (n := 180) (by omega) (by omega) ?_
  refine va_putF (D := D) (ci := 6) (v := .ref q3) (ty := (.array .int)) (C := "ParserGeneratorModel") (T := ct_6) (N := 34) hx hb hts cw_6 cy_6 cd_6 cn_6 hown hK hP hD hS 0 rfl rfl 17 (by decide) (hts _ tx_3_0) (fun _ h9 => h9) rfl hin rfl (by decide +kernel) rfl rfl (Nat.le_of_ble_eq_true rfl) dc_Mo_103 (fun H locs hP hD hS => ?_)
  have hP : va_P D cl_all [(h0, .inr (6, [.int 0, .int 0, .int (-1), .int 0, .int 1, .int 0, .int (-10), .int 0, .int 0, .int 0, .int (-1), .int 0, .int (-10), .int (-10), .int 0, .ref q1, .ref q2, .ref q3, .null, .null, .null, .null, .null, .null, .null, .null, .null, .null, .null, .null, .null, .null, .null, .null])), (q1, .inl (cI, 60, .inl (fun _ => 0))), (q2, .inl (cI, 60, .inl (fun _ => 0))), (q3, .inl (cI, 60, .inl (fun _ => 0)))] H := hP
  have hD : va_D A [(h0, .inr (6, [.int 0, .int 0, .int (-1), .int 0, .int 1, .int 0, .int (-10), .int 0, .int 0, .int 0, .int (-1), .int 0, .int (-10), .int (-10), .int 0, .ref q1, .ref q2, .ref q3, .null, .null, .null, .null, .null, .null, .null, .null, .null, .null, .null, .null, .null, .null, .null, .null])), (q1, .inl (cI, 60, .inl (fun _ => 0))), (q2, .inl (cI, 60, .inl (fun _ => 0))), (q3, .inl (cI, 60, .inl (fun _ => 0)))] := hD
  refine lv_aload_n hx hb dc_Mo_106 rfl (lv_at hl 0 rfl) ?_
  refine lv_bipush (v := 60) hx hb dc_Mo_107 (by decide) ?_
  refine va_newa (atype := .int) (ty := .int) (N' := 60) (a0 := (60, .inl (fun _ => 0))) hx hb (hts _ tx_1_52) rfl hK hP hD hS hA (fun _ => rfl) (by decide) (by decide) (by decide) (Nat.le_of_ble_eq_true rfl) (Nat.le_of_ble_eq_true rfl) dc_Mo_109 (fun q4 cA H hK1 hP hD hS => ?_)
  have eA : cA = cI := Option.some.inj ((va_nm_int (hK1.2 2 _ rfl).2).symm.trans (va_nm_int (hK.2 0 _ rfl).2))
  rw [eA] at hP hD
  have hP : va_P D cl_all [(h0, .inr (6, [.int 0, .int 0, .int (-1), .int 0, .int 1, .int 0, .int (-10), .int 0, .int 0, .int 0, .int (-1), .int 0, .int (-10), .int (-10), .int 0, .ref q1, .ref q2, .ref q3, .null, .null, .null, .null, .null, .null, .null, .null, .null, .null, .null, .null, .null, .null, .null, .null])), (q1, .inl (cI, 60, .inl (fun _ => 0))), (q2, .inl (cI, 60, .inl (fun _ => 0))), (q3, .inl (cI, 60, .inl (fun _ => 0))), (q4, .inl (cI, 60, .inl (fun _ => 0)))] H := hP
  have hD : va_D A [(h0, .inr (6, [.int 0, .int 0, .int (-1), .int 0, .int 1, .int 0, .int (-10), .int 0, .int 0, .int 0, .int (-1), .int 0, .int (-10), .int (-10), .int 0, .ref q1, .ref q2, .ref q3, .null, .null, .null, .null, .null, .null, .null, .null, .null, .null, .null, .null, .null, .null, .null, .null])), (q1, .inl (cI, 60, .inl (fun _ => 0))), (q2, .inl (cI, 60, .inl (fun _ => 0))), (q3, .inl (cI, 60, .inl (fun _ => 0))), (q4, .inl (cI, 60, .inl (fun _ => 0)))] := hD
  refine W.widen (k := 4) (n := 240) (by omega) (by omega) ?_
  refine va_putF (D := D) (ci := 6) (v := .ref q4) (ty := (.array .int)) (C := "ParserGeneratorModel") (T := ct_6) (N := 34) hx hb hts cw_6 cy_6 cd_6 cn_6 hown hK hP hD hS 0 rfl rfl 18 (by decide) (hts _ tx_3_1) (fun _ h9 => h9) rfl hin rfl (by decide +kernel) rfl rfl (Nat.le_of_ble_eq_true rfl) dc_Mo_111 (fun H locs hP hD hS => ?_)
  have hP : va_P D cl_all [(h0, .inr (6, [.int 0, .int 0, .int (-1), .int 0, .int 1, .int 0, .int (-10), .int 0, .int 0, .int 0, .int (-1), .int 0, .int (-10), .int (-10), .int 0, .ref q1, .ref q2, .ref q3, .ref q4, .null, .null, .null, .null, .null, .null, .null, .null, .null, .null, .null, .null, .null, .null, .null])), (q1, .inl (cI, 60, .inl (fun _ => 0))), (q2, .inl (cI, 60, .inl (fun _ => 0))), (q3, .inl (cI, 60, .inl (fun _ => 0))), (q4, .inl (cI, 60, .inl (fun _ => 0)))] H := hP
  have hD : va_D A [(h0, .inr (6, [.int 0, .int 0, .int (-1), .int 0, .int 1, .int 0, .int (-10), .int 0, .int 0, .int 0, .int (-1), .int 0, .int (-10), .int (-10), .int 0, .ref q1, .ref q2, .ref q3, .ref q4, .null, .null, .null, .null, .null, .null, .null, .null, .null, .null, .null, .null, .null, .null, .null])), (q1, .inl (cI, 60, .inl (fun _ => 0))), (q2, .inl (cI, 60, .inl (fun _ => 0))), (q3, .inl (cI, 60, .inl (fun _ => 0))), (q4, .inl (cI, 60, .inl (fun _ => 0)))] := hD
  refine lv_aload_n hx hb dc_Mo_114 rfl (lv_at hl 0 rfl) ?_
  refine lv_bipush (v := 8) hx hb dc_Mo_115 (by decide) ?_
  refine va_newa (atype := .int) (ty := .int) (N' := 8) (a0 := (8, .inl (fun _ => 0))) hx hb (hts _ tx_1_52) rfl hK hP hD hS hA (fun _ => rfl) (by decide) (by decide) (by decide) (Nat.le_of_ble_eq_true rfl) (Nat.le_of_ble_eq_true rfl) dc_Mo_117 (fun q5 cA H hK1 hP hD hS => ?_)
  have eA : cA = cI := Option.some.inj ((va_nm_int (hK1.2 2 _ rfl).2).symm.trans (va_nm_int (hK.2 0 _ rfl).2))
  rw [eA] at hP hD
  have hP : va_P D cl_all [(h0, .inr (6, [.int 0, .int 0, .int (-1), .int 0, .int 1, .int 0, .int (-10), .int 0, .int 0, .int 0, .int (-1), .int 0, .int (-10), .int (-10), .int 0, .ref q1, .ref q2, .ref q3, .ref q4, .null, .null, .null, .null, .null, .null, .null, .null, .null, .null, .null, .null, .null, .null, .null])), (q1, .inl (cI, 60, .inl (fun _ => 0))), (q2, .inl (cI, 60, .inl (fun _ => 0))), (q3, .inl (cI, 60, .inl (fun _ => 0))), (q4, .inl (cI, 60, .inl (fun _ => 0))), (q5, .inl (cI, 8, .inl (fun _ => 0)))] H := hP
  have hD : va_D A [(h0, .inr (6, [.int 0, .int 0, .int (-1), .int 0, .int 1, .int 0, .int (-10), .int 0, .int 0, .int 0, .int (-1), .int 0, .int (-10), .int (-10), .int 0, .ref q1, .ref q2, .ref q3, .ref q4, .null, .null, .null, .null, .null, .null, .null, .null, .null, .null, .null, .null, .null, .null, .null])), (q1, .inl (cI, 60, .inl (fun _ => 0))), (q2, .inl (cI, 60, .inl (fun _ => 0))), (q3, .inl (cI, 60, .inl (fun _ => 0))), (q4, .inl (cI, 60, .inl (fun _ => 0))), (q5, .inl (cI, 8, .inl (fun _ => 0)))] := hD
  refine W.widen (k := 5) (n := 248) (by omega) (by omega) ?_
  refine va_putF (D := D) (ci := 6) (v := .ref q5) (ty := (.array .int)) (C := "ParserGeneratorModel") (T := ct_6) (N := 34) hx hb hts cw_6 cy_6 cd_6 cn_6 hown hK hP hD hS 0 rfl rfl 19 (by decide) (hts _ tx_3_2) (fun _ h9 => h9) rfl hin rfl (by decide +kernel) rfl rfl (Nat.le_of_ble_eq_true rfl) dc_Mo_119 (fun H locs hP hD hS => ?_)
  have hP : va_P D cl_all [(h0, .inr (6, [.int 0, .int 0, .int (-1), .int 0, .int 1, .int 0, .int (-10), .int 0, .int 0, .int 0, .int (-1), .int 0, .int (-10), .int (-10), .int 0, .ref q1, .ref q2, .ref q3, .ref q4, .ref q5, .null, .null, .null, .null, .null, .null, .null, .null, .null, .null, .null, .null, .null, .null])), (q1, .inl (cI, 60, .inl (fun _ => 0))), (q2, .inl (cI, 60, .inl (fun _ => 0))), (q3, .inl (cI, 60, .inl (fun _ => 0))), (q4, .inl (cI, 60, .inl (fun _ => 0))), (q5, .inl (cI, 8, .inl (fun _ => 0)))] H := hP
  have hD : va_D A [(h0, .inr (6, [.int 0, .int 0, .int (-1), .int 0, .int 1, .int 0, .int (-10), .int 0, .int 0, .int 0, .int (-1), .int 0, .int (-10), .int (-10), .int 0, .ref q1, .ref q2, .ref q3, .ref q4, .ref q5, .null, .null, .null, .null, .null, .null, .null, .null, .null, .null, .null, .null, .null, .null])), (q1, .inl (cI, 60, .inl (fun _ => 0))), (q2, .inl (cI, 60, .inl (fun _ => 0))), (q3, .inl (cI, 60, .inl (fun _ => 0))), (q4, .inl (cI, 60, .inl (fun _ => 0))), (q5, .inl (cI, 8, .inl (fun _ => 0)))] := hD
  refine lv_aload_n hx hb dc_Mo_122 rfl (lv_at hl 0 rfl) ?_
  refine lv_bipush (v := 8) hx hb dc_Mo_123 (by decide) ?_
  refine va_newa (atype := .int) (ty := .int) (N' := 8) (a0 := (8, .inl (fun _ => 0))) hx hb (hts _ tx_1_52) rfl hK hP hD hS hA (fun _ => rfl) (by decide) (by decide) (by decide) (Nat.le_of_ble_eq_true rfl) (Nat.le_of_ble_eq_true rfl) dc_Mo_125 (fun q6 cA H hK1 hP hD hS => ?_)
  have eA : cA = cI := Option.some.inj ((va_nm_int (hK1.2 2 _ rfl).2).symm.trans (va_nm_int (hK.2 0 _ rfl).2))
  rw [eA] at hP hD
  have hP : va_P D cl_all [(h0, .inr (6, [.int 0, .int 0, .int (-1), .int 0, .int 1, .int 0, .int (-10), .int 0, .int 0, .int 0, .int (-1), .int 0, .int (-10), .int (-10), .int 0, .ref q1, .ref q2, .ref q3, .ref q4, .ref q5, .null, .null, .null, .null, .null, .null, .null, .null, .null, .null, .null, .null, .null, .null])), (q1, .inl (cI, 60, .inl (fun _ => 0))), (q2, .inl (cI, 60, .inl (fun _ => 0))), (q3, .inl (cI, 60, .inl (fun _ => 0))), (q4, .inl (cI, 60, .inl (fun _ => 0))), (q5, .inl (cI, 8, .inl (fun _ => 0))), (q6, .inl (cI, 8, .inl (fun _ => 0)))] H := hP
  have hD : va_D A [(h0, .inr (6, [.int 0, .int 0, .int (-1), .int 0, .int 1, .int 0, .int (-10), .int 0, .int 0, .int 0, .int (-1), .int 0, .int (-10), .int (-10), .int 0, .ref q1, .ref q2, .ref q3, .ref q4, .ref q5, .null, .null, .null, .null, .null, .null, .null, .null, .null, .null, .null, .null, .null, .null])), (q1, .inl (cI, 60, .inl (fun _ => 0))), (q2, .inl (cI, 60, .inl (fun _ => 0))), (q3, .inl (cI, 60, .inl (fun _ => 0))), (q4, .inl (cI, 60, .inl (fun _ => 0))), (q5, .inl (cI, 8, .inl (fun _ => 0))), (q6, .inl (cI, 8, .inl (fun _ => 0)))] := hD
  refine W.widen (k := 6) (n := 256) (by omega) (by omega) ?_
  refine va_putF (D := D) (ci := 6) (v := .ref q6) (ty := (.array .int)) (C := "ParserGeneratorModel") (T := ct_6) (N := 34) hx hb hts cw_6 cy_6 cd_6 cn_6 hown hK hP hD hS 0 rfl rfl 20 (by decide) (hts _ tx_3_3) (fun _ h9 => h9) rfl hin rfl (by decide +kernel) rfl rfl (Nat.le_of_ble_eq_true rfl) dc_Mo_127 (fun H locs hP hD hS => ?_)
  have hP : va_P D cl_all [(h0, .inr (6, [.int 0, .int 0, .int (-1), .int 0, .int 1, .int 0, .int (-10), .int 0, .int 0, .int 0, .int (-1), .int 0, .int (-10), .int (-10), .int 0, .ref q1, .ref q2, .ref q3, .ref q4, .ref q5, .ref q6, .null, .null, .null, .null, .null, .null, .null, .null, .null, .null, .null, .null, .null])), (q1, .inl (cI, 60, .inl (fun _ => 0))), (q2, .inl (cI, 60, .inl (fun _ => 0))), (q3, .inl (cI, 60, .inl (fun _ => 0))), (q4, .inl (cI, 60, .inl (fun _ => 0))), (q5, .inl (cI, 8, .inl (fun _ => 0))), (q6, .inl (cI, 8, .inl (fun _ => 0)))] H := hP
  have hD : va_D A [(h0, .inr (6, [.int 0, .int 0, .int (-1), .int 0, .int 1, .int 0, .int (-10), .int 0, .int 0, .int 0, .int (-1), .int 0, .int (-10), .int (-10), .int 0, .ref q1, .ref q2, .ref q3, .ref q4, .ref q5, .ref q6, .null, .null, .null, .null, .null, .null, .null, .null, .null, .null, .null, .null, .null])), (q1, .inl (cI, 60, .inl (fun _ => 0))), (q2, .inl (cI, 60, .inl (fun _ => 0))), (q3, .inl (cI, 60, .inl (fun _ => 0))), (q4, .inl (cI, 60, .inl (fun _ => 0))), (q5, .inl (cI, 8, .inl (fun _ => 0))), (q6, .inl (cI, 8, .inl (fun _ => 0)))] := hD
  refine lv_aload_n hx hb dc_Mo_130 rfl (lv_at hl 0 rfl) ?_
  refine lv_bipush (v := 60) hx hb dc_Mo_131 (by decide) ?_
  refine va_newa (atype := .boolean) (ty := .boolean) (N' := 60) (a0 := (60, .inl (fun _ => 0))) hx hb (hts _ tx_1_97) rfl hK hP hD hS hA (fun _ => rfl) (by decide) (by decide) (by decide) (Nat.le_of_ble_eq_true rfl) (Nat.le_of_ble_eq_true rfl) dc_Mo_133 (fun q7 cA H hK1 hP hD hS => ?_)
  have eA : cA = cZ := Option.some.inj ((va_nm_boolean (hK1.2 2 _ rfl).2).symm.trans (va_nm_boolean (hK.2 1 _ rfl).2))
  rw [eA] at hP hD
  have hP : va_P D cl_all [(h0, .inr (6, [.int 0, .int 0, .int (-1), .int 0, .int 1, .int 0, .int (-10), .int 0, .int 0, .int 0, .int (-1), .int 0, .int (-10), .int (-10), .int 0, .ref q1, .ref q2, .ref q3, .ref q4, .ref q5, .ref q6, .null, .null, .null, .null, .null, .null, .null, .null, .null, .null, .null, .null, .null])), (q1, .inl (cI, 60, .inl (fun _ => 0))), (q2, .inl (cI, 60, .inl (fun _ => 0))), (q3, .inl (cI, 60, .inl (fun _ => 0))), (q4, .inl (cI, 60, .inl (fun _ => 0))), (q5, .inl (cI, 8, .inl (fun _ => 0))), (q6, .inl (cI, 8, .inl (fun _ => 0))), (q7, .inl (cZ, 60, .inl (fun _ => 0)))] H := hP
  have hD : va_D A [(h0, .inr (6, [.int 0, .int 0, .int (-1), .int 0, .int 1, .int 0, .int (-10), .int 0, .int 0, .int 0, .int (-1), .int 0, .int (-10), .int (-10), .int 0, .ref q1, .ref q2, .ref q3, .ref q4, .ref q5, .ref q6, .null, .null, .null, .null, .null, .null, .null, .null, .null, .null, .null, .null, .null])), (q1, .inl (cI, 60, .inl (fun _ => 0))), (q2, .inl (cI, 60, .inl (fun _ => 0))), (q3, .inl (cI, 60, .inl (fun _ => 0))), (q4, .inl (cI, 60, .inl (fun _ => 0))), (q5, .inl (cI, 8, .inl (fun _ => 0))), (q6, .inl (cI, 8, .inl (fun _ => 0))), (q7, .inl (cZ, 60, .inl (fun _ => 0)))] := hD
  refine W.widen (k := 7) (n := 316) (by omega) (by omega) ?_
  refine va_putF (D := D) (ci := 6) (v := .ref q7) (ty := (.array .boolean)) (C := "ParserGeneratorModel") (T := ct_6) (N := 34) hx hb hts cw_6 cy_6 cd_6 cn_6 hown hK hP hD hS 0 rfl rfl 21 (by decide) (hts _ tx_3_4) (fun _ h9 => h9) rfl hin rfl (by decide +kernel) rfl rfl (Nat.le_of_ble_eq_true rfl) dc_Mo_135 (fun H locs hP hD hS => ?_)
  have hP : va_P D cl_all [(h0, .inr (6, [.int 0, .int 0, .int (-1), .int 0, .int 1, .int 0, .int (-10), .int 0, .int 0, .int 0, .int (-1), .int 0, .int (-10), .int (-10), .int 0, .ref q1, .ref q2, .ref q3, .ref q4, .ref q5, .ref q6, .ref q7, .null, .null, .null, .null, .null, .null, .null, .null, .null, .null, .null, .null])), (q1, .inl (cI, 60, .inl (fun _ => 0))), (q2, .inl (cI, 60, .inl (fun _ => 0))), (q3, .inl (cI, 60, .inl (fun _ => 0))), (q4, .inl (cI, 60, .inl (fun _ => 0))), (q5, .inl (cI, 8, .inl (fun _ => 0))), (q6, .inl (cI, 8, .inl (fun _ => 0))), (q7, .inl (cZ, 60, .inl (fun _ => 0)))] H := hP
  have hD : va_D A [(h0, .inr (6, [.int 0, .int 0, .int (-1), .int 0, .int 1, .int 0, .int (-10), .int 0, .int 0, .int 0, .int (-1), .int 0, .int (-10), .int (-10), .int 0, .ref q1, .ref q2, .ref q3, .ref q4, .ref q5, .ref q6, .ref q7, .null, .null, .null, .null, .null, .null, .null, .null, .null, .null, .null, .null])), (q1, .inl (cI, 60, .inl (fun _ => 0))), (q2, .inl (cI, 60, .inl (fun _ => 0))), (q3, .inl (cI, 60, .inl (fun _ => 0))), (q4, .inl (cI, 60, .inl (fun _ => 0))), (q5, .inl (cI, 8, .inl (fun _ => 0))), (q6, .inl (cI, 8, .inl (fun _ => 0))), (q7, .inl (cZ, 60, .inl (fun _ => 0)))] := hD
  refine lv_aload_n hx hb dc_Mo_138 rfl (lv_at hl 0 rfl) ?_
  refine lv_bipush (v := 60) hx hb dc_Mo_139 (by decide) ?_
  refine va_newa (atype := .boolean) (ty := .boolean) (N' := 60) (a0 := (60, .inl (fun _ => 0))) hx hb (hts _ tx_1_97) rfl hK hP hD hS hA (fun _ => rfl) (by decide) (by decide) (by decide) (Nat.le_of_ble_eq_true rfl) (Nat.le_of_ble_eq_true rfl) dc_Mo_141 (fun q8 cA H hK1 hP hD hS => ?_)
  have eA : cA = cZ := Option.some.inj ((va_nm_boolean (hK1.2 2 _ rfl).2).symm.trans (va_nm_boolean (hK.2 1 _ rfl).2))
  rw [eA] at hP hD
  have hP : va_P D cl_all [(h0, .inr (6, [.int 0, .int 0, .int (-1), .int 0, .int 1, .int 0, .int (-10), .int 0, .int 0, .int 0, .int (-1), .int 0, .int (-10), .int (-10), .int 0, .ref q1, .ref q2, .ref q3, .ref q4, .ref q5, .ref q6, .ref q7, .null, .null, .null, .null, .null, .null, .null, .null, .null, .null, .null, .null])), (q1, .inl (cI, 60, .inl (fun _ => 0))), (q2, .inl (cI, 60, .inl (fun _ => 0))), (q3, .inl (cI, 60, .inl (fun _ => 0))), (q4, .inl (cI, 60, .inl (fun _ => 0))), (q5, .inl (cI, 8, .inl (fun _ => 0))), (q6, .inl (cI, 8, .inl (fun _ => 0))), (q7, .inl (cZ, 60, .inl (fun _ => 0))), (q8, .inl (cZ, 60, .inl (fun _ => 0)))] H := hP
  have hD : va_D A [(h0, .inr (6, [.int 0, .int 0, .int (-1), .int 0, .int 1, .int 0, .int (-10), .int 0, .int 0, .int 0, .int (-1), .int 0, .int (-10), .int (-10), .int 0, .ref q1, .ref q2, .ref q3, .ref q4, .ref q5, .ref q6, .ref q7, .null, .null, .null, .null, .null, .null, .null, .null, .null, .null, .null, .null])), (q1, .inl (cI, 60, .inl (fun _ => 0))), (q2, .inl (cI, 60, .inl (fun _ => 0))), (q3, .inl (cI, 60, .inl (fun _ => 0))), (q4, .inl (cI, 60, .inl (fun _ => 0))), (q5, .inl (cI, 8, .inl (fun _ => 0))), (q6, .inl (cI, 8, .inl (fun _ => 0))), (q7, .inl (cZ, 60, .inl (fun _ => 0))), (q8, .inl (cZ, 60, .inl (fun _ => 0)))] := hD
  refine W.widen (k := 8) (n := 376) (by omega) (by omega) ?_
  refine va_putF (D := D) (ci := 6) (v := .ref q8) (ty := (.array .boolean)) (C := "ParserGeneratorModel") (T := ct_6) (N := 34) hx hb hts cw_6 cy_6 cd_6 cn_6 hown hK hP hD hS 0 rfl rfl 22 (by decide) (hts _ tx_3_5) (fun _ h9 => h9) rfl hin rfl (by decide +kernel) rfl rfl (Nat.le_of_ble_eq_true rfl) dc_Mo_143 (fun H locs hP hD hS => ?_)
  have hP : va_P D cl_all [(h0, .inr (6, [.int 0, .int 0, .int (-1), .int 0, .int 1, .int 0, .int (-10), .int 0, .int 0, .int 0, .int (-1), .int 0, .int (-10), .int (-10), .int 0, .ref q1, .ref q2, .ref q3, .ref q4, .ref q5, .ref q6, .ref q7, .ref q8, .null, .null, .null, .null, .null, .null, .null, .null, .null, .null, .null])), (q1, .inl (cI, 60, .inl (fun _ => 0))), (q2, .inl (cI, 60, .inl (fun _ => 0))), (q3, .inl (cI, 60, .inl (fun _ => 0))), (q4, .inl (cI, 60, .inl (fun _ => 0))), (q5, .inl (cI, 8, .inl (fun _ => 0))), (q6, .inl (cI, 8, .inl (fun _ => 0))), (q7, .inl (cZ, 60, .inl (fun _ => 0))), (q8, .inl (cZ, 60, .inl (fun _ => 0)))] H := hP
  have hD : va_D A [(h0, .inr (6, [.int 0, .int 0, .int (-1), .int 0, .int 1, .int 0, .int (-10), .int 0, .int 0, .int 0, .int (-1), .int 0, .int (-10), .int (-10), .int 0, .ref q1, .ref q2, .ref q3, .ref q4, .ref q5, .ref q6, .ref q7, .ref q8, .null, .null, .null, .null, .null, .null, .null, .null, .null, .null, .null])), (q1, .inl (cI, 60, .inl (fun _ => 0))), (q2, .inl (cI, 60, .inl (fun _ => 0))), (q3, .inl (cI, 60, .inl (fun _ => 0))), (q4, .inl (cI, 60, .inl (fun _ => 0))), (q5, .inl (cI, 8, .inl (fun _ => 0))), (q6, .inl (cI, 8, .inl (fun _ => 0))), (q7, .inl (cZ, 60, .inl (fun _ => 0))), (q8, .inl (cZ, 60, .inl (fun _ => 0)))] := hD
  refine lv_aload_n hx hb dc_Mo_146 rfl (lv_at hl 0 rfl) ?_
  refine lv_bipush (v := 60) hx hb dc_Mo_147 (by decide) ?_
  refine va_newa (atype := .int) (ty := .int) (N' := 60) (a0 := (60, .inl (fun _ => 0))) hx hb (hts _ tx_1_52) rfl hK hP hD hS hA (fun _ => rfl) (by decide) (by decide) (by decide) (Nat.le_of_ble_eq_true rfl) (Nat.le_of_ble_eq_true rfl) dc_Mo_149 (fun q9 cA H hK1 hP hD hS => ?_)
  have eA : cA = cI := Option.some.inj ((va_nm_int (hK1.2 2 _ rfl).2).symm.trans (va_nm_int (hK.2 0 _ rfl).2))
  rw [eA] at hP hD
  have hP : va_P D cl_all [(h0, .inr (6, [.int 0, .int 0, .int (-1), .int 0, .int 1, .int 0, .int (-10), .int 0, .int 0, .int 0, .int (-1), .int 0, .int (-10), .int (-10), .int 0, .ref q1, .ref q2, .ref q3, .ref q4, .ref q5, .ref q6, .ref q7, .ref q8, .null, .null, .null, .null, .null, .null, .null, .null, .null, .null, .null])), (q1, .inl (cI, 60, .inl (fun _ => 0))), (q2, .inl (cI, 60, .inl (fun _ => 0))), (q3, .inl (cI, 60, .inl (fun _ => 0))), (q4, .inl (cI, 60, .inl (fun _ => 0))), (q5, .inl (cI, 8, .inl (fun _ => 0))), (q6, .inl (cI, 8, .inl (fun _ => 0))), (q7, .inl (cZ, 60, .inl (fun _ => 0))), (q8, .inl (cZ, 60, .inl (fun _ => 0))), (q9, .inl (cI, 60, .inl (fun _ => 0)))] H := hP
  have hD : va_D A [(h0, .inr (6, [.int 0, .int 0, .int (-1), .int 0, .int 1, .int 0, .int (-10), .int 0, .int 0, .int 0, .int (-1), .int 0, .int (-10), .int (-10), .int 0, .ref q1, .ref q2, .ref q3, .ref q4, .ref q5, .ref q6, .ref q7, .ref q8, .null, .null, .null, .null, .null, .null, .null, .null, .null, .null, .null])), (q1, .inl (cI, 60, .inl (fun _ => 0))), (q2, .inl (cI, 60, .inl (fun _ => 0))), (q3, .inl (cI, 60, .inl (fun _ => 0))), (q4, .inl (cI, 60, .inl (fun _ => 0))), (q5, .inl (cI, 8, .inl (fun _ => 0))), (q6, .inl (cI, 8, .inl (fun _ => 0))), (q7, .inl (cZ, 60, .inl (fun _ => 0))), (q8, .inl (cZ, 60, .inl (fun _ => 0))), (q9, .inl (cI, 60, .inl (fun _ => 0)))] := hD
  refine W.widen (k := 9) (n := 436) (by omega) (by omega) ?_
  refine va_putF (D := D) (ci := 6) (v := .ref q9) (ty := (.array .int)) (C := "ParserGeneratorModel") (T := ct_6) (N := 34) hx hb hts cw_6 cy_6 cd_6 cn_6 hown hK hP hD hS 0 rfl rfl 23 (by decide) (hts _ tx_3_6) (fun _ h9 => h9) rfl hin rfl (by decide +kernel) rfl rfl (Nat.le_of_ble_eq_true rfl) dc_Mo_151 (fun H locs hP hD hS => ?_)
  have hP : va_P D cl_all [(h0, .inr (6, [.int 0, .int 0, .int (-1), .int 0, .int 1, .int 0, .int (-10), .int 0, .int 0, .int 0, .int (-1), .int 0, .int (-10), .int (-10), .int 0, .ref q1, .ref q2, .ref q3, .ref q4, .ref q5, .ref q6, .ref q7, .ref q8, .ref q9, .null, .null, .null, .null, .null, .null, .null, .null, .null, .null])), (q1, .inl (cI, 60, .inl (fun _ => 0))), (q2, .inl (cI, 60, .inl (fun _ => 0))), (q3, .inl (cI, 60, .inl (fun _ => 0))), (q4, .inl (cI, 60, .inl (fun _ => 0))), (q5, .inl (cI, 8, .inl (fun _ => 0))), (q6, .inl (cI, 8, .inl (fun _ => 0))), (q7, .inl (cZ, 60, .inl (fun _ => 0))), (q8, .inl (cZ, 60, .inl (fun _ => 0))), (q9, .inl (cI, 60, .inl (fun _ => 0)))] H := hP
  have hD : va_D A [(h0, .inr (6, [.int 0, .int 0, .int (-1), .int 0, .int 1, .int 0, .int (-10), .int 0, .int 0, .int 0, .int (-1), .int 0, .int (-10), .int (-10), .int 0, .ref q1, .ref q2, .ref q3, .ref q4, .ref q5, .ref q6, .ref q7, .ref q8, .ref q9, .null, .null, .null, .null, .null, .null, .null, .null, .null, .null])), (q1, .inl (cI, 60, .inl (fun _ => 0))), (q2, .inl (cI, 60, .inl (fun _ => 0))), (q3, .inl (cI, 60, .inl (fun _ => 0))), (q4, .inl (cI, 60, .inl (fun _ => 0))), (q5, .inl (cI, 8, .inl (fun _ => 0))), (q6, .inl (cI, 8, .inl (fun _ => 0))), (q7, .inl (cZ, 60, .inl (fun _ => 0))), (q8, .inl (cZ, 60, .inl (fun _ => 0))), (q9, .inl (cI, 60, .inl (fun _ => 0)))] := hD
  refine lv_aload_n hx hb dc_Mo_154 rfl (lv_at hl 0 rfl) ?_
  refine lv_bipush (v := 60) hx hb dc_Mo_155 (by decide) ?_
  refine va_newa (atype := .int) (ty := .int) (N' := 60) (a0 := (60, .inl (fun _ => 0))) hx hb (hts _ tx_1_52) rfl hK hP hD hS hA (fun _ => rfl) (by decide) (by decide) (by decide) (Nat.le_of_ble_eq_true rfl) (Nat.le_of_ble_eq_true rfl) dc_Mo_157 (fun q10 cA H hK1 hP hD hS => ?_)
  have eA : cA = cI := Option.some.inj ((va_nm_int (hK1.2 2 _ rfl).2).symm.trans (va_nm_int (hK.2 0 _ rfl).2))
  rw [eA] at hP hD
  have hP : va_P D cl_all [(h0, .inr (6, [.int 0, .int 0, .int (-1), .int 0, .int 1, .int 0, .int (-10), .int 0, .int 0, .int 0, .int (-1), .int 0, .int (-10), .int (-10), .int 0, .ref q1, .ref q2, .ref q3, .ref q4, .ref q5, .ref q6, .ref q7, .ref q8, .ref q9, .null, .null, .null, .null, .null, .null, .null, .null, .null, .null])), (q1, .inl (cI, 60, .inl (fun _ => 0))), (q2, .inl (cI, 60, .inl (fun _ => 0))), (q3, .inl (cI, 60, .inl (fun _ => 0))), (q4, .inl (cI, 60, .inl (fun _ => 0))), (q5, .inl (cI, 8, .inl (fun _ => 0))), (q6, .inl (cI, 8, .inl (fun _ => 0))), (q7, .inl (cZ, 60, .inl (fun _ => 0))), (q8, .inl (cZ, 60, .inl (fun _ => 0))), (q9, .inl (cI, 60, .inl (fun _ => 0))), (q10, .inl (cI, 60, .inl (fun _ => 0)))] H := hP
  have hD : va_D A [(h0, .inr (6, [.int 0, .int 0, .int (-1), .int 0, .int 1, .int 0, .int (-10), .int 0, .int 0, .int 0, .int (-1), .int 0, .int (-10), .int (-10), .int 0, .ref q1, .ref q2, .ref q3, .ref q4, .ref q5, .ref q6, .ref q7, .ref q8, .ref q9, .null, .null, .null, .null, .null, .null, .null, .null, .null, .null])), (q1, .inl (cI, 60, .inl (fun _ => 0))), (q2, .inl (cI, 60, .inl (fun _ => 0))), (q3, .inl (cI, 60, .inl (fun _ => 0))), (q4, .inl (cI, 60, .inl (fun _ => 0))), (q5, .inl (cI, 8, .inl (fun _ => 0))), (q6, .inl (cI, 8, .inl (fun _ => 0))), (q7, .inl (cZ, 60, .inl (fun _ => 0))), (q8, .inl (cZ, 60, .inl (fun _ => 0))), (q9, .inl (cI, 60, .inl (fun _ => 0))), (q10, .inl (cI, 60, .inl (fun _ => 0)))] := hD
  refine W.widen (k := 10) (n := 496) (by omega) (by omega) ?_
  refine va_putF (D := D) (ci := 6) (v := .ref q10) (ty := (.array .int)) (C := "ParserGeneratorModel") (T := ct_6) (N := 34) hx hb hts cw_6 cy_6 cd_6 cn_6 hown hK hP hD hS 0 rfl rfl 24 (by decide) (hts _ tx_3_7) (fun _ h9 => h9) rfl hin rfl (by decide +kernel) rfl rfl (Nat.le_of_ble_eq_true rfl) dc_Mo_159 (fun H locs hP hD hS => ?_)
  have hP : va_P D cl_all [(h0, .inr (6, [.int 0, .int 0, .int (-1), .int 0, .int 1, .int 0, .int (-10), .int 0, .int 0, .int 0, .int (-1), .int 0, .int (-10), .int (-10), .int 0, .ref q1, .ref q2, .ref q3, .ref q4, .ref q5, .ref q6, .ref q7, .ref q8, .ref q9, .ref q10, .null, .null, .null, .null, .null, .null, .null, .null, .null])), (q1, .inl (cI, 60, .inl (fun _ => 0))), (q2, .inl (cI, 60, .inl (fun _ => 0))), (q3, .inl (cI, 60, .inl (fun _ => 0))), (q4, .inl (cI, 60, .inl (fun _ => 0))), (q5, .inl (cI, 8, .inl (fun _ => 0))), (q6, .inl (cI, 8, .inl (fun _ => 0))), (q7, .inl (cZ, 60, .inl (fun _ => 0))), (q8, .inl (cZ, 60, .inl (fun _ => 0))), (q9, .inl (cI, 60, .inl (fun _ => 0))), (q10, .inl (cI, 60, .inl (fun _ => 0)))] H := hP
  have hD : va_D A [(h0, .inr (6, [.int 0, .int 0, .int (-1), .int 0, .int 1, .int 0, .int (-10), .int 0, .int 0, .int 0, .int (-1), .int 0, .int (-10), .int (-10), .int 0, .ref q1, .ref q2, .ref q3, .ref q4, .ref q5, .ref q6, .ref q7, .ref q8, .ref q9, .ref q10, .null, .null, .null, .null, .null, .null, .null, .null, .null])), (q1, .inl (cI, 60, .inl (fun _ => 0))), (q2, .inl (cI, 60, .inl (fun _ => 0))), (q3, .inl (cI, 60, .inl (fun _ => 0))), (q4, .inl (cI, 60, .inl (fun _ => 0))), (q5, .inl (cI, 8, .inl (fun _ => 0))), (q6, .inl (cI, 8, .inl (fun _ => 0))), (q7, .inl (cZ, 60, .inl (fun _ => 0))), (q8, .inl (cZ, 60, .inl (fun _ => 0))), (q9, .inl (cI, 60, .inl (fun _ => 0))), (q10, .inl (cI, 60, .inl (fun _ => 0)))] := hD
  refine lv_aload_n hx hb dc_Mo_162 rfl (lv_at hl 0 rfl) ?_
  refine lv_bipush (v := 60) hx hb dc_Mo_163 (by decide) ?_
  refine va_newa (atype := .int) (ty := .int) (N' := 60) (a0 := (60, .inl (fun _ => 0))) hx hb (hts _ tx_1_52) rfl hK hP hD hS hA (fun _ => rfl) (by decide) (by decide) (by decide) (Nat.le_of_ble_eq_true rfl) (Nat.le_of_ble_eq_true rfl) dc_Mo_165 (fun q11 cA H hK1 hP hD hS => ?_)
  have eA : cA = cI := Option.some.inj ((va_nm_int (hK1.2 2 _ rfl).2).symm.trans (va_nm_int (hK.2 0 _ rfl).2))
  rw [eA] at hP hD
  have hP : va_P D cl_all [(h0, .inr (6, [.int 0, .int 0, .int (-1), .int 0, .int 1, .int 0, .int (-10), .int 0, .int 0, .int 0, .int (-1), .int 0, .int (-10), .int (-10), .int 0, .ref q1, .ref q2, .ref q3, .ref q4, .ref q5, .ref q6, .ref q7, .ref q8, .ref q9, .ref q10, .null, .null, .null, .null, .null, .null, .null, .null, .null])), (q1, .inl (cI, 60, .inl (fun _ => 0))), (q2, .inl (cI, 60, .inl (fun _ => 0))), (q3, .inl (cI, 60, .inl (fun _ => 0))), (q4, .inl (cI, 60, .inl (fun _ => 0))), (q5, .inl (cI, 8, .inl (fun _ => 0))), (q6, .inl (cI, 8, .inl (fun _ => 0))), (q7, .inl (cZ, 60, .inl (fun _ => 0))), (q8, .inl (cZ, 60, .inl (fun _ => 0))), (q9, .inl (cI, 60, .inl (fun _ => 0))), (q10, .inl (cI, 60, .inl (fun _ => 0))), (q11, .inl (cI, 60, .inl (fun _ => 0)))] H := hP
  have hD : va_D A [(h0, .inr (6, [.int 0, .int 0, .int (-1), .int 0, .int 1, .int 0, .int (-10), .int 0, .int 0, .int 0, .int (-1), .int 0, .int (-10), .int (-10), .int 0, .ref q1, .ref q2, .ref q3, .ref q4, .ref q5, .ref q6, .ref q7, .ref q8, .ref q9, .ref q10, .null, .null, .null, .null, .null, .null, .null, .null, .null])), (q1, .inl (cI, 60, .inl (fun _ => 0))), (q2, .inl (cI, 60, .inl (fun _ => 0))), (q3, .inl (cI, 60, .inl (fun _ => 0))), (q4, .inl (cI, 60, .inl (fun _ => 0))), (q5, .inl (cI, 8, .inl (fun _ => 0))), (q6, .inl (cI, 8, .inl (fun _ => 0))), (q7, .inl (cZ, 60, .inl (fun _ => 0))), (q8, .inl (cZ, 60, .inl (fun _ => 0))), (q9, .inl (cI, 60, .inl (fun _ => 0))), (q10, .inl (cI, 60, .inl (fun _ => 0))), (q11, .inl (cI, 60, .inl (fun _ => 0)))] := hD
  refine W.widen (k := 11) (n := 556) (by omega) (by omega) ?_
  refine va_putF (D := D) (ci := 6) (v := .ref q11) (ty := (.array .int)) (C := "ParserGeneratorModel") (T := ct_6) (N := 34) hx hb hts cw_6 cy_6 cd_6 cn_6 hown hK hP hD hS 0 rfl rfl 25 (by decide) (hts _ tx_3_8) (fun _ h9 => h9) rfl hin rfl (by decide +kernel) rfl rfl (Nat.le_of_ble_eq_true rfl) dc_Mo_167 (fun H locs hP hD hS => ?_)
  have hP : va_P D cl_all [(h0, .inr (6, [.int 0, .int 0, .int (-1), .int 0, .int 1, .int 0, .int (-10), .int 0, .int 0, .int 0, .int (-1), .int 0, .int (-10), .int (-10), .int 0, .ref q1, .ref q2, .ref q3, .ref q4, .ref q5, .ref q6, .ref q7, .ref q8, .ref q9, .ref q10, .ref q11, .null, .null, .null, .null, .null, .null, .null, .null])), (q1, .inl (cI, 60, .inl (fun _ => 0))), (q2, .inl (cI, 60, .inl (fun _ => 0))), (q3, .inl (cI, 60, .inl (fun _ => 0))), (q4, .inl (cI, 60, .inl (fun _ => 0))), (q5, .inl (cI, 8, .inl (fun _ => 0))), (q6, .inl (cI, 8, .inl (fun _ => 0))), (q7, .inl (cZ, 60, .inl (fun _ => 0))), (q8, .inl (cZ, 60, .inl (fun _ => 0))), (q9, .inl (cI, 60, .inl (fun _ => 0))), (q10, .inl (cI, 60, .inl (fun _ => 0))), (q11, .inl (cI, 60, .inl (fun _ => 0)))] H := hP
  have hD : va_D A [(h0, .inr (6, [.int 0, .int 0, .int (-1), .int 0, .int 1, .int 0, .int (-10), .int 0, .int 0, .int 0, .int (-1), .int 0, .int (-10), .int (-10), .int 0, .ref q1, .ref q2, .ref q3, .ref q4, .ref q5, .ref q6, .ref q7, .ref q8, .ref q9, .ref q10, .ref q11, .null, .null, .null, .null, .null, .null, .null, .null])), (q1, .inl (cI, 60, .inl (fun _ => 0))), (q2, .inl (cI, 60, .inl (fun _ => 0))), (q3, .inl (cI, 60, .inl (fun _ => 0))), (q4, .inl (cI, 60, .inl (fun _ => 0))), (q5, .inl (cI, 8, .inl (fun _ => 0))), (q6, .inl (cI, 8, .inl (fun _ => 0))), (q7, .inl (cZ, 60, .inl (fun _ => 0))), (q8, .inl (cZ, 60, .inl (fun _ => 0))), (q9, .inl (cI, 60, .inl (fun _ => 0))), (q10, .inl (cI, 60, .inl (fun _ => 0))), (q11, .inl (cI, 60, .inl (fun _ => 0)))] := hD
  refine lv_aload_n hx hb dc_Mo_170 rfl (lv_at hl 0 rfl) ?_
  refine lv_bipush (v := 40) hx hb dc_Mo_171 (by decide) ?_
  refine va_newa (atype := .int) (ty := .int) (N' := 40) (a0 := (40, .inl (fun _ => 0))) hx hb (hts _ tx_1_52) rfl hK hP hD hS hA (fun _ => rfl) (by decide) (by decide) (by decide) (Nat.le_of_ble_eq_true rfl) (Nat.le_of_ble_eq_true rfl) dc_Mo_173 (fun q12 cA H hK1 hP hD hS => ?_)
  have eA : cA = cI := Option.some.inj ((va_nm_int (hK1.2 2 _ rfl).2).symm.trans (va_nm_int (hK.2 0 _ rfl).2))
  rw [eA] at hP hD
  have hP : va_P D cl_all [(h0, .inr (6, [.int 0, .int 0, .int (-1), .int 0, .int 1, .int 0, .int (-10), .int 0, .int 0, .int 0, .int (-1), .int 0, .int (-10), .int (-10), .int 0, .ref q1, .ref q2, .ref q3, .ref q4, .ref q5, .ref q6, .ref q7, .ref q8, .ref q9, .ref q10, .ref q11, .null, .null, .null, .null, .null, .null, .null, .null])), (q1, .inl (cI, 60, .inl (fun _ => 0))), (q2, .inl (cI, 60, .inl (fun _ => 0))), (q3, .inl (cI, 60, .inl (fun _ => 0))), (q4, .inl (cI, 60, .inl (fun _ => 0))), (q5, .inl (cI, 8, .inl (fun _ => 0))), (q6, .inl (cI, 8, .inl (fun _ => 0))), (q7, .inl (cZ, 60, .inl (fun _ => 0))), (q8, .inl (cZ, 60, .inl (fun _ => 0))), (q9, .inl (cI, 60, .inl (fun _ => 0))), (q10, .inl (cI, 60, .inl (fun _ => 0))), (q11, .inl (cI, 60, .inl (fun _ => 0))), (q12, .inl (cI, 40, .inl (fun _ => 0)))] H := hP
  have hD : va_D A [(h0, .inr (6, [.int 0, .int 0, .int (-1), .int 0, .int 1, .int 0, .int (-10), .int 0, .int 0, .int 0, .int (-1), .int 0, .int (-10), .int (-10), .int 0, .ref q1, .ref q2, .ref q3, .ref q4, .ref q5, .ref q6, .ref q7, .ref q8, .ref q9, .ref q10, .ref q11, .null, .null, .null, .null, .null, .null, .null, .null])), (q1, .inl (cI, 60, .inl (fun _ => 0))), (q2, .inl (cI, 60, .inl (fun _ => 0))), (q3, .inl (cI, 60, .inl (fun _ => 0))), (q4, .inl (cI, 60, .inl (fun _ => 0))), (q5, .inl (cI, 8, .inl (fun _ => 0))), (q6, .inl (cI, 8, .inl (fun _ => 0))), (q7, .inl (cZ, 60, .inl (fun _ => 0))), (q8, .inl (cZ, 60, .inl (fun _ => 0))), (q9, .inl (cI, 60, .inl (fun _ => 0))), (q10, .inl (cI, 60, .inl (fun _ => 0))), (q11, .inl (cI, 60, .inl (fun _ => 0))), (q12, .inl (cI, 40, .inl (fun _ => 0)))] := hD
  refine W.widen (k := 12) (n := 596) (by omega) (by omega) ?_
  refine va_putF (D := D) (ci := 6) (v := .ref q12) (ty := (.array .int)) (C := "ParserGeneratorModel") (T := ct_6) (N := 34) hx hb hts cw_6 cy_6 cd_6 cn_6 hown hK hP hD hS 0 rfl rfl 26 (by decide) (hts _ tx_3_9) (fun _ h9 => h9) rfl hin rfl (by decide +kernel) rfl rfl (Nat.le_of_ble_eq_true rfl) dc_Mo_175 (fun H locs hP hD hS => ?_)
  have hP : va_P D cl_all [(h0, .inr (6, [.int 0, .int 0, .int (-1), .int 0, .int 1, .int 0, .int (-10), .int 0, .int 0, .int 0, .int (-1), .int 0, .int (-10), .int (-10), .int 0, .ref q1, .ref q2, .ref q3, .ref q4, .ref q5, .ref q6, .ref q7, .ref q8, .ref q9, .ref q10, .ref q11, .ref q12, .null, .null, .null, .null, .null, .null, .null])), (q1, .inl (cI, 60, .inl (fun _ => 0))), (q2, .inl (cI, 60, .inl (fun _ => 0))), (q3, .inl (cI, 60, .inl (fun _ => 0))), (q4, .inl (cI, 60, .inl (fun _ => 0))), (q5, .inl (cI, 8, .inl (fun _ => 0))), (q6, .inl (cI, 8, .inl (fun _ => 0))), (q7, .inl (cZ, 60, .inl (fun _ => 0))), (q8, .inl (cZ, 60, .inl (fun _ => 0))), (q9, .inl (cI, 60, .inl (fun _ => 0))), (q10, .inl (cI, 60, .inl (fun _ => 0))), (q11, .inl (cI, 60, .inl (fun _ => 0))), (q12, .inl (cI, 40, .inl (fun _ => 0)))] H := hP
  have hD : va_D A [(h0, .inr (6, [.int 0, .int 0, .int (-1), .int 0, .int 1, .int 0, .int (-10), .int 0, .int 0, .int 0, .int (-1), .int 0, .int (-10), .int (-10), .int 0, .ref q1, .ref q2, .ref q3, .ref q4, .ref q5, .ref q6, .ref q7, .ref q8, .ref q9, .ref q10, .ref q11, .ref q12, .null, .null, .null, .null, .null, .null, .null])), (q1, .inl (cI, 60, .inl (fun _ => 0))), (q2, .inl (cI, 60, .inl (fun _ => 0))), (q3, .inl (cI, 60, .inl (fun _ => 0))), (q4, .inl (cI, 60, .inl (fun _ => 0))), (q5, .inl (cI, 8, .inl (fun _ => 0))), (q6, .inl (cI, 8, .inl (fun _ => 0))), (q7, .inl (cZ, 60, .inl (fun _ => 0))), (q8, .inl (cZ, 60, .inl (fun _ => 0))), (q9, .inl (cI, 60, .inl (fun _ => 0))), (q10, .inl (cI, 60, .inl (fun _ => 0))), (q11, .inl (cI, 60, .inl (fun _ => 0))), (q12, .inl (cI, 40, .inl (fun _ => 0)))] := hD
  refine lv_aload_n hx hb dc_Mo_178 rfl (lv_at hl 0 rfl) ?_
  refine lv_bipush (v := 120) hx hb dc_Mo_179 (by decide) ?_
  refine va_newa (atype := .int) (ty := .int) (N' := 120) (a0 := (120, .inl (fun _ => 0))) hx hb (hts _ tx_1_52) rfl hK hP hD hS hA (fun _ => rfl) (by decide) (by decide) (by decide) (Nat.le_of_ble_eq_true rfl) (Nat.le_of_ble_eq_true rfl) dc_Mo_181 (fun q13 cA H hK1 hP hD hS => ?_)
  have eA : cA = cI := Option.some.inj ((va_nm_int (hK1.2 2 _ rfl).2).symm.trans (va_nm_int (hK.2 0 _ rfl).2))
  rw [eA] at hP hD
  have hP : va_P D cl_all [(h0, .inr (6, [.int 0, .int 0, .int (-1), .int 0, .int 1, .int 0, .int (-10), .int 0, .int 0, .int 0, .int (-1), .int 0, .int (-10), .int (-10), .int 0, .ref q1, .ref q2, .ref q3, .ref q4, .ref q5, .ref q6, .ref q7, .ref q8, .ref q9, .ref q10, .ref q11, .ref q12, .null, .null, .null, .null, .null, .null, .null])), (q1, .inl (cI, 60, .inl (fun _ => 0))), (q2, .inl (cI, 60, .inl (fun _ => 0))), (q3, .inl (cI, 60, .inl (fun _ => 0))), (q4, .inl (cI, 60, .inl (fun _ => 0))), (q5, .inl (cI, 8, .inl (fun _ => 0))), (q6, .inl (cI, 8, .inl (fun _ => 0))), (q7, .inl (cZ, 60, .inl (fun _ => 0))), (q8, .inl (cZ, 60, .inl (fun _ => 0))), (q9, .inl (cI, 60, .inl (fun _ => 0))), (q10, .inl (cI, 60, .inl (fun _ => 0))), (q11, .inl (cI, 60, .inl (fun _ => 0))), (q12, .inl (cI, 40, .inl (fun _ => 0))), (q13, .inl (cI, 120, .inl (fun _ => 0)))] H := hP
  have hD : va_D A [(h0, .inr (6, [.int 0, .int 0, .int (-1), .int 0, .int 1, .int 0, .int (-10), .int 0, .int 0, .int 0, .int (-1), .int 0, .int (-10), .int (-10), .int 0, .ref q1, .ref q2, .ref q3, .ref q4, .ref q5, .ref q6, .ref q7, .ref q8, .ref q9, .ref q10, .ref q11, .ref q12, .null, .null, .null, .null, .null, .null, .null])), (q1, .inl (cI, 60, .inl (fun _ => 0))), (q2, .inl (cI, 60, .inl (fun _ => 0))), (q3, .inl (cI, 60, .inl (fun _ => 0))), (q4, .inl (cI, 60, .inl (fun _ => 0))), (q5, .inl (cI, 8, .inl (fun _ => 0))), (q6, .inl (cI, 8, .inl (fun _ => 0))), (q7, .inl (cZ, 60, .inl (fun _ => 0))), (q8, .inl (cZ, 60, .inl (fun _ => 0))), (q9, .inl (cI, 60, .inl (fun _ => 0))), (q10, .inl (cI, 60, .inl (fun _ => 0))), (q11, .inl (cI, 60, .inl (fun _ => 0))), (q12, .inl (cI, 40, .inl (fun _ => 0))), (q13, .inl (cI, 120, .inl (fun _ => 0)))] := hD
  refine W.widen (k := 13) (n := 716) (by omega) (by omega) ?_
  refine va_putF (D := D) (ci := 6) (v := .ref q13) (ty := (.array .int)) (C := "ParserGeneratorModel") (T := ct_6) (N := 34) hx hb hts cw_6 cy_6 cd_6 cn_6 hown hK hP hD hS 0 rfl rfl 27 (by decide) (hts _ tx_3_10) (fun _ h9 => h9) rfl hin rfl (by decide +kernel) rfl rfl (Nat.le_of_ble_eq_true rfl) dc_Mo_183 (fun H locs hP hD hS => ?_)
  have hP : va_P D cl_all [(h0, .inr (6, [.int 0, .int 0, .int (-1), .int 0, .int 1, .int 0, .int (-10), .int 0, .int 0, .int 0, .int (-1), .int 0, .int (-10), .int (-10), .int 0, .ref q1, .ref q2, .ref q3, .ref q4, .ref q5, .ref q6, .ref q7, .ref q8, .ref q9, .ref q10, .ref q11, .ref q12, .ref q13, .null, .null, .null, .null, .null, .null])), (q1, .inl (cI, 60, .inl (fun _ => 0))), (q2, .inl (cI, 60, .inl (fun _ => 0))), (q3, .inl (cI, 60, .inl (fun _ => 0))), (q4, .inl (cI, 60, .inl (fun _ => 0))), (q5, .inl (cI, 8, .inl (fun _ => 0))), (q6, .inl (cI, 8, .inl (fun _ => 0))), (q7, .inl (cZ, 60, .inl (fun _ => 0))), (q8, .inl (cZ, 60, .inl (fun _ => 0))), (q9, .inl (cI, 60, .inl (fun _ => 0))), (q10, .inl (cI, 60, .inl (fun _ => 0))), (q11, .inl (cI, 60, .inl (fun _ => 0))), (q12, .inl (cI, 40, .inl (fun _ => 0))), (q13, .inl (cI, 120, .inl (fun _ => 0)))] H := hP
  have hD : va_D A [(h0, .inr (6, [.int 0, .int 0, .int (-1), .int 0, .int 1, .int 0, .int (-10), .int 0, .int 0, .int 0, .int (-1), .int 0, .int (-10), .int (-10), .int 0, .ref q1, .ref q2, .ref q3, .ref q4, .ref q5, .ref q6, .ref q7, .ref q8, .ref q9, .ref q10, .ref q11, .ref q12, .ref q13, .null, .null, .null, .null, .null, .null])), (q1, .inl (cI, 60, .inl (fun _ => 0))), (q2, .inl (cI, 60, .inl (fun _ => 0))), (q3, .inl (cI, 60, .inl (fun _ => 0))), (q4, .inl (cI, 60, .inl (fun _ => 0))), (q5, .inl (cI, 8, .inl (fun _ => 0))), (q6, .inl (cI, 8, .inl (fun _ => 0))), (q7, .inl (cZ, 60, .inl (fun _ => 0))), (q8, .inl (cZ, 60, .inl (fun _ => 0))), (q9, .inl (cI, 60, .inl (fun _ => 0))), (q10, .inl (cI, 60, .inl (fun _ => 0))), (q11, .inl (cI, 60, .inl (fun _ => 0))), (q12, .inl (cI, 40, .inl (fun _ => 0))), (q13, .inl (cI, 120, .inl (fun _ => 0)))] := hD
  refine lv_aload_n hx hb dc_Mo_186 rfl (lv_at hl 0 rfl) ?_
  refine lv_bipush (v := 120) hx hb dc_Mo_187 (by decide) ?_
  refine va_newa (atype := .int) (ty := .int) (N' := 120) (a0 := (120, .inl (fun _ => 0))) hx hb (hts _ tx_1_52) rfl hK hP hD hS hA (fun _ => rfl) (by decide) (by decide) (by decide) (Nat.le_of_ble_eq_true rfl) (Nat.le_of_ble_eq_true rfl) dc_Mo_189 (fun q14 cA H hK1 hP hD hS => ?_)
  have eA : cA = cI := Option.some.inj ((va_nm_int (hK1.2 2 _ rfl).2).symm.trans (va_nm_int (hK.2 0 _ rfl).2))
  rw [eA] at hP hD
  have hP : va_P D cl_all [(h0, .inr (6, [.int 0, .int 0, .int (-1), .int 0, .int 1, .int 0, .int (-10), .int 0, .int 0, .int 0, .int (-1), .int 0, .int (-10), .int (-10), .int 0, .ref q1, .ref q2, .ref q3, .ref q4, .ref q5, .ref q6, .ref q7, .ref q8, .ref q9, .ref q10, .ref q11, .ref q12, .ref q13, .null, .null, .null, .null, .null, .null])), (q1, .inl (cI, 60, .inl (fun _ => 0))), (q2, .inl (cI, 60, .inl (fun _ => 0))), (q3, .inl (cI, 60, .inl (fun _ => 0))), (q4, .inl (cI, 60, .inl (fun _ => 0))), (q5, .inl (cI, 8, .inl (fun _ => 0))), (q6, .inl (cI, 8, .inl (fun _ => 0))), (q7, .inl (cZ, 60, .inl (fun _ => 0))), (q8, .inl (cZ, 60, .inl (fun _ => 0))), (q9, .inl (cI, 60, .inl (fun _ => 0))), (q10, .inl (cI, 60, .inl (fun _ => 0))), (q11, .inl (cI, 60, .inl (fun _ => 0))), (q12, .inl (cI, 40, .inl (fun _ => 0))), (q13, .inl (cI, 120, .inl (fun _ => 0))), (q14, .inl (cI, 120, .inl (fun _ => 0)))] H := hP
  have hD : va_D A [(h0, .inr (6, [.int 0, .int 0, .int (-1), .int 0, .int 1, .int 0, .int (-10), .int 0, .int 0, .int 0, .int (-1), .int 0, .int (-10), .int (-10), .int 0, .ref q1, .ref q2, .ref q3, .ref q4, .ref q5, .ref q6, .ref q7, .ref q8, .ref q9, .ref q10, .ref q11, .ref q12, .ref q13, .null, .null, .null, .null, .null, .null])), (q1, .inl (cI, 60, .inl (fun _ => 0))), (q2, .inl (cI, 60, .inl (fun _ => 0))), (q3, .inl (cI, 60, .inl (fun _ => 0))), (q4, .inl (cI, 60, .inl (fun _ => 0))), (q5, .inl (cI, 8, .inl (fun _ => 0))), (q6, .inl (cI, 8, .inl (fun _ => 0))), (q7, .inl (cZ, 60, .inl (fun _ => 0))), (q8, .inl (cZ, 60, .inl (fun _ => 0))), (q9, .inl (cI, 60, .inl (fun _ => 0))), (q10, .inl (cI, 60, .inl (fun _ => 0))), (q11, .inl (cI, 60, .inl (fun _ => 0))), (q12, .inl (cI, 40, .inl (fun _ => 0))), (q13, .inl (cI, 120, .inl (fun _ => 0))), (q14, .inl (cI, 120, .inl (fun _ => 0)))] := hD
  refine W.widen (k := 14) (n := 836) (by omega) (by omega) ?_
  refine va_putF (D := D) (ci := 6) (v := .ref q14) (ty := (.array .int)) (C := "ParserGeneratorModel") (T := ct_6) (N := 34) hx hb hts cw_6 cy_6 cd_6 cn_6 hown hK hP hD hS 0 rfl rfl 28 (by decide) (hts _ tx_3_11) (fun _ h9 => h9) rfl hin rfl (by decide +kernel) rfl rfl (Nat.le_of_ble_eq_true rfl) dc_Mo_191 (fun H locs hP hD hS => ?_)
  have hP : va_P D cl_all [(h0, .inr (6, [.int 0, .int 0, .int (-1), .int 0, .int 1, .int 0, .int (-10), .int 0, .int 0, .int 0, .int (-1), .int 0, .int (-10), .int (-10), .int 0, .ref q1, .ref q2, .ref q3, .ref q4, .ref q5, .ref q6, .ref q7, .ref q8, .ref q9, .ref q10, .ref q11, .ref q12, .ref q13, .ref q14, .null, .null, .null, .null, .null])), (q1, .inl (cI, 60, .inl (fun _ => 0))), (q2, .inl (cI, 60, .inl (fun _ => 0))), (q3, .inl (cI, 60, .inl (fun _ => 0))), (q4, .inl (cI, 60, .inl (fun _ => 0))), (q5, .inl (cI, 8, .inl (fun _ => 0))), (q6, .inl (cI, 8, .inl (fun _ => 0))), (q7, .inl (cZ, 60, .inl (fun _ => 0))), (q8, .inl (cZ, 60, .inl (fun _ => 0))), (q9, .inl (cI, 60, .inl (fun _ => 0))), (q10, .inl (cI, 60, .inl (fun _ => 0))), (q11, .inl (cI, 60, .inl (fun _ => 0))), (q12, .inl (cI, 40, .inl (fun _ => 0))), (q13, .inl (cI, 120, .inl (fun _ => 0))), (q14, .inl (cI, 120, .inl (fun _ => 0)))] H := hP
  have hD : va_D A [(h0, .inr (6, [.int 0, .int 0, .int (-1), .int 0, .int 1, .int 0, .int (-10), .int 0, .int 0, .int 0, .int (-1), .int 0, .int (-10), .int (-10), .int 0, .ref q1, .ref q2, .ref q3, .ref q4, .ref q5, .ref q6, .ref q7, .ref q8, .ref q9, .ref q10, .ref q11, .ref q12, .ref q13, .ref q14, .null, .null, .null, .null, .null])), (q1, .inl (cI, 60, .inl (fun _ => 0))), (q2, .inl (cI, 60, .inl (fun _ => 0))), (q3, .inl (cI, 60, .inl (fun _ => 0))), (q4, .inl (cI, 60, .inl (fun _ => 0))), (q5, .inl (cI, 8, .inl (fun _ => 0))), (q6, .inl (cI, 8, .inl (fun _ => 0))), (q7, .inl (cZ, 60, .inl (fun _ => 0))), (q8, .inl (cZ, 60, .inl (fun _ => 0))), (q9, .inl (cI, 60, .inl (fun _ => 0))), (q10, .inl (cI, 60, .inl (fun _ => 0))), (q11, .inl (cI, 60, .inl (fun _ => 0))), (q12, .inl (cI, 40, .inl (fun _ => 0))), (q13, .inl (cI, 120, .inl (fun _ => 0))), (q14, .inl (cI, 120, .inl (fun _ => 0)))] := hD
  refine lv_aload_n hx hb dc_Mo_194 rfl (lv_at hl 0 rfl) ?_
  refine lv_bipush (v := 120) hx hb dc_Mo_195 (by decide) ?_
  refine va_newa (atype := .int) (ty := .int) (N' := 120) (a0 := (120, .inl (fun _ => 0))) hx hb (hts _ tx_1_52) rfl hK hP hD hS hA (fun _ => rfl) (by decide) (by decide) (by decide) (Nat.le_of_ble_eq_true rfl) (Nat.le_of_ble_eq_true rfl) dc_Mo_197 (fun q15 cA H hK1 hP hD hS => ?_)
  have eA : cA = cI := Option.some.inj ((va_nm_int (hK1.2 2 _ rfl).2).symm.trans (va_nm_int (hK.2 0 _ rfl).2))
  rw [eA] at hP hD
  have hP : va_P D cl_all [(h0, .inr (6, [.int 0, .int 0, .int (-1), .int 0, .int 1, .int 0, .int (-10), .int 0, .int 0, .int 0, .int (-1), .int 0, .int (-10), .int (-10), .int 0, .ref q1, .ref q2, .ref q3, .ref q4, .ref q5, .ref q6, .ref q7, .ref q8, .ref q9, .ref q10, .ref q11, .ref q12, .ref q13, .ref q14, .null, .null, .null, .null, .null])), (q1, .inl (cI, 60, .inl (fun _ => 0))), (q2, .inl (cI, 60, .inl (fun _ => 0))), (q3, .inl (cI, 60, .inl (fun _ => 0))), (q4, .inl (cI, 60, .inl (fun _ => 0))), (q5, .inl (cI, 8, .inl (fun _ => 0))), (q6, .inl (cI, 8, .inl (fun _ => 0))), (q7, .inl (cZ, 60, .inl (fun _ => 0))), (q8, .inl (cZ, 60, .inl (fun _ => 0))), (q9, .inl (cI, 60, .inl (fun _ => 0))), (q10, .inl (cI, 60, .inl (fun _ => 0))), (q11, .inl (cI, 60, .inl (fun _ => 0))), (q12, .inl (cI, 40, .inl (fun _ => 0))), (q13, .inl (cI, 120, .inl (fun _ => 0))), (q14, .inl (cI, 120, .inl (fun _ => 0))), (q15, .inl (cI, 120, .inl (fun _ => 0)))] H := hP
  have hD : va_D A [(h0, .inr (6, [.int 0, .int 0, .int (-1), .int 0, .int 1, .int 0, .int (-10), .int 0, .int 0, .int 0, .int (-1), .int 0, .int (-10), .int (-10), .int 0, .ref q1, .ref q2, .ref q3, .ref q4, .ref q5, .ref q6, .ref q7, .ref q8, .ref q9, .ref q10, .ref q11, .ref q12, .ref q13, .ref q14, .null, .null, .null, .null, .null])), (q1, .inl (cI, 60, .inl (fun _ => 0))), (q2, .inl (cI, 60, .inl (fun _ => 0))), (q3, .inl (cI, 60, .inl (fun _ => 0))), (q4, .inl (cI, 60, .inl (fun _ => 0))), (q5, .inl (cI, 8, .inl (fun _ => 0))), (q6, .inl (cI, 8, .inl (fun _ => 0))), (q7, .inl (cZ, 60, .inl (fun _ => 0))), (q8, .inl (cZ, 60, .inl (fun _ => 0))), (q9, .inl (cI, 60, .inl (fun _ => 0))), (q10, .inl (cI, 60, .inl (fun _ => 0))), (q11, .inl (cI, 60, .inl (fun _ => 0))), (q12, .inl (cI, 40, .inl (fun _ => 0))), (q13, .inl (cI, 120, .inl (fun _ => 0))), (q14, .inl (cI, 120, .inl (fun _ => 0))), (q15, .inl (cI, 120, .inl (fun _ => 0)))] := hD
  refine W.widen (k := 15) (n := 956) (by omega) (by omega) ?_
  refine va_putF (D := D) (ci := 6) (v := .ref q15) (ty := (.array .int)) (C := "ParserGeneratorModel") (T := ct_6) (N := 34) hx hb hts cw_6 cy_6 cd_6 cn_6 hown hK hP hD hS 0 rfl rfl 29 (by decide) (hts _ tx_3_12) (fun _ h9 => h9) rfl hin rfl (by decide +kernel) rfl rfl (Nat.le_of_ble_eq_true rfl) dc_Mo_199 (fun H locs hP hD hS => ?_)
  have hP : va_P D cl_all [(h0, .inr (6, [.int 0, .int 0, .int (-1), .int 0, .int 1, .int 0, .int (-10), .int 0, .int 0, .int 0, .int (-1), .int 0, .int (-10), .int (-10), .int 0, .ref q1, .ref q2, .ref q3, .ref q4, .ref q5, .ref q6, .ref q7, .ref q8, .ref q9, .ref q10, .ref q11, .ref q12, .ref q13, .ref q14, .ref q15, .null, .null, .null, .null])), (q1, .inl (cI, 60, .inl (fun _ => 0))), (q2, .inl (cI, 60, .inl (fun _ => 0))), (q3, .inl (cI, 60, .inl (fun _ => 0))), (q4, .inl (cI, 60, .inl (fun _ => 0))), (q5, .inl (cI, 8, .inl (fun _ => 0))), (q6, .inl (cI, 8, .inl (fun _ => 0))), (q7, .inl (cZ, 60, .inl (fun _ => 0))), (q8, .inl (cZ, 60, .inl (fun _ => 0))), (q9, .inl (cI, 60, .inl (fun _ => 0))), (q10, .inl (cI, 60, .inl (fun _ => 0))), (q11, .inl (cI, 60, .inl (fun _ => 0))), (q12, .inl (cI, 40, .inl (fun _ => 0))), (q13, .inl (cI, 120, .inl (fun _ => 0))), (q14, .inl (cI, 120, .inl (fun _ => 0))), (q15, .inl (cI, 120, .inl (fun _ => 0)))] H := hP
  have hD : va_D A [(h0, .inr (6, [.int 0, .int 0, .int (-1), .int 0, .int 1, .int 0, .int (-10), .int 0, .int 0, .int 0, .int (-1), .int 0, .int (-10), .int (-10), .int 0, .ref q1, .ref q2, .ref q3, .ref q4, .ref q5, .ref q6, .ref q7, .ref q8, .ref q9, .ref q10, .ref q11, .ref q12, .ref q13, .ref q14, .ref q15, .null, .null, .null, .null])), (q1, .inl (cI, 60, .inl (fun _ => 0))), (q2, .inl (cI, 60, .inl (fun _ => 0))), (q3, .inl (cI, 60, .inl (fun _ => 0))), (q4, .inl (cI, 60, .inl (fun _ => 0))), (q5, .inl (cI, 8, .inl (fun _ => 0))), (q6, .inl (cI, 8, .inl (fun _ => 0))), (q7, .inl (cZ, 60, .inl (fun _ => 0))), (q8, .inl (cZ, 60, .inl (fun _ => 0))), (q9, .inl (cI, 60, .inl (fun _ => 0))), (q10, .inl (cI, 60, .inl (fun _ => 0))), (q11, .inl (cI, 60, .inl (fun _ => 0))), (q12, .inl (cI, 40, .inl (fun _ => 0))), (q13, .inl (cI, 120, .inl (fun _ => 0))), (q14, .inl (cI, 120, .inl (fun _ => 0))), (q15, .inl (cI, 120, .inl (fun _ => 0)))] := hD
  refine lv_aload_n hx hb dc_Mo_202 rfl (lv_at hl 0 rfl) ?_
  refine lv_bipush (v := 91) hx hb dc_Mo_203 (by decide) ?_
  refine va_newa (atype := .int) (ty := .int) (N' := 91) (a0 := (91, .inl (fun _ => 0))) hx hb (hts _ tx_1_52) rfl hK hP hD hS hA (fun _ => rfl) (by decide) (by decide) (by decide) (Nat.le_of_ble_eq_true rfl) (Nat.le_of_ble_eq_true rfl) dc_Mo_205 (fun q16 cA H hK1 hP hD hS => ?_)
  have eA : cA = cI := Option.some.inj ((va_nm_int (hK1.2 2 _ rfl).2).symm.trans (va_nm_int (hK.2 0 _ rfl).2))
  rw [eA] at hP hD
  have hP : va_P D cl_all [(h0, .inr (6, [.int 0, .int 0, .int (-1), .int 0, .int 1, .int 0, .int (-10), .int 0, .int 0, .int 0, .int (-1), .int 0, .int (-10), .int (-10), .int 0, .ref q1, .ref q2, .ref q3, .ref q4, .ref q5, .ref q6, .ref q7, .ref q8, .ref q9, .ref q10, .ref q11, .ref q12, .ref q13, .ref q14, .ref q15, .null, .null, .null, .null])), (q1, .inl (cI, 60, .inl (fun _ => 0))), (q2, .inl (cI, 60, .inl (fun _ => 0))), (q3, .inl (cI, 60, .inl (fun _ => 0))), (q4, .inl (cI, 60, .inl (fun _ => 0))), (q5, .inl (cI, 8, .inl (fun _ => 0))), (q6, .inl (cI, 8, .inl (fun _ => 0))), (q7, .inl (cZ, 60, .inl (fun _ => 0))), (q8, .inl (cZ, 60, .inl (fun _ => 0))), (q9, .inl (cI, 60, .inl (fun _ => 0))), (q10, .inl (cI, 60, .inl (fun _ => 0))), (q11, .inl (cI, 60, .inl (fun _ => 0))), (q12, .inl (cI, 40, .inl (fun _ => 0))), (q13, .inl (cI, 120, .inl (fun _ => 0))), (q14, .inl (cI, 120, .inl (fun _ => 0))), (q15, .inl (cI, 120, .inl (fun _ => 0))), (q16, .inl (cI, 91, .inl (fun _ => 0)))] H := hP
  have hD : va_D A [(h0, .inr (6, [.int 0, .int 0, .int (-1), .int 0, .int 1, .int 0, .int (-10), .int 0, .int 0, .int 0, .int (-1), .int 0, .int (-10), .int (-10), .int 0, .ref q1, .ref q2, .ref q3, .ref q4, .ref q5, .ref q6, .ref q7, .ref q8, .ref q9, .ref q10, .ref q11, .ref q12, .ref q13, .ref q14, .ref q15, .null, .null, .null, .null])), (q1, .inl (cI, 60, .inl (fun _ => 0))), (q2, .inl (cI, 60, .inl (fun _ => 0))), (q3, .inl (cI, 60, .inl (fun _ => 0))), (q4, .inl (cI, 60, .inl (fun _ => 0))), (q5, .inl (cI, 8, .inl (fun _ => 0))), (q6, .inl (cI, 8, .inl (fun _ => 0))), (q7, .inl (cZ, 60, .inl (fun _ => 0))), (q8, .inl (cZ, 60, .inl (fun _ => 0))), (q9, .inl (cI, 60, .inl (fun _ => 0))), (q10, .inl (cI, 60, .inl (fun _ => 0))), (q11, .inl (cI, 60, .inl (fun _ => 0))), (q12, .inl (cI, 40, .inl (fun _ => 0))), (q13, .inl (cI, 120, .inl (fun _ => 0))), (q14, .inl (cI, 120, .inl (fun _ => 0))), (q15, .inl (cI, 120, .inl (fun _ => 0))), (q16, .inl (cI, 91, .inl (fun _ => 0)))] := hD
  refine W.widen (k := 16) (n := 1047) (by omega) (by omega) ?_
  refine va_putF (D := D) (ci := 6) (v := .ref q16) (ty := (.array .int)) (C := "ParserGeneratorModel") (T := ct_6) (N := 34) hx hb hts cw_6 cy_6 cd_6 cn_6 hown hK hP hD hS 0 rfl rfl 30 (by decide) (hts _ tx_3_13) (fun _ h9 => h9) rfl hin rfl (by decide +kernel) rfl rfl (Nat.le_of_ble_eq_true rfl) dc_Mo_207 (fun H locs hP hD hS => ?_)
  have hP : va_P D cl_all [(h0, .inr (6, [.int 0, .int 0, .int (-1), .int 0, .int 1, .int 0, .int (-10), .int 0, .int 0, .int 0, .int (-1), .int 0, .int (-10), .int (-10), .int 0, .ref q1, .ref q2, .ref q3, .ref q4, .ref q5, .ref q6, .ref q7, .ref q8, .ref q9, .ref q10, .ref q11, .ref q12, .ref q13, .ref q14, .ref q15, .ref q16, .null, .null, .null])), (q1, .inl (cI, 60, .inl (fun _ => 0))), (q2, .inl (cI, 60, .inl (fun _ => 0))), (q3, .inl (cI, 60, .inl (fun _ => 0))), (q4, .inl (cI, 60, .inl (fun _ => 0))), (q5, .inl (cI, 8, .inl (fun _ => 0))), (q6, .inl (cI, 8, .inl (fun _ => 0))), (q7, .inl (cZ, 60, .inl (fun _ => 0))), (q8, .inl (cZ, 60, .inl (fun _ => 0))), (q9, .inl (cI, 60, .inl (fun _ => 0))), (q10, .inl (cI, 60, .inl (fun _ => 0))), (q11, .inl (cI, 60, .inl (fun _ => 0))), (q12, .inl (cI, 40, .inl (fun _ => 0))), (q13, .inl (cI, 120, .inl (fun _ => 0))), (q14, .inl (cI, 120, .inl (fun _ => 0))), (q15, .inl (cI, 120, .inl (fun _ => 0))), (q16, .inl (cI, 91, .inl (fun _ => 0)))] H := hP
  have hD : va_D A [(h0, .inr (6, [.int 0, .int 0, .int (-1), .int 0, .int 1, .int 0, .int (-10), .int 0, .int 0, .int 0, .int (-1), .int 0, .int (-10), .int (-10), .int 0, .ref q1, .ref q2, .ref q3, .ref q4, .ref q5, .ref q6, .ref q7, .ref q8, .ref q9, .ref q10, .ref q11, .ref q12, .ref q13, .ref q14, .ref q15, .ref q16, .null, .null, .null])), (q1, .inl (cI, 60, .inl (fun _ => 0))), (q2, .inl (cI, 60, .inl (fun _ => 0))), (q3, .inl (cI, 60, .inl (fun _ => 0))), (q4, .inl (cI, 60, .inl (fun _ => 0))), (q5, .inl (cI, 8, .inl (fun _ => 0))), (q6, .inl (cI, 8, .inl (fun _ => 0))), (q7, .inl (cZ, 60, .inl (fun _ => 0))), (q8, .inl (cZ, 60, .inl (fun _ => 0))), (q9, .inl (cI, 60, .inl (fun _ => 0))), (q10, .inl (cI, 60, .inl (fun _ => 0))), (q11, .inl (cI, 60, .inl (fun _ => 0))), (q12, .inl (cI, 40, .inl (fun _ => 0))), (q13, .inl (cI, 120, .inl (fun _ => 0))), (q14, .inl (cI, 120, .inl (fun _ => 0))), (q15, .inl (cI, 120, .inl (fun _ => 0))), (q16, .inl (cI, 91, .inl (fun _ => 0)))] := hD
  refine lv_aload_n hx hb dc_Mo_210 rfl (lv_at hl 0 rfl) ?_
  refine lv_bipush (v := 91) hx hb dc_Mo_211 (by decide) ?_
  refine va_newa (atype := .int) (ty := .int) (N' := 91) (a0 := (91, .inl (fun _ => 0))) hx hb (hts _ tx_1_52) rfl hK hP hD hS hA (fun _ => rfl) (by decide) (by decide) (by decide) (Nat.le_of_ble_eq_true rfl) (Nat.le_of_ble_eq_true rfl) dc_Mo_213 (fun q17 cA H hK1 hP hD hS => ?_)
  have eA : cA = cI := Option.some.inj ((va_nm_int (hK1.2 2 _ rfl).2).symm.trans (va_nm_int (hK.2 0 _ rfl).2))
  rw [eA] at hP hD
  have hP : va_P D cl_all [(h0, .inr (6, [.int 0, .int 0, .int (-1), .int 0, .int 1, .int 0, .int (-10), .int 0, .int 0, .int 0, .int (-1), .int 0, .int (-10), .int (-10), .int 0, .ref q1, .ref q2, .ref q3, .ref q4, .ref q5, .ref q6, .ref q7, .ref q8, .ref q9, .ref q10, .ref q11, .ref q12, .ref q13, .ref q14, .ref q15, .ref q16, .null, .null, .null])), (q1, .inl (cI, 60, .inl (fun _ => 0))), (q2, .inl (cI, 60, .inl (fun _ => 0))), (q3, .inl (cI, 60, .inl (fun _ => 0))), (q4, .inl (cI, 60, .inl (fun _ => 0))), (q5, .inl (cI, 8, .inl (fun _ => 0))), (q6, .inl (cI, 8, .inl (fun _ => 0))), (q7, .inl (cZ, 60, .inl (fun _ => 0))), (q8, .inl (cZ, 60, .inl (fun _ => 0))), (q9, .inl (cI, 60, .inl (fun _ => 0))), (q10, .inl (cI, 60, .inl (fun _ => 0))), (q11, .inl (cI, 60, .inl (fun _ => 0))), (q12, .inl (cI, 40, .inl (fun _ => 0))), (q13, .inl (cI, 120, .inl (fun _ => 0))), (q14, .inl (cI, 120, .inl (fun _ => 0))), (q15, .inl (cI, 120, .inl (fun _ => 0))), (q16, .inl (cI, 91, .inl (fun _ => 0))), (q17, .inl (cI, 91, .inl (fun _ => 0)))] H := hP
  have hD : va_D A [(h0, .inr (6, [.int 0, .int 0, .int (-1), .int 0, .int 1, .int 0, .int (-10), .int 0, .int 0, .int 0, .int (-1), .int 0, .int (-10), .int (-10), .int 0, .ref q1, .ref q2, .ref q3, .ref q4, .ref q5, .ref q6, .ref q7, .ref q8, .ref q9, .ref q10, .ref q11, .ref q12, .ref q13, .ref q14, .ref q15, .ref q16, .null, .null, .null])), (q1, .inl (cI, 60, .inl (fun _ => 0))), (q2, .inl (cI, 60, .inl (fun _ => 0))), (q3, .inl (cI, 60, .inl (fun _ => 0))), (q4, .inl (cI, 60, .inl (fun _ => 0))), (q5, .inl (cI, 8, .inl (fun _ => 0))), (q6, .inl (cI, 8, .inl (fun _ => 0))), (q7, .inl (cZ, 60, .inl (fun _ => 0))), (q8, .inl (cZ, 60, .inl (fun _ => 0))), (q9, .inl (cI, 60, .inl (fun _ => 0))), (q10, .inl (cI, 60, .inl (fun _ => 0))), (q11, .inl (cI, 60, .inl (fun _ => 0))), (q12, .inl (cI, 40, .inl (fun _ => 0))), (q13, .inl (cI, 120, .inl (fun _ => 0))), (q14, .inl (cI, 120, .inl (fun _ => 0))), (q15, .inl (cI, 120, .inl (fun _ => 0))), (q16, .inl (cI, 91, .inl (fun _ => 0))), (q17, .inl (cI, 91, .inl (fun _ => 0)))] := hD
  refine W.widen (k := 17) (n := 1138) (by omega) (by omega) ?_
  refine va_putF (D := D) (ci := 6) (v := .ref q17) (ty := (.array .int)) (C := "ParserGeneratorModel") (T := ct_6) (N := 34) hx hb hts cw_6 cy_6 cd_6 cn_6 hown hK hP hD hS 0 rfl rfl 31 (by decide) (hts _ tx_3_14) (fun _ h9 => h9) rfl hin rfl (by decide +kernel) rfl rfl (Nat.le_of_ble_eq_true rfl) dc_Mo_215 (fun H locs hP hD hS => ?_)
  have hP : va_P D cl_all [(h0, .inr (6, [.int 0, .int 0, .int (-1), .int 0, .int 1, .int 0, .int (-10), .int 0, .int 0, .int 0, .int (-1), .int 0, .int (-10), .int (-10), .int 0, .ref q1, .ref q2, .ref q3, .ref q4, .ref q5, .ref q6, .ref q7, .ref q8, .ref q9, .ref q10, .ref q11, .ref q12, .ref q13, .ref q14, .ref q15, .ref q16, .ref q17, .null, .null])), (q1, .inl (cI, 60, .inl (fun _ => 0))), (q2, .inl (cI, 60, .inl (fun _ => 0))), (q3, .inl (cI, 60, .inl (fun _ => 0))), (q4, .inl (cI, 60, .inl (fun _ => 0))), (q5, .inl (cI, 8, .inl (fun _ => 0))), (q6, .inl (cI, 8, .inl (fun _ => 0))), (q7, .inl (cZ, 60, .inl (fun _ => 0))), (q8, .inl (cZ, 60, .inl (fun _ => 0))), (q9, .inl (cI, 60, .inl (fun _ => 0))), (q10, .inl (cI, 60, .inl (fun _ => 0))), (q11, .inl (cI, 60, .inl (fun _ => 0))), (q12, .inl (cI, 40, .inl (fun _ => 0))), (q13, .inl (cI, 120, .inl (fun _ => 0))), (q14, .inl (cI, 120, .inl (fun _ => 0))), (q15, .inl (cI, 120, .inl (fun _ => 0))), (q16, .inl (cI, 91, .inl (fun _ => 0))), (q17, .inl (cI, 91, .inl (fun _ => 0)))] H := hP
  have hD : va_D A [(h0, .inr (6, [.int 0, .int 0, .int (-1), .int 0, .int 1, .int 0, .int (-10), .int 0, .int 0, .int 0, .int (-1), .int 0, .int (-10), .int (-10), .int 0, .ref q1, .ref q2, .ref q3, .ref q4, .ref q5, .ref q6, .ref q7, .ref q8, .ref q9, .ref q10, .ref q11, .ref q12, .ref q13, .ref q14, .ref q15, .ref q16, .ref q17, .null, .null])), (q1, .inl (cI, 60, .inl (fun _ => 0))), (q2, .inl (cI, 60, .inl (fun _ => 0))), (q3, .inl (cI, 60, .inl (fun _ => 0))), (q4, .inl (cI, 60, .inl (fun _ => 0))), (q5, .inl (cI, 8, .inl (fun _ => 0))), (q6, .inl (cI, 8, .inl (fun _ => 0))), (q7, .inl (cZ, 60, .inl (fun _ => 0))), (q8, .inl (cZ, 60, .inl (fun _ => 0))), (q9, .inl (cI, 60, .inl (fun _ => 0))), (q10, .inl (cI, 60, .inl (fun _ => 0))), (q11, .inl (cI, 60, .inl (fun _ => 0))), (q12, .inl (cI, 40, .inl (fun _ => 0))), (q13, .inl (cI, 120, .inl (fun _ => 0))), (q14, .inl (cI, 120, .inl (fun _ => 0))), (q15, .inl (cI, 120, .inl (fun _ => 0))), (q16, .inl (cI, 91, .inl (fun _ => 0))), (q17, .inl (cI, 91, .inl (fun _ => 0)))] := hD
  refine lv_aload_n hx hb dc_Mo_218 rfl (lv_at hl 0 rfl) ?_
  refine lv_bipush (v := 91) hx hb dc_Mo_219 (by decide) ?_
  refine va_newa (atype := .int) (ty := .int) (N' := 91) (a0 := (91, .inl (fun _ => 0))) hx hb (hts _ tx_1_52) rfl hK hP hD hS hA (fun _ => rfl) (by decide) (by decide) (by decide) (Nat.le_of_ble_eq_true rfl) (Nat.le_of_ble_eq_true rfl) dc_Mo_221 (fun q18 cA H hK1 hP hD hS => ?_)
  have eA : cA = cI := Option.some.inj ((va_nm_int (hK1.2 2 _ rfl).2).symm.trans (va_nm_int (hK.2 0 _ rfl).2))
  rw [eA] at hP hD
  have hP : va_P D cl_all [(h0, .inr (6, [.int 0, .int 0, .int (-1), .int 0, .int 1, .int 0, .int (-10), .int 0, .int 0, .int 0, .int (-1), .int 0, .int (-10), .int (-10), .int 0, .ref q1, .ref q2, .ref q3, .ref q4, .ref q5, .ref q6, .ref q7, .ref q8, .ref q9, .ref q10, .ref q11, .ref q12, .ref q13, .ref q14, .ref q15, .ref q16, .ref q17, .null, .null])), (q1, .inl (cI, 60, .inl (fun _ => 0))), (q2, .inl (cI, 60, .inl (fun _ => 0))), (q3, .inl (cI, 60, .inl (fun _ => 0))), (q4, .inl (cI, 60, .inl (fun _ => 0))), (q5, .inl (cI, 8, .inl (fun _ => 0))), (q6, .inl (cI, 8, .inl (fun _ => 0))), (q7, .inl (cZ, 60, .inl (fun _ => 0))), (q8, .inl (cZ, 60, .inl (fun _ => 0))), (q9, .inl (cI, 60, .inl (fun _ => 0))), (q10, .inl (cI, 60, .inl (fun _ => 0))), (q11, .inl (cI, 60, .inl (fun _ => 0))), (q12, .inl (cI, 40, .inl (fun _ => 0))), (q13, .inl (cI, 120, .inl (fun _ => 0))), (q14, .inl (cI, 120, .inl (fun _ => 0))), (q15, .inl (cI, 120, .inl (fun _ => 0))), (q16, .inl (cI, 91, .inl (fun _ => 0))), (q17, .inl (cI, 91, .inl (fun _ => 0))), (q18, .inl (cI, 91, .inl (fun _ => 0)))] H := hP
  have hD : va_D A [(h0, .inr (6, [.int 0, .int 0, .int (-1), .int 0, .int 1, .int 0, .int (-10), .int 0, .int 0, .int 0, .int (-1), .int 0, .int (-10), .int (-10), .int 0, .ref q1, .ref q2, .ref q3, .ref q4, .ref q5, .ref q6, .ref q7, .ref q8, .ref q9, .ref q10, .ref q11, .ref q12, .ref q13, .ref q14, .ref q15, .ref q16, .ref q17, .null, .null])), (q1, .inl (cI, 60, .inl (fun _ => 0))), (q2, .inl (cI, 60, .inl (fun _ => 0))), (q3, .inl (cI, 60, .inl (fun _ => 0))), (q4, .inl (cI, 60, .inl (fun _ => 0))), (q5, .inl (cI, 8, .inl (fun _ => 0))), (q6, .inl (cI, 8, .inl (fun _ => 0))), (q7, .inl (cZ, 60, .inl (fun _ => 0))), (q8, .inl (cZ, 60, .inl (fun _ => 0))), (q9, .inl (cI, 60, .inl (fun _ => 0))), (q10, .inl (cI, 60, .inl (fun _ => 0))), (q11, .inl (cI, 60, .inl (fun _ => 0))), (q12, .inl (cI, 40, .inl (fun _ => 0))), (q13, .inl (cI, 120, .inl (fun _ => 0))), (q14, .inl (cI, 120, .inl (fun _ => 0))), (q15, .inl (cI, 120, .inl (fun _ => 0))), (q16, .inl (cI, 91, .inl (fun _ => 0))), (q17, .inl (cI, 91, .inl (fun _ => 0))), (q18, .inl (cI, 91, .inl (fun _ => 0)))] := hD
  refine W.widen (k := 18) (n := 1229) (by omega) (by omega) ?_
  refine va_putF (D := D) (ci := 6) (v := .ref q18) (ty := (.array .int)) (C := "ParserGeneratorModel") (T := ct_6) (N := 34) hx hb hts cw_6 cy_6 cd_6 cn_6 hown hK hP hD hS 0 rfl rfl 32 (by decide) (hts _ tx_3_15) (fun _ h9 => h9) rfl hin rfl (by decide +kernel) rfl rfl (Nat.le_of_ble_eq_true rfl) dc_Mo_223 (fun H locs hP hD hS => ?_)
  have hP : va_P D cl_all [(h0, .inr (6, [.int 0, .int 0, .int (-1), .int 0, .int 1, .int 0, .int (-10), .int 0, .int 0, .int 0, .int (-1), .int 0, .int (-10), .int (-10), .int 0, .ref q1, .ref q2, .ref q3, .ref q4, .ref q5, .ref q6, .ref q7, .ref q8, .ref q9, .ref q10, .ref q11, .ref q12, .ref q13, .ref q14, .ref q15, .ref q16, .ref q17, .ref q18, .null])), (q1, .inl (cI, 60, .inl (fun _ => 0))), (q2, .inl (cI, 60, .inl (fun _ => 0))), (q3, .inl (cI, 60, .inl (fun _ => 0))), (q4, .inl (cI, 60, .inl (fun _ => 0))), (q5, .inl (cI, 8, .inl (fun _ => 0))), (q6, .inl (cI, 8, .inl (fun _ => 0))), (q7, .inl (cZ, 60, .inl (fun _ => 0))), (q8, .inl (cZ, 60, .inl (fun _ => 0))), (q9, .inl (cI, 60, .inl (fun _ => 0))), (q10, .inl (cI, 60, .inl (fun _ => 0))), (q11, .inl (cI, 60, .inl (fun _ => 0))), (q12, .inl (cI, 40, .inl (fun _ => 0))), (q13, .inl (cI, 120, .inl (fun _ => 0))), (q14, .inl (cI, 120, .inl (fun _ => 0))), (q15, .inl (cI, 120, .inl (fun _ => 0))), (q16, .inl (cI, 91, .inl (fun _ => 0))), (q17, .inl (cI, 91, .inl (fun _ => 0))), (q18, .inl (cI, 91, .inl (fun _ => 0)))] H := hP
  have hD : va_D A [(h0, .inr (6, [.int 0, .int 0, .int (-1), .int 0, .int 1, .int 0, .int (-10), .int 0, .int 0, .int 0, .int (-1), .int 0, .int (-10), .int (-10), .int 0, .ref q1, .ref q2, .ref q3, .ref q4, .ref q5, .ref q6, .ref q7, .ref q8, .ref q9, .ref q10, .ref q11, .ref q12, .ref q13, .ref q14, .ref q15, .ref q16, .ref q17, .ref q18, .null])), (q1, .inl (cI, 60, .inl (fun _ => 0))), (q2, .inl (cI, 60, .inl (fun _ => 0))), (q3, .inl (cI, 60, .inl (fun _ => 0))), (q4, .inl (cI, 60, .inl (fun _ => 0))), (q5, .inl (cI, 8, .inl (fun _ => 0))), (q6, .inl (cI, 8, .inl (fun _ => 0))), (q7, .inl (cZ, 60, .inl (fun _ => 0))), (q8, .inl (cZ, 60, .inl (fun _ => 0))), (q9, .inl (cI, 60, .inl (fun _ => 0))), (q10, .inl (cI, 60, .inl (fun _ => 0))), (q11, .inl (cI, 60, .inl (fun _ => 0))), (q12, .inl (cI, 40, .inl (fun _ => 0))), (q13, .inl (cI, 120, .inl (fun _ => 0))), (q14, .inl (cI, 120, .inl (fun _ => 0))), (q15, .inl (cI, 120, .inl (fun _ => 0))), (q16, .inl (cI, 91, .inl (fun _ => 0))), (q17, .inl (cI, 91, .inl (fun _ => 0))), (q18, .inl (cI, 91, .inl (fun _ => 0)))] := hD
  refine lv_aload_n hx hb dc_Mo_226 rfl (lv_at hl 0 rfl) ?_
  refine lv_bipush (v := 91) hx hb dc_Mo_227 (by decide) ?_
  refine va_newa (atype := .int) (ty := .int) (N' := 91) (a0 := (91, .inl (fun _ => 0))) hx hb (hts _ tx_1_52) rfl hK hP hD hS hA (fun _ => rfl) (by decide) (by decide) (by decide) (Nat.le_of_ble_eq_true rfl) (Nat.le_of_ble_eq_true rfl) dc_Mo_229 (fun q19 cA H hK1 hP hD hS => ?_)
  have eA : cA = cI := Option.some.inj ((va_nm_int (hK1.2 2 _ rfl).2).symm.trans (va_nm_int (hK.2 0 _ rfl).2))
  rw [eA] at hP hD
  have hP : va_P D cl_all [(h0, .inr (6, [.int 0, .int 0, .int (-1), .int 0, .int 1, .int 0, .int (-10), .int 0, .int 0, .int 0, .int (-1), .int 0, .int (-10), .int (-10), .int 0, .ref q1, .ref q2, .ref q3, .ref q4, .ref q5, .ref q6, .ref q7, .ref q8, .ref q9, .ref q10, .ref q11, .ref q12, .ref q13, .ref q14, .ref q15, .ref q16, .ref q17, .ref q18, .null])), (q1, .inl (cI, 60, .inl (fun _ => 0))), (q2, .inl (cI, 60, .inl (fun _ => 0))), (q3, .inl (cI, 60, .inl (fun _ => 0))), (q4, .inl (cI, 60, .inl (fun _ => 0))), (q5, .inl (cI, 8, .inl (fun _ => 0))), (q6, .inl (cI, 8, .inl (fun _ => 0))), (q7, .inl (cZ, 60, .inl (fun _ => 0))), (q8, .inl (cZ, 60, .inl (fun _ => 0))), (q9, .inl (cI, 60, .inl (fun _ => 0))), (q10, .inl (cI, 60, .inl (fun _ => 0))), (q11, .inl (cI, 60, .inl (fun _ => 0))), (q12, .inl (cI, 40, .inl (fun _ => 0))), (q13, .inl (cI, 120, .inl (fun _ => 0))), (q14, .inl (cI, 120, .inl (fun _ => 0))), (q15, .inl (cI, 120, .inl (fun _ => 0))), (q16, .inl (cI, 91, .inl (fun _ => 0))), (q17, .inl (cI, 91, .inl (fun _ => 0))), (q18, .inl (cI, 91, .inl (fun _ => 0))), (q19, .inl (cI, 91, .inl (fun _ => 0)))] H := hP
  have hD : va_D A [(h0, .inr (6, [.int 0, .int 0, .int (-1), .int 0, .int 1, .int 0, .int (-10), .int 0, .int 0, .int 0, .int (-1), .int 0, .int (-10), .int (-10), .int 0, .ref q1, .ref q2, .ref q3, .ref q4, .ref q5, .ref q6, .ref q7, .ref q8, .ref q9, .ref q10, .ref q11, .ref q12, .ref q13, .ref q14, .ref q15, .ref q16, .ref q17, .ref q18, .null])), (q1, .inl (cI, 60, .inl (fun _ => 0))), (q2, .inl (cI, 60, .inl (fun _ => 0))), (q3, .inl (cI, 60, .inl (fun _ => 0))), (q4, .inl (cI, 60, .inl (fun _ => 0))), (q5, .inl (cI, 8, .inl (fun _ => 0))), (q6, .inl (cI, 8, .inl (fun _ => 0))), (q7, .inl (cZ, 60, .inl (fun _ => 0))), (q8, .inl (cZ, 60, .inl (fun _ => 0))), (q9, .inl (cI, 60, .inl (fun _ => 0))), (q10, .inl (cI, 60, .inl (fun _ => 0))), (q11, .inl (cI, 60, .inl (fun _ => 0))), (q12, .inl (cI, 40, .inl (fun _ => 0))), (q13, .inl (cI, 120, .inl (fun _ => 0))), (q14, .inl (cI, 120, .inl (fun _ => 0))), (q15, .inl (cI, 120, .inl (fun _ => 0))), (q16, .inl (cI, 91, .inl (fun _ => 0))), (q17, .inl (cI, 91, .inl (fun _ => 0))), (q18, .inl (cI, 91, .inl (fun _ => 0))), (q19, .inl (cI, 91, .inl (fun _ => 0)))] := hD
  refine W.widen (k := 19) (n := 1320) (by omega) (by omega) ?_
  refine va_putF (D := D) (ci := 6) (v := .ref q19) (ty := (.array .int)) (C := "ParserGeneratorModel") (T := ct_6) (N := 34) hx hb hts cw_6 cy_6 cd_6 cn_6 hown hK hP hD hS 0 rfl rfl 33 (by decide) (hts _ tx_3_16) (fun _ h9 => h9) rfl hin rfl (by decide +kernel) rfl rfl (Nat.le_of_ble_eq_true rfl) dc_Mo_231 (fun H locs hP hD hS => ?_)
  have hP : va_P D cl_all [(h0, .inr (6, [.int 0, .int 0, .int (-1), .int 0, .int 1, .int 0, .int (-10), .int 0, .int 0, .int 0, .int (-1), .int 0, .int (-10), .int (-10), .int 0, .ref q1, .ref q2, .ref q3, .ref q4, .ref q5, .ref q6, .ref q7, .ref q8, .ref q9, .ref q10, .ref q11, .ref q12, .ref q13, .ref q14, .ref q15, .ref q16, .ref q17, .ref q18, .ref q19])), (q1, .inl (cI, 60, .inl (fun _ => 0))), (q2, .inl (cI, 60, .inl (fun _ => 0))), (q3, .inl (cI, 60, .inl (fun _ => 0))), (q4, .inl (cI, 60, .inl (fun _ => 0))), (q5, .inl (cI, 8, .inl (fun _ => 0))), (q6, .inl (cI, 8, .inl (fun _ => 0))), (q7, .inl (cZ, 60, .inl (fun _ => 0))), (q8, .inl (cZ, 60, .inl (fun _ => 0))), (q9, .inl (cI, 60, .inl (fun _ => 0))), (q10, .inl (cI, 60, .inl (fun _ => 0))), (q11, .inl (cI, 60, .inl (fun _ => 0))), (q12, .inl (cI, 40, .inl (fun _ => 0))), (q13, .inl (cI, 120, .inl (fun _ => 0))), (q14, .inl (cI, 120, .inl (fun _ => 0))), (q15, .inl (cI, 120, .inl (fun _ => 0))), (q16, .inl (cI, 91, .inl (fun _ => 0))), (q17, .inl (cI, 91, .inl (fun _ => 0))), (q18, .inl (cI, 91, .inl (fun _ => 0))), (q19, .inl (cI, 91, .inl (fun _ => 0)))] H := hP
  have hD : va_D A [(h0, .inr (6, [.int 0, .int 0, .int (-1), .int 0, .int 1, .int 0, .int (-10), .int 0, .int 0, .int 0, .int (-1), .int 0, .int (-10), .int (-10), .int 0, .ref q1, .ref q2, .ref q3, .ref q4, .ref q5, .ref q6, .ref q7, .ref q8, .ref q9, .ref q10, .ref q11, .ref q12, .ref q13, .ref q14, .ref q15, .ref q16, .ref q17, .ref q18, .ref q19])), (q1, .inl (cI, 60, .inl (fun _ => 0))), (q2, .inl (cI, 60, .inl (fun _ => 0))), (q3, .inl (cI, 60, .inl (fun _ => 0))), (q4, .inl (cI, 60, .inl (fun _ => 0))), (q5, .inl (cI, 8, .inl (fun _ => 0))), (q6, .inl (cI, 8, .inl (fun _ => 0))), (q7, .inl (cZ, 60, .inl (fun _ => 0))), (q8, .inl (cZ, 60, .inl (fun _ => 0))), (q9, .inl (cI, 60, .inl (fun _ => 0))), (q10, .inl (cI, 60, .inl (fun _ => 0))), (q11, .inl (cI, 60, .inl (fun _ => 0))), (q12, .inl (cI, 40, .inl (fun _ => 0))), (q13, .inl (cI, 120, .inl (fun _ => 0))), (q14, .inl (cI, 120, .inl (fun _ => 0))), (q15, .inl (cI, 120, .inl (fun _ => 0))), (q16, .inl (cI, 91, .inl (fun _ => 0))), (q17, .inl (cI, 91, .inl (fun _ => 0))), (q18, .inl (cI, 91, .inl (fun _ => 0))), (q19, .inl (cI, 91, .inl (fun _ => 0)))] := hD
  refine lv_iconst (v := 0) hx hb dc_Mo_234 (by decide) ?_
  refine lv_istore_n (lv' := [(1, .int 0), (0, .ref h0)]) hx hb dc_Mo_235 rfl hl (by decide) rfl (fun ls hl => ?_)
  refine lv_iload_n hx hb dc_Mo_236 rfl (lv_at hl 0 rfl) ?_
  refine lv_bipush (v := 8) hx hb dc_Mo_237 (by decide) ?_
  refine lv_icmp_ge (tgt := 255) hx hb dc_Mo_239 (by decide) (fun c9 => absurd c9 (by decide)) (fun _ => ?_)
  refine lv_aload_n hx hb dc_Mo_242 rfl (lv_at hl 1 rfl) ?_
  refine va_get (D := D) (ci := 6) (v := .ref q5) (C := "ParserGeneratorModel") (T := ct_6) (N := 34) hx hb hts cw_6 hown hK hP 0 rfl rfl 19 (by decide) (hts _ tx_3_2) (fun _ h9 => h9) rfl dc_Mo_243 ?_
  refine lv_iload_n hx hb dc_Mo_246 rfl (lv_at hl 0 rfl) ?_
  refine lv_iconst (v := (-1)) hx hb dc_Mo_247 (by decide) ?_
  refine va_iast hx hb hK hP hD hS 5 0 rfl rfl (show vp_in (nI 0) 8 from vp_in_nI (by omega) (by omega)) dc_Mo_248 (fun H locs hP hD hS => ?_)
  have hP : va_P D cl_all [(h0, .inr (6, [.int 0, .int 0, .int (-1), .int 0, .int 1, .int 0, .int (-10), .int 0, .int 0, .int 0, .int (-1), .int 0, .int (-10), .int (-10), .int 0, .ref q1, .ref q2, .ref q3, .ref q4, .ref q5, .ref q6, .ref q7, .ref q8, .ref q9, .ref q10, .ref q11, .ref q12, .ref q13, .ref q14, .ref q15, .ref q16, .ref q17, .ref q18, .ref q19])), (q1, .inl (cI, 60, .inl (fun _ => 0))), (q2, .inl (cI, 60, .inl (fun _ => 0))), (q3, .inl (cI, 60, .inl (fun _ => 0))), (q4, .inl (cI, 60, .inl (fun _ => 0))), (q5, .inl (cI, 8, .inl (upd (fun _ => 0) 0 (-1)))), (q6, .inl (cI, 8, .inl (fun _ => 0))), (q7, .inl (cZ, 60, .inl (fun _ => 0))), (q8, .inl (cZ, 60, .inl (fun _ => 0))), (q9, .inl (cI, 60, .inl (fun _ => 0))), (q10, .inl (cI, 60, .inl (fun _ => 0))), (q11, .inl (cI, 60, .inl (fun _ => 0))), (q12, .inl (cI, 40, .inl (fun _ => 0))), (q13, .inl (cI, 120, .inl (fun _ => 0))), (q14, .inl (cI, 120, .inl (fun _ => 0))), (q15, .inl (cI, 120, .inl (fun _ => 0))), (q16, .inl (cI, 91, .inl (fun _ => 0))), (q17, .inl (cI, 91, .inl (fun _ => 0))), (q18, .inl (cI, 91, .inl (fun _ => 0))), (q19, .inl (cI, 91, .inl (fun _ => 0)))] H := hP
  have hD : va_D A [(h0, .inr (6, [.int 0, .int 0, .int (-1), .int 0, .int 1, .int 0, .int (-10), .int 0, .int 0, .int 0, .int (-1), .int 0, .int (-10), .int (-10), .int 0, .ref q1, .ref q2, .ref q3, .ref q4, .ref q5, .ref q6, .ref q7, .ref q8, .ref q9, .ref q10, .ref q11, .ref q12, .ref q13, .ref q14, .ref q15, .ref q16, .ref q17, .ref q18, .ref q19])), (q1, .inl (cI, 60, .inl (fun _ => 0))), (q2, .inl (cI, 60, .inl (fun _ => 0))), (q3, .inl (cI, 60, .inl (fun _ => 0))), (q4, .inl (cI, 60, .inl (fun _ => 0))), (q5, .inl (cI, 8, .inl (upd (fun _ => 0) 0 (-1)))), (q6, .inl (cI, 8, .inl (fun _ => 0))), (q7, .inl (cZ, 60, .inl (fun _ => 0))), (q8, .inl (cZ, 60, .inl (fun _ => 0))), (q9, .inl (cI, 60, .inl (fun _ => 0))), (q10, .inl (cI, 60, .inl (fun _ => 0))), (q11, .inl (cI, 60, .inl (fun _ => 0))), (q12, .inl (cI, 40, .inl (fun _ => 0))), (q13, .inl (cI, 120, .inl (fun _ => 0))), (q14, .inl (cI, 120, .inl (fun _ => 0))), (q15, .inl (cI, 120, .inl (fun _ => 0))), (q16, .inl (cI, 91, .inl (fun _ => 0))), (q17, .inl (cI, 91, .inl (fun _ => 0))), (q18, .inl (cI, 91, .inl (fun _ => 0))), (q19, .inl (cI, 91, .inl (fun _ => 0)))] := hD
  obtain ⟨f1, ef1⟩ : ∃ g : Nat → Int32, g = upd (fun _ => 0) 0 (-1) := ⟨_, rfl⟩
  rw [← ef1] at hP hD
  refine lv_iinc (v := 1) (lv' := [(1, .int 1), (0, .ref h0)]) hx hb dc_Mo_249 hl (k := 0) rfl (by decide) (by decide) rfl (fun ls hl => ?_)
  refine lv_goto (tgt := 236) hx hb dc_Mo_252 (by decide) ?_
  refine lv_iload_n hx hb dc_Mo_236 rfl (lv_at hl 0 rfl) ?_
  refine lv_bipush (v := 8) hx hb dc_Mo_237 (by decide) ?_
  refine lv_icmp_ge (tgt := 255) hx hb dc_Mo_239 (by decide) (fun c9 => absurd c9 (by decide)) (fun _ => ?_)
  refine lv_aload_n hx hb dc_Mo_242 rfl (lv_at hl 1 rfl) ?_
  refine va_get (D := D) (ci := 6) (v := .ref q5) (C := "ParserGeneratorModel") (T := ct_6) (N := 34) hx hb hts cw_6 hown hK hP 0 rfl rfl 19 (by decide) (hts _ tx_3_2) (fun _ h9 => h9) rfl dc_Mo_243 ?_
  refine lv_iload_n hx hb dc_Mo_246 rfl (lv_at hl 0 rfl) ?_
  refine lv_iconst (v := (-1)) hx hb dc_Mo_247 (by decide) ?_
  refine va_iast hx hb hK hP hD hS 5 0 rfl rfl (show vp_in (nI 1) 8 from vp_in_nI (by omega) (by omega)) dc_Mo_248 (fun H locs hP hD hS => ?_)
  have hP : va_P D cl_all [(h0, .inr (6, [.int 0, .int 0, .int (-1), .int 0, .int 1, .int 0, .int (-10), .int 0, .int 0, .int 0, .int (-1), .int 0, .int (-10), .int (-10), .int 0, .ref q1, .ref q2, .ref q3, .ref q4, .ref q5, .ref q6, .ref q7, .ref q8, .ref q9, .ref q10, .ref q11, .ref q12, .ref q13, .ref q14, .ref q15, .ref q16, .ref q17, .ref q18, .ref q19])), (q1, .inl (cI, 60, .inl (fun _ => 0))), (q2, .inl (cI, 60, .inl (fun _ => 0))), (q3, .inl (cI, 60, .inl (fun _ => 0))), (q4, .inl (cI, 60, .inl (fun _ => 0))), (q5, .inl (cI, 8, .inl (upd f1 1 (-1)))), (q6, .inl (cI, 8, .inl (fun _ => 0))), (q7, .inl (cZ, 60, .inl (fun _ => 0))), (q8, .inl (cZ, 60, .inl (fun _ => 0))), (q9, .inl (cI, 60, .inl (fun _ => 0))), (q10, .inl (cI, 60, .inl (fun _ => 0))), (q11, .inl (cI, 60, .inl (fun _ => 0))), (q12, .inl (cI, 40, .inl (fun _ => 0))), (q13, .inl (cI, 120, .inl (fun _ => 0))), (q14, .inl (cI, 120, .inl (fun _ => 0))), (q15, .inl (cI, 120, .inl (fun _ => 0))), (q16, .inl (cI, 91, .inl (fun _ => 0))), (q17, .inl (cI, 91, .inl (fun _ => 0))), (q18, .inl (cI, 91, .inl (fun _ => 0))), (q19, .inl (cI, 91, .inl (fun _ => 0)))] H := hP
  have hD : va_D A [(h0, .inr (6, [.int 0, .int 0, .int (-1), .int 0, .int 1, .int 0, .int (-10), .int 0, .int 0, .int 0, .int (-1), .int 0, .int (-10), .int (-10), .int 0, .ref q1, .ref q2, .ref q3, .ref q4, .ref q5, .ref q6, .ref q7, .ref q8, .ref q9, .ref q10, .ref q11, .ref q12, .ref q13, .ref q14, .ref q15, .ref q16, .ref q17, .ref q18, .ref q19])), (q1, .inl (cI, 60, .inl (fun _ => 0))), (q2, .inl (cI, 60, .inl (fun _ => 0))), (q3, .inl (cI, 60, .inl (fun _ => 0))), (q4, .inl (cI, 60, .inl (fun _ => 0))), (q5, .inl (cI, 8, .inl (upd f1 1 (-1)))), (q6, .inl (cI, 8, .inl (fun _ => 0))), (q7, .inl (cZ, 60, .inl (fun _ => 0))), (q8, .inl (cZ, 60, .inl (fun _ => 0))), (q9, .inl (cI, 60, .inl (fun _ => 0))), (q10, .inl (cI, 60, .inl (fun _ => 0))), (q11, .inl (cI, 60, .inl (fun _ => 0))), (q12, .inl (cI, 40, .inl (fun _ => 0))), (q13, .inl (cI, 120, .inl (fun _ => 0))), (q14, .inl (cI, 120, .inl (fun _ => 0))), (q15, .inl (cI, 120, .inl (fun _ => 0))), (q16, .inl (cI, 91, .inl (fun _ => 0))), (q17, .inl (cI, 91, .inl (fun _ => 0))), (q18, .inl (cI, 91, .inl (fun _ => 0))), (q19, .inl (cI, 91, .inl (fun _ => 0)))] := hD
  obtain ⟨f2, ef2⟩ : ∃ g : Nat → Int32, g = upd f1 1 (-1) := ⟨_, rfl⟩
  rw [← ef2] at hP hD
  refine lv_iinc (v := 2) (lv' := [(1, .int 2), (0, .ref h0)]) hx hb dc_Mo_249 hl (k := 0) rfl (by decide) (by decide) rfl (fun ls hl => ?_)
  refine lv_goto (tgt := 236) hx hb dc_Mo_252 (by decide) ?_
  refine lv_iload_n hx hb dc_Mo_236 rfl (lv_at hl 0 rfl) ?_
  refine lv_bipush (v := 8) hx hb dc_Mo_237 (by decide) ?_
  refine lv_icmp_ge (tgt := 255) hx hb dc_Mo_239 (by decide) (fun c9 => absurd c9 (by decide)) (fun _ => ?_)
  refine lv_aload_n hx hb dc_Mo_242 rfl (lv_at hl 1 rfl) ?_
  refine va_get (D := D) (ci := 6) (v := .ref q5) (C := "ParserGeneratorModel") (T := ct_6) (N := 34) hx hb hts cw_6 hown hK hP 0 rfl rfl 19 (by decide) (hts _ tx_3_2) (fun _ h9 => h9) rfl dc_Mo_243 ?_
  refine lv_iload_n hx hb dc_Mo_246 rfl (lv_at hl 0 rfl) ?_
  refine lv_iconst (v := (-1)) hx hb dc_Mo_247 (by decide) ?_
  refine va_iast hx hb hK hP hD hS 5 0 rfl rfl (show vp_in (nI 2) 8 from vp_in_nI (by omega) (by omega)) dc_Mo_248 (fun H locs hP hD hS => ?_)
  have hP : va_P D cl_all [(h0, .inr (6, [.int 0, .int 0, .int (-1), .int 0, .int 1, .int 0, .int (-10), .int 0, .int 0, .int 0, .int (-1), .int 0, .int (-10), .int (-10), .int 0, .ref q1, .ref q2, .ref q3, .ref q4, .ref q5, .ref q6, .ref q7, .ref q8, .ref q9, .ref q10, .ref q11, .ref q12, .ref q13, .ref q14, .ref q15, .ref q16, .ref q17, .ref q18, .ref q19])), (q1, .inl (cI, 60, .inl (fun _ => 0))), (q2, .inl (cI, 60, .inl (fun _ => 0))), (q3, .inl (cI, 60, .inl (fun _ => 0))), (q4, .inl (cI, 60, .inl (fun _ => 0))), (q5, .inl (cI, 8, .inl (upd f2 2 (-1)))), (q6, .inl (cI, 8, .inl (fun _ => 0))), (q7, .inl (cZ, 60, .inl (fun _ => 0))), (q8, .inl (cZ, 60, .inl (fun _ => 0))), (q9, .inl (cI, 60, .inl (fun _ => 0))), (q10, .inl (cI, 60, .inl (fun _ => 0))), (q11, .inl (cI, 60, .inl (fun _ => 0))), (q12, .inl (cI, 40, .inl (fun _ => 0))), (q13, .inl (cI, 120, .inl (fun _ => 0))), (q14, .inl (cI, 120, .inl (fun _ => 0))), (q15, .inl (cI, 120, .inl (fun _ => 0))), (q16, .inl (cI, 91, .inl (fun _ => 0))), (q17, .inl (cI, 91, .inl (fun _ => 0))), (q18, .inl (cI, 91, .inl (fun _ => 0))), (q19, .inl (cI, 91, .inl (fun _ => 0)))] H := hP
  have hD : va_D A [(h0, .inr (6, [.int 0, .int 0, .int (-1), .int 0, .int 1, .int 0, .int (-10), .int 0, .int 0, .int 0, .int (-1), .int 0, .int (-10), .int (-10), .int 0, .ref q1, .ref q2, .ref q3, .ref q4, .ref q5, .ref q6, .ref q7, .ref q8, .ref q9, .ref q10, .ref q11, .ref q12, .ref q13, .ref q14, .ref q15, .ref q16, .ref q17, .ref q18, .ref q19])), (q1, .inl (cI, 60, .inl (fun _ => 0))), (q2, .inl (cI, 60, .inl (fun _ => 0))), (q3, .inl (cI, 60, .inl (fun _ => 0))), (q4, .inl (cI, 60, .inl (fun _ => 0))), (q5, .inl (cI, 8, .inl (upd f2 2 (-1)))), (q6, .inl (cI, 8, .inl (fun _ => 0))), (q7, .inl (cZ, 60, .inl (fun _ => 0))), (q8, .inl (cZ, 60, .inl (fun _ => 0))), (q9, .inl (cI, 60, .inl (fun _ => 0))), (q10, .inl (cI, 60, .inl (fun _ => 0))), (q11, .inl (cI, 60, .inl (fun _ => 0))), (q12, .inl (cI, 40, .inl (fun _ => 0))), (q13, .inl (cI, 120, .inl (fun _ => 0))), (q14, .inl (cI, 120, .inl (fun _ => 0))), (q15, .inl (cI, 120, .inl (fun _ => 0))), (q16, .inl (cI, 91, .inl (fun _ => 0))), (q17, .inl (cI, 91, .inl (fun _ => 0))), (q18, .inl (cI, 91, .inl (fun _ => 0))), (q19, .inl (cI, 91, .inl (fun _ => 0)))] := hD
  obtain ⟨f3, ef3⟩ : ∃ g : Nat → Int32, g = upd f2 2 (-1) := ⟨_, rfl⟩
  rw [← ef3] at hP hD
  refine lv_iinc (v := 3) (lv' := [(1, .int 3), (0, .ref h0)]) hx hb dc_Mo_249 hl (k := 0) rfl (by decide) (by decide) rfl (fun ls hl => ?_)
  refine lv_goto (tgt := 236) hx hb dc_Mo_252 (by decide) ?_
  refine lv_iload_n hx hb dc_Mo_236 rfl (lv_at hl 0 rfl) ?_
  refine lv_bipush (v := 8) hx hb dc_Mo_237 (by decide) ?_
  refine lv_icmp_ge (tgt := 255) hx hb dc_Mo_239 (by decide) (fun c9 => absurd c9 (by decide)) (fun _ => ?_)
  refine lv_aload_n hx hb dc_Mo_242 rfl (lv_at hl 1 rfl) ?_
  refine va_get (D := D) (ci := 6) (v := .ref q5) (C := "ParserGeneratorModel") (T := ct_6) (N := 34) hx hb hts cw_6 hown hK hP 0 rfl rfl 19 (by decide) (hts _ tx_3_2) (fun _ h9 => h9) rfl dc_Mo_243 ?_
  refine lv_iload_n hx hb dc_Mo_246 rfl (lv_at hl 0 rfl) ?_
  refine lv_iconst (v := (-1)) hx hb dc_Mo_247 (by decide) ?_
  refine va_iast hx hb hK hP hD hS 5 0 rfl rfl (show vp_in (nI 3) 8 from vp_in_nI (by omega) (by omega)) dc_Mo_248 (fun H locs hP hD hS => ?_)
  have hP : va_P D cl_all [(h0, .inr (6, [.int 0, .int 0, .int (-1), .int 0, .int 1, .int 0, .int (-10), .int 0, .int 0, .int 0, .int (-1), .int 0, .int (-10), .int (-10), .int 0, .ref q1, .ref q2, .ref q3, .ref q4, .ref q5, .ref q6, .ref q7, .ref q8, .ref q9, .ref q10, .ref q11, .ref q12, .ref q13, .ref q14, .ref q15, .ref q16, .ref q17, .ref q18, .ref q19])), (q1, .inl (cI, 60, .inl (fun _ => 0))), (q2, .inl (cI, 60, .inl (fun _ => 0))), (q3, .inl (cI, 60, .inl (fun _ => 0))), (q4, .inl (cI, 60, .inl (fun _ => 0))), (q5, .inl (cI, 8, .inl (upd f3 3 (-1)))), (q6, .inl (cI, 8, .inl (fun _ => 0))), (q7, .inl (cZ, 60, .inl (fun _ => 0))), (q8, .inl (cZ, 60, .inl (fun _ => 0))), (q9, .inl (cI, 60, .inl (fun _ => 0))), (q10, .inl (cI, 60, .inl (fun _ => 0))), (q11, .inl (cI, 60, .inl (fun _ => 0))), (q12, .inl (cI, 40, .inl (fun _ => 0))), (q13, .inl (cI, 120, .inl (fun _ => 0))), (q14, .inl (cI, 120, .inl (fun _ => 0))), (q15, .inl (cI, 120, .inl (fun _ => 0))), (q16, .inl (cI, 91, .inl (fun _ => 0))), (q17, .inl (cI, 91, .inl (fun _ => 0))), (q18, .inl (cI, 91, .inl (fun _ => 0))), (q19, .inl (cI, 91, .inl (fun _ => 0)))] H := hP
  have hD : va_D A [(h0, .inr (6, [.int 0, .int 0, .int (-1), .int 0, .int 1, .int 0, .int (-10), .int 0, .int 0, .int 0, .int (-1), .int 0, .int (-10), .int (-10), .int 0, .ref q1, .ref q2, .ref q3, .ref q4, .ref q5, .ref q6, .ref q7, .ref q8, .ref q9, .ref q10, .ref q11, .ref q12, .ref q13, .ref q14, .ref q15, .ref q16, .ref q17, .ref q18, .ref q19])), (q1, .inl (cI, 60, .inl (fun _ => 0))), (q2, .inl (cI, 60, .inl (fun _ => 0))), (q3, .inl (cI, 60, .inl (fun _ => 0))), (q4, .inl (cI, 60, .inl (fun _ => 0))), (q5, .inl (cI, 8, .inl (upd f3 3 (-1)))), (q6, .inl (cI, 8, .inl (fun _ => 0))), (q7, .inl (cZ, 60, .inl (fun _ => 0))), (q8, .inl (cZ, 60, .inl (fun _ => 0))), (q9, .inl (cI, 60, .inl (fun _ => 0))), (q10, .inl (cI, 60, .inl (fun _ => 0))), (q11, .inl (cI, 60, .inl (fun _ => 0))), (q12, .inl (cI, 40, .inl (fun _ => 0))), (q13, .inl (cI, 120, .inl (fun _ => 0))), (q14, .inl (cI, 120, .inl (fun _ => 0))), (q15, .inl (cI, 120, .inl (fun _ => 0))), (q16, .inl (cI, 91, .inl (fun _ => 0))), (q17, .inl (cI, 91, .inl (fun _ => 0))), (q18, .inl (cI, 91, .inl (fun _ => 0))), (q19, .inl (cI, 91, .inl (fun _ => 0)))] := hD
  obtain ⟨f4, ef4⟩ : ∃ g : Nat → Int32, g = upd f3 3 (-1) := ⟨_, rfl⟩
  rw [← ef4] at hP hD
  refine lv_iinc (v := 4) (lv' := [(1, .int 4), (0, .ref h0)]) hx hb dc_Mo_249 hl (k := 0) rfl (by decide) (by decide) rfl (fun ls hl => ?_)
  refine lv_goto (tgt := 236) hx hb dc_Mo_252 (by decide) ?_
  refine lv_iload_n hx hb dc_Mo_236 rfl (lv_at hl 0 rfl) ?_
  refine lv_bipush (v := 8) hx hb dc_Mo_237 (by decide) ?_
  refine lv_icmp_ge (tgt := 255) hx hb dc_Mo_239 (by decide) (fun c9 => absurd c9 (by decide)) (fun _ => ?_)
  refine lv_aload_n hx hb dc_Mo_242 rfl (lv_at hl 1 rfl) ?_
  refine va_get (D := D) (ci := 6) (v := .ref q5) (C := "ParserGeneratorModel") (T := ct_6) (N := 34) hx hb hts cw_6 hown hK hP 0 rfl rfl 19 (by decide) (hts _ tx_3_2) (fun _ h9 => h9) rfl dc_Mo_243 ?_
  refine lv_iload_n hx hb dc_Mo_246 rfl (lv_at hl 0 rfl) ?_
  refine lv_iconst (v := (-1)) hx hb dc_Mo_247 (by decide) ?_
  refine va_iast hx hb hK hP hD hS 5 0 rfl rfl (show vp_in (nI 4) 8 from vp_in_nI (by omega) (by omega)) dc_Mo_248 (fun H locs hP hD hS => ?_)
  have hP : va_P D cl_all [(h0, .inr (6, [.int 0, .int 0, .int (-1), .int 0, .int 1, .int 0, .int (-10), .int 0, .int 0, .int 0, .int (-1), .int 0, .int (-10), .int (-10), .int 0, .ref q1, .ref q2, .ref q3, .ref q4, .ref q5, .ref q6, .ref q7, .ref q8, .ref q9, .ref q10, .ref q11, .ref q12, .ref q13, .ref q14, .ref q15, .ref q16, .ref q17, .ref q18, .ref q19])), (q1, .inl (cI, 60, .inl (fun _ => 0))), (q2, .inl (cI, 60, .inl (fun _ => 0))), (q3, .inl (cI, 60, .inl (fun _ => 0))), (q4, .inl (cI, 60, .inl (fun _ => 0))), (q5, .inl (cI, 8, .inl (upd f4 4 (-1)))), (q6, .inl (cI, 8, .inl (fun _ => 0))), (q7, .inl (cZ, 60, .inl (fun _ => 0))), (q8, .inl (cZ, 60, .inl (fun _ => 0))), (q9, .inl (cI, 60, .inl (fun _ => 0))), (q10, .inl (cI, 60, .inl (fun _ => 0))), (q11, .inl (cI, 60, .inl (fun _ => 0))), (q12, .inl (cI, 40, .inl (fun _ => 0))), (q13, .inl (cI, 120, .inl (fun _ => 0))), (q14, .inl (cI, 120, .inl (fun _ => 0))), (q15, .inl (cI, 120, .inl (fun _ => 0))), (q16, .inl (cI, 91, .inl (fun _ => 0))), (q17, .inl (cI, 91, .inl (fun _ => 0))), (q18, .inl (cI, 91, .inl (fun _ => 0))), (q19, .inl (cI, 91, .inl (fun _ => 0)))] H := hP
  have hD : va_D A [(h0, .inr (6, [.int 0, .int 0, .int (-1), .int 0, .int 1, .int 0, .int (-10), .int 0, .int 0, .int 0, .int (-1), .int 0, .int (-10), .int (-10), .int 0, .ref q1, .ref q2, .ref q3, .ref q4, .ref q5, .ref q6, .ref q7, .ref q8, .ref q9, .ref q10, .ref q11, .ref q12, .ref q13, .ref q14, .ref q15, .ref q16, .ref q17, .ref q18, .ref q19])), (q1, .inl (cI, 60, .inl (fun _ => 0))), (q2, .inl (cI, 60, .inl (fun _ => 0))), (q3, .inl (cI, 60, .inl (fun _ => 0))), (q4, .inl (cI, 60, .inl (fun _ => 0))), (q5, .inl (cI, 8, .inl (upd f4 4 (-1)))), (q6, .inl (cI, 8, .inl (fun _ => 0))), (q7, .inl (cZ, 60, .inl (fun _ => 0))), (q8, .inl (cZ, 60, .inl (fun _ => 0))), (q9, .inl (cI, 60, .inl (fun _ => 0))), (q10, .inl (cI, 60, .inl (fun _ => 0))), (q11, .inl (cI, 60, .inl (fun _ => 0))), (q12, .inl (cI, 40, .inl (fun _ => 0))), (q13, .inl (cI, 120, .inl (fun _ => 0))), (q14, .inl (cI, 120, .inl (fun _ => 0))), (q15, .inl (cI, 120, .inl (fun _ => 0))), (q16, .inl (cI, 91, .inl (fun _ => 0))), (q17, .inl (cI, 91, .inl (fun _ => 0))), (q18, .inl (cI, 91, .inl (fun _ => 0))), (q19, .inl (cI, 91, .inl (fun _ => 0)))] := hD
  obtain ⟨f5, ef5⟩ : ∃ g : Nat → Int32, g = upd f4 4 (-1) := ⟨_, rfl⟩
  rw [← ef5] at hP hD
  refine lv_iinc (v := 5) (lv' := [(1, .int 5), (0, .ref h0)]) hx hb dc_Mo_249 hl (k := 0) rfl (by decide) (by decide) rfl (fun ls hl => ?_)
  refine lv_goto (tgt := 236) hx hb dc_Mo_252 (by decide) ?_
  refine lv_iload_n hx hb dc_Mo_236 rfl (lv_at hl 0 rfl) ?_
  refine lv_bipush (v := 8) hx hb dc_Mo_237 (by decide) ?_
  refine lv_icmp_ge (tgt := 255) hx hb dc_Mo_239 (by decide) (fun c9 => absurd c9 (by decide)) (fun _ => ?_)
  refine lv_aload_n hx hb dc_Mo_242 rfl (lv_at hl 1 rfl) ?_
  refine va_get (D := D) (ci := 6) (v := .ref q5) (C := "ParserGeneratorModel") (T := ct_6) (N := 34) hx hb hts cw_6 hown hK hP 0 rfl rfl 19 (by decide) (hts _ tx_3_2) (fun _ h9 => h9) rfl dc_Mo_243 ?_
  refine lv_iload_n hx hb dc_Mo_246 rfl (lv_at hl 0 rfl) ?_
  refine lv_iconst (v := (-1)) hx hb dc_Mo_247 (by decide) ?_
  refine va_iast hx hb hK hP hD hS 5 0 rfl rfl (show vp_in (nI 5) 8 from vp_in_nI (by omega) (by omega)) dc_Mo_248 (fun H locs hP hD hS => ?_)
  have hP : va_P D cl_all [(h0, .inr (6, [.int 0, .int 0, .int (-1), .int 0, .int 1, .int 0, .int (-10), .int 0, .int 0, .int 0, .int (-1), .int 0, .int (-10), .int (-10), .int 0, .ref q1, .ref q2, .ref q3, .ref q4, .ref q5, .ref q6, .ref q7, .ref q8, .ref q9, .ref q10, .ref q11, .ref q12, .ref q13, .ref q14, .ref q15, .ref q16, .ref q17, .ref q18, .ref q19])), (q1, .inl (cI, 60, .inl (fun _ => 0))), (q2, .inl (cI, 60, .inl (fun _ => 0))), (q3, .inl (cI, 60, .inl (fun _ => 0))), (q4, .inl (cI, 60, .inl (fun _ => 0))), (q5, .inl (cI, 8, .inl (upd f5 5 (-1)))), (q6, .inl (cI, 8, .inl (fun _ => 0))), (q7, .inl (cZ, 60, .inl (fun _ => 0))), (q8, .inl (cZ, 60, .inl (fun _ => 0))), (q9, .inl (cI, 60, .inl (fun _ => 0))), (q10, .inl (cI, 60, .inl (fun _ => 0))), (q11, .inl (cI, 60, .inl (fun _ => 0))), (q12, .inl (cI, 40, .inl (fun _ => 0))), (q13, .inl (cI, 120, .inl (fun _ => 0))), (q14, .inl (cI, 120, .inl (fun _ => 0))), (q15, .inl (cI, 120, .inl (fun _ => 0))), (q16, .inl (cI, 91, .inl (fun _ => 0))), (q17, .inl (cI, 91, .inl (fun _ => 0))), (q18, .inl (cI, 91, .inl (fun _ => 0))), (q19, .inl (cI, 91, .inl (fun _ => 0)))] H := hP
  have hD : va_D A [(h0, .inr (6, [.int 0, .int 0, .int (-1), .int 0, .int 1, .int 0, .int (-10), .int 0, .int 0, .int 0, .int (-1), .int 0, .int (-10), .int (-10), .int 0, .ref q1, .ref q2, .ref q3, .ref q4, .ref q5, .ref q6, .ref q7, .ref q8, .ref q9, .ref q10, .ref q11, .ref q12, .ref q13, .ref q14, .ref q15, .ref q16, .ref q17, .ref q18, .ref q19])), (q1, .inl (cI, 60, .inl (fun _ => 0))), (q2, .inl (cI, 60, .inl (fun _ => 0))), (q3, .inl (cI, 60, .inl (fun _ => 0))), (q4, .inl (cI, 60, .inl (fun _ => 0))), (q5, .inl (cI, 8, .inl (upd f5 5 (-1)))), (q6, .inl (cI, 8, .inl (fun _ => 0))), (q7, .inl (cZ, 60, .inl (fun _ => 0))), (q8, .inl (cZ, 60, .inl (fun _ => 0))), (q9, .inl (cI, 60, .inl (fun _ => 0))), (q10, .inl (cI, 60, .inl (fun _ => 0))), (q11, .inl (cI, 60, .inl (fun _ => 0))), (q12, .inl (cI, 40, .inl (fun _ => 0))), (q13, .inl (cI, 120, .inl (fun _ => 0))), (q14, .inl (cI, 120, .inl (fun _ => 0))), (q15, .inl (cI, 120, .inl (fun _ => 0))), (q16, .inl (cI, 91, .inl (fun _ => 0))), (q17, .inl (cI, 91, .inl (fun _ => 0))), (q18, .inl (cI, 91, .inl (fun _ => 0))), (q19, .inl (cI, 91, .inl (fun _ => 0)))] := hD
  obtain ⟨f6, ef6⟩ : ∃ g : Nat → Int32, g = upd f5 5 (-1) := ⟨_, rfl⟩
  rw [← ef6] at hP hD
  refine lv_iinc (v := 6) (lv' := [(1, .int 6), (0, .ref h0)]) hx hb dc_Mo_249 hl (k := 0) rfl (by decide) (by decide) rfl (fun ls hl => ?_)
  refine lv_goto (tgt := 236) hx hb dc_Mo_252 (by decide) ?_
  refine lv_iload_n hx hb dc_Mo_236 rfl (lv_at hl 0 rfl) ?_
  refine lv_bipush (v := 8) hx hb dc_Mo_237 (by decide) ?_
  refine lv_icmp_ge (tgt := 255) hx hb dc_Mo_239 (by decide) (fun c9 => absurd c9 (by decide)) (fun _ => ?_)
  refine lv_aload_n hx hb dc_Mo_242 rfl (lv_at hl 1 rfl) ?_
  refine va_get (D := D) (ci := 6) (v := .ref q5) (C := "ParserGeneratorModel") (T := ct_6) (N := 34) hx hb hts cw_6 hown hK hP 0 rfl rfl 19 (by decide) (hts _ tx_3_2) (fun _ h9 => h9) rfl dc_Mo_243 ?_
  refine lv_iload_n hx hb dc_Mo_246 rfl (lv_at hl 0 rfl) ?_
  refine lv_iconst (v := (-1)) hx hb dc_Mo_247 (by decide) ?_
  refine va_iast hx hb hK hP hD hS 5 0 rfl rfl (show vp_in (nI 6) 8 from vp_in_nI (by omega) (by omega)) dc_Mo_248 (fun H locs hP hD hS => ?_)
  have hP : va_P D cl_all [(h0, .inr (6, [.int 0, .int 0, .int (-1), .int 0, .int 1, .int 0, .int (-10), .int 0, .int 0, .int 0, .int (-1), .int 0, .int (-10), .int (-10), .int 0, .ref q1, .ref q2, .ref q3, .ref q4, .ref q5, .ref q6, .ref q7, .ref q8, .ref q9, .ref q10, .ref q11, .ref q12, .ref q13, .ref q14, .ref q15, .ref q16, .ref q17, .ref q18, .ref q19])), (q1, .inl (cI, 60, .inl (fun _ => 0))), (q2, .inl (cI, 60, .inl (fun _ => 0))), (q3, .inl (cI, 60, .inl (fun _ => 0))), (q4, .inl (cI, 60, .inl (fun _ => 0))), (q5, .inl (cI, 8, .inl (upd f6 6 (-1)))), (q6, .inl (cI, 8, .inl (fun _ => 0))), (q7, .inl (cZ, 60, .inl (fun _ => 0))), (q8, .inl (cZ, 60, .inl (fun _ => 0))), (q9, .inl (cI, 60, .inl (fun _ => 0))), (q10, .inl (cI, 60, .inl (fun _ => 0))), (q11, .inl (cI, 60, .inl (fun _ => 0))), (q12, .inl (cI, 40, .inl (fun _ => 0))), (q13, .inl (cI, 120, .inl (fun _ => 0))), (q14, .inl (cI, 120, .inl (fun _ => 0))), (q15, .inl (cI, 120, .inl (fun _ => 0))), (q16, .inl (cI, 91, .inl (fun _ => 0))), (q17, .inl (cI, 91, .inl (fun _ => 0))), (q18, .inl (cI, 91, .inl (fun _ => 0))), (q19, .inl (cI, 91, .inl (fun _ => 0)))] H := hP
  have hD : va_D A [(h0, .inr (6, [.int 0, .int 0, .int (-1), .int 0, .int 1, .int 0, .int (-10), .int 0, .int 0, .int 0, .int (-1), .int 0, .int (-10), .int (-10), .int 0, .ref q1, .ref q2, .ref q3, .ref q4, .ref q5, .ref q6, .ref q7, .ref q8, .ref q9, .ref q10, .ref q11, .ref q12, .ref q13, .ref q14, .ref q15, .ref q16, .ref q17, .ref q18, .ref q19])), (q1, .inl (cI, 60, .inl (fun _ => 0))), (q2, .inl (cI, 60, .inl (fun _ => 0))), (q3, .inl (cI, 60, .inl (fun _ => 0))), (q4, .inl (cI, 60, .inl (fun _ => 0))), (q5, .inl (cI, 8, .inl (upd f6 6 (-1)))), (q6, .inl (cI, 8, .inl (fun _ => 0))), (q7, .inl (cZ, 60, .inl (fun _ => 0))), (q8, .inl (cZ, 60, .inl (fun _ => 0))), (q9, .inl (cI, 60, .inl (fun _ => 0))), (q10, .inl (cI, 60, .inl (fun _ => 0))), (q11, .inl (cI, 60, .inl (fun _ => 0))), (q12, .inl (cI, 40, .inl (fun _ => 0))), (q13, .inl (cI, 120, .inl (fun _ => 0))), (q14, .inl (cI, 120, .inl (fun _ => 0))), (q15, .inl (cI, 120, .inl (fun _ => 0))), (q16, .inl (cI, 91, .inl (fun _ => 0))), (q17, .inl (cI, 91, .inl (fun _ => 0))), (q18, .inl (cI, 91, .inl (fun _ => 0))), (q19, .inl (cI, 91, .inl (fun _ => 0)))] := hD
  obtain ⟨f7, ef7⟩ : ∃ g : Nat → Int32, g = upd f6 6 (-1) := ⟨_, rfl⟩
  rw [← ef7] at hP hD
  refine lv_iinc (v := 7) (lv' := [(1, .int 7), (0, .ref h0)]) hx hb dc_Mo_249 hl (k := 0) rfl (by decide) (by decide) rfl (fun ls hl => ?_)
  refine lv_goto (tgt := 236) hx hb dc_Mo_252 (by decide) ?_
  refine lv_iload_n hx hb dc_Mo_236 rfl (lv_at hl 0 rfl) ?_
  refine lv_bipush (v := 8) hx hb dc_Mo_237 (by decide) ?_
  refine lv_icmp_ge (tgt := 255) hx hb dc_Mo_239 (by decide) (fun c9 => absurd c9 (by decide)) (fun _ => ?_)
  refine lv_aload_n hx hb dc_Mo_242 rfl (lv_at hl 1 rfl) ?_
  refine va_get (D := D) (ci := 6) (v := .ref q5) (C := "ParserGeneratorModel") (T := ct_6) (N := 34) hx hb hts cw_6 hown hK hP 0 rfl rfl 19 (by decide) (hts _ tx_3_2) (fun _ h9 => h9) rfl dc_Mo_243 ?_
  refine lv_iload_n hx hb dc_Mo_246 rfl (lv_at hl 0 rfl) ?_
  refine lv_iconst (v := (-1)) hx hb dc_Mo_247 (by decide) ?_
  refine va_iast hx hb hK hP hD hS 5 0 rfl rfl (show vp_in (nI 7) 8 from vp_in_nI (by omega) (by omega)) dc_Mo_248 (fun H locs hP hD hS => ?_)
  have hP : va_P D cl_all [(h0, .inr (6, [.int 0, .int 0, .int (-1), .int 0, .int 1, .int 0, .int (-10), .int 0, .int 0, .int 0, .int (-1), .int 0, .int (-10), .int (-10), .int 0, .ref q1, .ref q2, .ref q3, .ref q4, .ref q5, .ref q6, .ref q7, .ref q8, .ref q9, .ref q10, .ref q11, .ref q12, .ref q13, .ref q14, .ref q15, .ref q16, .ref q17, .ref q18, .ref q19])), (q1, .inl (cI, 60, .inl (fun _ => 0))), (q2, .inl (cI, 60, .inl (fun _ => 0))), (q3, .inl (cI, 60, .inl (fun _ => 0))), (q4, .inl (cI, 60, .inl (fun _ => 0))), (q5, .inl (cI, 8, .inl (upd f7 7 (-1)))), (q6, .inl (cI, 8, .inl (fun _ => 0))), (q7, .inl (cZ, 60, .inl (fun _ => 0))), (q8, .inl (cZ, 60, .inl (fun _ => 0))), (q9, .inl (cI, 60, .inl (fun _ => 0))), (q10, .inl (cI, 60, .inl (fun _ => 0))), (q11, .inl (cI, 60, .inl (fun _ => 0))), (q12, .inl (cI, 40, .inl (fun _ => 0))), (q13, .inl (cI, 120, .inl (fun _ => 0))), (q14, .inl (cI, 120, .inl (fun _ => 0))), (q15, .inl (cI, 120, .inl (fun _ => 0))), (q16, .inl (cI, 91, .inl (fun _ => 0))), (q17, .inl (cI, 91, .inl (fun _ => 0))), (q18, .inl (cI, 91, .inl (fun _ => 0))), (q19, .inl (cI, 91, .inl (fun _ => 0)))] H := hP
  have hD : va_D A [(h0, .inr (6, [.int 0, .int 0, .int (-1), .int 0, .int 1, .int 0, .int (-10), .int 0, .int 0, .int 0, .int (-1), .int 0, .int (-10), .int (-10), .int 0, .ref q1, .ref q2, .ref q3, .ref q4, .ref q5, .ref q6, .ref q7, .ref q8, .ref q9, .ref q10, .ref q11, .ref q12, .ref q13, .ref q14, .ref q15, .ref q16, .ref q17, .ref q18, .ref q19])), (q1, .inl (cI, 60, .inl (fun _ => 0))), (q2, .inl (cI, 60, .inl (fun _ => 0))), (q3, .inl (cI, 60, .inl (fun _ => 0))), (q4, .inl (cI, 60, .inl (fun _ => 0))), (q5, .inl (cI, 8, .inl (upd f7 7 (-1)))), (q6, .inl (cI, 8, .inl (fun _ => 0))), (q7, .inl (cZ, 60, .inl (fun _ => 0))), (q8, .inl (cZ, 60, .inl (fun _ => 0))), (q9, .inl (cI, 60, .inl (fun _ => 0))), (q10, .inl (cI, 60, .inl (fun _ => 0))), (q11, .inl (cI, 60, .inl (fun _ => 0))), (q12, .inl (cI, 40, .inl (fun _ => 0))), (q13, .inl (cI, 120, .inl (fun _ => 0))), (q14, .inl (cI, 120, .inl (fun _ => 0))), (q15, .inl (cI, 120, .inl (fun _ => 0))), (q16, .inl (cI, 91, .inl (fun _ => 0))), (q17, .inl (cI, 91, .inl (fun _ => 0))), (q18, .inl (cI, 91, .inl (fun _ => 0))), (q19, .inl (cI, 91, .inl (fun _ => 0)))] := hD
  obtain ⟨f8, ef8⟩ : ∃ g : Nat → Int32, g = upd f7 7 (-1) := ⟨_, rfl⟩
  rw [← ef8] at hP hD
  refine lv_iinc (v := 8) (lv' := [(1, .int 8), (0, .ref h0)]) hx hb dc_Mo_249 hl (k := 0) rfl (by decide) (by decide) rfl (fun ls hl => ?_)
  refine lv_goto (tgt := 236) hx hb dc_Mo_252 (by decide) ?_
  refine lv_iload_n hx hb dc_Mo_236 rfl (lv_at hl 0 rfl) ?_
  refine lv_bipush (v := 8) hx hb dc_Mo_237 (by decide) ?_
  refine lv_icmp_ge (tgt := 255) hx hb dc_Mo_239 (by decide) (fun _ => ?_) (fun c9 => absurd (by decide) c9)
  have hf : ∀ r, r < 8 → f8 r = -1 := by
    intro r hr
    rw [ef8, ef7, ef6, ef5, ef4, ef3, ef2, ef1]
    rcases (by omega : r = 0 ∨ r = 1 ∨ r = 2 ∨ r = 3 ∨ r = 4 ∨ r = 5 ∨ r = 6 ∨ r = 7) with h | h | h | h | h | h | h | h <;> subst h <;> simp [upd]
  refine W.widen (k := 19) (n := 1320) (Nat.le_refl _) (Nat.le_refl _) ?_
  exact W.vret hx hb hr (fun t ht hW => ⟨⟨(), rfl, trivial, q1, q2, q3, q4, q5, q6, q7, q8, q9, q10, q11, q12, q13, q14, q15, q16, q17, q18, q19, f8, hf, by rw [ht]; exact hP, va_K.moved hW.alike hK, hD⟩, hS.F ht⟩) hS.2.2 dc_Mo_255
