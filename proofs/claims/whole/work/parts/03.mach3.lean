def mm_Wp (p : Program) (l : Launch) (e : Env) (rm : Room) (s : State) (m : MethodId) (args : Array Value) (below : List Frame) (meth : Method) (c : Code) (D : va_G) (cl : List vw_C) (ad : Nat → Nat) (cI cZ : ClassId) (lay : List mm_R) (A : Nat → Prop) (nL : Nat) (Z : State → Prop) : mm_Kt :=
  fun pc L st M => ∀ (H : Heap) (locs : List Loc) (ls : Array Slot), va_P D cl (mm_W ad cI cZ lay M) H → va_D A (mm_W ad cI cZ lay M) → va_S A s.heap H locs → lv_has ls nL (mm_lv ad L) → W p l e rm s m args below meth c H locs 0 0 Z (F0 m pc ls (st.map (mm_val ad)))
theorem mm_fm_val (ad : Nat → Nat) (f : Nat → Int32) (k : Nat) (t : mm_F) : mm_val ad (mm_fm f k t) = mm_fv ad f k t := by rcases t with _ | _ | t <;> rfl
theorem mm_good {Tb : List Cond} (hg : mm_gd Tb) {me : mm_Y} (h : mm_cok Tb me) : GoodIn Tb (mm_ws Tb me) := by
  intro w hw
  rcases List.mem_cons.mp hw with rfl | hw
  · exact ⟨h.1, hg _ h.1⟩
  · exact ⟨hw, hg w hw⟩
theorem mm_vtl (ad : Nat → Nat) (v : Option mm_V) (rest : List mm_V) : (v.map (mm_val ad)).toList ++ rest.map (mm_val ad) = (v.toList ++ rest).map (mm_val ad) := by cases v <;> rfl
set_option maxHeartbeats 4000000 in
set_option maxRecDepth 100000 in
theorem mm_closed {p : Program} {l : Launch} {e : Env} {s : State} {m : MethodId} {args : Array Value} {below : List Frame} {meth : Method} {c : Code} {Pg : mm_P} {lay : List mm_R} {D : va_G} {cl : List vw_C} {tt : Nat → Nat → FieldType} {ad : Nat → Nat} {cI cZ : ClassId} {Tb Nb : List Cond} {me : mm_Y} {d j0 : Nat} {Q : mm_Qt}
    (hok : mm_ok Pg lay cl tt Tb Nb) (hme : Pg j0 = some me) (hx : p.tables.exec = Jvm.exec) (hb : c.code = me.2.2.1) (hml : c.maxLocals = me.2.2.2.1) (hr : meth.sig.returnType = me.2.2.2.2.1) (hlocks : meth.locks = false) (hown : s.vm.findClass me.1.cls = some m.cls)
    (hts : ∀ w ∈ Tb, w.before args s = true) (hnb : ∀ w ∈ Nb, va_Nw w s) (hK : va_K D cl [(cI, .int), (cZ, .boolean)] s)
    (ih : ∀ (j : Nat) (me' : mm_Y), Pg j = some me' → ∀ (a : List mm_V) (M : mm_M) (Q : mm_Qt), mm_Ev Pg lay d j a M Q → ∀ sz, 1 ≤ d ∧ Met l me'.1 (mm_ws Tb me') (mm_rm (d - 1)) (mm_Pc D cl Nb ad cI cZ lay a M sz) (mm_Qc D cl ad cI cZ lay Q (mm_A ad lay sz)) 0 0 (mm_A ad lay sz)) :
    ∀ pc L st M, mm_at Pg lay d (mm_Ev Pg lay d) me Q (mm_Wp p l e (mm_rm d) s m args below meth c D cl ad cI cZ lay (mm_A ad lay s.heap.size) me.2.2.2.1 (MQ below (mm_Qc D cl ad cI cZ lay Q (mm_A ad lay s.heap.size)) args s 0 0 (mm_A ad lay s.heap.size))) pc L st M →
      mm_Wp p l e (mm_rm d) s m args below meth c D cl ad cI cZ lay (mm_A ad lay s.heap.size) me.2.2.2.1 (MQ below (mm_Qc D cl ad cI cZ lay Q (mm_A ad lay s.heap.size)) args s 0 0 (mm_A ad lay s.heap.size)) pc L st M := by
  intro pc L st M h
  obtain ⟨hgd, hnd, hclok, hlayok, hpok⟩ := hok
  obtain ⟨r, hrow, hst⟩ := h
  have hmem := List.mem_of_find?_eq_some hrow
  have hpc := List.find?_some hrow
  obtain ⟨hdec, hlen, hrok⟩ := (hpok j0 me hme).2 r hmem
  obtain ⟨r1, ins, len, rx, ry⟩ := r
  simp only [beq_iff_eq] at hpc
  have hpc2 : pc = r1 := hpc.symm
  subst hpc2
  dsimp only at hdec hlen
  intro H locs ls hP hD hS hl
  have hAll : ∀ q, mm_A ad lay H.size q → mm_A ad lay s.heap.size q := by
    intro q hq
    rcases hq with hq | hq
    · exact Or.inl hq
    · exact Or.inr (Nat.le_trans hS.1 hq)
  cases ins <;> simp only [mm_step] at hst
  case iconst n => cases (by simp only [mm_len] at hlen; omega : len = 1); exact lv_iconst hx hb hdec rfl (hst H locs ls hP hD hS hl)
  case bipush n => cases (by simp only [mm_len] at hlen; omega : len = 2); exact lv_bipush hx hb hdec rfl (hst H locs ls hP hD hS hl)
  case sipush n => cases (by simp only [mm_len] at hlen; omega : len = 3); exact lv_sipush hx hb hdec rfl (hst H locs ls hP hD hS hl)
  case iload i => cases (by simp only [mm_len] at hlen; omega : len = 2); obtain ⟨x, hg, hk⟩ := hst; exact lv_iload hx hb hdec (mm_lv_at hl hg) (hk H locs ls hP hD hS hl)
  case iload_n i => cases (by simp only [mm_len] at hlen; omega : len = 1); obtain ⟨x, hg, hk⟩ := hst; exact lv_iload_n hx hb hdec rfl (mm_lv_at hl hg) (hk H locs ls hP hD hS hl)
  case aload i => cases (by simp only [mm_len] at hlen; omega : len = 2); obtain ⟨x, hg, hk⟩ := hst; exact lv_aload hx hb hdec (mm_lv_at hl hg) (hk H locs ls hP hD hS hl)
  case aload_n i => cases (by simp only [mm_len] at hlen; omega : len = 1); obtain ⟨x, hg, hk⟩ := hst; exact lv_aload_n hx hb hdec rfl (mm_lv_at hl hg) (hk H locs ls hP hD hS hl)
  case istore i => cases (by simp only [mm_len] at hlen; omega : len = 2); obtain ⟨x, st', rfl, hi, hk⟩ := hst; exact lv_istore hx hb hdec hl hi rfl (fun ls' hl' => hk H locs ls' hP hD hS (mm_lv_set (v := .inl x) hl'))
  case istore_n i => cases (by simp only [mm_len] at hlen; omega : len = 1); obtain ⟨x, st', rfl, hi, hk⟩ := hst; exact lv_istore_n hx hb hdec rfl hl hi rfl (fun ls' hl' => hk H locs ls' hP hD hS (mm_lv_set (v := .inl x) hl'))
  case astore i => cases (by simp only [mm_len] at hlen; omega : len = 2); obtain ⟨x, st', rfl, hi, hk⟩ := hst; exact lv_astore hx hb hdec hl hi rfl (fun ls' hl' => hk H locs ls' hP hD hS (mm_lv_set (v := .inr x) hl'))
  case astore_n i => cases (by simp only [mm_len] at hlen; omega : len = 1); obtain ⟨x, st', rfl, hi, hk⟩ := hst; exact lv_astore_n hx hb hdec rfl hl hi rfl (fun ls' hl' => hk H locs ls' hP hD hS (mm_lv_set (v := .inr x) hl'))
  case iinc i n => cases (by simp only [mm_len] at hlen; omega : len = 3); obtain ⟨x, hg, hi, hk⟩ := hst; obtain ⟨k, hk2⟩ := mm_lv_get hl hg; exact lv_iinc hx hb hdec hl hk2 rfl hi rfl (fun ls' hl' => hk H locs ls' hP hD hS (mm_lv_set (v := .inl (x + Int32.ofInt n)) hl'))
  case iadd => cases (by simp only [mm_len] at hlen; omega : len = 1); obtain ⟨x, y, st', rfl, hk⟩ := hst; exact lv_iadd hx hb hdec (hk H locs ls hP hD hS hl)
  case isub => cases (by simp only [mm_len] at hlen; omega : len = 1); obtain ⟨x, y, st', rfl, hk⟩ := hst; exact lv_isub hx hb hdec (hk H locs ls hP hD hS hl)
  case imul => cases (by simp only [mm_len] at hlen; omega : len = 1); obtain ⟨x, y, st', rfl, hk⟩ := hst; exact lv_imul hx hb hdec (hk H locs ls hP hD hS hl)
  case iand => cases (by simp only [mm_len] at hlen; omega : len = 1); obtain ⟨x, y, st', rfl, hk⟩ := hst; exact lv_iand hx hb hdec (hk H locs ls hP hD hS hl)
  case ior => cases (by simp only [mm_len] at hlen; omega : len = 1); obtain ⟨x, y, st', rfl, hk⟩ := hst; exact lv_ior hx hb hdec (hk H locs ls hP hD hS hl)
  case ixor => cases (by simp only [mm_len] at hlen; omega : len = 1); obtain ⟨x, y, st', rfl, hk⟩ := hst; exact lv_ixor hx hb hdec (hk H locs ls hP hD hS hl)
  case ishl => cases (by simp only [mm_len] at hlen; omega : len = 1); obtain ⟨x, y, st', rfl, hk⟩ := hst; exact lv_ishl hx hb hdec (hk H locs ls hP hD hS hl)
  case ishr => cases (by simp only [mm_len] at hlen; omega : len = 1); obtain ⟨x, y, st', rfl, hk⟩ := hst; exact lv_ishr hx hb hdec (hk H locs ls hP hD hS hl)
  case iushr => cases (by simp only [mm_len] at hlen; omega : len = 1); obtain ⟨x, y, st', rfl, hk⟩ := hst; exact lv_iushr hx hb hdec rfl (hk H locs ls hP hD hS hl)
  case ineg => cases (by simp only [mm_len] at hlen; omega : len = 1); obtain ⟨x, st', rfl, hk⟩ := hst; exact lv_ineg hx hb hdec (hk H locs ls hP hD hS hl)
  case dup => cases (by simp only [mm_len] at hlen; omega : len = 1); obtain ⟨v, st', rfl, hk⟩ := hst; exact lv_dup hx hb hdec (mm_cat1 ad v) (hk H locs ls hP hD hS hl)
  case pop => cases (by simp only [mm_len] at hlen; omega : len = 1); obtain ⟨v, st', rfl, hk⟩ := hst; exact lv_pop hx hb hdec (mm_cat1 ad v) (hk H locs ls hP hD hS hl)
  case dup_x1 => cases (by simp only [mm_len] at hlen; omega : len = 1); obtain ⟨v, w, st', rfl, hk⟩ := hst; exact lv_dup_x1 hx hb hdec (mm_cat1 ad v) (mm_cat1 ad w) (hk H locs ls hP hD hS hl)
  case dup_x2 => cases (by simp only [mm_len] at hlen; omega : len = 1); obtain ⟨v, w, u, st', rfl, hk⟩ := hst; exact lv_dup_x2 hx hb hdec (mm_cat1 ad v) (mm_cat1 ad w) (mm_cat1 ad u) (hk H locs ls hP hD hS hl)
  case dup2 => cases (by simp only [mm_len] at hlen; omega : len = 1); obtain ⟨v, w, st', rfl, hk⟩ := hst; exact lv_dup2_11 hx hb hdec (mm_cat1 ad v) (mm_cat1 ad w) (hk H locs ls hP hD hS hl)
  case ifCond cn off =>
    cases (by simp only [mm_len] at hlen; omega : len = 3)
    obtain ⟨x, st', tgt, rfl, ht, hk1, hk2⟩ := hst
    cases cn
    · exact lv_if_eq hx hb hdec ht (fun z => hk1 z H locs ls hP hD hS hl) (fun z => hk2 z H locs ls hP hD hS hl)
    · exact lv_if_ne hx hb hdec ht (fun z => hk1 z H locs ls hP hD hS hl) (fun z => hk2 (fun y => y z) H locs ls hP hD hS hl)
    · exact lv_if_lt hx hb hdec ht (fun z => hk1 z H locs ls hP hD hS hl) (fun z => hk2 z H locs ls hP hD hS hl)
    · exact lv_if_ge hx hb hdec ht (fun z => hk1 z H locs ls hP hD hS hl) (fun z => hk2 z H locs ls hP hD hS hl)
    · exact lv_if_gt hx hb hdec ht (fun z => hk1 z H locs ls hP hD hS hl) (fun z => hk2 z H locs ls hP hD hS hl)
    · exact lv_if_le hx hb hdec ht (fun z => hk1 z H locs ls hP hD hS hl) (fun z => hk2 z H locs ls hP hD hS hl)
  case if_icmp cn off =>
    cases (by simp only [mm_len] at hlen; omega : len = 3)
    obtain ⟨x, y, st', tgt, rfl, ht, hk1, hk2⟩ := hst
    cases cn
    · exact lv_icmp_eq hx hb hdec ht (fun z => hk1 z H locs ls hP hD hS hl) (fun z => hk2 z H locs ls hP hD hS hl)
    · exact lv_icmp_ne hx hb hdec ht (fun z => hk1 z H locs ls hP hD hS hl) (fun z => hk2 (fun y => y z) H locs ls hP hD hS hl)
    · exact lv_icmp_lt hx hb hdec ht (fun z => hk1 z H locs ls hP hD hS hl) (fun z => hk2 z H locs ls hP hD hS hl)
    · exact lv_icmp_ge hx hb hdec ht (fun z => hk1 z H locs ls hP hD hS hl) (fun z => hk2 z H locs ls hP hD hS hl)
    · exact lv_icmp_gt hx hb hdec ht (fun z => hk1 z H locs ls hP hD hS hl) (fun z => hk2 z H locs ls hP hD hS hl)
    · exact lv_icmp_le hx hb hdec ht (fun z => hk1 z H locs ls hP hD hS hl) (fun z => hk2 z H locs ls hP hD hS hl)
  case goto off => cases (by simp only [mm_len] at hlen; omega : len = 3); obtain ⟨tgt, ht, hk⟩ := hst; exact lv_goto hx hb hdec ht (hk H locs ls hP hD hS hl)
  case tableswitch df lo hi offs =>
    obtain ⟨x, st', rfl, hk1, hk2⟩ := hst
    by_cases h1 : x.toInt < lo ∨ hi < x.toInt
    · obtain ⟨tgt, ht, hk⟩ := hk1 h1
      exact lv_tableOut hx hb hdec h1 ht (hk H locs ls hP hD hS hl)
    · obtain ⟨off, tgt, ho, ht, hk⟩ := hk2 (fun z => h1 (Or.inl z)) (fun z => h1 (Or.inr z))
      exact lv_tableIn hx hb hdec (fun z => h1 (Or.inl z)) (fun z => h1 (Or.inr z)) ho ht (hk H locs ls hP hD hS hl)
  case lookupswitch df ps => obtain ⟨x, st', tgt, rfl, hp, ht, hk⟩ := hst; exact lv_lookup hx hb hdec hp rfl ht (hk H locs ls hP hD hS hl)
  case getfield idx =>
    cases (by simp only [mm_len] at hlen; omega : len = 3)
    obtain ⟨q, st', fl, f, rfl, hq, hf, hk⟩ := hst
    obtain ⟨⟨Cn, T, N⟩, hC, hkN, hfk⟩ := hrok
    have he : (mm_W ad cI cZ lay M)[q]? = some (ad q, .inr (rx, fl.mapIdx (fun j t => mm_fv ad (M q) j t))) := mm_W_at hq
    have hv : (fl.mapIdx (fun j t => mm_fv ad (M q) j t))[ry]? = some (mm_fv ad (M q) ry f) := by rw [List.getElem?_mapIdx, hf]; rfl
    have hk := hk H locs ls hP hD hS hl
    rw [List.map_cons, mm_fm_val] at hk
    rcases hfk with hfk | ⟨host, hfk⟩
    · exact va_get hx hb hts (hclok rx _ hC).1 hown hK hP q he hC ry hkN (hts _ hfk) (fun _ z => z) hv hdec hk
    · exact va_getN hx hb hts (hclok rx _ hC).1 hown hK hP q he hC ry hkN (va_Nw.use rfl (hnb _ hfk)) (fun _ z => z) hv hdec hk
  case putfield idx =>
    cases (by simp only [mm_len] at hlen; omega : len = 3)
    obtain ⟨q, x, st', fl, rfl, hq, hf, hk⟩ := hst
    obtain ⟨⟨Cn, T, N⟩, hC, hkN, hfk, hfin⟩ := hrok
    obtain ⟨C2, hC2, hfl, hty⟩ := hlayok q rx fl hq
    have he : (mm_W ad cI cZ lay M)[q]? = some (ad q, .inr (rx, fl.mapIdx (fun j t => mm_fv ad (M q) j t))) := mm_W_at hq
    have hnar : narrow (tt rx ry) (.int x) = .int x ∧ fits (tt rx ry) (.int x) = true := by
      rcases hf with hf | ⟨hf, hx01⟩
      · rw [(hty ry).1 hf]; exact ⟨rfl, rfl⟩
      · rw [(hty ry).2 hf]
        rcases hx01 with rfl | rfl
        · exact ⟨by decide, by decide⟩
        · exact ⟨by decide, by decide⟩
    have hlt : ry < fl.length := by rcases hf with hf | ⟨hf, -⟩ <;> exact (List.getElem?_eq_some_iff.mp hf).1
    have hset : (mm_W ad cI cZ lay M).set q (ad q, .inr (rx, (fl.mapIdx (fun j t => mm_fv ad (M q) j t)).set ry (.int x))) = mm_W ad cI cZ lay (mm_up M q ry x) := by
      refine mm_W_set hq mm_up_ne ?_
      rw [mm_up_at]
      show Sum.inr (rx, _) = Sum.inr (rx, _)
      rw [mm_fs_set (by rcases hf with hf | ⟨hf, -⟩; exact Or.inl hf; exact Or.inr hf)]
    rcases hfk with hfk | ⟨host, hfk⟩
    · exact va_put hx hb hts (hclok rx _ hC).1 (tt rx) (hclok rx _ hC).2.1 (hclok rx _ hC).2.2 hown hK hP hD hS q he hC ry hkN (hts _ hfk) (fun _ z => z) hfin ((hclok rx _ hC).2.1 ry hkN) hnar.1 hnar.2 (by simpa using hlt) hdec (fun H1 locs1 hP1 hD1 hS1 => hk H1 locs1 ls (by rw [← hset]; exact hP1) (mm_D_any hD) hS1 hl)
    · exact va_putN hx hb hts (hclok rx _ hC).1 (tt rx) (hclok rx _ hC).2.1 (hclok rx _ hC).2.2 hown hK hP hD hS q he hC ry hkN (va_Nw.use rfl (hnb _ hfk)) (fun _ z => z) hfin ((hclok rx _ hC).2.1 ry hkN) hnar.1 hnar.2 (by simpa using hlt) hdec (fun H1 locs1 hP1 hD1 hS1 => hk H1 locs1 ls (by rw [← hset]; exact hP1) (mm_D_any hD) hS1 hl)
  case iaload =>
    cases (by simp only [mm_len] at hlen; omega : len = 1)
    obtain ⟨q, n, i, st', rfl, hq, hin, hk⟩ := hst
    have he : (mm_W ad cI cZ lay M)[q]? = some (ad q, .inl (cI, n, .inl (M q))) := mm_W_at hq
    exact va_iald hx hb hK hP q 0 he rfl hin hdec (hk H locs ls hP hD hS hl)
  case baload =>
    cases (by simp only [mm_len] at hlen; omega : len = 1)
    obtain ⟨q, n, i, st', rfl, hq, hin, hk⟩ := hst
    have he : (mm_W ad cI cZ lay M)[q]? = some (ad q, .inl (cZ, n, .inl (M q))) := mm_W_at hq
    exact va_zald hx hb hK hP q 1 he rfl hin hdec (hk H locs ls hP hD hS hl)
  case iastore =>
    cases (by simp only [mm_len] at hlen; omega : len = 1)
    obtain ⟨q, n, i, x, st', rfl, hq, hin, hk⟩ := hst
    have he : (mm_W ad cI cZ lay M)[q]? = some (ad q, .inl (cI, n, .inl (M q))) := mm_W_at hq
    have hset : (mm_W ad cI cZ lay M).set q (ad q, .inl (cI, n, .inl (upd (M q) i.toNatClampNeg x))) = mm_W ad cI cZ lay (mm_up M q i.toNatClampNeg x) := by
      refine mm_W_set hq mm_up_ne ?_
      rw [mm_up_at]
      rfl
    exact va_iast hx hb hK hP hD hS q 0 he rfl hin hdec (fun H1 locs1 hP1 hD1 hS1 => hk H1 locs1 ls (by rw [← hset]; exact hP1) (mm_D_any hD) hS1 hl)
  case bastore =>
    cases (by simp only [mm_len] at hlen; omega : len = 1)
    obtain ⟨q, n, i, x, st', rfl, hq, hin, hk⟩ := hst
    have he : (mm_W ad cI cZ lay M)[q]? = some (ad q, .inl (cZ, n, .inl (M q))) := mm_W_at hq
    have hset : (mm_W ad cI cZ lay M).set q (ad q, .inl (cZ, n, .inl (upd (M q) i.toNatClampNeg (vp_nar .boolean x)))) = mm_W ad cI cZ lay (mm_up M q i.toNatClampNeg (vp_nar .boolean x)) := by
      refine mm_W_set hq mm_up_ne ?_
      rw [mm_up_at]
      rfl
    exact va_zast hx hb hK hP hD hS q 1 he rfl hin hdec (fun H1 locs1 hP1 hD1 hS1 => hk H1 locs1 ls (by rw [← hset]; exact hP1) (mm_D_any hD) hS1 hl)
  case arraylength =>
    cases (by simp only [mm_len] at hlen; omega : len = 1)
    obtain ⟨q, n, b, st', rfl, hq, hk⟩ := hst
    cases b
    · have he : (mm_W ad cI cZ lay M)[q]? = some (ad q, .inl (cI, n, .inl (M q))) := mm_W_at hq
      exact va_alen hx hb hK hP q 0 he (ty := .int) rfl rfl hdec (hk H locs ls hP hD hS hl)
    · have he : (mm_W ad cI cZ lay M)[q]? = some (ad q, .inl (cZ, n, .inl (M q))) := mm_W_at hq
      exact va_alen hx hb hK hP q 1 he (ty := .boolean) rfl rfl hdec (hk H locs ls hP hD hS hl)
  case invokevirtual idx =>
    cases (by simp only [mm_len] at hlen; omega : len = 3)
    obtain ⟨As, q, rest, me', fl, rfl, hn, hrest, hme', hq, hC⟩ := hst
    obtain ⟨me2, C, hme2, hcok, hcl, hcn, hins, hsel, hpar, hlk⟩ := hrok
    cases hme'.symm.trans hme2
    obtain ⟨hd1, hM⟩ := ih rx me' hme' (.inr q :: As) M _ hC H.size
    have he : (mm_W ad cI cZ lay M)[q]? = some (ad q, .inr (me'.2.1, fl.mapIdx (fun j t => mm_fv ad (M q) j t))) := mm_W_at hq
    have hR : (mm_rm (d - 1)).frames + 1 ≤ (mm_rm d).frames ∧ 8 + (me'.2.2.2.1 + 11) + (mm_rm (d - 1)).locals ≤ (mm_rm d).locals := by
      have := hcok.2.2.2
      simp only [mm_rm]
      omega
    have hrecv := va_recv hK hP hcl he
    rw [hcn] at hrecv
    have hp : PreV s H me'.1.cls (ad q) (mm_Pc D cl Nb ad cI cZ lay (.inr q :: As) M H.size) (As.map (mm_val ad)) := ⟨mm_blind hnd, hrecv, fun U hU hW => ⟨rfl, by rw [hU], by rw [hU]; exact hP, va_K.moved hW.alike hK, mm_Nw_warm hnd hW hnb, hD.weaken (fun _ _ _ _ => trivial)⟩⟩
    have hstk : (As.reverse ++ .inr q :: rest).map (mm_val ad) = (As.map (mm_val ad)).reverse ++ .ref (ad q) :: rest.map (mm_val ad) := by simp [mm_val]
    have hroom : 2 * (F0 m pc ls ((As.reverse ++ .inr q :: rest).map (mm_val ad))).monitorRoom + ((rest.map (mm_val ad)).map fun v => v.category).sum ≤ 8 := lv_room (by rw [mm_cats]; exact hrest)
    have kk : ∀ (v : Option mm_V) (M' : mm_M) (H1 : Heap) (locs1 : List Loc), mm_Wp p l e (mm_rm d) s m args below meth c D cl ad cI cZ lay (mm_A ad lay s.heap.size) me.2.2.2.1 (MQ below (mm_Qc D cl ad cI cZ lay Q (mm_A ad lay s.heap.size)) args s 0 0 (mm_A ad lay s.heap.size)) (pc + 3) L (v.toList ++ rest) M' → va_P D cl (mm_W ad cI cZ lay M') H1 → va_S (mm_A ad lay s.heap.size) s.heap H1 locs1 → W p l e (mm_rm d) s m args below meth c H1 locs1 0 0 (MQ below (mm_Qc D cl ad cI cZ lay Q (mm_A ad lay s.heap.size)) args s 0 0 (mm_A ad lay s.heap.size)) (F0 m (pc + 3) ls ((v.map (mm_val ad)).toList ++ rest.map (mm_val ad))) := by
      intro v M' H1 locs1 hq1 hP1 hS1
      rw [mm_vtl]
      exact hq1 H1 locs1 ls hP1 (mm_D_any hD) hS1 hl
    rcases hlk with hlk | ⟨host, hlk⟩
    · exact mm_call (va_runV (As := As.map (mm_val ad)) (rest := rest.map (mm_val ad)) (Ts := Tb) (own := me.1.cls) (n := ry) ⟨hx, hb, hml, hown, hts⟩ hM ⟨callB_of ry hts (mm_good hgd hcok) rfl rfl rfl (hts _ hcok.2.1) (hts _ hlk) ⟨hcok.2.2.1.1, hcok.2.2.1.2, hpar⟩ hR, hts _ hins, hts _ hsel⟩ hp rfl (by rw [List.length_map]; exact hn) hl.1 hstk hroom hdec ⟨Nat.le_refl _, Nat.le_refl _⟩) hS (fun q _ h => hAll q h) hAll kk
    · exact mm_call (va_runVN (As := As.map (mm_val ad)) (rest := rest.map (mm_val ad)) (Ts := Tb) (own := me.1.cls) (n := ry) ⟨hx, hb, hml, hown, hts⟩ hM ⟨va_cnB ry hts (mm_good hgd hcok) rfl rfl rfl (hnb _ hlk) (hts _ hcok.2.1) ⟨hcok.2.2.1.1, hcok.2.2.1.2, hpar⟩ hR, hts _ hins, hts _ hsel⟩ hp rfl (by rw [List.length_map]; exact hn) hl.1 hstk hroom hdec ⟨Nat.le_refl _, Nat.le_refl _⟩) hS (fun q _ h => hAll q h) hAll kk
  case invokestatic idx =>
    have hl3 : len = 3 := by simp only [mm_len] at hlen; omega
    subst hl3
    rcases hst with ⟨h0, x, y, st', rfl, hrest, hd1, hk⟩ | ⟨h0, a, b, na, nb, sp, dp, n, st', rfl, hrest, hd1, ha, hb2, e1, e2, e3, e4, e5, hk⟩ | ⟨h0, As, rest, me', rfl, hn, hrest, hme', hC⟩
    · rcases hrok with ⟨-, g1, g2, g3, g4⟩ | ⟨g0, -⟩ | ⟨g0, -⟩
      · refine va_mmax hx hb (hml.trans hl.1.symm) hown (hts _ g1) (hts _ g2) (hts _ g3) (hts _ g4) (by simp only [mm_rm]; omega) (by rw [mm_cats]; simp only [mm_rm]; omega) (Nat.le_refl _) (Nat.le_refl _) hdec ?_
        exact hk H locs ls hP hD hS hl
      · exact absurd g0 (by dsimp only at h0 ⊢; omega)
      · exact absurd g0 (by dsimp only at h0 ⊢; omega)
    · rcases hrok with ⟨g0, -⟩ | ⟨-, g1, g2, g3, g4⟩ | ⟨g0, -⟩
      · exact absurd g0 (by dsimp only at h0 ⊢; omega)
      · have hea : (mm_W ad cI cZ lay M)[a]? = some (ad a, .inl (cI, na, .inl (M a))) := mm_W_at ha
        have heb : (mm_W ad cI cZ lay M)[b]? = some (ad b, .inl (cI, nb, .inl (M b))) := mm_W_at hb2
        have hset : (mm_W ad cI cZ lay M).set b (ad b, .inl (cI, nb, .inl (va_cpy (M a) (M b) sp.toNatClampNeg dp.toNatClampNeg n.toNatClampNeg))) = mm_W ad cI cZ lay (mm_cp M a b sp.toNatClampNeg dp.toNatClampNeg n.toNatClampNeg) := by
          refine mm_W_set hb2 mm_cp_ne ?_
          rw [mm_cp_at]
          rfl
        refine va_copyi hx hb (hml.trans hl.1.symm) hown (hts _ g1) (hts _ g2) (hts _ g3) (hts _ g4) hK hP hD hS a b 0 0 hea heb (ty := .int) rfl rfl rfl e1 e2 e3 e4 e5 (fun _ _ => rfl) (by simp only [mm_rm]; omega) (by rw [mm_cats]; simp only [mm_rm]; have : nativeFrameWords "java/lang/System" "arraycopy" 5 ≤ 20 := (by decide); omega) hdec (fun H1 locs1 hP1 hD1 hS1 => ?_)
        exact hk H1 locs1 ls (by rw [← hset]; exact hP1) (mm_D_any hD) hS1 hl
      · exact absurd g0 (by dsimp only at h0 ⊢; omega)
    · rcases hrok with ⟨g0, -⟩ | ⟨g0, -⟩ | ⟨-, me2, hme2, hcok, hstt, hpar, hlk⟩
      · exact absurd g0 (by dsimp only at h0 ⊢; omega)
      · exact absurd g0 (by dsimp only at h0 ⊢; omega)
      cases hme'.symm.trans hme2
      obtain ⟨hd1, hM⟩ := ih rx me' hme' As M _ hC H.size
      have hR : (mm_rm (d - 1)).frames + 1 ≤ (mm_rm d).frames ∧ 8 + (me'.2.2.2.1 + 11) + (mm_rm (d - 1)).locals ≤ (mm_rm d).locals := by
        have := hcok.2.2.2
        simp only [mm_rm]
        omega
      have hp : PreS s H (mm_Pc D cl Nb ad cI cZ lay As M H.size) (As.map (mm_val ad)) := ⟨mm_blind hnd, fun U hU hW => ⟨rfl, by rw [hU], by rw [hU]; exact hP, va_K.moved hW.alike hK, mm_Nw_warm hnd hW hnb, hD.weaken (fun _ _ _ _ => trivial)⟩⟩
      have hstk : (As.reverse ++ rest).map (mm_val ad) = (As.map (mm_val ad)).reverse ++ rest.map (mm_val ad) := by simp
      have hroom : 2 * (F0 m pc ls ((As.reverse ++ rest).map (mm_val ad))).monitorRoom + ((rest.map (mm_val ad)).map fun v => v.category).sum ≤ 8 := lv_room (by rw [mm_cats]; exact hrest)
      have kk : ∀ (v : Option mm_V) (M' : mm_M) (H1 : Heap) (locs1 : List Loc), mm_Wp p l e (mm_rm d) s m args below meth c D cl ad cI cZ lay (mm_A ad lay s.heap.size) me.2.2.2.1 (MQ below (mm_Qc D cl ad cI cZ lay Q (mm_A ad lay s.heap.size)) args s 0 0 (mm_A ad lay s.heap.size)) (pc + 3) L (v.toList ++ rest) M' → va_P D cl (mm_W ad cI cZ lay M') H1 → va_S (mm_A ad lay s.heap.size) s.heap H1 locs1 → W p l e (mm_rm d) s m args below meth c H1 locs1 0 0 (MQ below (mm_Qc D cl ad cI cZ lay Q (mm_A ad lay s.heap.size)) args s 0 0 (mm_A ad lay s.heap.size)) (F0 m (pc + 3) ls ((v.map (mm_val ad)).toList ++ rest.map (mm_val ad))) := by
        intro v M' H1 locs1 hq1 hP1 hS1
        rw [mm_vtl]
        exact hq1 H1 locs1 ls hP1 (mm_D_any hD) hS1 hl
      rcases hlk with hlk | ⟨host, hlk⟩
      · exact mm_call (va_runS (As := As.map (mm_val ad)) (rest := rest.map (mm_val ad)) (Ts := Tb) (own := me.1.cls) (n := ry) ⟨hx, hb, hml, hown, hts⟩ hM ⟨callB_of ry hts (mm_good hgd hcok) rfl rfl rfl (hts _ hcok.2.1) (hts _ hlk) ⟨hcok.2.2.1.1, hcok.2.2.1.2, hpar⟩ hR, hts _ hstt⟩ hp rfl (by rw [List.length_map]; exact hn) hl.1 hstk hroom hdec ⟨Nat.le_refl _, Nat.le_refl _⟩) hS (fun q _ h => hAll q h) hAll kk
      · exact mm_call (va_runSN (As := As.map (mm_val ad)) (rest := rest.map (mm_val ad)) (Ts := Tb) (own := me.1.cls) (n := ry) ⟨hx, hb, hml, hown, hts⟩ hM ⟨va_cnB ry hts (mm_good hgd hcok) rfl rfl rfl (hnb _ hlk) (hts _ hcok.2.1) ⟨hcok.2.2.1.1, hcok.2.2.1.2, hpar⟩ hR, hts _ hstt, trivial⟩ hp rfl (by rw [List.length_map]; exact hn) hl.1 hstk hroom hdec ⟨Nat.le_refl _, Nat.le_refl _⟩) hS (fun q _ h => hAll q h) hAll kk
  case ireturn =>
    cases (by simp only [mm_len] at hlen; omega : len = 1)
    obtain ⟨x, ty, rfl, hty, hx01, hQ⟩ := hst
    have hnar : narrow ty (.int x) = .int x := by
      rcases hx01 with rfl | ⟨rfl, hx01⟩
      · rfl
      · rcases hx01 with rfl | rfl <;> decide
    exact W.zret hx hb (hr.trans hty) hnar (fun t ht hW => ⟨⟨some (.inl x), M, rfl, hQ, by rw [ht]; exact hP⟩, hS.F ht⟩) hS.2.2 hdec hlocks
  case return_ =>
    cases (by simp only [mm_len] at hlen; omega : len = 1)
    obtain ⟨rfl, hty, hQ⟩ := hst
    exact W.vret hx hb (hr.trans hty) (fun t ht hW => ⟨⟨none, M, rfl, hQ, by rw [ht]; exact hP⟩, hS.F ht⟩) hS.2.2 hdec hlocks
set_option maxHeartbeats 1000000 in
/-- THE LITTLE MACHINE'S SOUNDNESS -/
theorem mm_sound {Pg : mm_P} {lay : List mm_R} {cl : List vw_C} {tt : Nat → Nat → FieldType} {Tb Nb : List Cond} (hok : mm_ok Pg lay cl tt Tb Nb) (l : Launch) (D : va_G) (ad : Nat → Nat) (cI cZ : ClassId) :
    ∀ (d j : Nat) (me : mm_Y), Pg j = some me → ∀ (a : List mm_V) (M : mm_M) (Q : mm_Qt), mm_Ev Pg lay d j a M Q → ∀ sz, 1 ≤ d ∧ Met l me.1 (mm_ws Tb me) (mm_rm (d - 1)) (mm_Pc D cl Nb ad cI cZ lay a M sz) (mm_Qc D cl ad cI cZ lay Q (mm_A ad lay sz)) 0 0 (mm_A ad lay sz) := by
  intro d
  induction d with
  | zero => intro j me _ a M Q h; exact h.elim
  | succ d ih =>
    intro j me hme a M Q h sz
    obtain ⟨me2, h1, h2, h3⟩ := h
    cases hme.symm.trans h1
    refine ⟨Nat.succ_le_succ (Nat.zero_le _), ?_⟩
    refine Met.ofW (cc := me.2.2.1) (maxL := me.2.2.2.1) (ret := me.2.2.2.2.1) (hok.2.2.2.2 j me hme).1 rfl ?_
    intro p e s m args below meth c s₁ B hml hv
    obtain ⟨rfl, hsz, hP, hK, hN, hD0⟩ := hv
    have hts := atoms_spec (ws := mm_ws Tb me) B.pre
    subst hsz
    have hD : va_D (mm_A ad lay s.heap.size) (mm_W ad cI cZ lay M) := by
      refine ⟨hD0.1, fun k q hk => ?_⟩
      obtain ⟨r, hr, rfl⟩ := mm_W_inv hk
      exact Or.inl ⟨k, (List.getElem?_eq_some_iff.mp hr).1, rfl⟩
    have hl := lv_entry (a.map (mm_val ad)) (n := me.2.2.2.1) (by rw [mm_sl_len]; exact h2)
    rw [mm_args_lv] at hl
    rw [lg_entry_eq]
    exact h3 _ (mm_closed hok hme B.exec B.bytes hml B.returns B.notSynchronized (findClass_of_methodNamed B.named) (fun w hw => hts w (List.mem_cons_of_mem _ hw)) hN hK ih) s.heap [] _ hP hD va_S.rf hl
