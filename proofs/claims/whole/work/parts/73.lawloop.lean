set_option maxHeartbeats 8000000 in
set_option maxRecDepth 100000 in
/-- THE LAW'S LOOP: at its head, i ints of the script read, the two systems agree -/
theorem law_loop {p : Program} {l : Launch} {e : Env} {s : State} {m : MethodId} {below : List Frame} {meth : Method} {c : Code} {D : va_G} {ad : Nat → Nat} {cI cZ : ClassId} {b L : Nat} {xs : Nat → Int32} (hL : L ≤ 2048) (C0 : lw_At p s m meth c b L xs) (hK : va_K D cl_all [(cI, .int), (cZ, .boolean)] s) :
    ∀ (n i : Nat) (x3 : Int32), i ≤ L → L + 1 ≤ i + n → x3 = nI i → ∀ (M : mm_M) (H : Heap) (locs : List Loc), lw_inv M → va_P D cl_all (mm_W ad cI cZ ly M) H → va_D (fun q : Nat => s.heap.size ≤ q) (mm_W ad cI cZ ly M) → va_S (fun q : Nat => s.heap.size ≤ q) s.heap H locs → ∀ (ls : Array Slot), lv_has ls 4 [(0, .ref b), (1, .ref (ad 0)), (2, .ref (ad 21)), (3, .int x3)] → W p l e room_1 s m #[Value.ref b] below meth c H locs 41 2255 (lw_Z below #[Value.ref b] s) (F0 m 18 ls []) := by
  obtain ⟨hx, hb, hr, hml, hown, hts, hX, hbl, hlocks, hgv⟩ := C0
  have hbA : ¬ (fun q : Nat => s.heap.size ≤ q) b := Nat.not_le.mpr hbl
  have hts' : ∀ w ∈ tb_all, w.before #[Value.ref b] s = true := fun w h => hts w (List.mem_filter.mp h).1
  have hnb : ∀ w ∈ nb_all, va_Nw w s := fun w h => va_Nw.of (mm_Nw_on nb_nd h) (hts w (nb_in w h))
  intro n
  induction n with
  | zero => intro i x3 h1 h2; exact absurd h2 (by omega)
  | succ n ih =>
    intro i x3 hi hin ex M H locs hI hP hD hS ls hl
    subst ex
    refine lv_iload_n hx hb dl_18 rfl (lv_at hl 3 rfl) ?_
    refine lv_aload_n hx hb dl_19 rfl (lv_at hl 0 rfl) ?_
    refine va_slen hx hb hX hbl hbA hS dl_20 ?_
    refine lv_iconst (v := 4) hx hb dl_21 (by decide) ?_
    refine lv_isub hx hb dl_22 ?_
    refine lv_icmp_gt (tgt := 432) hx hb dl_23 (by decide) (fun c9 => ?_) (fun c9 => ?_)
    · refine lv_iconst (v := 1) hx hb dl_432 (by decide) ?_
      refine va_forget (fun q hq => hS.2.2 q hq) ?_
      refine W.widen (k := 600000) (n := 7302250) (by omega) (by omega) ?_
      exact lw_ret hx hb hr hlocks dl_433
    have hi4 : i + 4 ≤ L := lc_cmp hL hi c9
    have hend : ∀ (M : mm_M) (H : Heap) (locs : List Loc), lw_inv M → va_P D cl_all (mm_W ad cI cZ ly M) H → va_D (fun q : Nat => s.heap.size ≤ q) (mm_W ad cI cZ ly M) → va_S (fun q : Nat => s.heap.size ≤ q) s.heap H locs → ∀ (ls : Array Slot), lv_has ls 4 [(0, .ref b), (1, .ref (ad 0)), (2, .ref (ad 21)), (3, .int (nI i))] → W p l e room_1 s m #[Value.ref b] below meth c H locs 41 2255 (lw_Z below #[Value.ref b] s) (F0 m 426 ls []) := by
      intro M H locs hI hP hD hS ls hl
      refine lv_iinc (v := nI (i + 4)) (lv' := [(3, .int (nI (i + 4))), (0, .ref b), (1, .ref (ad 0)), (2, .ref (ad 21))]) hx hb dl_426 hl (k := 3) rfl (nI_add i 4) (by decide) rfl (fun ls hl => ?_)
      refine lv_goto (tgt := 18) hx hb dl_429 (by decide) ?_
      exact ih (i + 4) (nI (i + 4)) hi4 (by omega) rfl M H locs hI hP hD hS ls (lv_sub hl [1, 2, 3, 0] rfl)
    refine lv_aload_n hx hb dl_26 rfl (lv_at hl 0 rfl) ?_
    refine lv_iload_n hx hb dl_27 rfl (lv_at hl 3 rfl) ?_
    refine va_sld hx hb hX hbl hbA hS (vp_in_nI (by omega : i < L) (by omega)) dl_28 ?_
    refine lv_bipush (v := 15) hx hb dl_29 (by decide) ?_
    refine lv_iand hx hb dl_31 ?_
    refine lv_topi (fun y ey => ?_)
    obtain ⟨j, hj16, ej⟩ := lc_15 (xs (nI i).toNatClampNeg)
    obtain rfl : y = nI j := ey.trans ej
    rcases (by omega : j = 0 ∨ j = 1 ∨ j = 2 ∨ j = 3 ∨ j = 4 ∨ j = 5 ∨ j = 6 ∨ j = 7 ∨ j = 8 ∨ j = 9 ∨ j = 10 ∨ j = 11 ∨ j = 12 ∨ j = 13 ∨ j = 14 ∨ j = 15) with hj | hj | hj | hj | hj | hj | hj | hj | hj | hj | hj | hj | hj | hj | hj | hj
    · subst hj
      refine lv_tableIn (off := 72) (tgt := 104) hx hb dl_32 (by decide) (by decide) rfl (by decide) ?_
      refine lv_aload_n hx hb dl_104 rfl (lv_at hl 1 rfl) ?_
      refine lv_aload_n hx hb dl_105 rfl (lv_at hl 0 rfl) ?_
      refine lv_iload_n hx hb dl_106 rfl (lv_at hl 3 rfl) ?_
      refine lv_iconst (v := 1) hx hb dl_107 (by decide) ?_
      refine lv_iadd hx hb dl_108 ?_
      refine lv_topi (fun y ey => ?_)
      obtain rfl : y = nI (i + 1) := ey.trans (nI_add i 1)
      refine va_sld hx hb hX hbl hbA hS (vp_in_nI (by omega : i + 1 < L) (by omega)) dl_109 ?_
      refine lv_aload_n hx hb dl_110 rfl (lv_at hl 0 rfl) ?_
      refine lv_iload_n hx hb dl_111 rfl (lv_at hl 3 rfl) ?_
      refine lv_iconst (v := 2) hx hb dl_112 (by decide) ?_
      refine lv_iadd hx hb dl_113 ?_
      refine lv_topi (fun y ey => ?_)
      obtain rfl : y = nI (i + 2) := ey.trans (nI_add i 2)
      refine va_sld hx hb hX hbl hbA hS (vp_in_nI (by omega : i + 2 < L) (by omega)) dl_114 ?_
      refine lv_aload_n hx hb dl_115 rfl (lv_at hl 0 rfl) ?_
      refine lv_iload_n hx hb dl_116 rfl (lv_at hl 3 rfl) ?_
      refine lv_iconst (v := 3) hx hb dl_117 (by decide) ?_
      refine lv_iadd hx hb dl_118 ?_
      refine lv_topi (fun y ey => ?_)
      obtain rfl : y = nI (i + 3) := ey.trans (nI_add i 3)
      refine va_sld hx hb hX hbl hbA hS (vp_in_nI (by omega : i + 3 < L) (by omega)) dl_119 ?_
      refine lc_call lc_PG_node ⟨hx, hb, hml, hown, hts'⟩ hnb hK hP hD hS (As := [.inl (xs (nI (i + 1)).toNatClampNeg), .inl (xs (nI (i + 2)).toNatClampNeg), .inl (xs (nI (i + 3)).toNatClampNeg)]) (rest := []) (Nat.le_of_ble_eq_true rfl) rfl (q := 0) rfl (lw_node (by omega) hI) rfl hl.1 ⟨by omega, by omega⟩ dl_120 (fun v0 M1 H locs hQ hP hS => ?_)
      obtain ⟨v, rfl, Ev2⟩ := hQ
      have hD := mm_D_any (M' := M1) hD
      refine W.eq (g2 := F0 m 123 ls [.int v]) rfl ?_
      refine lv_aload_n hx hb dl_123 rfl (lv_at hl 2 rfl) ?_
      refine lv_aload_n hx hb dl_124 rfl (lv_at hl 0 rfl) ?_
      refine lv_iload_n hx hb dl_125 rfl (lv_at hl 3 rfl) ?_
      refine lv_iconst (v := 1) hx hb dl_126 (by decide) ?_
      refine lv_iadd hx hb dl_127 ?_
      refine lv_topi (fun y ey => ?_)
      obtain rfl : y = nI (i + 1) := ey.trans (nI_add i 1)
      refine va_sld hx hb hX hbl hbA hS (vp_in_nI (by omega : i + 1 < L) (by omega)) dl_128 ?_
      refine lv_aload_n hx hb dl_129 rfl (lv_at hl 0 rfl) ?_
      refine lv_iload_n hx hb dl_130 rfl (lv_at hl 3 rfl) ?_
      refine lv_iconst (v := 2) hx hb dl_131 (by decide) ?_
      refine lv_iadd hx hb dl_132 ?_
      refine lv_topi (fun y ey => ?_)
      obtain rfl : y = nI (i + 2) := ey.trans (nI_add i 2)
      refine va_sld hx hb hX hbl hbA hS (vp_in_nI (by omega : i + 2 < L) (by omega)) dl_133 ?_
      refine lv_aload_n hx hb dl_134 rfl (lv_at hl 0 rfl) ?_
      refine lv_iload_n hx hb dl_135 rfl (lv_at hl 3 rfl) ?_
      refine lv_iconst (v := 3) hx hb dl_136 (by decide) ?_
      refine lv_iadd hx hb dl_137 ?_
      refine lv_topi (fun y ey => ?_)
      obtain rfl : y = nI (i + 3) := ey.trans (nI_add i 3)
      refine va_sld hx hb hX hbl hbA hS (vp_in_nI (by omega : i + 3 < L) (by omega)) dl_138 ?_
      refine lc_call lc_Mo_node ⟨hx, hb, hml, hown, hts'⟩ hnb hK hP hD hS (As := [.inl (xs (nI (i + 1)).toNatClampNeg), .inl (xs (nI (i + 2)).toNatClampNeg), .inl (xs (nI (i + 3)).toNatClampNeg)]) (rest := [.int v]) (Nat.le_of_ble_eq_true rfl) rfl (q := 21) rfl (Ev2) rfl hl.1 ⟨by omega, by omega⟩ dl_139 (fun v0 M2 H locs hQ hP hS => ?_)
      obtain ⟨rfl, hI2⟩ := hQ
      have hD := mm_D_any (M' := M2) hD
      refine W.eq (g2 := F0 m 142 ls [.int v, .int v]) rfl ?_
      refine lv_icmp_eq (tgt := 426) hx hb dl_142 (by decide) (fun _ => ?_) (fun c9 => absurd rfl c9)
      exact hend M2 H locs hI2 hP hD hS ls hl
    · subst hj
      refine lv_tableIn (off := 115) (tgt := 147) hx hb dl_32 (by decide) (by decide) rfl (by decide) ?_
      refine lv_aload_n hx hb dl_147 rfl (lv_at hl 1 rfl) ?_
      refine lv_aload_n hx hb dl_148 rfl (lv_at hl 0 rfl) ?_
      refine lv_iload_n hx hb dl_149 rfl (lv_at hl 3 rfl) ?_
      refine lv_iconst (v := 1) hx hb dl_150 (by decide) ?_
      refine lv_iadd hx hb dl_151 ?_
      refine lv_topi (fun y ey => ?_)
      obtain rfl : y = nI (i + 1) := ey.trans (nI_add i 1)
      refine va_sld hx hb hX hbl hbA hS (vp_in_nI (by omega : i + 1 < L) (by omega)) dl_152 ?_
      refine lv_aload_n hx hb dl_153 rfl (lv_at hl 0 rfl) ?_
      refine lv_iload_n hx hb dl_154 rfl (lv_at hl 3 rfl) ?_
      refine lv_iconst (v := 2) hx hb dl_155 (by decide) ?_
      refine lv_iadd hx hb dl_156 ?_
      refine lv_topi (fun y ey => ?_)
      obtain rfl : y = nI (i + 2) := ey.trans (nI_add i 2)
      refine va_sld hx hb hX hbl hbA hS (vp_in_nI (by omega : i + 2 < L) (by omega)) dl_157 ?_
      refine lc_call lc_PG_rule ⟨hx, hb, hml, hown, hts'⟩ hnb hK hP hD hS (As := [.inl (xs (nI (i + 1)).toNatClampNeg), .inl (xs (nI (i + 2)).toNatClampNeg)]) (rest := []) (Nat.le_of_ble_eq_true rfl) rfl (q := 0) rfl (lw_rule (by omega) hI) rfl hl.1 ⟨by omega, by omega⟩ dl_158 (fun v0 M1 H locs hQ hP hS => ?_)
      obtain ⟨v, rfl, Ev2⟩ := hQ
      have hD := mm_D_any (M' := M1) hD
      refine W.eq (g2 := F0 m 161 ls [.int v]) rfl ?_
      refine lv_aload_n hx hb dl_161 rfl (lv_at hl 2 rfl) ?_
      refine lv_aload_n hx hb dl_162 rfl (lv_at hl 0 rfl) ?_
      refine lv_iload_n hx hb dl_163 rfl (lv_at hl 3 rfl) ?_
      refine lv_iconst (v := 1) hx hb dl_164 (by decide) ?_
      refine lv_iadd hx hb dl_165 ?_
      refine lv_topi (fun y ey => ?_)
      obtain rfl : y = nI (i + 1) := ey.trans (nI_add i 1)
      refine va_sld hx hb hX hbl hbA hS (vp_in_nI (by omega : i + 1 < L) (by omega)) dl_166 ?_
      refine lv_aload_n hx hb dl_167 rfl (lv_at hl 0 rfl) ?_
      refine lv_iload_n hx hb dl_168 rfl (lv_at hl 3 rfl) ?_
      refine lv_iconst (v := 2) hx hb dl_169 (by decide) ?_
      refine lv_iadd hx hb dl_170 ?_
      refine lv_topi (fun y ey => ?_)
      obtain rfl : y = nI (i + 2) := ey.trans (nI_add i 2)
      refine va_sld hx hb hX hbl hbA hS (vp_in_nI (by omega : i + 2 < L) (by omega)) dl_171 ?_
      refine lc_call lc_Mo_rule ⟨hx, hb, hml, hown, hts'⟩ hnb hK hP hD hS (As := [.inl (xs (nI (i + 1)).toNatClampNeg), .inl (xs (nI (i + 2)).toNatClampNeg)]) (rest := [.int v]) (Nat.le_of_ble_eq_true rfl) rfl (q := 21) rfl (Ev2) rfl hl.1 ⟨by omega, by omega⟩ dl_172 (fun v0 M2 H locs hQ hP hS => ?_)
      obtain ⟨rfl, hI2⟩ := hQ
      have hD := mm_D_any (M' := M2) hD
      refine W.eq (g2 := F0 m 175 ls [.int v, .int v]) rfl ?_
      refine lv_icmp_eq (tgt := 426) hx hb dl_175 (by decide) (fun _ => ?_) (fun c9 => absurd rfl c9)
      exact hend M2 H locs hI2 hP hD hS ls hl
    · subst hj
      refine lv_tableIn (off := 148) (tgt := 180) hx hb dl_32 (by decide) (by decide) rfl (by decide) ?_
      refine lv_aload_n hx hb dl_180 rfl (lv_at hl 1 rfl) ?_
      refine lv_aload_n hx hb dl_181 rfl (lv_at hl 0 rfl) ?_
      refine lv_iload_n hx hb dl_182 rfl (lv_at hl 3 rfl) ?_
      refine lv_iconst (v := 1) hx hb dl_183 (by decide) ?_
      refine lv_iadd hx hb dl_184 ?_
      refine lv_topi (fun y ey => ?_)
      obtain rfl : y = nI (i + 1) := ey.trans (nI_add i 1)
      refine va_sld hx hb hX hbl hbA hS (vp_in_nI (by omega : i + 1 < L) (by omega)) dl_185 ?_
      refine lc_call lc_PG_compile ⟨hx, hb, hml, hown, hts'⟩ hnb hK hP hD hS (As := [.inl (xs (nI (i + 1)).toNatClampNeg)]) (rest := []) (Nat.le_of_ble_eq_true rfl) rfl (q := 0) rfl (lw_compile (by omega) hI) rfl hl.1 ⟨by omega, by omega⟩ dl_186 (fun v0 M1 H locs hQ hP hS => ?_)
      obtain ⟨v, rfl, Ev2⟩ := hQ
      have hD := mm_D_any (M' := M1) hD
      refine W.eq (g2 := F0 m 189 ls [.int v]) rfl ?_
      refine lv_aload_n hx hb dl_189 rfl (lv_at hl 2 rfl) ?_
      refine lv_aload_n hx hb dl_190 rfl (lv_at hl 0 rfl) ?_
      refine lv_iload_n hx hb dl_191 rfl (lv_at hl 3 rfl) ?_
      refine lv_iconst (v := 1) hx hb dl_192 (by decide) ?_
      refine lv_iadd hx hb dl_193 ?_
      refine lv_topi (fun y ey => ?_)
      obtain rfl : y = nI (i + 1) := ey.trans (nI_add i 1)
      refine va_sld hx hb hX hbl hbA hS (vp_in_nI (by omega : i + 1 < L) (by omega)) dl_194 ?_
      refine lc_call lc_Mo_compile ⟨hx, hb, hml, hown, hts'⟩ hnb hK hP hD hS (As := [.inl (xs (nI (i + 1)).toNatClampNeg)]) (rest := [.int v]) (Nat.le_of_ble_eq_true rfl) rfl (q := 21) rfl (Ev2) rfl hl.1 ⟨by omega, by omega⟩ dl_195 (fun v0 M2 H locs hQ hP hS => ?_)
      obtain ⟨rfl, hI2⟩ := hQ
      have hD := mm_D_any (M' := M2) hD
      refine W.eq (g2 := F0 m 198 ls [.int v, .int v]) rfl ?_
      refine lv_icmp_eq (tgt := 426) hx hb dl_198 (by decide) (fun _ => ?_) (fun c9 => absurd rfl c9)
      exact hend M2 H locs hI2 hP hD hS ls hl
    · subst hj
      refine lv_tableIn (off := 171) (tgt := 203) hx hb dl_32 (by decide) (by decide) rfl (by decide) ?_
      refine lv_aload_n hx hb dl_203 rfl (lv_at hl 1 rfl) ?_
      refine lv_aload_n hx hb dl_204 rfl (lv_at hl 0 rfl) ?_
      refine lv_iload_n hx hb dl_205 rfl (lv_at hl 3 rfl) ?_
      refine lv_iconst (v := 1) hx hb dl_206 (by decide) ?_
      refine lv_iadd hx hb dl_207 ?_
      refine lv_topi (fun y ey => ?_)
      obtain rfl : y = nI (i + 1) := ey.trans (nI_add i 1)
      refine va_sld hx hb hX hbl hbA hS (vp_in_nI (by omega : i + 1 < L) (by omega)) dl_208 ?_
      refine lc_call lc_PG_empty ⟨hx, hb, hml, hown, hts'⟩ hnb hK hP hD hS (As := [.inl (xs (nI (i + 1)).toNatClampNeg)]) (rest := []) (Nat.le_of_ble_eq_true rfl) rfl (q := 0) rfl (lw_empty (by omega) hI) rfl hl.1 ⟨by omega, by omega⟩ dl_209 (fun v0 M1 H locs hQ hP hS => ?_)
      obtain ⟨v, rfl, Ev2⟩ := hQ
      have hD := mm_D_any (M' := M1) hD
      refine W.eq (g2 := F0 m 212 ls [.int v]) rfl ?_
      refine lv_aload_n hx hb dl_212 rfl (lv_at hl 2 rfl) ?_
      refine lv_aload_n hx hb dl_213 rfl (lv_at hl 0 rfl) ?_
      refine lv_iload_n hx hb dl_214 rfl (lv_at hl 3 rfl) ?_
      refine lv_iconst (v := 1) hx hb dl_215 (by decide) ?_
      refine lv_iadd hx hb dl_216 ?_
      refine lv_topi (fun y ey => ?_)
      obtain rfl : y = nI (i + 1) := ey.trans (nI_add i 1)
      refine va_sld hx hb hX hbl hbA hS (vp_in_nI (by omega : i + 1 < L) (by omega)) dl_217 ?_
      refine lc_call lc_Mo_empty ⟨hx, hb, hml, hown, hts'⟩ hnb hK hP hD hS (As := [.inl (xs (nI (i + 1)).toNatClampNeg)]) (rest := [.int v]) (Nat.le_of_ble_eq_true rfl) rfl (q := 21) rfl (Ev2) rfl hl.1 ⟨by omega, by omega⟩ dl_218 (fun v0 M2 H locs hQ hP hS => ?_)
      obtain ⟨rfl, hI2⟩ := hQ
      have hD := mm_D_any (M' := M2) hD
      refine W.eq (g2 := F0 m 221 ls [.int v, .int v]) rfl ?_
      refine lv_icmp_eq (tgt := 426) hx hb dl_221 (by decide) (fun _ => ?_) (fun c9 => absurd rfl c9)
      exact hend M2 H locs hI2 hP hD hS ls hl
    · subst hj
      refine lv_tableIn (off := 194) (tgt := 226) hx hb dl_32 (by decide) (by decide) rfl (by decide) ?_
      refine lv_aload_n hx hb dl_226 rfl (lv_at hl 1 rfl) ?_
      refine lv_aload_n hx hb dl_227 rfl (lv_at hl 0 rfl) ?_
      refine lv_iload_n hx hb dl_228 rfl (lv_at hl 3 rfl) ?_
      refine lv_iconst (v := 1) hx hb dl_229 (by decide) ?_
      refine lv_iadd hx hb dl_230 ?_
      refine lv_topi (fun y ey => ?_)
      obtain rfl : y = nI (i + 1) := ey.trans (nI_add i 1)
      refine va_sld hx hb hX hbl hbA hS (vp_in_nI (by omega : i + 1 < L) (by omega)) dl_231 ?_
      refine lc_call lc_PG_first ⟨hx, hb, hml, hown, hts'⟩ hnb hK hP hD hS (As := [.inl (xs (nI (i + 1)).toNatClampNeg)]) (rest := []) (Nat.le_of_ble_eq_true rfl) rfl (q := 0) rfl (lw_first (by omega) hI) rfl hl.1 ⟨by omega, by omega⟩ dl_232 (fun v0 M1 H locs hQ hP hS => ?_)
      obtain ⟨v, rfl, Ev2⟩ := hQ
      have hD := mm_D_any (M' := M1) hD
      refine W.eq (g2 := F0 m 235 ls [.int v]) rfl ?_
      refine lv_aload_n hx hb dl_235 rfl (lv_at hl 2 rfl) ?_
      refine lv_aload_n hx hb dl_236 rfl (lv_at hl 0 rfl) ?_
      refine lv_iload_n hx hb dl_237 rfl (lv_at hl 3 rfl) ?_
      refine lv_iconst (v := 1) hx hb dl_238 (by decide) ?_
      refine lv_iadd hx hb dl_239 ?_
      refine lv_topi (fun y ey => ?_)
      obtain rfl : y = nI (i + 1) := ey.trans (nI_add i 1)
      refine va_sld hx hb hX hbl hbA hS (vp_in_nI (by omega : i + 1 < L) (by omega)) dl_240 ?_
      refine lc_call lc_Mo_first ⟨hx, hb, hml, hown, hts'⟩ hnb hK hP hD hS (As := [.inl (xs (nI (i + 1)).toNatClampNeg)]) (rest := [.int v]) (Nat.le_of_ble_eq_true rfl) rfl (q := 21) rfl (Ev2) rfl hl.1 ⟨by omega, by omega⟩ dl_241 (fun v0 M2 H locs hQ hP hS => ?_)
      obtain ⟨rfl, hI2⟩ := hQ
      have hD := mm_D_any (M' := M2) hD
      refine W.eq (g2 := F0 m 244 ls [.int v, .int v]) rfl ?_
      refine lv_icmp_eq (tgt := 426) hx hb dl_244 (by decide) (fun _ => ?_) (fun c9 => absurd rfl c9)
      exact hend M2 H locs hI2 hP hD hS ls hl
    · subst hj
      refine lv_tableIn (off := 217) (tgt := 249) hx hb dl_32 (by decide) (by decide) rfl (by decide) ?_
      refine lv_aload_n hx hb dl_249 rfl (lv_at hl 1 rfl) ?_
      refine lv_aload_n hx hb dl_250 rfl (lv_at hl 0 rfl) ?_
      refine lv_iload_n hx hb dl_251 rfl (lv_at hl 3 rfl) ?_
      refine lv_iconst (v := 1) hx hb dl_252 (by decide) ?_
      refine lv_iadd hx hb dl_253 ?_
      refine lv_topi (fun y ey => ?_)
      obtain rfl : y = nI (i + 1) := ey.trans (nI_add i 1)
      refine va_sld hx hb hX hbl hbA hS (vp_in_nI (by omega : i + 1 < L) (by omega)) dl_254 ?_
      refine lc_call lc_PG_next ⟨hx, hb, hml, hown, hts'⟩ hnb hK hP hD hS (As := [.inl (xs (nI (i + 1)).toNatClampNeg)]) (rest := []) (Nat.le_of_ble_eq_true rfl) rfl (q := 0) rfl (lw_next (by omega) hI) rfl hl.1 ⟨by omega, by omega⟩ dl_255 (fun v0 M1 H locs hQ hP hS => ?_)
      obtain ⟨v, rfl, Ev2⟩ := hQ
      have hD := mm_D_any (M' := M1) hD
      refine W.eq (g2 := F0 m 258 ls [.int v]) rfl ?_
      refine lv_aload_n hx hb dl_258 rfl (lv_at hl 2 rfl) ?_
      refine lv_aload_n hx hb dl_259 rfl (lv_at hl 0 rfl) ?_
      refine lv_iload_n hx hb dl_260 rfl (lv_at hl 3 rfl) ?_
      refine lv_iconst (v := 1) hx hb dl_261 (by decide) ?_
      refine lv_iadd hx hb dl_262 ?_
      refine lv_topi (fun y ey => ?_)
      obtain rfl : y = nI (i + 1) := ey.trans (nI_add i 1)
      refine va_sld hx hb hX hbl hbA hS (vp_in_nI (by omega : i + 1 < L) (by omega)) dl_263 ?_
      refine lc_call lc_Mo_next ⟨hx, hb, hml, hown, hts'⟩ hnb hK hP hD hS (As := [.inl (xs (nI (i + 1)).toNatClampNeg)]) (rest := [.int v]) (Nat.le_of_ble_eq_true rfl) rfl (q := 21) rfl (Ev2) rfl hl.1 ⟨by omega, by omega⟩ dl_264 (fun v0 M2 H locs hQ hP hS => ?_)
      obtain ⟨rfl, hI2⟩ := hQ
      have hD := mm_D_any (M' := M2) hD
      refine W.eq (g2 := F0 m 267 ls [.int v, .int v]) rfl ?_
      refine lv_icmp_eq (tgt := 426) hx hb dl_267 (by decide) (fun _ => ?_) (fun c9 => absurd rfl c9)
      exact hend M2 H locs hI2 hP hD hS ls hl
    · subst hj
      refine lv_tableIn (off := 240) (tgt := 272) hx hb dl_32 (by decide) (by decide) rfl (by decide) ?_
      refine lv_aload_n hx hb dl_272 rfl (lv_at hl 1 rfl) ?_
      refine lv_aload_n hx hb dl_273 rfl (lv_at hl 0 rfl) ?_
      refine lv_iload_n hx hb dl_274 rfl (lv_at hl 3 rfl) ?_
      refine lv_iconst (v := 1) hx hb dl_275 (by decide) ?_
      refine lv_iadd hx hb dl_276 ?_
      refine lv_topi (fun y ey => ?_)
      obtain rfl : y = nI (i + 1) := ey.trans (nI_add i 1)
      refine va_sld hx hb hX hbl hbA hS (vp_in_nI (by omega : i + 1 < L) (by omega)) dl_277 ?_
      refine lc_call lc_PG_clash ⟨hx, hb, hml, hown, hts'⟩ hnb hK hP hD hS (As := [.inl (xs (nI (i + 1)).toNatClampNeg)]) (rest := []) (Nat.le_of_ble_eq_true rfl) rfl (q := 0) rfl (lw_clash (by omega) hI) rfl hl.1 ⟨by omega, by omega⟩ dl_278 (fun v0 M1 H locs hQ hP hS => ?_)
      obtain ⟨v, rfl, Ev2⟩ := hQ
      have hD := mm_D_any (M' := M1) hD
      refine W.eq (g2 := F0 m 281 ls [.int v]) rfl ?_
      refine lv_aload_n hx hb dl_281 rfl (lv_at hl 2 rfl) ?_
      refine lv_aload_n hx hb dl_282 rfl (lv_at hl 0 rfl) ?_
      refine lv_iload_n hx hb dl_283 rfl (lv_at hl 3 rfl) ?_
      refine lv_iconst (v := 1) hx hb dl_284 (by decide) ?_
      refine lv_iadd hx hb dl_285 ?_
      refine lv_topi (fun y ey => ?_)
      obtain rfl : y = nI (i + 1) := ey.trans (nI_add i 1)
      refine va_sld hx hb hX hbl hbA hS (vp_in_nI (by omega : i + 1 < L) (by omega)) dl_286 ?_
      refine lc_call lc_Mo_clash ⟨hx, hb, hml, hown, hts'⟩ hnb hK hP hD hS (As := [.inl (xs (nI (i + 1)).toNatClampNeg)]) (rest := [.int v]) (Nat.le_of_ble_eq_true rfl) rfl (q := 21) rfl (Ev2) rfl hl.1 ⟨by omega, by omega⟩ dl_287 (fun v0 M2 H locs hQ hP hS => ?_)
      obtain ⟨rfl, hI2⟩ := hQ
      have hD := mm_D_any (M' := M2) hD
      refine W.eq (g2 := F0 m 290 ls [.int v, .int v]) rfl ?_
      refine lv_icmp_eq (tgt := 426) hx hb dl_290 (by decide) (fun _ => ?_) (fun c9 => absurd rfl c9)
      exact hend M2 H locs hI2 hP hD hS ls hl
    · subst hj
      refine lv_tableIn (off := 263) (tgt := 295) hx hb dl_32 (by decide) (by decide) rfl (by decide) ?_
      refine lv_aload_n hx hb dl_295 rfl (lv_at hl 1 rfl) ?_
      refine lv_aload_n hx hb dl_296 rfl (lv_at hl 0 rfl) ?_
      refine lv_iload_n hx hb dl_297 rfl (lv_at hl 3 rfl) ?_
      refine lv_iconst (v := 1) hx hb dl_298 (by decide) ?_
      refine lv_iadd hx hb dl_299 ?_
      refine lv_topi (fun y ey => ?_)
      obtain rfl : y = nI (i + 1) := ey.trans (nI_add i 1)
      refine va_sld hx hb hX hbl hbA hS (vp_in_nI (by omega : i + 1 < L) (by omega)) dl_300 ?_
      refine lc_call lc_PG_feed ⟨hx, hb, hml, hown, hts'⟩ hnb hK hP hD hS (As := [.inl (xs (nI (i + 1)).toNatClampNeg)]) (rest := []) (Nat.le_of_ble_eq_true rfl) rfl (q := 0) rfl (lw_feed (by omega) hI) rfl hl.1 ⟨by omega, by omega⟩ dl_301 (fun v0 M1 H locs hQ hP hS => ?_)
      obtain ⟨v, rfl, Ev2⟩ := hQ
      have hD := mm_D_any (M' := M1) hD
      refine W.eq (g2 := F0 m 304 ls [.int v]) rfl ?_
      refine lv_aload_n hx hb dl_304 rfl (lv_at hl 2 rfl) ?_
      refine lv_aload_n hx hb dl_305 rfl (lv_at hl 0 rfl) ?_
      refine lv_iload_n hx hb dl_306 rfl (lv_at hl 3 rfl) ?_
      refine lv_iconst (v := 1) hx hb dl_307 (by decide) ?_
      refine lv_iadd hx hb dl_308 ?_
      refine lv_topi (fun y ey => ?_)
      obtain rfl : y = nI (i + 1) := ey.trans (nI_add i 1)
      refine va_sld hx hb hX hbl hbA hS (vp_in_nI (by omega : i + 1 < L) (by omega)) dl_309 ?_
      refine lc_call lc_Mo_feed ⟨hx, hb, hml, hown, hts'⟩ hnb hK hP hD hS (As := [.inl (xs (nI (i + 1)).toNatClampNeg)]) (rest := [.int v]) (Nat.le_of_ble_eq_true rfl) rfl (q := 21) rfl (Ev2) rfl hl.1 ⟨by omega, by omega⟩ dl_310 (fun v0 M2 H locs hQ hP hS => ?_)
      obtain ⟨rfl, hI2⟩ := hQ
      have hD := mm_D_any (M' := M2) hD
      refine W.eq (g2 := F0 m 313 ls [.int v, .int v]) rfl ?_
      refine lv_icmp_eq (tgt := 426) hx hb dl_313 (by decide) (fun _ => ?_) (fun c9 => absurd rfl c9)
      exact hend M2 H locs hI2 hP hD hS ls hl
    · subst hj
      refine lv_tableIn (off := 286) (tgt := 318) hx hb dl_32 (by decide) (by decide) rfl (by decide) ?_
      refine lv_aload_n hx hb dl_318 rfl (lv_at hl 1 rfl) ?_
      refine lc_call lc_PG_wipe ⟨hx, hb, hml, hown, hts'⟩ hnb hK hP hD hS (As := []) (rest := []) (Nat.le_of_ble_eq_true rfl) rfl (q := 0) rfl (lw_wipe (by omega) hI) rfl hl.1 ⟨by omega, by omega⟩ dl_319 (fun v0 M1 H locs hQ hP hS => ?_)
      obtain ⟨v, rfl, Ev2⟩ := hQ
      have hD := mm_D_any (M' := M1) hD
      refine W.eq (g2 := F0 m 322 ls [.int v]) rfl ?_
      refine lv_aload_n hx hb dl_322 rfl (lv_at hl 2 rfl) ?_
      refine lc_call lc_Mo_wipe ⟨hx, hb, hml, hown, hts'⟩ hnb hK hP hD hS (As := []) (rest := [.int v]) (Nat.le_of_ble_eq_true rfl) rfl (q := 21) rfl (Ev2) rfl hl.1 ⟨by omega, by omega⟩ dl_323 (fun v0 M2 H locs hQ hP hS => ?_)
      obtain ⟨rfl, hI2⟩ := hQ
      have hD := mm_D_any (M' := M2) hD
      refine W.eq (g2 := F0 m 326 ls [.int v, .int v]) rfl ?_
      refine lv_icmp_eq (tgt := 426) hx hb dl_326 (by decide) (fun _ => ?_) (fun c9 => absurd rfl c9)
      exact hend M2 H locs hI2 hP hD hS ls hl
    · subst hj
      refine lv_tableIn (off := 299) (tgt := 331) hx hb dl_32 (by decide) (by decide) rfl (by decide) ?_
      refine lv_aload_n hx hb dl_331 rfl (lv_at hl 1 rfl) ?_
      refine lc_call lc_PG_parse ⟨hx, hb, hml, hown, hts'⟩ hnb hK hP hD hS (As := []) (rest := []) (Nat.le_of_ble_eq_true rfl) rfl (q := 0) rfl (lw_parse (by omega) hI) rfl hl.1 ⟨by omega, by omega⟩ dl_332 (fun v0 M1 H locs hQ hP hS => ?_)
      obtain ⟨v, rfl, Ev2⟩ := hQ
      have hD := mm_D_any (M' := M1) hD
      refine W.eq (g2 := F0 m 335 ls [.int v]) rfl ?_
      refine lv_aload_n hx hb dl_335 rfl (lv_at hl 2 rfl) ?_
      refine lc_call lc_Mo_parse ⟨hx, hb, hml, hown, hts'⟩ hnb hK hP hD hS (As := []) (rest := [.int v]) (Nat.le_of_ble_eq_true rfl) rfl (q := 21) rfl (Ev2) rfl hl.1 ⟨by omega, by omega⟩ dl_336 (fun v0 M2 H locs hQ hP hS => ?_)
      obtain ⟨rfl, hI2⟩ := hQ
      have hD := mm_D_any (M' := M2) hD
      refine W.eq (g2 := F0 m 339 ls [.int v, .int v]) rfl ?_
      refine lv_icmp_eq (tgt := 426) hx hb dl_339 (by decide) (fun _ => ?_) (fun c9 => absurd rfl c9)
      exact hend M2 H locs hI2 hP hD hS ls hl
    · subst hj
      refine lv_tableIn (off := 312) (tgt := 344) hx hb dl_32 (by decide) (by decide) rfl (by decide) ?_
      refine lv_aload_n hx hb dl_344 rfl (lv_at hl 1 rfl) ?_
      refine lc_call lc_PG_place ⟨hx, hb, hml, hown, hts'⟩ hnb hK hP hD hS (As := []) (rest := []) (Nat.le_of_ble_eq_true rfl) rfl (q := 0) rfl (lw_place (by omega) hI) rfl hl.1 ⟨by omega, by omega⟩ dl_345 (fun v0 M1 H locs hQ hP hS => ?_)
      obtain ⟨v, rfl, Ev2⟩ := hQ
      have hD := mm_D_any (M' := M1) hD
      refine W.eq (g2 := F0 m 348 ls [.int v]) rfl ?_
      refine lv_aload_n hx hb dl_348 rfl (lv_at hl 2 rfl) ?_
      refine lc_call lc_Mo_place ⟨hx, hb, hml, hown, hts'⟩ hnb hK hP hD hS (As := []) (rest := [.int v]) (Nat.le_of_ble_eq_true rfl) rfl (q := 21) rfl (Ev2) rfl hl.1 ⟨by omega, by omega⟩ dl_349 (fun v0 M2 H locs hQ hP hS => ?_)
      obtain ⟨rfl, hI2⟩ := hQ
      have hD := mm_D_any (M' := M2) hD
      refine W.eq (g2 := F0 m 352 ls [.int v, .int v]) rfl ?_
      refine lv_icmp_eq (tgt := 426) hx hb dl_352 (by decide) (fun _ => ?_) (fun c9 => absurd rfl c9)
      exact hend M2 H locs hI2 hP hD hS ls hl
    · subst hj
      refine lv_tableIn (off := 325) (tgt := 357) hx hb dl_32 (by decide) (by decide) rfl (by decide) ?_
      refine lv_aload_n hx hb dl_357 rfl (lv_at hl 1 rfl) ?_
      refine lc_call lc_PG_due ⟨hx, hb, hml, hown, hts'⟩ hnb hK hP hD hS (As := []) (rest := []) (Nat.le_of_ble_eq_true rfl) rfl (q := 0) rfl (lw_due (by omega) hI) rfl hl.1 ⟨by omega, by omega⟩ dl_358 (fun v0 M1 H locs hQ hP hS => ?_)
      obtain ⟨v, rfl, Ev2⟩ := hQ
      have hD := mm_D_any (M' := M1) hD
      refine W.eq (g2 := F0 m 361 ls [.int v]) rfl ?_
      refine lv_aload_n hx hb dl_361 rfl (lv_at hl 2 rfl) ?_
      refine lc_call lc_Mo_due ⟨hx, hb, hml, hown, hts'⟩ hnb hK hP hD hS (As := []) (rest := [.int v]) (Nat.le_of_ble_eq_true rfl) rfl (q := 21) rfl (Ev2) rfl hl.1 ⟨by omega, by omega⟩ dl_362 (fun v0 M2 H locs hQ hP hS => ?_)
      obtain ⟨rfl, hI2⟩ := hQ
      have hD := mm_D_any (M' := M2) hD
      refine W.eq (g2 := F0 m 365 ls [.int v, .int v]) rfl ?_
      refine lv_icmp_eq (tgt := 426) hx hb dl_365 (by decide) (fun _ => ?_) (fun c9 => absurd rfl c9)
      exact hend M2 H locs hI2 hP hD hS ls hl
    · subst hj
      refine lv_tableIn (off := 338) (tgt := 370) hx hb dl_32 (by decide) (by decide) rfl (by decide) ?_
      refine lv_aload_n hx hb dl_370 rfl (lv_at hl 1 rfl) ?_
      refine lv_aload_n hx hb dl_371 rfl (lv_at hl 0 rfl) ?_
      refine lv_iload_n hx hb dl_372 rfl (lv_at hl 3 rfl) ?_
      refine lv_iconst (v := 1) hx hb dl_373 (by decide) ?_
      refine lv_iadd hx hb dl_374 ?_
      refine lv_topi (fun y ey => ?_)
      obtain rfl : y = nI (i + 1) := ey.trans (nI_add i 1)
      refine va_sld hx hb hX hbl hbA hS (vp_in_nI (by omega : i + 1 < L) (by omega)) dl_375 ?_
      refine lv_aload_n hx hb dl_376 rfl (lv_at hl 0 rfl) ?_
      refine lv_iload_n hx hb dl_377 rfl (lv_at hl 3 rfl) ?_
      refine lv_iconst (v := 2) hx hb dl_378 (by decide) ?_
      refine lv_iadd hx hb dl_379 ?_
      refine lv_topi (fun y ey => ?_)
      obtain rfl : y = nI (i + 2) := ey.trans (nI_add i 2)
      refine va_sld hx hb hX hbl hbA hS (vp_in_nI (by omega : i + 2 < L) (by omega)) dl_380 ?_
      refine lc_call lc_PG_tree ⟨hx, hb, hml, hown, hts'⟩ hnb hK hP hD hS (As := [.inl (xs (nI (i + 1)).toNatClampNeg), .inl (xs (nI (i + 2)).toNatClampNeg)]) (rest := []) (Nat.le_of_ble_eq_true rfl) rfl (q := 0) rfl (lw_tree (by omega) hI) rfl hl.1 ⟨by omega, by omega⟩ dl_381 (fun v0 M1 H locs hQ hP hS => ?_)
      obtain ⟨v, rfl, Ev2⟩ := hQ
      have hD := mm_D_any (M' := M1) hD
      refine W.eq (g2 := F0 m 384 ls [.int v]) rfl ?_
      refine lv_aload_n hx hb dl_384 rfl (lv_at hl 2 rfl) ?_
      refine lv_aload_n hx hb dl_385 rfl (lv_at hl 0 rfl) ?_
      refine lv_iload_n hx hb dl_386 rfl (lv_at hl 3 rfl) ?_
      refine lv_iconst (v := 1) hx hb dl_387 (by decide) ?_
      refine lv_iadd hx hb dl_388 ?_
      refine lv_topi (fun y ey => ?_)
      obtain rfl : y = nI (i + 1) := ey.trans (nI_add i 1)
      refine va_sld hx hb hX hbl hbA hS (vp_in_nI (by omega : i + 1 < L) (by omega)) dl_389 ?_
      refine lv_aload_n hx hb dl_390 rfl (lv_at hl 0 rfl) ?_
      refine lv_iload_n hx hb dl_391 rfl (lv_at hl 3 rfl) ?_
      refine lv_iconst (v := 2) hx hb dl_392 (by decide) ?_
      refine lv_iadd hx hb dl_393 ?_
      refine lv_topi (fun y ey => ?_)
      obtain rfl : y = nI (i + 2) := ey.trans (nI_add i 2)
      refine va_sld hx hb hX hbl hbA hS (vp_in_nI (by omega : i + 2 < L) (by omega)) dl_394 ?_
      refine lc_call lc_Mo_tree ⟨hx, hb, hml, hown, hts'⟩ hnb hK hP hD hS (As := [.inl (xs (nI (i + 1)).toNatClampNeg), .inl (xs (nI (i + 2)).toNatClampNeg)]) (rest := [.int v]) (Nat.le_of_ble_eq_true rfl) rfl (q := 21) rfl (Ev2) rfl hl.1 ⟨by omega, by omega⟩ dl_395 (fun v0 M2 H locs hQ hP hS => ?_)
      obtain ⟨rfl, hI2⟩ := hQ
      have hD := mm_D_any (M' := M2) hD
      refine W.eq (g2 := F0 m 398 ls [.int v, .int v]) rfl ?_
      refine lv_icmp_eq (tgt := 426) hx hb dl_398 (by decide) (fun _ => ?_) (fun c9 => absurd rfl c9)
      exact hend M2 H locs hI2 hP hD hS ls hl
    · subst hj
      refine lv_tableIn (off := 371) (tgt := 403) hx hb dl_32 (by decide) (by decide) rfl (by decide) ?_
      refine lv_aload_n hx hb dl_403 rfl (lv_at hl 1 rfl) ?_
      refine lv_aload_n hx hb dl_404 rfl (lv_at hl 0 rfl) ?_
      refine lv_iload_n hx hb dl_405 rfl (lv_at hl 3 rfl) ?_
      refine lv_iconst (v := 1) hx hb dl_406 (by decide) ?_
      refine lv_iadd hx hb dl_407 ?_
      refine lv_topi (fun y ey => ?_)
      obtain rfl : y = nI (i + 1) := ey.trans (nI_add i 1)
      refine va_sld hx hb hX hbl hbA hS (vp_in_nI (by omega : i + 1 < L) (by omega)) dl_408 ?_
      refine lc_call lc_PG_count ⟨hx, hb, hml, hown, hts'⟩ hnb hK hP hD hS (As := [.inl (xs (nI (i + 1)).toNatClampNeg)]) (rest := []) (Nat.le_of_ble_eq_true rfl) rfl (q := 0) rfl (lw_count (by omega) hI) rfl hl.1 ⟨by omega, by omega⟩ dl_409 (fun v0 M1 H locs hQ hP hS => ?_)
      obtain ⟨v, rfl, Ev2⟩ := hQ
      have hD := mm_D_any (M' := M1) hD
      refine W.eq (g2 := F0 m 412 ls [.int v]) rfl ?_
      refine lv_aload_n hx hb dl_412 rfl (lv_at hl 2 rfl) ?_
      refine lv_aload_n hx hb dl_413 rfl (lv_at hl 0 rfl) ?_
      refine lv_iload_n hx hb dl_414 rfl (lv_at hl 3 rfl) ?_
      refine lv_iconst (v := 1) hx hb dl_415 (by decide) ?_
      refine lv_iadd hx hb dl_416 ?_
      refine lv_topi (fun y ey => ?_)
      obtain rfl : y = nI (i + 1) := ey.trans (nI_add i 1)
      refine va_sld hx hb hX hbl hbA hS (vp_in_nI (by omega : i + 1 < L) (by omega)) dl_417 ?_
      refine lc_call lc_Mo_count ⟨hx, hb, hml, hown, hts'⟩ hnb hK hP hD hS (As := [.inl (xs (nI (i + 1)).toNatClampNeg)]) (rest := [.int v]) (Nat.le_of_ble_eq_true rfl) rfl (q := 21) rfl (Ev2) rfl hl.1 ⟨by omega, by omega⟩ dl_418 (fun v0 M2 H locs hQ hP hS => ?_)
      obtain ⟨rfl, hI2⟩ := hQ
      have hD := mm_D_any (M' := M2) hD
      refine W.eq (g2 := F0 m 421 ls [.int v, .int v]) rfl ?_
      refine lv_icmp_eq (tgt := 426) hx hb dl_421 (by decide) (fun _ => ?_) (fun c9 => absurd rfl c9)
      exact hend M2 H locs hI2 hP hD hS ls hl
    · subst hj
      refine lv_tableOut (tgt := 426) hx hb dl_32 (Or.inr (by decide)) (by decide) ?_
      exact hend M H locs hI hP hD hS ls hl
    · subst hj
      refine lv_tableOut (tgt := 426) hx hb dl_32 (Or.inr (by decide)) (by decide) ?_
      exact hend M H locs hI hP hD hS ls hl
