def an_cfm (M M' : mm_M) : Prop := (∀ k, k ≠ 21 → k < 27 ∨ 32 < k → M' k = M k) ∧ ∀ j, j ≠ 2 → j ≠ 3 → M' 21 j = M 21 j
theorem an_cfm_tr {M M' M'' : mm_M} (h1 : an_cfm M M') (h2 : an_cfm M' M'') : an_cfm M M'' := ⟨fun k a b => (h2.1 k a b).trans (h1.1 k a b), fun j a b => (h2.2 j a b).trans (h1.2 j a b)⟩
theorem an_cfm_of {M M' : mm_M} (h : ∀ k, k < 27 ∨ 32 < k → M' k = M k) : an_cfm M M' := ⟨fun k _ h2 => h k h2, fun j _ _ => by rw [h 21 (by omega)]⟩
theorem an_cfm_M {M M' : mm_M} {n : Nat} {kd : Nat → Nat} {a b kp : Nat → Int32} (h : an_cfm M M') (h27 : M' 27 = M 27) (hX : an_M M n kd a b kp) : an_M M' n kd a b kp := an_M_fr (h.2 0 (by decide) (by decide)) (h.1 22 (by decide) (by omega)) (h.1 23 (by decide) (by omega)) (h.1 24 (by decide) (by omega)) h27 hX
set_option maxHeartbeats 2000000 in
set_option maxRecDepth 20000 in
theorem lq_c1 {d : Nat} {M0 : mm_M} {Q : mm_Qt} {rr : mm_V} {ru : Nat → Int32} (h26 : ∀ r, r < 8 → M0 26 r = ru r) (k : ∀ M', (∀ q, q ≠ 27 → M' q = M0 q) → (∀ r, r < 8 → M' 27 r = ru r) → mm_Rn pg ly d (mm_Ev pg ly d) yy_Mo_compile Q 61 [(0, .inr 21), (1, rr)] [] M') :
    ∀ (i : Nat) (x : Int32) (M : mm_M), i ≤ 8 → x = nI i → (∀ q, q ≠ 27 → M q = M0 q) → (∀ r, r < i → M 27 r = ru r) → mm_Rn pg ly d (mm_Ev pg ly d) yy_Mo_compile Q 37 [(0, .inr 21), (1, rr), (2, .inl x)] [] M := by
  intro i
  induction hm : 8 - i using Nat.strongRecOn generalizing i with
  | _ m ih =>
    intro x M hi ex hf hz
    subst ex
    refine mg_iload_n 38 rfl rfl rfl ?_
    refine mg_bipush (v := 8) 40 rfl (by decide) rfl ?_
    refine mg_ic_ge 43 61 rfl rfl (by decide) (fun c_40 => ?_) (fun c_40 => ?_)
    · exact mg_loc [(0, _), (1, _)] ⟨rfl, rfl, trivial⟩ (k M hf (fun q hq => hz q (by have := (nI_leI (a := 8) (by omega) (by omega)).mp c_40; omega)))
    · have hlt : i < 8 := Nat.not_le.mp (fun h => c_40 (nI_le (a := 8) h (by omega)))
      refine mg_aload_n 44 rfl rfl rfl ?_
      refine mg_getR 47 rfl rfl rfl rfl ?_
      refine mg_iload_n 48 rfl rfl rfl ?_
      refine mg_aload_n 49 rfl rfl rfl ?_
      refine mg_getR 52 rfl rfl rfl rfl ?_
      refine mg_iload_n 53 rfl rfl rfl ?_
      refine mg_iald (v := ru i) 54 rfl rfl (vp_in_nI hlt (by omega)) (by rw [nI_clamp (by omega), hf 26 (by decide)]; exact h26 i hlt) rfl ?_
      refine mg_iast (j := i) 55 rfl rfl (vp_in_nI hlt (by omega)) (nI_clamp (by omega)) rfl ?_
      refine mg_iinc (v := _ + 1) (L2 := [(0, _), (1, _), (2, _)]) 58 rfl rfl (by decide) rfl rfl rfl ?_
      refine mg_goto 37 rfl (by decide) ?_
      refine ih _ (by omega) (i + 1) rfl _ _ (by omega) (nI_1 i) (fun q h => by simp only [mm_up, if_neg h]; exact hf q h) (fun q hq => ?_)
      by_cases e : q = i
      · subst e
        simp [mm_up, upd]
      · have := hz q (by omega)
        simp [mm_up, upd, e, this]
set_option maxHeartbeats 2000000 in
set_option maxRecDepth 20000 in
theorem lq_c2 {d : Nat} {M0 : mm_M} {Q : mm_Qt} {rr : mm_V} (k : ∀ M', (∀ q, q ≠ 28 → q ≠ 29 → q ≠ 30 → q ≠ 31 → q ≠ 32 → M' q = M0 q) → (∀ i, i < 60 → M' 28 i = 0 ∧ M' 29 i = 0 ∧ M' 30 i = 0 ∧ M' 31 i = 0 ∧ M' 32 i = 0) → mm_Rn pg ly d (mm_Ev pg ly d) yy_Mo_compile Q 110 [(0, .inr 21), (1, rr)] [] M') : ∀ (i : Nat) (x : Int32) (M : mm_M), i ≤ 60 → x = nI i → (∀ q, q ≠ 28 → q ≠ 29 → q ≠ 30 → q ≠ 31 → q ≠ 32 → M q = M0 q) → (∀ q, q < i → M 28 q = 0 ∧ M 29 q = 0 ∧ M 30 q = 0 ∧ M 31 q = 0 ∧ M 32 q = 0) → mm_Rn pg ly d (mm_Ev pg ly d) yy_Mo_compile Q 63 [(0, .inr 21), (1, rr), (2, .inl x)] [] M := by
  intro i
  induction hm : 60 - i using Nat.strongRecOn generalizing i with
  | _ m ih =>
    intro x M hi ex hf hz
    subst ex
    refine mg_iload_n 64 rfl rfl rfl ?_
    refine mg_bipush (v := 60) 66 rfl (by decide) rfl ?_
    refine mg_ic_ge 69 110 rfl rfl (by decide) (fun c_66 => ?_) (fun c_66 => ?_)
    · exact mg_loc [(0, _), (1, _)] ⟨rfl, rfl, trivial⟩ (k M hf (fun q hq => hz q (by have := (nI_leI (a := 60) (by omega) (by omega)).mp c_66; omega)))
    · have hlt : i < 60 := Nat.not_le.mp (fun h => c_66 (nI_le (a := 60) h (by omega)))
      refine mg_aload_n 70 rfl rfl rfl ?_
      refine mg_getR 73 rfl rfl rfl rfl ?_
      refine mg_iload_n 74 rfl rfl rfl ?_
      refine mg_iconst (v := 0) 75 rfl (by decide) rfl ?_
      refine mg_zast (v := 0) (j := i) 76 rfl rfl (vp_in_nI (by omega : i < 60) (by omega)) (nI_clamp (by omega)) (by decide) rfl ?_
      refine mg_aload_n 77 rfl rfl rfl ?_
      refine mg_getR 80 rfl rfl rfl rfl ?_
      refine mg_iload_n 81 rfl rfl rfl ?_
      refine mg_iconst (v := 0) 82 rfl (by decide) rfl ?_
      refine mg_zast (v := 0) (j := i) 83 rfl rfl (vp_in_nI (by omega : i < 60) (by omega)) (nI_clamp (by omega)) (by decide) rfl ?_
      refine mg_aload_n 84 rfl rfl rfl ?_
      refine mg_getR 87 rfl rfl rfl rfl ?_
      refine mg_iload_n 88 rfl rfl rfl ?_
      refine mg_iconst (v := 0) 89 rfl (by decide) rfl ?_
      refine mg_iast (j := i) 90 rfl rfl (vp_in_nI (by omega : i < 60) (by omega)) (nI_clamp (by omega)) rfl ?_
      refine mg_aload_n 91 rfl rfl rfl ?_
      refine mg_getR 94 rfl rfl rfl rfl ?_
      refine mg_iload_n 95 rfl rfl rfl ?_
      refine mg_iconst (v := 0) 96 rfl (by decide) rfl ?_
      refine mg_iast (j := i) 97 rfl rfl (vp_in_nI (by omega : i < 60) (by omega)) (nI_clamp (by omega)) rfl ?_
      refine mg_aload_n 98 rfl rfl rfl ?_
      refine mg_getR 101 rfl rfl rfl rfl ?_
      refine mg_iload_n 102 rfl rfl rfl ?_
      refine mg_iconst (v := 0) 103 rfl (by decide) rfl ?_
      refine mg_iast (j := i) 104 rfl rfl (vp_in_nI (by omega : i < 60) (by omega)) (nI_clamp (by omega)) rfl ?_
      refine mg_iinc (v := _ + 1) (L2 := [(0, _), (1, _), (2, _)]) 107 rfl rfl (by decide) rfl rfl rfl ?_
      refine mg_goto 63 rfl (by decide) ?_
      refine ih _ (by omega) (i + 1) rfl _ _ (by omega) (nI_1 i) (fun q h1 h2 h3 h4 h5 => by simp only [mm_up, if_neg h1, if_neg h2, if_neg h3, if_neg h4, if_neg h5]; exact hf q h1 h2 h3 h4 h5) (fun q hq => ?_)
      by_cases e : q = i
      · subst e
        simp [mm_up, upd]
      · have := hz q (by omega)
        simp [mm_up, upd, e, this]
set_option maxHeartbeats 2000000 in
set_option maxRecDepth 20000 in
theorem lq_c3 {d : Nat} {M0 : mm_M} {Q : mm_Qt} {rr : mm_V} {n : Nat} {kd lv : Nat → Nat} {a b kp : Nat → Int32} {rt : Nat} (hW : st_wf n kd lv a b kp) (hX : an_M M0 n kd a b kp) (hd : 5 ≤ d) (k : ∀ M', an_mfr 28 M0 M' → an_lst (an_cu n kd a b kp rt) (M' 28) → mm_Rn pg ly d (mm_Ev pg ly d) yy_Mo_compile Q 136 [(0, .inr 21), (1, rr)] [] M') :
    ∀ (g : Nat) (x : Int32) (M : mm_M), 1920 - an_cnt (M 28) 60 ≤ g → an_mfr 28 M0 M → an_low (an_cu n kd a b kp rt) (M 28) → ms_le 1 (M 28 rt) → x = 1 → mm_Rn pg ly d (mm_Ev pg ly d) yy_Mo_compile Q 124 [(0, .inr 21), (1, rr), (2, .inl x)] [] M := by
  have hn : n ≤ 60 := hW.1
  intro g
  induction g using Nat.strongRecOn with
  | _ g ih =>
    intro x M hg hf hl hrt hx
    subst hx
    have hX2 : an_M M n kd a b kp := an_M_fr (by rw [hf 21 (by decide)]) (hf 22 (by decide)) (hf 23 (by decide)) (hf 24 (by decide)) (hf 27 (by decide)) hX
    refine mg_iload_n 125 rfl rfl rfl ?_
    refine mg_if_eq 128 136 rfl rfl (by decide) (fun c_125 => absurd c_125 (by decide)) (fun c_125 => ?_)
    refine mg_aload_n 129 rfl rfl rfl ?_
    refine mg_callV0 132 rfl (Nat.le_of_ble_eq_true rfl) pg_Mo_spread rfl rfl ?_
    refine sm_spread hW hX2 hl (by omega) (fun f2 N2 t2 hl2 hp2 => ?_)
    show mm_Rn _ _ _ _ _ _ 132 [(0, _), (1, _), (2, _)] [_] _
    refine mg_istore_n (L2 := [(0, _), (1, _), (2, _)]) 133 rfl (by decide) rfl rfl ?_
    refine mg_goto 124 rfl (by decide) ?_
    have hf2 : an_mfr 28 M0 N2 := fun k h1 => (t2.1 k h1).trans (hf k h1)
    have hb := an_cnt_all (N2 28)
    have hrt2 : ms_le 1 (N2 28 rt) := ms_tr hrt (t2.2.2 rt)
    rcases t2.2.1 with ⟨e1, e2⟩ | ⟨e1, e2⟩
    · subst e2
      have hlast := hp2 rfl
      have hstop : ∀ x, x = (0 : Int32) → mm_Rn pg ly d (mm_Ev pg ly d) yy_Mo_compile Q 124 [(0, .inr 21), (1, rr), (2, .inl x)] [] N2 := by
        intro x ex
        subst ex
        refine mg_iload_n 125 rfl rfl rfl ?_
        refine mg_if_eq 128 136 rfl rfl (by decide) (fun c_125 => ?_) (fun c_125 => absurd c_125 (by decide))
        exact mg_loc [(0, _), (1, _)] ⟨rfl, rfl, trivial⟩ (k N2 hf2 ⟨⟨hrt2, hlast⟩, hl2⟩)
      exact hstop f2 e1
    · exact ih (1920 - an_cnt (N2 28) 60) (by omega) f2 N2 (Nat.le_refl _) hf2 hl2 hrt2 e1
set_option maxHeartbeats 2000000 in
set_option maxRecDepth 20000 in
theorem lq_c4 {d : Nat} {M0 : mm_M} {Q : mm_Qt} {rr : mm_V} {n : Nat} {kd lv : Nat → Nat} {a b kp us : Nat → Int32} {rt : Nat} (hW : st_wf n kd lv a b kp) (hX : an_M M0 n kd a b kp) (hU : st_us n kd a b kp us rt) {em fi : Nat → Int32} (hM29 : ∀ j, j < 60 → M0 29 j = em j) (hM30 : ∀ j, j < 60 → M0 30 j = fi j) (hM28 : ∀ j, j < 60 → M0 28 j = us j) (hd : 5 ≤ d) (k : ∀ M', an_mfr 31 M0 M' → an_lst (an_cn n kd a b kp us em fi rt) (M' 31) → mm_Rn pg ly d (mm_Ev pg ly d) yy_Mo_compile Q 184 [(0, .inr 21), (1, rr)] [] M') :
    ∀ (g : Nat) (x : Int32) (M : mm_M), 1920 - an_cnt (M 31) 60 ≤ g → an_mfr 31 M0 M → an_low (an_cn n kd a b kp us em fi rt) (M 31) → ms_le 1024 (M 31 rt) → x = 1 → mm_Rn pg ly d (mm_Ev pg ly d) yy_Mo_compile Q 172 [(0, .inr 21), (1, rr), (2, .inl x)] [] M := by
  have hn : n ≤ 60 := hW.1
  intro g
  induction g using Nat.strongRecOn with
  | _ g ih =>
    intro x M hg hf hl hrt hx
    subst hx
    have hX2 : an_M M n kd a b kp := an_M_fr (by rw [hf 21 (by decide)]) (hf 22 (by decide)) (hf 23 (by decide)) (hf 24 (by decide)) (hf 27 (by decide)) hX
    refine mg_iload_n 173 rfl rfl rfl ?_
    refine mg_if_eq 176 184 rfl rfl (by decide) (fun c_173 => absurd c_173 (by decide)) (fun c_173 => ?_)
    refine mg_aload_n 177 rfl rfl rfl ?_
    refine mg_callV0 180 rfl (Nat.le_of_ble_eq_true rfl) pg_Mo_givesAll rfl rfl ?_
    refine sm_givesAll hW hX2 hU (fun j hj => by rw [hf 29 (by decide)]; exact hM29 j hj) (fun j hj => by rw [hf 30 (by decide)]; exact hM30 j hj) (fun j hj => by rw [hf 28 (by decide)]; exact hM28 j hj) hl (by omega) (fun f2 N2 t2 hl2 hp2 => ?_)
    show mm_Rn _ _ _ _ _ _ 180 [(0, _), (1, _), (2, _)] [_] _
    refine mg_istore_n (L2 := [(0, _), (1, _), (2, _)]) 181 rfl (by decide) rfl rfl ?_
    refine mg_goto 172 rfl (by decide) ?_
    have hf2 : an_mfr 31 M0 N2 := fun k h1 => (t2.1 k h1).trans (hf k h1)
    have hb := an_cnt_all (N2 31)
    have hrt2 : ms_le 1024 (N2 31 rt) := ms_tr hrt (t2.2.2 rt)
    rcases t2.2.1 with ⟨e1, e2⟩ | ⟨e1, e2⟩
    · subst e2
      have hlast := hp2 rfl
      have hstop : ∀ x, x = (0 : Int32) → mm_Rn pg ly d (mm_Ev pg ly d) yy_Mo_compile Q 172 [(0, .inr 21), (1, rr), (2, .inl x)] [] N2 := by
        intro x ex
        subst ex
        refine mg_iload_n 173 rfl rfl rfl ?_
        refine mg_if_eq 176 184 rfl rfl (by decide) (fun c_173 => ?_) (fun c_173 => absurd c_173 (by decide))
        exact mg_loc [(0, _), (1, _)] ⟨rfl, rfl, trivial⟩ (k N2 hf2 ⟨⟨hrt2, hlast⟩, hl2⟩)
      exact hstop f2 e1
    · exact ih (1920 - an_cnt (N2 31) 60) (by omega) f2 N2 (Nat.le_refl _) hf2 hl2 hrt2 e1
set_option maxHeartbeats 2000000 in
set_option maxRecDepth 20000 in
theorem lq_c5 {d : Nat} {M0 : mm_M} {Q : mm_Qt} {rr : mm_V} {n : Nat} {us : Nat → Int32} (hn : n ≤ 60) (hsz : M0 21 0 = nI n) (h28 : ∀ j, j < 60 → M0 28 j = us j ∧ (us j = 0 ∨ us j = 1)) (k : ∀ M', (∀ q, q ≠ 21 → M' q = M0 q) → (∀ j, j ≠ 3 → M' 21 j = M0 21 j) → M' 21 3 = nI (st_num (st_uq true us) n) → Q (some (.inl (nI (st_num (st_uq true us) n)))) M') :
    ∀ (i : Nat) (x : Int32) (M : mm_M), i ≤ n → x = nI i → (∀ q, q ≠ 21 → M q = M0 q) → (∀ j, j ≠ 3 → M 21 j = M0 21 j) → M 21 3 = nI (st_num (st_uq true us) i) → mm_Rn pg ly d (mm_Ev pg ly d) yy_Mo_compile Q 187 [(0, .inr 21), (1, rr), (4, .inl x)] [] M := by
  intro i
  induction hm : n - i using Nat.strongRecOn generalizing i with
  | _ m ih =>
    intro x M hi ex hf hg h3
    subst ex
    refine mg_iload 189 rfl rfl rfl ?_
    refine mg_aload_n 190 rfl rfl rfl ?_
    refine mg_getI (v := nI n) 193 rfl rfl (Or.inl rfl) (by rw [hg 0 (by decide)]; exact hsz) rfl ?_
    refine mg_ic_ge 196 222 rfl rfl (by decide) (fun c_193 => ?_) (fun c_193 => ?_)
    · have hin : i = n := by have := (nI_leI (by omega) (by omega)).mp c_193; omega
      subst hin
      refine mg_aload_n 223 rfl rfl rfl ?_
      refine mg_getI (v := nI (st_num (st_uq true us) i)) 226 rfl rfl (Or.inl rfl) h3 rfl ?_
      refine mg_iret rfl rfl ?_
      exact k M hf hg h3
    · have hlt : i < n := Nat.not_le.mp (fun h => c_193 (nI_le h (by omega)))
      refine mg_aload_n 197 rfl rfl rfl ?_
      refine mg_getR 200 rfl rfl rfl rfl ?_
      refine mg_iload 202 rfl rfl rfl ?_
      refine mg_zald (v := us i) 203 rfl rfl (vp_in_nI (by omega : i < 60) (by omega)) (by rw [nI_clamp (by omega), hf 28 (by decide)]; exact (h28 i (by omega)).1) rfl ?_
      refine mg_if_eq 206 216 rfl rfl (by decide) (fun c_203 => ?_) (fun c_203 => ?_)
      · refine mg_iinc (v := _ + 1) (L2 := [(0, _), (1, _), (4, _)]) 219 rfl rfl (by decide) rfl rfl rfl ?_
        refine mg_goto 187 rfl (by decide) ?_
        exact ih _ (by omega) (i + 1) rfl _ _ (by omega) (nI_1 i) hf hg (by rw [h3, st_num_n (by simp [st_uq, c_203])])
      · refine mg_aload_n 207 rfl rfl rfl ?_
        refine mg_dup 208 rfl rfl ?_
        refine mg_getI (v := nI (st_num (st_uq true us) i)) 211 rfl rfl (Or.inl rfl) h3 rfl ?_
        refine mg_iconst (v := 1) 212 rfl (by decide) rfl ?_
        refine mg_iadd (v := nI (st_num (st_uq true us) i + 1)) 213 rfl (nI_1 _) rfl ?_
        refine mg_putI 216 rfl rfl rfl rfl ?_
        refine mg_iinc (v := _ + 1) (L2 := [(0, _), (1, _), (4, _)]) 219 rfl rfl (by decide) rfl rfl rfl ?_
        refine mg_goto 187 rfl (by decide) ?_
        exact ih _ (by omega) (i + 1) rfl _ _ (by omega) (nI_1 i) (fun q h => by simp only [mm_up, if_neg h]; exact hf q h) (fun j h => by simp [mm_up, upd, h]; exact hg j h) (by rw [st_num_y (by simp [st_uq, (h28 i (by omega)).2.resolve_left c_203])]; simp [mm_up, upd])
set_option maxHeartbeats 2000000 in
set_option maxRecDepth 20000 in
theorem sm_compile {d : Nat} {M : mm_M} {Q : mm_Qt} {x : Int32} {n : Nat} {kd lv : Nat → Nat} {a b ru : Nat → Int32} (hG : st_gM M n kd lv a b ru) (hW : st_wf n kd lv a b ru) (hd : 7 ≤ d) (kR : ¬ st_in 8 x → Q (some (.inl (-1))) M) (kU : ∀ r M', r < 8 → x = nI r → ru r = -1 → an_cfm M M' → M' 21 2 = -1 → M' 21 3 = 0 → Q (some (.inl (-3))) M') (k3 : ∀ r, r < 8 → x = nI r → ∀ M' rt us, rt < n → ru r = nI rt → an_cfm M M' → M' 21 2 = -1 → M' 21 3 = 0 → an_lst (an_cu n kd a b ru rt) us → an_U n kd a ru us → Q (some (.inl (-3))) M') (k4 : ∀ r, r < 8 → x = nI r → ∀ M' rt us em cm, rt < n → ru r = nI rt → an_cfm M M' → M' 21 2 = -1 → M' 21 3 = 0 → an_lst (an_cu n kd a b ru rt) us → ¬ an_U n kd a ru us → an_lst (an_ce n kd a b ru us) em → an_lst (an_cf 1 n kd a b ru us em) cm → an_R n kd a ru us cm r → Q (some (.inl (-4))) M') (k5 : ∀ r, r < 8 → x = nI r → ∀ M' rt us em cm, rt < n → ru r = nI rt → an_cfm M M' → M' 21 2 = -1 → M' 21 3 = 0 → an_lst (an_cu n kd a b ru rt) us → ¬ an_U n kd a ru us → an_lst (an_ce n kd a b ru us) em → an_lst (an_cf 1 n kd a b ru us em) cm → ¬ an_R n kd a ru us cm r → an_E n kd a us em → Q (some (.inl (-5))) M') (k0 : ∀ r, r < 8 → x = nI r → ∀ M' rt us em cm fi nx, rt < n → ru r = nI rt → an_cfm M M' → st_CM M' true n us em fi nx ru rt → an_lst (an_cu n kd a b ru rt) us → ¬ an_U n kd a ru us → an_lst (an_ce n kd a b ru us) em → an_lst (an_cf 1 n kd a b ru us em) cm → ¬ an_R n kd a ru us cm r → ¬ an_E n kd a us em → an_lst (an_cf 0 n kd a b ru us em) fi → an_lst (an_cn n kd a b ru us em fi rt) nx → Q (some (.inl (nI (st_num (st_uq true us) n)))) M') : mm_Ev pg ly d 82 [.inr 21, .inl x] M Q := by
  have hn : n ≤ 60 := hW.1
  obtain ⟨d, rfl⟩ : ∃ e, d = e + 1 := ⟨d - 1, by omega⟩
  refine mg_body yy_Mo_compile pg_Mo_compile (Nat.le_of_ble_eq_true rfl) ?_
  show mm_Rn _ _ _ _ _ _ 0 [(0, _), (1, _)] [] _
  refine mg_aload_n 1 rfl rfl rfl ?_
  refine mg_iload_n 2 rfl rfl rfl ?_
  refine mg_iconst (v := 0) 3 rfl (by decide) rfl ?_
  refine mg_bipush (v := 7) 5 rfl (by decide) rfl ?_
  refine mg_callV3 8 rfl (Nat.le_of_ble_eq_true rfl) pg_Mo_out rfl rfl ?_
  refine sm_out 7 (by omega) rfl (by omega) (fun hno => ?_) (fun r hr hx => ?_)
  · show mm_Rn _ _ _ _ _ _ 8 [(0, _), (1, _)] [_] _
    refine mg_if_eq 11 13 rfl rfl (by decide) (fun c_8 => absurd c_8 (by decide)) (fun c_8 => ?_)
    refine mg_iconst (v := (-1)) 12 rfl (by decide) rfl ?_
    refine mg_iret rfl rfl ?_
    exact kR hno
  · subst hx
    show mm_Rn _ _ _ _ _ _ 8 [(0, _), (1, _)] [_] _
    refine mg_if_eq 11 13 rfl rfl (by decide) (fun c_8 => ?_) (fun c_8 => absurd c_8 (by decide))
    refine mg_aload_n 14 rfl rfl rfl ?_
    refine mg_iconst (v := (-1)) 15 rfl (by decide) rfl ?_
    refine mg_putI 18 rfl rfl rfl rfl ?_
    refine mg_aload_n 19 rfl rfl rfl ?_
    refine mg_iconst (v := 0) 20 rfl (by decide) rfl ?_
    refine mg_putI 23 rfl rfl rfl rfl ?_
    refine mg_aload_n 24 rfl rfl rfl ?_
    refine mg_getR 27 rfl rfl rfl rfl ?_
    refine mg_iload_n 28 rfl rfl rfl ?_
    refine mg_iald (v := ru r) 29 rfl rfl (vp_in_nI hr (by omega)) (by rw [nI_clamp (by omega)]; exact hG.2.2 r hr) rfl ?_
    refine mg_if_ge 32 35 rfl rfl (by decide) (fun c_29 => ?_) (fun c_29 => ?_)
    · have c_29' : ¬ ru r < 0 := fun z => absurd c_29 (Int32.not_le.mpr z)
      refine mg_iconst (v := 0) 36 rfl (by decide) rfl ?_
      refine mg_istore_n (L2 := [(0, _), (1, _), (2, _)]) 37 rfl (by decide) rfl rfl ?_
      have hf0 : an_cfm M (mm_up (mm_up M 21 2 (-1)) 21 3 0) := ⟨fun k h _ => by simp [mm_up, h], fun j h1 h2 => by simp [mm_up, upd, h1, h2]⟩
      obtain ⟨rt, hrt, ert⟩ := (hW.2.2 r hr).resolve_left (fun z => c_29' (by rw [z]; decide))
      refine lq_c1 (M0 := (mm_up (mm_up M 21 2 (-1)) 21 3 0)) (ru := ru) (fun r hr => by rw [hf0.1 26 (by decide) (by omega)]; exact hG.2.2 r hr) (fun M1 hf1 h27 => ?_) 0 0 _ (by omega) rfl (fun _ _ => rfl) (fun q hq => by omega)
      refine mg_iconst (v := 0) 62 rfl (by decide) rfl ?_
      refine mg_istore_n (L2 := [(0, _), (1, _), (2, _)]) 63 rfl (by decide) rfl rfl ?_
      refine lq_c2 (M0 := M1) (fun M2 hf2 hz2 => ?_) 0 0 _ (by omega) rfl (fun _ _ _ _ _ _ => rfl) (fun q hq => by omega)
      have hf12 : an_cfm M M2 := an_cfm_tr hf0 (an_cfm_tr (an_cfm_of (fun q hq => hf1 q (by omega))) (an_cfm_of (fun q hq => hf2 q (by omega) (by omega) (by omega) (by omega) (by omega))))
      have e27 : ∀ r, r < 8 → M2 27 r = ru r := fun r hr => by rw [hf2 27 (by decide) (by decide) (by decide) (by decide) (by decide)]; exact h27 r hr
      have hX2 : an_M M2 n kd a b ru := by
        refine ⟨by rw [hf12.2 0 (by decide) (by decide)]; exact hG.1, fun i hi => ?_, e27⟩
        rw [hf12.1 22 (by decide) (by omega), hf12.1 23 (by decide) (by omega), hf12.1 24 (by decide) (by omega)]
        exact ⟨(hG.2.1 i hi).1, (hG.2.1 i hi).2.1, (hG.2.1 i hi).2.2.1⟩
      have e212 : M2 21 2 = -1 ∧ M2 21 3 = 0 := by
        rw [hf2 21 (by decide) (by decide) (by decide) (by decide) (by decide), hf1 21 (by decide)]
        simp [mm_up, upd]
      refine mg_aload_n 111 rfl rfl rfl ?_
      refine mg_getR 114 rfl rfl rfl rfl ?_
      refine mg_aload_n 115 rfl rfl rfl ?_
      refine mg_getR 118 rfl rfl rfl rfl ?_
      refine mg_iload_n 119 rfl rfl rfl ?_
      refine mg_iald (v := nI rt) 120 rfl rfl (vp_in_nI hr (by omega)) (by rw [nI_clamp (by omega), ← ert]; exact e27 r hr) rfl ?_
      refine mg_iconst (v := 1) 121 rfl (by decide) rfl ?_
      refine mg_zast (v := 1) (j := rt) 122 rfl rfl (vp_in_nI (by omega : rt < 60) (by omega)) (nI_clamp (by omega)) (by decide) rfl ?_
      refine mg_iconst (v := 1) 123 rfl (by decide) rfl ?_
      refine mg_istore_n (L2 := [(0, _), (1, _), (2, _)]) 124 rfl (by decide) rfl rfl ?_
      generalize hM3 : mm_up M2 28 rt 1 = M3
      have hf3 : an_mfr 28 M2 M3 := fun q hq => by rw [← hM3]; simp [mm_up, hq]
      have e28 : ∀ i, M3 28 i = if i = rt then 1 else M2 28 i := fun i => by rw [← hM3]; simp [mm_up, upd]
      have hX3 : an_M M3 n kd a b ru := an_M_fr (by rw [hf3 21 (by decide)]) (hf3 22 (by decide)) (hf3 23 (by decide)) (hf3 24 (by decide)) (hf3 27 (by decide)) hX2
      refine lq_c3 (M0 := M3) (rt := rt) hW hX3 (by omega) (fun M4 hf4 l4 => ?_) 1920 1 M3 (by omega) (fun _ _ => rfl) (fun T hT i hi => ?_) (by rw [e28, if_pos rfl]; exact ms_rf 1) rfl
      rotate_left
      · rw [e28]
        by_cases h : i = rt
        · rw [if_pos h, h]; exact hT.1
        · rw [if_neg h, (hz2 i hi).1]; exact ms_0 _
      have hfr4 : ∀ q, q ≠ 28 → M4 q = M2 q := fun q hq => (hf4 q hq).trans (hf3 q hq)
      have hX4 : an_M M4 n kd a b ru := an_M_fr (by rw [hfr4 21 (by decide)]) (hfr4 22 (by decide)) (hfr4 23 (by decide)) (hfr4 24 (by decide)) (hfr4 27 (by decide)) hX2
      have hcf4 : an_cfm M M4 := an_cfm_tr hf12 (an_cfm_of (fun q hq => hfr4 q (by omega)))
      have e4 : M4 21 2 = -1 ∧ M4 21 3 = 0 := by rw [hfr4 21 (by decide)]; exact e212
      refine mg_aload_n 137 rfl rfl rfl ?_
      refine mg_iload_n 138 rfl rfl rfl ?_
      refine mg_callV1 141 rfl (Nat.le_of_ble_eq_true rfl) pg_Mo_bad rfl rfl ?_
      refine sm_bad (us := M4 28) hW hX4 hrt hr ert l4 rfl (fun i hi => by rw [hfr4 29 (by decide), hfr4 30 (by decide), hfr4 32 (by decide)]; exact ⟨(hz2 i hi).2.1, (hz2 i hi).2.2.1, (hz2 i hi).2.2.2.2⟩) (by omega) (fun hyU => ?_) (fun M5 hf5 hnU l5 l6 l7 hyR => ?_) (fun M5 hf5 hnU l5 l6 l7 hnR hyE => ?_) (fun M5 hf5 hnU l5 l6 l7 hnR hnE => ?_)
      · show mm_Rn _ _ _ _ _ _ 141 [(0, _), (1, _)] [_] _
        refine mg_istore_n (L2 := [(0, _), (1, _), (3, _)]) 142 rfl (by decide) rfl rfl ?_
        refine mg_iload_n 143 rfl rfl rfl ?_
        refine mg_if_ge 146 148 rfl rfl (by decide) (fun c_143 => absurd c_143 (by decide)) (fun c_143 => ?_)
        refine mg_iload_n 147 rfl rfl rfl ?_
        refine mg_iret rfl rfl ?_
        exact k3 r hr rfl M4 rt _ hrt ert hcf4 e4.1 e4.2 l4 hyU
      · show mm_Rn _ _ _ _ _ _ 141 [(0, _), (1, _)] [_] _
        refine mg_istore_n (L2 := [(0, _), (1, _), (3, _)]) 142 rfl (by decide) rfl rfl ?_
        refine mg_iload_n 143 rfl rfl rfl ?_
        refine mg_if_ge 146 148 rfl rfl (by decide) (fun c_143 => absurd c_143 (by decide)) (fun c_143 => ?_)
        refine mg_iload_n 147 rfl rfl rfl ?_
        refine mg_iret rfl rfl ?_
        have hcf5 : an_cfm M M5 := an_cfm_tr hcf4 (an_cfm_of (fun q hq => hf5 q (by omega) (by omega) (by omega)))
        have e5 : M5 21 2 = -1 ∧ M5 21 3 = 0 := by rw [hf5 21 (by decide) (by decide) (by decide)]; exact e4
        exact k4 r hr rfl M5 rt _ _ _ hrt ert hcf5 e5.1 e5.2 l4 hnU l5 l7 hyR
      · show mm_Rn _ _ _ _ _ _ 141 [(0, _), (1, _)] [_] _
        refine mg_istore_n (L2 := [(0, _), (1, _), (3, _)]) 142 rfl (by decide) rfl rfl ?_
        refine mg_iload_n 143 rfl rfl rfl ?_
        refine mg_if_ge 146 148 rfl rfl (by decide) (fun c_143 => absurd c_143 (by decide)) (fun c_143 => ?_)
        refine mg_iload_n 147 rfl rfl rfl ?_
        refine mg_iret rfl rfl ?_
        have hcf5 : an_cfm M M5 := an_cfm_tr hcf4 (an_cfm_of (fun q hq => hf5 q (by omega) (by omega) (by omega)))
        have e5 : M5 21 2 = -1 ∧ M5 21 3 = 0 := by rw [hf5 21 (by decide) (by decide) (by decide)]; exact e4
        exact k5 r hr rfl M5 rt _ _ _ hrt ert hcf5 e5.1 e5.2 l4 hnU l5 l7 hnR hyE
      · show mm_Rn _ _ _ _ _ _ 141 [(0, _), (1, _)] [_] _
        refine mg_istore_n (L2 := [(0, _), (1, _), (3, _)]) 142 rfl (by decide) rfl rfl ?_
        refine mg_iload_n 143 rfl rfl rfl ?_
        refine mg_if_ge 146 148 rfl rfl (by decide) (fun c_143 => ?_) (fun c_143 => absurd c_143 (by decide))
        refine mg_aload_n 149 rfl rfl rfl ?_
        refine mg_aload_n 150 rfl rfl rfl ?_
        refine mg_getR 153 rfl rfl rfl rfl ?_
        refine mg_iload_n 154 rfl rfl rfl ?_
        refine mg_iald (v := nI rt) 155 rfl rfl (vp_in_nI hr (by omega)) (by rw [nI_clamp (by omega), ← ert, hf5 27 (by decide) (by decide) (by decide)]; exact hX4.2.2 r hr) rfl ?_
        refine mg_putI 158 rfl rfl rfl rfl ?_
        refine mg_aload_n 159 rfl rfl rfl ?_
        refine mg_getR 162 rfl rfl rfl rfl ?_
        refine mg_aload_n 163 rfl rfl rfl ?_
        refine mg_getI (v := nI rt) 166 rfl rfl (Or.inl rfl) rfl rfl ?_
        refine mg_sipush (v := 1024) 169 rfl (by decide) rfl ?_
        refine mg_iast (j := rt) 170 rfl rfl (vp_in_nI (by omega : rt < 60) (by omega)) (nI_clamp (by omega)) rfl ?_
        refine mg_iconst (v := 1) 171 rfl (by decide) rfl ?_
        refine mg_istore_n (L2 := [(0, _), (1, _), (2, _), (3, _)]) 172 rfl (by decide) rfl rfl ?_
        have hcf5 : an_cfm M M5 := an_cfm_tr hcf4 (an_cfm_of (fun q hq => hf5 q (by omega) (by omega) (by omega)))
        have e5 : M5 21 2 = -1 ∧ M5 21 3 = 0 := by rw [hf5 21 (by decide) (by decide) (by decide)]; exact e4
        generalize hM6 : mm_up (mm_up M5 21 2 (nI rt)) 31 rt 1024 = M6
        have hU : st_us n kd a b ru (M4 28) rt := an_us_of hW hrt l4 hnU
        have hf6 : ∀ q, q ≠ 21 → q ≠ 31 → M6 q = M5 q := fun q h1 h2 => by rw [← hM6]; simp [mm_up, h1, h2]
        have h216 : ∀ j, j ≠ 2 → M6 21 j = M5 21 j := fun j hj => by rw [← hM6]; simp [mm_up, upd, hj]
        have e216 : M6 21 2 = nI rt := by rw [← hM6]; simp [mm_up, upd]
        have e31 : ∀ i, M6 31 i = if i = rt then 1024 else M5 31 i := fun i => by rw [← hM6]; simp [mm_up, upd]
        have z31 : ∀ i, i < 60 → M5 31 i = 0 := fun i hi => by rw [hf5 31 (by decide) (by decide) (by decide), hfr4 31 (by decide)]; exact (hz2 i hi).2.2.2.1
        have hX6 : an_M M6 n kd a b ru := an_M_fr (by rw [h216 0 (by decide), hf5 21 (by decide) (by decide) (by decide)]) (by rw [hf6 22 (by decide) (by decide), hf5 22 (by decide) (by decide) (by decide)]) (by rw [hf6 23 (by decide) (by decide), hf5 23 (by decide) (by decide) (by decide)]) (by rw [hf6 24 (by decide) (by decide), hf5 24 (by decide) (by decide) (by decide)]) (by rw [hf6 27 (by decide) (by decide), hf5 27 (by decide) (by decide) (by decide)]) hX4
        have h28' : ∀ j, j < 60 → M6 28 j = M4 28 j := fun j _ => by rw [hf6 28 (by decide) (by decide), hf5 28 (by decide) (by decide) (by decide)]
        refine mg_loc [(0, _), (1, _), (2, _)] ⟨rfl, rfl, rfl, trivial⟩ (lq_c4 (M0 := M6) (em := M5 29) (fi := M5 30) hW hX6 hU (fun j _ => by rw [hf6 29 (by decide) (by decide)]) (fun j _ => by rw [hf6 30 (by decide) (by decide)]) h28' (by omega) (fun M7 hf7 l8 => ?_) 1920 1 M6 (by omega) (fun _ _ => rfl) (fun T hT i hi => ?_) (by rw [e31, if_pos rfl]; exact ms_rf _) rfl)
        rotate_left
        · rw [e31]
          by_cases h : i = rt
          · rw [if_pos h, h]; exact hT.1
          · rw [if_neg h, z31 i hi]; exact ms_0 _
        refine mg_iconst (v := 0) 185 rfl (by decide) rfl ?_
        refine mg_istore (L2 := [(0, _), (1, _), (4, _)]) 187 rfl (by decide) rfl rfl ?_
        refine lq_c5 (M0 := M7) (us := M4 28) hW.1 (by rw [hf7 21 (by decide)]; exact hX6.1) (fun j hj => ⟨by rw [hf7 28 (by decide)]; exact h28' j hj, an_cu_01 l4.2 hj⟩) (fun M8 g1 g2 g3 => ?_) 0 0 M7 (by omega) rfl (fun _ _ => rfl) (fun _ _ => rfl) (by rw [hf7 21 (by decide), h216 3 (by decide), e5.2]; rfl)
        have hcf8 : an_cfm M M8 := by
          refine an_cfm_tr hcf5 ⟨fun q h1 h2 => ?_, fun j h1 h2 => ?_⟩
          · rw [g1 q h1, hf7 q (by omega), hf6 q h1 (by omega)]
          · rw [g2 j h2, hf7 21 (by decide), h216 j h1]
        refine k0 r hr rfl M8 rt (M4 28) (M5 29) (M5 32) (M5 30) (M7 31) hrt ert hcf8 ⟨fun h => absurd h (by decide), g3, fun _ => ⟨by rw [g2 2 (by decide), hf7 21 (by decide)]; exact e216, fun i hi => ⟨?_, ?_, ?_, ?_⟩, fun r hr => ?_⟩⟩ l4 hnU l5 l7 hnR hnE l6 l8
        · rw [g1 28 (by decide), hf7 28 (by decide)]; exact h28' i hi
        · rw [g1 29 (by decide), hf7 29 (by decide), hf6 29 (by decide) (by decide)]
        · rw [g1 30 (by decide), hf7 30 (by decide), hf6 30 (by decide) (by decide)]
        · rw [g1 31 (by decide)]
        · rw [g1 27 (by decide), hf7 27 (by decide)]; exact hX6.2.2 r hr
    · refine mg_bipush (v := (-3)) 34 rfl (by decide) rfl ?_
      refine mg_iret rfl rfl ?_
      exact kU r _ hr rfl ((hW.2.2 r hr).resolve_right (fun z => by obtain ⟨j, hj, e⟩ := z; rw [e] at c_29; exact c_29 (nI_pos' (by omega)))) ⟨fun k h _ => by simp [mm_up, h], fun j h1 h2 => by simp [mm_up, upd, h1, h2]⟩ (by simp [mm_up, upd]) (by simp [mm_up, upd])
