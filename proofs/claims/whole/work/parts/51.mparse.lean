/-- what the reference holds behind a parse -/
def pm_res (M : mm_M) (P : pv_D) (rt : Nat) : Prop := M 21 11 = nI (pv_run P rt).2.2.2.1 ∧ M 21 12 = nI (pv_run P rt).2.2.1 ∧ M 21 13 = pv_due P rt ∧ M 21 14 = nI (pv_tn P rt) ∧ ∀ i, i < pv_tn P rt → M 37 i = (pv_run P rt).2.2.2.2.2.1 i ∧ M 38 i = (pv_run P rt).2.2.2.2.2.2.1 i ∧ M 39 i = (pv_run P rt).2.2.2.2.2.2.2.1 i
def pm_fr2 (M M' : mm_M) : Prop := (∀ k, k < 34 → k ≠ 21 → M' k = M k) ∧ ∀ j, j < 4 → M' 21 j = M 21 j
theorem pm_fr2_of {M M' : mm_M} (h : pm_fr M M') : pm_fr2 M M' := ⟨h.1, fun j hj => h.2 j (Or.inl hj)⟩
theorem pm_fr2_up {M M' : mm_M} {j : Nat} {x : Int32} (hj : 4 ≤ j) (h : pm_fr2 M M') : pm_fr2 M (mm_up M' 21 j x) := by
  refine ⟨fun k a b => by rw [mm_up_ne k b]; exact h.1 k a b, fun i hi => ?_⟩
  have : i ≠ j := by omega
  simp [mm_up, upd, this]
  exact h.2 i hi
set_option maxHeartbeats 2000000 in
set_option maxRecDepth 20000 in
theorem sm_parse {d : Nat} {M : mm_M} {Q : mm_Qt} {rt : Nat} {P : pv_D} {lv : Nat → Nat} {u : Nat → Prop} {z : Nat} {em fi nx us : Nat → Int32} (hP : pv_val P lv u z) (hD : pm_D M P u z em fi nx us) (h10 : ∀ q, q < z → pv_tk P q < 10) (hrt : u rt) (h2 : M 21 2 = nI rt) (hd : 11 ≤ d) (k : ∀ M', pm_fr2 M M' → pm_res M' P rt → Q (some (.inl (pv_err P rt))) M') : mm_Ev pg ly d 102 [.inr 21] M Q := by
  have hr60 := (hD.2.2.2 rt hrt).1
  have hz := hP.2.1
  obtain ⟨d, rfl⟩ : ∃ e, d = e + 1 := ⟨d - 1, by omega⟩
  refine mg_body yy_Mo_parse pg_Mo_parse (Nat.le_of_ble_eq_true rfl) ?_
  show mm_Rn _ _ _ _ _ _ 0 [(0, _)] [] _
  refine mg_aload_n 1 rfl rfl rfl ?_
  refine mg_getI (v := nI rt) 4 rfl rfl (Or.inl rfl) h2 rfl ?_
  refine mg_if_ge 7 9 rfl rfl (by decide) (fun c_4 => ?_) (fun c_4 => absurd (nI_pos' (by omega)) c_4)
  refine mg_aload_n 10 rfl rfl rfl ?_
  refine mg_iconst (v := 0) 11 rfl (by decide) rfl ?_
  refine mg_putI 14 rfl rfl rfl rfl ?_
  refine mg_aload_n 15 rfl rfl rfl ?_
  refine mg_iconst (v := 0) 16 rfl (by decide) rfl ?_
  refine mg_putI 19 rfl rfl rfl rfl ?_
  refine mg_aload_n 20 rfl rfl rfl ?_
  refine mg_bipush (v := (-10)) 22 rfl (by decide) rfl ?_
  refine mg_putI 25 rfl rfl rfl rfl ?_
  refine mg_aload_n 26 rfl rfl rfl ?_
  refine mg_iconst (v := 0) 27 rfl (by decide) rfl ?_
  refine mg_putI 30 rfl rfl rfl rfl ?_
  refine mg_aload_n 31 rfl rfl rfl ?_
  refine mg_iconst (v := 0) 32 rfl (by decide) rfl ?_
  refine mg_putI 35 rfl rfl rfl rfl ?_
  refine mg_aload_n 36 rfl rfl rfl ?_
  refine mg_iconst (v := 0) 37 rfl (by decide) rfl ?_
  refine mg_putI 40 rfl rfl rfl rfl ?_
  refine mg_aload_n 41 rfl rfl rfl ?_
  refine mg_iconst (v := (-1)) 42 rfl (by decide) rfl ?_
  refine mg_putI 45 rfl rfl rfl rfl ?_
  generalize hM0 : mm_up (mm_up (mm_up (mm_up (mm_up (mm_up (mm_up M 21 4 0) 21 5 0) 21 6 (-10)) 21 7 0) 21 8 0) 21 9 0) 21 10 (-1) = M0
  have f0 : pm_fr M M0 := by
    rw [← hM0]
    exact pm_fr_tr (pm_fr_up1 (by decide)) (pm_fr_tr (pm_fr_up1 (by decide)) (pm_fr_tr (pm_fr_up1 (by decide)) (pm_fr_tr (pm_fr_up1 (by decide)) (pm_fr_tr (pm_fr_up1 (by decide)) (pm_fr_tr (pm_fr_up1 (by decide)) (pm_fr_up1 (by decide)))))))
  have r0 : pm_rep M0 pv_s0 := by
    rw [← hM0]
    exact ⟨rfl, rfl, rfl, rfl, fun i hi => absurd hi (Nat.not_lt_zero _)⟩
  have e8 : M0 21 8 = nI 0 := by rw [← hM0]; rfl
  have e4 : M0 21 4 = 0 := by rw [← hM0]; rfl
  have hkk := pv_vis_kp hP 1500 rt 0 false pv_s0 hrt (pv_s0_ok z)
  refine mg_aload_n 46 rfl rfl rfl ?_
  refine mg_aload_n 47 rfl rfl rfl ?_
  refine mg_getI (v := nI rt) 50 rfl rfl (Or.inl rfl) ((f0.2 2 (by omega)).trans h2) rfl ?_
  refine mg_callV1 53 rfl (Nat.le_of_ble_eq_true rfl) pg_Mo_go rfl rfl ?_
  refine sm_go (N := 1500) hP hrt (pm_D_fr f0 hD) r0 e8 e4 (pv_s0_ok z) (by omega) (by omega) (fun e M1 g => ?_) (fun e M1 g => ?_)
  · show mm_Rn _ _ _ _ _ _ 53 [(0, _)] [] _
    refine mg_aload_n 54 rfl rfl rfl ?_
    refine mg_getI (v := (pv_run P rt).1) 57 rfl rfl (Or.inl rfl) g.2.2.2.2.2.1 rfl ?_
    refine mg_if_ne 60 83 rfl rfl (by decide) (fun c_57 => ?_) (fun c_57 => absurd c_57 e)
    refine mg_aload_n 84 rfl rfl rfl ?_
    refine mg_aload_n 85 rfl rfl rfl ?_
    refine mg_getI (v := nI (pv_run P rt).2.2.2.1) 88 rfl rfl (Or.inl rfl) g.2.2.2.1 rfl ?_
    refine mg_putI 91 rfl rfl rfl rfl ?_
    refine mg_aload_n 92 rfl rfl rfl ?_
    refine mg_aload_n 93 rfl rfl rfl ?_
    refine mg_getI (v := nI (pv_run P rt).2.2.1) 96 rfl rfl (Or.inl rfl) g.2.2.1 rfl ?_
    refine mg_putI 99 rfl rfl rfl rfl ?_
    refine mg_aload_n 100 rfl rfl rfl ?_
    refine mg_aload_n 101 rfl rfl rfl ?_
    refine mg_getI (v := (pv_run P rt).1) 104 rfl rfl (Or.inl rfl) g.2.2.2.2.2.1 rfl ?_
    refine mg_bipush (v := (-6)) 106 rfl (by decide) rfl ?_
    refine mg_ic_ne 109 116 rfl rfl (by decide) (fun c_106 => ?_) (fun c_106 => ?_)
    · refine mg_bipush (v := (-10)) 118 rfl (by decide) rfl ?_
      refine mg_putI 121 rfl rfl rfl rfl ?_
      refine mg_aload_n 122 rfl rfl rfl ?_
      refine mg_aload_n 123 rfl rfl rfl ?_
      refine mg_getI (v := (pv_run P rt).1) 126 rfl rfl (Or.inl rfl) g.2.2.2.2.2.1 rfl ?_
      refine mg_if_ne 129 136 rfl rfl (by decide) (fun c_126 => ?_) (fun c_126 => absurd c_126 e)
      refine mg_iconst (v := 0) 137 rfl (by decide) rfl ?_
      refine mg_putI 140 rfl rfl rfl rfl ?_
      refine mg_aload_n 141 rfl rfl rfl ?_
      refine mg_getI (v := (pv_run P rt).1) 144 rfl rfl (Or.inl rfl) g.2.2.2.2.2.1 rfl ?_
      refine mg_iret rfl rfl ?_
      have er : pv_err P rt = (pv_run P rt).1 := if_neg e
      have ed : pv_due P rt = -10 := (if_neg e).trans (if_neg c_106)
      have et : pv_tn P rt = 0 := if_neg (by rw [er]; exact e)
      rw [er] at k
      exact k _ (pm_fr2_up (by decide) (pm_fr2_up (by decide) (pm_fr2_up (by decide) (pm_fr2_up (by decide) (pm_fr2_of (pm_fr_tr f0 g.1)))))) ⟨rfl, rfl, by rw [ed]; rfl, by rw [et]; rfl, fun i hi => by rw [et] at hi; omega⟩
    · refine mg_aload_n 110 rfl rfl rfl ?_
      refine mg_getI (v := (pv_run P rt).2.1) 113 rfl rfl (Or.inl rfl) (g.2.2.2.2.2.2 c_106) rfl ?_
      refine mg_goto 118 rfl (by decide) ?_
      refine mg_putI 121 rfl rfl rfl rfl ?_
      refine mg_aload_n 122 rfl rfl rfl ?_
      refine mg_aload_n 123 rfl rfl rfl ?_
      refine mg_getI (v := (pv_run P rt).1) 126 rfl rfl (Or.inl rfl) g.2.2.2.2.2.1 rfl ?_
      refine mg_if_ne 129 136 rfl rfl (by decide) (fun c_126 => ?_) (fun c_126 => absurd c_126 e)
      refine mg_iconst (v := 0) 137 rfl (by decide) rfl ?_
      refine mg_putI 140 rfl rfl rfl rfl ?_
      refine mg_aload_n 141 rfl rfl rfl ?_
      refine mg_getI (v := (pv_run P rt).1) 144 rfl rfl (Or.inl rfl) g.2.2.2.2.2.1 rfl ?_
      refine mg_iret rfl rfl ?_
      have er : pv_err P rt = (pv_run P rt).1 := if_neg e
      have ed : pv_due P rt = (pv_run P rt).2.1 := (if_neg e).trans (if_pos c_106)
      have et : pv_tn P rt = 0 := if_neg (by rw [er]; exact e)
      rw [er] at k
      exact k _ (pm_fr2_up (by decide) (pm_fr2_up (by decide) (pm_fr2_up (by decide) (pm_fr2_up (by decide) (pm_fr2_of (pm_fr_tr f0 g.1)))))) ⟨rfl, rfl, by rw [ed]; rfl, by rw [et]; rfl, fun i hi => by rw [et] at hi; omega⟩
  · show mm_Rn _ _ _ _ _ _ 53 [(0, _)] [] _
    refine mg_aload_n 54 rfl rfl rfl ?_
    refine mg_getI (v := 0) 57 rfl rfl (Or.inl rfl) g.2.2.2.2 rfl ?_
    refine mg_if_ne 60 83 rfl rfl (by decide) (fun c_57 => absurd c_57 (by decide)) (fun c_57 => ?_)
    refine mg_aload_n 61 rfl rfl rfl ?_
    refine mg_getI (v := nI (pv_run P rt).2.2.1) 64 rfl rfl (Or.inl rfl) g.2.2.1.1 rfl ?_
    refine mg_aload_n 65 rfl rfl rfl ?_
    refine mg_getI (v := nI z) 68 rfl rfl (Or.inl rfl) ((g.1.2 1 (by omega)).trans ((f0.2 1 (by omega)).trans hD.1)) rfl ?_
    refine mg_ic_ge 71 83 rfl rfl (by decide) (fun c_68 => ?_) (fun c_68 => ?_)
    · refine mg_aload_n 84 rfl rfl rfl ?_
      refine mg_aload_n 85 rfl rfl rfl ?_
      refine mg_getI (v := nI (pv_run P rt).2.2.2.1) 88 rfl rfl (Or.inl rfl) g.2.2.1.2.1 rfl ?_
      refine mg_putI 91 rfl rfl rfl rfl ?_
      refine mg_aload_n 92 rfl rfl rfl ?_
      refine mg_aload_n 93 rfl rfl rfl ?_
      refine mg_getI (v := nI (pv_run P rt).2.2.1) 96 rfl rfl (Or.inl rfl) g.2.2.1.1 rfl ?_
      refine mg_putI 99 rfl rfl rfl rfl ?_
      refine mg_aload_n 100 rfl rfl rfl ?_
      refine mg_aload_n 101 rfl rfl rfl ?_
      refine mg_getI (v := 0) 104 rfl rfl (Or.inl rfl) g.2.2.2.2 rfl ?_
      refine mg_bipush (v := (-6)) 106 rfl (by decide) rfl ?_
      refine mg_ic_ne 109 116 rfl rfl (by decide) (fun c_106 => ?_) (fun c_106 => absurd c_106 (by decide))
      refine mg_bipush (v := (-10)) 118 rfl (by decide) rfl ?_
      refine mg_putI 121 rfl rfl rfl rfl ?_
      refine mg_aload_n 122 rfl rfl rfl ?_
      refine mg_aload_n 123 rfl rfl rfl ?_
      refine mg_getI (v := 0) 126 rfl rfl (Or.inl rfl) g.2.2.2.2 rfl ?_
      refine mg_if_ne 129 136 rfl rfl (by decide) (fun c_126 => absurd c_126 (by decide)) (fun c_126 => ?_)
      refine mg_aload_n 130 rfl rfl rfl ?_
      refine mg_getI (v := nI (pv_run P rt).2.2.2.2.1) 133 rfl rfl (Or.inl rfl) g.2.2.1.2.2.1 rfl ?_
      refine mg_goto 137 rfl (by decide) ?_
      refine mg_putI 140 rfl rfl rfl rfl ?_
      refine mg_aload_n 141 rfl rfl rfl ?_
      refine mg_getI (v := 0) 144 rfl rfl (Or.inl rfl) g.2.2.2.2 rfl ?_
      refine mg_iret rfl rfl ?_
      have hpl : pv_tk P (pv_run P rt).2.2.1 = 10 := hP.2.2.1 _ ((nI_leI (by omega) (by have := hkk.1.1; have := hP.2.1; show (pv_vis P 1500 rt 0 false pv_s0).2.2.1 < 2 ^ 31; omega)).mp c_68)
      have e' : (pv_run P rt).1 = 0 := e
      have er : pv_err P rt = 0 := by unfold pv_err; rw [if_pos e', if_pos hpl]
      have ed : pv_due P rt = -10 := by unfold pv_due; rw [if_pos e', if_pos hpl]
      have et : pv_tn P rt = (pv_run P rt).2.2.2.2.1 := if_pos er
      rw [er] at k
      exact k _ (pm_fr2_up (by decide) (pm_fr2_up (by decide) (pm_fr2_up (by decide) (pm_fr2_up (by decide) (pm_fr2_of (pm_fr_tr f0 g.1)))))) ⟨rfl, rfl, by rw [ed]; rfl, by rw [et]; rfl, fun i hi => by rw [et] at hi; exact g.2.2.1.2.2.2.2 i hi⟩
    · refine mg_aload_n 72 rfl rfl rfl ?_
      refine mg_bipush (v := (-6)) 74 rfl (by decide) rfl ?_
      refine mg_putI 77 rfl rfl rfl rfl ?_
      refine mg_aload_n 78 rfl rfl rfl ?_
      refine mg_bipush (v := 10) 80 rfl (by decide) rfl ?_
      refine mg_putI 83 rfl rfl rfl rfl ?_
      refine mg_aload_n 84 rfl rfl rfl ?_
      refine mg_aload_n 85 rfl rfl rfl ?_
      refine mg_getI (v := nI (pv_run P rt).2.2.2.1) 88 rfl rfl (Or.inl rfl) g.2.2.1.2.1 rfl ?_
      refine mg_putI 91 rfl rfl rfl rfl ?_
      refine mg_aload_n 92 rfl rfl rfl ?_
      refine mg_aload_n 93 rfl rfl rfl ?_
      refine mg_getI (v := nI (pv_run P rt).2.2.1) 96 rfl rfl (Or.inl rfl) g.2.2.1.1 rfl ?_
      refine mg_putI 99 rfl rfl rfl rfl ?_
      refine mg_aload_n 100 rfl rfl rfl ?_
      refine mg_aload_n 101 rfl rfl rfl ?_
      refine mg_getI (v := -6) 104 rfl rfl (Or.inl rfl) rfl rfl ?_
      refine mg_bipush (v := (-6)) 106 rfl (by decide) rfl ?_
      refine mg_ic_ne 109 116 rfl rfl (by decide) (fun c_106 => absurd c_106 (by decide)) (fun c_106 => ?_)
      refine mg_aload_n 110 rfl rfl rfl ?_
      refine mg_getI (v := 10) 113 rfl rfl (Or.inl rfl) rfl rfl ?_
      refine mg_goto 118 rfl (by decide) ?_
      refine mg_putI 121 rfl rfl rfl rfl ?_
      refine mg_aload_n 122 rfl rfl rfl ?_
      refine mg_aload_n 123 rfl rfl rfl ?_
      refine mg_getI (v := -6) 126 rfl rfl (Or.inl rfl) rfl rfl ?_
      refine mg_if_ne 129 136 rfl rfl (by decide) (fun c_126 => ?_) (fun c_126 => absurd c_126 (by decide))
      refine mg_iconst (v := 0) 137 rfl (by decide) rfl ?_
      refine mg_putI 140 rfl rfl rfl rfl ?_
      refine mg_aload_n 141 rfl rfl rfl ?_
      refine mg_getI (v := -6) 144 rfl rfl (Or.inl rfl) rfl rfl ?_
      refine mg_iret rfl rfl ?_
      have hlt : (pv_run P rt).2.2.1 < z := Nat.not_le.mp (fun h => c_68 (nI_le h (by have := hkk.1.1; have := hP.2.1; show (pv_vis P 1500 rt 0 false pv_s0).2.2.1 < 2 ^ 31; omega)))
      have hpl : ¬ pv_tk P (pv_run P rt).2.2.1 = 10 := by have := h10 _ hlt; omega
      have e' : (pv_run P rt).1 = 0 := e
      have er : pv_err P rt = -6 := by unfold pv_err; rw [if_pos e', if_neg hpl]
      have ed : pv_due P rt = 10 := by unfold pv_due; rw [if_pos e', if_neg hpl]
      have et : pv_tn P rt = 0 := if_neg (by rw [er]; decide)
      rw [er] at k
      exact k _ (pm_fr2_up (by decide) (pm_fr2_up (by decide) (pm_fr2_up (by decide) (pm_fr2_up (by decide) (pm_fr2_up (by decide) (pm_fr2_up (by decide) (pm_fr2_of (pm_fr_tr f0 g.1)))))))) ⟨rfl, rfl, by rw [ed]; rfl, by rw [et]; rfl, fun i hi => by rw [et] at hi; omega⟩
set_option maxHeartbeats 2000000 in
set_option maxRecDepth 20000 in
theorem sm_parseR {d : Nat} {M : mm_M} {Q : mm_Qt} (h2 : M 21 2 = -1) (hd : 1 ≤ d) (k : Q (some (.inl (-1))) M) : mm_Ev pg ly d 102 [.inr 21] M Q := by
  obtain ⟨d, rfl⟩ : ∃ e, d = e + 1 := ⟨d - 1, by omega⟩
  refine mg_body yy_Mo_parse pg_Mo_parse (Nat.le_of_ble_eq_true rfl) ?_
  show mm_Rn _ _ _ _ _ _ 0 [(0, _)] [] _
  refine mg_aload_n 1 rfl rfl rfl ?_
  refine mg_getI (v := -1) 4 rfl rfl (Or.inl rfl) h2 rfl ?_
  refine mg_if_ge 7 9 rfl rfl (by decide) (fun c_4 => absurd c_4 (by decide)) (fun c_4 => ?_)
  refine mg_iconst (v := (-1)) 8 rfl (by decide) rfl ?_
  refine mg_iret rfl rfl ?_
  exact k
