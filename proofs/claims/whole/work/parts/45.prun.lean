set_option maxHeartbeats 2000000 in
set_option maxRecDepth 20000 in
theorem sp_clear {d : Nat} {M : mm_M} {Q : mm_Qt} (hd : 1 ≤ d) (k : Q none (mm_up (mm_up M 16 4 0) 16 3 (-1))) : mm_Ev pg ly d 46 [.inr 16] M Q := by
  obtain ⟨d, rfl⟩ : ∃ e, d = e + 1 := ⟨d - 1, by omega⟩
  refine mg_body yy_Fo_clear pg_Fo_clear (Nat.le_of_ble_eq_true rfl) ?_
  show mm_Rn _ _ _ _ _ _ 0 [(0, _)] [] _
  refine mg_aload_n 1 rfl rfl rfl ?_
  refine mg_iconst (v := 0) 2 rfl (by decide) rfl ?_
  refine mg_putI 5 rfl rfl rfl rfl ?_
  refine mg_aload_n 6 rfl rfl rfl ?_
  refine mg_iconst (v := (-1)) 7 rfl (by decide) rfl ?_
  refine mg_putI 10 rfl rfl rfl rfl ?_
  refine mg_vret rfl rfl ?_
  exact k
set_option maxHeartbeats 2000000 in
set_option maxRecDepth 20000 in
theorem sp_run {d : Nat} {M : mm_M} {Q : mm_Qt} {rt : Nat} {P : pv_D} {lv : Nat → Nat} {u : Nat → Prop} {z : Nat} {em fi nx us : Nat → Int32} (hP : pv_val P lv u z) (hD : px_D M P u z em fi nx us) (hrt : u rt) (h77 : M 7 7 = nI rt) (hd : 200 ≤ d) (k : ∀ M', px_fr M M' → px_res M' P rt → Q (some (.inl (pv_err P rt))) M') : mm_Ev pg ly d 53 [.inr 20] M Q := by
  obtain ⟨d, rfl⟩ : ∃ e, d = e + 1 := ⟨d - 1, by omega⟩
  refine mg_body yy_Pa_run pg_Pa_run (Nat.le_of_ble_eq_true rfl) ?_
  show mm_Rn _ _ _ _ _ _ 0 [(0, _)] [] _
  refine mg_aload_n 1 rfl rfl rfl ?_
  refine mg_iconst (v := 0) 2 rfl (by decide) rfl ?_
  refine mg_putI 5 rfl rfl rfl rfl ?_
  refine mg_aload_n 6 rfl rfl rfl ?_
  refine mg_bipush (v := (-10)) 8 rfl (by decide) rfl ?_
  refine mg_putI 11 rfl rfl rfl rfl ?_
  refine mg_aload_n 12 rfl rfl rfl ?_
  refine mg_iconst (v := 0) 13 rfl (by decide) rfl ?_
  refine mg_putI 16 rfl rfl rfl rfl ?_
  refine mg_aload_n 17 rfl rfl rfl ?_
  refine mg_getR 20 rfl rfl rfl rfl ?_
  refine mg_callV0 23 rfl (Nat.le_of_ble_eq_true rfl) pg_Fo_clear rfl rfl ?_
  refine sp_clear (by omega) ?_
  show mm_Rn _ _ _ _ _ _ 23 [(0, _)] [] _
  generalize hM0 : mm_up (mm_up (mm_up (mm_up (mm_up M 20 4 0) 20 5 (-10)) 20 6 0) 16 4 0) 16 3 (-1) = M0
  have f0 : px_fr M M0 := by
    rw [← hM0]
    exact px_fr_tr (px_fr_up (by decide)) (px_fr_tr (px_fr_up (by decide)) (px_fr_tr (px_fr_up (by decide)) (px_fr_tr (px_fr_up (by decide)) (px_fr_up (by decide)))))
  have r0 : px_rep M0 pv_s0 := by
    rw [← hM0]
    exact ⟨by simp [mm_up, upd]; rfl, by simp [mm_up, upd]; rfl, by simp [mm_up, upd]; rfl, by simp [mm_up, upd]; rfl, fun i hi => absurd hi (Nat.not_lt_zero _)⟩
  have d0 : M0 20 5 = -10 := by rw [← hM0]; simp [mm_up, upd]
  have hD0 := px_D_fr f0 hD
  have hkk := pv_vis_kp hP 1500 rt 0 false pv_s0 hrt (pv_s0_ok z)
  refine mg_aload_n 24 rfl rfl rfl ?_
  refine mg_aload_n 25 rfl rfl rfl ?_
  refine mg_getR 28 rfl rfl rfl rfl ?_
  refine mg_getI (v := nI rt) 31 rfl rfl (Or.inl rfl) (by rw [f0 7 (by omega)]; exact h77) rfl ?_
  refine mg_iconst (v := 0) 32 rfl (by decide) rfl ?_
  refine mg_iconst (v := 0) 33 rfl (by decide) rfl ?_
  refine mg_callV3 36 rfl (Nat.le_of_ble_eq_true rfl) pg_Pa_visit rfl rfl ?_
  refine sp_visit hP 1500 _ _ 0 false _ pv_s0 _ hD0 r0 (pv_s0_ok z) hrt (by omega) (by decide) (by have := (hP.1 rt hrt).2.2.1; omega) (fun M1 f1 r1 e1 => ?_)
  show mm_Rn _ _ _ _ _ _ 36 [(0, _)] [_] _
  refine mg_istore_n (L2 := [(0, _), (1, _)]) 37 rfl (by decide) rfl rfl ?_
  refine mg_iload_n 38 rfl rfl rfl ?_
  refine mg_if_ne 41 66 rfl rfl (by decide) (fun c_38 => ?_) (fun c_38 => ?_)
  · refine mg_iload_n 67 rfl rfl rfl ?_
    refine mg_if_eq 70 77 rfl rfl (by decide) (fun c_67 => absurd c_67 c_38) (fun c_67 => ?_)
    refine mg_aload_n 71 rfl rfl rfl ?_
    refine mg_getR 74 rfl rfl rfl rfl ?_
    refine mg_callV0 77 rfl (Nat.le_of_ble_eq_true rfl) pg_Fo_clear rfl rfl ?_
    refine sp_clear (by omega) ?_
    show mm_Rn _ _ _ _ _ _ 77 [(0, _), (1, _)] [] _
    refine mg_iload_n 78 rfl rfl rfl ?_
    refine mg_iret rfl rfl ?_
    have er : pv_err P rt = (pv_run P rt).1 := if_neg c_38
    have ed : pv_due P rt = (if (pv_run P rt).1 = -6 then (pv_run P rt).2.1 else -10) := if_neg c_38
    have et : pv_tn P rt = 0 := if_neg (by rw [er]; exact c_38)
    rw [er] at k
    obtain ⟨q1, q2, q3, q4, q5⟩ := r1
    refine k _ (px_fr_tr (px_fr_tr f0 f1) (px_fr_tr (px_fr_up (by decide)) (px_fr_up (by decide)))) ⟨by rw [mm_up_ne 20 (by decide), mm_up_ne 20 (by decide)]; exact q1, ?_, by rw [mm_up_ne 20 (by decide), mm_up_ne 20 (by decide)]; exact q2, by rw [et]; simp [mm_up, upd]; rfl, fun i hi => by rw [et] at hi; omega⟩
    rw [mm_up_ne 20 (by decide), mm_up_ne 20 (by decide), e1, ed, d0]
    by_cases h6 : (pv_run P rt).1 = -6
    · rw [if_pos ⟨h6, rfl⟩, if_pos h6]; rfl
    · rw [if_neg (fun h => h6 h.1), if_neg h6]
  · refine mg_aload_n 42 rfl rfl rfl ?_
    refine mg_getR 45 rfl rfl rfl rfl ?_
    refine mg_aload_n 46 rfl rfl rfl ?_
    refine mg_getI (v := nI (pv_run P rt).2.2.1) 49 rfl rfl (Or.inl rfl) r1.1 rfl ?_
    refine mg_callV1 52 rfl (Nat.le_of_ble_eq_true rfl) pg_In_at rfl rfl ?_
    refine sp_inAt hP (px_D_fr f1 hD0) hkk.1.1 (by omega) ?_
    show mm_Rn _ _ _ _ _ _ 52 [(0, _), (1, _)] [_] _
    refine mg_bipush (v := 10) 54 rfl (by decide) rfl ?_
    refine mg_ic_eq 57 66 rfl rfl (by decide) (fun c_54 => ?_) (fun c_54 => ?_)
    · have h10 : pv_tk P (pv_run P rt).2.2.1 = 10 := (st_eq 10 10 rfl (by have := hP.2.2.2 (pv_run P rt).2.2.1; omega) (by omega)).mp c_54
      refine mg_iload_n 67 rfl rfl rfl ?_
      refine mg_if_eq 70 77 rfl rfl (by decide) (fun c_67 => ?_) (fun c_67 => absurd c_38 c_67)
      refine mg_iload_n 78 rfl rfl rfl ?_
      refine mg_iret rfl rfl ?_
      have c38 : (pv_run P rt).1 = 0 := c_38
      have er : pv_err P rt = 0 := by unfold pv_err; rw [if_pos c38, if_pos h10]
      have ed : pv_due P rt = -10 := by unfold pv_due; rw [if_pos c38, if_pos h10]
      have et : pv_tn P rt = (pv_run P rt).2.2.2.2.1 := if_pos er
      rw [er] at k
      rw [show (pv_vis P 1500 rt 0 false pv_s0).1 = 0 from c_38]
      obtain ⟨q1, q2, q3, q4, q5⟩ := r1
      exact k M1 (px_fr_tr f0 f1) ⟨q1, by rw [e1, ed, d0, if_neg (fun h => absurd (c_38.symm.trans h.1) (by decide))], q2, by rw [et]; exact q3, fun i hi => by rw [et] at hi; exact q5 i hi⟩
    · refine mg_aload_n 58 rfl rfl rfl ?_
      refine mg_bipush (v := 10) 60 rfl (by decide) rfl ?_
      refine mg_putI 63 rfl rfl rfl rfl ?_
      refine mg_bipush (v := (-6)) 65 rfl (by decide) rfl ?_
      refine mg_istore_n (L2 := [(0, _), (1, _)]) 66 rfl (by decide) rfl rfl ?_
      have h10 : ¬ pv_tk P (pv_run P rt).2.2.1 = 10 := fun h => c_54 (by rw [h]; rfl)
      refine mg_iload_n 67 rfl rfl rfl ?_
      refine mg_if_eq 70 77 rfl rfl (by decide) (fun c_67 => absurd c_67 (by decide)) (fun c_67 => ?_)
      refine mg_aload_n 71 rfl rfl rfl ?_
      refine mg_getR 74 rfl rfl rfl rfl ?_
      refine mg_callV0 77 rfl (Nat.le_of_ble_eq_true rfl) pg_Fo_clear rfl rfl ?_
      refine sp_clear (by omega) ?_
      show mm_Rn _ _ _ _ _ _ 77 [(0, _), (1, _)] [] _
      refine mg_iload_n 78 rfl rfl rfl ?_
      refine mg_iret rfl rfl ?_
      have c38 : (pv_run P rt).1 = 0 := c_38
      have er : pv_err P rt = -6 := by unfold pv_err; rw [if_pos c38, if_neg h10]
      have ed : pv_due P rt = 10 := by unfold pv_due; rw [if_pos c38, if_neg h10]
      have et : pv_tn P rt = 0 := if_neg (by rw [er]; decide)
      rw [er] at k
      obtain ⟨q1, q2, q3, q4, q5⟩ := r1
      exact k _ (px_fr_tr (px_fr_tr f0 f1) (px_fr_tr (px_fr_up (by decide)) (px_fr_tr (px_fr_up (by decide)) (px_fr_up (by decide))))) ⟨by simp [mm_up, upd]; exact q1, by simp [mm_up, upd, ed], by simp [mm_up, upd]; exact q2, by rw [et]; simp [mm_up, upd]; rfl, fun i hi => by rw [et] at hi; omega⟩
set_option maxHeartbeats 2000000 in
set_option maxRecDepth 20000 in
theorem sp_PG_parse {d : Nat} {M : mm_M} {Q : mm_Qt} {rt : Nat} {P : pv_D} {lv : Nat → Nat} {u : Nat → Prop} {z : Nat} {em fi nx us : Nat → Int32} (hP : pv_val P lv u z) (hD : px_D M P u z em fi nx us) (h78 : M 7 8 = 1) (hrt : u rt) (h77 : M 7 7 = nI rt) (hd : 201 ≤ d) (k : ∀ M', px_fr M M' → px_res M' P rt → Q (some (.inl (pv_err P rt))) M') : mm_Ev pg ly d 9 [.inr 0] M Q := by
  obtain ⟨d, rfl⟩ : ∃ e, d = e + 1 := ⟨d - 1, by omega⟩
  refine mg_body yy_PG_parse pg_PG_parse (Nat.le_of_ble_eq_true rfl) ?_
  show mm_Rn _ _ _ _ _ _ 0 [(0, _)] [] _
  refine mg_aload_n 1 rfl rfl rfl ?_
  refine mg_getR 4 rfl rfl rfl rfl ?_
  refine mg_getI (v := 1) 7 rfl rfl (Or.inr rfl) h78 rfl ?_
  refine mg_if_eq 10 20 rfl rfl (by decide) (fun c_7 => absurd c_7 (by decide)) (fun c_7 => ?_)
  refine mg_aload_n 11 rfl rfl rfl ?_
  refine mg_getR 14 rfl rfl rfl rfl ?_
  refine mg_callV0 17 rfl (Nat.le_of_ble_eq_true rfl) pg_Pa_run rfl rfl ?_
  refine sp_run hP hD hrt h77 (by omega) (fun M1 f1 r1 => ?_)
  show mm_Rn _ _ _ _ _ _ 17 [(0, _)] [_] _
  refine mg_goto 21 rfl (by decide) ?_
  refine mg_iret rfl rfl ?_
  exact k M1 f1 r1
set_option maxHeartbeats 2000000 in
set_option maxRecDepth 20000 in
theorem sp_PG_parseR {d : Nat} {M : mm_M} {Q : mm_Qt} (h78 : M 7 8 = 0) (hd : 1 ≤ d) (k : Q (some (.inl (-1))) M) : mm_Ev pg ly d 9 [.inr 0] M Q := by
  obtain ⟨d, rfl⟩ : ∃ e, d = e + 1 := ⟨d - 1, by omega⟩
  refine mg_body yy_PG_parse pg_PG_parse (Nat.le_of_ble_eq_true rfl) ?_
  show mm_Rn _ _ _ _ _ _ 0 [(0, _)] [] _
  refine mg_aload_n 1 rfl rfl rfl ?_
  refine mg_getR 4 rfl rfl rfl rfl ?_
  refine mg_getI (v := 0) 7 rfl rfl (Or.inr rfl) h78 rfl ?_
  refine mg_if_eq 10 20 rfl rfl (by decide) (fun c_7 => ?_) (fun c_7 => absurd c_7 (by decide))
  refine mg_iconst (v := (-1)) 21 rfl (by decide) rfl ?_
  refine mg_iret rfl rfl ?_
  exact k
