set_option maxHeartbeats 2000000 in
set_option maxRecDepth 20000 in
theorem sm_token {d : Nat} {M : mm_M} {Q : mm_Qt} {p : Nat} {P : pv_D} {lv : Nat → Nat} {u : Nat → Prop} {z : Nat} {em fi nx us : Nat → Int32} (hP : pv_val P lv u z) (hD : pm_D M P u z em fi nx us) (hp : p ≤ z) (h5 : M 21 5 = nI p) (hd : 1 ≤ d) (k : Q (some (.inl (nI (pv_tk P p)))) M) : mm_Ev pg ly d 91 [.inr 21] M Q := by
  have hz := hP.2.1
  obtain ⟨d, rfl⟩ : ∃ e, d = e + 1 := ⟨d - 1, by omega⟩
  refine mg_body yy_Mo_token pg_Mo_token (Nat.le_of_ble_eq_true rfl) ?_
  show mm_Rn _ _ _ _ _ _ 0 [(0, _)] [] _
  refine mg_aload_n 1 rfl rfl rfl ?_
  refine mg_getI (v := nI p) 4 rfl rfl (Or.inl rfl) h5 rfl ?_
  refine mg_aload_n 5 rfl rfl rfl ?_
  refine mg_getI (v := nI z) 8 rfl rfl (Or.inl rfl) hD.1 rfl ?_
  refine mg_ic_ge 11 23 rfl rfl (by decide) (fun c_8 => ?_) (fun c_8 => ?_)
  · refine mg_bipush (v := 10) 25 rfl (by decide) rfl ?_
    refine mg_iret rfl rfl ?_
    rw [hP.2.2.1 p ((nI_leI (by omega) (by omega)).mp c_8)] at k
    exact k
  · have hlt : p < z := Nat.not_le.mp (fun h => c_8 (nI_le h (by omega)))
    refine mg_aload_n 12 rfl rfl rfl ?_
    refine mg_getR 15 rfl rfl rfl rfl ?_
    refine mg_aload_n 16 rfl rfl rfl ?_
    refine mg_getI (v := nI p) 19 rfl rfl (Or.inl rfl) h5 rfl ?_
    refine mg_iald (v := nI (pv_tk P p)) 20 rfl rfl (vp_in_nI (by omega : p < 40) (by omega)) (by rw [nI_clamp (by omega)]; exact hD.2.1 p hlt) rfl ?_
    refine mg_goto 25 rfl (by decide) ?_
    refine mg_iret rfl rfl ?_
    exact k
set_option maxHeartbeats 2000000 in
set_option maxRecDepth 20000 in
theorem sm_grow {d : Nat} {M : mm_M} {Q : mm_Qt} {L : Int32} {s : pv_S} {z : Nat} (hT : pm_tr M s) (hS : pv_ok z s) (hd : 1 ≤ d) (k9 : s.2.2.1 = 90 → Q none (mm_up M 21 4 (-9))) (k : s.2.2.1 < 90 → ∀ M', pm_gf s.2.2.1 M M' → pm_tr M' (pv_add L s) → M' 40 s.2.2.1 = pv_op s → Q none M') : mm_Ev pg ly d 92 [.inr 21, .inl L, .inl (nI s.1)] M Q := by
  have h90 := hS.2.2.1
  have c6n : ∀ {a : Prop}, a → a := fun h => h
  rcases hS.2.2.2 with ho | ⟨j, hj, ho⟩
  · have hop : M 21 10 = -1 := hT.2.1.trans ho
    obtain ⟨d, rfl⟩ : ∃ e, d = e + 1 := ⟨d - 1, by omega⟩
    refine mg_body yy_Mo_grow pg_Mo_grow (Nat.le_of_ble_eq_true rfl) ?_
    show mm_Rn _ _ _ _ _ _ 0 [(0, _), (1, _), (2, _)] [] _
    refine mg_aload_n 1 rfl rfl rfl ?_
    refine mg_getI (v := nI s.2.2.1) 4 rfl rfl (Or.inl rfl) hT.1 rfl ?_
    refine mg_bipush (v := 90) 6 rfl (by decide) rfl ?_
    refine mg_ic_ne 9 16 rfl rfl (by decide) (fun c_6 => ?_) (fun c_6 => ?_)
    · refine mg_aload_n 17 rfl rfl rfl ?_
      refine mg_getR 20 rfl rfl rfl rfl ?_
      refine mg_aload_n 21 rfl rfl rfl ?_
      refine mg_getI (v := nI s.2.2.1) 24 rfl rfl (Or.inl rfl) hT.1 rfl ?_
      refine mg_iload_n 25 rfl rfl rfl ?_
      refine mg_iast (j := s.2.2.1) 26 rfl rfl (vp_in_nI (by omega : s.2.2.1 < 91) (by omega)) (nI_clamp (by omega)) rfl ?_
      refine mg_aload_n 27 rfl rfl rfl ?_
      refine mg_getR 30 rfl rfl rfl rfl ?_
      refine mg_aload_n 31 rfl rfl rfl ?_
      refine mg_getI (v := nI s.2.2.1) 34 rfl rfl (Or.inl rfl) hT.1 rfl ?_
      refine mg_iconst (v := 0) 35 rfl (by decide) rfl ?_
      refine mg_iast (j := s.2.2.1) 36 rfl rfl (vp_in_nI (by omega : s.2.2.1 < 91) (by omega)) (nI_clamp (by omega)) rfl ?_
      refine mg_aload_n 37 rfl rfl rfl ?_
      refine mg_getR 40 rfl rfl rfl rfl ?_
      refine mg_aload_n 41 rfl rfl rfl ?_
      refine mg_getI (v := nI s.2.2.1) 44 rfl rfl (Or.inl rfl) hT.1 rfl ?_
      refine mg_iload_n 45 rfl rfl rfl ?_
      refine mg_iast (j := s.2.2.1) 46 rfl rfl (vp_in_nI (by omega : s.2.2.1 < 91) (by omega)) (nI_clamp (by omega)) rfl ?_
      refine mg_aload_n 47 rfl rfl rfl ?_
      refine mg_getR 50 rfl rfl rfl rfl ?_
      refine mg_aload_n 51 rfl rfl rfl ?_
      refine mg_getI (v := nI s.2.2.1) 54 rfl rfl (Or.inl rfl) hT.1 rfl ?_
      refine mg_aload_n 55 rfl rfl rfl ?_
      refine mg_getI (v := pv_op s) 58 rfl rfl (Or.inl rfl) hT.2.1 rfl ?_
      refine mg_iast (j := s.2.2.1) 59 rfl rfl (vp_in_nI (by omega : s.2.2.1 < 91) (by omega)) (nI_clamp (by omega)) rfl ?_
      refine mg_aload_n 60 rfl rfl rfl ?_
      refine mg_getI (v := -1) 63 rfl rfl (Or.inl rfl) hop rfl ?_
      refine mg_if_lt 66 79 rfl rfl (by decide) (fun c_63 => ?_) (fun c_63 => absurd c_63 (by decide))
      refine mg_aload_n 80 rfl rfl rfl ?_
      refine mg_dup 81 rfl rfl ?_
      refine mg_getI (v := nI s.2.2.1) 84 rfl rfl (Or.inl rfl) hT.1 rfl ?_
      refine mg_iconst (v := 1) 85 rfl (by decide) rfl ?_
      refine mg_iadd (v := nI (s.2.2.1 + 1)) 86 rfl (nI_1 _) rfl ?_
      refine mg_putI 89 rfl rfl rfl rfl ?_
      refine mg_vret rfl rfl ?_
      have h9 : s.2.2.1 < 90 := by
        have := st_ne 90 c_6 rfl (by omega) (by omega)
        omega
      obtain ⟨g1, g2, g3⟩ := pm_add0 (L := L) hT ho
      exact k h9 _ g1 g2 g3
    · refine mg_aload_n 10 rfl rfl rfl ?_
      refine mg_bipush (v := (-9)) 12 rfl (by decide) rfl ?_
      refine mg_putI 15 rfl rfl rfl rfl ?_
      refine mg_vret rfl rfl ?_
      exact k9 ((st_eq 90 90 rfl (by omega) (by omega)).mp (c6n c_6))
  · have hop : M 21 10 = nI j := hT.2.1.trans ho
    obtain ⟨d, rfl⟩ : ∃ e, d = e + 1 := ⟨d - 1, by omega⟩
    refine mg_body yy_Mo_grow pg_Mo_grow (Nat.le_of_ble_eq_true rfl) ?_
    show mm_Rn _ _ _ _ _ _ 0 [(0, _), (1, _), (2, _)] [] _
    refine mg_aload_n 1 rfl rfl rfl ?_
    refine mg_getI (v := nI s.2.2.1) 4 rfl rfl (Or.inl rfl) hT.1 rfl ?_
    refine mg_bipush (v := 90) 6 rfl (by decide) rfl ?_
    refine mg_ic_ne 9 16 rfl rfl (by decide) (fun c_6 => ?_) (fun c_6 => ?_)
    · refine mg_aload_n 17 rfl rfl rfl ?_
      refine mg_getR 20 rfl rfl rfl rfl ?_
      refine mg_aload_n 21 rfl rfl rfl ?_
      refine mg_getI (v := nI s.2.2.1) 24 rfl rfl (Or.inl rfl) hT.1 rfl ?_
      refine mg_iload_n 25 rfl rfl rfl ?_
      refine mg_iast (j := s.2.2.1) 26 rfl rfl (vp_in_nI (by omega : s.2.2.1 < 91) (by omega)) (nI_clamp (by omega)) rfl ?_
      refine mg_aload_n 27 rfl rfl rfl ?_
      refine mg_getR 30 rfl rfl rfl rfl ?_
      refine mg_aload_n 31 rfl rfl rfl ?_
      refine mg_getI (v := nI s.2.2.1) 34 rfl rfl (Or.inl rfl) hT.1 rfl ?_
      refine mg_iconst (v := 0) 35 rfl (by decide) rfl ?_
      refine mg_iast (j := s.2.2.1) 36 rfl rfl (vp_in_nI (by omega : s.2.2.1 < 91) (by omega)) (nI_clamp (by omega)) rfl ?_
      refine mg_aload_n 37 rfl rfl rfl ?_
      refine mg_getR 40 rfl rfl rfl rfl ?_
      refine mg_aload_n 41 rfl rfl rfl ?_
      refine mg_getI (v := nI s.2.2.1) 44 rfl rfl (Or.inl rfl) hT.1 rfl ?_
      refine mg_iload_n 45 rfl rfl rfl ?_
      refine mg_iast (j := s.2.2.1) 46 rfl rfl (vp_in_nI (by omega : s.2.2.1 < 91) (by omega)) (nI_clamp (by omega)) rfl ?_
      refine mg_aload_n 47 rfl rfl rfl ?_
      refine mg_getR 50 rfl rfl rfl rfl ?_
      refine mg_aload_n 51 rfl rfl rfl ?_
      refine mg_getI (v := nI s.2.2.1) 54 rfl rfl (Or.inl rfl) hT.1 rfl ?_
      refine mg_aload_n 55 rfl rfl rfl ?_
      refine mg_getI (v := pv_op s) 58 rfl rfl (Or.inl rfl) hT.2.1 rfl ?_
      refine mg_iast (j := s.2.2.1) 59 rfl rfl (vp_in_nI (by omega : s.2.2.1 < 91) (by omega)) (nI_clamp (by omega)) rfl ?_
      refine mg_aload_n 60 rfl rfl rfl ?_
      refine mg_getI (v := nI j) 63 rfl rfl (Or.inl rfl) hop rfl ?_
      refine mg_if_lt 66 79 rfl rfl (by decide) (fun c_63 => absurd c_63 (nI_pos (by omega))) (fun c_63 => ?_)
      refine mg_aload_n 67 rfl rfl rfl ?_
      refine mg_getR 70 rfl rfl rfl rfl ?_
      refine mg_aload_n 71 rfl rfl rfl ?_
      refine mg_getI (v := nI j) 74 rfl rfl (Or.inl rfl) hop rfl ?_
      refine mg_dup2 75 rfl rfl ?_
      refine mg_iald (v := pm_mm M s.2.2.1 L s.1 (pv_op s) 38 j) 76 rfl rfl (vp_in_nI (by omega : j < 91) (by omega)) (by rw [nI_clamp (by omega)]; rfl) rfl ?_
      refine mg_iconst (v := 1) 77 rfl (by decide) rfl ?_
      refine mg_iadd 78 rfl rfl rfl ?_
      refine mg_iast (j := j) 79 rfl rfl (vp_in_nI (by omega : j < 91) (by omega)) (nI_clamp (by omega)) rfl ?_
      refine mg_aload_n 80 rfl rfl rfl ?_
      refine mg_dup 81 rfl rfl ?_
      refine mg_getI (v := nI s.2.2.1) 84 rfl rfl (Or.inl rfl) hT.1 rfl ?_
      refine mg_iconst (v := 1) 85 rfl (by decide) rfl ?_
      refine mg_iadd (v := nI (s.2.2.1 + 1)) 86 rfl (nI_1 _) rfl ?_
      refine mg_putI 89 rfl rfl rfl rfl ?_
      refine mg_vret rfl rfl ?_
      have h9 : s.2.2.1 < 90 := by
        have := st_ne 90 c_6 rfl (by omega) (by omega)
        omega
      obtain ⟨g1, g2, g3⟩ := pm_add1 (L := L) hT hj (by omega) ho _ rfl
      exact k h9 _ g1 g2 g3
    · refine mg_aload_n 10 rfl rfl rfl ?_
      refine mg_bipush (v := (-9)) 12 rfl (by decide) rfl ?_
      refine mg_putI 15 rfl rfl rfl rfl ?_
      refine mg_vret rfl rfl ?_
      exact k9 ((st_eq 90 90 rfl (by omega) (by omega)).mp (c6n c_6))
set_option maxHeartbeats 2000000 in
set_option maxRecDepth 20000 in
theorem sm_begin {d : Nat} {M : mm_M} {Q : mm_Qt} {w n : Nat} {s : pv_S} {P : pv_D} {lv : Nat → Nat} {u : Nat → Prop} {z : Nat} {em fi nx us : Nat → Int32} (hP : pv_val P lv u z) (hD : pm_D M P u z em fi nx us) (hR : pm_rep M s) (hS : pv_ok z s) (hn : u n) (hw : w < 120) (h4 : M 21 4 = 0) (hd : 2 ≤ d) (k8 : s.2.1 = 1500 → Q none (mm_up M 21 4 (-8))) (kN : s.2.1 < 1500 → ¬ (pv_kd P n = 8 ∧ w < 60) → ∀ M', pm_fr M M' → pm_lo w s.2.2.1 M M' → M' 34 w = nI n → M' 35 w = 0 → pm_rep M' (pv_step s) → M' 21 8 = M 21 8 → M' 21 4 = 0 → Q none M') (k9 : s.2.1 < 1500 → pv_kd P n = 8 → w < 60 → s.2.2.1 = 90 → ∀ M', pm_fr M M' → pm_lo w s.2.2.1 M M' → pm_rep M' (pv_step s) → M' 21 4 = -9 → Q none M') (k0 : s.2.1 < 1500 → pv_kd P n = 8 → w < 60 → s.2.2.1 < 90 → ∀ M', pm_fr M M' → pm_lo w s.2.2.1 M M' → M' 34 w = nI n → M' 35 w = 0 → pm_rep M' (pv_opened P n (pv_step s)) → M' 36 w = nI s.2.2.1 → M' 40 s.2.2.1 = pv_op s → M' 21 8 = M 21 8 → M' 21 4 = 0 → Q none M') : mm_Ev pg ly d 93 [.inr 21, .inl (nI n), .inl (nI w)] M Q := by
  have h15 := hS.2.1
  obtain ⟨h60, hkd, -, -, -, -, h8, -⟩ := hD.2.2.2 n hn
  obtain ⟨d, rfl⟩ : ∃ e, d = e + 1 := ⟨d - 1, by omega⟩
  refine mg_body yy_Mo_begin pg_Mo_begin (Nat.le_of_ble_eq_true rfl) ?_
  show mm_Rn _ _ _ _ _ _ 0 [(0, _), (1, _), (2, _)] [] _
  refine mg_aload_n 1 rfl rfl rfl ?_
  refine mg_getI (v := nI s.2.1) 4 rfl rfl (Or.inl rfl) hR.2.1 rfl ?_
  refine mg_sipush (v := 1500) 7 rfl (by decide) rfl ?_
  refine mg_ic_ne 10 17 rfl rfl (by decide) (fun c_7 => ?_) (fun c_7 => ?_)
  · refine mg_aload_n 18 rfl rfl rfl ?_
    refine mg_dup 19 rfl rfl ?_
    refine mg_getI (v := nI s.2.1) 22 rfl rfl (Or.inl rfl) hR.2.1 rfl ?_
    refine mg_iconst (v := 1) 23 rfl (by decide) rfl ?_
    refine mg_iadd (v := nI (s.2.1 + 1)) 24 rfl (nI_1 _) rfl ?_
    refine mg_putI 27 rfl rfl rfl rfl ?_
    refine mg_aload_n 28 rfl rfl rfl ?_
    refine mg_getR 31 rfl rfl rfl rfl ?_
    refine mg_iload_n 32 rfl rfl rfl ?_
    refine mg_iload_n 33 rfl rfl rfl ?_
    refine mg_iast (j := w) 34 rfl rfl (vp_in_nI (by omega : w < 120) (by omega)) (nI_clamp (by omega)) rfl ?_
    refine mg_aload_n 35 rfl rfl rfl ?_
    refine mg_getR 38 rfl rfl rfl rfl ?_
    refine mg_iload_n 39 rfl rfl rfl ?_
    refine mg_iconst (v := 0) 40 rfl (by decide) rfl ?_
    refine mg_iast (j := w) 41 rfl rfl (vp_in_nI (by omega : w < 120) (by omega)) (nI_clamp (by omega)) rfl ?_
    generalize hM0 : mm_up (mm_up (mm_up M 21 7 (nI (s.2.1 + 1))) 34 w (nI n)) 35 w 0 = M0
    have hst : s.2.1 < 1500 := by
      have := st_ne 1500 c_7 rfl (by omega) (by omega)
      omega
    have f0 : pm_fr M M0 := by rw [← hM0]; exact pm_fr_tr (pm_fr_up1 (by decide)) (pm_fr_tr (pm_fr_up (by decide)) (pm_fr_up (by decide)))
    have l0 : pm_lo w s.2.2.1 M M0 := by
      rw [← hM0]
      refine ⟨fun i hi => ?_, fun j hj => rfl⟩
      have : i ≠ w := by omega
      simp [mm_up, upd, this]
    have e34 : M0 34 w = nI n := by rw [← hM0]; simp [mm_up, upd]
    have e35 : M0 35 w = 0 := by rw [← hM0]; simp [mm_up, upd]
    have r0 : pm_rep M0 (pv_step s) := by
      rw [← hM0]
      exact ⟨hR.1, by simp [mm_up, upd]; rfl, hR.2.2.1, hR.2.2.2.1, hR.2.2.2.2⟩
    have e8 : M0 21 8 = M 21 8 := by rw [← hM0]; simp [mm_up, upd]
    have e4 : M0 21 4 = 0 := by rw [← hM0]; simp [mm_up, upd]; exact h4
    have hk22 : M0 22 n = nI (pv_kd P n) := by rw [f0.1 22 (by decide) (by decide)]; exact hkd
    refine mg_aload_n 42 rfl rfl rfl ?_
    refine mg_getR 45 rfl rfl rfl rfl ?_
    refine mg_iload_n 46 rfl rfl rfl ?_
    refine mg_iald (v := nI (pv_kd P n)) 47 rfl rfl (vp_in_nI (by omega : n < 60) (by omega)) (by rw [nI_clamp (by omega)]; exact hk22) rfl ?_
    refine mg_bipush (v := 8) 49 rfl (by decide) rfl ?_
    refine mg_ic_ne 52 99 rfl rfl (by decide) (fun c_49 => ?_) (fun c_49 => ?_)
    · refine mg_vret rfl rfl ?_
      exact kN hst (fun h => c_49 (by rw [h.1]; rfl)) M0 f0 l0 e34 e35 r0 e8 e4
    · refine mg_iload_n 53 rfl rfl rfl ?_
      refine mg_bipush (v := 60) 55 rfl (by decide) rfl ?_
      refine mg_ic_ge 58 99 rfl rfl (by decide) (fun c_55 => ?_) (fun c_55 => ?_)
      · refine mg_vret rfl rfl ?_
        exact kN hst (fun h => absurd ((nI_leI (a := 60) (by omega) (by omega)).mp c_55) (by omega)) M0 f0 l0 e34 e35 r0 e8 e4
      · refine mg_aload_n 59 rfl rfl rfl ?_
        refine mg_getR 62 rfl rfl rfl rfl ?_
        refine mg_iload_n 63 rfl rfl rfl ?_
        refine mg_aload_n 64 rfl rfl rfl ?_
        refine mg_getI (v := nI s.2.2.1) 67 rfl rfl (Or.inl rfl) r0.2.2.1 rfl ?_
        refine mg_iast (j := w) 68 rfl rfl (vp_in_nI (by omega : w < 120) (by omega)) (nI_clamp (by omega)) rfl ?_
        have hk : pv_kd P n = 8 := (st_eq 8 8 rfl (by have := (hP.1 n hn).1; omega) (by omega)).mp c_49
        have hw60 : w < 60 := Nat.not_le.mp (fun h => c_55 (nI_le h (by omega)))
        generalize hM1 : mm_up M0 36 w (nI s.2.2.1) = M1
        have f1 : pm_fr M M1 := by rw [← hM1]; exact pm_fr_tr f0 (pm_fr_up (by decide))
        have l1 : pm_lo w s.2.2.1 M M1 := by
          rw [← hM1]
          refine pm_lo_tr l0 (Nat.le_refl _) (Nat.le_refl _) ⟨fun i hi => ?_, fun j hj => rfl⟩
          have : i ≠ w := by omega
          simp [mm_up, upd, this]
        have e34' : M1 34 w = nI n := by rw [← hM1]; exact e34
        have e35' : M1 35 w = 0 := by rw [← hM1]; exact e35
        have e36 : M1 36 w = nI s.2.2.1 := by rw [← hM1]; simp [mm_up, upd]
        have r1 : pm_rep M1 (pv_step s) := by rw [← hM1]; exact r0
        have e8' : M1 21 8 = M 21 8 := by rw [← hM1]; exact e8
        have e4' : M1 21 4 = 0 := by rw [← hM1]; exact e4
        have hk23 : M1 23 n = pv_la P n := by rw [f1.1 23 (by decide) (by decide)]; exact h8 hk
        refine mg_aload_n 69 rfl rfl rfl ?_
        refine mg_aload_n 70 rfl rfl rfl ?_
        refine mg_getR 73 rfl rfl rfl rfl ?_
        refine mg_iload_n 74 rfl rfl rfl ?_
        refine mg_iald (v := pv_la P n) 75 rfl rfl (vp_in_nI (by omega : n < 60) (by omega)) (by rw [nI_clamp (by omega)]; exact hk23) rfl ?_
        refine mg_aload_n 76 rfl rfl rfl ?_
        refine mg_getI (v := nI s.1) 79 rfl rfl (Or.inl rfl) r1.1 rfl ?_
        refine mg_callV2 82 rfl (Nat.le_of_ble_eq_true rfl) pg_Mo_grow rfl rfl ?_
        refine sm_grow (s := pv_step s) (z := z) r1.2.2 ⟨hS.1, (by show s.2.1 + 1 ≤ 1500; omega), hS.2.2⟩ (by omega) (fun h90 => ?_) (fun h90 M2 g1 g2 g3 => ?_)
        · show mm_Rn _ _ _ _ _ _ 82 [(0, _), (1, _), (2, _)] [] _
          refine mg_aload_n 83 rfl rfl rfl ?_
          refine mg_getI (v := -9) 86 rfl rfl (Or.inl rfl) rfl rfl ?_
          refine mg_if_ne 89 99 rfl rfl (by decide) (fun c_86 => ?_) (fun c_86 => absurd c_86 (by decide))
          refine mg_vret rfl rfl ?_
          exact k9 hst hk hw60 h90 (mm_up M1 21 4 (-9)) (pm_fr_tr f1 (pm_fr_up1 (by decide))) (pm_lo_tr l1 (Nat.le_refl _) (Nat.le_refl _) (pm_lo_same (fun q hq => mm_up_ne q (by omega)))) ⟨r1.1, r1.2.1, r1.2.2⟩ (by simp [mm_up, upd])
        · have q34 : M2 34 w = M1 34 w := by rw [g1.1 34 (by decide) (by decide) (by decide) (by decide) (by decide)]
          have q35 : M2 35 w = M1 35 w := by rw [g1.1 35 (by decide) (by decide) (by decide) (by decide) (by decide)]
          have q36 : M2 36 w = M1 36 w := by rw [g1.1 36 (by decide) (by decide) (by decide) (by decide) (by decide)]
          show mm_Rn _ _ _ _ _ _ 82 [(0, _), (1, _), (2, _)] [] _
          refine mg_aload_n 83 rfl rfl rfl ?_
          refine mg_getI (v := 0) 86 rfl rfl (Or.inl rfl) ((g1.2.1 4 (by decide)).trans e4') rfl ?_
          refine mg_if_ne 89 99 rfl rfl (by decide) (fun c_86 => absurd c_86 (by decide)) (fun c_86 => ?_)
          refine mg_aload_n 90 rfl rfl rfl ?_
          refine mg_aload_n 91 rfl rfl rfl ?_
          refine mg_getR 94 rfl rfl rfl rfl ?_
          refine mg_iload_n 95 rfl rfl rfl ?_
          refine mg_iald (v := nI s.2.2.1) 96 rfl rfl (vp_in_nI (by omega : w < 120) (by omega)) (by rw [nI_clamp (by omega)]; exact q36.trans e36) rfl ?_
          refine mg_putI 99 rfl rfl rfl rfl ?_
          refine mg_vret rfl rfl ?_
          refine k0 hst hk hw60 h90 _ (pm_fr_tr f1 (pm_fr_tr (pm_gf_fr g1) (pm_fr_up1 (by decide)))) (pm_lo_tr (pm_lo_tr l1 (Nat.le_refl _) (Nat.le_refl _) (pm_gf_lo g1)) (Nat.le_refl _) (Nat.le_refl _) (pm_lo_same (fun q hq => mm_up_ne q (by omega)))) (q34.trans e34') (q35.trans e35') ⟨(g1.2.1 5 (by decide)).trans r1.1, (g1.2.1 7 (by decide)).trans r1.2.1, g2.1, by simp [mm_up, upd]; rfl, g2.2.2⟩ (q36.trans e36) (by rw [mm_up_ne 40 (by decide)]; exact g3) ((g1.2.1 8 (by decide)).trans e8') ((g1.2.1 4 (by decide)).trans e4')
  · refine mg_aload_n 11 rfl rfl rfl ?_
    refine mg_bipush (v := (-8)) 13 rfl (by decide) rfl ?_
    refine mg_putI 16 rfl rfl rfl rfl ?_
    refine mg_vret rfl rfl ?_
    exact k8 ((st_eq 1500 1500 rfl (by omega) (by omega)).mp c_7)
set_option maxHeartbeats 2000000 in
set_option maxRecDepth 20000 in
theorem sm_match {d : Nat} {M : mm_M} {Q : mm_Qt} {n : Nat} {s : pv_S} {sc : Bool} {P : pv_D} {lv : Nat → Nat} {u : Nat → Prop} {z : Nat} {em fi nx us : Nat → Int32} (hP : pv_val P lv u z) (hD : pm_D M P u z em fi nx us) (hR : pm_rep M s) (hS : pv_ok z s) (h10 : pv_oa P n < 10) (h4 : M 21 4 = 0) (hd : 2 ≤ d) (k : ∀ M', pm_fr M M' → (∀ w, pm_lo w s.2.2.1 M M') → pm_rep M' (pv_token P n sc s).2.2 → M' 21 8 = M 21 8 → M' 21 4 = (pv_token P n sc s).1 → ((pv_token P n sc s).1 = -6 → M' 21 6 = (pv_token P n sc s).2.1) → Q none M') : mm_Ev pg ly d 98 [.inr 21, .inl (nI (pv_oa P n)), .inl (px_b sc)] M Q := by
  cases sc with
  | false =>
    show mm_Ev pg ly d 98 [.inr 21, .inl (nI (pv_oa P n)), .inl 0] M Q
    obtain ⟨d, rfl⟩ : ∃ e, d = e + 1 := ⟨d - 1, by omega⟩
    refine mg_body yy_Mo_match pg_Mo_match (Nat.le_of_ble_eq_true rfl) ?_
    show mm_Rn _ _ _ _ _ _ 0 [(0, _), (1, _), (2, _)] [] _
    refine mg_aload_n 1 rfl rfl rfl ?_
    refine mg_callV0 4 rfl (Nat.le_of_ble_eq_true rfl) pg_Mo_token rfl rfl ?_
    refine sm_token hP hD hS.1 hR.1 (by omega) ?_
    show mm_Rn _ _ _ _ _ _ 4 [(0, _), (1, _), (2, _)] [_] _
    refine mg_iload_n 5 rfl rfl rfl ?_
    refine mg_ic_eq 8 20 rfl rfl (by decide) (fun c_5 => ?_) (fun c_5 => ?_)
    · refine mg_iload_n 21 rfl rfl rfl ?_
      refine mg_if_ne 24 36 rfl rfl (by decide) (fun c_21 => absurd c_21 (by decide)) (fun c_21 => ?_)
      refine mg_aload_n 25 rfl rfl rfl ?_
      refine mg_bipush (v := 16) 27 rfl (by decide) rfl ?_
      refine mg_iload_n 28 rfl rfl rfl ?_
      refine mg_iadd (v := nI (16 + pv_oa P n)) 29 rfl (nI_add 16 _) rfl ?_
      refine mg_aload_n 30 rfl rfl rfl ?_
      refine mg_getI (v := nI s.1) 33 rfl rfl (Or.inl rfl) hR.1 rfl ?_
      refine mg_callV2 36 rfl (Nat.le_of_ble_eq_true rfl) pg_Mo_grow rfl rfl ?_
      refine sm_grow hR.2.2 hS (by omega) (fun h90 => ?_) (fun h90 M2 g1 g2 g3 => ?_)
      · show mm_Rn _ _ _ _ _ _ 36 [(0, _), (1, _), (2, _)] [] _
        refine mg_aload_n 37 rfl rfl rfl ?_
        refine mg_getI (v := -9) 40 rfl rfl (Or.inl rfl) rfl rfl ?_
        refine mg_if_ne 43 53 rfl rfl (by decide) (fun c_40 => ?_) (fun c_40 => absurd c_40 (by decide))
        refine mg_vret rfl rfl ?_
        have he : pv_tk P s.1 = pv_oa P n := st_nIe (by have := hP.2.2.2 s.1; omega) (by omega) c_5
        have er : pv_token P n false s = (-9, 0, s) := by unfold pv_token; rw [if_pos he, if_neg (by decide), if_pos h90]
        rw [er] at k
        exact k _ (pm_fr_up1 (by decide)) (fun w => pm_lo_same (fun q hq => mm_up_ne q (by omega))) hR rfl rfl (fun h => absurd (show (-9 : Int32) = -6 from h) (by decide))
      · have e4' : M2 21 4 = 0 := (g1.2.1 4 (by decide)).trans h4
        show mm_Rn _ _ _ _ _ _ 36 [(0, _), (1, _), (2, _)] [] _
        refine mg_aload_n 37 rfl rfl rfl ?_
        refine mg_getI (v := 0) 40 rfl rfl (Or.inl rfl) e4' rfl ?_
        refine mg_if_ne 43 53 rfl rfl (by decide) (fun c_40 => absurd c_40 (by decide)) (fun c_40 => ?_)
        refine mg_aload_n 44 rfl rfl rfl ?_
        refine mg_dup 45 rfl rfl ?_
        refine mg_getI (v := nI s.1) 48 rfl rfl (Or.inl rfl) ((g1.2.1 5 (by decide)).trans hR.1) rfl ?_
        refine mg_iconst (v := 1) 49 rfl (by decide) rfl ?_
        refine mg_iadd (v := nI (s.1 + 1)) 50 rfl (nI_1 _) rfl ?_
        refine mg_putI 53 rfl rfl rfl rfl ?_
        refine mg_vret rfl rfl ?_
        have he : pv_tk P s.1 = pv_oa P n := st_nIe (by have := hP.2.2.2 s.1; omega) (by omega) c_5
        have er : pv_token P n false s = (0, 0, pv_adv (pv_add (nI (16 + pv_oa P n)) s)) := by unfold pv_token; rw [if_pos he, if_neg (by decide), if_neg (by omega)]
        rw [er] at k
        exact k _ (pm_fr_tr (pm_gf_fr g1) (pm_fr_up1 (by decide))) (fun w => pm_lo_tr (pm_gf_lo g1) (Nat.le_refl _) (Nat.le_refl _) (pm_lo_same (fun q hq => mm_up_ne q (by omega)))) ⟨rfl, (g1.2.1 7 (by decide)).trans hR.2.1, g2⟩ (g1.2.1 8 (by decide)) e4' (fun h => absurd (show (0 : Int32) = -6 from h) (by decide))
    · refine mg_aload_n 9 rfl rfl rfl ?_
      refine mg_bipush (v := (-6)) 11 rfl (by decide) rfl ?_
      refine mg_putI 14 rfl rfl rfl rfl ?_
      refine mg_aload_n 15 rfl rfl rfl ?_
      refine mg_iload_n 16 rfl rfl rfl ?_
      refine mg_putI 19 rfl rfl rfl rfl ?_
      refine mg_vret rfl rfl ?_
      have hne : ¬ pv_tk P s.1 = pv_oa P n := fun h => c_5 (by rw [h])
      have er : pv_token P n false s = (-6, nI (pv_oa P n), s) := by unfold pv_token; rw [if_neg hne]
      rw [er] at k
      exact k _ (pm_fr_tr (pm_fr_up1 (by decide)) (pm_fr_up1 (by decide))) (fun w => pm_lo_same (fun q hq => by rw [mm_up_ne q (by omega), mm_up_ne q (by omega)])) hR rfl rfl (fun _ => rfl)
  | true =>
    show mm_Ev pg ly d 98 [.inr 21, .inl (nI (pv_oa P n)), .inl 1] M Q
    obtain ⟨d, rfl⟩ : ∃ e, d = e + 1 := ⟨d - 1, by omega⟩
    refine mg_body yy_Mo_match pg_Mo_match (Nat.le_of_ble_eq_true rfl) ?_
    show mm_Rn _ _ _ _ _ _ 0 [(0, _), (1, _), (2, _)] [] _
    refine mg_aload_n 1 rfl rfl rfl ?_
    refine mg_callV0 4 rfl (Nat.le_of_ble_eq_true rfl) pg_Mo_token rfl rfl ?_
    refine sm_token hP hD hS.1 hR.1 (by omega) ?_
    show mm_Rn _ _ _ _ _ _ 4 [(0, _), (1, _), (2, _)] [_] _
    refine mg_iload_n 5 rfl rfl rfl ?_
    refine mg_ic_eq 8 20 rfl rfl (by decide) (fun c_5 => ?_) (fun c_5 => ?_)
    · refine mg_iload_n 21 rfl rfl rfl ?_
      refine mg_if_ne 24 36 rfl rfl (by decide) (fun c_21 => ?_) (fun c_21 => absurd c_21 (by decide))
      refine mg_aload_n 37 rfl rfl rfl ?_
      refine mg_getI (v := 0) 40 rfl rfl (Or.inl rfl) h4 rfl ?_
      refine mg_if_ne 43 53 rfl rfl (by decide) (fun c_40 => absurd c_40 (by decide)) (fun c_40 => ?_)
      refine mg_aload_n 44 rfl rfl rfl ?_
      refine mg_dup 45 rfl rfl ?_
      refine mg_getI (v := nI s.1) 48 rfl rfl (Or.inl rfl) hR.1 rfl ?_
      refine mg_iconst (v := 1) 49 rfl (by decide) rfl ?_
      refine mg_iadd (v := nI (s.1 + 1)) 50 rfl (nI_1 _) rfl ?_
      refine mg_putI 53 rfl rfl rfl rfl ?_
      refine mg_vret rfl rfl ?_
      have he : pv_tk P s.1 = pv_oa P n := st_nIe (by have := hP.2.2.2 s.1; omega) (by omega) c_5
      have er : pv_token P n true s = (0, 0, pv_adv s) := by unfold pv_token; rw [if_pos he, if_pos rfl]
      rw [er] at k
      exact k _ (pm_fr_up1 (by decide)) (fun w => pm_lo_same (fun q hq => mm_up_ne q (by omega))) ⟨rfl, hR.2⟩ rfl h4 (fun h => absurd (show (0 : Int32) = -6 from h) (by decide))
    · refine mg_aload_n 9 rfl rfl rfl ?_
      refine mg_bipush (v := (-6)) 11 rfl (by decide) rfl ?_
      refine mg_putI 14 rfl rfl rfl rfl ?_
      refine mg_aload_n 15 rfl rfl rfl ?_
      refine mg_iload_n 16 rfl rfl rfl ?_
      refine mg_putI 19 rfl rfl rfl rfl ?_
      refine mg_vret rfl rfl ?_
      have hne : ¬ pv_tk P s.1 = pv_oa P n := fun h => c_5 (by rw [h])
      have er : pv_token P n true s = (-6, nI (pv_oa P n), s) := by unfold pv_token; rw [if_neg hne]
      rw [er] at k
      exact k _ (pm_fr_tr (pm_fr_up1 (by decide)) (pm_fr_up1 (by decide))) (fun w => pm_lo_same (fun q hq => by rw [mm_up_ne q (by omega), mm_up_ne q (by omega)])) hR rfl rfl (fun _ => rfl)
set_option maxHeartbeats 2000000 in
set_option maxRecDepth 20000 in
theorem sm_chooses {d : Nat} {M : mm_M} {Q : mm_Qt} {w n p kn : Nat} (hw : w < 120) (h34 : M 34 w = nI n) (h35 : M 35 w = nI p) (h60 : n < 60) (h22 : M 22 n = nI kn) (h9 : kn < 9) (hp : p < 2000) (hd : 1 ≤ d) (k1 : pm_ck kn p → Q (some (.inl 1)) M) (k0 : ¬ pm_ck kn p → Q (some (.inl 0)) M) : mm_Ev pg ly d 95 [.inr 21, .inl (nI w)] M Q := by
  obtain ⟨d, rfl⟩ : ∃ e, d = e + 1 := ⟨d - 1, by omega⟩
  refine mg_body yy_Mo_chooses pg_Mo_chooses (Nat.le_of_ble_eq_true rfl) ?_
  show mm_Rn _ _ _ _ _ _ 0 [(0, _), (1, _)] [] _
  refine mg_aload_n 1 rfl rfl rfl ?_
  refine mg_getR 4 rfl rfl rfl rfl ?_
  refine mg_aload_n 5 rfl rfl rfl ?_
  refine mg_getR 8 rfl rfl rfl rfl ?_
  refine mg_iload_n 9 rfl rfl rfl ?_
  refine mg_iald (v := nI n) 10 rfl rfl (vp_in_nI (by omega : w < 120) (by omega)) (by rw [nI_clamp (by omega)]; exact h34) rfl ?_
  refine mg_iald (v := nI kn) 11 rfl rfl (vp_in_nI (by omega : n < 60) (by omega)) (by rw [nI_clamp (by omega)]; exact h22) rfl ?_
  refine mg_istore_n (L2 := [(0, _), (1, _), (2, _)]) 12 rfl (by decide) rfl rfl ?_
  refine mg_iload_n 13 rfl rfl rfl ?_
  refine mg_iconst (v := 5) 14 rfl (by decide) rfl ?_
  refine mg_ic_eq 17 36 rfl rfl (by decide) (fun c_14 => ?_) (fun c_14 => ?_)
  · refine mg_iconst (v := 1) 37 rfl (by decide) rfl ?_
    refine mg_goto 41 rfl (by decide) ?_
    refine mg_zret rfl rfl (by first | exact Or.inl rfl | exact Or.inr rfl) ?_
    exact k1 (Or.inl ((st_eq 5 5 rfl (by omega) (by omega)).mp c_14))
  · refine mg_iload_n 18 rfl rfl rfl ?_
    refine mg_iconst (v := 3) 19 rfl (by decide) rfl ?_
    refine mg_ic_eq 22 27 rfl rfl (by decide) (fun c_19 => ?_) (fun c_19 => ?_)
    · refine mg_aload_n 28 rfl rfl rfl ?_
      refine mg_getR 31 rfl rfl rfl rfl ?_
      refine mg_iload_n 32 rfl rfl rfl ?_
      refine mg_iald (v := nI p) 33 rfl rfl (vp_in_nI (by omega : w < 120) (by omega)) (by rw [nI_clamp (by omega)]; exact h35) rfl ?_
      refine mg_if_ne 36 40 rfl rfl (by decide) (fun c_33 => ?_) (fun c_33 => ?_)
      · refine mg_iconst (v := 0) 41 rfl (by decide) rfl ?_
        refine mg_zret rfl rfl (by first | exact Or.inl rfl | exact Or.inr rfl) ?_
        exact k0 (fun h => h.elim (fun h => c_14 (by rw [h]; rfl)) (fun h => c_33 (by rw [h.2]; rfl)))
      · refine mg_iconst (v := 1) 37 rfl (by decide) rfl ?_
        refine mg_goto 41 rfl (by decide) ?_
        refine mg_zret rfl rfl (by first | exact Or.inl rfl | exact Or.inr rfl) ?_
        exact k1 (Or.inr ⟨Or.inl ((st_eq 3 3 rfl (by omega) (by omega)).mp c_19), (st_eq 0 0 rfl (by omega) (by omega)).mp c_33⟩)
    · refine mg_iload_n 23 rfl rfl rfl ?_
      refine mg_iconst (v := 4) 24 rfl (by decide) rfl ?_
      refine mg_ic_ne 27 40 rfl rfl (by decide) (fun c_24 => ?_) (fun c_24 => ?_)
      · refine mg_iconst (v := 0) 41 rfl (by decide) rfl ?_
        refine mg_zret rfl rfl (by first | exact Or.inl rfl | exact Or.inr rfl) ?_
        exact k0 (fun h => h.elim (fun h => c_14 (by rw [h]; rfl)) (fun h => h.1.elim (fun h => c_19 (by rw [h]; rfl)) (fun h => c_24 (by rw [h]; rfl))))
      · refine mg_aload_n 28 rfl rfl rfl ?_
        refine mg_getR 31 rfl rfl rfl rfl ?_
        refine mg_iload_n 32 rfl rfl rfl ?_
        refine mg_iald (v := nI p) 33 rfl rfl (vp_in_nI (by omega : w < 120) (by omega)) (by rw [nI_clamp (by omega)]; exact h35) rfl ?_
        refine mg_if_ne 36 40 rfl rfl (by decide) (fun c_33 => ?_) (fun c_33 => ?_)
        · refine mg_iconst (v := 0) 41 rfl (by decide) rfl ?_
          refine mg_zret rfl rfl (by first | exact Or.inl rfl | exact Or.inr rfl) ?_
          exact k0 (fun h => h.elim (fun h => c_14 (by rw [h]; rfl)) (fun h => c_33 (by rw [h.2]; rfl)))
        · refine mg_iconst (v := 1) 37 rfl (by decide) rfl ?_
          refine mg_goto 41 rfl (by decide) ?_
          refine mg_zret rfl rfl (by first | exact Or.inl rfl | exact Or.inr rfl) ?_
          exact k1 (Or.inr ⟨Or.inr ((st_eq 4 4 rfl (by omega) (by omega)).mp c_24), (st_eq 0 0 rfl (by omega) (by omega)).mp c_33⟩)
set_option maxHeartbeats 2000000 in
set_option maxRecDepth 20000 in
theorem lq_chosen {d : Nat} {M : mm_M} {Q : mm_Qt} {rr kk : mm_V} {P : pv_D} {lv : Nat → Nat} {u : Nat → Prop} {z : Nat} {em fi nx us : Nat → Int32} (hP : pv_val P lv u z) (hD : pm_D M P u z em fi nx us) {R : Nat} (k : mm_Rn pg ly d (mm_Ev pg ly d) yy_Mo_chosen Q 23 [(0, .inr 21), (1, rr), (2, kk), (3, .inl (nI R))] [] M) : ∀ (f m : Nat), lv m ≤ f → u m → pv_beh P f m = R → mm_Rn pg ly d (mm_Ev pg ly d) yy_Mo_chosen Q 2 [(0, .inr 21), (1, rr), (2, kk), (3, .inl (nI m))] [] M := by
  intro f
  induction f with
  | zero =>
    intro m hf hm hR
    have := (hP.1 m hm).2.1
    omega
  | succ f ih =>
    intro m hf hm hR
    obtain ⟨h60, hkd, -, hb, -⟩ := hD.2.2.2 m hm
    refine mg_aload_n 3 rfl rfl rfl ?_
    refine mg_getR 6 rfl rfl rfl rfl ?_
    refine mg_iload_n 7 rfl rfl rfl ?_
    refine mg_iald (v := nI (pv_kd P m)) 8 rfl rfl (vp_in_nI (by omega : m < 60) (by omega)) (by rw [nI_clamp (by omega)]; exact hkd) rfl ?_
    refine mg_bipush (v := 7) 10 rfl (by decide) rfl ?_
    refine mg_ic_ne 13 23 rfl rfl (by decide) (fun c_10 => ?_) (fun c_10 => ?_)
    · have hk : pv_kd P m ≠ 7 := fun h => c_10 (by rw [h]; rfl)
      have e : m = R := by rw [← hR]; simp only [pv_beh]; rw [if_neg hk]
      rw [e]
      exact k
    · have hk : pv_kd P m = 7 := (st_eq 7 7 rfl (by have := (hP.1 m hm).1; omega) (by omega)).mp c_10
      have hbb := (hP.1 m hm).2.2.2.2.1 (by rw [hk]; rfl)
      refine mg_aload_n 14 rfl rfl rfl ?_
      refine mg_getR 17 rfl rfl rfl rfl ?_
      refine mg_iload_n 18 rfl rfl rfl ?_
      refine mg_iald (v := nI (pv_ob P m)) 19 rfl rfl (vp_in_nI (by omega : m < 60) (by omega)) (by rw [nI_clamp (by omega)]; exact (hb (by rw [hk]; rfl))) rfl ?_
      refine mg_istore_n (L2 := [(0, _), (1, _), (2, _), (3, _)]) 20 rfl (by decide) rfl rfl ?_
      refine mg_goto 2 rfl (by decide) ?_
      exact ih _ (by omega) hbb.1 (by rw [← hR]; simp only [pv_beh]; rw [if_pos hk])
set_option maxHeartbeats 2000000 in
set_option maxRecDepth 20000 in
theorem sm_chosen {d : Nat} {M : mm_M} {Q : mm_Qt} {n p : Nat} {P : pv_D} {lv : Nat → Nat} {u : Nat → Prop} {z : Nat} {em fi nx us : Nat → Int32} (hP : pv_val P lv u z) (hD : pm_D M P u z em fi nx us) (hn : u n) (hk : st_nl (pv_kd P n) = true) (hp : p ≤ z) (h5 : M 21 5 = nI p) (hd : 2 ≤ d) (k : Q (some (.inl (if ms_b (pv_wel P n) (pv_tk P p) = true then 1 else 0))) M) : mm_Ev pg ly d 94 [.inr 21, .inl (nI (pv_oa P n)), .inl (nI (pv_kd P n))] M Q := by
  have hua := (hP.1 n hn).2.2.2.1 hk
  have hl6 := (hP.1 _ hua.1).2.2.1
  have kb := hD.2.2.2 _ (pv_beh_u hP 6 _ hua.1)
  have kb60 := kb.1
  obtain ⟨d, rfl⟩ : ∃ e, d = e + 1 := ⟨d - 1, by omega⟩
  refine mg_body yy_Mo_chosen pg_Mo_chosen (Nat.le_of_ble_eq_true rfl) ?_
  show mm_Rn _ _ _ _ _ _ 0 [(0, _), (1, _), (2, _)] [] _
  refine mg_iload_n 1 rfl rfl rfl ?_
  refine mg_istore_n (L2 := [(0, _), (1, _), (2, _), (3, _)]) 2 rfl (by decide) rfl rfl ?_
  refine lq_chosen hP hD ?_ 6 _ hl6 hua.1 rfl
  refine mg_iload_n 24 rfl rfl rfl ?_
  refine mg_iconst (v := 3) 25 rfl (by decide) rfl ?_
  refine mg_ic_ne 28 36 rfl rfl (by decide) (fun c_25 => ?_) (fun c_25 => ?_)
  · have hk3 : ¬ pv_kd P n = 3 := fun h => c_25 (by rw [h]; rfl)
    refine mg_aload_n 37 rfl rfl rfl ?_
    refine mg_getR 40 rfl rfl rfl rfl ?_
    refine mg_iload_n 41 rfl rfl rfl ?_
    refine mg_iald (v := pv_s4 P (pv_beh P 6 (pv_oa P n))) 42 rfl rfl (vp_in_nI (by omega : (pv_beh P 6 (pv_oa P n)) < 60) (by omega)) (by rw [nI_clamp (by omega)]; exact ((hD.2.2.1 _ (by omega)).2.2.1.trans kb.2.2.2.2.2.2.2.2.symm)) rfl ?_
    refine mg_aload_n 43 rfl rfl rfl ?_
    refine mg_callV0 46 rfl (Nat.le_of_ble_eq_true rfl) pg_Mo_token rfl rfl ?_
    refine sm_token hP hD hp h5 (by omega) ?_
    show mm_Rn _ _ _ _ _ _ 46 [(0, _), (1, _), (2, _), (3, _)] [_, _] _
    refine mg_ishr 47 rfl rfl rfl ?_
    refine mg_iconst (v := 1) 48 rfl (by decide) rfl ?_
    refine mg_iand 49 rfl rfl rfl ?_
    refine mg_iconst (v := 1) 50 rfl (by decide) rfl ?_
    refine mg_ic_ne 53 57 rfl rfl (by decide) (fun c_50 => ?_) (fun c_50 => ?_)
    · refine mg_iconst (v := 0) 58 rfl (by decide) rfl ?_
      refine mg_zret rfl rfl (by first | exact Or.inl rfl | exact Or.inr rfl) ?_
      have hw : pv_wel P n = pv_s4 P (pv_beh P 6 (pv_oa P n)) := by unfold pv_wel; rw [if_neg hk3]
      have hB : ¬ ms_b (pv_wel P n) (pv_tk P p) = true := by rw [hw]; exact fun h => c_50 ((an_bit1 _ (by have := hP.2.2.2 p; omega)).mpr h)
      rw [if_neg hB] at k
      exact k
    · refine mg_iconst (v := 1) 54 rfl (by decide) rfl ?_
      refine mg_goto 58 rfl (by decide) ?_
      refine mg_zret rfl rfl (by first | exact Or.inl rfl | exact Or.inr rfl) ?_
      have hw : pv_wel P n = pv_s4 P (pv_beh P 6 (pv_oa P n)) := by unfold pv_wel; rw [if_neg hk3]
      have hB : ms_b (pv_wel P n) (pv_tk P p) = true := by rw [hw]; exact (an_bit1 _ (by have := hP.2.2.2 p; omega)).mp c_50
      rw [if_pos hB] at k
      exact k
  · have hk3 : pv_kd P n = 3 := (st_eq 3 3 rfl (by have := (hP.1 n hn).1; omega) (by omega)).mp c_25
    refine mg_aload_n 29 rfl rfl rfl ?_
    refine mg_iload_n 30 rfl rfl rfl ?_
    refine mg_callV1 33 rfl (Nat.le_of_ble_eq_true rfl) pg_Mo_start rfl rfl ?_
    refine sm_start (by omega) hD.2.2.1 (by omega) ?_
    rw [← kb.2.2.2.2.2.2.2.1]
    show mm_Rn _ _ _ _ _ _ 33 [(0, _), (1, _), (2, _), (3, _)] [_] _
    refine mg_goto 42 rfl (by decide) ?_
    refine mg_aload_n 43 rfl rfl rfl ?_
    refine mg_callV0 46 rfl (Nat.le_of_ble_eq_true rfl) pg_Mo_token rfl rfl ?_
    refine sm_token hP hD hp h5 (by omega) ?_
    show mm_Rn _ _ _ _ _ _ 46 [(0, _), (1, _), (2, _), (3, _)] [_, _] _
    refine mg_ishr 47 rfl rfl rfl ?_
    refine mg_iconst (v := 1) 48 rfl (by decide) rfl ?_
    refine mg_iand 49 rfl rfl rfl ?_
    refine mg_iconst (v := 1) 50 rfl (by decide) rfl ?_
    refine mg_ic_ne 53 57 rfl rfl (by decide) (fun c_50 => ?_) (fun c_50 => ?_)
    · refine mg_iconst (v := 0) 58 rfl (by decide) rfl ?_
      refine mg_zret rfl rfl (by first | exact Or.inl rfl | exact Or.inr rfl) ?_
      have hw : pv_wel P n = pv_s3 P (pv_beh P 6 (pv_oa P n)) := by unfold pv_wel; rw [if_pos hk3]
      have hB : ¬ ms_b (pv_wel P n) (pv_tk P p) = true := by rw [hw]; exact fun h => c_50 ((an_bit1 _ (by have := hP.2.2.2 p; omega)).mpr h)
      rw [if_neg hB] at k
      exact k
    · refine mg_iconst (v := 1) 54 rfl (by decide) rfl ?_
      refine mg_goto 58 rfl (by decide) ?_
      refine mg_zret rfl rfl (by first | exact Or.inl rfl | exact Or.inr rfl) ?_
      have hw : pv_wel P n = pv_s3 P (pv_beh P 6 (pv_oa P n)) := by unfold pv_wel; rw [if_pos hk3]
      have hB : ms_b (pv_wel P n) (pv_tk P p) = true := by rw [hw]; exact (an_bit1 _ (by have := hP.2.2.2 p; omega)).mp c_50
      rw [if_pos hB] at k
      exact k
set_option maxHeartbeats 2000000 in
set_option maxRecDepth 20000 in
theorem sm_callee2 {d : Nat} {M : mm_M} {Q : mm_Qt} {n r m : Nat} (h60 : n < 60) (hr : r < 8) (h23 : M 23 n = nI r) (h27 : M 27 r = nI m) (hd : 1 ≤ d) (k : Q (some (.inl (nI m))) M) : mm_Ev pg ly d 73 [.inr 21, .inl (nI n)] M Q := by
  obtain ⟨d, rfl⟩ : ∃ e, d = e + 1 := ⟨d - 1, by omega⟩
  refine mg_body yy_Mo_callee pg_Mo_callee (Nat.le_of_ble_eq_true rfl) ?_
  show mm_Rn _ _ _ _ _ _ 0 [(0, _), (1, _)] [] _
  refine mg_aload_n 1 rfl rfl rfl ?_
  refine mg_getR 4 rfl rfl rfl rfl ?_
  refine mg_aload_n 5 rfl rfl rfl ?_
  refine mg_getR 8 rfl rfl rfl rfl ?_
  refine mg_iload_n 9 rfl rfl rfl ?_
  refine mg_iald (v := nI r) 10 rfl rfl (vp_in_nI (by omega : n < 60) (by omega)) (by rw [nI_clamp (by omega)]; exact h23) rfl ?_
  refine mg_iald (v := nI m) 11 rfl rfl (vp_in_nI hr (by omega)) (by rw [nI_clamp (by omega)]; exact h27) rfl ?_
  refine mg_iret rfl rfl ?_
  exact k
