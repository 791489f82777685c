theorem pm_lo_ph (w t : Nat) (M : mm_M) (x : Int32) : pm_lo w t M (mm_up M 35 w x) := by
  refine ⟨fun i hi => ?_, fun j hj => rfl⟩
  have : i ≠ w := by omega
  simp [mm_up, upd, this]
theorem pm_hd_ph {P : pv_D} {u : Nat → Prop} {z : Nat} {em fi nx us : Nat → Int32} {M : mm_M} {s : pv_S} {c w n p : Nat} (q : Nat) (h : pm_hd P u z em fi nx us M s c w n p) : pm_hd P u z em fi nx us (mm_up M 35 w (nI q)) s c w n q := by
  obtain ⟨a1, a2, a3, a4, a5, a6, a7⟩ := h
  exact ⟨pm_D_fr (pm_fr_up (by decide)) a1, a2, a3, a4, a5, by simp [mm_up, upd], a7⟩
set_option maxHeartbeats 2000000 in
set_option maxRecDepth 20000 in
theorem ss_then0 {d : Nat} {M : mm_M} {Q : mm_Qt} {w n : Nat} (hw : w < 120) (h34 : M 34 w = nI n) (h35 : M 35 w = nI 0) (h60 : n < 60) (h22 : M 22 n = nI 2) {m : Nat} (ha : M 23 n = nI m) {f : Int32} {g : Int32} (hd : 3 ≤ d) (k : Q (some (.inl (nI m))) (mm_up M 35 w (nI (0 + 1)))) : mm_Ev pg ly d 99 [.inr 21, .inl (nI w), .inl f, .inl g] M Q := by
  obtain ⟨d, rfl⟩ : ∃ e, d = e + 1 := ⟨d - 1, by omega⟩
  refine mg_body yy_Mo_step pg_Mo_step (Nat.le_of_ble_eq_true rfl) ?_
  show mm_Rn _ _ _ _ _ _ 0 [(0, _), (1, _), (2, _), (3, _)] [] _
  refine mg_aload_n 1 rfl rfl rfl ?_
  refine mg_getR 4 rfl rfl rfl rfl ?_
  refine mg_iload_n 5 rfl rfl rfl ?_
  refine mg_iald (v := nI n) 6 rfl rfl (vp_in_nI (by omega : w < 120) (by omega)) (by rw [nI_clamp (by omega)]; exact h34) rfl ?_
  refine mg_istore (L2 := [(0, _), (1, _), (2, _), (3, _), (4, _)]) 8 rfl (by decide) rfl rfl ?_
  refine mg_aload_n 9 rfl rfl rfl ?_
  refine mg_getR 12 rfl rfl rfl rfl ?_
  refine mg_iload 14 rfl rfl rfl ?_
  refine mg_iald (v := 2) 15 rfl rfl (vp_in_nI (by omega : n < 60) (by omega)) (by rw [nI_clamp (by omega)]; exact h22) rfl ?_
  refine mg_istore (L2 := [(0, _), (1, _), (2, _), (3, _), (4, _), (5, _)]) 17 rfl (by decide) rfl rfl ?_
  refine mg_aload_n 18 rfl rfl rfl ?_
  refine mg_getR 21 rfl rfl rfl rfl ?_
  refine mg_iload_n 22 rfl rfl rfl ?_
  refine mg_iald (v := 0) 23 rfl rfl (vp_in_nI (by omega : w < 120) (by omega)) (by rw [nI_clamp (by omega)]; exact h35) rfl ?_
  refine mg_istore (L2 := [(0, _), (1, _), (2, _), (3, _), (4, _), (5, _), (6, _)]) 25 rfl (by decide) rfl rfl ?_
  refine mg_aload_n 26 rfl rfl rfl ?_
  refine mg_getR 29 rfl rfl rfl rfl ?_
  refine mg_iload 31 rfl rfl rfl ?_
  refine mg_iald (v := nI m) 32 rfl rfl (vp_in_nI (by omega : n < 60) (by omega)) (by rw [nI_clamp (by omega)]; exact ha) rfl ?_
  refine mg_istore (L2 := [(0, _), (1, _), (2, _), (3, _), (4, _), (5, _), (6, _), (7, _)]) 34 rfl (by decide) rfl rfl ?_
  refine mg_aload_n 35 rfl rfl rfl ?_
  refine mg_getR 38 rfl rfl rfl rfl ?_
  refine mg_iload 40 rfl rfl rfl ?_
  refine mg_iald 41 rfl rfl (vp_in_nI (by omega : n < 60) (by omega)) rfl rfl ?_
  refine mg_istore (L2 := [(0, _), (1, _), (2, _), (3, _), (4, _), (5, _), (6, _), (7, _), (8, _)]) 43 rfl (by decide) rfl rfl ?_
  refine mg_aload_n 44 rfl rfl rfl ?_
  refine mg_getR 47 rfl rfl rfl rfl ?_
  refine mg_iload_n 48 rfl rfl rfl ?_
  refine mg_dup2 49 rfl rfl ?_
  refine mg_iald (v := nI 0) 50 rfl rfl (vp_in_nI (by omega : w < 120) (by omega)) (by rw [nI_clamp (by omega)]; exact h35) rfl ?_
  refine mg_iconst (v := 1) 51 rfl (by decide) rfl ?_
  refine mg_iadd (v := nI (0 + 1)) 52 rfl (nI_1 _) rfl ?_
  refine mg_iast (j := w) 53 rfl rfl (vp_in_nI (by omega : w < 120) (by omega)) (nI_clamp (by omega)) rfl ?_
  refine mg_iload 55 rfl rfl rfl ?_
  refine mg_if_ne 58 67 rfl rfl (by decide) (fun c_55 => ?_) (fun c_55 => absurd c_55 (by decide))
  refine mg_iload 69 rfl rfl rfl ?_
  refine mg_iconst (v := 1) 70 rfl (by decide) rfl ?_
  refine mg_ic_ne 73 110 rfl rfl (by decide) (fun c_70 => ?_) (fun c_70 => absurd c_70 (by decide))
  refine mg_iload 112 rfl rfl rfl ?_
  refine mg_iconst (v := 1) 113 rfl (by decide) rfl ?_
  refine mg_ic_ne 116 126 rfl rfl (by decide) (fun c_113 => ?_) (fun c_113 => absurd c_113 (by decide))
  refine mg_iload 128 rfl rfl rfl ?_
  refine mg_iconst (v := 2) 129 rfl (by decide) rfl ?_
  refine mg_ic_ne 132 155 rfl rfl (by decide) (fun c_129 => absurd c_129 (by decide)) (fun c_129 => ?_)
  refine mg_iload 134 rfl rfl rfl ?_
  refine mg_if_ne 137 142 rfl rfl (by decide) (fun c_134 => absurd c_134 (by decide)) (fun c_134 => ?_)
  refine mg_iload 139 rfl rfl rfl ?_
  refine mg_goto 154 rfl (by decide) ?_
  refine mg_iret rfl rfl ?_
  exact k
set_option maxHeartbeats 2000000 in
set_option maxRecDepth 20000 in
theorem ss_then1 {d : Nat} {M : mm_M} {Q : mm_Qt} {w n : Nat} (hw : w < 120) (h34 : M 34 w = nI n) (h35 : M 35 w = nI 1) (h60 : n < 60) (h22 : M 22 n = nI 2) {m : Nat} (hb : M 24 n = nI m) {f : Int32} {g : Int32} (hd : 3 ≤ d) (k : Q (some (.inl (nI m))) (mm_up M 35 w (nI (1 + 1)))) : mm_Ev pg ly d 99 [.inr 21, .inl (nI w), .inl f, .inl g] M Q := by
  obtain ⟨d, rfl⟩ : ∃ e, d = e + 1 := ⟨d - 1, by omega⟩
  refine mg_body yy_Mo_step pg_Mo_step (Nat.le_of_ble_eq_true rfl) ?_
  show mm_Rn _ _ _ _ _ _ 0 [(0, _), (1, _), (2, _), (3, _)] [] _
  refine mg_aload_n 1 rfl rfl rfl ?_
  refine mg_getR 4 rfl rfl rfl rfl ?_
  refine mg_iload_n 5 rfl rfl rfl ?_
  refine mg_iald (v := nI n) 6 rfl rfl (vp_in_nI (by omega : w < 120) (by omega)) (by rw [nI_clamp (by omega)]; exact h34) rfl ?_
  refine mg_istore (L2 := [(0, _), (1, _), (2, _), (3, _), (4, _)]) 8 rfl (by decide) rfl rfl ?_
  refine mg_aload_n 9 rfl rfl rfl ?_
  refine mg_getR 12 rfl rfl rfl rfl ?_
  refine mg_iload 14 rfl rfl rfl ?_
  refine mg_iald (v := 2) 15 rfl rfl (vp_in_nI (by omega : n < 60) (by omega)) (by rw [nI_clamp (by omega)]; exact h22) rfl ?_
  refine mg_istore (L2 := [(0, _), (1, _), (2, _), (3, _), (4, _), (5, _)]) 17 rfl (by decide) rfl rfl ?_
  refine mg_aload_n 18 rfl rfl rfl ?_
  refine mg_getR 21 rfl rfl rfl rfl ?_
  refine mg_iload_n 22 rfl rfl rfl ?_
  refine mg_iald (v := 1) 23 rfl rfl (vp_in_nI (by omega : w < 120) (by omega)) (by rw [nI_clamp (by omega)]; exact h35) rfl ?_
  refine mg_istore (L2 := [(0, _), (1, _), (2, _), (3, _), (4, _), (5, _), (6, _)]) 25 rfl (by decide) rfl rfl ?_
  refine mg_aload_n 26 rfl rfl rfl ?_
  refine mg_getR 29 rfl rfl rfl rfl ?_
  refine mg_iload 31 rfl rfl rfl ?_
  refine mg_iald 32 rfl rfl (vp_in_nI (by omega : n < 60) (by omega)) rfl rfl ?_
  refine mg_istore (L2 := [(0, _), (1, _), (2, _), (3, _), (4, _), (5, _), (6, _), (7, _)]) 34 rfl (by decide) rfl rfl ?_
  refine mg_aload_n 35 rfl rfl rfl ?_
  refine mg_getR 38 rfl rfl rfl rfl ?_
  refine mg_iload 40 rfl rfl rfl ?_
  refine mg_iald (v := nI m) 41 rfl rfl (vp_in_nI (by omega : n < 60) (by omega)) (by rw [nI_clamp (by omega)]; exact hb) rfl ?_
  refine mg_istore (L2 := [(0, _), (1, _), (2, _), (3, _), (4, _), (5, _), (6, _), (7, _), (8, _)]) 43 rfl (by decide) rfl rfl ?_
  refine mg_aload_n 44 rfl rfl rfl ?_
  refine mg_getR 47 rfl rfl rfl rfl ?_
  refine mg_iload_n 48 rfl rfl rfl ?_
  refine mg_dup2 49 rfl rfl ?_
  refine mg_iald (v := nI 1) 50 rfl rfl (vp_in_nI (by omega : w < 120) (by omega)) (by rw [nI_clamp (by omega)]; exact h35) rfl ?_
  refine mg_iconst (v := 1) 51 rfl (by decide) rfl ?_
  refine mg_iadd (v := nI (1 + 1)) 52 rfl (nI_1 _) rfl ?_
  refine mg_iast (j := w) 53 rfl rfl (vp_in_nI (by omega : w < 120) (by omega)) (nI_clamp (by omega)) rfl ?_
  refine mg_iload 55 rfl rfl rfl ?_
  refine mg_if_ne 58 67 rfl rfl (by decide) (fun c_55 => ?_) (fun c_55 => absurd c_55 (by decide))
  refine mg_iload 69 rfl rfl rfl ?_
  refine mg_iconst (v := 1) 70 rfl (by decide) rfl ?_
  refine mg_ic_ne 73 110 rfl rfl (by decide) (fun c_70 => ?_) (fun c_70 => absurd c_70 (by decide))
  refine mg_iload 112 rfl rfl rfl ?_
  refine mg_iconst (v := 1) 113 rfl (by decide) rfl ?_
  refine mg_ic_ne 116 126 rfl rfl (by decide) (fun c_113 => ?_) (fun c_113 => absurd c_113 (by decide))
  refine mg_iload 128 rfl rfl rfl ?_
  refine mg_iconst (v := 2) 129 rfl (by decide) rfl ?_
  refine mg_ic_ne 132 155 rfl rfl (by decide) (fun c_129 => absurd c_129 (by decide)) (fun c_129 => ?_)
  refine mg_iload 134 rfl rfl rfl ?_
  refine mg_if_ne 137 142 rfl rfl (by decide) (fun c_134 => ?_) (fun c_134 => absurd c_134 (by decide))
  refine mg_iload 144 rfl rfl rfl ?_
  refine mg_iconst (v := 1) 145 rfl (by decide) rfl ?_
  refine mg_ic_ne 148 153 rfl rfl (by decide) (fun c_145 => absurd c_145 (by decide)) (fun c_145 => ?_)
  refine mg_iload 150 rfl rfl rfl ?_
  refine mg_goto 154 rfl (by decide) ?_
  refine mg_iret rfl rfl ?_
  exact k
set_option maxHeartbeats 2000000 in
set_option maxRecDepth 20000 in
theorem ss_then2 {d : Nat} {M : mm_M} {Q : mm_Qt} {w n : Nat} (hw : w < 120) (h34 : M 34 w = nI n) (h35 : M 35 w = nI 2) (h60 : n < 60) (h22 : M 22 n = nI 2) {f : Int32} {g : Int32} (hd : 3 ≤ d) (k : Q (some (.inl (-1))) (mm_up M 35 w (nI (2 + 1)))) : mm_Ev pg ly d 99 [.inr 21, .inl (nI w), .inl f, .inl g] M Q := by
  obtain ⟨d, rfl⟩ : ∃ e, d = e + 1 := ⟨d - 1, by omega⟩
  refine mg_body yy_Mo_step pg_Mo_step (Nat.le_of_ble_eq_true rfl) ?_
  show mm_Rn _ _ _ _ _ _ 0 [(0, _), (1, _), (2, _), (3, _)] [] _
  refine mg_aload_n 1 rfl rfl rfl ?_
  refine mg_getR 4 rfl rfl rfl rfl ?_
  refine mg_iload_n 5 rfl rfl rfl ?_
  refine mg_iald (v := nI n) 6 rfl rfl (vp_in_nI (by omega : w < 120) (by omega)) (by rw [nI_clamp (by omega)]; exact h34) rfl ?_
  refine mg_istore (L2 := [(0, _), (1, _), (2, _), (3, _), (4, _)]) 8 rfl (by decide) rfl rfl ?_
  refine mg_aload_n 9 rfl rfl rfl ?_
  refine mg_getR 12 rfl rfl rfl rfl ?_
  refine mg_iload 14 rfl rfl rfl ?_
  refine mg_iald (v := 2) 15 rfl rfl (vp_in_nI (by omega : n < 60) (by omega)) (by rw [nI_clamp (by omega)]; exact h22) rfl ?_
  refine mg_istore (L2 := [(0, _), (1, _), (2, _), (3, _), (4, _), (5, _)]) 17 rfl (by decide) rfl rfl ?_
  refine mg_aload_n 18 rfl rfl rfl ?_
  refine mg_getR 21 rfl rfl rfl rfl ?_
  refine mg_iload_n 22 rfl rfl rfl ?_
  refine mg_iald (v := 2) 23 rfl rfl (vp_in_nI (by omega : w < 120) (by omega)) (by rw [nI_clamp (by omega)]; exact h35) rfl ?_
  refine mg_istore (L2 := [(0, _), (1, _), (2, _), (3, _), (4, _), (5, _), (6, _)]) 25 rfl (by decide) rfl rfl ?_
  refine mg_aload_n 26 rfl rfl rfl ?_
  refine mg_getR 29 rfl rfl rfl rfl ?_
  refine mg_iload 31 rfl rfl rfl ?_
  refine mg_iald 32 rfl rfl (vp_in_nI (by omega : n < 60) (by omega)) rfl rfl ?_
  refine mg_istore (L2 := [(0, _), (1, _), (2, _), (3, _), (4, _), (5, _), (6, _), (7, _)]) 34 rfl (by decide) rfl rfl ?_
  refine mg_aload_n 35 rfl rfl rfl ?_
  refine mg_getR 38 rfl rfl rfl rfl ?_
  refine mg_iload 40 rfl rfl rfl ?_
  refine mg_iald 41 rfl rfl (vp_in_nI (by omega : n < 60) (by omega)) rfl rfl ?_
  refine mg_istore (L2 := [(0, _), (1, _), (2, _), (3, _), (4, _), (5, _), (6, _), (7, _), (8, _)]) 43 rfl (by decide) rfl rfl ?_
  refine mg_aload_n 44 rfl rfl rfl ?_
  refine mg_getR 47 rfl rfl rfl rfl ?_
  refine mg_iload_n 48 rfl rfl rfl ?_
  refine mg_dup2 49 rfl rfl ?_
  refine mg_iald (v := nI 2) 50 rfl rfl (vp_in_nI (by omega : w < 120) (by omega)) (by rw [nI_clamp (by omega)]; exact h35) rfl ?_
  refine mg_iconst (v := 1) 51 rfl (by decide) rfl ?_
  refine mg_iadd (v := nI (2 + 1)) 52 rfl (nI_1 _) rfl ?_
  refine mg_iast (j := w) 53 rfl rfl (vp_in_nI (by omega : w < 120) (by omega)) (nI_clamp (by omega)) rfl ?_
  refine mg_iload 55 rfl rfl rfl ?_
  refine mg_if_ne 58 67 rfl rfl (by decide) (fun c_55 => ?_) (fun c_55 => absurd c_55 (by decide))
  refine mg_iload 69 rfl rfl rfl ?_
  refine mg_iconst (v := 1) 70 rfl (by decide) rfl ?_
  refine mg_ic_ne 73 110 rfl rfl (by decide) (fun c_70 => ?_) (fun c_70 => absurd c_70 (by decide))
  refine mg_iload 112 rfl rfl rfl ?_
  refine mg_iconst (v := 1) 113 rfl (by decide) rfl ?_
  refine mg_ic_ne 116 126 rfl rfl (by decide) (fun c_113 => ?_) (fun c_113 => absurd c_113 (by decide))
  refine mg_iload 128 rfl rfl rfl ?_
  refine mg_iconst (v := 2) 129 rfl (by decide) rfl ?_
  refine mg_ic_ne 132 155 rfl rfl (by decide) (fun c_129 => absurd c_129 (by decide)) (fun c_129 => ?_)
  refine mg_iload 134 rfl rfl rfl ?_
  refine mg_if_ne 137 142 rfl rfl (by decide) (fun c_134 => ?_) (fun c_134 => absurd c_134 (by decide))
  refine mg_iload 144 rfl rfl rfl ?_
  refine mg_iconst (v := 1) 145 rfl (by decide) rfl ?_
  refine mg_ic_ne 148 153 rfl rfl (by decide) (fun c_145 => ?_) (fun c_145 => absurd c_145 (by decide))
  refine mg_iconst (v := (-1)) 154 rfl (by decide) rfl ?_
  refine mg_iret rfl rfl ?_
  exact k
set_option maxHeartbeats 2000000 in
set_option maxRecDepth 20000 in
theorem ss_or0a {d : Nat} {M : mm_M} {Q : mm_Qt} {w n : Nat} (hw : w < 120) (h34 : M 34 w = nI n) (h35 : M 35 w = nI 0) (h60 : n < 60) (h22 : M 22 n = nI 3) {m : Nat} (ha : M 23 n = nI m) {f : Int32} (hd : 3 ≤ d) (k : Q (some (.inl (nI m))) (mm_up M 35 w (nI (0 + 1)))) : mm_Ev pg ly d 99 [.inr 21, .inl (nI w), .inl f, .inl 1] M Q := by
  obtain ⟨d, rfl⟩ : ∃ e, d = e + 1 := ⟨d - 1, by omega⟩
  refine mg_body yy_Mo_step pg_Mo_step (Nat.le_of_ble_eq_true rfl) ?_
  show mm_Rn _ _ _ _ _ _ 0 [(0, _), (1, _), (2, _), (3, _)] [] _
  refine mg_aload_n 1 rfl rfl rfl ?_
  refine mg_getR 4 rfl rfl rfl rfl ?_
  refine mg_iload_n 5 rfl rfl rfl ?_
  refine mg_iald (v := nI n) 6 rfl rfl (vp_in_nI (by omega : w < 120) (by omega)) (by rw [nI_clamp (by omega)]; exact h34) rfl ?_
  refine mg_istore (L2 := [(0, _), (1, _), (2, _), (3, _), (4, _)]) 8 rfl (by decide) rfl rfl ?_
  refine mg_aload_n 9 rfl rfl rfl ?_
  refine mg_getR 12 rfl rfl rfl rfl ?_
  refine mg_iload 14 rfl rfl rfl ?_
  refine mg_iald (v := 3) 15 rfl rfl (vp_in_nI (by omega : n < 60) (by omega)) (by rw [nI_clamp (by omega)]; exact h22) rfl ?_
  refine mg_istore (L2 := [(0, _), (1, _), (2, _), (3, _), (4, _), (5, _)]) 17 rfl (by decide) rfl rfl ?_
  refine mg_aload_n 18 rfl rfl rfl ?_
  refine mg_getR 21 rfl rfl rfl rfl ?_
  refine mg_iload_n 22 rfl rfl rfl ?_
  refine mg_iald (v := 0) 23 rfl rfl (vp_in_nI (by omega : w < 120) (by omega)) (by rw [nI_clamp (by omega)]; exact h35) rfl ?_
  refine mg_istore (L2 := [(0, _), (1, _), (2, _), (3, _), (4, _), (5, _), (6, _)]) 25 rfl (by decide) rfl rfl ?_
  refine mg_aload_n 26 rfl rfl rfl ?_
  refine mg_getR 29 rfl rfl rfl rfl ?_
  refine mg_iload 31 rfl rfl rfl ?_
  refine mg_iald (v := nI m) 32 rfl rfl (vp_in_nI (by omega : n < 60) (by omega)) (by rw [nI_clamp (by omega)]; exact ha) rfl ?_
  refine mg_istore (L2 := [(0, _), (1, _), (2, _), (3, _), (4, _), (5, _), (6, _), (7, _)]) 34 rfl (by decide) rfl rfl ?_
  refine mg_aload_n 35 rfl rfl rfl ?_
  refine mg_getR 38 rfl rfl rfl rfl ?_
  refine mg_iload 40 rfl rfl rfl ?_
  refine mg_iald 41 rfl rfl (vp_in_nI (by omega : n < 60) (by omega)) rfl rfl ?_
  refine mg_istore (L2 := [(0, _), (1, _), (2, _), (3, _), (4, _), (5, _), (6, _), (7, _), (8, _)]) 43 rfl (by decide) rfl rfl ?_
  refine mg_aload_n 44 rfl rfl rfl ?_
  refine mg_getR 47 rfl rfl rfl rfl ?_
  refine mg_iload_n 48 rfl rfl rfl ?_
  refine mg_dup2 49 rfl rfl ?_
  refine mg_iald (v := nI 0) 50 rfl rfl (vp_in_nI (by omega : w < 120) (by omega)) (by rw [nI_clamp (by omega)]; exact h35) rfl ?_
  refine mg_iconst (v := 1) 51 rfl (by decide) rfl ?_
  refine mg_iadd (v := nI (0 + 1)) 52 rfl (nI_1 _) rfl ?_
  refine mg_iast (j := w) 53 rfl rfl (vp_in_nI (by omega : w < 120) (by omega)) (nI_clamp (by omega)) rfl ?_
  refine mg_iload 55 rfl rfl rfl ?_
  refine mg_if_ne 58 67 rfl rfl (by decide) (fun c_55 => ?_) (fun c_55 => absurd c_55 (by decide))
  refine mg_iload 69 rfl rfl rfl ?_
  refine mg_iconst (v := 1) 70 rfl (by decide) rfl ?_
  refine mg_ic_ne 73 110 rfl rfl (by decide) (fun c_70 => ?_) (fun c_70 => absurd c_70 (by decide))
  refine mg_iload 112 rfl rfl rfl ?_
  refine mg_iconst (v := 1) 113 rfl (by decide) rfl ?_
  refine mg_ic_ne 116 126 rfl rfl (by decide) (fun c_113 => ?_) (fun c_113 => absurd c_113 (by decide))
  refine mg_iload 128 rfl rfl rfl ?_
  refine mg_iconst (v := 2) 129 rfl (by decide) rfl ?_
  refine mg_ic_ne 132 155 rfl rfl (by decide) (fun c_129 => ?_) (fun c_129 => absurd c_129 (by decide))
  refine mg_iload 157 rfl rfl rfl ?_
  refine mg_iconst (v := 3) 158 rfl (by decide) rfl ?_
  refine mg_ic_ne 161 178 rfl rfl (by decide) (fun c_158 => absurd c_158 (by decide)) (fun c_158 => ?_)
  refine mg_iload 163 rfl rfl rfl ?_
  refine mg_if_ne 166 178 rfl rfl (by decide) (fun c_163 => absurd c_163 (by decide)) (fun c_163 => ?_)
  refine mg_iload_n 167 rfl rfl rfl ?_
  refine mg_if_eq 170 175 rfl rfl (by decide) (fun c_167 => absurd c_167 (by decide)) (fun c_167 => ?_)
  refine mg_iload 172 rfl rfl rfl ?_
  refine mg_goto 177 rfl (by decide) ?_
  refine mg_iret rfl rfl ?_
  exact k
set_option maxHeartbeats 2000000 in
set_option maxRecDepth 20000 in
theorem ss_or0b {d : Nat} {M : mm_M} {Q : mm_Qt} {w n : Nat} (hw : w < 120) (h34 : M 34 w = nI n) (h35 : M 35 w = nI 0) (h60 : n < 60) (h22 : M 22 n = nI 3) {m : Nat} (hb : M 24 n = nI m) {f : Int32} (hd : 3 ≤ d) (k : Q (some (.inl (nI m))) (mm_up M 35 w (nI (0 + 1)))) : mm_Ev pg ly d 99 [.inr 21, .inl (nI w), .inl f, .inl 0] M Q := by
  obtain ⟨d, rfl⟩ : ∃ e, d = e + 1 := ⟨d - 1, by omega⟩
  refine mg_body yy_Mo_step pg_Mo_step (Nat.le_of_ble_eq_true rfl) ?_
  show mm_Rn _ _ _ _ _ _ 0 [(0, _), (1, _), (2, _), (3, _)] [] _
  refine mg_aload_n 1 rfl rfl rfl ?_
  refine mg_getR 4 rfl rfl rfl rfl ?_
  refine mg_iload_n 5 rfl rfl rfl ?_
  refine mg_iald (v := nI n) 6 rfl rfl (vp_in_nI (by omega : w < 120) (by omega)) (by rw [nI_clamp (by omega)]; exact h34) rfl ?_
  refine mg_istore (L2 := [(0, _), (1, _), (2, _), (3, _), (4, _)]) 8 rfl (by decide) rfl rfl ?_
  refine mg_aload_n 9 rfl rfl rfl ?_
  refine mg_getR 12 rfl rfl rfl rfl ?_
  refine mg_iload 14 rfl rfl rfl ?_
  refine mg_iald (v := 3) 15 rfl rfl (vp_in_nI (by omega : n < 60) (by omega)) (by rw [nI_clamp (by omega)]; exact h22) rfl ?_
  refine mg_istore (L2 := [(0, _), (1, _), (2, _), (3, _), (4, _), (5, _)]) 17 rfl (by decide) rfl rfl ?_
  refine mg_aload_n 18 rfl rfl rfl ?_
  refine mg_getR 21 rfl rfl rfl rfl ?_
  refine mg_iload_n 22 rfl rfl rfl ?_
  refine mg_iald (v := 0) 23 rfl rfl (vp_in_nI (by omega : w < 120) (by omega)) (by rw [nI_clamp (by omega)]; exact h35) rfl ?_
  refine mg_istore (L2 := [(0, _), (1, _), (2, _), (3, _), (4, _), (5, _), (6, _)]) 25 rfl (by decide) rfl rfl ?_
  refine mg_aload_n 26 rfl rfl rfl ?_
  refine mg_getR 29 rfl rfl rfl rfl ?_
  refine mg_iload 31 rfl rfl rfl ?_
  refine mg_iald 32 rfl rfl (vp_in_nI (by omega : n < 60) (by omega)) rfl rfl ?_
  refine mg_istore (L2 := [(0, _), (1, _), (2, _), (3, _), (4, _), (5, _), (6, _), (7, _)]) 34 rfl (by decide) rfl rfl ?_
  refine mg_aload_n 35 rfl rfl rfl ?_
  refine mg_getR 38 rfl rfl rfl rfl ?_
  refine mg_iload 40 rfl rfl rfl ?_
  refine mg_iald (v := nI m) 41 rfl rfl (vp_in_nI (by omega : n < 60) (by omega)) (by rw [nI_clamp (by omega)]; exact hb) rfl ?_
  refine mg_istore (L2 := [(0, _), (1, _), (2, _), (3, _), (4, _), (5, _), (6, _), (7, _), (8, _)]) 43 rfl (by decide) rfl rfl ?_
  refine mg_aload_n 44 rfl rfl rfl ?_
  refine mg_getR 47 rfl rfl rfl rfl ?_
  refine mg_iload_n 48 rfl rfl rfl ?_
  refine mg_dup2 49 rfl rfl ?_
  refine mg_iald (v := nI 0) 50 rfl rfl (vp_in_nI (by omega : w < 120) (by omega)) (by rw [nI_clamp (by omega)]; exact h35) rfl ?_
  refine mg_iconst (v := 1) 51 rfl (by decide) rfl ?_
  refine mg_iadd (v := nI (0 + 1)) 52 rfl (nI_1 _) rfl ?_
  refine mg_iast (j := w) 53 rfl rfl (vp_in_nI (by omega : w < 120) (by omega)) (nI_clamp (by omega)) rfl ?_
  refine mg_iload 55 rfl rfl rfl ?_
  refine mg_if_ne 58 67 rfl rfl (by decide) (fun c_55 => ?_) (fun c_55 => absurd c_55 (by decide))
  refine mg_iload 69 rfl rfl rfl ?_
  refine mg_iconst (v := 1) 70 rfl (by decide) rfl ?_
  refine mg_ic_ne 73 110 rfl rfl (by decide) (fun c_70 => ?_) (fun c_70 => absurd c_70 (by decide))
  refine mg_iload 112 rfl rfl rfl ?_
  refine mg_iconst (v := 1) 113 rfl (by decide) rfl ?_
  refine mg_ic_ne 116 126 rfl rfl (by decide) (fun c_113 => ?_) (fun c_113 => absurd c_113 (by decide))
  refine mg_iload 128 rfl rfl rfl ?_
  refine mg_iconst (v := 2) 129 rfl (by decide) rfl ?_
  refine mg_ic_ne 132 155 rfl rfl (by decide) (fun c_129 => ?_) (fun c_129 => absurd c_129 (by decide))
  refine mg_iload 157 rfl rfl rfl ?_
  refine mg_iconst (v := 3) 158 rfl (by decide) rfl ?_
  refine mg_ic_ne 161 178 rfl rfl (by decide) (fun c_158 => absurd c_158 (by decide)) (fun c_158 => ?_)
  refine mg_iload 163 rfl rfl rfl ?_
  refine mg_if_ne 166 178 rfl rfl (by decide) (fun c_163 => absurd c_163 (by decide)) (fun c_163 => ?_)
  refine mg_iload_n 167 rfl rfl rfl ?_
  refine mg_if_eq 170 175 rfl rfl (by decide) (fun c_167 => ?_) (fun c_167 => absurd c_167 (by decide))
  refine mg_iload 177 rfl rfl rfl ?_
  refine mg_iret rfl rfl ?_
  exact k
set_option maxHeartbeats 2000000 in
set_option maxRecDepth 20000 in
theorem ss_or1 {d : Nat} {M : mm_M} {Q : mm_Qt} {w n : Nat} (hw : w < 120) (h34 : M 34 w = nI n) (h35 : M 35 w = nI 1) (h60 : n < 60) (h22 : M 22 n = nI 3) {f : Int32} {g : Int32} (hd : 3 ≤ d) (k : Q (some (.inl (-1))) (mm_up M 35 w (nI (1 + 1)))) : mm_Ev pg ly d 99 [.inr 21, .inl (nI w), .inl f, .inl g] M Q := by
  obtain ⟨d, rfl⟩ : ∃ e, d = e + 1 := ⟨d - 1, by omega⟩
  refine mg_body yy_Mo_step pg_Mo_step (Nat.le_of_ble_eq_true rfl) ?_
  show mm_Rn _ _ _ _ _ _ 0 [(0, _), (1, _), (2, _), (3, _)] [] _
  refine mg_aload_n 1 rfl rfl rfl ?_
  refine mg_getR 4 rfl rfl rfl rfl ?_
  refine mg_iload_n 5 rfl rfl rfl ?_
  refine mg_iald (v := nI n) 6 rfl rfl (vp_in_nI (by omega : w < 120) (by omega)) (by rw [nI_clamp (by omega)]; exact h34) rfl ?_
  refine mg_istore (L2 := [(0, _), (1, _), (2, _), (3, _), (4, _)]) 8 rfl (by decide) rfl rfl ?_
  refine mg_aload_n 9 rfl rfl rfl ?_
  refine mg_getR 12 rfl rfl rfl rfl ?_
  refine mg_iload 14 rfl rfl rfl ?_
  refine mg_iald (v := 3) 15 rfl rfl (vp_in_nI (by omega : n < 60) (by omega)) (by rw [nI_clamp (by omega)]; exact h22) rfl ?_
  refine mg_istore (L2 := [(0, _), (1, _), (2, _), (3, _), (4, _), (5, _)]) 17 rfl (by decide) rfl rfl ?_
  refine mg_aload_n 18 rfl rfl rfl ?_
  refine mg_getR 21 rfl rfl rfl rfl ?_
  refine mg_iload_n 22 rfl rfl rfl ?_
  refine mg_iald (v := 1) 23 rfl rfl (vp_in_nI (by omega : w < 120) (by omega)) (by rw [nI_clamp (by omega)]; exact h35) rfl ?_
  refine mg_istore (L2 := [(0, _), (1, _), (2, _), (3, _), (4, _), (5, _), (6, _)]) 25 rfl (by decide) rfl rfl ?_
  refine mg_aload_n 26 rfl rfl rfl ?_
  refine mg_getR 29 rfl rfl rfl rfl ?_
  refine mg_iload 31 rfl rfl rfl ?_
  refine mg_iald 32 rfl rfl (vp_in_nI (by omega : n < 60) (by omega)) rfl rfl ?_
  refine mg_istore (L2 := [(0, _), (1, _), (2, _), (3, _), (4, _), (5, _), (6, _), (7, _)]) 34 rfl (by decide) rfl rfl ?_
  refine mg_aload_n 35 rfl rfl rfl ?_
  refine mg_getR 38 rfl rfl rfl rfl ?_
  refine mg_iload 40 rfl rfl rfl ?_
  refine mg_iald 41 rfl rfl (vp_in_nI (by omega : n < 60) (by omega)) rfl rfl ?_
  refine mg_istore (L2 := [(0, _), (1, _), (2, _), (3, _), (4, _), (5, _), (6, _), (7, _), (8, _)]) 43 rfl (by decide) rfl rfl ?_
  refine mg_aload_n 44 rfl rfl rfl ?_
  refine mg_getR 47 rfl rfl rfl rfl ?_
  refine mg_iload_n 48 rfl rfl rfl ?_
  refine mg_dup2 49 rfl rfl ?_
  refine mg_iald (v := nI 1) 50 rfl rfl (vp_in_nI (by omega : w < 120) (by omega)) (by rw [nI_clamp (by omega)]; exact h35) rfl ?_
  refine mg_iconst (v := 1) 51 rfl (by decide) rfl ?_
  refine mg_iadd (v := nI (1 + 1)) 52 rfl (nI_1 _) rfl ?_
  refine mg_iast (j := w) 53 rfl rfl (vp_in_nI (by omega : w < 120) (by omega)) (nI_clamp (by omega)) rfl ?_
  refine mg_iload 55 rfl rfl rfl ?_
  refine mg_if_ne 58 67 rfl rfl (by decide) (fun c_55 => ?_) (fun c_55 => absurd c_55 (by decide))
  refine mg_iload 69 rfl rfl rfl ?_
  refine mg_iconst (v := 1) 70 rfl (by decide) rfl ?_
  refine mg_ic_ne 73 110 rfl rfl (by decide) (fun c_70 => ?_) (fun c_70 => absurd c_70 (by decide))
  refine mg_iload 112 rfl rfl rfl ?_
  refine mg_iconst (v := 1) 113 rfl (by decide) rfl ?_
  refine mg_ic_ne 116 126 rfl rfl (by decide) (fun c_113 => ?_) (fun c_113 => absurd c_113 (by decide))
  refine mg_iload 128 rfl rfl rfl ?_
  refine mg_iconst (v := 2) 129 rfl (by decide) rfl ?_
  refine mg_ic_ne 132 155 rfl rfl (by decide) (fun c_129 => ?_) (fun c_129 => absurd c_129 (by decide))
  refine mg_iload 157 rfl rfl rfl ?_
  refine mg_iconst (v := 3) 158 rfl (by decide) rfl ?_
  refine mg_ic_ne 161 178 rfl rfl (by decide) (fun c_158 => absurd c_158 (by decide)) (fun c_158 => ?_)
  refine mg_iload 163 rfl rfl rfl ?_
  refine mg_if_ne 166 178 rfl rfl (by decide) (fun c_163 => ?_) (fun c_163 => absurd c_163 (by decide))
  refine mg_iload 180 rfl rfl rfl ?_
  refine mg_iconst (v := 5) 181 rfl (by decide) rfl ?_
  refine mg_ic_eq 184 195 rfl rfl (by decide) (fun c_181 => absurd c_181 (by decide)) (fun c_181 => ?_)
  refine mg_iload 186 rfl rfl rfl ?_
  refine mg_iconst (v := 4) 187 rfl (by decide) rfl ?_
  refine mg_ic_ne 190 206 rfl rfl (by decide) (fun c_187 => ?_) (fun c_187 => absurd c_187 (by decide))
  refine mg_iload 208 rfl rfl rfl ?_
  refine mg_bipush (v := 6) 210 rfl (by decide) rfl ?_
  refine mg_ic_le 213 221 rfl rfl (by decide) (fun c_210 => ?_) (fun c_210 => absurd c_210 (by decide))
  refine mg_iload 223 rfl rfl rfl ?_
  refine mg_bipush (v := 8) 225 rfl (by decide) rfl ?_
  refine mg_ic_ne 228 247 rfl rfl (by decide) (fun c_225 => ?_) (fun c_225 => absurd c_225 (by decide))
  refine mg_iconst (v := (-1)) 248 rfl (by decide) rfl ?_
  refine mg_iret rfl rfl ?_
  exact k
set_option maxHeartbeats 2000000 in
set_option maxRecDepth 20000 in
theorem ss_may0a {d : Nat} {M : mm_M} {Q : mm_Qt} {w n : Nat} (hw : w < 120) (h34 : M 34 w = nI n) (h35 : M 35 w = nI 0) (h60 : n < 60) (h22 : M 22 n = nI 4) {m : Nat} (ha : M 23 n = nI m) {f : Int32} (hd : 3 ≤ d) (k : Q (some (.inl (nI m))) (mm_up M 35 w (nI (0 + 1)))) : mm_Ev pg ly d 99 [.inr 21, .inl (nI w), .inl f, .inl 1] M Q := by
  obtain ⟨d, rfl⟩ : ∃ e, d = e + 1 := ⟨d - 1, by omega⟩
  refine mg_body yy_Mo_step pg_Mo_step (Nat.le_of_ble_eq_true rfl) ?_
  show mm_Rn _ _ _ _ _ _ 0 [(0, _), (1, _), (2, _), (3, _)] [] _
  refine mg_aload_n 1 rfl rfl rfl ?_
  refine mg_getR 4 rfl rfl rfl rfl ?_
  refine mg_iload_n 5 rfl rfl rfl ?_
  refine mg_iald (v := nI n) 6 rfl rfl (vp_in_nI (by omega : w < 120) (by omega)) (by rw [nI_clamp (by omega)]; exact h34) rfl ?_
  refine mg_istore (L2 := [(0, _), (1, _), (2, _), (3, _), (4, _)]) 8 rfl (by decide) rfl rfl ?_
  refine mg_aload_n 9 rfl rfl rfl ?_
  refine mg_getR 12 rfl rfl rfl rfl ?_
  refine mg_iload 14 rfl rfl rfl ?_
  refine mg_iald (v := 4) 15 rfl rfl (vp_in_nI (by omega : n < 60) (by omega)) (by rw [nI_clamp (by omega)]; exact h22) rfl ?_
  refine mg_istore (L2 := [(0, _), (1, _), (2, _), (3, _), (4, _), (5, _)]) 17 rfl (by decide) rfl rfl ?_
  refine mg_aload_n 18 rfl rfl rfl ?_
  refine mg_getR 21 rfl rfl rfl rfl ?_
  refine mg_iload_n 22 rfl rfl rfl ?_
  refine mg_iald (v := 0) 23 rfl rfl (vp_in_nI (by omega : w < 120) (by omega)) (by rw [nI_clamp (by omega)]; exact h35) rfl ?_
  refine mg_istore (L2 := [(0, _), (1, _), (2, _), (3, _), (4, _), (5, _), (6, _)]) 25 rfl (by decide) rfl rfl ?_
  refine mg_aload_n 26 rfl rfl rfl ?_
  refine mg_getR 29 rfl rfl rfl rfl ?_
  refine mg_iload 31 rfl rfl rfl ?_
  refine mg_iald (v := nI m) 32 rfl rfl (vp_in_nI (by omega : n < 60) (by omega)) (by rw [nI_clamp (by omega)]; exact ha) rfl ?_
  refine mg_istore (L2 := [(0, _), (1, _), (2, _), (3, _), (4, _), (5, _), (6, _), (7, _)]) 34 rfl (by decide) rfl rfl ?_
  refine mg_aload_n 35 rfl rfl rfl ?_
  refine mg_getR 38 rfl rfl rfl rfl ?_
  refine mg_iload 40 rfl rfl rfl ?_
  refine mg_iald 41 rfl rfl (vp_in_nI (by omega : n < 60) (by omega)) rfl rfl ?_
  refine mg_istore (L2 := [(0, _), (1, _), (2, _), (3, _), (4, _), (5, _), (6, _), (7, _), (8, _)]) 43 rfl (by decide) rfl rfl ?_
  refine mg_aload_n 44 rfl rfl rfl ?_
  refine mg_getR 47 rfl rfl rfl rfl ?_
  refine mg_iload_n 48 rfl rfl rfl ?_
  refine mg_dup2 49 rfl rfl ?_
  refine mg_iald (v := nI 0) 50 rfl rfl (vp_in_nI (by omega : w < 120) (by omega)) (by rw [nI_clamp (by omega)]; exact h35) rfl ?_
  refine mg_iconst (v := 1) 51 rfl (by decide) rfl ?_
  refine mg_iadd (v := nI (0 + 1)) 52 rfl (nI_1 _) rfl ?_
  refine mg_iast (j := w) 53 rfl rfl (vp_in_nI (by omega : w < 120) (by omega)) (nI_clamp (by omega)) rfl ?_
  refine mg_iload 55 rfl rfl rfl ?_
  refine mg_if_ne 58 67 rfl rfl (by decide) (fun c_55 => ?_) (fun c_55 => absurd c_55 (by decide))
  refine mg_iload 69 rfl rfl rfl ?_
  refine mg_iconst (v := 1) 70 rfl (by decide) rfl ?_
  refine mg_ic_ne 73 110 rfl rfl (by decide) (fun c_70 => ?_) (fun c_70 => absurd c_70 (by decide))
  refine mg_iload 112 rfl rfl rfl ?_
  refine mg_iconst (v := 1) 113 rfl (by decide) rfl ?_
  refine mg_ic_ne 116 126 rfl rfl (by decide) (fun c_113 => ?_) (fun c_113 => absurd c_113 (by decide))
  refine mg_iload 128 rfl rfl rfl ?_
  refine mg_iconst (v := 2) 129 rfl (by decide) rfl ?_
  refine mg_ic_ne 132 155 rfl rfl (by decide) (fun c_129 => ?_) (fun c_129 => absurd c_129 (by decide))
  refine mg_iload 157 rfl rfl rfl ?_
  refine mg_iconst (v := 3) 158 rfl (by decide) rfl ?_
  refine mg_ic_ne 161 178 rfl rfl (by decide) (fun c_158 => ?_) (fun c_158 => absurd c_158 (by decide))
  refine mg_iload 180 rfl rfl rfl ?_
  refine mg_iconst (v := 5) 181 rfl (by decide) rfl ?_
  refine mg_ic_eq 184 195 rfl rfl (by decide) (fun c_181 => absurd c_181 (by decide)) (fun c_181 => ?_)
  refine mg_iload 186 rfl rfl rfl ?_
  refine mg_iconst (v := 4) 187 rfl (by decide) rfl ?_
  refine mg_ic_ne 190 206 rfl rfl (by decide) (fun c_187 => absurd c_187 (by decide)) (fun c_187 => ?_)
  refine mg_iload 192 rfl rfl rfl ?_
  refine mg_if_ne 195 206 rfl rfl (by decide) (fun c_192 => absurd c_192 (by decide)) (fun c_192 => ?_)
  refine mg_iload_n 196 rfl rfl rfl ?_
  refine mg_if_eq 199 204 rfl rfl (by decide) (fun c_196 => absurd c_196 (by decide)) (fun c_196 => ?_)
  refine mg_iload 201 rfl rfl rfl ?_
  refine mg_goto 205 rfl (by decide) ?_
  refine mg_iret rfl rfl ?_
  exact k
set_option maxHeartbeats 2000000 in
set_option maxRecDepth 20000 in
theorem ss_may0n {d : Nat} {M : mm_M} {Q : mm_Qt} {w n : Nat} (hw : w < 120) (h34 : M 34 w = nI n) (h35 : M 35 w = nI 0) (h60 : n < 60) (h22 : M 22 n = nI 4) {f : Int32} (hd : 3 ≤ d) (k : Q (some (.inl (-1))) (mm_up M 35 w (nI (0 + 1)))) : mm_Ev pg ly d 99 [.inr 21, .inl (nI w), .inl f, .inl 0] M Q := by
  obtain ⟨d, rfl⟩ : ∃ e, d = e + 1 := ⟨d - 1, by omega⟩
  refine mg_body yy_Mo_step pg_Mo_step (Nat.le_of_ble_eq_true rfl) ?_
  show mm_Rn _ _ _ _ _ _ 0 [(0, _), (1, _), (2, _), (3, _)] [] _
  refine mg_aload_n 1 rfl rfl rfl ?_
  refine mg_getR 4 rfl rfl rfl rfl ?_
  refine mg_iload_n 5 rfl rfl rfl ?_
  refine mg_iald (v := nI n) 6 rfl rfl (vp_in_nI (by omega : w < 120) (by omega)) (by rw [nI_clamp (by omega)]; exact h34) rfl ?_
  refine mg_istore (L2 := [(0, _), (1, _), (2, _), (3, _), (4, _)]) 8 rfl (by decide) rfl rfl ?_
  refine mg_aload_n 9 rfl rfl rfl ?_
  refine mg_getR 12 rfl rfl rfl rfl ?_
  refine mg_iload 14 rfl rfl rfl ?_
  refine mg_iald (v := 4) 15 rfl rfl (vp_in_nI (by omega : n < 60) (by omega)) (by rw [nI_clamp (by omega)]; exact h22) rfl ?_
  refine mg_istore (L2 := [(0, _), (1, _), (2, _), (3, _), (4, _), (5, _)]) 17 rfl (by decide) rfl rfl ?_
  refine mg_aload_n 18 rfl rfl rfl ?_
  refine mg_getR 21 rfl rfl rfl rfl ?_
  refine mg_iload_n 22 rfl rfl rfl ?_
  refine mg_iald (v := 0) 23 rfl rfl (vp_in_nI (by omega : w < 120) (by omega)) (by rw [nI_clamp (by omega)]; exact h35) rfl ?_
  refine mg_istore (L2 := [(0, _), (1, _), (2, _), (3, _), (4, _), (5, _), (6, _)]) 25 rfl (by decide) rfl rfl ?_
  refine mg_aload_n 26 rfl rfl rfl ?_
  refine mg_getR 29 rfl rfl rfl rfl ?_
  refine mg_iload 31 rfl rfl rfl ?_
  refine mg_iald 32 rfl rfl (vp_in_nI (by omega : n < 60) (by omega)) rfl rfl ?_
  refine mg_istore (L2 := [(0, _), (1, _), (2, _), (3, _), (4, _), (5, _), (6, _), (7, _)]) 34 rfl (by decide) rfl rfl ?_
  refine mg_aload_n 35 rfl rfl rfl ?_
  refine mg_getR 38 rfl rfl rfl rfl ?_
  refine mg_iload 40 rfl rfl rfl ?_
  refine mg_iald 41 rfl rfl (vp_in_nI (by omega : n < 60) (by omega)) rfl rfl ?_
  refine mg_istore (L2 := [(0, _), (1, _), (2, _), (3, _), (4, _), (5, _), (6, _), (7, _), (8, _)]) 43 rfl (by decide) rfl rfl ?_
  refine mg_aload_n 44 rfl rfl rfl ?_
  refine mg_getR 47 rfl rfl rfl rfl ?_
  refine mg_iload_n 48 rfl rfl rfl ?_
  refine mg_dup2 49 rfl rfl ?_
  refine mg_iald (v := nI 0) 50 rfl rfl (vp_in_nI (by omega : w < 120) (by omega)) (by rw [nI_clamp (by omega)]; exact h35) rfl ?_
  refine mg_iconst (v := 1) 51 rfl (by decide) rfl ?_
  refine mg_iadd (v := nI (0 + 1)) 52 rfl (nI_1 _) rfl ?_
  refine mg_iast (j := w) 53 rfl rfl (vp_in_nI (by omega : w < 120) (by omega)) (nI_clamp (by omega)) rfl ?_
  refine mg_iload 55 rfl rfl rfl ?_
  refine mg_if_ne 58 67 rfl rfl (by decide) (fun c_55 => ?_) (fun c_55 => absurd c_55 (by decide))
  refine mg_iload 69 rfl rfl rfl ?_
  refine mg_iconst (v := 1) 70 rfl (by decide) rfl ?_
  refine mg_ic_ne 73 110 rfl rfl (by decide) (fun c_70 => ?_) (fun c_70 => absurd c_70 (by decide))
  refine mg_iload 112 rfl rfl rfl ?_
  refine mg_iconst (v := 1) 113 rfl (by decide) rfl ?_
  refine mg_ic_ne 116 126 rfl rfl (by decide) (fun c_113 => ?_) (fun c_113 => absurd c_113 (by decide))
  refine mg_iload 128 rfl rfl rfl ?_
  refine mg_iconst (v := 2) 129 rfl (by decide) rfl ?_
  refine mg_ic_ne 132 155 rfl rfl (by decide) (fun c_129 => ?_) (fun c_129 => absurd c_129 (by decide))
  refine mg_iload 157 rfl rfl rfl ?_
  refine mg_iconst (v := 3) 158 rfl (by decide) rfl ?_
  refine mg_ic_ne 161 178 rfl rfl (by decide) (fun c_158 => ?_) (fun c_158 => absurd c_158 (by decide))
  refine mg_iload 180 rfl rfl rfl ?_
  refine mg_iconst (v := 5) 181 rfl (by decide) rfl ?_
  refine mg_ic_eq 184 195 rfl rfl (by decide) (fun c_181 => absurd c_181 (by decide)) (fun c_181 => ?_)
  refine mg_iload 186 rfl rfl rfl ?_
  refine mg_iconst (v := 4) 187 rfl (by decide) rfl ?_
  refine mg_ic_ne 190 206 rfl rfl (by decide) (fun c_187 => absurd c_187 (by decide)) (fun c_187 => ?_)
  refine mg_iload 192 rfl rfl rfl ?_
  refine mg_if_ne 195 206 rfl rfl (by decide) (fun c_192 => absurd c_192 (by decide)) (fun c_192 => ?_)
  refine mg_iload_n 196 rfl rfl rfl ?_
  refine mg_if_eq 199 204 rfl rfl (by decide) (fun c_196 => ?_) (fun c_196 => absurd c_196 (by decide))
  refine mg_iconst (v := (-1)) 205 rfl (by decide) rfl ?_
  refine mg_iret rfl rfl ?_
  exact k
set_option maxHeartbeats 2000000 in
set_option maxRecDepth 20000 in
theorem ss_may1 {d : Nat} {M : mm_M} {Q : mm_Qt} {w n : Nat} (hw : w < 120) (h34 : M 34 w = nI n) (h35 : M 35 w = nI 1) (h60 : n < 60) (h22 : M 22 n = nI 4) {f : Int32} {g : Int32} (hd : 3 ≤ d) (k : Q (some (.inl (-1))) (mm_up M 35 w (nI (1 + 1)))) : mm_Ev pg ly d 99 [.inr 21, .inl (nI w), .inl f, .inl g] M Q := by
  obtain ⟨d, rfl⟩ : ∃ e, d = e + 1 := ⟨d - 1, by omega⟩
  refine mg_body yy_Mo_step pg_Mo_step (Nat.le_of_ble_eq_true rfl) ?_
  show mm_Rn _ _ _ _ _ _ 0 [(0, _), (1, _), (2, _), (3, _)] [] _
  refine mg_aload_n 1 rfl rfl rfl ?_
  refine mg_getR 4 rfl rfl rfl rfl ?_
  refine mg_iload_n 5 rfl rfl rfl ?_
  refine mg_iald (v := nI n) 6 rfl rfl (vp_in_nI (by omega : w < 120) (by omega)) (by rw [nI_clamp (by omega)]; exact h34) rfl ?_
  refine mg_istore (L2 := [(0, _), (1, _), (2, _), (3, _), (4, _)]) 8 rfl (by decide) rfl rfl ?_
  refine mg_aload_n 9 rfl rfl rfl ?_
  refine mg_getR 12 rfl rfl rfl rfl ?_
  refine mg_iload 14 rfl rfl rfl ?_
  refine mg_iald (v := 4) 15 rfl rfl (vp_in_nI (by omega : n < 60) (by omega)) (by rw [nI_clamp (by omega)]; exact h22) rfl ?_
  refine mg_istore (L2 := [(0, _), (1, _), (2, _), (3, _), (4, _), (5, _)]) 17 rfl (by decide) rfl rfl ?_
  refine mg_aload_n 18 rfl rfl rfl ?_
  refine mg_getR 21 rfl rfl rfl rfl ?_
  refine mg_iload_n 22 rfl rfl rfl ?_
  refine mg_iald (v := 1) 23 rfl rfl (vp_in_nI (by omega : w < 120) (by omega)) (by rw [nI_clamp (by omega)]; exact h35) rfl ?_
  refine mg_istore (L2 := [(0, _), (1, _), (2, _), (3, _), (4, _), (5, _), (6, _)]) 25 rfl (by decide) rfl rfl ?_
  refine mg_aload_n 26 rfl rfl rfl ?_
  refine mg_getR 29 rfl rfl rfl rfl ?_
  refine mg_iload 31 rfl rfl rfl ?_
  refine mg_iald 32 rfl rfl (vp_in_nI (by omega : n < 60) (by omega)) rfl rfl ?_
  refine mg_istore (L2 := [(0, _), (1, _), (2, _), (3, _), (4, _), (5, _), (6, _), (7, _)]) 34 rfl (by decide) rfl rfl ?_
  refine mg_aload_n 35 rfl rfl rfl ?_
  refine mg_getR 38 rfl rfl rfl rfl ?_
  refine mg_iload 40 rfl rfl rfl ?_
  refine mg_iald 41 rfl rfl (vp_in_nI (by omega : n < 60) (by omega)) rfl rfl ?_
  refine mg_istore (L2 := [(0, _), (1, _), (2, _), (3, _), (4, _), (5, _), (6, _), (7, _), (8, _)]) 43 rfl (by decide) rfl rfl ?_
  refine mg_aload_n 44 rfl rfl rfl ?_
  refine mg_getR 47 rfl rfl rfl rfl ?_
  refine mg_iload_n 48 rfl rfl rfl ?_
  refine mg_dup2 49 rfl rfl ?_
  refine mg_iald (v := nI 1) 50 rfl rfl (vp_in_nI (by omega : w < 120) (by omega)) (by rw [nI_clamp (by omega)]; exact h35) rfl ?_
  refine mg_iconst (v := 1) 51 rfl (by decide) rfl ?_
  refine mg_iadd (v := nI (1 + 1)) 52 rfl (nI_1 _) rfl ?_
  refine mg_iast (j := w) 53 rfl rfl (vp_in_nI (by omega : w < 120) (by omega)) (nI_clamp (by omega)) rfl ?_
  refine mg_iload 55 rfl rfl rfl ?_
  refine mg_if_ne 58 67 rfl rfl (by decide) (fun c_55 => ?_) (fun c_55 => absurd c_55 (by decide))
  refine mg_iload 69 rfl rfl rfl ?_
  refine mg_iconst (v := 1) 70 rfl (by decide) rfl ?_
  refine mg_ic_ne 73 110 rfl rfl (by decide) (fun c_70 => ?_) (fun c_70 => absurd c_70 (by decide))
  refine mg_iload 112 rfl rfl rfl ?_
  refine mg_iconst (v := 1) 113 rfl (by decide) rfl ?_
  refine mg_ic_ne 116 126 rfl rfl (by decide) (fun c_113 => ?_) (fun c_113 => absurd c_113 (by decide))
  refine mg_iload 128 rfl rfl rfl ?_
  refine mg_iconst (v := 2) 129 rfl (by decide) rfl ?_
  refine mg_ic_ne 132 155 rfl rfl (by decide) (fun c_129 => ?_) (fun c_129 => absurd c_129 (by decide))
  refine mg_iload 157 rfl rfl rfl ?_
  refine mg_iconst (v := 3) 158 rfl (by decide) rfl ?_
  refine mg_ic_ne 161 178 rfl rfl (by decide) (fun c_158 => ?_) (fun c_158 => absurd c_158 (by decide))
  refine mg_iload 180 rfl rfl rfl ?_
  refine mg_iconst (v := 5) 181 rfl (by decide) rfl ?_
  refine mg_ic_eq 184 195 rfl rfl (by decide) (fun c_181 => absurd c_181 (by decide)) (fun c_181 => ?_)
  refine mg_iload 186 rfl rfl rfl ?_
  refine mg_iconst (v := 4) 187 rfl (by decide) rfl ?_
  refine mg_ic_ne 190 206 rfl rfl (by decide) (fun c_187 => absurd c_187 (by decide)) (fun c_187 => ?_)
  refine mg_iload 192 rfl rfl rfl ?_
  refine mg_if_ne 195 206 rfl rfl (by decide) (fun c_192 => ?_) (fun c_192 => absurd c_192 (by decide))
  refine mg_iload 208 rfl rfl rfl ?_
  refine mg_bipush (v := 6) 210 rfl (by decide) rfl ?_
  refine mg_ic_le 213 221 rfl rfl (by decide) (fun c_210 => ?_) (fun c_210 => absurd c_210 (by decide))
  refine mg_iload 223 rfl rfl rfl ?_
  refine mg_bipush (v := 8) 225 rfl (by decide) rfl ?_
  refine mg_ic_ne 228 247 rfl rfl (by decide) (fun c_225 => ?_) (fun c_225 => absurd c_225 (by decide))
  refine mg_iconst (v := (-1)) 248 rfl (by decide) rfl ?_
  refine mg_iret rfl rfl ?_
  exact k
set_option maxHeartbeats 2000000 in
set_option maxRecDepth 20000 in
theorem ss_manya {d : Nat} {M : mm_M} {Q : mm_Qt} {w n : Nat} {p : Nat} (hw : w < 120) (h34 : M 34 w = nI n) (h35 : M 35 w = nI p) (h60 : n < 60) (h22 : M 22 n = nI 5) {m : Nat} (ha : M 23 n = nI m) {f : Int32} (hd : 3 ≤ d) (k : Q (some (.inl (nI m))) (mm_up M 35 w (nI (p + 1)))) : mm_Ev pg ly d 99 [.inr 21, .inl (nI w), .inl f, .inl 1] M Q := by
  obtain ⟨d, rfl⟩ : ∃ e, d = e + 1 := ⟨d - 1, by omega⟩
  refine mg_body yy_Mo_step pg_Mo_step (Nat.le_of_ble_eq_true rfl) ?_
  show mm_Rn _ _ _ _ _ _ 0 [(0, _), (1, _), (2, _), (3, _)] [] _
  refine mg_aload_n 1 rfl rfl rfl ?_
  refine mg_getR 4 rfl rfl rfl rfl ?_
  refine mg_iload_n 5 rfl rfl rfl ?_
  refine mg_iald (v := nI n) 6 rfl rfl (vp_in_nI (by omega : w < 120) (by omega)) (by rw [nI_clamp (by omega)]; exact h34) rfl ?_
  refine mg_istore (L2 := [(0, _), (1, _), (2, _), (3, _), (4, _)]) 8 rfl (by decide) rfl rfl ?_
  refine mg_aload_n 9 rfl rfl rfl ?_
  refine mg_getR 12 rfl rfl rfl rfl ?_
  refine mg_iload 14 rfl rfl rfl ?_
  refine mg_iald (v := 5) 15 rfl rfl (vp_in_nI (by omega : n < 60) (by omega)) (by rw [nI_clamp (by omega)]; exact h22) rfl ?_
  refine mg_istore (L2 := [(0, _), (1, _), (2, _), (3, _), (4, _), (5, _)]) 17 rfl (by decide) rfl rfl ?_
  refine mg_aload_n 18 rfl rfl rfl ?_
  refine mg_getR 21 rfl rfl rfl rfl ?_
  refine mg_iload_n 22 rfl rfl rfl ?_
  refine mg_iald (v := nI p) 23 rfl rfl (vp_in_nI (by omega : w < 120) (by omega)) (by rw [nI_clamp (by omega)]; exact h35) rfl ?_
  refine mg_istore (L2 := [(0, _), (1, _), (2, _), (3, _), (4, _), (5, _), (6, _)]) 25 rfl (by decide) rfl rfl ?_
  refine mg_aload_n 26 rfl rfl rfl ?_
  refine mg_getR 29 rfl rfl rfl rfl ?_
  refine mg_iload 31 rfl rfl rfl ?_
  refine mg_iald (v := nI m) 32 rfl rfl (vp_in_nI (by omega : n < 60) (by omega)) (by rw [nI_clamp (by omega)]; exact ha) rfl ?_
  refine mg_istore (L2 := [(0, _), (1, _), (2, _), (3, _), (4, _), (5, _), (6, _), (7, _)]) 34 rfl (by decide) rfl rfl ?_
  refine mg_aload_n 35 rfl rfl rfl ?_
  refine mg_getR 38 rfl rfl rfl rfl ?_
  refine mg_iload 40 rfl rfl rfl ?_
  refine mg_iald 41 rfl rfl (vp_in_nI (by omega : n < 60) (by omega)) rfl rfl ?_
  refine mg_istore (L2 := [(0, _), (1, _), (2, _), (3, _), (4, _), (5, _), (6, _), (7, _), (8, _)]) 43 rfl (by decide) rfl rfl ?_
  refine mg_aload_n 44 rfl rfl rfl ?_
  refine mg_getR 47 rfl rfl rfl rfl ?_
  refine mg_iload_n 48 rfl rfl rfl ?_
  refine mg_dup2 49 rfl rfl ?_
  refine mg_iald (v := nI p) 50 rfl rfl (vp_in_nI (by omega : w < 120) (by omega)) (by rw [nI_clamp (by omega)]; exact h35) rfl ?_
  refine mg_iconst (v := 1) 51 rfl (by decide) rfl ?_
  refine mg_iadd (v := nI (p + 1)) 52 rfl (nI_1 _) rfl ?_
  refine mg_iast (j := w) 53 rfl rfl (vp_in_nI (by omega : w < 120) (by omega)) (nI_clamp (by omega)) rfl ?_
  refine mg_iload 55 rfl rfl rfl ?_
  refine mg_if_ne 58 67 rfl rfl (by decide) (fun c_55 => ?_) (fun c_55 => absurd c_55 (by decide))
  refine mg_iload 69 rfl rfl rfl ?_
  refine mg_iconst (v := 1) 70 rfl (by decide) rfl ?_
  refine mg_ic_ne 73 110 rfl rfl (by decide) (fun c_70 => ?_) (fun c_70 => absurd c_70 (by decide))
  refine mg_iload 112 rfl rfl rfl ?_
  refine mg_iconst (v := 1) 113 rfl (by decide) rfl ?_
  refine mg_ic_ne 116 126 rfl rfl (by decide) (fun c_113 => ?_) (fun c_113 => absurd c_113 (by decide))
  refine mg_iload 128 rfl rfl rfl ?_
  refine mg_iconst (v := 2) 129 rfl (by decide) rfl ?_
  refine mg_ic_ne 132 155 rfl rfl (by decide) (fun c_129 => ?_) (fun c_129 => absurd c_129 (by decide))
  refine mg_iload 157 rfl rfl rfl ?_
  refine mg_iconst (v := 3) 158 rfl (by decide) rfl ?_
  refine mg_ic_ne 161 178 rfl rfl (by decide) (fun c_158 => ?_) (fun c_158 => absurd c_158 (by decide))
  refine mg_iload 180 rfl rfl rfl ?_
  refine mg_iconst (v := 5) 181 rfl (by decide) rfl ?_
  refine mg_ic_eq 184 195 rfl rfl (by decide) (fun c_181 => ?_) (fun c_181 => absurd c_181 (by decide))
  refine mg_iload_n 196 rfl rfl rfl ?_
  refine mg_if_eq 199 204 rfl rfl (by decide) (fun c_196 => absurd c_196 (by decide)) (fun c_196 => ?_)
  refine mg_iload 201 rfl rfl rfl ?_
  refine mg_goto 205 rfl (by decide) ?_
  refine mg_iret rfl rfl ?_
  exact k
set_option maxHeartbeats 2000000 in
set_option maxRecDepth 20000 in
theorem ss_manyn {d : Nat} {M : mm_M} {Q : mm_Qt} {w n : Nat} {p : Nat} (hw : w < 120) (h34 : M 34 w = nI n) (h35 : M 35 w = nI p) (h60 : n < 60) (h22 : M 22 n = nI 5) {f : Int32} (hd : 3 ≤ d) (k : Q (some (.inl (-1))) (mm_up M 35 w (nI (p + 1)))) : mm_Ev pg ly d 99 [.inr 21, .inl (nI w), .inl f, .inl 0] M Q := by
  obtain ⟨d, rfl⟩ : ∃ e, d = e + 1 := ⟨d - 1, by omega⟩
  refine mg_body yy_Mo_step pg_Mo_step (Nat.le_of_ble_eq_true rfl) ?_
  show mm_Rn _ _ _ _ _ _ 0 [(0, _), (1, _), (2, _), (3, _)] [] _
  refine mg_aload_n 1 rfl rfl rfl ?_
  refine mg_getR 4 rfl rfl rfl rfl ?_
  refine mg_iload_n 5 rfl rfl rfl ?_
  refine mg_iald (v := nI n) 6 rfl rfl (vp_in_nI (by omega : w < 120) (by omega)) (by rw [nI_clamp (by omega)]; exact h34) rfl ?_
  refine mg_istore (L2 := [(0, _), (1, _), (2, _), (3, _), (4, _)]) 8 rfl (by decide) rfl rfl ?_
  refine mg_aload_n 9 rfl rfl rfl ?_
  refine mg_getR 12 rfl rfl rfl rfl ?_
  refine mg_iload 14 rfl rfl rfl ?_
  refine mg_iald (v := 5) 15 rfl rfl (vp_in_nI (by omega : n < 60) (by omega)) (by rw [nI_clamp (by omega)]; exact h22) rfl ?_
  refine mg_istore (L2 := [(0, _), (1, _), (2, _), (3, _), (4, _), (5, _)]) 17 rfl (by decide) rfl rfl ?_
  refine mg_aload_n 18 rfl rfl rfl ?_
  refine mg_getR 21 rfl rfl rfl rfl ?_
  refine mg_iload_n 22 rfl rfl rfl ?_
  refine mg_iald (v := nI p) 23 rfl rfl (vp_in_nI (by omega : w < 120) (by omega)) (by rw [nI_clamp (by omega)]; exact h35) rfl ?_
  refine mg_istore (L2 := [(0, _), (1, _), (2, _), (3, _), (4, _), (5, _), (6, _)]) 25 rfl (by decide) rfl rfl ?_
  refine mg_aload_n 26 rfl rfl rfl ?_
  refine mg_getR 29 rfl rfl rfl rfl ?_
  refine mg_iload 31 rfl rfl rfl ?_
  refine mg_iald 32 rfl rfl (vp_in_nI (by omega : n < 60) (by omega)) rfl rfl ?_
  refine mg_istore (L2 := [(0, _), (1, _), (2, _), (3, _), (4, _), (5, _), (6, _), (7, _)]) 34 rfl (by decide) rfl rfl ?_
  refine mg_aload_n 35 rfl rfl rfl ?_
  refine mg_getR 38 rfl rfl rfl rfl ?_
  refine mg_iload 40 rfl rfl rfl ?_
  refine mg_iald 41 rfl rfl (vp_in_nI (by omega : n < 60) (by omega)) rfl rfl ?_
  refine mg_istore (L2 := [(0, _), (1, _), (2, _), (3, _), (4, _), (5, _), (6, _), (7, _), (8, _)]) 43 rfl (by decide) rfl rfl ?_
  refine mg_aload_n 44 rfl rfl rfl ?_
  refine mg_getR 47 rfl rfl rfl rfl ?_
  refine mg_iload_n 48 rfl rfl rfl ?_
  refine mg_dup2 49 rfl rfl ?_
  refine mg_iald (v := nI p) 50 rfl rfl (vp_in_nI (by omega : w < 120) (by omega)) (by rw [nI_clamp (by omega)]; exact h35) rfl ?_
  refine mg_iconst (v := 1) 51 rfl (by decide) rfl ?_
  refine mg_iadd (v := nI (p + 1)) 52 rfl (nI_1 _) rfl ?_
  refine mg_iast (j := w) 53 rfl rfl (vp_in_nI (by omega : w < 120) (by omega)) (nI_clamp (by omega)) rfl ?_
  refine mg_iload 55 rfl rfl rfl ?_
  refine mg_if_ne 58 67 rfl rfl (by decide) (fun c_55 => ?_) (fun c_55 => absurd c_55 (by decide))
  refine mg_iload 69 rfl rfl rfl ?_
  refine mg_iconst (v := 1) 70 rfl (by decide) rfl ?_
  refine mg_ic_ne 73 110 rfl rfl (by decide) (fun c_70 => ?_) (fun c_70 => absurd c_70 (by decide))
  refine mg_iload 112 rfl rfl rfl ?_
  refine mg_iconst (v := 1) 113 rfl (by decide) rfl ?_
  refine mg_ic_ne 116 126 rfl rfl (by decide) (fun c_113 => ?_) (fun c_113 => absurd c_113 (by decide))
  refine mg_iload 128 rfl rfl rfl ?_
  refine mg_iconst (v := 2) 129 rfl (by decide) rfl ?_
  refine mg_ic_ne 132 155 rfl rfl (by decide) (fun c_129 => ?_) (fun c_129 => absurd c_129 (by decide))
  refine mg_iload 157 rfl rfl rfl ?_
  refine mg_iconst (v := 3) 158 rfl (by decide) rfl ?_
  refine mg_ic_ne 161 178 rfl rfl (by decide) (fun c_158 => ?_) (fun c_158 => absurd c_158 (by decide))
  refine mg_iload 180 rfl rfl rfl ?_
  refine mg_iconst (v := 5) 181 rfl (by decide) rfl ?_
  refine mg_ic_eq 184 195 rfl rfl (by decide) (fun c_181 => ?_) (fun c_181 => absurd c_181 (by decide))
  refine mg_iload_n 196 rfl rfl rfl ?_
  refine mg_if_eq 199 204 rfl rfl (by decide) (fun c_196 => ?_) (fun c_196 => absurd c_196 (by decide))
  refine mg_iconst (v := (-1)) 205 rfl (by decide) rfl ?_
  refine mg_iret rfl rfl ?_
  exact k
set_option maxHeartbeats 2000000 in
set_option maxRecDepth 20000 in
theorem ss_emp {d : Nat} {M : mm_M} {Q : mm_Qt} {w n : Nat} (hw : w < 120) (h34 : M 34 w = nI n) (h35 : M 35 w = nI 0) (h60 : n < 60) (h22 : M 22 n = nI 6) {f : Int32} {g : Int32} (hd : 3 ≤ d) (k : Q (some (.inl (-1))) (mm_up M 35 w (nI (0 + 1)))) : mm_Ev pg ly d 99 [.inr 21, .inl (nI w), .inl f, .inl g] M Q := by
  obtain ⟨d, rfl⟩ : ∃ e, d = e + 1 := ⟨d - 1, by omega⟩
  refine mg_body yy_Mo_step pg_Mo_step (Nat.le_of_ble_eq_true rfl) ?_
  show mm_Rn _ _ _ _ _ _ 0 [(0, _), (1, _), (2, _), (3, _)] [] _
  refine mg_aload_n 1 rfl rfl rfl ?_
  refine mg_getR 4 rfl rfl rfl rfl ?_
  refine mg_iload_n 5 rfl rfl rfl ?_
  refine mg_iald (v := nI n) 6 rfl rfl (vp_in_nI (by omega : w < 120) (by omega)) (by rw [nI_clamp (by omega)]; exact h34) rfl ?_
  refine mg_istore (L2 := [(0, _), (1, _), (2, _), (3, _), (4, _)]) 8 rfl (by decide) rfl rfl ?_
  refine mg_aload_n 9 rfl rfl rfl ?_
  refine mg_getR 12 rfl rfl rfl rfl ?_
  refine mg_iload 14 rfl rfl rfl ?_
  refine mg_iald (v := 6) 15 rfl rfl (vp_in_nI (by omega : n < 60) (by omega)) (by rw [nI_clamp (by omega)]; exact h22) rfl ?_
  refine mg_istore (L2 := [(0, _), (1, _), (2, _), (3, _), (4, _), (5, _)]) 17 rfl (by decide) rfl rfl ?_
  refine mg_aload_n 18 rfl rfl rfl ?_
  refine mg_getR 21 rfl rfl rfl rfl ?_
  refine mg_iload_n 22 rfl rfl rfl ?_
  refine mg_iald (v := 0) 23 rfl rfl (vp_in_nI (by omega : w < 120) (by omega)) (by rw [nI_clamp (by omega)]; exact h35) rfl ?_
  refine mg_istore (L2 := [(0, _), (1, _), (2, _), (3, _), (4, _), (5, _), (6, _)]) 25 rfl (by decide) rfl rfl ?_
  refine mg_aload_n 26 rfl rfl rfl ?_
  refine mg_getR 29 rfl rfl rfl rfl ?_
  refine mg_iload 31 rfl rfl rfl ?_
  refine mg_iald 32 rfl rfl (vp_in_nI (by omega : n < 60) (by omega)) rfl rfl ?_
  refine mg_istore (L2 := [(0, _), (1, _), (2, _), (3, _), (4, _), (5, _), (6, _), (7, _)]) 34 rfl (by decide) rfl rfl ?_
  refine mg_aload_n 35 rfl rfl rfl ?_
  refine mg_getR 38 rfl rfl rfl rfl ?_
  refine mg_iload 40 rfl rfl rfl ?_
  refine mg_iald 41 rfl rfl (vp_in_nI (by omega : n < 60) (by omega)) rfl rfl ?_
  refine mg_istore (L2 := [(0, _), (1, _), (2, _), (3, _), (4, _), (5, _), (6, _), (7, _), (8, _)]) 43 rfl (by decide) rfl rfl ?_
  refine mg_aload_n 44 rfl rfl rfl ?_
  refine mg_getR 47 rfl rfl rfl rfl ?_
  refine mg_iload_n 48 rfl rfl rfl ?_
  refine mg_dup2 49 rfl rfl ?_
  refine mg_iald (v := nI 0) 50 rfl rfl (vp_in_nI (by omega : w < 120) (by omega)) (by rw [nI_clamp (by omega)]; exact h35) rfl ?_
  refine mg_iconst (v := 1) 51 rfl (by decide) rfl ?_
  refine mg_iadd (v := nI (0 + 1)) 52 rfl (nI_1 _) rfl ?_
  refine mg_iast (j := w) 53 rfl rfl (vp_in_nI (by omega : w < 120) (by omega)) (nI_clamp (by omega)) rfl ?_
  refine mg_iload 55 rfl rfl rfl ?_
  refine mg_if_ne 58 67 rfl rfl (by decide) (fun c_55 => ?_) (fun c_55 => absurd c_55 (by decide))
  refine mg_iload 69 rfl rfl rfl ?_
  refine mg_iconst (v := 1) 70 rfl (by decide) rfl ?_
  refine mg_ic_ne 73 110 rfl rfl (by decide) (fun c_70 => ?_) (fun c_70 => absurd c_70 (by decide))
  refine mg_iload 112 rfl rfl rfl ?_
  refine mg_iconst (v := 1) 113 rfl (by decide) rfl ?_
  refine mg_ic_ne 116 126 rfl rfl (by decide) (fun c_113 => ?_) (fun c_113 => absurd c_113 (by decide))
  refine mg_iload 128 rfl rfl rfl ?_
  refine mg_iconst (v := 2) 129 rfl (by decide) rfl ?_
  refine mg_ic_ne 132 155 rfl rfl (by decide) (fun c_129 => ?_) (fun c_129 => absurd c_129 (by decide))
  refine mg_iload 157 rfl rfl rfl ?_
  refine mg_iconst (v := 3) 158 rfl (by decide) rfl ?_
  refine mg_ic_ne 161 178 rfl rfl (by decide) (fun c_158 => ?_) (fun c_158 => absurd c_158 (by decide))
  refine mg_iload 180 rfl rfl rfl ?_
  refine mg_iconst (v := 5) 181 rfl (by decide) rfl ?_
  refine mg_ic_eq 184 195 rfl rfl (by decide) (fun c_181 => absurd c_181 (by decide)) (fun c_181 => ?_)
  refine mg_iload 186 rfl rfl rfl ?_
  refine mg_iconst (v := 4) 187 rfl (by decide) rfl ?_
  refine mg_ic_ne 190 206 rfl rfl (by decide) (fun c_187 => ?_) (fun c_187 => absurd c_187 (by decide))
  refine mg_iload 208 rfl rfl rfl ?_
  refine mg_bipush (v := 6) 210 rfl (by decide) rfl ?_
  refine mg_ic_le 213 221 rfl rfl (by decide) (fun c_210 => ?_) (fun c_210 => absurd c_210 (by decide))
  refine mg_iload 223 rfl rfl rfl ?_
  refine mg_bipush (v := 8) 225 rfl (by decide) rfl ?_
  refine mg_ic_ne 228 247 rfl rfl (by decide) (fun c_225 => ?_) (fun c_225 => absurd c_225 (by decide))
  refine mg_iconst (v := (-1)) 248 rfl (by decide) rfl ?_
  refine mg_iret rfl rfl ?_
  exact k
set_option maxHeartbeats 2000000 in
set_option maxRecDepth 20000 in
theorem ss_ah0 {d : Nat} {M : mm_M} {Q : mm_Qt} {w n : Nat} (hw : w < 120) (h34 : M 34 w = nI n) (h35 : M 35 w = nI 0) (h60 : n < 60) (h22 : M 22 n = nI 7) {m : Nat} (hb : M 24 n = nI m) {f : Int32} {g : Int32} (hd : 3 ≤ d) (k : Q (some (.inl (nI m))) (mm_up M 35 w (nI (0 + 1)))) : mm_Ev pg ly d 99 [.inr 21, .inl (nI w), .inl f, .inl g] M Q := by
  obtain ⟨d, rfl⟩ : ∃ e, d = e + 1 := ⟨d - 1, by omega⟩
  refine mg_body yy_Mo_step pg_Mo_step (Nat.le_of_ble_eq_true rfl) ?_
  show mm_Rn _ _ _ _ _ _ 0 [(0, _), (1, _), (2, _), (3, _)] [] _
  refine mg_aload_n 1 rfl rfl rfl ?_
  refine mg_getR 4 rfl rfl rfl rfl ?_
  refine mg_iload_n 5 rfl rfl rfl ?_
  refine mg_iald (v := nI n) 6 rfl rfl (vp_in_nI (by omega : w < 120) (by omega)) (by rw [nI_clamp (by omega)]; exact h34) rfl ?_
  refine mg_istore (L2 := [(0, _), (1, _), (2, _), (3, _), (4, _)]) 8 rfl (by decide) rfl rfl ?_
  refine mg_aload_n 9 rfl rfl rfl ?_
  refine mg_getR 12 rfl rfl rfl rfl ?_
  refine mg_iload 14 rfl rfl rfl ?_
  refine mg_iald (v := 7) 15 rfl rfl (vp_in_nI (by omega : n < 60) (by omega)) (by rw [nI_clamp (by omega)]; exact h22) rfl ?_
  refine mg_istore (L2 := [(0, _), (1, _), (2, _), (3, _), (4, _), (5, _)]) 17 rfl (by decide) rfl rfl ?_
  refine mg_aload_n 18 rfl rfl rfl ?_
  refine mg_getR 21 rfl rfl rfl rfl ?_
  refine mg_iload_n 22 rfl rfl rfl ?_
  refine mg_iald (v := 0) 23 rfl rfl (vp_in_nI (by omega : w < 120) (by omega)) (by rw [nI_clamp (by omega)]; exact h35) rfl ?_
  refine mg_istore (L2 := [(0, _), (1, _), (2, _), (3, _), (4, _), (5, _), (6, _)]) 25 rfl (by decide) rfl rfl ?_
  refine mg_aload_n 26 rfl rfl rfl ?_
  refine mg_getR 29 rfl rfl rfl rfl ?_
  refine mg_iload 31 rfl rfl rfl ?_
  refine mg_iald 32 rfl rfl (vp_in_nI (by omega : n < 60) (by omega)) rfl rfl ?_
  refine mg_istore (L2 := [(0, _), (1, _), (2, _), (3, _), (4, _), (5, _), (6, _), (7, _)]) 34 rfl (by decide) rfl rfl ?_
  refine mg_aload_n 35 rfl rfl rfl ?_
  refine mg_getR 38 rfl rfl rfl rfl ?_
  refine mg_iload 40 rfl rfl rfl ?_
  refine mg_iald (v := nI m) 41 rfl rfl (vp_in_nI (by omega : n < 60) (by omega)) (by rw [nI_clamp (by omega)]; exact hb) rfl ?_
  refine mg_istore (L2 := [(0, _), (1, _), (2, _), (3, _), (4, _), (5, _), (6, _), (7, _), (8, _)]) 43 rfl (by decide) rfl rfl ?_
  refine mg_aload_n 44 rfl rfl rfl ?_
  refine mg_getR 47 rfl rfl rfl rfl ?_
  refine mg_iload_n 48 rfl rfl rfl ?_
  refine mg_dup2 49 rfl rfl ?_
  refine mg_iald (v := nI 0) 50 rfl rfl (vp_in_nI (by omega : w < 120) (by omega)) (by rw [nI_clamp (by omega)]; exact h35) rfl ?_
  refine mg_iconst (v := 1) 51 rfl (by decide) rfl ?_
  refine mg_iadd (v := nI (0 + 1)) 52 rfl (nI_1 _) rfl ?_
  refine mg_iast (j := w) 53 rfl rfl (vp_in_nI (by omega : w < 120) (by omega)) (nI_clamp (by omega)) rfl ?_
  refine mg_iload 55 rfl rfl rfl ?_
  refine mg_if_ne 58 67 rfl rfl (by decide) (fun c_55 => ?_) (fun c_55 => absurd c_55 (by decide))
  refine mg_iload 69 rfl rfl rfl ?_
  refine mg_iconst (v := 1) 70 rfl (by decide) rfl ?_
  refine mg_ic_ne 73 110 rfl rfl (by decide) (fun c_70 => ?_) (fun c_70 => absurd c_70 (by decide))
  refine mg_iload 112 rfl rfl rfl ?_
  refine mg_iconst (v := 1) 113 rfl (by decide) rfl ?_
  refine mg_ic_ne 116 126 rfl rfl (by decide) (fun c_113 => ?_) (fun c_113 => absurd c_113 (by decide))
  refine mg_iload 128 rfl rfl rfl ?_
  refine mg_iconst (v := 2) 129 rfl (by decide) rfl ?_
  refine mg_ic_ne 132 155 rfl rfl (by decide) (fun c_129 => ?_) (fun c_129 => absurd c_129 (by decide))
  refine mg_iload 157 rfl rfl rfl ?_
  refine mg_iconst (v := 3) 158 rfl (by decide) rfl ?_
  refine mg_ic_ne 161 178 rfl rfl (by decide) (fun c_158 => ?_) (fun c_158 => absurd c_158 (by decide))
  refine mg_iload 180 rfl rfl rfl ?_
  refine mg_iconst (v := 5) 181 rfl (by decide) rfl ?_
  refine mg_ic_eq 184 195 rfl rfl (by decide) (fun c_181 => absurd c_181 (by decide)) (fun c_181 => ?_)
  refine mg_iload 186 rfl rfl rfl ?_
  refine mg_iconst (v := 4) 187 rfl (by decide) rfl ?_
  refine mg_ic_ne 190 206 rfl rfl (by decide) (fun c_187 => ?_) (fun c_187 => absurd c_187 (by decide))
  refine mg_iload 208 rfl rfl rfl ?_
  refine mg_bipush (v := 6) 210 rfl (by decide) rfl ?_
  refine mg_ic_le 213 221 rfl rfl (by decide) (fun c_210 => absurd c_210 (by decide)) (fun c_210 => ?_)
  refine mg_iload 215 rfl rfl rfl ?_
  refine mg_if_ne 218 221 rfl rfl (by decide) (fun c_215 => absurd c_215 (by decide)) (fun c_215 => ?_)
  refine mg_iload 220 rfl rfl rfl ?_
  refine mg_iret rfl rfl ?_
  exact k
set_option maxHeartbeats 2000000 in
set_option maxRecDepth 20000 in
theorem ss_ah1 {d : Nat} {M : mm_M} {Q : mm_Qt} {w n : Nat} (hw : w < 120) (h34 : M 34 w = nI n) (h35 : M 35 w = nI 1) (h60 : n < 60) (h22 : M 22 n = nI 7) {f : Int32} {g : Int32} (hd : 3 ≤ d) (k : Q (some (.inl (-1))) (mm_up M 35 w (nI (1 + 1)))) : mm_Ev pg ly d 99 [.inr 21, .inl (nI w), .inl f, .inl g] M Q := by
  obtain ⟨d, rfl⟩ : ∃ e, d = e + 1 := ⟨d - 1, by omega⟩
  refine mg_body yy_Mo_step pg_Mo_step (Nat.le_of_ble_eq_true rfl) ?_
  show mm_Rn _ _ _ _ _ _ 0 [(0, _), (1, _), (2, _), (3, _)] [] _
  refine mg_aload_n 1 rfl rfl rfl ?_
  refine mg_getR 4 rfl rfl rfl rfl ?_
  refine mg_iload_n 5 rfl rfl rfl ?_
  refine mg_iald (v := nI n) 6 rfl rfl (vp_in_nI (by omega : w < 120) (by omega)) (by rw [nI_clamp (by omega)]; exact h34) rfl ?_
  refine mg_istore (L2 := [(0, _), (1, _), (2, _), (3, _), (4, _)]) 8 rfl (by decide) rfl rfl ?_
  refine mg_aload_n 9 rfl rfl rfl ?_
  refine mg_getR 12 rfl rfl rfl rfl ?_
  refine mg_iload 14 rfl rfl rfl ?_
  refine mg_iald (v := 7) 15 rfl rfl (vp_in_nI (by omega : n < 60) (by omega)) (by rw [nI_clamp (by omega)]; exact h22) rfl ?_
  refine mg_istore (L2 := [(0, _), (1, _), (2, _), (3, _), (4, _), (5, _)]) 17 rfl (by decide) rfl rfl ?_
  refine mg_aload_n 18 rfl rfl rfl ?_
  refine mg_getR 21 rfl rfl rfl rfl ?_
  refine mg_iload_n 22 rfl rfl rfl ?_
  refine mg_iald (v := 1) 23 rfl rfl (vp_in_nI (by omega : w < 120) (by omega)) (by rw [nI_clamp (by omega)]; exact h35) rfl ?_
  refine mg_istore (L2 := [(0, _), (1, _), (2, _), (3, _), (4, _), (5, _), (6, _)]) 25 rfl (by decide) rfl rfl ?_
  refine mg_aload_n 26 rfl rfl rfl ?_
  refine mg_getR 29 rfl rfl rfl rfl ?_
  refine mg_iload 31 rfl rfl rfl ?_
  refine mg_iald 32 rfl rfl (vp_in_nI (by omega : n < 60) (by omega)) rfl rfl ?_
  refine mg_istore (L2 := [(0, _), (1, _), (2, _), (3, _), (4, _), (5, _), (6, _), (7, _)]) 34 rfl (by decide) rfl rfl ?_
  refine mg_aload_n 35 rfl rfl rfl ?_
  refine mg_getR 38 rfl rfl rfl rfl ?_
  refine mg_iload 40 rfl rfl rfl ?_
  refine mg_iald 41 rfl rfl (vp_in_nI (by omega : n < 60) (by omega)) rfl rfl ?_
  refine mg_istore (L2 := [(0, _), (1, _), (2, _), (3, _), (4, _), (5, _), (6, _), (7, _), (8, _)]) 43 rfl (by decide) rfl rfl ?_
  refine mg_aload_n 44 rfl rfl rfl ?_
  refine mg_getR 47 rfl rfl rfl rfl ?_
  refine mg_iload_n 48 rfl rfl rfl ?_
  refine mg_dup2 49 rfl rfl ?_
  refine mg_iald (v := nI 1) 50 rfl rfl (vp_in_nI (by omega : w < 120) (by omega)) (by rw [nI_clamp (by omega)]; exact h35) rfl ?_
  refine mg_iconst (v := 1) 51 rfl (by decide) rfl ?_
  refine mg_iadd (v := nI (1 + 1)) 52 rfl (nI_1 _) rfl ?_
  refine mg_iast (j := w) 53 rfl rfl (vp_in_nI (by omega : w < 120) (by omega)) (nI_clamp (by omega)) rfl ?_
  refine mg_iload 55 rfl rfl rfl ?_
  refine mg_if_ne 58 67 rfl rfl (by decide) (fun c_55 => ?_) (fun c_55 => absurd c_55 (by decide))
  refine mg_iload 69 rfl rfl rfl ?_
  refine mg_iconst (v := 1) 70 rfl (by decide) rfl ?_
  refine mg_ic_ne 73 110 rfl rfl (by decide) (fun c_70 => ?_) (fun c_70 => absurd c_70 (by decide))
  refine mg_iload 112 rfl rfl rfl ?_
  refine mg_iconst (v := 1) 113 rfl (by decide) rfl ?_
  refine mg_ic_ne 116 126 rfl rfl (by decide) (fun c_113 => ?_) (fun c_113 => absurd c_113 (by decide))
  refine mg_iload 128 rfl rfl rfl ?_
  refine mg_iconst (v := 2) 129 rfl (by decide) rfl ?_
  refine mg_ic_ne 132 155 rfl rfl (by decide) (fun c_129 => ?_) (fun c_129 => absurd c_129 (by decide))
  refine mg_iload 157 rfl rfl rfl ?_
  refine mg_iconst (v := 3) 158 rfl (by decide) rfl ?_
  refine mg_ic_ne 161 178 rfl rfl (by decide) (fun c_158 => ?_) (fun c_158 => absurd c_158 (by decide))
  refine mg_iload 180 rfl rfl rfl ?_
  refine mg_iconst (v := 5) 181 rfl (by decide) rfl ?_
  refine mg_ic_eq 184 195 rfl rfl (by decide) (fun c_181 => absurd c_181 (by decide)) (fun c_181 => ?_)
  refine mg_iload 186 rfl rfl rfl ?_
  refine mg_iconst (v := 4) 187 rfl (by decide) rfl ?_
  refine mg_ic_ne 190 206 rfl rfl (by decide) (fun c_187 => ?_) (fun c_187 => absurd c_187 (by decide))
  refine mg_iload 208 rfl rfl rfl ?_
  refine mg_bipush (v := 6) 210 rfl (by decide) rfl ?_
  refine mg_ic_le 213 221 rfl rfl (by decide) (fun c_210 => absurd c_210 (by decide)) (fun c_210 => ?_)
  refine mg_iload 215 rfl rfl rfl ?_
  refine mg_if_ne 218 221 rfl rfl (by decide) (fun c_215 => ?_) (fun c_215 => absurd c_215 (by decide))
  refine mg_iload 223 rfl rfl rfl ?_
  refine mg_bipush (v := 8) 225 rfl (by decide) rfl ?_
  refine mg_ic_ne 228 247 rfl rfl (by decide) (fun c_225 => ?_) (fun c_225 => absurd c_225 (by decide))
  refine mg_iconst (v := (-1)) 248 rfl (by decide) rfl ?_
  refine mg_iret rfl rfl ?_
  exact k
set_option maxHeartbeats 2000000 in
set_option maxRecDepth 20000 in
theorem ss_nm0 {d : Nat} {M : mm_M} {Q : mm_Qt} {w n : Nat} (hw : w < 120) (h34 : M 34 w = nI n) (h35 : M 35 w = nI 0) (h60 : n < 60) (h22 : M 22 n = nI 8) {m : Nat} (hb : M 24 n = nI m) {f : Int32} {g : Int32} (hd : 3 ≤ d) (k : Q (some (.inl (nI m))) (mm_up M 35 w (nI (0 + 1)))) : mm_Ev pg ly d 99 [.inr 21, .inl (nI w), .inl f, .inl g] M Q := by
  obtain ⟨d, rfl⟩ : ∃ e, d = e + 1 := ⟨d - 1, by omega⟩
  refine mg_body yy_Mo_step pg_Mo_step (Nat.le_of_ble_eq_true rfl) ?_
  show mm_Rn _ _ _ _ _ _ 0 [(0, _), (1, _), (2, _), (3, _)] [] _
  refine mg_aload_n 1 rfl rfl rfl ?_
  refine mg_getR 4 rfl rfl rfl rfl ?_
  refine mg_iload_n 5 rfl rfl rfl ?_
  refine mg_iald (v := nI n) 6 rfl rfl (vp_in_nI (by omega : w < 120) (by omega)) (by rw [nI_clamp (by omega)]; exact h34) rfl ?_
  refine mg_istore (L2 := [(0, _), (1, _), (2, _), (3, _), (4, _)]) 8 rfl (by decide) rfl rfl ?_
  refine mg_aload_n 9 rfl rfl rfl ?_
  refine mg_getR 12 rfl rfl rfl rfl ?_
  refine mg_iload 14 rfl rfl rfl ?_
  refine mg_iald (v := 8) 15 rfl rfl (vp_in_nI (by omega : n < 60) (by omega)) (by rw [nI_clamp (by omega)]; exact h22) rfl ?_
  refine mg_istore (L2 := [(0, _), (1, _), (2, _), (3, _), (4, _), (5, _)]) 17 rfl (by decide) rfl rfl ?_
  refine mg_aload_n 18 rfl rfl rfl ?_
  refine mg_getR 21 rfl rfl rfl rfl ?_
  refine mg_iload_n 22 rfl rfl rfl ?_
  refine mg_iald (v := 0) 23 rfl rfl (vp_in_nI (by omega : w < 120) (by omega)) (by rw [nI_clamp (by omega)]; exact h35) rfl ?_
  refine mg_istore (L2 := [(0, _), (1, _), (2, _), (3, _), (4, _), (5, _), (6, _)]) 25 rfl (by decide) rfl rfl ?_
  refine mg_aload_n 26 rfl rfl rfl ?_
  refine mg_getR 29 rfl rfl rfl rfl ?_
  refine mg_iload 31 rfl rfl rfl ?_
  refine mg_iald 32 rfl rfl (vp_in_nI (by omega : n < 60) (by omega)) rfl rfl ?_
  refine mg_istore (L2 := [(0, _), (1, _), (2, _), (3, _), (4, _), (5, _), (6, _), (7, _)]) 34 rfl (by decide) rfl rfl ?_
  refine mg_aload_n 35 rfl rfl rfl ?_
  refine mg_getR 38 rfl rfl rfl rfl ?_
  refine mg_iload 40 rfl rfl rfl ?_
  refine mg_iald (v := nI m) 41 rfl rfl (vp_in_nI (by omega : n < 60) (by omega)) (by rw [nI_clamp (by omega)]; exact hb) rfl ?_
  refine mg_istore (L2 := [(0, _), (1, _), (2, _), (3, _), (4, _), (5, _), (6, _), (7, _), (8, _)]) 43 rfl (by decide) rfl rfl ?_
  refine mg_aload_n 44 rfl rfl rfl ?_
  refine mg_getR 47 rfl rfl rfl rfl ?_
  refine mg_iload_n 48 rfl rfl rfl ?_
  refine mg_dup2 49 rfl rfl ?_
  refine mg_iald (v := nI 0) 50 rfl rfl (vp_in_nI (by omega : w < 120) (by omega)) (by rw [nI_clamp (by omega)]; exact h35) rfl ?_
  refine mg_iconst (v := 1) 51 rfl (by decide) rfl ?_
  refine mg_iadd (v := nI (0 + 1)) 52 rfl (nI_1 _) rfl ?_
  refine mg_iast (j := w) 53 rfl rfl (vp_in_nI (by omega : w < 120) (by omega)) (nI_clamp (by omega)) rfl ?_
  refine mg_iload 55 rfl rfl rfl ?_
  refine mg_if_ne 58 67 rfl rfl (by decide) (fun c_55 => ?_) (fun c_55 => absurd c_55 (by decide))
  refine mg_iload 69 rfl rfl rfl ?_
  refine mg_iconst (v := 1) 70 rfl (by decide) rfl ?_
  refine mg_ic_ne 73 110 rfl rfl (by decide) (fun c_70 => ?_) (fun c_70 => absurd c_70 (by decide))
  refine mg_iload 112 rfl rfl rfl ?_
  refine mg_iconst (v := 1) 113 rfl (by decide) rfl ?_
  refine mg_ic_ne 116 126 rfl rfl (by decide) (fun c_113 => ?_) (fun c_113 => absurd c_113 (by decide))
  refine mg_iload 128 rfl rfl rfl ?_
  refine mg_iconst (v := 2) 129 rfl (by decide) rfl ?_
  refine mg_ic_ne 132 155 rfl rfl (by decide) (fun c_129 => ?_) (fun c_129 => absurd c_129 (by decide))
  refine mg_iload 157 rfl rfl rfl ?_
  refine mg_iconst (v := 3) 158 rfl (by decide) rfl ?_
  refine mg_ic_ne 161 178 rfl rfl (by decide) (fun c_158 => ?_) (fun c_158 => absurd c_158 (by decide))
  refine mg_iload 180 rfl rfl rfl ?_
  refine mg_iconst (v := 5) 181 rfl (by decide) rfl ?_
  refine mg_ic_eq 184 195 rfl rfl (by decide) (fun c_181 => absurd c_181 (by decide)) (fun c_181 => ?_)
  refine mg_iload 186 rfl rfl rfl ?_
  refine mg_iconst (v := 4) 187 rfl (by decide) rfl ?_
  refine mg_ic_ne 190 206 rfl rfl (by decide) (fun c_187 => ?_) (fun c_187 => absurd c_187 (by decide))
  refine mg_iload 208 rfl rfl rfl ?_
  refine mg_bipush (v := 6) 210 rfl (by decide) rfl ?_
  refine mg_ic_le 213 221 rfl rfl (by decide) (fun c_210 => absurd c_210 (by decide)) (fun c_210 => ?_)
  refine mg_iload 215 rfl rfl rfl ?_
  refine mg_if_ne 218 221 rfl rfl (by decide) (fun c_215 => absurd c_215 (by decide)) (fun c_215 => ?_)
  refine mg_iload 220 rfl rfl rfl ?_
  refine mg_iret rfl rfl ?_
  exact k
set_option maxHeartbeats 2000000 in
set_option maxRecDepth 20000 in
theorem ss_nm1s {d : Nat} {M : mm_M} {Q : mm_Qt} {w n : Nat} (hw : w < 120) (h34 : M 34 w = nI n) (h35 : M 35 w = nI 1) (h60 : n < 60) (h22 : M 22 n = nI 8) {g : Int32} (hd : 3 ≤ d) (k : Q (some (.inl (-1))) (mm_up M 35 w (nI (1 + 1)))) : mm_Ev pg ly d 99 [.inr 21, .inl (nI w), .inl 1, .inl g] M Q := by
  obtain ⟨d, rfl⟩ : ∃ e, d = e + 1 := ⟨d - 1, by omega⟩
  refine mg_body yy_Mo_step pg_Mo_step (Nat.le_of_ble_eq_true rfl) ?_
  show mm_Rn _ _ _ _ _ _ 0 [(0, _), (1, _), (2, _), (3, _)] [] _
  refine mg_aload_n 1 rfl rfl rfl ?_
  refine mg_getR 4 rfl rfl rfl rfl ?_
  refine mg_iload_n 5 rfl rfl rfl ?_
  refine mg_iald (v := nI n) 6 rfl rfl (vp_in_nI (by omega : w < 120) (by omega)) (by rw [nI_clamp (by omega)]; exact h34) rfl ?_
  refine mg_istore (L2 := [(0, _), (1, _), (2, _), (3, _), (4, _)]) 8 rfl (by decide) rfl rfl ?_
  refine mg_aload_n 9 rfl rfl rfl ?_
  refine mg_getR 12 rfl rfl rfl rfl ?_
  refine mg_iload 14 rfl rfl rfl ?_
  refine mg_iald (v := 8) 15 rfl rfl (vp_in_nI (by omega : n < 60) (by omega)) (by rw [nI_clamp (by omega)]; exact h22) rfl ?_
  refine mg_istore (L2 := [(0, _), (1, _), (2, _), (3, _), (4, _), (5, _)]) 17 rfl (by decide) rfl rfl ?_
  refine mg_aload_n 18 rfl rfl rfl ?_
  refine mg_getR 21 rfl rfl rfl rfl ?_
  refine mg_iload_n 22 rfl rfl rfl ?_
  refine mg_iald (v := 1) 23 rfl rfl (vp_in_nI (by omega : w < 120) (by omega)) (by rw [nI_clamp (by omega)]; exact h35) rfl ?_
  refine mg_istore (L2 := [(0, _), (1, _), (2, _), (3, _), (4, _), (5, _), (6, _)]) 25 rfl (by decide) rfl rfl ?_
  refine mg_aload_n 26 rfl rfl rfl ?_
  refine mg_getR 29 rfl rfl rfl rfl ?_
  refine mg_iload 31 rfl rfl rfl ?_
  refine mg_iald 32 rfl rfl (vp_in_nI (by omega : n < 60) (by omega)) rfl rfl ?_
  refine mg_istore (L2 := [(0, _), (1, _), (2, _), (3, _), (4, _), (5, _), (6, _), (7, _)]) 34 rfl (by decide) rfl rfl ?_
  refine mg_aload_n 35 rfl rfl rfl ?_
  refine mg_getR 38 rfl rfl rfl rfl ?_
  refine mg_iload 40 rfl rfl rfl ?_
  refine mg_iald 41 rfl rfl (vp_in_nI (by omega : n < 60) (by omega)) rfl rfl ?_
  refine mg_istore (L2 := [(0, _), (1, _), (2, _), (3, _), (4, _), (5, _), (6, _), (7, _), (8, _)]) 43 rfl (by decide) rfl rfl ?_
  refine mg_aload_n 44 rfl rfl rfl ?_
  refine mg_getR 47 rfl rfl rfl rfl ?_
  refine mg_iload_n 48 rfl rfl rfl ?_
  refine mg_dup2 49 rfl rfl ?_
  refine mg_iald (v := nI 1) 50 rfl rfl (vp_in_nI (by omega : w < 120) (by omega)) (by rw [nI_clamp (by omega)]; exact h35) rfl ?_
  refine mg_iconst (v := 1) 51 rfl (by decide) rfl ?_
  refine mg_iadd (v := nI (1 + 1)) 52 rfl (nI_1 _) rfl ?_
  refine mg_iast (j := w) 53 rfl rfl (vp_in_nI (by omega : w < 120) (by omega)) (nI_clamp (by omega)) rfl ?_
  refine mg_iload 55 rfl rfl rfl ?_
  refine mg_if_ne 58 67 rfl rfl (by decide) (fun c_55 => ?_) (fun c_55 => absurd c_55 (by decide))
  refine mg_iload 69 rfl rfl rfl ?_
  refine mg_iconst (v := 1) 70 rfl (by decide) rfl ?_
  refine mg_ic_ne 73 110 rfl rfl (by decide) (fun c_70 => ?_) (fun c_70 => absurd c_70 (by decide))
  refine mg_iload 112 rfl rfl rfl ?_
  refine mg_iconst (v := 1) 113 rfl (by decide) rfl ?_
  refine mg_ic_ne 116 126 rfl rfl (by decide) (fun c_113 => ?_) (fun c_113 => absurd c_113 (by decide))
  refine mg_iload 128 rfl rfl rfl ?_
  refine mg_iconst (v := 2) 129 rfl (by decide) rfl ?_
  refine mg_ic_ne 132 155 rfl rfl (by decide) (fun c_129 => ?_) (fun c_129 => absurd c_129 (by decide))
  refine mg_iload 157 rfl rfl rfl ?_
  refine mg_iconst (v := 3) 158 rfl (by decide) rfl ?_
  refine mg_ic_ne 161 178 rfl rfl (by decide) (fun c_158 => ?_) (fun c_158 => absurd c_158 (by decide))
  refine mg_iload 180 rfl rfl rfl ?_
  refine mg_iconst (v := 5) 181 rfl (by decide) rfl ?_
  refine mg_ic_eq 184 195 rfl rfl (by decide) (fun c_181 => absurd c_181 (by decide)) (fun c_181 => ?_)
  refine mg_iload 186 rfl rfl rfl ?_
  refine mg_iconst (v := 4) 187 rfl (by decide) rfl ?_
  refine mg_ic_ne 190 206 rfl rfl (by decide) (fun c_187 => ?_) (fun c_187 => absurd c_187 (by decide))
  refine mg_iload 208 rfl rfl rfl ?_
  refine mg_bipush (v := 6) 210 rfl (by decide) rfl ?_
  refine mg_ic_le 213 221 rfl rfl (by decide) (fun c_210 => absurd c_210 (by decide)) (fun c_210 => ?_)
  refine mg_iload 215 rfl rfl rfl ?_
  refine mg_if_ne 218 221 rfl rfl (by decide) (fun c_215 => ?_) (fun c_215 => absurd c_215 (by decide))
  refine mg_iload 223 rfl rfl rfl ?_
  refine mg_bipush (v := 8) 225 rfl (by decide) rfl ?_
  refine mg_ic_ne 228 247 rfl rfl (by decide) (fun c_225 => absurd c_225 (by decide)) (fun c_225 => ?_)
  refine mg_iload_n 229 rfl rfl rfl ?_
  refine mg_if_ne 232 247 rfl rfl (by decide) (fun c_229 => ?_) (fun c_229 => absurd c_229 (by decide))
  refine mg_iconst (v := (-1)) 248 rfl (by decide) rfl ?_
  refine mg_iret rfl rfl ?_
  exact k
set_option maxHeartbeats 2000000 in
set_option maxRecDepth 20000 in
theorem ss_nm1g {d : Nat} {M : mm_M} {Q : mm_Qt} {w n : Nat} {t : Nat} {o : Int32} (ht : t < 91) (h36 : M 36 w = nI t) (h40 : M 40 t = o) (hw : w < 120) (h34 : M 34 w = nI n) (h35 : M 35 w = nI 1) (h60 : n < 60) (h22 : M 22 n = nI 8) {g : Int32} (hd : 3 ≤ d) (k : Q (some (.inl (-1))) (mm_up (mm_up M 35 w (nI (1 + 1))) 21 10 o)) : mm_Ev pg ly d 99 [.inr 21, .inl (nI w), .inl 0, .inl g] M Q := by
  obtain ⟨d, rfl⟩ : ∃ e, d = e + 1 := ⟨d - 1, by omega⟩
  refine mg_body yy_Mo_step pg_Mo_step (Nat.le_of_ble_eq_true rfl) ?_
  show mm_Rn _ _ _ _ _ _ 0 [(0, _), (1, _), (2, _), (3, _)] [] _
  refine mg_aload_n 1 rfl rfl rfl ?_
  refine mg_getR 4 rfl rfl rfl rfl ?_
  refine mg_iload_n 5 rfl rfl rfl ?_
  refine mg_iald (v := nI n) 6 rfl rfl (vp_in_nI (by omega : w < 120) (by omega)) (by rw [nI_clamp (by omega)]; exact h34) rfl ?_
  refine mg_istore (L2 := [(0, _), (1, _), (2, _), (3, _), (4, _)]) 8 rfl (by decide) rfl rfl ?_
  refine mg_aload_n 9 rfl rfl rfl ?_
  refine mg_getR 12 rfl rfl rfl rfl ?_
  refine mg_iload 14 rfl rfl rfl ?_
  refine mg_iald (v := 8) 15 rfl rfl (vp_in_nI (by omega : n < 60) (by omega)) (by rw [nI_clamp (by omega)]; exact h22) rfl ?_
  refine mg_istore (L2 := [(0, _), (1, _), (2, _), (3, _), (4, _), (5, _)]) 17 rfl (by decide) rfl rfl ?_
  refine mg_aload_n 18 rfl rfl rfl ?_
  refine mg_getR 21 rfl rfl rfl rfl ?_
  refine mg_iload_n 22 rfl rfl rfl ?_
  refine mg_iald (v := 1) 23 rfl rfl (vp_in_nI (by omega : w < 120) (by omega)) (by rw [nI_clamp (by omega)]; exact h35) rfl ?_
  refine mg_istore (L2 := [(0, _), (1, _), (2, _), (3, _), (4, _), (5, _), (6, _)]) 25 rfl (by decide) rfl rfl ?_
  refine mg_aload_n 26 rfl rfl rfl ?_
  refine mg_getR 29 rfl rfl rfl rfl ?_
  refine mg_iload 31 rfl rfl rfl ?_
  refine mg_iald 32 rfl rfl (vp_in_nI (by omega : n < 60) (by omega)) rfl rfl ?_
  refine mg_istore (L2 := [(0, _), (1, _), (2, _), (3, _), (4, _), (5, _), (6, _), (7, _)]) 34 rfl (by decide) rfl rfl ?_
  refine mg_aload_n 35 rfl rfl rfl ?_
  refine mg_getR 38 rfl rfl rfl rfl ?_
  refine mg_iload 40 rfl rfl rfl ?_
  refine mg_iald 41 rfl rfl (vp_in_nI (by omega : n < 60) (by omega)) rfl rfl ?_
  refine mg_istore (L2 := [(0, _), (1, _), (2, _), (3, _), (4, _), (5, _), (6, _), (7, _), (8, _)]) 43 rfl (by decide) rfl rfl ?_
  refine mg_aload_n 44 rfl rfl rfl ?_
  refine mg_getR 47 rfl rfl rfl rfl ?_
  refine mg_iload_n 48 rfl rfl rfl ?_
  refine mg_dup2 49 rfl rfl ?_
  refine mg_iald (v := nI 1) 50 rfl rfl (vp_in_nI (by omega : w < 120) (by omega)) (by rw [nI_clamp (by omega)]; exact h35) rfl ?_
  refine mg_iconst (v := 1) 51 rfl (by decide) rfl ?_
  refine mg_iadd (v := nI (1 + 1)) 52 rfl (nI_1 _) rfl ?_
  refine mg_iast (j := w) 53 rfl rfl (vp_in_nI (by omega : w < 120) (by omega)) (nI_clamp (by omega)) rfl ?_
  refine mg_iload 55 rfl rfl rfl ?_
  refine mg_if_ne 58 67 rfl rfl (by decide) (fun c_55 => ?_) (fun c_55 => absurd c_55 (by decide))
  refine mg_iload 69 rfl rfl rfl ?_
  refine mg_iconst (v := 1) 70 rfl (by decide) rfl ?_
  refine mg_ic_ne 73 110 rfl rfl (by decide) (fun c_70 => ?_) (fun c_70 => absurd c_70 (by decide))
  refine mg_iload 112 rfl rfl rfl ?_
  refine mg_iconst (v := 1) 113 rfl (by decide) rfl ?_
  refine mg_ic_ne 116 126 rfl rfl (by decide) (fun c_113 => ?_) (fun c_113 => absurd c_113 (by decide))
  refine mg_iload 128 rfl rfl rfl ?_
  refine mg_iconst (v := 2) 129 rfl (by decide) rfl ?_
  refine mg_ic_ne 132 155 rfl rfl (by decide) (fun c_129 => ?_) (fun c_129 => absurd c_129 (by decide))
  refine mg_iload 157 rfl rfl rfl ?_
  refine mg_iconst (v := 3) 158 rfl (by decide) rfl ?_
  refine mg_ic_ne 161 178 rfl rfl (by decide) (fun c_158 => ?_) (fun c_158 => absurd c_158 (by decide))
  refine mg_iload 180 rfl rfl rfl ?_
  refine mg_iconst (v := 5) 181 rfl (by decide) rfl ?_
  refine mg_ic_eq 184 195 rfl rfl (by decide) (fun c_181 => absurd c_181 (by decide)) (fun c_181 => ?_)
  refine mg_iload 186 rfl rfl rfl ?_
  refine mg_iconst (v := 4) 187 rfl (by decide) rfl ?_
  refine mg_ic_ne 190 206 rfl rfl (by decide) (fun c_187 => ?_) (fun c_187 => absurd c_187 (by decide))
  refine mg_iload 208 rfl rfl rfl ?_
  refine mg_bipush (v := 6) 210 rfl (by decide) rfl ?_
  refine mg_ic_le 213 221 rfl rfl (by decide) (fun c_210 => absurd c_210 (by decide)) (fun c_210 => ?_)
  refine mg_iload 215 rfl rfl rfl ?_
  refine mg_if_ne 218 221 rfl rfl (by decide) (fun c_215 => ?_) (fun c_215 => absurd c_215 (by decide))
  refine mg_iload 223 rfl rfl rfl ?_
  refine mg_bipush (v := 8) 225 rfl (by decide) rfl ?_
  refine mg_ic_ne 228 247 rfl rfl (by decide) (fun c_225 => absurd c_225 (by decide)) (fun c_225 => ?_)
  refine mg_iload_n 229 rfl rfl rfl ?_
  refine mg_if_ne 232 247 rfl rfl (by decide) (fun c_229 => absurd c_229 (by decide)) (fun c_229 => ?_)
  refine mg_aload_n 233 rfl rfl rfl ?_
  refine mg_aload_n 234 rfl rfl rfl ?_
  refine mg_getR 237 rfl rfl rfl rfl ?_
  refine mg_aload_n 238 rfl rfl rfl ?_
  refine mg_getR 241 rfl rfl rfl rfl ?_
  refine mg_iload_n 242 rfl rfl rfl ?_
  refine mg_iald (v := nI t) 243 rfl rfl (vp_in_nI (by omega : w < 120) (by omega)) (by rw [nI_clamp (by omega)]; exact h36) rfl ?_
  refine mg_iald (v := o) 244 rfl rfl (vp_in_nI (by omega : t < 91) (by omega)) (by rw [nI_clamp (by omega)]; exact h40) rfl ?_
  refine mg_putI 247 rfl rfl rfl rfl ?_
  refine mg_iconst (v := (-1)) 248 rfl (by decide) rfl ?_
  refine mg_iret rfl rfl ?_
  exact k
set_option maxHeartbeats 2000000 in
set_option maxRecDepth 20000 in
theorem ss_call0 {d : Nat} {M : mm_M} {Q : mm_Qt} {w n c r m : Nat} (hr : r < 8) (h23 : M 23 n = nI r) (h27 : M 27 r = nI m) (hc : c < 6) (h8 : M 21 8 = nI c) (hw : w < 120) (h34 : M 34 w = nI n) (h35 : M 35 w = nI 0) (h60 : n < 60) (h22 : M 22 n = nI 1) {f : Int32} {g : Int32} (hd : 3 ≤ d) (k : Q (some (.inl (nI m))) (mm_up (mm_up M 35 w (nI (0 + 1))) 21 8 (nI (c + 1)))) : mm_Ev pg ly d 99 [.inr 21, .inl (nI w), .inl f, .inl g] M Q := by
  obtain ⟨d, rfl⟩ : ∃ e, d = e + 1 := ⟨d - 1, by omega⟩
  refine mg_body yy_Mo_step pg_Mo_step (Nat.le_of_ble_eq_true rfl) ?_
  show mm_Rn _ _ _ _ _ _ 0 [(0, _), (1, _), (2, _), (3, _)] [] _
  refine mg_aload_n 1 rfl rfl rfl ?_
  refine mg_getR 4 rfl rfl rfl rfl ?_
  refine mg_iload_n 5 rfl rfl rfl ?_
  refine mg_iald (v := nI n) 6 rfl rfl (vp_in_nI (by omega : w < 120) (by omega)) (by rw [nI_clamp (by omega)]; exact h34) rfl ?_
  refine mg_istore (L2 := [(0, _), (1, _), (2, _), (3, _), (4, _)]) 8 rfl (by decide) rfl rfl ?_
  refine mg_aload_n 9 rfl rfl rfl ?_
  refine mg_getR 12 rfl rfl rfl rfl ?_
  refine mg_iload 14 rfl rfl rfl ?_
  refine mg_iald (v := 1) 15 rfl rfl (vp_in_nI (by omega : n < 60) (by omega)) (by rw [nI_clamp (by omega)]; exact h22) rfl ?_
  refine mg_istore (L2 := [(0, _), (1, _), (2, _), (3, _), (4, _), (5, _)]) 17 rfl (by decide) rfl rfl ?_
  refine mg_aload_n 18 rfl rfl rfl ?_
  refine mg_getR 21 rfl rfl rfl rfl ?_
  refine mg_iload_n 22 rfl rfl rfl ?_
  refine mg_iald (v := 0) 23 rfl rfl (vp_in_nI (by omega : w < 120) (by omega)) (by rw [nI_clamp (by omega)]; exact h35) rfl ?_
  refine mg_istore (L2 := [(0, _), (1, _), (2, _), (3, _), (4, _), (5, _), (6, _)]) 25 rfl (by decide) rfl rfl ?_
  refine mg_aload_n 26 rfl rfl rfl ?_
  refine mg_getR 29 rfl rfl rfl rfl ?_
  refine mg_iload 31 rfl rfl rfl ?_
  refine mg_iald 32 rfl rfl (vp_in_nI (by omega : n < 60) (by omega)) rfl rfl ?_
  refine mg_istore (L2 := [(0, _), (1, _), (2, _), (3, _), (4, _), (5, _), (6, _), (7, _)]) 34 rfl (by decide) rfl rfl ?_
  refine mg_aload_n 35 rfl rfl rfl ?_
  refine mg_getR 38 rfl rfl rfl rfl ?_
  refine mg_iload 40 rfl rfl rfl ?_
  refine mg_iald 41 rfl rfl (vp_in_nI (by omega : n < 60) (by omega)) rfl rfl ?_
  refine mg_istore (L2 := [(0, _), (1, _), (2, _), (3, _), (4, _), (5, _), (6, _), (7, _), (8, _)]) 43 rfl (by decide) rfl rfl ?_
  refine mg_aload_n 44 rfl rfl rfl ?_
  refine mg_getR 47 rfl rfl rfl rfl ?_
  refine mg_iload_n 48 rfl rfl rfl ?_
  refine mg_dup2 49 rfl rfl ?_
  refine mg_iald (v := nI 0) 50 rfl rfl (vp_in_nI (by omega : w < 120) (by omega)) (by rw [nI_clamp (by omega)]; exact h35) rfl ?_
  refine mg_iconst (v := 1) 51 rfl (by decide) rfl ?_
  refine mg_iadd (v := nI (0 + 1)) 52 rfl (nI_1 _) rfl ?_
  refine mg_iast (j := w) 53 rfl rfl (vp_in_nI (by omega : w < 120) (by omega)) (nI_clamp (by omega)) rfl ?_
  refine mg_iload 55 rfl rfl rfl ?_
  refine mg_if_ne 58 67 rfl rfl (by decide) (fun c_55 => ?_) (fun c_55 => absurd c_55 (by decide))
  refine mg_iload 69 rfl rfl rfl ?_
  refine mg_iconst (v := 1) 70 rfl (by decide) rfl ?_
  refine mg_ic_ne 73 110 rfl rfl (by decide) (fun c_70 => absurd c_70 (by decide)) (fun c_70 => ?_)
  refine mg_iload 75 rfl rfl rfl ?_
  refine mg_if_ne 78 110 rfl rfl (by decide) (fun c_75 => absurd c_75 (by decide)) (fun c_75 => ?_)
  refine mg_aload_n 79 rfl rfl rfl ?_
  refine mg_getI (v := nI c) 82 rfl rfl (Or.inl rfl) h8 rfl ?_
  refine mg_bipush (v := 6) 84 rfl (by decide) rfl ?_
  refine mg_ic_ne 87 93 rfl rfl (by decide) (fun c_84 => ?_) (fun c_84 => absurd ((st_eq 6 6 rfl (by omega) (by omega)).mp c_84) (by omega))
  refine mg_aload_n 94 rfl rfl rfl ?_
  refine mg_dup 95 rfl rfl ?_
  refine mg_getI (v := nI c) 98 rfl rfl (Or.inl rfl) h8 rfl ?_
  refine mg_iconst (v := 1) 99 rfl (by decide) rfl ?_
  refine mg_iadd (v := nI (c + 1)) 100 rfl (nI_1 _) rfl ?_
  refine mg_putI 103 rfl rfl rfl rfl ?_
  refine mg_aload_n 104 rfl rfl rfl ?_
  refine mg_iload 106 rfl rfl rfl ?_
  refine mg_callV1 109 rfl (Nat.le_of_ble_eq_true rfl) pg_Mo_callee rfl rfl ?_
  refine sm_callee2 h60 hr h23 h27 (by omega) ?_
  show mm_Rn _ _ _ _ _ _ 109 [(0, _), (1, _), (2, _), (3, _), (4, _), (5, _), (6, _), (7, _), (8, _)] [_] _
  refine mg_iret rfl rfl ?_
  exact k
set_option maxHeartbeats 2000000 in
set_option maxRecDepth 20000 in
theorem ss_call6 {d : Nat} {M : mm_M} {Q : mm_Qt} {w n c r m : Nat} (hr : r < 8) (h23 : M 23 n = nI r) (h27 : M 27 r = nI m) (h8 : M 21 8 = nI 6) (hw : w < 120) (h34 : M 34 w = nI n) (h35 : M 35 w = nI 0) (h60 : n < 60) (h22 : M 22 n = nI 1) {f : Int32} {g : Int32} (hd : 3 ≤ d) (k : Q (some (.inl (nI m))) (mm_up (mm_up (mm_up M 35 w (nI (0 + 1))) 21 4 (-7)) 21 8 (nI (6 + 1)))) : mm_Ev pg ly d 99 [.inr 21, .inl (nI w), .inl f, .inl g] M Q := by
  obtain ⟨d, rfl⟩ : ∃ e, d = e + 1 := ⟨d - 1, by omega⟩
  refine mg_body yy_Mo_step pg_Mo_step (Nat.le_of_ble_eq_true rfl) ?_
  show mm_Rn _ _ _ _ _ _ 0 [(0, _), (1, _), (2, _), (3, _)] [] _
  refine mg_aload_n 1 rfl rfl rfl ?_
  refine mg_getR 4 rfl rfl rfl rfl ?_
  refine mg_iload_n 5 rfl rfl rfl ?_
  refine mg_iald (v := nI n) 6 rfl rfl (vp_in_nI (by omega : w < 120) (by omega)) (by rw [nI_clamp (by omega)]; exact h34) rfl ?_
  refine mg_istore (L2 := [(0, _), (1, _), (2, _), (3, _), (4, _)]) 8 rfl (by decide) rfl rfl ?_
  refine mg_aload_n 9 rfl rfl rfl ?_
  refine mg_getR 12 rfl rfl rfl rfl ?_
  refine mg_iload 14 rfl rfl rfl ?_
  refine mg_iald (v := 1) 15 rfl rfl (vp_in_nI (by omega : n < 60) (by omega)) (by rw [nI_clamp (by omega)]; exact h22) rfl ?_
  refine mg_istore (L2 := [(0, _), (1, _), (2, _), (3, _), (4, _), (5, _)]) 17 rfl (by decide) rfl rfl ?_
  refine mg_aload_n 18 rfl rfl rfl ?_
  refine mg_getR 21 rfl rfl rfl rfl ?_
  refine mg_iload_n 22 rfl rfl rfl ?_
  refine mg_iald (v := 0) 23 rfl rfl (vp_in_nI (by omega : w < 120) (by omega)) (by rw [nI_clamp (by omega)]; exact h35) rfl ?_
  refine mg_istore (L2 := [(0, _), (1, _), (2, _), (3, _), (4, _), (5, _), (6, _)]) 25 rfl (by decide) rfl rfl ?_
  refine mg_aload_n 26 rfl rfl rfl ?_
  refine mg_getR 29 rfl rfl rfl rfl ?_
  refine mg_iload 31 rfl rfl rfl ?_
  refine mg_iald 32 rfl rfl (vp_in_nI (by omega : n < 60) (by omega)) rfl rfl ?_
  refine mg_istore (L2 := [(0, _), (1, _), (2, _), (3, _), (4, _), (5, _), (6, _), (7, _)]) 34 rfl (by decide) rfl rfl ?_
  refine mg_aload_n 35 rfl rfl rfl ?_
  refine mg_getR 38 rfl rfl rfl rfl ?_
  refine mg_iload 40 rfl rfl rfl ?_
  refine mg_iald 41 rfl rfl (vp_in_nI (by omega : n < 60) (by omega)) rfl rfl ?_
  refine mg_istore (L2 := [(0, _), (1, _), (2, _), (3, _), (4, _), (5, _), (6, _), (7, _), (8, _)]) 43 rfl (by decide) rfl rfl ?_
  refine mg_aload_n 44 rfl rfl rfl ?_
  refine mg_getR 47 rfl rfl rfl rfl ?_
  refine mg_iload_n 48 rfl rfl rfl ?_
  refine mg_dup2 49 rfl rfl ?_
  refine mg_iald (v := nI 0) 50 rfl rfl (vp_in_nI (by omega : w < 120) (by omega)) (by rw [nI_clamp (by omega)]; exact h35) rfl ?_
  refine mg_iconst (v := 1) 51 rfl (by decide) rfl ?_
  refine mg_iadd (v := nI (0 + 1)) 52 rfl (nI_1 _) rfl ?_
  refine mg_iast (j := w) 53 rfl rfl (vp_in_nI (by omega : w < 120) (by omega)) (nI_clamp (by omega)) rfl ?_
  refine mg_iload 55 rfl rfl rfl ?_
  refine mg_if_ne 58 67 rfl rfl (by decide) (fun c_55 => ?_) (fun c_55 => absurd c_55 (by decide))
  refine mg_iload 69 rfl rfl rfl ?_
  refine mg_iconst (v := 1) 70 rfl (by decide) rfl ?_
  refine mg_ic_ne 73 110 rfl rfl (by decide) (fun c_70 => absurd c_70 (by decide)) (fun c_70 => ?_)
  refine mg_iload 75 rfl rfl rfl ?_
  refine mg_if_ne 78 110 rfl rfl (by decide) (fun c_75 => absurd c_75 (by decide)) (fun c_75 => ?_)
  refine mg_aload_n 79 rfl rfl rfl ?_
  refine mg_getI (v := 6) 82 rfl rfl (Or.inl rfl) h8 rfl ?_
  refine mg_bipush (v := 6) 84 rfl (by decide) rfl ?_
  refine mg_ic_ne 87 93 rfl rfl (by decide) (fun c_84 => absurd c_84 (by decide)) (fun c_84 => ?_)
  refine mg_aload_n 88 rfl rfl rfl ?_
  refine mg_bipush (v := (-7)) 90 rfl (by decide) rfl ?_
  refine mg_putI 93 rfl rfl rfl rfl ?_
  refine mg_aload_n 94 rfl rfl rfl ?_
  refine mg_dup 95 rfl rfl ?_
  refine mg_getI (v := nI 6) 98 rfl rfl (Or.inl rfl) h8 rfl ?_
  refine mg_iconst (v := 1) 99 rfl (by decide) rfl ?_
  refine mg_iadd (v := nI (6 + 1)) 100 rfl (nI_1 _) rfl ?_
  refine mg_putI 103 rfl rfl rfl rfl ?_
  refine mg_aload_n 104 rfl rfl rfl ?_
  refine mg_iload 106 rfl rfl rfl ?_
  refine mg_callV1 109 rfl (Nat.le_of_ble_eq_true rfl) pg_Mo_callee rfl rfl ?_
  refine sm_callee2 h60 hr h23 h27 (by omega) ?_
  show mm_Rn _ _ _ _ _ _ 109 [(0, _), (1, _), (2, _), (3, _), (4, _), (5, _), (6, _), (7, _), (8, _)] [_] _
  refine mg_iret rfl rfl ?_
  exact k
set_option maxHeartbeats 2000000 in
set_option maxRecDepth 20000 in
theorem ss_call1 {d : Nat} {M : mm_M} {Q : mm_Qt} {w n : Nat} {c : Nat} (h8 : M 21 8 = nI (c + 1)) (hw : w < 120) (h34 : M 34 w = nI n) (h35 : M 35 w = nI 1) (h60 : n < 60) (h22 : M 22 n = nI 1) {f : Int32} {g : Int32} (hd : 3 ≤ d) (k : Q (some (.inl (-1))) (mm_up (mm_up M 35 w (nI (1 + 1))) 21 8 (nI c))) : mm_Ev pg ly d 99 [.inr 21, .inl (nI w), .inl f, .inl g] M Q := by
  obtain ⟨d, rfl⟩ : ∃ e, d = e + 1 := ⟨d - 1, by omega⟩
  refine mg_body yy_Mo_step pg_Mo_step (Nat.le_of_ble_eq_true rfl) ?_
  show mm_Rn _ _ _ _ _ _ 0 [(0, _), (1, _), (2, _), (3, _)] [] _
  refine mg_aload_n 1 rfl rfl rfl ?_
  refine mg_getR 4 rfl rfl rfl rfl ?_
  refine mg_iload_n 5 rfl rfl rfl ?_
  refine mg_iald (v := nI n) 6 rfl rfl (vp_in_nI (by omega : w < 120) (by omega)) (by rw [nI_clamp (by omega)]; exact h34) rfl ?_
  refine mg_istore (L2 := [(0, _), (1, _), (2, _), (3, _), (4, _)]) 8 rfl (by decide) rfl rfl ?_
  refine mg_aload_n 9 rfl rfl rfl ?_
  refine mg_getR 12 rfl rfl rfl rfl ?_
  refine mg_iload 14 rfl rfl rfl ?_
  refine mg_iald (v := 1) 15 rfl rfl (vp_in_nI (by omega : n < 60) (by omega)) (by rw [nI_clamp (by omega)]; exact h22) rfl ?_
  refine mg_istore (L2 := [(0, _), (1, _), (2, _), (3, _), (4, _), (5, _)]) 17 rfl (by decide) rfl rfl ?_
  refine mg_aload_n 18 rfl rfl rfl ?_
  refine mg_getR 21 rfl rfl rfl rfl ?_
  refine mg_iload_n 22 rfl rfl rfl ?_
  refine mg_iald (v := 1) 23 rfl rfl (vp_in_nI (by omega : w < 120) (by omega)) (by rw [nI_clamp (by omega)]; exact h35) rfl ?_
  refine mg_istore (L2 := [(0, _), (1, _), (2, _), (3, _), (4, _), (5, _), (6, _)]) 25 rfl (by decide) rfl rfl ?_
  refine mg_aload_n 26 rfl rfl rfl ?_
  refine mg_getR 29 rfl rfl rfl rfl ?_
  refine mg_iload 31 rfl rfl rfl ?_
  refine mg_iald 32 rfl rfl (vp_in_nI (by omega : n < 60) (by omega)) rfl rfl ?_
  refine mg_istore (L2 := [(0, _), (1, _), (2, _), (3, _), (4, _), (5, _), (6, _), (7, _)]) 34 rfl (by decide) rfl rfl ?_
  refine mg_aload_n 35 rfl rfl rfl ?_
  refine mg_getR 38 rfl rfl rfl rfl ?_
  refine mg_iload 40 rfl rfl rfl ?_
  refine mg_iald 41 rfl rfl (vp_in_nI (by omega : n < 60) (by omega)) rfl rfl ?_
  refine mg_istore (L2 := [(0, _), (1, _), (2, _), (3, _), (4, _), (5, _), (6, _), (7, _), (8, _)]) 43 rfl (by decide) rfl rfl ?_
  refine mg_aload_n 44 rfl rfl rfl ?_
  refine mg_getR 47 rfl rfl rfl rfl ?_
  refine mg_iload_n 48 rfl rfl rfl ?_
  refine mg_dup2 49 rfl rfl ?_
  refine mg_iald (v := nI 1) 50 rfl rfl (vp_in_nI (by omega : w < 120) (by omega)) (by rw [nI_clamp (by omega)]; exact h35) rfl ?_
  refine mg_iconst (v := 1) 51 rfl (by decide) rfl ?_
  refine mg_iadd (v := nI (1 + 1)) 52 rfl (nI_1 _) rfl ?_
  refine mg_iast (j := w) 53 rfl rfl (vp_in_nI (by omega : w < 120) (by omega)) (nI_clamp (by omega)) rfl ?_
  refine mg_iload 55 rfl rfl rfl ?_
  refine mg_if_ne 58 67 rfl rfl (by decide) (fun c_55 => ?_) (fun c_55 => absurd c_55 (by decide))
  refine mg_iload 69 rfl rfl rfl ?_
  refine mg_iconst (v := 1) 70 rfl (by decide) rfl ?_
  refine mg_ic_ne 73 110 rfl rfl (by decide) (fun c_70 => absurd c_70 (by decide)) (fun c_70 => ?_)
  refine mg_iload 75 rfl rfl rfl ?_
  refine mg_if_ne 78 110 rfl rfl (by decide) (fun c_75 => ?_) (fun c_75 => absurd c_75 (by decide))
  refine mg_iload 112 rfl rfl rfl ?_
  refine mg_iconst (v := 1) 113 rfl (by decide) rfl ?_
  refine mg_ic_ne 116 126 rfl rfl (by decide) (fun c_113 => absurd c_113 (by decide)) (fun c_113 => ?_)
  refine mg_aload_n 117 rfl rfl rfl ?_
  refine mg_dup 118 rfl rfl ?_
  refine mg_getI (v := nI (c + 1)) 121 rfl rfl (Or.inl rfl) h8 rfl ?_
  refine mg_iconst (v := 1) 122 rfl (by decide) rfl ?_
  refine mg_isub (v := nI c) 123 rfl (nI_pred _) rfl ?_
  refine mg_putI 126 rfl rfl rfl rfl ?_
  refine mg_iload 128 rfl rfl rfl ?_
  refine mg_iconst (v := 2) 129 rfl (by decide) rfl ?_
  refine mg_ic_ne 132 155 rfl rfl (by decide) (fun c_129 => ?_) (fun c_129 => absurd c_129 (by decide))
  refine mg_iload 157 rfl rfl rfl ?_
  refine mg_iconst (v := 3) 158 rfl (by decide) rfl ?_
  refine mg_ic_ne 161 178 rfl rfl (by decide) (fun c_158 => ?_) (fun c_158 => absurd c_158 (by decide))
  refine mg_iload 180 rfl rfl rfl ?_
  refine mg_iconst (v := 5) 181 rfl (by decide) rfl ?_
  refine mg_ic_eq 184 195 rfl rfl (by decide) (fun c_181 => absurd c_181 (by decide)) (fun c_181 => ?_)
  refine mg_iload 186 rfl rfl rfl ?_
  refine mg_iconst (v := 4) 187 rfl (by decide) rfl ?_
  refine mg_ic_ne 190 206 rfl rfl (by decide) (fun c_187 => ?_) (fun c_187 => absurd c_187 (by decide))
  refine mg_iload 208 rfl rfl rfl ?_
  refine mg_bipush (v := 6) 210 rfl (by decide) rfl ?_
  refine mg_ic_le 213 221 rfl rfl (by decide) (fun c_210 => ?_) (fun c_210 => absurd c_210 (by decide))
  refine mg_iload 223 rfl rfl rfl ?_
  refine mg_bipush (v := 8) 225 rfl (by decide) rfl ?_
  refine mg_ic_ne 228 247 rfl rfl (by decide) (fun c_225 => ?_) (fun c_225 => absurd c_225 (by decide))
  refine mg_iconst (v := (-1)) 248 rfl (by decide) rfl ?_
  refine mg_iret rfl rfl ?_
  exact k
set_option maxHeartbeats 2000000 in
set_option maxRecDepth 20000 in
theorem ss_tok {d : Nat} {M : mm_M} {Q : mm_Qt} {w n p c : Nat} {s : pv_S} {sc : Bool} {P : pv_D} {lv : Nat → Nat} {u : Nat → Prop} {z : Nat} {em fi nx us : Nat → Int32} (hP : pv_val P lv u z) (hH : pm_hd P u z em fi nx us M s c w n p) (hw : w < 120) (hn : u n) (hk : pv_kd P n = 0) {g : Int32} (hd : 3 ≤ d) (k : ∀ M', pm_fr M M' → pm_lo w s.2.2.1 M M' → pm_rep M' (pv_token P n sc s).2.2 → M' 21 8 = nI c → M' 21 4 = (pv_token P n sc s).1 → ((pv_token P n sc s).1 = -6 → M' 21 6 = (pv_token P n sc s).2.1) → Q (some (.inl (-1))) M') : mm_Ev pg ly d 99 [.inr 21, .inl (nI w), .inl (px_b sc), .inl g] M Q := by
  obtain ⟨hD, hR, h8, h4, h34, h35, hS⟩ := hH
  obtain ⟨h60, h22, -, -, h0, -⟩ := hD.2.2.2 n hn
  have h10 := (hP.1 n hn).2.2.2.2.2.2 hk
  rw [hk] at h22
  have f0 : pm_fr M (mm_up M 35 w (nI (p + 1))) := pm_fr_up (by decide)
  have l0 : pm_lo w s.2.2.1 M (mm_up M 35 w (nI (p + 1))) := pm_lo_ph w s.2.2.1 M (nI (p + 1))
  obtain ⟨d, rfl⟩ : ∃ e, d = e + 1 := ⟨d - 1, by omega⟩
  refine mg_body yy_Mo_step pg_Mo_step (Nat.le_of_ble_eq_true rfl) ?_
  show mm_Rn _ _ _ _ _ _ 0 [(0, _), (1, _), (2, _), (3, _)] [] _
  refine mg_aload_n 1 rfl rfl rfl ?_
  refine mg_getR 4 rfl rfl rfl rfl ?_
  refine mg_iload_n 5 rfl rfl rfl ?_
  refine mg_iald (v := nI n) 6 rfl rfl (vp_in_nI (by omega : w < 120) (by omega)) (by rw [nI_clamp (by omega)]; exact h34) rfl ?_
  refine mg_istore (L2 := [(0, _), (1, _), (2, _), (3, _), (4, _)]) 8 rfl (by decide) rfl rfl ?_
  refine mg_aload_n 9 rfl rfl rfl ?_
  refine mg_getR 12 rfl rfl rfl rfl ?_
  refine mg_iload 14 rfl rfl rfl ?_
  refine mg_iald (v := 0) 15 rfl rfl (vp_in_nI (by omega : n < 60) (by omega)) (by rw [nI_clamp (by omega)]; exact h22) rfl ?_
  refine mg_istore (L2 := [(0, _), (1, _), (2, _), (3, _), (4, _), (5, _)]) 17 rfl (by decide) rfl rfl ?_
  refine mg_aload_n 18 rfl rfl rfl ?_
  refine mg_getR 21 rfl rfl rfl rfl ?_
  refine mg_iload_n 22 rfl rfl rfl ?_
  refine mg_iald (v := nI p) 23 rfl rfl (vp_in_nI (by omega : w < 120) (by omega)) (by rw [nI_clamp (by omega)]; exact h35) rfl ?_
  refine mg_istore (L2 := [(0, _), (1, _), (2, _), (3, _), (4, _), (5, _), (6, _)]) 25 rfl (by decide) rfl rfl ?_
  refine mg_aload_n 26 rfl rfl rfl ?_
  refine mg_getR 29 rfl rfl rfl rfl ?_
  refine mg_iload 31 rfl rfl rfl ?_
  refine mg_iald (v := nI (pv_oa P n)) 32 rfl rfl (vp_in_nI (by omega : n < 60) (by omega)) (by rw [nI_clamp (by omega)]; exact (h0 hk)) rfl ?_
  refine mg_istore (L2 := [(0, _), (1, _), (2, _), (3, _), (4, _), (5, _), (6, _), (7, _)]) 34 rfl (by decide) rfl rfl ?_
  refine mg_aload_n 35 rfl rfl rfl ?_
  refine mg_getR 38 rfl rfl rfl rfl ?_
  refine mg_iload 40 rfl rfl rfl ?_
  refine mg_iald 41 rfl rfl (vp_in_nI (by omega : n < 60) (by omega)) rfl rfl ?_
  refine mg_istore (L2 := [(0, _), (1, _), (2, _), (3, _), (4, _), (5, _), (6, _), (7, _), (8, _)]) 43 rfl (by decide) rfl rfl ?_
  refine mg_aload_n 44 rfl rfl rfl ?_
  refine mg_getR 47 rfl rfl rfl rfl ?_
  refine mg_iload_n 48 rfl rfl rfl ?_
  refine mg_dup2 49 rfl rfl ?_
  refine mg_iald (v := nI p) 50 rfl rfl (vp_in_nI (by omega : w < 120) (by omega)) (by rw [nI_clamp (by omega)]; exact h35) rfl ?_
  refine mg_iconst (v := 1) 51 rfl (by decide) rfl ?_
  refine mg_iadd (v := nI (p + 1)) 52 rfl (nI_1 _) rfl ?_
  refine mg_iast (j := w) 53 rfl rfl (vp_in_nI (by omega : w < 120) (by omega)) (nI_clamp (by omega)) rfl ?_
  refine mg_iload 55 rfl rfl rfl ?_
  refine mg_if_ne 58 67 rfl rfl (by decide) (fun c_55 => absurd c_55 (by decide)) (fun c_55 => ?_)
  refine mg_aload_n 59 rfl rfl rfl ?_
  refine mg_iload 61 rfl rfl rfl ?_
  refine mg_iload_n 62 rfl rfl rfl ?_
  refine mg_callV2 65 rfl (Nat.le_of_ble_eq_true rfl) pg_Mo_match rfl rfl ?_
  refine sm_match hP (pm_D_fr f0 hD) (M := mm_up M 35 w (nI (p + 1))) hR hS h10 h4 (by omega) (fun M1 f1 l1 r1 e8 e4 e6 => ?_)
  show mm_Rn _ _ _ _ _ _ 65 [(0, _), (1, _), (2, _), (3, _), (4, _), (5, _), (6, _), (7, _), (8, _)] [] _
  refine mg_iconst (v := (-1)) 66 rfl (by decide) rfl ?_
  refine mg_iret rfl rfl ?_
  exact k M1 (pm_fr_tr f0 f1) (pm_lo_tr l0 (Nat.le_refl _) (Nat.le_refl _) (l1 w)) r1 (e8.trans h8) e4 e6
