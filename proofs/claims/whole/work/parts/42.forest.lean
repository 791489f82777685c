set_option maxHeartbeats 2000000 in
set_option maxRecDepth 20000 in
theorem sp_Fo_add {d : Nat} {M : mm_M} {Q : mm_Qt} {L : Int32} {s : pv_S} {z : Nat} (hR : px_rep M s) (hS : pv_ok z s) (ht : s.2.2.1 < 90) (hd : 1 ≤ d) (k : ∀ M', px_ff M M' → px_rep M' (pv_add L s) → Q none M') : mm_Ev pg ly d 52 [.inr 16, .inl L, .inl (nI s.1)] M Q := by
  rcases hS.2.2.2 with ho | ⟨j, hj, ho⟩
  · have hop : M 16 3 = -1 := hR.2.2.2.1.trans ho
    obtain ⟨d, rfl⟩ : ∃ e, d = e + 1 := ⟨d - 1, by omega⟩
    refine mg_body yy_Fo_add pg_Fo_add (Nat.le_of_ble_eq_true rfl) ?_
    show mm_Rn _ _ _ _ _ _ 0 [(0, _), (1, _), (2, _)] [] _
    refine mg_aload_n 1 rfl rfl rfl ?_
    refine mg_getR 4 rfl rfl rfl rfl ?_
    refine mg_aload_n 5 rfl rfl rfl ?_
    refine mg_getI (v := nI s.2.2.1) 8 rfl rfl (Or.inl rfl) hR.2.2.1 rfl ?_
    refine mg_iload_n 9 rfl rfl rfl ?_
    refine mg_iast (j := s.2.2.1) 10 rfl rfl (vp_in_nI (by omega : s.2.2.1 < 90) (by omega)) (nI_clamp (by omega)) rfl ?_
    refine mg_aload_n 11 rfl rfl rfl ?_
    refine mg_getR 14 rfl rfl rfl rfl ?_
    refine mg_aload_n 15 rfl rfl rfl ?_
    refine mg_getI (v := nI s.2.2.1) 18 rfl rfl (Or.inl rfl) hR.2.2.1 rfl ?_
    refine mg_iconst (v := 0) 19 rfl (by decide) rfl ?_
    refine mg_iast (j := s.2.2.1) 20 rfl rfl (vp_in_nI (by omega : s.2.2.1 < 90) (by omega)) (nI_clamp (by omega)) rfl ?_
    refine mg_aload_n 21 rfl rfl rfl ?_
    refine mg_getR 24 rfl rfl rfl rfl ?_
    refine mg_aload_n 25 rfl rfl rfl ?_
    refine mg_getI (v := nI s.2.2.1) 28 rfl rfl (Or.inl rfl) hR.2.2.1 rfl ?_
    refine mg_iload_n 29 rfl rfl rfl ?_
    refine mg_iast (j := s.2.2.1) 30 rfl rfl (vp_in_nI (by omega : s.2.2.1 < 90) (by omega)) (nI_clamp (by omega)) rfl ?_
    refine mg_aload_n 31 rfl rfl rfl ?_
    refine mg_dup 32 rfl rfl ?_
    refine mg_getI (v := nI s.2.2.1) 35 rfl rfl (Or.inl rfl) hR.2.2.1 rfl ?_
    refine mg_iconst (v := 1) 36 rfl (by decide) rfl ?_
    refine mg_iadd (v := nI (s.2.2.1 + 1)) 37 rfl (nI_1 _) rfl ?_
    refine mg_putI 40 rfl rfl rfl rfl ?_
    refine mg_aload_n 41 rfl rfl rfl ?_
    refine mg_getI (v := -1) 44 rfl rfl (Or.inl rfl) hop rfl ?_
    refine mg_iconst (v := (-1)) 45 rfl (by decide) rfl ?_
    refine mg_ic_eq 48 61 rfl rfl (by decide) (fun c_45 => ?_) (fun c_45 => absurd c_45 (by decide))
    refine mg_vret rfl rfl ?_
    exact k (px_mm M s.2.2.1 L s.1) (px_mm_ff _ _ _ _) (px_add0 hR ho)
  · have hop : M 16 3 = nI j := hR.2.2.2.1.trans ho
    have hne : ¬ nI j = -1 := fun e => absurd (by rw [e]; decide : nI j < 0) (nI_pos (by omega))
    obtain ⟨d, rfl⟩ : ∃ e, d = e + 1 := ⟨d - 1, by omega⟩
    refine mg_body yy_Fo_add pg_Fo_add (Nat.le_of_ble_eq_true rfl) ?_
    show mm_Rn _ _ _ _ _ _ 0 [(0, _), (1, _), (2, _)] [] _
    refine mg_aload_n 1 rfl rfl rfl ?_
    refine mg_getR 4 rfl rfl rfl rfl ?_
    refine mg_aload_n 5 rfl rfl rfl ?_
    refine mg_getI (v := nI s.2.2.1) 8 rfl rfl (Or.inl rfl) hR.2.2.1 rfl ?_
    refine mg_iload_n 9 rfl rfl rfl ?_
    refine mg_iast (j := s.2.2.1) 10 rfl rfl (vp_in_nI (by omega : s.2.2.1 < 90) (by omega)) (nI_clamp (by omega)) rfl ?_
    refine mg_aload_n 11 rfl rfl rfl ?_
    refine mg_getR 14 rfl rfl rfl rfl ?_
    refine mg_aload_n 15 rfl rfl rfl ?_
    refine mg_getI (v := nI s.2.2.1) 18 rfl rfl (Or.inl rfl) hR.2.2.1 rfl ?_
    refine mg_iconst (v := 0) 19 rfl (by decide) rfl ?_
    refine mg_iast (j := s.2.2.1) 20 rfl rfl (vp_in_nI (by omega : s.2.2.1 < 90) (by omega)) (nI_clamp (by omega)) rfl ?_
    refine mg_aload_n 21 rfl rfl rfl ?_
    refine mg_getR 24 rfl rfl rfl rfl ?_
    refine mg_aload_n 25 rfl rfl rfl ?_
    refine mg_getI (v := nI s.2.2.1) 28 rfl rfl (Or.inl rfl) hR.2.2.1 rfl ?_
    refine mg_iload_n 29 rfl rfl rfl ?_
    refine mg_iast (j := s.2.2.1) 30 rfl rfl (vp_in_nI (by omega : s.2.2.1 < 90) (by omega)) (nI_clamp (by omega)) rfl ?_
    refine mg_aload_n 31 rfl rfl rfl ?_
    refine mg_dup 32 rfl rfl ?_
    refine mg_getI (v := nI s.2.2.1) 35 rfl rfl (Or.inl rfl) hR.2.2.1 rfl ?_
    refine mg_iconst (v := 1) 36 rfl (by decide) rfl ?_
    refine mg_iadd (v := nI (s.2.2.1 + 1)) 37 rfl (nI_1 _) rfl ?_
    refine mg_putI 40 rfl rfl rfl rfl ?_
    refine mg_aload_n 41 rfl rfl rfl ?_
    refine mg_getI (v := nI j) 44 rfl rfl (Or.inl rfl) hop rfl ?_
    refine mg_iconst (v := (-1)) 45 rfl (by decide) rfl ?_
    refine mg_ic_eq 48 61 rfl rfl (by decide) (fun c_45 => absurd c_45 hne) (fun c_45 => ?_)
    refine mg_aload_n 49 rfl rfl rfl ?_
    refine mg_getR 52 rfl rfl rfl rfl ?_
    refine mg_aload_n 53 rfl rfl rfl ?_
    refine mg_getI (v := nI j) 56 rfl rfl (Or.inl rfl) hop rfl ?_
    refine mg_dup2 57 rfl rfl ?_
    refine mg_iald (v := px_mm M s.2.2.1 L s.1 18 j) 58 rfl rfl (vp_in_nI (by omega : j < 90) (by omega)) (by rw [nI_clamp (by omega)]; rfl) rfl ?_
    refine mg_iconst (v := 1) 59 rfl (by decide) rfl ?_
    refine mg_iadd 60 rfl rfl rfl ?_
    refine mg_iast (j := j) 61 rfl rfl (vp_in_nI (by omega : j < 90) (by omega)) (nI_clamp (by omega)) rfl ?_
    refine mg_vret rfl rfl ?_
    exact k _ (fun q h1 h2 h3 h4 => by rw [mm_up_ne q h3]; exact px_mm_ff M s.2.2.1 L s.1 q h1 h2 h3 h4) (px_add1 hR hj (by omega) ho)
set_option maxHeartbeats 2000000 in
set_option maxRecDepth 20000 in
theorem sp_addLeaf {d : Nat} {M : mm_M} {Q : mm_Qt} {t : Nat} {s : pv_S} {z : Nat} (hR : px_rep M s) (hS : pv_ok z s) (ht : s.2.2.1 < 90) (hd : 2 ≤ d) (k : ∀ M', px_ff M M' → px_rep M' (pv_add (nI (16 + t)) s) → Q none M') : mm_Ev pg ly d 48 [.inr 16, .inl (nI t), .inl (nI s.1)] M Q := by
  obtain ⟨d, rfl⟩ : ∃ e, d = e + 1 := ⟨d - 1, by omega⟩
  refine mg_body yy_Fo_addLeaf pg_Fo_addLeaf (Nat.le_of_ble_eq_true rfl) ?_
  show mm_Rn _ _ _ _ _ _ 0 [(0, _), (1, _), (2, _)] [] _
  refine mg_aload_n 1 rfl rfl rfl ?_
  refine mg_bipush (v := 16) 3 rfl (by decide) rfl ?_
  refine mg_iload_n 4 rfl rfl rfl ?_
  refine mg_iadd (v := nI (16 + t)) 5 rfl (nI_add 16 t) rfl ?_
  refine mg_iload_n 6 rfl rfl rfl ?_
  refine mg_callV2 9 rfl (Nat.le_of_ble_eq_true rfl) pg_Fo_add rfl rfl ?_
  refine sp_Fo_add hR hS ht (by omega) (fun M1 f1 r1 => ?_)
  show mm_Rn _ _ _ _ _ _ 9 [(0, _), (1, _), (2, _)] [] _
  refine mg_vret rfl rfl ?_
  exact k M1 f1 r1
set_option maxHeartbeats 2000000 in
set_option maxRecDepth 20000 in
theorem sp_openTree {d : Nat} {M : mm_M} {Q : mm_Qt} {L : Int32} {s : pv_S} {z : Nat} (hR : px_rep M s) (hS : pv_ok z s) (ht : s.2.2.1 < 90) (hd : 2 ≤ d) (k : ∀ M', px_ff M M' → px_rep M' (pv_setop (pv_add L s) (nI s.2.2.1)) → Q (some (.inl (pv_op s))) M') : mm_Ev pg ly d 49 [.inr 16, .inl L, .inl (nI s.1)] M Q := by
  obtain ⟨d, rfl⟩ : ∃ e, d = e + 1 := ⟨d - 1, by omega⟩
  refine mg_body yy_Fo_openTree pg_Fo_openTree (Nat.le_of_ble_eq_true rfl) ?_
  show mm_Rn _ _ _ _ _ _ 0 [(0, _), (1, _), (2, _)] [] _
  refine mg_aload_n 1 rfl rfl rfl ?_
  refine mg_getI (v := pv_op s) 4 rfl rfl (Or.inl rfl) hR.2.2.2.1 rfl ?_
  refine mg_istore_n (L2 := [(0, _), (1, _), (2, _), (3, _)]) 5 rfl (by decide) rfl rfl ?_
  refine mg_aload_n 6 rfl rfl rfl ?_
  refine mg_iload_n 7 rfl rfl rfl ?_
  refine mg_iload_n 8 rfl rfl rfl ?_
  refine mg_callV2 11 rfl (Nat.le_of_ble_eq_true rfl) pg_Fo_add rfl rfl ?_
  refine sp_Fo_add hR hS ht (by omega) (fun M1 f1 r1 => ?_)
  show mm_Rn _ _ _ _ _ _ 11 [(0, _), (1, _), (2, _), (3, _)] [] _
  refine mg_aload_n 12 rfl rfl rfl ?_
  refine mg_aload_n 13 rfl rfl rfl ?_
  refine mg_getI (v := nI (s.2.2.1 + 1)) 16 rfl rfl (Or.inl rfl) r1.2.2.1 rfl ?_
  refine mg_iconst (v := 1) 17 rfl (by decide) rfl ?_
  refine mg_isub (v := nI s.2.2.1) 18 rfl (nI_pred _) rfl ?_
  refine mg_putI 21 rfl rfl rfl rfl ?_
  refine mg_iload_n 22 rfl rfl rfl ?_
  refine mg_iret rfl rfl ?_
  refine k _ (fun q h1 h2 h3 h4 => by rw [mm_up_ne q h1]; exact f1 q h1 h2 h3 h4) ?_
  obtain ⟨q1, q2, q3, q4, q5⟩ := r1
  exact ⟨by rw [mm_up_ne 20 (by decide)]; exact q1, by rw [mm_up_ne 20 (by decide)]; exact q2, by simp [mm_up, upd]; exact q3, by simp [mm_up, upd]; rfl, fun i hi => by rw [mm_up_ne 17 (by decide), mm_up_ne 18 (by decide), mm_up_ne 19 (by decide)]; exact q5 i hi⟩
set_option maxHeartbeats 2000000 in
set_option maxRecDepth 20000 in
theorem sp_closeTree {d : Nat} {M : mm_M} {Q : mm_Qt} {o : Int32} {s : pv_S} (hR : px_rep M s) (hd : 1 ≤ d) (k : ∀ M', px_ff M M' → px_rep M' (pv_setop s o) → Q none M') : mm_Ev pg ly d 50 [.inr 16, .inl o] M Q := by
  obtain ⟨d, rfl⟩ : ∃ e, d = e + 1 := ⟨d - 1, by omega⟩
  refine mg_body yy_Fo_closeTree pg_Fo_closeTree (Nat.le_of_ble_eq_true rfl) ?_
  show mm_Rn _ _ _ _ _ _ 0 [(0, _), (1, _)] [] _
  refine mg_aload_n 1 rfl rfl rfl ?_
  refine mg_iload_n 2 rfl rfl rfl ?_
  refine mg_putI 5 rfl rfl rfl rfl ?_
  refine mg_vret rfl rfl ?_
  refine k _ (fun q h1 h2 h3 h4 => mm_up_ne q h1) ?_
  obtain ⟨q1, q2, q3, q4, q5⟩ := hR
  exact ⟨by rw [mm_up_ne 20 (by decide)]; exact q1, by rw [mm_up_ne 20 (by decide)]; exact q2, by simp [mm_up, upd]; exact q3, by simp [mm_up, upd]; rfl, fun i hi => by rw [mm_up_ne 17 (by decide), mm_up_ne 18 (by decide), mm_up_ne 19 (by decide)]; exact q5 i hi⟩
set_option maxHeartbeats 2000000 in
set_option maxRecDepth 20000 in
theorem sp_isFull {d : Nat} {M : mm_M} {Q : mm_Qt} {s : pv_S} {z : Nat} (hR : px_rep M s) (hS : pv_ok z s) (hd : 1 ≤ d) (k1 : s.2.2.1 = 90 → Q (some (.inl 1)) M) (k0 : s.2.2.1 < 90 → Q (some (.inl 0)) M) : mm_Ev pg ly d 47 [.inr 16] M Q := by
  have h90 := hS.2.2.1
  obtain ⟨d, rfl⟩ : ∃ e, d = e + 1 := ⟨d - 1, by omega⟩
  refine mg_body yy_Fo_isFull pg_Fo_isFull (Nat.le_of_ble_eq_true rfl) ?_
  show mm_Rn _ _ _ _ _ _ 0 [(0, _)] [] _
  refine mg_aload_n 1 rfl rfl rfl ?_
  refine mg_getI (v := nI s.2.2.1) 4 rfl rfl (Or.inl rfl) hR.2.2.1 rfl ?_
  refine mg_bipush (v := 90) 6 rfl (by decide) rfl ?_
  refine mg_ic_lt 9 13 rfl rfl (by decide) (fun c_6 => ?_) (fun c_6 => ?_)
  · refine mg_iconst (v := 0) 14 rfl (by decide) rfl ?_
    refine mg_zret rfl rfl (by first | exact Or.inl rfl | exact Or.inr rfl) ?_
    exact k0 ((st_lt 90 90 rfl (by omega) (by omega)).mp c_6)
  · refine mg_iconst (v := 1) 10 rfl (by decide) rfl ?_
    refine mg_goto 14 rfl (by decide) ?_
    refine mg_zret rfl rfl (by first | exact Or.inl rfl | exact Or.inr rfl) ?_
    exact k1 (by have := st_nlt 90 c_6 rfl (by omega) (by omega); omega)
set_option maxHeartbeats 2000000 in
set_option maxRecDepth 20000 in
theorem sp_inAt {d : Nat} {M : mm_M} {Q : mm_Qt} {p : Nat} {P : pv_D} {lv : Nat → Nat} {u : Nat → Prop} {z : Nat} {em fi nx us : Nat → Int32} (hP : pv_val P lv u z) (hD : px_D M P u z em fi nx us) (hp : p ≤ z) (hd : 2 ≤ d) (k : Q (some (.inl (nI (pv_tk P p)))) M) : mm_Ev pg ly d 45 [.inr 14, .inl (nI p)] M Q := by
  have hz := hP.2.1
  obtain ⟨d, rfl⟩ : ∃ e, d = e + 1 := ⟨d - 1, by omega⟩
  refine mg_body yy_In_at pg_In_at (Nat.le_of_ble_eq_true rfl) ?_
  show mm_Rn _ _ _ _ _ _ 0 [(0, _), (1, _)] [] _
  refine mg_iload_n 1 rfl rfl rfl ?_
  refine mg_aload_n 2 rfl rfl rfl ?_
  refine mg_getI (v := nI z) 5 rfl rfl (Or.inl rfl) hD.1 rfl ?_
  refine mg_callS2 8 rfl (by decide) (Nat.le_of_ble_eq_true rfl) pg_PG_within rfl ?_
  refine sp_within z (by omega) rfl (by omega) (fun j hj hx => ?_) (fun hno => ?_)
  · obtain rfl := st_nIe (by omega) (by omega) hx
    show mm_Rn _ _ _ _ _ _ 8 [(0, _), (1, _)] [_] _
    refine mg_if_eq 11 20 rfl rfl (by decide) (fun c_8 => absurd c_8 (by decide)) (fun c_8 => ?_)
    refine mg_aload_n 12 rfl rfl rfl ?_
    refine mg_getR 15 rfl rfl rfl rfl ?_
    refine mg_iload_n 16 rfl rfl rfl ?_
    refine mg_iald (v := nI (pv_tk P p)) 17 rfl rfl (vp_in_nI (by omega : p < 40) (by omega)) (by rw [nI_clamp (by omega)]; exact hD.2.1 p (by omega)) rfl ?_
    refine mg_goto 22 rfl (by decide) ?_
    refine mg_iret rfl rfl ?_
    exact k
  · show mm_Rn _ _ _ _ _ _ 8 [(0, _), (1, _)] [_] _
    refine mg_if_eq 11 20 rfl rfl (by decide) (fun c_8 => ?_) (fun c_8 => absurd c_8 (by decide))
    refine mg_bipush (v := 10) 22 rfl (by decide) rfl ?_
    refine mg_iret rfl rfl ?_
    rw [hP.2.2.1 p (Nat.not_lt.mp (fun h => hno ⟨p, h, rfl⟩))] at k
    exact k
set_option maxHeartbeats 2000000 in
set_option maxRecDepth 20000 in
theorem lp_beh {d : Nat} {M : mm_M} {Q : mm_Qt} {rr : mm_V} {P : pv_D} {lv : Nat → Nat} {u : Nat → Prop} {z : Nat} {em fi nx us : Nat → Int32} (hP : pv_val P lv u z) (hD : px_D M P u z em fi nx us) {R : Nat} (k : Q (some (.inl (nI R))) M) : ∀ (f m : Nat) (x : Int32), f ≤ 6 → u m → x = nI (6 - f) → pv_beh P f m = R → mm_Rn pg ly d (mm_Ev pg ly d) yy_Pa_behindAheads Q 4 [(0, .inr 20), (1, rr), (2, .inl (nI m)), (3, .inl x)] [] M := by
  intro f
  induction f with
  | zero =>
    intro m x hf hm ex hR
    subst ex
    subst hR
    refine mg_iload_n 5 rfl rfl rfl ?_
    refine mg_bipush (v := 6) 7 rfl (by decide) rfl ?_
    refine mg_ic_ge 10 40 rfl rfl (by decide) (fun c_7 => ?_) (fun c_7 => absurd c_7 (by decide))
    refine mg_iload_n 41 rfl rfl rfl ?_
    refine mg_iret rfl rfl ?_
    exact k
  | succ f ih =>
    intro m x hf hm ex hR
    subst ex
    obtain ⟨h60, hkd, -, hb, -⟩ := hD.2.2.2 m hm
    refine mg_iload_n 5 rfl rfl rfl ?_
    refine mg_bipush (v := 6) 7 rfl (by decide) rfl ?_
    refine mg_ic_ge 10 40 rfl rfl (by decide) (fun c_7 => absurd c_7 (nI_ge (b := 6) (by omega) (by omega))) (fun c_7 => ?_)
    refine mg_aload_n 11 rfl rfl rfl ?_
    refine mg_getR 14 rfl rfl rfl rfl ?_
    refine mg_getR 17 rfl rfl rfl rfl ?_
    refine mg_iload_n 18 rfl rfl rfl ?_
    refine mg_iald (v := nI (pv_kd P m)) 19 rfl rfl (vp_in_nI (by omega : m < 60) (by omega)) (by rw [nI_clamp (by omega)]; exact hkd) rfl ?_
    refine mg_bipush (v := 7) 21 rfl (by decide) rfl ?_
    refine mg_ic_ne 24 40 rfl rfl (by decide) (fun c_21 => ?_) (fun c_21 => ?_)
    · refine mg_iload_n 41 rfl rfl rfl ?_
      refine mg_iret rfl rfl ?_
      have hk : pv_kd P m ≠ 7 := fun h => c_21 (by rw [h]; rfl)
      have e : m = R := by rw [← hR]; simp only [pv_beh]; rw [if_neg hk]
      rw [e]
      exact k
    · have hk : pv_kd P m = 7 := (st_eq 7 7 rfl (by have := (hP.1 m hm).1; omega) (by omega)).mp c_21
      refine mg_aload_n 25 rfl rfl rfl ?_
      refine mg_getR 28 rfl rfl rfl rfl ?_
      refine mg_getR 31 rfl rfl rfl rfl ?_
      refine mg_iload_n 32 rfl rfl rfl ?_
      refine mg_iald (v := nI (pv_ob P m)) 33 rfl rfl (vp_in_nI (by omega : m < 60) (by omega)) (by rw [nI_clamp (by omega)]; exact (hb (by rw [hk]; rfl))) rfl ?_
      refine mg_istore_n (L2 := [(0, _), (1, _), (2, _), (3, _)]) 34 rfl (by decide) rfl rfl ?_
      refine mg_iinc (v := _ + 1) (L2 := [(0, _), (1, _), (2, _), (3, _)]) 37 rfl rfl (by decide) rfl rfl rfl ?_
      refine mg_goto 4 rfl (by decide) ?_
      exact ih _ _ (by omega) ((hP.1 m hm).2.2.2.2.1 (by rw [hk]; rfl)).1 (by rw [nI_1]; congr 1; omega) (by rw [← hR]; simp only [pv_beh]; rw [if_pos hk])
set_option maxHeartbeats 2000000 in
set_option maxRecDepth 20000 in
theorem sp_beh {d : Nat} {M : mm_M} {Q : mm_Qt} {m : Nat} {P : pv_D} {lv : Nat → Nat} {u : Nat → Prop} {z : Nat} {em fi nx us : Nat → Int32} (hP : pv_val P lv u z) (hD : px_D M P u z em fi nx us) (hm : u m) (hd : 1 ≤ d) (k : Q (some (.inl (nI (pv_beh P 6 m)))) M) : mm_Ev pg ly d 64 [.inr 20, .inl (nI m)] M Q := by
  obtain ⟨d, rfl⟩ : ∃ e, d = e + 1 := ⟨d - 1, by omega⟩
  refine mg_body yy_Pa_behindAheads pg_Pa_behindAheads (Nat.le_of_ble_eq_true rfl) ?_
  show mm_Rn _ _ _ _ _ _ 0 [(0, _), (1, _)] [] _
  refine mg_iload_n 1 rfl rfl rfl ?_
  refine mg_istore_n (L2 := [(0, _), (1, _), (2, _)]) 2 rfl (by decide) rfl rfl ?_
  refine mg_iconst (v := 0) 3 rfl (by decide) rfl ?_
  refine mg_istore_n (L2 := [(0, _), (1, _), (2, _), (3, _)]) 4 rfl (by decide) rfl rfl ?_
  exact lp_beh hP hD k 6 m 0 (by omega) hm rfl rfl
theorem pv_beh_u {P : pv_D} {lv : Nat → Nat} {u : Nat → Prop} {z : Nat} (hP : pv_val P lv u z) : ∀ f m, u m → u (pv_beh P f m) := by
  intro f
  induction f with
  | zero => intro m h; exact h
  | succ f ih =>
    intro m h
    simp only [pv_beh]
    by_cases hk : pv_kd P m = 7
    · rw [if_pos hk]; exact ih _ ((hP.1 m h).2.2.2.2.1 (by rw [hk]; rfl)).1
    · rw [if_neg hk]; exact h
