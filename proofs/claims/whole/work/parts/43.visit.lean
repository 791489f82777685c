set_option maxHeartbeats 2000000 in
set_option maxRecDepth 20000 in
theorem sp_tryAhead {d : Nat} {M : mm_M} {Q : mm_Qt} {m : Nat} {P : pv_D} {lv : Nat → Nat} {u : Nat → Prop} {z : Nat} {em fi nx us : Nat → Int32} (hP : pv_val P lv u z) (hD : px_D M P u z em fi nx us) {V : pv_V} {N : Nat} (hV : px_VC P lv u z em fi nx us V N) (hKp : pv_keeps z u V) {s : pv_S} (hR : px_rep M s) (hS : pv_ok z s) {c : Nat} (hm : u m) (hc : c ≤ 6) (hN : 1500 ≤ s.2.1 + N) (hd : 4 * lv m + 24 * (6 - c) + 5 ≤ d) (k : px_post2 Q M (px_try V m c s)) : mm_Ev pg ly d 63 [.inr 20, .inl (nI m), .inl (nI c)] M Q := by
  obtain ⟨d, rfl⟩ : ∃ e, d = e + 1 := ⟨d - 1, by omega⟩
  refine mg_body yy_Pa_tryAhead pg_Pa_tryAhead (Nat.le_of_ble_eq_true rfl) ?_
  show mm_Rn _ _ _ _ _ _ 0 [(0, _), (1, _), (2, _)] [] _
  refine mg_aload_n 1 rfl rfl rfl ?_
  refine mg_getI (v := nI s.1) 4 rfl rfl (Or.inl rfl) hR.1 rfl ?_
  refine mg_istore_n (L2 := [(0, _), (1, _), (2, _), (3, _)]) 5 rfl (by decide) rfl rfl ?_
  refine mg_aload_n 6 rfl rfl rfl ?_
  refine mg_iload_n 7 rfl rfl rfl ?_
  refine mg_iload_n 8 rfl rfl rfl ?_
  refine mg_iconst (v := 1) 9 rfl (by decide) rfl ?_
  refine mg_callV3 12 rfl (Nat.le_of_ble_eq_true rfl) pg_Pa_visit rfl rfl ?_
  refine hV _ _ _ true _ s _ hD hR hS hm hc hN (by omega) (fun M1 f1 r1 e1 => ?_)
  rw [if_neg (fun h => absurd h.2 (by decide))] at e1
  show mm_Rn _ _ _ _ _ _ 12 [(0, _), (1, _), (2, _), (3, _)] [_] _
  refine mg_istore (L2 := [(0, _), (1, _), (2, _), (3, _), (4, _)]) 14 rfl (by decide) rfl rfl ?_
  refine mg_iload 16 rfl rfl rfl ?_
  refine mg_bipush (v := (-8)) 18 rfl (by decide) rfl ?_
  refine mg_ic_ne 21 24 rfl rfl (by decide) (fun c_18 => ?_) (fun c_18 => ?_)
  · refine mg_aload_n 25 rfl rfl rfl ?_
    refine mg_iload_n 26 rfl rfl rfl ?_
    refine mg_putI 29 rfl rfl rfl rfl ?_
    refine mg_iload 31 rfl rfl rfl ?_
    refine mg_if_ne 34 38 rfl rfl (by decide) (fun c_31 => ?_) (fun c_31 => ?_)
    · refine mg_iconst (v := 0) 39 rfl (by decide) rfl ?_
      refine mg_iret rfl rfl ?_
      have er : px_try V m c s = (0, (s.1, (V m c true s).2.2.2)) := by unfold px_try; rw [if_neg c_18, if_neg c_31]
      rw [er] at k
      obtain ⟨q1, q2, q3, q4, q5⟩ := r1
      exact k _ (px_fr_tr f1 (px_fr_up (by decide))) ⟨by simp [mm_up, upd], by simp [mm_up, upd]; exact q2, by rw [mm_up_ne 16 (by decide)]; exact q3, by rw [mm_up_ne 16 (by decide)]; exact q4, fun i hi => by rw [mm_up_ne 17 (by decide), mm_up_ne 18 (by decide), mm_up_ne 19 (by decide)]; exact q5 i hi⟩ (by simp [mm_up, upd]; exact e1)
    · refine mg_iconst (v := 1) 35 rfl (by decide) rfl ?_
      refine mg_goto 39 rfl (by decide) ?_
      refine mg_iret rfl rfl ?_
      have er : px_try V m c s = (1, (s.1, (V m c true s).2.2.2)) := by unfold px_try; rw [if_neg c_18, if_pos c_31]
      rw [er] at k
      obtain ⟨q1, q2, q3, q4, q5⟩ := r1
      exact k _ (px_fr_tr f1 (px_fr_up (by decide))) ⟨by simp [mm_up, upd], by simp [mm_up, upd]; exact q2, by rw [mm_up_ne 16 (by decide)]; exact q3, by rw [mm_up_ne 16 (by decide)]; exact q4, fun i hi => by rw [mm_up_ne 17 (by decide), mm_up_ne 18 (by decide), mm_up_ne 19 (by decide)]; exact q5 i hi⟩ (by simp [mm_up, upd]; exact e1)
  · refine mg_bipush (v := (-8)) 23 rfl (by decide) rfl ?_
    refine mg_iret rfl rfl ?_
    have er : px_try V m c s = (-8, (V m c true s).2.2) := if_pos c_18
    rw [er] at k
    exact k M1 f1 r1 e1
set_option maxHeartbeats 2000000 in
set_option maxRecDepth 20000 in
theorem sp_choose {d : Nat} {M : mm_M} {Q : mm_Qt} {P : pv_D} {lv : Nat → Nat} {u : Nat → Prop} {z : Nat} {em fi nx us : Nat → Int32} (hP : pv_val P lv u z) (hD : px_D M P u z em fi nx us) {V : pv_V} {N : Nat} (hV : px_VC P lv u z em fi nx us V N) (hKp : pv_keeps z u V) {s : pv_S} (hR : px_rep M s) (hS : pv_ok z s) {n c : Nat} (hn : u n) (hc : c ≤ 6) (hN : 1500 ≤ s.2.1 + N) {sc : Bool} (hk : st_nl (pv_kd P n) = true) (hd : 4 * lv n + 24 * (6 - c) + 2 ≤ d) (k : px_post2 Q M (pv_ch P V n c sc s)) : mm_Ev pg ly d 62 [.inr 20, .inl (nI n), .inl (nI c), .inl (px_b sc)] M Q := by
  obtain ⟨h60, hkd, ha, hb, h0, h1, h8, -⟩ := hD.2.2.2 n hn
  obtain ⟨-, hlv, -, hua, hub, huc, -⟩ := hP.1 n hn
  have hua' := hua hk
  have ka := hD.2.2.2 _ hua'.1
  have ka60 := ka.1
  cases sc with
  | false =>
    show mm_Ev pg ly d 62 [.inr 20, .inl (nI n), .inl (nI c), .inl 0] M Q
    obtain ⟨d, rfl⟩ : ∃ e, d = e + 1 := ⟨d - 1, by omega⟩
    refine mg_body yy_Pa_choose pg_Pa_choose (Nat.le_of_ble_eq_true rfl) ?_
    show mm_Rn _ _ _ _ _ _ 0 [(0, _), (1, _), (2, _), (3, _)] [] _
    refine mg_aload_n 1 rfl rfl rfl ?_
    refine mg_getR 4 rfl rfl rfl rfl ?_
    refine mg_getR 7 rfl rfl rfl rfl ?_
    refine mg_iload_n 8 rfl rfl rfl ?_
    refine mg_iald (v := nI (pv_oa P n)) 9 rfl rfl (vp_in_nI (by omega : n < 60) (by omega)) (by rw [nI_clamp (by omega)]; exact (ha hk)) rfl ?_
    refine mg_istore (L2 := [(0, _), (1, _), (2, _), (3, _), (4, _)]) 11 rfl (by decide) rfl rfl ?_
    refine mg_iload_n 12 rfl rfl rfl ?_
    refine mg_if_ne 15 46 rfl rfl (by decide) (fun c_12 => absurd c_12 (by decide)) (fun c_12 => ?_)
    refine mg_aload_n 16 rfl rfl rfl ?_
    refine mg_getR 19 rfl rfl rfl rfl ?_
    refine mg_getR 22 rfl rfl rfl rfl ?_
    refine mg_iload 24 rfl rfl rfl ?_
    refine mg_iald (v := nI (pv_kd P (pv_oa P n))) 25 rfl rfl (vp_in_nI (by omega : (pv_oa P n) < 60) (by omega)) (by rw [nI_clamp (by omega)]; exact ka.2.1) rfl ?_
    refine mg_bipush (v := 7) 27 rfl (by decide) rfl ?_
    refine mg_ic_ne 30 46 rfl rfl (by decide) (fun c_27 => ?_) (fun c_27 => ?_)
    · have kb := hD.2.2.2 _ (pv_beh_u hP 6 _ hua'.1)
      have kb60 := kb.1
      refine mg_aload_n 47 rfl rfl rfl ?_
      refine mg_iload 49 rfl rfl rfl ?_
      refine mg_callV1 52 rfl (Nat.le_of_ble_eq_true rfl) pg_Pa_behindAheads rfl rfl ?_
      refine sp_beh hP hD hua'.1 (by omega) ?_
      show mm_Rn _ _ _ _ _ _ 52 [(0, _), (1, _), (2, _), (3, _), (4, _)] [_] _
      refine mg_istore (L2 := [(0, _), (1, _), (2, _), (3, _), (4, _), (5, _)]) 54 rfl (by decide) rfl rfl ?_
      refine mg_aload_n 55 rfl rfl rfl ?_
      refine mg_getR 58 rfl rfl rfl rfl ?_
      refine mg_getR 61 rfl rfl rfl rfl ?_
      refine mg_iload_n 62 rfl rfl rfl ?_
      refine mg_iald (v := nI (pv_kd P n)) 63 rfl rfl (vp_in_nI (by omega : n < 60) (by omega)) (by rw [nI_clamp (by omega)]; exact hkd) rfl ?_
      refine mg_iconst (v := 3) 64 rfl (by decide) rfl ?_
      refine mg_ic_ne 67 79 rfl rfl (by decide) (fun c_64 => ?_) (fun c_64 => ?_)
      · have hk3 : ¬ pv_kd P n = 3 := fun h => c_64 (by rw [h]; rfl)
        refine mg_aload_n 80 rfl rfl rfl ?_
        refine mg_getR 83 rfl rfl rfl rfl ?_
        refine mg_getR 86 rfl rfl rfl rfl ?_
        refine mg_iload 88 rfl rfl rfl ?_
        refine mg_iald (v := pv_s4 P (pv_beh P 6 (pv_oa P n))) 89 rfl rfl (vp_in_nI (by omega : (pv_beh P 6 (pv_oa P n)) < 60) (by omega)) (by rw [nI_clamp (by omega)]; exact ((hD.2.2.1 _ (by omega)).2.2.1.trans kb.2.2.2.2.2.2.2.2.symm)) rfl ?_
        refine mg_istore (L2 := [(0, _), (1, _), (2, _), (3, _), (4, _), (5, _), (6, _)]) 91 rfl (by decide) rfl rfl ?_
        refine mg_iload 93 rfl rfl rfl ?_
        refine mg_iconst (v := 1) 94 rfl (by decide) rfl ?_
        refine mg_aload_n 95 rfl rfl rfl ?_
        refine mg_getR 98 rfl rfl rfl rfl ?_
        refine mg_aload_n 99 rfl rfl rfl ?_
        refine mg_getI (v := nI s.1) 102 rfl rfl (Or.inl rfl) hR.1 rfl ?_
        refine mg_callV1 105 rfl (Nat.le_of_ble_eq_true rfl) pg_In_at rfl rfl ?_
        refine sp_inAt hP hD hS.1 (by omega) ?_
        show mm_Rn _ _ _ _ _ _ 105 [(0, _), (1, _), (2, _), (3, _), (4, _), (5, _), (6, _)] [_, _, _] _
        refine mg_ishl 106 rfl rfl rfl ?_
        refine mg_iand 107 rfl rfl rfl ?_
        refine mg_if_eq 110 114 rfl rfl (by decide) (fun c_107 => ?_) (fun c_107 => ?_)
        · refine mg_iconst (v := 0) 115 rfl (by decide) rfl ?_
          refine mg_iret rfl rfl ?_
          have hA : ¬ (false = false ∧ pv_kd P (pv_oa P n) = 7) := fun h => c_27 (by rw [h.2]; rfl)
          have hw : pv_wel P n = pv_s4 P (pv_beh P 6 (pv_oa P n)) := by unfold pv_wel; rw [if_neg hk3]
          have hB : ¬ ms_b (pv_wel P n) (pv_tk P s.1) = true := by
            rw [hw, (an_bit2 _ (by have := hP.2.2.2 s.1; omega)).mp c_107]; decide
          have er : pv_ch P V n c false s = (0, s) := by unfold pv_ch; rw [if_neg hA, if_neg hB]
          rw [er] at k
          exact k M (px_fr_rf M) hR rfl
        · refine mg_iconst (v := 1) 111 rfl (by decide) rfl ?_
          refine mg_goto 115 rfl (by decide) ?_
          refine mg_iret rfl rfl ?_
          have hA : ¬ (false = false ∧ pv_kd P (pv_oa P n) = 7) := fun h => c_27 (by rw [h.2]; rfl)
          have hw : pv_wel P n = pv_s4 P (pv_beh P 6 (pv_oa P n)) := by unfold pv_wel; rw [if_neg hk3]
          have hB : ms_b (pv_wel P n) (pv_tk P s.1) = true := by
            rw [hw]
            cases hb2 : ms_b (pv_s4 P (pv_beh P 6 (pv_oa P n))) (pv_tk P s.1) with
            | true => rfl
            | false => exact absurd ((an_bit2 _ (by have := hP.2.2.2 s.1; omega)).mpr hb2) c_107
          have er : pv_ch P V n c false s = (1, s) := by unfold pv_ch; rw [if_neg hA, if_pos hB]
          rw [er] at k
          exact k M (px_fr_rf M) hR rfl
      · have hk3 : pv_kd P n = 3 := (st_eq 3 3 rfl (by have := (hP.1 n hn).1; omega) (by omega)).mp c_64
        refine mg_aload_n 68 rfl rfl rfl ?_
        refine mg_getR 71 rfl rfl rfl rfl ?_
        refine mg_iload 73 rfl rfl rfl ?_
        refine mg_callV1 76 rfl (Nat.le_of_ble_eq_true rfl) pg_An_start rfl rfl ?_
        refine sp_start (by omega) hD.2.2.1 (by omega) ?_
        rw [← kb.2.2.2.2.2.2.2.1]
        show mm_Rn _ _ _ _ _ _ 76 [(0, _), (1, _), (2, _), (3, _), (4, _), (5, _)] [_] _
        refine mg_goto 89 rfl (by decide) ?_
        refine mg_istore (L2 := [(0, _), (1, _), (2, _), (3, _), (4, _), (5, _), (6, _)]) 91 rfl (by decide) rfl rfl ?_
        refine mg_iload 93 rfl rfl rfl ?_
        refine mg_iconst (v := 1) 94 rfl (by decide) rfl ?_
        refine mg_aload_n 95 rfl rfl rfl ?_
        refine mg_getR 98 rfl rfl rfl rfl ?_
        refine mg_aload_n 99 rfl rfl rfl ?_
        refine mg_getI (v := nI s.1) 102 rfl rfl (Or.inl rfl) hR.1 rfl ?_
        refine mg_callV1 105 rfl (Nat.le_of_ble_eq_true rfl) pg_In_at rfl rfl ?_
        refine sp_inAt hP hD hS.1 (by omega) ?_
        show mm_Rn _ _ _ _ _ _ 105 [(0, _), (1, _), (2, _), (3, _), (4, _), (5, _), (6, _)] [_, _, _] _
        refine mg_ishl 106 rfl rfl rfl ?_
        refine mg_iand 107 rfl rfl rfl ?_
        refine mg_if_eq 110 114 rfl rfl (by decide) (fun c_107 => ?_) (fun c_107 => ?_)
        · refine mg_iconst (v := 0) 115 rfl (by decide) rfl ?_
          refine mg_iret rfl rfl ?_
          have hA : ¬ (false = false ∧ pv_kd P (pv_oa P n) = 7) := fun h => c_27 (by rw [h.2]; rfl)
          have hw : pv_wel P n = pv_s3 P (pv_beh P 6 (pv_oa P n)) := by unfold pv_wel; rw [if_pos hk3]
          have hB : ¬ ms_b (pv_wel P n) (pv_tk P s.1) = true := by
            rw [hw, (an_bit2 _ (by have := hP.2.2.2 s.1; omega)).mp c_107]; decide
          have er : pv_ch P V n c false s = (0, s) := by unfold pv_ch; rw [if_neg hA, if_neg hB]
          rw [er] at k
          exact k M (px_fr_rf M) hR rfl
        · refine mg_iconst (v := 1) 111 rfl (by decide) rfl ?_
          refine mg_goto 115 rfl (by decide) ?_
          refine mg_iret rfl rfl ?_
          have hA : ¬ (false = false ∧ pv_kd P (pv_oa P n) = 7) := fun h => c_27 (by rw [h.2]; rfl)
          have hw : pv_wel P n = pv_s3 P (pv_beh P 6 (pv_oa P n)) := by unfold pv_wel; rw [if_pos hk3]
          have hB : ms_b (pv_wel P n) (pv_tk P s.1) = true := by
            rw [hw]
            cases hb2 : ms_b (pv_s3 P (pv_beh P 6 (pv_oa P n))) (pv_tk P s.1) with
            | true => rfl
            | false => exact absurd ((an_bit2 _ (by have := hP.2.2.2 s.1; omega)).mpr hb2) c_107
          have er : pv_ch P V n c false s = (1, s) := by unfold pv_ch; rw [if_neg hA, if_pos hB]
          rw [er] at k
          exact k M (px_fr_rf M) hR rfl
    · have h7 : pv_kd P (pv_oa P n) = 7 := (st_eq 7 7 rfl (by have := (hP.1 _ hua'.1).1; omega) (by omega)).mp c_27
      have hua2 := (hP.1 _ hua'.1).2.2.2.1 (by rw [h7]; rfl)
      refine mg_aload_n 31 rfl rfl rfl ?_
      refine mg_aload_n 32 rfl rfl rfl ?_
      refine mg_getR 35 rfl rfl rfl rfl ?_
      refine mg_getR 38 rfl rfl rfl rfl ?_
      refine mg_iload 40 rfl rfl rfl ?_
      refine mg_iald (v := nI (pv_oa P (pv_oa P n))) 41 rfl rfl (vp_in_nI (by omega : (pv_oa P n) < 60) (by omega)) (by rw [nI_clamp (by omega)]; exact (ka.2.2.1 (by rw [h7]; rfl))) rfl ?_
      refine mg_iload_n 42 rfl rfl rfl ?_
      refine mg_callV2 45 rfl (Nat.le_of_ble_eq_true rfl) pg_Pa_tryAhead rfl rfl ?_
      refine sp_tryAhead hP hD hV hKp hR hS hua2.1 hc hN (by omega) (fun M1 f1 r1 e1 => mg_iret rfl rfl ?_)
      have er : pv_ch P V n c false s = px_try V (pv_oa P (pv_oa P n)) c s := by unfold pv_ch; rw [if_pos ⟨rfl, h7⟩]; rfl
      rw [er] at k
      exact k M1 f1 r1 e1
  | true =>
    show mm_Ev pg ly d 62 [.inr 20, .inl (nI n), .inl (nI c), .inl 1] M Q
    obtain ⟨d, rfl⟩ : ∃ e, d = e + 1 := ⟨d - 1, by omega⟩
    refine mg_body yy_Pa_choose pg_Pa_choose (Nat.le_of_ble_eq_true rfl) ?_
    show mm_Rn _ _ _ _ _ _ 0 [(0, _), (1, _), (2, _), (3, _)] [] _
    refine mg_aload_n 1 rfl rfl rfl ?_
    refine mg_getR 4 rfl rfl rfl rfl ?_
    refine mg_getR 7 rfl rfl rfl rfl ?_
    refine mg_iload_n 8 rfl rfl rfl ?_
    refine mg_iald (v := nI (pv_oa P n)) 9 rfl rfl (vp_in_nI (by omega : n < 60) (by omega)) (by rw [nI_clamp (by omega)]; exact (ha hk)) rfl ?_
    refine mg_istore (L2 := [(0, _), (1, _), (2, _), (3, _), (4, _)]) 11 rfl (by decide) rfl rfl ?_
    refine mg_iload_n 12 rfl rfl rfl ?_
    refine mg_if_ne 15 46 rfl rfl (by decide) (fun c_12 => ?_) (fun c_12 => absurd c_12 (by decide))
    have kb := hD.2.2.2 _ (pv_beh_u hP 6 _ hua'.1)
    have kb60 := kb.1
    refine mg_aload_n 47 rfl rfl rfl ?_
    refine mg_iload 49 rfl rfl rfl ?_
    refine mg_callV1 52 rfl (Nat.le_of_ble_eq_true rfl) pg_Pa_behindAheads rfl rfl ?_
    refine sp_beh hP hD hua'.1 (by omega) ?_
    show mm_Rn _ _ _ _ _ _ 52 [(0, _), (1, _), (2, _), (3, _), (4, _)] [_] _
    refine mg_istore (L2 := [(0, _), (1, _), (2, _), (3, _), (4, _), (5, _)]) 54 rfl (by decide) rfl rfl ?_
    refine mg_aload_n 55 rfl rfl rfl ?_
    refine mg_getR 58 rfl rfl rfl rfl ?_
    refine mg_getR 61 rfl rfl rfl rfl ?_
    refine mg_iload_n 62 rfl rfl rfl ?_
    refine mg_iald (v := nI (pv_kd P n)) 63 rfl rfl (vp_in_nI (by omega : n < 60) (by omega)) (by rw [nI_clamp (by omega)]; exact hkd) rfl ?_
    refine mg_iconst (v := 3) 64 rfl (by decide) rfl ?_
    refine mg_ic_ne 67 79 rfl rfl (by decide) (fun c_64 => ?_) (fun c_64 => ?_)
    · have hk3 : ¬ pv_kd P n = 3 := fun h => c_64 (by rw [h]; rfl)
      refine mg_aload_n 80 rfl rfl rfl ?_
      refine mg_getR 83 rfl rfl rfl rfl ?_
      refine mg_getR 86 rfl rfl rfl rfl ?_
      refine mg_iload 88 rfl rfl rfl ?_
      refine mg_iald (v := pv_s4 P (pv_beh P 6 (pv_oa P n))) 89 rfl rfl (vp_in_nI (by omega : (pv_beh P 6 (pv_oa P n)) < 60) (by omega)) (by rw [nI_clamp (by omega)]; exact ((hD.2.2.1 _ (by omega)).2.2.1.trans kb.2.2.2.2.2.2.2.2.symm)) rfl ?_
      refine mg_istore (L2 := [(0, _), (1, _), (2, _), (3, _), (4, _), (5, _), (6, _)]) 91 rfl (by decide) rfl rfl ?_
      refine mg_iload 93 rfl rfl rfl ?_
      refine mg_iconst (v := 1) 94 rfl (by decide) rfl ?_
      refine mg_aload_n 95 rfl rfl rfl ?_
      refine mg_getR 98 rfl rfl rfl rfl ?_
      refine mg_aload_n 99 rfl rfl rfl ?_
      refine mg_getI (v := nI s.1) 102 rfl rfl (Or.inl rfl) hR.1 rfl ?_
      refine mg_callV1 105 rfl (Nat.le_of_ble_eq_true rfl) pg_In_at rfl rfl ?_
      refine sp_inAt hP hD hS.1 (by omega) ?_
      show mm_Rn _ _ _ _ _ _ 105 [(0, _), (1, _), (2, _), (3, _), (4, _), (5, _), (6, _)] [_, _, _] _
      refine mg_ishl 106 rfl rfl rfl ?_
      refine mg_iand 107 rfl rfl rfl ?_
      refine mg_if_eq 110 114 rfl rfl (by decide) (fun c_107 => ?_) (fun c_107 => ?_)
      · refine mg_iconst (v := 0) 115 rfl (by decide) rfl ?_
        refine mg_iret rfl rfl ?_
        have hA : ¬ (true = false ∧ pv_kd P (pv_oa P n) = 7) := fun h => absurd h.1 (by decide)
        have hw : pv_wel P n = pv_s4 P (pv_beh P 6 (pv_oa P n)) := by unfold pv_wel; rw [if_neg hk3]
        have hB : ¬ ms_b (pv_wel P n) (pv_tk P s.1) = true := by
          rw [hw, (an_bit2 _ (by have := hP.2.2.2 s.1; omega)).mp c_107]; decide
        have er : pv_ch P V n c true s = (0, s) := by unfold pv_ch; rw [if_neg hA, if_neg hB]
        rw [er] at k
        exact k M (px_fr_rf M) hR rfl
      · refine mg_iconst (v := 1) 111 rfl (by decide) rfl ?_
        refine mg_goto 115 rfl (by decide) ?_
        refine mg_iret rfl rfl ?_
        have hA : ¬ (true = false ∧ pv_kd P (pv_oa P n) = 7) := fun h => absurd h.1 (by decide)
        have hw : pv_wel P n = pv_s4 P (pv_beh P 6 (pv_oa P n)) := by unfold pv_wel; rw [if_neg hk3]
        have hB : ms_b (pv_wel P n) (pv_tk P s.1) = true := by
          rw [hw]
          cases hb2 : ms_b (pv_s4 P (pv_beh P 6 (pv_oa P n))) (pv_tk P s.1) with
          | true => rfl
          | false => exact absurd ((an_bit2 _ (by have := hP.2.2.2 s.1; omega)).mpr hb2) c_107
        have er : pv_ch P V n c true s = (1, s) := by unfold pv_ch; rw [if_neg hA, if_pos hB]
        rw [er] at k
        exact k M (px_fr_rf M) hR rfl
    · have hk3 : pv_kd P n = 3 := (st_eq 3 3 rfl (by have := (hP.1 n hn).1; omega) (by omega)).mp c_64
      refine mg_aload_n 68 rfl rfl rfl ?_
      refine mg_getR 71 rfl rfl rfl rfl ?_
      refine mg_iload 73 rfl rfl rfl ?_
      refine mg_callV1 76 rfl (Nat.le_of_ble_eq_true rfl) pg_An_start rfl rfl ?_
      refine sp_start (by omega) hD.2.2.1 (by omega) ?_
      rw [← kb.2.2.2.2.2.2.2.1]
      show mm_Rn _ _ _ _ _ _ 76 [(0, _), (1, _), (2, _), (3, _), (4, _), (5, _)] [_] _
      refine mg_goto 89 rfl (by decide) ?_
      refine mg_istore (L2 := [(0, _), (1, _), (2, _), (3, _), (4, _), (5, _), (6, _)]) 91 rfl (by decide) rfl rfl ?_
      refine mg_iload 93 rfl rfl rfl ?_
      refine mg_iconst (v := 1) 94 rfl (by decide) rfl ?_
      refine mg_aload_n 95 rfl rfl rfl ?_
      refine mg_getR 98 rfl rfl rfl rfl ?_
      refine mg_aload_n 99 rfl rfl rfl ?_
      refine mg_getI (v := nI s.1) 102 rfl rfl (Or.inl rfl) hR.1 rfl ?_
      refine mg_callV1 105 rfl (Nat.le_of_ble_eq_true rfl) pg_In_at rfl rfl ?_
      refine sp_inAt hP hD hS.1 (by omega) ?_
      show mm_Rn _ _ _ _ _ _ 105 [(0, _), (1, _), (2, _), (3, _), (4, _), (5, _), (6, _)] [_, _, _] _
      refine mg_ishl 106 rfl rfl rfl ?_
      refine mg_iand 107 rfl rfl rfl ?_
      refine mg_if_eq 110 114 rfl rfl (by decide) (fun c_107 => ?_) (fun c_107 => ?_)
      · refine mg_iconst (v := 0) 115 rfl (by decide) rfl ?_
        refine mg_iret rfl rfl ?_
        have hA : ¬ (true = false ∧ pv_kd P (pv_oa P n) = 7) := fun h => absurd h.1 (by decide)
        have hw : pv_wel P n = pv_s3 P (pv_beh P 6 (pv_oa P n)) := by unfold pv_wel; rw [if_pos hk3]
        have hB : ¬ ms_b (pv_wel P n) (pv_tk P s.1) = true := by
          rw [hw, (an_bit2 _ (by have := hP.2.2.2 s.1; omega)).mp c_107]; decide
        have er : pv_ch P V n c true s = (0, s) := by unfold pv_ch; rw [if_neg hA, if_neg hB]
        rw [er] at k
        exact k M (px_fr_rf M) hR rfl
      · refine mg_iconst (v := 1) 111 rfl (by decide) rfl ?_
        refine mg_goto 115 rfl (by decide) ?_
        refine mg_iret rfl rfl ?_
        have hA : ¬ (true = false ∧ pv_kd P (pv_oa P n) = 7) := fun h => absurd h.1 (by decide)
        have hw : pv_wel P n = pv_s3 P (pv_beh P 6 (pv_oa P n)) := by unfold pv_wel; rw [if_pos hk3]
        have hB : ms_b (pv_wel P n) (pv_tk P s.1) = true := by
          rw [hw]
          cases hb2 : ms_b (pv_s3 P (pv_beh P 6 (pv_oa P n))) (pv_tk P s.1) with
          | true => rfl
          | false => exact absurd ((an_bit2 _ (by have := hP.2.2.2 s.1; omega)).mpr hb2) c_107
        have er : pv_ch P V n c true s = (1, s) := by unfold pv_ch; rw [if_neg hA, if_pos hB]
        rw [er] at k
        exact k M (px_fr_rf M) hR rfl
set_option maxHeartbeats 2000000 in
set_option maxRecDepth 20000 in
theorem sp_visitToken {d : Nat} {M : mm_M} {Q : mm_Qt} {P : pv_D} {lv : Nat → Nat} {u : Nat → Prop} {z : Nat} {em fi nx us : Nat → Int32} (hP : pv_val P lv u z) (hD : px_D M P u z em fi nx us) {s : pv_S} (hR : px_rep M s) (hS : pv_ok z s) {n : Nat} {sc : Bool} (h10 : pv_oa P n < 10) (hd : 3 ≤ d) (k : px_post Q M sc (pv_token P n sc s)) : mm_Ev pg ly d 55 [.inr 20, .inl (nI (pv_oa P n)), .inl (px_b sc)] M Q := by
  cases sc with
  | false =>
    show mm_Ev pg ly d 55 [.inr 20, .inl (nI (pv_oa P n)), .inl 0] M Q
    obtain ⟨d, rfl⟩ : ∃ e, d = e + 1 := ⟨d - 1, by omega⟩
    refine mg_body yy_Pa_visitToken pg_Pa_visitToken (Nat.le_of_ble_eq_true rfl) ?_
    show mm_Rn _ _ _ _ _ _ 0 [(0, _), (1, _), (2, _)] [] _
    refine mg_aload_n 1 rfl rfl rfl ?_
    refine mg_getR 4 rfl rfl rfl rfl ?_
    refine mg_aload_n 5 rfl rfl rfl ?_
    refine mg_getI (v := nI s.1) 8 rfl rfl (Or.inl rfl) hR.1 rfl ?_
    refine mg_callV1 11 rfl (Nat.le_of_ble_eq_true rfl) pg_In_at rfl rfl ?_
    refine sp_inAt hP hD hS.1 (by omega) ?_
    show mm_Rn _ _ _ _ _ _ 11 [(0, _), (1, _), (2, _)] [_] _
    refine mg_iload_n 12 rfl rfl rfl ?_
    refine mg_ic_eq 15 27 rfl rfl (by decide) (fun c_12 => ?_) (fun c_12 => ?_)
    · have he : pv_tk P s.1 = pv_oa P n := st_nIe (by have := hP.2.2.2 s.1; omega) (by omega) c_12
      refine mg_iload_n 28 rfl rfl rfl ?_
      refine mg_if_ne 31 56 rfl rfl (by decide) (fun c_28 => absurd c_28 (by decide)) (fun c_28 => ?_)
      refine mg_aload_n 32 rfl rfl rfl ?_
      refine mg_getR 35 rfl rfl rfl rfl ?_
      refine mg_callV0 38 rfl (Nat.le_of_ble_eq_true rfl) pg_Fo_isFull rfl rfl ?_
      refine sp_isFull hR hS (by omega) (fun h90 => ?_) (fun h90 => ?_)
      · show mm_Rn _ _ _ _ _ _ 38 [(0, _), (1, _), (2, _)] [_] _
        refine mg_if_eq 41 44 rfl rfl (by decide) (fun c_38 => absurd c_38 (by decide)) (fun c_38 => ?_)
        refine mg_bipush (v := (-9)) 43 rfl (by decide) rfl ?_
        refine mg_iret rfl rfl ?_
        have er : pv_token P n false s = (-9, 0, s) := by unfold pv_token; rw [if_pos he, if_neg (by decide), if_pos h90]
        rw [er] at k
        exact k M (px_fr_rf M) hR (by simp)
      · show mm_Rn _ _ _ _ _ _ 38 [(0, _), (1, _), (2, _)] [_] _
        refine mg_if_eq 41 44 rfl rfl (by decide) (fun c_38 => ?_) (fun c_38 => absurd c_38 (by decide))
        refine mg_aload_n 45 rfl rfl rfl ?_
        refine mg_getR 48 rfl rfl rfl rfl ?_
        refine mg_iload_n 49 rfl rfl rfl ?_
        refine mg_aload_n 50 rfl rfl rfl ?_
        refine mg_getI (v := nI s.1) 53 rfl rfl (Or.inl rfl) hR.1 rfl ?_
        refine mg_callV2 56 rfl (Nat.le_of_ble_eq_true rfl) pg_Fo_addLeaf rfl rfl ?_
        refine sp_addLeaf hR hS h90 (by omega) (fun M1 f1 r1 => ?_)
        show mm_Rn _ _ _ _ _ _ 56 [(0, _), (1, _), (2, _)] [] _
        refine mg_aload_n 57 rfl rfl rfl ?_
        refine mg_dup 58 rfl rfl ?_
        refine mg_getI (v := nI s.1) 61 rfl rfl (Or.inl rfl) r1.1 rfl ?_
        refine mg_iconst (v := 1) 62 rfl (by decide) rfl ?_
        refine mg_iadd (v := nI (s.1 + 1)) 63 rfl (nI_1 _) rfl ?_
        refine mg_putI 66 rfl rfl rfl rfl ?_
        refine mg_iconst (v := 0) 67 rfl (by decide) rfl ?_
        refine mg_iret rfl rfl ?_
        have er : pv_token P n false s = (0, 0, pv_adv (pv_add (nI (16 + pv_oa P n)) s)) := by unfold pv_token; rw [if_pos he, if_neg (by decide), if_neg (by omega)]
        rw [er] at k
        obtain ⟨q1, q2, q3, q4, q5⟩ := r1
        exact k _ (px_fr_tr (px_ff_fr f1) (px_fr_up (by decide))) ⟨by simp [mm_up, upd]; rfl, by simp [mm_up, upd]; exact q2, by rw [mm_up_ne 16 (by decide)]; exact q3, by rw [mm_up_ne 16 (by decide)]; exact q4, fun i hi => by rw [mm_up_ne 17 (by decide), mm_up_ne 18 (by decide), mm_up_ne 19 (by decide)]; exact q5 i hi⟩ (by simp [mm_up, upd]; rw [f1 20 (by decide) (by decide) (by decide) (by decide)])
    · refine mg_iload_n 16 rfl rfl rfl ?_
      refine mg_if_ne 19 24 rfl rfl (by decide) (fun c_16 => absurd c_16 (by decide)) (fun c_16 => ?_)
      refine mg_aload_n 20 rfl rfl rfl ?_
      refine mg_iload_n 21 rfl rfl rfl ?_
      refine mg_putI 24 rfl rfl rfl rfl ?_
      refine mg_bipush (v := (-6)) 26 rfl (by decide) rfl ?_
      refine mg_iret rfl rfl ?_
      have hne : ¬ pv_tk P s.1 = pv_oa P n := fun h => c_12 (by rw [h])
      have er : pv_token P n false s = (-6, nI (pv_oa P n), s) := by unfold pv_token; rw [if_neg hne]
      rw [er] at k
      obtain ⟨q1, q2, q3, q4, q5⟩ := hR
      exact k _ (px_fr_up (by decide)) ⟨by simp [mm_up, upd]; exact q1, by simp [mm_up, upd]; exact q2, by rw [mm_up_ne 16 (by decide)]; exact q3, by rw [mm_up_ne 16 (by decide)]; exact q4, fun i hi => by rw [mm_up_ne 17 (by decide), mm_up_ne 18 (by decide), mm_up_ne 19 (by decide)]; exact q5 i hi⟩ (by simp [mm_up, upd])
  | true =>
    show mm_Ev pg ly d 55 [.inr 20, .inl (nI (pv_oa P n)), .inl 1] M Q
    obtain ⟨d, rfl⟩ : ∃ e, d = e + 1 := ⟨d - 1, by omega⟩
    refine mg_body yy_Pa_visitToken pg_Pa_visitToken (Nat.le_of_ble_eq_true rfl) ?_
    show mm_Rn _ _ _ _ _ _ 0 [(0, _), (1, _), (2, _)] [] _
    refine mg_aload_n 1 rfl rfl rfl ?_
    refine mg_getR 4 rfl rfl rfl rfl ?_
    refine mg_aload_n 5 rfl rfl rfl ?_
    refine mg_getI (v := nI s.1) 8 rfl rfl (Or.inl rfl) hR.1 rfl ?_
    refine mg_callV1 11 rfl (Nat.le_of_ble_eq_true rfl) pg_In_at rfl rfl ?_
    refine sp_inAt hP hD hS.1 (by omega) ?_
    show mm_Rn _ _ _ _ _ _ 11 [(0, _), (1, _), (2, _)] [_] _
    refine mg_iload_n 12 rfl rfl rfl ?_
    refine mg_ic_eq 15 27 rfl rfl (by decide) (fun c_12 => ?_) (fun c_12 => ?_)
    · have he : pv_tk P s.1 = pv_oa P n := st_nIe (by have := hP.2.2.2 s.1; omega) (by omega) c_12
      refine mg_iload_n 28 rfl rfl rfl ?_
      refine mg_if_ne 31 56 rfl rfl (by decide) (fun c_28 => ?_) (fun c_28 => absurd c_28 (by decide))
      refine mg_aload_n 57 rfl rfl rfl ?_
      refine mg_dup 58 rfl rfl ?_
      refine mg_getI (v := nI s.1) 61 rfl rfl (Or.inl rfl) hR.1 rfl ?_
      refine mg_iconst (v := 1) 62 rfl (by decide) rfl ?_
      refine mg_iadd (v := nI (s.1 + 1)) 63 rfl (nI_1 _) rfl ?_
      refine mg_putI 66 rfl rfl rfl rfl ?_
      refine mg_iconst (v := 0) 67 rfl (by decide) rfl ?_
      refine mg_iret rfl rfl ?_
      have er : pv_token P n true s = (0, 0, pv_adv s) := by unfold pv_token; rw [if_pos he, if_pos rfl]
      rw [er] at k
      obtain ⟨q1, q2, q3, q4, q5⟩ := hR
      exact k _ (px_fr_up (by decide)) ⟨by simp [mm_up, upd]; rfl, by simp [mm_up, upd]; exact q2, by rw [mm_up_ne 16 (by decide)]; exact q3, by rw [mm_up_ne 16 (by decide)]; exact q4, fun i hi => by rw [mm_up_ne 17 (by decide), mm_up_ne 18 (by decide), mm_up_ne 19 (by decide)]; exact q5 i hi⟩ (by simp [mm_up, upd])
    · refine mg_iload_n 16 rfl rfl rfl ?_
      refine mg_if_ne 19 24 rfl rfl (by decide) (fun c_16 => ?_) (fun c_16 => absurd c_16 (by decide))
      refine mg_bipush (v := (-6)) 26 rfl (by decide) rfl ?_
      refine mg_iret rfl rfl ?_
      have hne : ¬ pv_tk P s.1 = pv_oa P n := fun h => c_12 (by rw [h])
      have er : pv_token P n true s = (-6, nI (pv_oa P n), s) := by unfold pv_token; rw [if_neg hne]
      rw [er] at k
      exact k M (px_fr_rf M) hR (by simp)
set_option maxHeartbeats 2000000 in
set_option maxRecDepth 20000 in
theorem sp_visitCall {d : Nat} {M : mm_M} {Q : mm_Qt} {P : pv_D} {lv : Nat → Nat} {u : Nat → Prop} {z : Nat} {em fi nx us : Nat → Int32} (hP : pv_val P lv u z) (hD : px_D M P u z em fi nx us) {V : pv_V} {N : Nat} (hV : px_VC P lv u z em fi nx us V N) (hKp : pv_keeps z u V) {s : pv_S} (hR : px_rep M s) (hS : pv_ok z s) {n c : Nat} (hn : u n) (hc : c ≤ 6) (hN : 1500 ≤ s.2.1 + N) {sc : Bool} {r : Nat} (hr : r < 8) (er : M 13 r = nI (pv_oc P n)) (hu : u (pv_oc P n)) (hlv : 1 ≤ lv n) (hlc : lv (pv_oc P n) ≤ 6) (hd : 4 * lv n + 24 * (6 - c) + 3 ≤ d) (k : px_post Q M sc (if 6 ≤ c then (-7, 0, s) else V (pv_oc P n) (c + 1) sc s)) : mm_Ev pg ly d 56 [.inr 20, .inl (nI r), .inl (nI c), .inl (px_b sc)] M Q := by
  obtain ⟨d, rfl⟩ : ∃ e, d = e + 1 := ⟨d - 1, by omega⟩
  refine mg_body yy_Pa_visitCall pg_Pa_visitCall (Nat.le_of_ble_eq_true rfl) ?_
  show mm_Rn _ _ _ _ _ _ 0 [(0, _), (1, _), (2, _), (3, _)] [] _
  refine mg_iload_n 1 rfl rfl rfl ?_
  refine mg_bipush (v := 6) 3 rfl (by decide) rfl ?_
  refine mg_ic_lt 6 9 rfl rfl (by decide) (fun c_3 => ?_) (fun c_3 => ?_)
  · have h6 : c < 6 := (st_lt 6 6 rfl (by omega) (by omega)).mp c_3
    refine mg_aload_n 10 rfl rfl rfl ?_
    refine mg_aload_n 11 rfl rfl rfl ?_
    refine mg_getR 14 rfl rfl rfl rfl ?_
    refine mg_getR 17 rfl rfl rfl rfl ?_
    refine mg_iload_n 18 rfl rfl rfl ?_
    refine mg_iald (v := nI (pv_oc P n)) 19 rfl rfl (vp_in_nI hr (by omega)) (by rw [nI_clamp (by omega)]; exact er) rfl ?_
    refine mg_iload_n 20 rfl rfl rfl ?_
    refine mg_iconst (v := 1) 21 rfl (by decide) rfl ?_
    refine mg_iadd (v := nI (c + 1)) 22 rfl (nI_1 c) rfl ?_
    refine mg_iload_n 23 rfl rfl rfl ?_
    refine mg_callV3 26 rfl (Nat.le_of_ble_eq_true rfl) pg_Pa_visit rfl rfl ?_
    refine hV _ _ _ sc _ s _ hD hR hS hu (by omega) hN (by omega) (fun M1 f1 r1 e1 => ?_)
    show mm_Rn _ _ _ _ _ _ 26 [(0, _), (1, _), (2, _), (3, _)] [_] _
    refine mg_iret rfl rfl ?_
    rw [if_neg (by omega)] at k
    exact k M1 f1 r1 e1
  · refine mg_bipush (v := (-7)) 8 rfl (by decide) rfl ?_
    refine mg_iret rfl rfl ?_
    rw [if_pos (st_nlt 6 c_3 rfl (by omega) (by omega))] at k
    exact k M (px_fr_rf M) hR (by simp)
set_option maxHeartbeats 2000000 in
set_option maxRecDepth 20000 in
theorem sp_visitThen {d : Nat} {M : mm_M} {Q : mm_Qt} {P : pv_D} {lv : Nat → Nat} {u : Nat → Prop} {z : Nat} {em fi nx us : Nat → Int32} (hP : pv_val P lv u z) (hD : px_D M P u z em fi nx us) {V : pv_V} {N : Nat} (hV : px_VC P lv u z em fi nx us V N) (hKp : pv_keeps z u V) {s : pv_S} (hR : px_rep M s) (hS : pv_ok z s) {n c : Nat} (hn : u n) (hc : c ≤ 6) (hN : 1500 ≤ s.2.1 + N) {sc : Bool} (hk : pv_kd P n = 2) (hd : 4 * lv n + 24 * (6 - c) + 3 ≤ d) (k : px_post Q M sc (pv_then P V n c sc s)) : mm_Ev pg ly d 57 [.inr 20, .inl (nI n), .inl (nI c), .inl (px_b sc)] M Q := by
  obtain ⟨h60, hkd, ha, hb, h0, h1, h8, -⟩ := hD.2.2.2 n hn
  obtain ⟨-, hlv, -, hua, hub, huc, -⟩ := hP.1 n hn
  have hua' := hua (by rw [hk]; rfl)
  have hub' := hub (by rw [hk]; rfl)
  obtain ⟨d, rfl⟩ : ∃ e, d = e + 1 := ⟨d - 1, by omega⟩
  refine mg_body yy_Pa_visitThen pg_Pa_visitThen (Nat.le_of_ble_eq_true rfl) ?_
  show mm_Rn _ _ _ _ _ _ 0 [(0, _), (1, _), (2, _), (3, _)] [] _
  refine mg_aload_n 1 rfl rfl rfl ?_
  refine mg_aload_n 2 rfl rfl rfl ?_
  refine mg_getR 5 rfl rfl rfl rfl ?_
  refine mg_getR 8 rfl rfl rfl rfl ?_
  refine mg_iload_n 9 rfl rfl rfl ?_
  refine mg_iald (v := nI (pv_oa P n)) 10 rfl rfl (vp_in_nI (by omega : n < 60) (by omega)) (by rw [nI_clamp (by omega)]; exact (ha (by rw [hk]; rfl))) rfl ?_
  refine mg_iload_n 11 rfl rfl rfl ?_
  refine mg_iload_n 12 rfl rfl rfl ?_
  refine mg_callV3 15 rfl (Nat.le_of_ble_eq_true rfl) pg_Pa_visit rfl rfl ?_
  refine hV _ _ _ sc _ s _ hD hR hS hua'.1 hc hN (by omega) (fun M1 f1 r1 e1 => ?_)
  show mm_Rn _ _ _ _ _ _ 15 [(0, _), (1, _), (2, _), (3, _)] [_] _
  refine mg_istore (L2 := [(0, _), (1, _), (2, _), (3, _), (4, _)]) 17 rfl (by decide) rfl rfl ?_
  refine mg_iload 19 rfl rfl rfl ?_
  refine mg_if_ne 22 40 rfl rfl (by decide) (fun c_19 => ?_) (fun c_19 => ?_)
  · refine mg_iload 42 rfl rfl rfl ?_
    refine mg_iret rfl rfl ?_
    have er : pv_then P V n c sc s = V (pv_oa P n) c sc s := if_neg c_19
    rw [er] at k
    exact k M1 f1 r1 e1
  · have hk1 := hKp (pv_oa P n) c sc s hua'.1 hS
    have e1' : M1 20 5 = M 20 5 := by rw [e1, if_neg (fun h => absurd (c_19.symm.trans h.1) (by decide))]
    refine mg_aload_n 23 rfl rfl rfl ?_
    refine mg_aload_n 24 rfl rfl rfl ?_
    refine mg_getR 27 rfl rfl rfl rfl ?_
    refine mg_getR 30 rfl rfl rfl rfl ?_
    refine mg_iload_n 31 rfl rfl rfl ?_
    refine mg_iald (v := nI (pv_ob P n)) 32 rfl rfl (vp_in_nI (by omega : n < 60) (by omega)) (by rw [nI_clamp (by omega), f1 4 (by omega)]; exact hb (by rw [hk]; rfl)) rfl ?_
    refine mg_iload_n 33 rfl rfl rfl ?_
    refine mg_iload_n 34 rfl rfl rfl ?_
    refine mg_callV3 37 rfl (Nat.le_of_ble_eq_true rfl) pg_Pa_visit rfl rfl ?_
    refine hV _ _ _ sc _ (V (pv_oa P n) c sc s).2.2 _ (px_D_fr f1 hD) r1 hk1.1 hub'.1 hc (by have := hk1.2.1; omega) (by omega) (fun M2 f2 r2 e2 => ?_)
    show mm_Rn _ _ _ _ _ _ 37 [(0, _), (1, _), (2, _), (3, _), (4, _)] [_] _
    refine mg_goto 42 rfl (by decide) ?_
    refine mg_iret rfl rfl ?_
    have er : pv_then P V n c sc s = V (pv_ob P n) c sc (V (pv_oa P n) c sc s).2.2 := if_pos c_19
    rw [er] at k
    exact k M2 (px_fr_tr f1 f2) r2 (by rw [e2, e1'])
set_option maxHeartbeats 2000000 in
set_option maxRecDepth 20000 in
theorem sp_visitOr {d : Nat} {M : mm_M} {Q : mm_Qt} {P : pv_D} {lv : Nat → Nat} {u : Nat → Prop} {z : Nat} {em fi nx us : Nat → Int32} (hP : pv_val P lv u z) (hD : px_D M P u z em fi nx us) {V : pv_V} {N : Nat} (hV : px_VC P lv u z em fi nx us V N) (hKp : pv_keeps z u V) {s : pv_S} (hR : px_rep M s) (hS : pv_ok z s) {n c : Nat} (hn : u n) (hc : c ≤ 6) (hN : 1500 ≤ s.2.1 + N) {sc : Bool} (hk : pv_kd P n = 3) (hd : 4 * lv n + 24 * (6 - c) + 3 ≤ d) (k : px_post Q M sc (pv_or P V n c sc s)) : mm_Ev pg ly d 58 [.inr 20, .inl (nI n), .inl (nI c), .inl (px_b sc)] M Q := by
  obtain ⟨h60, hkd, ha, hb, h0, h1, h8, -⟩ := hD.2.2.2 n hn
  obtain ⟨-, hlv, -, hua, hub, huc, -⟩ := hP.1 n hn
  have hua' := hua (by rw [hk]; rfl)
  have hub' := hub (by rw [hk]; rfl)
  have hk1 := pv_ch_kp (c := c) (sc := sc) hP hKp hn (by rw [hk]; rfl) hS
  obtain ⟨d, rfl⟩ : ∃ e, d = e + 1 := ⟨d - 1, by omega⟩
  refine mg_body yy_Pa_visitOr pg_Pa_visitOr (Nat.le_of_ble_eq_true rfl) ?_
  show mm_Rn _ _ _ _ _ _ 0 [(0, _), (1, _), (2, _), (3, _)] [] _
  refine mg_aload_n 1 rfl rfl rfl ?_
  refine mg_iload_n 2 rfl rfl rfl ?_
  refine mg_iload_n 3 rfl rfl rfl ?_
  refine mg_iload_n 4 rfl rfl rfl ?_
  refine mg_callV3 7 rfl (Nat.le_of_ble_eq_true rfl) pg_Pa_choose rfl rfl ?_
  refine sp_choose hP hD hV hKp hR hS hn hc hN (by rw [hk]; rfl) (by omega) (fun M1 f1 r1 e1 => ?_)
  show mm_Rn _ _ _ _ _ _ 7 [(0, _), (1, _), (2, _), (3, _)] [_] _
  refine mg_istore (L2 := [(0, _), (1, _), (2, _), (3, _), (4, _)]) 9 rfl (by decide) rfl rfl ?_
  refine mg_iload 11 rfl rfl rfl ?_
  refine mg_bipush (v := (-8)) 13 rfl (by decide) rfl ?_
  refine mg_ic_ne 16 19 rfl rfl (by decide) (fun c_13 => ?_) (fun c_13 => ?_)
  · refine mg_iload 21 rfl rfl rfl ?_
    refine mg_iconst (v := 1) 22 rfl (by decide) rfl ?_
    refine mg_ic_ne 25 37 rfl rfl (by decide) (fun c_22 => ?_) (fun c_22 => ?_)
    · refine mg_aload_n 38 rfl rfl rfl ?_
      refine mg_getR 41 rfl rfl rfl rfl ?_
      refine mg_getR 44 rfl rfl rfl rfl ?_
      refine mg_iload_n 45 rfl rfl rfl ?_
      refine mg_iald (v := nI (pv_ob P n)) 46 rfl rfl (vp_in_nI (by omega : n < 60) (by omega)) (by rw [nI_clamp (by omega), f1 4 (by omega)]; exact hb (by rw [hk]; rfl)) rfl ?_
      refine mg_istore (L2 := [(0, _), (1, _), (2, _), (3, _), (4, _), (5, _)]) 48 rfl (by decide) rfl rfl ?_
      refine mg_aload_n 49 rfl rfl rfl ?_
      refine mg_iload 51 rfl rfl rfl ?_
      refine mg_iload_n 52 rfl rfl rfl ?_
      refine mg_iload_n 53 rfl rfl rfl ?_
      refine mg_callV3 56 rfl (Nat.le_of_ble_eq_true rfl) pg_Pa_visit rfl rfl ?_
      refine hV _ _ _ sc _ (pv_ch P V n c sc s).2 _ (px_D_fr f1 hD) r1 hk1.1 hub'.1 hc (by have := hk1.2.1; omega) (by omega) (fun M2 f2 r2 e2 => ?_)
      show mm_Rn _ _ _ _ _ _ 56 [(0, _), (1, _), (2, _), (3, _), (4, _), (5, _)] [_] _
      refine mg_iret rfl rfl ?_
      have er : pv_or P V n c sc s = V (pv_ob P n) c sc (pv_ch P V n c sc s).2 := by unfold pv_or; rw [if_neg c_13, if_neg c_22]
      rw [er] at k
      exact k M2 (px_fr_tr f1 f2) r2 (by rw [e2, e1])
    · refine mg_aload_n 26 rfl rfl rfl ?_
      refine mg_getR 29 rfl rfl rfl rfl ?_
      refine mg_getR 32 rfl rfl rfl rfl ?_
      refine mg_iload_n 33 rfl rfl rfl ?_
      refine mg_iald (v := nI (pv_oa P n)) 34 rfl rfl (vp_in_nI (by omega : n < 60) (by omega)) (by rw [nI_clamp (by omega), f1 3 (by omega)]; exact ha (by rw [hk]; rfl)) rfl ?_
      refine mg_goto 46 rfl (by decide) ?_
      refine mg_istore (L2 := [(0, _), (1, _), (2, _), (3, _), (4, _), (5, _)]) 48 rfl (by decide) rfl rfl ?_
      refine mg_aload_n 49 rfl rfl rfl ?_
      refine mg_iload 51 rfl rfl rfl ?_
      refine mg_iload_n 52 rfl rfl rfl ?_
      refine mg_iload_n 53 rfl rfl rfl ?_
      refine mg_callV3 56 rfl (Nat.le_of_ble_eq_true rfl) pg_Pa_visit rfl rfl ?_
      refine hV _ _ _ sc _ (pv_ch P V n c sc s).2 _ (px_D_fr f1 hD) r1 hk1.1 hua'.1 hc (by have := hk1.2.1; omega) (by omega) (fun M2 f2 r2 e2 => ?_)
      show mm_Rn _ _ _ _ _ _ 56 [(0, _), (1, _), (2, _), (3, _), (4, _), (5, _)] [_] _
      refine mg_iret rfl rfl ?_
      have er : pv_or P V n c sc s = V (pv_oa P n) c sc (pv_ch P V n c sc s).2 := by unfold pv_or; rw [if_neg c_13, if_pos c_22]
      rw [er] at k
      exact k M2 (px_fr_tr f1 f2) r2 (by rw [e2, e1])
  · refine mg_bipush (v := (-8)) 18 rfl (by decide) rfl ?_
    refine mg_iret rfl rfl ?_
    have er : pv_or P V n c sc s = (-8, 0, (pv_ch P V n c sc s).2) := if_pos c_13
    rw [er] at k
    exact k M1 f1 r1 (by rw [e1]; simp)
set_option maxHeartbeats 2000000 in
set_option maxRecDepth 20000 in
theorem sp_visitMaybe {d : Nat} {M : mm_M} {Q : mm_Qt} {P : pv_D} {lv : Nat → Nat} {u : Nat → Prop} {z : Nat} {em fi nx us : Nat → Int32} (hP : pv_val P lv u z) (hD : px_D M P u z em fi nx us) {V : pv_V} {N : Nat} (hV : px_VC P lv u z em fi nx us V N) (hKp : pv_keeps z u V) {s : pv_S} (hR : px_rep M s) (hS : pv_ok z s) {n c : Nat} (hn : u n) (hc : c ≤ 6) (hN : 1500 ≤ s.2.1 + N) {sc : Bool} (hk : pv_kd P n = 4) (hd : 4 * lv n + 24 * (6 - c) + 3 ≤ d) (k : px_post Q M sc (pv_maybe P V n c sc s)) : mm_Ev pg ly d 59 [.inr 20, .inl (nI n), .inl (nI c), .inl (px_b sc)] M Q := by
  obtain ⟨h60, hkd, ha, hb, h0, h1, h8, -⟩ := hD.2.2.2 n hn
  obtain ⟨-, hlv, -, hua, hub, huc, -⟩ := hP.1 n hn
  have hua' := hua (by rw [hk]; rfl)
  have hk1 := pv_ch_kp (c := c) (sc := sc) hP hKp hn (by rw [hk]; rfl) hS
  obtain ⟨d, rfl⟩ : ∃ e, d = e + 1 := ⟨d - 1, by omega⟩
  refine mg_body yy_Pa_visitMaybe pg_Pa_visitMaybe (Nat.le_of_ble_eq_true rfl) ?_
  show mm_Rn _ _ _ _ _ _ 0 [(0, _), (1, _), (2, _), (3, _)] [] _
  refine mg_aload_n 1 rfl rfl rfl ?_
  refine mg_iload_n 2 rfl rfl rfl ?_
  refine mg_iload_n 3 rfl rfl rfl ?_
  refine mg_iload_n 4 rfl rfl rfl ?_
  refine mg_callV3 7 rfl (Nat.le_of_ble_eq_true rfl) pg_Pa_choose rfl rfl ?_
  refine sp_choose hP hD hV hKp hR hS hn hc hN (by rw [hk]; rfl) (by omega) (fun M1 f1 r1 e1 => ?_)
  show mm_Rn _ _ _ _ _ _ 7 [(0, _), (1, _), (2, _), (3, _)] [_] _
  refine mg_istore (L2 := [(0, _), (1, _), (2, _), (3, _), (4, _)]) 9 rfl (by decide) rfl rfl ?_
  refine mg_iload 11 rfl rfl rfl ?_
  refine mg_bipush (v := (-8)) 13 rfl (by decide) rfl ?_
  refine mg_ic_ne 16 19 rfl rfl (by decide) (fun c_13 => ?_) (fun c_13 => ?_)
  · refine mg_iload 21 rfl rfl rfl ?_
    refine mg_iconst (v := 1) 22 rfl (by decide) rfl ?_
    refine mg_ic_ne 25 43 rfl rfl (by decide) (fun c_22 => ?_) (fun c_22 => ?_)
    · refine mg_iconst (v := 0) 44 rfl (by decide) rfl ?_
      refine mg_iret rfl rfl ?_
      have er : pv_maybe P V n c sc s = (0, 0, (pv_ch P V n c sc s).2) := by unfold pv_maybe; rw [if_neg c_13, if_neg c_22]
      rw [er] at k
      exact k M1 f1 r1 (by rw [e1]; simp)
    · refine mg_aload_n 26 rfl rfl rfl ?_
      refine mg_aload_n 27 rfl rfl rfl ?_
      refine mg_getR 30 rfl rfl rfl rfl ?_
      refine mg_getR 33 rfl rfl rfl rfl ?_
      refine mg_iload_n 34 rfl rfl rfl ?_
      refine mg_iald (v := nI (pv_oa P n)) 35 rfl rfl (vp_in_nI (by omega : n < 60) (by omega)) (by rw [nI_clamp (by omega), f1 3 (by omega)]; exact ha (by rw [hk]; rfl)) rfl ?_
      refine mg_iload_n 36 rfl rfl rfl ?_
      refine mg_iload_n 37 rfl rfl rfl ?_
      refine mg_callV3 40 rfl (Nat.le_of_ble_eq_true rfl) pg_Pa_visit rfl rfl ?_
      refine hV _ _ _ sc _ (pv_ch P V n c sc s).2 _ (px_D_fr f1 hD) r1 hk1.1 hua'.1 hc (by have := hk1.2.1; omega) (by omega) (fun M2 f2 r2 e2 => ?_)
      show mm_Rn _ _ _ _ _ _ 40 [(0, _), (1, _), (2, _), (3, _), (4, _)] [_] _
      refine mg_goto 44 rfl (by decide) ?_
      refine mg_iret rfl rfl ?_
      have er : pv_maybe P V n c sc s = V (pv_oa P n) c sc (pv_ch P V n c sc s).2 := by unfold pv_maybe; rw [if_neg c_13, if_pos c_22]
      rw [er] at k
      exact k M2 (px_fr_tr f1 f2) r2 (by rw [e2, e1])
  · refine mg_bipush (v := (-8)) 18 rfl (by decide) rfl ?_
    refine mg_iret rfl rfl ?_
    have er : pv_maybe P V n c sc s = (-8, 0, (pv_ch P V n c sc s).2) := if_pos c_13
    rw [er] at k
    exact k M1 f1 r1 (by rw [e1]; simp)
set_option maxHeartbeats 2000000 in
set_option maxRecDepth 20000 in
theorem lp_many {d : Nat} {Q : mm_Qt} {P : pv_D} {lv : Nat → Nat} {u : Nat → Prop} {z : Nat} {em fi nx us : Nat → Int32} (hP : pv_val P lv u z) {V : pv_V} {N : Nat} (hV : px_VC P lv u z em fi nx us V N) (hKp : pv_keeps z u V) {n c : Nat} {sc : Bool} (hn : u n) (hc : c ≤ 6) (hk : pv_kd P n = 5) (hd : 4 * lv n + 24 * (6 - c) + 2 ≤ d) :
    ∀ (R : Nat) (x : Int32) (M : mm_M) (s : pv_S), R ≤ 1501 → x = nI (1501 - R) → px_D M P u z em fi nx us → px_rep M s → pv_ok z s → 1500 ≤ s.2.1 + N → px_post Q M sc (pv_many P V n c sc R s) → mm_Rn pg ly d (mm_Ev pg ly d) yy_Pa_visitMany Q 3 [(0, .inr 20), (1, .inl (nI n)), (2, .inl (nI c)), (3, .inl (px_b sc)), (4, .inl x)] [] M := by
  intro R
  induction R with
  | zero =>
    intro x M s hRR ex hD hR hS hN k
    subst ex
    refine mg_iload 5 rfl rfl rfl ?_
    refine mg_sipush (v := 1500) 8 rfl (by decide) rfl ?_
    refine mg_ic_gt 11 68 rfl rfl (by decide) (fun c_8 => ?_) (fun c_8 => absurd c_8 (fun h => h (nI_lt (a := 1500) (b := 1501) (by omega) (by omega))))
    refine mg_bipush (v := (-8)) 70 rfl (by decide) rfl ?_
    refine mg_iret rfl rfl ?_
    exact k M (px_fr_rf M) hR (by simp [pv_many])
  | succ R ih =>
    intro x M s hRR ex hD hR hS hN k
    subst ex
    obtain ⟨h60, hkd, ha, hb, h0, h1, h8, -⟩ := hD.2.2.2 n hn
    obtain ⟨-, hlv, -, hua, hub, huc, -⟩ := hP.1 n hn
    have hua' := hua (by rw [hk]; rfl)
    have hk1 := pv_ch_kp (c := c) (sc := sc) hP hKp hn (by rw [hk]; rfl) hS
    refine mg_iload 5 rfl rfl rfl ?_
    refine mg_sipush (v := 1500) 8 rfl (by decide) rfl ?_
    refine mg_ic_gt 11 68 rfl rfl (by decide) (fun c_8 => absurd c_8 (nI_nlt (b := 1501 - (R + 1)) (a := 1500) (by omega) (by omega))) (fun c_8 => ?_)
    refine mg_aload_n 12 rfl rfl rfl ?_
    refine mg_iload_n 13 rfl rfl rfl ?_
    refine mg_iload_n 14 rfl rfl rfl ?_
    refine mg_iload_n 15 rfl rfl rfl ?_
    refine mg_callV3 18 rfl (Nat.le_of_ble_eq_true rfl) pg_Pa_choose rfl rfl ?_
    refine sp_choose hP hD hV hKp hR hS hn hc hN (by rw [hk]; rfl) (by omega) (fun M1 f1 r1 e1 => ?_)
    show mm_Rn _ _ _ _ _ _ 18 [(0, _), (1, _), (2, _), (3, _), (4, _)] [_] _
    refine mg_istore (L2 := [(0, _), (1, _), (2, _), (3, _), (4, _), (5, _)]) 20 rfl (by decide) rfl rfl ?_
    refine mg_iload 22 rfl rfl rfl ?_
    refine mg_bipush (v := (-8)) 24 rfl (by decide) rfl ?_
    refine mg_ic_ne 27 30 rfl rfl (by decide) (fun c_24 => ?_) (fun c_24 => ?_)
    · refine mg_iload 32 rfl rfl rfl ?_
      refine mg_if_ne 35 37 rfl rfl (by decide) (fun c_32 => ?_) (fun c_32 => ?_)
      · refine mg_aload_n 38 rfl rfl rfl ?_
        refine mg_aload_n 39 rfl rfl rfl ?_
        refine mg_getR 42 rfl rfl rfl rfl ?_
        refine mg_getR 45 rfl rfl rfl rfl ?_
        refine mg_iload_n 46 rfl rfl rfl ?_
        refine mg_iald (v := nI (pv_oa P n)) 47 rfl rfl (vp_in_nI (by omega : n < 60) (by omega)) (by rw [nI_clamp (by omega), f1 3 (by omega)]; exact ha (by rw [hk]; rfl)) rfl ?_
        refine mg_iload_n 48 rfl rfl rfl ?_
        refine mg_iload_n 49 rfl rfl rfl ?_
        refine mg_callV3 52 rfl (Nat.le_of_ble_eq_true rfl) pg_Pa_visit rfl rfl ?_
        refine hV _ _ _ sc _ (pv_ch P V n c sc s).2 _ (px_D_fr f1 hD) r1 hk1.1 hua'.1 hc (by have := hk1.2.1; omega) (by omega) (fun M2 f2 r2 e2 => ?_)
        show mm_Rn _ _ _ _ _ _ 52 [(0, _), (1, _), (2, _), (3, _), (4, _), (5, _)] [_] _
        refine mg_istore (L2 := [(0, _), (1, _), (2, _), (3, _), (4, _), (5, _), (6, _)]) 54 rfl (by decide) rfl rfl ?_
        refine mg_iload 56 rfl rfl rfl ?_
        refine mg_if_eq 59 62 rfl rfl (by decide) (fun c_56 => ?_) (fun c_56 => ?_)
        · refine mg_iinc (v := _ + 1) (L2 := [(0, _), (1, _), (2, _), (3, _), (4, _), (5, _), (6, _)]) 65 rfl rfl (by decide) rfl rfl rfl ?_
          refine mg_goto 3 rfl (by decide) ?_
          have er : pv_many P V n c sc (R + 1) s = pv_many P V n c sc R (V (pv_oa P n) c sc (pv_ch P V n c sc s).2).2.2 := by simp only [pv_many]; rw [if_neg c_24, if_neg c_32, if_pos c_56]
          rw [er] at k
          have hk2 := hKp (pv_oa P n) c sc _ hua'.1 hk1.1
          have e2' : M2 20 5 = M 20 5 := by rw [e2, if_neg (fun h => absurd (c_56.symm.trans h.1) (by decide)), e1]
          exact mg_loc [(0, _), (1, _), (2, _), (3, _), (4, _)] ⟨rfl, rfl, rfl, rfl, rfl, trivial⟩ (ih _ M2 _ (by omega) (by rw [nI_1]; congr 1; omega) (px_D_fr (px_fr_tr f1 f2) hD) r2 hk2.1 (by have := hk1.2.1; have := hk2.2.1; omega) (fun M' f3 r3 e3 => k M' (px_fr_tr (px_fr_tr f1 f2) f3) r3 (by rw [e3, e2'])))
        · refine mg_iload 61 rfl rfl rfl ?_
          refine mg_iret rfl rfl ?_
          have er : pv_many P V n c sc (R + 1) s = V (pv_oa P n) c sc (pv_ch P V n c sc s).2 := by simp only [pv_many]; rw [if_neg c_24, if_neg c_32, if_neg c_56]
          rw [er] at k
          exact k M2 (px_fr_tr f1 f2) r2 (by rw [e2, e1])
      · refine mg_iconst (v := 0) 36 rfl (by decide) rfl ?_
        refine mg_iret rfl rfl ?_
        have er : pv_many P V n c sc (R + 1) s = (0, 0, (pv_ch P V n c sc s).2) := by simp only [pv_many]; rw [if_neg c_24, if_pos c_32]
        rw [er] at k
        exact k M1 f1 r1 (by rw [e1]; simp)
    · refine mg_bipush (v := (-8)) 29 rfl (by decide) rfl ?_
      refine mg_iret rfl rfl ?_
      have er : pv_many P V n c sc (R + 1) s = (-8, 0, (pv_ch P V n c sc s).2) := if_pos c_24
      rw [er] at k
      exact k M1 f1 r1 (by rw [e1]; simp)
set_option maxHeartbeats 2000000 in
set_option maxRecDepth 20000 in
theorem sp_visitMany {d : Nat} {M : mm_M} {Q : mm_Qt} {P : pv_D} {lv : Nat → Nat} {u : Nat → Prop} {z : Nat} {em fi nx us : Nat → Int32} (hP : pv_val P lv u z) (hD : px_D M P u z em fi nx us) {V : pv_V} {N : Nat} (hV : px_VC P lv u z em fi nx us V N) (hKp : pv_keeps z u V) {s : pv_S} (hR : px_rep M s) (hS : pv_ok z s) {n c : Nat} (hn : u n) (hc : c ≤ 6) (hN : 1500 ≤ s.2.1 + N) {sc : Bool} (hk : pv_kd P n = 5) (hd : 4 * lv n + 24 * (6 - c) + 3 ≤ d) (k : px_post Q M sc (pv_many P V n c sc 1501 s)) : mm_Ev pg ly d 60 [.inr 20, .inl (nI n), .inl (nI c), .inl (px_b sc)] M Q := by
  obtain ⟨d, rfl⟩ : ∃ e, d = e + 1 := ⟨d - 1, by omega⟩
  refine mg_body yy_Pa_visitMany pg_Pa_visitMany (Nat.le_of_ble_eq_true rfl) ?_
  show mm_Rn _ _ _ _ _ _ 0 [(0, _), (1, _), (2, _), (3, _)] [] _
  refine mg_iconst (v := 0) 1 rfl (by decide) rfl ?_
  refine mg_istore (L2 := [(0, _), (1, _), (2, _), (3, _), (4, _)]) 3 rfl (by decide) rfl rfl ?_
  exact lp_many hP hV hKp hn hc hk (by omega) 1501 0 M s (by omega) rfl hD hR hS hN k
set_option maxHeartbeats 2000000 in
set_option maxRecDepth 20000 in
theorem sp_visitNamed {d : Nat} {M : mm_M} {Q : mm_Qt} {P : pv_D} {lv : Nat → Nat} {u : Nat → Prop} {z : Nat} {em fi nx us : Nat → Int32} (hP : pv_val P lv u z) (hD : px_D M P u z em fi nx us) {V : pv_V} {N : Nat} (hV : px_VC P lv u z em fi nx us V N) (hKp : pv_keeps z u V) {s : pv_S} (hR : px_rep M s) (hS : pv_ok z s) {n c : Nat} (hn : u n) (hc : c ≤ 6) (hN : 1500 ≤ s.2.1 + N) {sc : Bool} (hk : pv_kd P n = 8) (hd : 4 * lv n + 24 * (6 - c) + 3 ≤ d) (k : px_post Q M sc (pv_named P V n c sc s)) : mm_Ev pg ly d 61 [.inr 20, .inl (nI n), .inl (nI c), .inl (px_b sc)] M Q := by
  obtain ⟨h60, hkd, ha, hb, h0, h1, h8, -⟩ := hD.2.2.2 n hn
  obtain ⟨-, hlv, -, hua, hub, huc, -⟩ := hP.1 n hn
  have hub' := hub (by rw [hk]; rfl)
  cases sc with
  | false =>
    show mm_Ev pg ly d 61 [.inr 20, .inl (nI n), .inl (nI c), .inl 0] M Q
    obtain ⟨d, rfl⟩ : ∃ e, d = e + 1 := ⟨d - 1, by omega⟩
    refine mg_body yy_Pa_visitNamed pg_Pa_visitNamed (Nat.le_of_ble_eq_true rfl) ?_
    show mm_Rn _ _ _ _ _ _ 0 [(0, _), (1, _), (2, _), (3, _)] [] _
    refine mg_aload_n 1 rfl rfl rfl ?_
    refine mg_getR 4 rfl rfl rfl rfl ?_
    refine mg_getR 7 rfl rfl rfl rfl ?_
    refine mg_iload_n 8 rfl rfl rfl ?_
    refine mg_iald (v := nI (pv_ob P n)) 9 rfl rfl (vp_in_nI (by omega : n < 60) (by omega)) (by rw [nI_clamp (by omega)]; exact (hb (by rw [hk]; rfl))) rfl ?_
    refine mg_istore (L2 := [(0, _), (1, _), (2, _), (3, _), (4, _)]) 11 rfl (by decide) rfl rfl ?_
    refine mg_iload_n 12 rfl rfl rfl ?_
    refine mg_if_eq 15 24 rfl rfl (by decide) (fun c_12 => ?_) (fun c_12 => absurd c_12 (by decide))
    refine mg_aload_n 25 rfl rfl rfl ?_
    refine mg_getR 28 rfl rfl rfl rfl ?_
    refine mg_callV0 31 rfl (Nat.le_of_ble_eq_true rfl) pg_Fo_isFull rfl rfl ?_
    refine sp_isFull hR hS (by omega) (fun h90 => ?_) (fun h90 => ?_)
    · show mm_Rn _ _ _ _ _ _ 31 [(0, _), (1, _), (2, _), (3, _), (4, _)] [_] _
      refine mg_if_eq 34 37 rfl rfl (by decide) (fun c_31 => absurd c_31 (by decide)) (fun c_31 => ?_)
      refine mg_bipush (v := (-9)) 36 rfl (by decide) rfl ?_
      refine mg_iret rfl rfl ?_
      have er : pv_named P V n c false s = (-9, 0, s) := by unfold pv_named; rw [if_neg (by decide), if_pos h90]
      rw [er] at k
      exact k M (px_fr_rf M) hR (by simp)
    · show mm_Rn _ _ _ _ _ _ 31 [(0, _), (1, _), (2, _), (3, _), (4, _)] [_] _
      refine mg_if_eq 34 37 rfl rfl (by decide) (fun c_31 => ?_) (fun c_31 => absurd c_31 (by decide))
      refine mg_aload_n 38 rfl rfl rfl ?_
      refine mg_getR 41 rfl rfl rfl rfl ?_
      refine mg_aload_n 42 rfl rfl rfl ?_
      refine mg_getR 45 rfl rfl rfl rfl ?_
      refine mg_getR 48 rfl rfl rfl rfl ?_
      refine mg_iload_n 49 rfl rfl rfl ?_
      refine mg_iald (v := pv_la P n) 50 rfl rfl (vp_in_nI (by omega : n < 60) (by omega)) (by rw [nI_clamp (by omega)]; exact (h8 hk)) rfl ?_
      refine mg_aload_n 51 rfl rfl rfl ?_
      refine mg_getI (v := nI s.1) 54 rfl rfl (Or.inl rfl) hR.1 rfl ?_
      refine mg_callV2 57 rfl (Nat.le_of_ble_eq_true rfl) pg_Fo_openTree rfl rfl ?_
      refine sp_openTree hR hS h90 (by omega) (fun M1 f1 r1 => ?_)
      show mm_Rn _ _ _ _ _ _ 57 [(0, _), (1, _), (2, _), (3, _), (4, _)] [_] _
      refine mg_istore (L2 := [(0, _), (1, _), (2, _), (3, _), (4, _), (5, _)]) 59 rfl (by decide) rfl rfl ?_
      have ho : pv_ok z (pv_opened P n s) := by
        obtain ⟨g1, g2, g3, -⟩ := pv_ok_add (L := pv_la P n) hS (by omega)
        exact ⟨g1, g2, g3, Or.inr ⟨s.2.2.1, Nat.lt_succ_self _, rfl⟩⟩
      refine mg_aload_n 60 rfl rfl rfl ?_
      refine mg_iload 62 rfl rfl rfl ?_
      refine mg_iload_n 63 rfl rfl rfl ?_
      refine mg_iconst (v := 0) 64 rfl (by decide) rfl ?_
      refine mg_callV3 67 rfl (Nat.le_of_ble_eq_true rfl) pg_Pa_visit rfl rfl ?_
      refine hV _ _ _ false _ (pv_opened P n s) _ (px_D_fr (px_ff_fr f1) hD) r1 ho hub'.1 hc hN (by omega) (fun M2 f2 r2 e2 => ?_)
      show mm_Rn _ _ _ _ _ _ 67 [(0, _), (1, _), (2, _), (3, _), (4, _), (5, _)] [_] _
      refine mg_istore (L2 := [(0, _), (1, _), (2, _), (3, _), (4, _), (5, _), (6, _)]) 69 rfl (by decide) rfl rfl ?_
      refine mg_aload_n 70 rfl rfl rfl ?_
      refine mg_getR 73 rfl rfl rfl rfl ?_
      refine mg_iload 75 rfl rfl rfl ?_
      refine mg_callV1 78 rfl (Nat.le_of_ble_eq_true rfl) pg_Fo_closeTree rfl rfl ?_
      refine sp_closeTree r2 (by omega) (fun M3 f3 r3 => ?_)
      show mm_Rn _ _ _ _ _ _ 78 [(0, _), (1, _), (2, _), (3, _), (4, _), (5, _), (6, _)] [] _
      refine mg_iload 80 rfl rfl rfl ?_
      refine mg_iret rfl rfl ?_
      have er : pv_named P V n c false s = ((V (pv_ob P n) c false (pv_opened P n s)).1, (V (pv_ob P n) c false (pv_opened P n s)).2.1, pv_setop (V (pv_ob P n) c false (pv_opened P n s)).2.2 (pv_op s)) := by unfold pv_named; rw [if_neg (by decide), if_neg (by omega)]
      rw [er] at k
      exact k M3 (px_fr_tr (px_ff_fr f1) (px_fr_tr f2 (px_ff_fr f3))) r3 (by rw [f3 20 (by decide) (by decide) (by decide) (by decide), e2, f1 20 (by decide) (by decide) (by decide) (by decide)])
  | true =>
    show mm_Ev pg ly d 61 [.inr 20, .inl (nI n), .inl (nI c), .inl 1] M Q
    obtain ⟨d, rfl⟩ : ∃ e, d = e + 1 := ⟨d - 1, by omega⟩
    refine mg_body yy_Pa_visitNamed pg_Pa_visitNamed (Nat.le_of_ble_eq_true rfl) ?_
    show mm_Rn _ _ _ _ _ _ 0 [(0, _), (1, _), (2, _), (3, _)] [] _
    refine mg_aload_n 1 rfl rfl rfl ?_
    refine mg_getR 4 rfl rfl rfl rfl ?_
    refine mg_getR 7 rfl rfl rfl rfl ?_
    refine mg_iload_n 8 rfl rfl rfl ?_
    refine mg_iald (v := nI (pv_ob P n)) 9 rfl rfl (vp_in_nI (by omega : n < 60) (by omega)) (by rw [nI_clamp (by omega)]; exact (hb (by rw [hk]; rfl))) rfl ?_
    refine mg_istore (L2 := [(0, _), (1, _), (2, _), (3, _), (4, _)]) 11 rfl (by decide) rfl rfl ?_
    refine mg_iload_n 12 rfl rfl rfl ?_
    refine mg_if_eq 15 24 rfl rfl (by decide) (fun c_12 => absurd c_12 (by decide)) (fun c_12 => ?_)
    refine mg_aload_n 16 rfl rfl rfl ?_
    refine mg_iload 18 rfl rfl rfl ?_
    refine mg_iload_n 19 rfl rfl rfl ?_
    refine mg_iconst (v := 1) 20 rfl (by decide) rfl ?_
    refine mg_callV3 23 rfl (Nat.le_of_ble_eq_true rfl) pg_Pa_visit rfl rfl ?_
    refine hV _ _ _ true _ s _ hD hR hS hub'.1 hc hN (by omega) (fun M1 f1 r1 e1 => ?_)
    show mm_Rn _ _ _ _ _ _ 23 [(0, _), (1, _), (2, _), (3, _), (4, _)] [_] _
    refine mg_iret rfl rfl ?_
    have er : pv_named P V n c true s = V (pv_ob P n) c true s := if_pos rfl
    rw [er] at k
    exact k M1 f1 r1 e1
set_option maxHeartbeats 2000000 in
set_option maxRecDepth 20000 in
theorem sp_visit {P : pv_D} {lv : Nat → Nat} {u : Nat → Prop} {z : Nat} {em fi nx us : Nat → Int32} (hP : pv_val P lv u z) : ∀ N, px_VC P lv u z em fi nx us (pv_vis P N) N := by
  intro N
  induction N with
  | zero =>
    intro d n c sc M s Q hD hR hS hn hc hN hd k
    have h15 := hS.2.1
    have hl1 := (hP.1 n hn).2.1
    obtain ⟨d, rfl⟩ : ∃ e, d = e + 1 := ⟨d - 1, by omega⟩
    refine mg_body yy_Pa_visit pg_Pa_visit (Nat.le_of_ble_eq_true rfl) ?_
    show mm_Rn _ _ _ _ _ _ 0 [(0, _), (1, _), (2, _), (3, _)] [] _
    refine mg_aload_n 1 rfl rfl rfl ?_
    refine mg_getI (v := nI s.2.1) 4 rfl rfl (Or.inl rfl) hR.2.1 rfl ?_
    refine mg_sipush (v := 1500) 7 rfl (by decide) rfl ?_
    refine mg_ic_lt 10 13 rfl rfl (by decide) (fun c_7 => absurd c_7 (nI_nlt (b := 1500) (by omega) (by omega))) (fun c_7 => ?_)
    refine mg_bipush (v := (-8)) 12 rfl (by decide) rfl ?_
    refine mg_iret rfl rfl ?_
    exact k M (px_fr_rf M) hR (by simp [pv_vis])
  | succ N ih =>
    intro d n c sc M s Q hD hR hS hn hc hN hd k
    have h15 := hS.2.1
    obtain ⟨d, rfl⟩ : ∃ e, d = e + 1 := ⟨d - 1, by omega⟩
    refine mg_body yy_Pa_visit pg_Pa_visit (Nat.le_of_ble_eq_true rfl) ?_
    show mm_Rn _ _ _ _ _ _ 0 [(0, _), (1, _), (2, _), (3, _)] [] _
    refine mg_aload_n 1 rfl rfl rfl ?_
    refine mg_getI (v := nI s.2.1) 4 rfl rfl (Or.inl rfl) hR.2.1 rfl ?_
    refine mg_sipush (v := 1500) 7 rfl (by decide) rfl ?_
    refine mg_ic_lt 10 13 rfl rfl (by decide) (fun c_7 => ?_) (fun c_7 => ?_)
    · refine mg_aload_n 14 rfl rfl rfl ?_
      refine mg_dup 15 rfl rfl ?_
      refine mg_getI (v := nI s.2.1) 18 rfl rfl (Or.inl rfl) hR.2.1 rfl ?_
      refine mg_iconst (v := 1) 19 rfl (by decide) rfl ?_
      refine mg_iadd (v := nI (s.2.1 + 1)) 20 rfl (nI_1 _) rfl ?_
      refine mg_putI 23 rfl rfl rfl rfl ?_
      have est : pv_vis P (N + 1) n c sc s = pv_body P (pv_vis P N) n c sc (pv_step s) := if_neg (by have := (st_lt 1500 1500 rfl (by omega) (by omega)).mp c_7; omega)
      have hst : s.2.1 < 1500 := (st_lt 1500 1500 rfl (by omega) (by omega)).mp c_7
      generalize hM0 : mm_up M 20 6 (nI (s.2.1 + 1)) = M0
      have f0 : px_fr M M0 := by rw [← hM0]; exact px_fr_up (by decide)
      have r0 : px_rep M0 (pv_step s) := by
        obtain ⟨q1, q2, q3, q4, q5⟩ := hR
        rw [← hM0]
        exact ⟨by simp [mm_up, upd]; exact q1, by simp [mm_up, upd]; rfl, by rw [mm_up_ne 16 (by decide)]; exact q3, by rw [mm_up_ne 16 (by decide)]; exact q4, fun i hi => by rw [mm_up_ne 17 (by decide), mm_up_ne 18 (by decide), mm_up_ne 19 (by decide)]; exact q5 i hi⟩
      have s0 : pv_ok z (pv_step s) := ⟨hS.1, (by show s.2.1 + 1 ≤ 1500; omega), hS.2.2⟩
      have e0 : M0 20 5 = M 20 5 := by rw [← hM0]; simp [mm_up, upd]
      have hD0 := px_D_fr f0 hD
      have hN0 : 1500 ≤ (pv_step s).2.1 + N := by show 1500 ≤ s.2.1 + 1 + N; omega
      have hKp := pv_vis_kp hP N
      obtain ⟨h60, hkd, ha, hb, h0, h1, h8, -⟩ := hD0.2.2.2 n hn
      obtain ⟨-, hlv, -, hua, hub, huc, h10⟩ := hP.1 n hn
      refine mg_aload_n 24 rfl rfl rfl ?_
      refine mg_getR 27 rfl rfl rfl rfl ?_
      refine mg_getR 30 rfl rfl rfl rfl ?_
      refine mg_iload_n 31 rfl rfl rfl ?_
      refine mg_iald (v := nI (pv_kd P n)) 32 rfl rfl (vp_in_nI (by omega : n < 60) (by omega)) (by rw [nI_clamp (by omega)]; exact hkd) rfl ?_
      rcases st_k9 (hP.1 n hn).1 with hk | hk | hk | hk | hk | hk | hk | hk | hk
      · rw [hk]
        have eb : pv_body P (pv_vis P N) n c sc (pv_step s) = pv_token P n sc (pv_step s) := by simp [pv_body, hk]
        refine mg_tsIn (off := 52) 84 rfl (by decide) (by decide) (by decide +kernel) (by decide) ?_
        refine mg_aload_n 85 rfl rfl rfl ?_
        refine mg_aload_n 86 rfl rfl rfl ?_
        refine mg_getR 89 rfl rfl rfl rfl ?_
        refine mg_getR 92 rfl rfl rfl rfl ?_
        refine mg_iload_n 93 rfl rfl rfl ?_
        refine mg_iald (v := nI (pv_oa P n)) 94 rfl rfl (vp_in_nI (by omega : n < 60) (by omega)) (by rw [nI_clamp (by omega)]; exact (h0 hk)) rfl ?_
        refine mg_iload_n 95 rfl rfl rfl ?_
        refine mg_callV2 98 rfl (Nat.le_of_ble_eq_true rfl) pg_Pa_visitToken rfl rfl ?_
        refine sp_visitToken hP hD0 r0 s0 (h10 hk) (by omega) (fun M1 f1 r1 e1 => ?_)
        show mm_Rn _ _ _ _ _ _ 98 [(0, _), (1, _), (2, _), (3, _)] [_] _
        refine mg_iret rfl rfl ?_
        rw [est, eb] at k
        exact k M1 (px_fr_tr f0 f1) r1 (by rw [e1, e0])
      · rw [hk]
        have eb : pv_body P (pv_vis P N) n c sc (pv_step s) = (if 6 ≤ c then (-7, 0, pv_step s) else pv_vis P N (pv_oc P n) (c + 1) sc (pv_step s)) := by simp [pv_body, hk]
        refine mg_tsIn (off := 67) 99 rfl (by decide) (by decide) (by decide +kernel) (by decide) ?_
        obtain ⟨r, hr, er, erc⟩ := h1 hk
        refine mg_aload_n 100 rfl rfl rfl ?_
        refine mg_aload_n 101 rfl rfl rfl ?_
        refine mg_getR 104 rfl rfl rfl rfl ?_
        refine mg_getR 107 rfl rfl rfl rfl ?_
        refine mg_iload_n 108 rfl rfl rfl ?_
        refine mg_iald (v := nI r) 109 rfl rfl (vp_in_nI (by omega : n < 60) (by omega)) (by rw [nI_clamp (by omega)]; exact er) rfl ?_
        refine mg_iload_n 110 rfl rfl rfl ?_
        refine mg_iload_n 111 rfl rfl rfl ?_
        refine mg_callV3 114 rfl (Nat.le_of_ble_eq_true rfl) pg_Pa_visitCall rfl rfl ?_
        refine sp_visitCall hP hD0 ih hKp r0 s0 hn hc hN0 hr erc (huc hk) hlv (hP.1 _ (huc hk)).2.2.1 (by omega) (fun M1 f1 r1 e1 => ?_)
        show mm_Rn _ _ _ _ _ _ 114 [(0, _), (1, _), (2, _), (3, _)] [_] _
        refine mg_iret rfl rfl ?_
        rw [est, eb] at k
        exact k M1 (px_fr_tr f0 f1) r1 (by rw [e1, e0])
      · rw [hk]
        have eb : pv_body P (pv_vis P N) n c sc (pv_step s) = pv_then P (pv_vis P N) n c sc (pv_step s) := by simp [pv_body, hk]
        refine mg_tsIn (off := 83) 115 rfl (by decide) (by decide) (by decide +kernel) (by decide) ?_
        refine mg_aload_n 116 rfl rfl rfl ?_
        refine mg_iload_n 117 rfl rfl rfl ?_
        refine mg_iload_n 118 rfl rfl rfl ?_
        refine mg_iload_n 119 rfl rfl rfl ?_
        refine mg_callV3 122 rfl (Nat.le_of_ble_eq_true rfl) pg_Pa_visitThen rfl rfl ?_
        refine sp_visitThen hP hD0 ih hKp r0 s0 hn hc hN0 hk (by omega) (fun M1 f1 r1 e1 => ?_)
        show mm_Rn _ _ _ _ _ _ 122 [(0, _), (1, _), (2, _), (3, _)] [_] _
        refine mg_iret rfl rfl ?_
        rw [est, eb] at k
        exact k M1 (px_fr_tr f0 f1) r1 (by rw [e1, e0])
      · rw [hk]
        have eb : pv_body P (pv_vis P N) n c sc (pv_step s) = pv_or P (pv_vis P N) n c sc (pv_step s) := by simp [pv_body, hk]
        refine mg_tsIn (off := 91) 123 rfl (by decide) (by decide) (by decide +kernel) (by decide) ?_
        refine mg_aload_n 124 rfl rfl rfl ?_
        refine mg_iload_n 125 rfl rfl rfl ?_
        refine mg_iload_n 126 rfl rfl rfl ?_
        refine mg_iload_n 127 rfl rfl rfl ?_
        refine mg_callV3 130 rfl (Nat.le_of_ble_eq_true rfl) pg_Pa_visitOr rfl rfl ?_
        refine sp_visitOr hP hD0 ih hKp r0 s0 hn hc hN0 hk (by omega) (fun M1 f1 r1 e1 => ?_)
        show mm_Rn _ _ _ _ _ _ 130 [(0, _), (1, _), (2, _), (3, _)] [_] _
        refine mg_iret rfl rfl ?_
        rw [est, eb] at k
        exact k M1 (px_fr_tr f0 f1) r1 (by rw [e1, e0])
      · rw [hk]
        have eb : pv_body P (pv_vis P N) n c sc (pv_step s) = pv_maybe P (pv_vis P N) n c sc (pv_step s) := by simp [pv_body, hk]
        refine mg_tsIn (off := 99) 131 rfl (by decide) (by decide) (by decide +kernel) (by decide) ?_
        refine mg_aload_n 132 rfl rfl rfl ?_
        refine mg_iload_n 133 rfl rfl rfl ?_
        refine mg_iload_n 134 rfl rfl rfl ?_
        refine mg_iload_n 135 rfl rfl rfl ?_
        refine mg_callV3 138 rfl (Nat.le_of_ble_eq_true rfl) pg_Pa_visitMaybe rfl rfl ?_
        refine sp_visitMaybe hP hD0 ih hKp r0 s0 hn hc hN0 hk (by omega) (fun M1 f1 r1 e1 => ?_)
        show mm_Rn _ _ _ _ _ _ 138 [(0, _), (1, _), (2, _), (3, _)] [_] _
        refine mg_iret rfl rfl ?_
        rw [est, eb] at k
        exact k M1 (px_fr_tr f0 f1) r1 (by rw [e1, e0])
      · rw [hk]
        have eb : pv_body P (pv_vis P N) n c sc (pv_step s) = pv_many P (pv_vis P N) n c sc 1501 (pv_step s) := by simp [pv_body, hk]
        refine mg_tsIn (off := 107) 139 rfl (by decide) (by decide) (by decide +kernel) (by decide) ?_
        refine mg_aload_n 140 rfl rfl rfl ?_
        refine mg_iload_n 141 rfl rfl rfl ?_
        refine mg_iload_n 142 rfl rfl rfl ?_
        refine mg_iload_n 143 rfl rfl rfl ?_
        refine mg_callV3 146 rfl (Nat.le_of_ble_eq_true rfl) pg_Pa_visitMany rfl rfl ?_
        refine sp_visitMany hP hD0 ih hKp r0 s0 hn hc hN0 hk (by omega) (fun M1 f1 r1 e1 => ?_)
        show mm_Rn _ _ _ _ _ _ 146 [(0, _), (1, _), (2, _), (3, _)] [_] _
        refine mg_iret rfl rfl ?_
        rw [est, eb] at k
        exact k M1 (px_fr_tr f0 f1) r1 (by rw [e1, e0])
      · rw [hk]
        have eb : pv_body P (pv_vis P N) n c sc (pv_step s) = (0, 0, pv_step s) := by simp [pv_body, hk]
        refine mg_tsIn (off := 139) 171 rfl (by decide) (by decide) (by decide +kernel) (by decide) ?_
        refine mg_iconst (v := 0) 172 rfl (by decide) rfl ?_
        refine mg_iret rfl rfl ?_
        rw [est, eb] at k
        exact k M0 f0 r0 (by rw [e0]; simp)
      · rw [hk]
        have eb : pv_body P (pv_vis P N) n c sc (pv_step s) = pv_vis P N (pv_ob P n) c sc (pv_step s) := by simp [pv_body, hk]
        refine mg_tsIn (off := 115) 147 rfl (by decide) (by decide) (by decide +kernel) (by decide) ?_
        refine mg_aload_n 148 rfl rfl rfl ?_
        refine mg_aload_n 149 rfl rfl rfl ?_
        refine mg_getR 152 rfl rfl rfl rfl ?_
        refine mg_getR 155 rfl rfl rfl rfl ?_
        refine mg_iload_n 156 rfl rfl rfl ?_
        refine mg_iald (v := nI (pv_ob P n)) 157 rfl rfl (vp_in_nI (by omega : n < 60) (by omega)) (by rw [nI_clamp (by omega)]; exact (hb (by rw [hk]; rfl))) rfl ?_
        refine mg_iload_n 158 rfl rfl rfl ?_
        refine mg_iload_n 159 rfl rfl rfl ?_
        refine mg_callV3 162 rfl (Nat.le_of_ble_eq_true rfl) pg_Pa_visit rfl rfl ?_
        refine ih _ _ _ sc _ (pv_step s) _ hD0 r0 s0 (hub (by rw [hk]; rfl)).1 hc hN0 (by have := (hub (by rw [hk]; rfl)).2; omega) (fun M1 f1 r1 e1 => ?_)
        show mm_Rn _ _ _ _ _ _ 162 [(0, _), (1, _), (2, _), (3, _)] [_] _
        refine mg_iret rfl rfl ?_
        rw [est, eb] at k
        exact k M1 (px_fr_tr f0 f1) r1 (by rw [e1, e0])
      · rw [hk]
        have eb : pv_body P (pv_vis P N) n c sc (pv_step s) = pv_named P (pv_vis P N) n c sc (pv_step s) := by simp [pv_body, hk]
        refine mg_tsIn (off := 131) 163 rfl (by decide) (by decide) (by decide +kernel) (by decide) ?_
        refine mg_aload_n 164 rfl rfl rfl ?_
        refine mg_iload_n 165 rfl rfl rfl ?_
        refine mg_iload_n 166 rfl rfl rfl ?_
        refine mg_iload_n 167 rfl rfl rfl ?_
        refine mg_callV3 170 rfl (Nat.le_of_ble_eq_true rfl) pg_Pa_visitNamed rfl rfl ?_
        refine sp_visitNamed hP hD0 ih hKp r0 s0 hn hc hN0 hk (by omega) (fun M1 f1 r1 e1 => ?_)
        show mm_Rn _ _ _ _ _ _ 170 [(0, _), (1, _), (2, _), (3, _)] [_] _
        refine mg_iret rfl rfl ?_
        rw [est, eb] at k
        exact k M1 (px_fr_tr f0 f1) r1 (by rw [e1, e0])
    · refine mg_bipush (v := (-8)) 12 rfl (by decide) rfl ?_
      refine mg_iret rfl rfl ?_
      have e : pv_vis P (N + 1) n c sc s = (-8, 0, s) := if_pos (st_nlt 1500 c_7 rfl (by omega) (by omega))
      rw [e] at k
      exact k M (px_fr_rf M) hR (by simp)
