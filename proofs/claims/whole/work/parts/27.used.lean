theorem pk_m1' (i : Nat) : nI i + -1 = nI i - 1 := (Int32.sub_eq_add_neg _ _).symm
set_option maxHeartbeats 2000000 in
set_option maxRecDepth 20000 in
theorem sp_grow_9 {d : Nat} {M : mm_M} {Q : mm_Qt} {j : Nat} {v : Int32} (hj : j < 60) (hd : 1 ≤ d) (k : ∀ M', an_st 9 j v M M' → Q none M') : mm_Ev pg ly d 43 [.inr 7, .inr 9, .inl (nI j), .inl v] M Q := by
  obtain ⟨d, rfl⟩ : ∃ e, d = e + 1 := ⟨d - 1, by omega⟩
  refine mg_body yy_An_grow pg_An_grow (Nat.le_of_ble_eq_true rfl) ?_
  show mm_Rn _ _ _ _ _ _ 0 [(0, _), (1, _), (2, _), (3, _)] [] _
  refine mg_aload_n 1 rfl rfl rfl ?_
  refine mg_iload_n 2 rfl rfl rfl ?_
  refine mg_iald (v := M 9 j) 3 rfl rfl (vp_in_nI (by omega : j < 60) (by omega)) (by rw [nI_clamp (by omega)]) rfl ?_
  refine mg_iload_n 4 rfl rfl rfl ?_
  refine mg_ior 5 rfl rfl rfl ?_
  refine mg_istore (L2 := [(0, _), (1, _), (2, _), (3, _), (4, _)]) 7 rfl (by decide) rfl rfl ?_
  refine mg_iload 9 rfl rfl rfl ?_
  refine mg_aload_n 10 rfl rfl rfl ?_
  refine mg_iload_n 11 rfl rfl rfl ?_
  refine mg_iald (v := M 9 j) 12 rfl rfl (vp_in_nI (by omega : j < 60) (by omega)) (by rw [nI_clamp (by omega)]) rfl ?_
  refine mg_ic_eq 15 25 rfl rfl (by decide) (fun c_12 => ?_) (fun c_12 => ?_)
  · refine mg_vret rfl rfl ?_
    exact k M (an_st_no c_12)
  · refine mg_aload_n 16 rfl rfl rfl ?_
    refine mg_iload_n 17 rfl rfl rfl ?_
    refine mg_iload 19 rfl rfl rfl ?_
    refine mg_iast (j := j) 20 rfl rfl (vp_in_nI (by omega : j < 60) (by omega)) (nI_clamp (by omega)) rfl ?_
    refine mg_aload_n 21 rfl rfl rfl ?_
    refine mg_iconst (v := 1) 22 rfl (by decide) rfl ?_
    refine mg_putZ 25 rfl rfl rfl (by first | exact Or.inl rfl | exact Or.inr rfl) rfl ?_
    refine mg_vret rfl rfl ?_
    exact k _ (an_st_up (by decide) hj c_12)
set_option maxHeartbeats 2000000 in
set_option maxRecDepth 20000 in
theorem sp_grow_11 {d : Nat} {M : mm_M} {Q : mm_Qt} {j : Nat} {v : Int32} (hj : j < 60) (hd : 1 ≤ d) (k : ∀ M', an_st 11 j v M M' → Q none M') : mm_Ev pg ly d 43 [.inr 7, .inr 11, .inl (nI j), .inl v] M Q := by
  obtain ⟨d, rfl⟩ : ∃ e, d = e + 1 := ⟨d - 1, by omega⟩
  refine mg_body yy_An_grow pg_An_grow (Nat.le_of_ble_eq_true rfl) ?_
  show mm_Rn _ _ _ _ _ _ 0 [(0, _), (1, _), (2, _), (3, _)] [] _
  refine mg_aload_n 1 rfl rfl rfl ?_
  refine mg_iload_n 2 rfl rfl rfl ?_
  refine mg_iald (v := M 11 j) 3 rfl rfl (vp_in_nI (by omega : j < 60) (by omega)) (by rw [nI_clamp (by omega)]) rfl ?_
  refine mg_iload_n 4 rfl rfl rfl ?_
  refine mg_ior 5 rfl rfl rfl ?_
  refine mg_istore (L2 := [(0, _), (1, _), (2, _), (3, _), (4, _)]) 7 rfl (by decide) rfl rfl ?_
  refine mg_iload 9 rfl rfl rfl ?_
  refine mg_aload_n 10 rfl rfl rfl ?_
  refine mg_iload_n 11 rfl rfl rfl ?_
  refine mg_iald (v := M 11 j) 12 rfl rfl (vp_in_nI (by omega : j < 60) (by omega)) (by rw [nI_clamp (by omega)]) rfl ?_
  refine mg_ic_eq 15 25 rfl rfl (by decide) (fun c_12 => ?_) (fun c_12 => ?_)
  · refine mg_vret rfl rfl ?_
    exact k M (an_st_no c_12)
  · refine mg_aload_n 16 rfl rfl rfl ?_
    refine mg_iload_n 17 rfl rfl rfl ?_
    refine mg_iload 19 rfl rfl rfl ?_
    refine mg_iast (j := j) 20 rfl rfl (vp_in_nI (by omega : j < 60) (by omega)) (nI_clamp (by omega)) rfl ?_
    refine mg_aload_n 21 rfl rfl rfl ?_
    refine mg_iconst (v := 1) 22 rfl (by decide) rfl ?_
    refine mg_putZ 25 rfl rfl rfl (by first | exact Or.inl rfl | exact Or.inr rfl) rfl ?_
    refine mg_vret rfl rfl ?_
    exact k _ (an_st_up (by decide) hj c_12)
set_option maxHeartbeats 2000000 in
set_option maxRecDepth 20000 in
theorem sp_grow_12 {d : Nat} {M : mm_M} {Q : mm_Qt} {j : Nat} {v : Int32} (hj : j < 60) (hd : 1 ≤ d) (k : ∀ M', an_st 12 j v M M' → Q none M') : mm_Ev pg ly d 43 [.inr 7, .inr 12, .inl (nI j), .inl v] M Q := by
  obtain ⟨d, rfl⟩ : ∃ e, d = e + 1 := ⟨d - 1, by omega⟩
  refine mg_body yy_An_grow pg_An_grow (Nat.le_of_ble_eq_true rfl) ?_
  show mm_Rn _ _ _ _ _ _ 0 [(0, _), (1, _), (2, _), (3, _)] [] _
  refine mg_aload_n 1 rfl rfl rfl ?_
  refine mg_iload_n 2 rfl rfl rfl ?_
  refine mg_iald (v := M 12 j) 3 rfl rfl (vp_in_nI (by omega : j < 60) (by omega)) (by rw [nI_clamp (by omega)]) rfl ?_
  refine mg_iload_n 4 rfl rfl rfl ?_
  refine mg_ior 5 rfl rfl rfl ?_
  refine mg_istore (L2 := [(0, _), (1, _), (2, _), (3, _), (4, _)]) 7 rfl (by decide) rfl rfl ?_
  refine mg_iload 9 rfl rfl rfl ?_
  refine mg_aload_n 10 rfl rfl rfl ?_
  refine mg_iload_n 11 rfl rfl rfl ?_
  refine mg_iald (v := M 12 j) 12 rfl rfl (vp_in_nI (by omega : j < 60) (by omega)) (by rw [nI_clamp (by omega)]) rfl ?_
  refine mg_ic_eq 15 25 rfl rfl (by decide) (fun c_12 => ?_) (fun c_12 => ?_)
  · refine mg_vret rfl rfl ?_
    exact k M (an_st_no c_12)
  · refine mg_aload_n 16 rfl rfl rfl ?_
    refine mg_iload_n 17 rfl rfl rfl ?_
    refine mg_iload 19 rfl rfl rfl ?_
    refine mg_iast (j := j) 20 rfl rfl (vp_in_nI (by omega : j < 60) (by omega)) (nI_clamp (by omega)) rfl ?_
    refine mg_aload_n 21 rfl rfl rfl ?_
    refine mg_iconst (v := 1) 22 rfl (by decide) rfl ?_
    refine mg_putZ 25 rfl rfl rfl (by first | exact Or.inl rfl | exact Or.inr rfl) rfl ?_
    refine mg_vret rfl rfl ?_
    exact k _ (an_st_up (by decide) hj c_12)
set_option maxHeartbeats 2000000 in
set_option maxRecDepth 20000 in
theorem sp_use {d : Nat} {M : mm_M} {Q : mm_Qt} {j : Nat} (hj : j < 60) (h01 : M 8 j = 0 ∨ M 8 j = 1) (hd : 1 ≤ d) (k : ∀ M', an_st 8 j 1 M M' → Q none M') : mm_Ev pg ly d 31 [.inr 7, .inl (nI j)] M Q := by
  obtain ⟨d, rfl⟩ : ∃ e, d = e + 1 := ⟨d - 1, by omega⟩
  refine mg_body yy_An_use pg_An_use (Nat.le_of_ble_eq_true rfl) ?_
  show mm_Rn _ _ _ _ _ _ 0 [(0, _), (1, _)] [] _
  refine mg_aload_n 1 rfl rfl rfl ?_
  refine mg_getR 4 rfl rfl rfl rfl ?_
  refine mg_iload_n 5 rfl rfl rfl ?_
  refine mg_zald (v := M 8 j) 6 rfl rfl (vp_in_nI (by omega : j < 60) (by omega)) (by rw [nI_clamp (by omega)]) rfl ?_
  refine mg_if_ne 9 21 rfl rfl (by decide) (fun c_6 => ?_) (fun c_6 => ?_)
  · refine mg_vret rfl rfl ?_
    exact k M (an_st_no (by rw [h01.resolve_left c_6]; decide))
  · refine mg_aload_n 10 rfl rfl rfl ?_
    refine mg_getR 13 rfl rfl rfl rfl ?_
    refine mg_iload_n 14 rfl rfl rfl ?_
    refine mg_iconst (v := 1) 15 rfl (by decide) rfl ?_
    refine mg_zast (v := M 8 j ||| 1) (j := j) 16 rfl rfl (vp_in_nI (by omega : j < 60) (by omega)) (nI_clamp (by omega)) (by rw [c_6]; decide) rfl ?_
    refine mg_aload_n 17 rfl rfl rfl ?_
    refine mg_iconst (v := 1) 18 rfl (by decide) rfl ?_
    refine mg_putZ 21 rfl rfl rfl (by first | exact Or.inl rfl | exact Or.inr rfl) rfl ?_
    refine mg_vret rfl rfl ?_
    exact k _ (an_st_up (by decide) hj (by rw [c_6]; decide))
set_option maxHeartbeats 2000000 in
set_option maxRecDepth 20000 in
theorem sp_useParts {d : Nat} {M : mm_M} {Q : mm_Qt} {i : Nat} {n : Nat} {kd lv : Nat → Nat} {a b kp : Nat → Int32} {rt : Nat} (hW : st_wf n kd lv a b kp) (hX : an_X M n kd a b kp rt) (hi : i < n) (hu : ms_le 1 (M 8 i)) (hl : an_low (an_cu n kd a b kp rt) (M 8)) (hd : 2 ≤ d) (k : ∀ M', an_to 8 M M' → an_low (an_cu n kd a b kp rt) (M' 8) → an_cu1 kd a b kp (M' 8) i → Q none M') : mm_Ev pg ly d 30 [.inr 7, .inl (nI i)] M Q := by
  have hn : n ≤ 60 := hW.1
  have cT : ∀ T, an_cu n kd a b kp rt T → an_cu1 kd a b kp T i := fun T hT => hT.2 i hi (ms_tr hu (hl T hT i (by omega)))
  obtain ⟨d, rfl⟩ : ∃ e, d = e + 1 := ⟨d - 1, by omega⟩
  refine mg_body yy_An_useParts pg_An_useParts (Nat.le_of_ble_eq_true rfl) ?_
  show mm_Rn _ _ _ _ _ _ 0 [(0, _), (1, _)] [] _
  refine mg_aload_n 1 rfl rfl rfl ?_
  refine mg_getR 4 rfl rfl rfl rfl ?_
  refine mg_getR 7 rfl rfl rfl rfl ?_
  refine mg_iload_n 8 rfl rfl rfl ?_
  refine mg_iald (v := nI (kd i)) 9 rfl rfl (vp_in_nI (by omega : i < 60) (by omega)) (by rw [nI_clamp (by omega)]; exact (hX.2.1 i hi).1) rfl ?_
  rcases st_k9 (hW.2.1 i hi).1 with hk | hk | hk | hk | hk | hk | hk | hk | hk
  · rw [hk]
    refine mg_istore_n (L2 := [(0, _), (1, _), (2, _)]) 10 rfl (by decide) rfl rfl ?_
    refine mg_iload_n 11 rfl rfl rfl ?_
    refine mg_iconst (v := 1) 12 rfl (by decide) rfl ?_
    refine mg_ic_ne 15 51 rfl rfl (by decide) (fun c_12 => ?_) (fun c_12 => absurd c_12 (by decide))
    refine mg_aload_n 52 rfl rfl rfl ?_
    refine mg_getR 55 rfl rfl rfl rfl ?_
    refine mg_iload_n 56 rfl rfl rfl ?_
    refine mg_callV1 59 rfl (Nat.le_of_ble_eq_true rfl) pg_Gr_leftIsNode rfl rfl ?_
    refine sp_leftIsNode_0 (by omega) ?_
    show mm_Rn _ _ _ _ _ _ 59 [(0, _), (1, _), (2, _)] [_] _
    refine mg_if_eq 62 75 rfl rfl (by decide) (fun c_59 => ?_) (fun c_59 => absurd c_59 (by decide))
    refine mg_aload_n 76 rfl rfl rfl ?_
    refine mg_getR 79 rfl rfl rfl rfl ?_
    refine mg_iload_n 80 rfl rfl rfl ?_
    refine mg_callV1 83 rfl (Nat.le_of_ble_eq_true rfl) pg_Gr_rightIsNode rfl rfl ?_
    refine sp_rightIsNode_0 (by omega) ?_
    show mm_Rn _ _ _ _ _ _ 83 [(0, _), (1, _), (2, _)] [_] _
    refine mg_if_eq 86 99 rfl rfl (by decide) (fun c_83 => ?_) (fun c_83 => absurd c_83 (by decide))
    refine mg_vret rfl rfl ?_
    exact k M (an_to_rf 8 M) hl ⟨fun h => absurd h (by rw [hk]; decide), fun h => absurd h (by rw [hk]; decide), fun h => absurd (hk.symm.trans h) (by decide)⟩
  · rw [hk]
    obtain ⟨r, hr, ea⟩ := (hW.2.1 i hi).2.2.2.2.2.2.1 hk
    refine mg_istore_n (L2 := [(0, _), (1, _), (2, _)]) 10 rfl (by decide) rfl rfl ?_
    refine mg_iload_n 11 rfl rfl rfl ?_
    refine mg_iconst (v := 1) 12 rfl (by decide) rfl ?_
    refine mg_ic_ne 15 51 rfl rfl (by decide) (fun c_12 => absurd c_12 (by decide)) (fun c_12 => ?_)
    refine mg_aload_n 16 rfl rfl rfl ?_
    refine mg_getR 19 rfl rfl rfl rfl ?_
    refine mg_aload_n 20 rfl rfl rfl ?_
    refine mg_getR 23 rfl rfl rfl rfl ?_
    refine mg_getR 26 rfl rfl rfl rfl ?_
    refine mg_iload_n 27 rfl rfl rfl ?_
    refine mg_iald (v := a i) 28 rfl rfl (vp_in_nI (by omega : i < 60) (by omega)) (by rw [nI_clamp (by omega)]; exact (hX.2.1 i hi).2.1) rfl ?_
    refine mg_iald (v := kp r) 29 rfl rfl (by rw [ea]; exact vp_in_nI hr (by omega)) (by rw [ea, nI_clamp (by omega)]; exact hX.2.2.1 r hr) rfl ?_
    refine mg_iconst (v := (-1)) 30 rfl (by decide) rfl ?_
    refine mg_ic_eq 33 51 rfl rfl (by decide) (fun c_30 => ?_) (fun c_30 => ?_)
    · refine mg_aload_n 52 rfl rfl rfl ?_
      refine mg_getR 55 rfl rfl rfl rfl ?_
      refine mg_iload_n 56 rfl rfl rfl ?_
      refine mg_callV1 59 rfl (Nat.le_of_ble_eq_true rfl) pg_Gr_leftIsNode rfl rfl ?_
      refine sp_leftIsNode_1 (by omega) ?_
      show mm_Rn _ _ _ _ _ _ 59 [(0, _), (1, _), (2, _)] [_] _
      refine mg_if_eq 62 75 rfl rfl (by decide) (fun c_59 => ?_) (fun c_59 => absurd c_59 (by decide))
      refine mg_aload_n 76 rfl rfl rfl ?_
      refine mg_getR 79 rfl rfl rfl rfl ?_
      refine mg_iload_n 80 rfl rfl rfl ?_
      refine mg_callV1 83 rfl (Nat.le_of_ble_eq_true rfl) pg_Gr_rightIsNode rfl rfl ?_
      refine sp_rightIsNode_1 (by omega) ?_
      show mm_Rn _ _ _ _ _ _ 83 [(0, _), (1, _), (2, _)] [_] _
      refine mg_if_eq 86 99 rfl rfl (by decide) (fun c_83 => ?_) (fun c_83 => absurd c_83 (by decide))
      refine mg_vret rfl rfl ?_
      exact k M (an_to_rf 8 M) hl ⟨fun h => absurd h (by rw [hk]; decide), fun h => absurd h (by rw [hk]; decide), fun _ h => absurd (by rw [ea, an_oI (by omega)]; exact c_30) h⟩
    · obtain ⟨jc, hjc, ekp⟩ := (hW.2.2 r hr).resolve_left (fun h => c_30 (by rw [h]))
      rw [ekp] at c_30
      refine mg_aload_n 34 rfl rfl rfl ?_
      refine mg_aload_n 35 rfl rfl rfl ?_
      refine mg_getR 38 rfl rfl rfl rfl ?_
      refine mg_aload_n 39 rfl rfl rfl ?_
      refine mg_getR 42 rfl rfl rfl rfl ?_
      refine mg_getR 45 rfl rfl rfl rfl ?_
      refine mg_iload_n 46 rfl rfl rfl ?_
      refine mg_iald (v := a i) 47 rfl rfl (vp_in_nI (by omega : i < 60) (by omega)) (by rw [nI_clamp (by omega)]; exact (hX.2.1 i hi).2.1) rfl ?_
      refine mg_iald (v := nI jc) 48 rfl rfl (by rw [ea]; exact vp_in_nI hr (by omega)) (by rw [ea, nI_clamp (by omega), ← ekp]; exact hX.2.2.1 r hr) rfl ?_
      refine mg_callV1 51 rfl (Nat.le_of_ble_eq_true rfl) pg_An_use rfl rfl ?_
      refine sp_use (by omega) (an_cu_01 hl (by omega)) (by omega) (fun M1 s1 => ?_)
      have hlM1 := an_st_low s1 hl (fun T hT => by have := (cT T hT).2.2 hk; rw [ea, an_oI (by omega), ekp, an_oI (by omega)] at this; exact this c_30)
      have hXM1 := an_X_fr (by decide) s1.1.1 hX
      show mm_Rn _ _ _ _ _ _ 51 [(0, _), (1, _), (2, _)] [] _
      refine mg_aload_n 52 rfl rfl rfl ?_
      refine mg_getR 55 rfl rfl rfl rfl ?_
      refine mg_iload_n 56 rfl rfl rfl ?_
      refine mg_callV1 59 rfl (Nat.le_of_ble_eq_true rfl) pg_Gr_leftIsNode rfl rfl ?_
      refine sp_leftIsNode_1 (by omega) ?_
      show mm_Rn _ _ _ _ _ _ 59 [(0, _), (1, _), (2, _)] [_] _
      refine mg_if_eq 62 75 rfl rfl (by decide) (fun c_59 => ?_) (fun c_59 => absurd c_59 (by decide))
      refine mg_aload_n 76 rfl rfl rfl ?_
      refine mg_getR 79 rfl rfl rfl rfl ?_
      refine mg_iload_n 80 rfl rfl rfl ?_
      refine mg_callV1 83 rfl (Nat.le_of_ble_eq_true rfl) pg_Gr_rightIsNode rfl rfl ?_
      refine sp_rightIsNode_1 (by omega) ?_
      show mm_Rn _ _ _ _ _ _ 83 [(0, _), (1, _), (2, _)] [_] _
      refine mg_if_eq 86 99 rfl rfl (by decide) (fun c_83 => ?_) (fun c_83 => absurd c_83 (by decide))
      refine mg_vret rfl rfl ?_
      exact k M1 (s1.1) hlM1 ⟨fun h => absurd h (by rw [hk]; decide), fun h => absurd h (by rw [hk]; decide), fun _ _ => by rw [ea, an_oI (by omega), ekp, an_oI (by omega)]; exact an_st_v s1⟩
  · rw [hk]
    obtain ⟨ja, hja, ea, -⟩ := (hW.2.1 i hi).2.2.2.1 (by rw [hk]; rfl)
    obtain ⟨jb, hjb, eb, -⟩ := (hW.2.1 i hi).2.2.2.2.1 (by rw [hk]; rfl)
    refine mg_istore_n (L2 := [(0, _), (1, _), (2, _)]) 10 rfl (by decide) rfl rfl ?_
    refine mg_iload_n 11 rfl rfl rfl ?_
    refine mg_iconst (v := 1) 12 rfl (by decide) rfl ?_
    refine mg_ic_ne 15 51 rfl rfl (by decide) (fun c_12 => ?_) (fun c_12 => absurd c_12 (by decide))
    refine mg_aload_n 52 rfl rfl rfl ?_
    refine mg_getR 55 rfl rfl rfl rfl ?_
    refine mg_iload_n 56 rfl rfl rfl ?_
    refine mg_callV1 59 rfl (Nat.le_of_ble_eq_true rfl) pg_Gr_leftIsNode rfl rfl ?_
    refine sp_leftIsNode_2 (by omega) ?_
    show mm_Rn _ _ _ _ _ _ 59 [(0, _), (1, _), (2, _)] [_] _
    refine mg_if_eq 62 75 rfl rfl (by decide) (fun c_59 => absurd c_59 (by decide)) (fun c_59 => ?_)
    refine mg_aload_n 63 rfl rfl rfl ?_
    refine mg_aload_n 64 rfl rfl rfl ?_
    refine mg_getR 67 rfl rfl rfl rfl ?_
    refine mg_getR 70 rfl rfl rfl rfl ?_
    refine mg_iload_n 71 rfl rfl rfl ?_
    refine mg_iald (v := nI ja) 72 rfl rfl (vp_in_nI (by omega : i < 60) (by omega)) (by rw [nI_clamp (by omega), ← ea]; exact (hX.2.1 i hi).2.1) rfl ?_
    refine mg_callV1 75 rfl (Nat.le_of_ble_eq_true rfl) pg_An_use rfl rfl ?_
    refine sp_use (by omega) (an_cu_01 hl (by omega)) (by omega) (fun M1 s1 => ?_)
    have hlM1 := an_st_low s1 hl (fun T hT => by have := (cT T hT).1 (by rw [hk]; rfl); rw [ea, an_oI (by omega)] at this; exact this)
    have hXM1 := an_X_fr (by decide) s1.1.1 hX
    show mm_Rn _ _ _ _ _ _ 75 [(0, _), (1, _), (2, _)] [] _
    refine mg_aload_n 76 rfl rfl rfl ?_
    refine mg_getR 79 rfl rfl rfl rfl ?_
    refine mg_iload_n 80 rfl rfl rfl ?_
    refine mg_callV1 83 rfl (Nat.le_of_ble_eq_true rfl) pg_Gr_rightIsNode rfl rfl ?_
    refine sp_rightIsNode_2 (by omega) ?_
    show mm_Rn _ _ _ _ _ _ 83 [(0, _), (1, _), (2, _)] [_] _
    refine mg_if_eq 86 99 rfl rfl (by decide) (fun c_83 => absurd c_83 (by decide)) (fun c_83 => ?_)
    refine mg_aload_n 87 rfl rfl rfl ?_
    refine mg_aload_n 88 rfl rfl rfl ?_
    refine mg_getR 91 rfl rfl rfl rfl ?_
    refine mg_getR 94 rfl rfl rfl rfl ?_
    refine mg_iload_n 95 rfl rfl rfl ?_
    refine mg_iald (v := nI jb) 96 rfl rfl (vp_in_nI (by omega : i < 60) (by omega)) (by rw [nI_clamp (by omega), ← eb]; exact (hXM1.2.1 i hi).2.2) rfl ?_
    refine mg_callV1 99 rfl (Nat.le_of_ble_eq_true rfl) pg_An_use rfl rfl ?_
    refine sp_use (by omega) (an_cu_01 hlM1 (by omega)) (by omega) (fun M2 s2 => ?_)
    have hlM2 := an_st_low s2 hlM1 (fun T hT => by have := (cT T hT).2.1 (by rw [hk]; rfl); rw [eb, an_oI (by omega)] at this; exact this)
    show mm_Rn _ _ _ _ _ _ 99 [(0, _), (1, _), (2, _)] [] _
    refine mg_vret rfl rfl ?_
    exact k M2 (an_to_tr s1.1 s2.1) hlM2 ⟨fun _ => by rw [ea, an_oI (by omega)]; exact ms_tr (an_st_v s1) (s2.1.2.2 ja), fun _ => by rw [eb, an_oI (by omega)]; exact an_st_v s2, fun h => absurd (hk.symm.trans h) (by decide)⟩
  · rw [hk]
    obtain ⟨ja, hja, ea, -⟩ := (hW.2.1 i hi).2.2.2.1 (by rw [hk]; rfl)
    obtain ⟨jb, hjb, eb, -⟩ := (hW.2.1 i hi).2.2.2.2.1 (by rw [hk]; rfl)
    refine mg_istore_n (L2 := [(0, _), (1, _), (2, _)]) 10 rfl (by decide) rfl rfl ?_
    refine mg_iload_n 11 rfl rfl rfl ?_
    refine mg_iconst (v := 1) 12 rfl (by decide) rfl ?_
    refine mg_ic_ne 15 51 rfl rfl (by decide) (fun c_12 => ?_) (fun c_12 => absurd c_12 (by decide))
    refine mg_aload_n 52 rfl rfl rfl ?_
    refine mg_getR 55 rfl rfl rfl rfl ?_
    refine mg_iload_n 56 rfl rfl rfl ?_
    refine mg_callV1 59 rfl (Nat.le_of_ble_eq_true rfl) pg_Gr_leftIsNode rfl rfl ?_
    refine sp_leftIsNode_3 (by omega) ?_
    show mm_Rn _ _ _ _ _ _ 59 [(0, _), (1, _), (2, _)] [_] _
    refine mg_if_eq 62 75 rfl rfl (by decide) (fun c_59 => absurd c_59 (by decide)) (fun c_59 => ?_)
    refine mg_aload_n 63 rfl rfl rfl ?_
    refine mg_aload_n 64 rfl rfl rfl ?_
    refine mg_getR 67 rfl rfl rfl rfl ?_
    refine mg_getR 70 rfl rfl rfl rfl ?_
    refine mg_iload_n 71 rfl rfl rfl ?_
    refine mg_iald (v := nI ja) 72 rfl rfl (vp_in_nI (by omega : i < 60) (by omega)) (by rw [nI_clamp (by omega), ← ea]; exact (hX.2.1 i hi).2.1) rfl ?_
    refine mg_callV1 75 rfl (Nat.le_of_ble_eq_true rfl) pg_An_use rfl rfl ?_
    refine sp_use (by omega) (an_cu_01 hl (by omega)) (by omega) (fun M1 s1 => ?_)
    have hlM1 := an_st_low s1 hl (fun T hT => by have := (cT T hT).1 (by rw [hk]; rfl); rw [ea, an_oI (by omega)] at this; exact this)
    have hXM1 := an_X_fr (by decide) s1.1.1 hX
    show mm_Rn _ _ _ _ _ _ 75 [(0, _), (1, _), (2, _)] [] _
    refine mg_aload_n 76 rfl rfl rfl ?_
    refine mg_getR 79 rfl rfl rfl rfl ?_
    refine mg_iload_n 80 rfl rfl rfl ?_
    refine mg_callV1 83 rfl (Nat.le_of_ble_eq_true rfl) pg_Gr_rightIsNode rfl rfl ?_
    refine sp_rightIsNode_3 (by omega) ?_
    show mm_Rn _ _ _ _ _ _ 83 [(0, _), (1, _), (2, _)] [_] _
    refine mg_if_eq 86 99 rfl rfl (by decide) (fun c_83 => absurd c_83 (by decide)) (fun c_83 => ?_)
    refine mg_aload_n 87 rfl rfl rfl ?_
    refine mg_aload_n 88 rfl rfl rfl ?_
    refine mg_getR 91 rfl rfl rfl rfl ?_
    refine mg_getR 94 rfl rfl rfl rfl ?_
    refine mg_iload_n 95 rfl rfl rfl ?_
    refine mg_iald (v := nI jb) 96 rfl rfl (vp_in_nI (by omega : i < 60) (by omega)) (by rw [nI_clamp (by omega), ← eb]; exact (hXM1.2.1 i hi).2.2) rfl ?_
    refine mg_callV1 99 rfl (Nat.le_of_ble_eq_true rfl) pg_An_use rfl rfl ?_
    refine sp_use (by omega) (an_cu_01 hlM1 (by omega)) (by omega) (fun M2 s2 => ?_)
    have hlM2 := an_st_low s2 hlM1 (fun T hT => by have := (cT T hT).2.1 (by rw [hk]; rfl); rw [eb, an_oI (by omega)] at this; exact this)
    show mm_Rn _ _ _ _ _ _ 99 [(0, _), (1, _), (2, _)] [] _
    refine mg_vret rfl rfl ?_
    exact k M2 (an_to_tr s1.1 s2.1) hlM2 ⟨fun _ => by rw [ea, an_oI (by omega)]; exact ms_tr (an_st_v s1) (s2.1.2.2 ja), fun _ => by rw [eb, an_oI (by omega)]; exact an_st_v s2, fun h => absurd (hk.symm.trans h) (by decide)⟩
  · rw [hk]
    obtain ⟨ja, hja, ea, -⟩ := (hW.2.1 i hi).2.2.2.1 (by rw [hk]; rfl)
    refine mg_istore_n (L2 := [(0, _), (1, _), (2, _)]) 10 rfl (by decide) rfl rfl ?_
    refine mg_iload_n 11 rfl rfl rfl ?_
    refine mg_iconst (v := 1) 12 rfl (by decide) rfl ?_
    refine mg_ic_ne 15 51 rfl rfl (by decide) (fun c_12 => ?_) (fun c_12 => absurd c_12 (by decide))
    refine mg_aload_n 52 rfl rfl rfl ?_
    refine mg_getR 55 rfl rfl rfl rfl ?_
    refine mg_iload_n 56 rfl rfl rfl ?_
    refine mg_callV1 59 rfl (Nat.le_of_ble_eq_true rfl) pg_Gr_leftIsNode rfl rfl ?_
    refine sp_leftIsNode_4 (by omega) ?_
    show mm_Rn _ _ _ _ _ _ 59 [(0, _), (1, _), (2, _)] [_] _
    refine mg_if_eq 62 75 rfl rfl (by decide) (fun c_59 => absurd c_59 (by decide)) (fun c_59 => ?_)
    refine mg_aload_n 63 rfl rfl rfl ?_
    refine mg_aload_n 64 rfl rfl rfl ?_
    refine mg_getR 67 rfl rfl rfl rfl ?_
    refine mg_getR 70 rfl rfl rfl rfl ?_
    refine mg_iload_n 71 rfl rfl rfl ?_
    refine mg_iald (v := nI ja) 72 rfl rfl (vp_in_nI (by omega : i < 60) (by omega)) (by rw [nI_clamp (by omega), ← ea]; exact (hX.2.1 i hi).2.1) rfl ?_
    refine mg_callV1 75 rfl (Nat.le_of_ble_eq_true rfl) pg_An_use rfl rfl ?_
    refine sp_use (by omega) (an_cu_01 hl (by omega)) (by omega) (fun M1 s1 => ?_)
    have hlM1 := an_st_low s1 hl (fun T hT => by have := (cT T hT).1 (by rw [hk]; rfl); rw [ea, an_oI (by omega)] at this; exact this)
    have hXM1 := an_X_fr (by decide) s1.1.1 hX
    show mm_Rn _ _ _ _ _ _ 75 [(0, _), (1, _), (2, _)] [] _
    refine mg_aload_n 76 rfl rfl rfl ?_
    refine mg_getR 79 rfl rfl rfl rfl ?_
    refine mg_iload_n 80 rfl rfl rfl ?_
    refine mg_callV1 83 rfl (Nat.le_of_ble_eq_true rfl) pg_Gr_rightIsNode rfl rfl ?_
    refine sp_rightIsNode_4 (by omega) ?_
    show mm_Rn _ _ _ _ _ _ 83 [(0, _), (1, _), (2, _)] [_] _
    refine mg_if_eq 86 99 rfl rfl (by decide) (fun c_83 => ?_) (fun c_83 => absurd c_83 (by decide))
    refine mg_vret rfl rfl ?_
    exact k M1 (s1.1) hlM1 ⟨fun _ => by rw [ea, an_oI (by omega)]; exact an_st_v s1, fun h => absurd h (by rw [hk]; decide), fun h => absurd (hk.symm.trans h) (by decide)⟩
  · rw [hk]
    obtain ⟨ja, hja, ea, -⟩ := (hW.2.1 i hi).2.2.2.1 (by rw [hk]; rfl)
    refine mg_istore_n (L2 := [(0, _), (1, _), (2, _)]) 10 rfl (by decide) rfl rfl ?_
    refine mg_iload_n 11 rfl rfl rfl ?_
    refine mg_iconst (v := 1) 12 rfl (by decide) rfl ?_
    refine mg_ic_ne 15 51 rfl rfl (by decide) (fun c_12 => ?_) (fun c_12 => absurd c_12 (by decide))
    refine mg_aload_n 52 rfl rfl rfl ?_
    refine mg_getR 55 rfl rfl rfl rfl ?_
    refine mg_iload_n 56 rfl rfl rfl ?_
    refine mg_callV1 59 rfl (Nat.le_of_ble_eq_true rfl) pg_Gr_leftIsNode rfl rfl ?_
    refine sp_leftIsNode_5 (by omega) ?_
    show mm_Rn _ _ _ _ _ _ 59 [(0, _), (1, _), (2, _)] [_] _
    refine mg_if_eq 62 75 rfl rfl (by decide) (fun c_59 => absurd c_59 (by decide)) (fun c_59 => ?_)
    refine mg_aload_n 63 rfl rfl rfl ?_
    refine mg_aload_n 64 rfl rfl rfl ?_
    refine mg_getR 67 rfl rfl rfl rfl ?_
    refine mg_getR 70 rfl rfl rfl rfl ?_
    refine mg_iload_n 71 rfl rfl rfl ?_
    refine mg_iald (v := nI ja) 72 rfl rfl (vp_in_nI (by omega : i < 60) (by omega)) (by rw [nI_clamp (by omega), ← ea]; exact (hX.2.1 i hi).2.1) rfl ?_
    refine mg_callV1 75 rfl (Nat.le_of_ble_eq_true rfl) pg_An_use rfl rfl ?_
    refine sp_use (by omega) (an_cu_01 hl (by omega)) (by omega) (fun M1 s1 => ?_)
    have hlM1 := an_st_low s1 hl (fun T hT => by have := (cT T hT).1 (by rw [hk]; rfl); rw [ea, an_oI (by omega)] at this; exact this)
    have hXM1 := an_X_fr (by decide) s1.1.1 hX
    show mm_Rn _ _ _ _ _ _ 75 [(0, _), (1, _), (2, _)] [] _
    refine mg_aload_n 76 rfl rfl rfl ?_
    refine mg_getR 79 rfl rfl rfl rfl ?_
    refine mg_iload_n 80 rfl rfl rfl ?_
    refine mg_callV1 83 rfl (Nat.le_of_ble_eq_true rfl) pg_Gr_rightIsNode rfl rfl ?_
    refine sp_rightIsNode_5 (by omega) ?_
    show mm_Rn _ _ _ _ _ _ 83 [(0, _), (1, _), (2, _)] [_] _
    refine mg_if_eq 86 99 rfl rfl (by decide) (fun c_83 => ?_) (fun c_83 => absurd c_83 (by decide))
    refine mg_vret rfl rfl ?_
    exact k M1 (s1.1) hlM1 ⟨fun _ => by rw [ea, an_oI (by omega)]; exact an_st_v s1, fun h => absurd h (by rw [hk]; decide), fun h => absurd (hk.symm.trans h) (by decide)⟩
  · rw [hk]
    refine mg_istore_n (L2 := [(0, _), (1, _), (2, _)]) 10 rfl (by decide) rfl rfl ?_
    refine mg_iload_n 11 rfl rfl rfl ?_
    refine mg_iconst (v := 1) 12 rfl (by decide) rfl ?_
    refine mg_ic_ne 15 51 rfl rfl (by decide) (fun c_12 => ?_) (fun c_12 => absurd c_12 (by decide))
    refine mg_aload_n 52 rfl rfl rfl ?_
    refine mg_getR 55 rfl rfl rfl rfl ?_
    refine mg_iload_n 56 rfl rfl rfl ?_
    refine mg_callV1 59 rfl (Nat.le_of_ble_eq_true rfl) pg_Gr_leftIsNode rfl rfl ?_
    refine sp_leftIsNode_6 (by omega) ?_
    show mm_Rn _ _ _ _ _ _ 59 [(0, _), (1, _), (2, _)] [_] _
    refine mg_if_eq 62 75 rfl rfl (by decide) (fun c_59 => ?_) (fun c_59 => absurd c_59 (by decide))
    refine mg_aload_n 76 rfl rfl rfl ?_
    refine mg_getR 79 rfl rfl rfl rfl ?_
    refine mg_iload_n 80 rfl rfl rfl ?_
    refine mg_callV1 83 rfl (Nat.le_of_ble_eq_true rfl) pg_Gr_rightIsNode rfl rfl ?_
    refine sp_rightIsNode_6 (by omega) ?_
    show mm_Rn _ _ _ _ _ _ 83 [(0, _), (1, _), (2, _)] [_] _
    refine mg_if_eq 86 99 rfl rfl (by decide) (fun c_83 => ?_) (fun c_83 => absurd c_83 (by decide))
    refine mg_vret rfl rfl ?_
    exact k M (an_to_rf 8 M) hl ⟨fun h => absurd h (by rw [hk]; decide), fun h => absurd h (by rw [hk]; decide), fun h => absurd (hk.symm.trans h) (by decide)⟩
  · rw [hk]
    obtain ⟨ja, hja, ea, -⟩ := (hW.2.1 i hi).2.2.2.1 (by rw [hk]; rfl)
    obtain ⟨jb, hjb, eb, -⟩ := (hW.2.1 i hi).2.2.2.2.1 (by rw [hk]; rfl)
    refine mg_istore_n (L2 := [(0, _), (1, _), (2, _)]) 10 rfl (by decide) rfl rfl ?_
    refine mg_iload_n 11 rfl rfl rfl ?_
    refine mg_iconst (v := 1) 12 rfl (by decide) rfl ?_
    refine mg_ic_ne 15 51 rfl rfl (by decide) (fun c_12 => ?_) (fun c_12 => absurd c_12 (by decide))
    refine mg_aload_n 52 rfl rfl rfl ?_
    refine mg_getR 55 rfl rfl rfl rfl ?_
    refine mg_iload_n 56 rfl rfl rfl ?_
    refine mg_callV1 59 rfl (Nat.le_of_ble_eq_true rfl) pg_Gr_leftIsNode rfl rfl ?_
    refine sp_leftIsNode_7 (by omega) ?_
    show mm_Rn _ _ _ _ _ _ 59 [(0, _), (1, _), (2, _)] [_] _
    refine mg_if_eq 62 75 rfl rfl (by decide) (fun c_59 => absurd c_59 (by decide)) (fun c_59 => ?_)
    refine mg_aload_n 63 rfl rfl rfl ?_
    refine mg_aload_n 64 rfl rfl rfl ?_
    refine mg_getR 67 rfl rfl rfl rfl ?_
    refine mg_getR 70 rfl rfl rfl rfl ?_
    refine mg_iload_n 71 rfl rfl rfl ?_
    refine mg_iald (v := nI ja) 72 rfl rfl (vp_in_nI (by omega : i < 60) (by omega)) (by rw [nI_clamp (by omega), ← ea]; exact (hX.2.1 i hi).2.1) rfl ?_
    refine mg_callV1 75 rfl (Nat.le_of_ble_eq_true rfl) pg_An_use rfl rfl ?_
    refine sp_use (by omega) (an_cu_01 hl (by omega)) (by omega) (fun M1 s1 => ?_)
    have hlM1 := an_st_low s1 hl (fun T hT => by have := (cT T hT).1 (by rw [hk]; rfl); rw [ea, an_oI (by omega)] at this; exact this)
    have hXM1 := an_X_fr (by decide) s1.1.1 hX
    show mm_Rn _ _ _ _ _ _ 75 [(0, _), (1, _), (2, _)] [] _
    refine mg_aload_n 76 rfl rfl rfl ?_
    refine mg_getR 79 rfl rfl rfl rfl ?_
    refine mg_iload_n 80 rfl rfl rfl ?_
    refine mg_callV1 83 rfl (Nat.le_of_ble_eq_true rfl) pg_Gr_rightIsNode rfl rfl ?_
    refine sp_rightIsNode_7 (by omega) ?_
    show mm_Rn _ _ _ _ _ _ 83 [(0, _), (1, _), (2, _)] [_] _
    refine mg_if_eq 86 99 rfl rfl (by decide) (fun c_83 => absurd c_83 (by decide)) (fun c_83 => ?_)
    refine mg_aload_n 87 rfl rfl rfl ?_
    refine mg_aload_n 88 rfl rfl rfl ?_
    refine mg_getR 91 rfl rfl rfl rfl ?_
    refine mg_getR 94 rfl rfl rfl rfl ?_
    refine mg_iload_n 95 rfl rfl rfl ?_
    refine mg_iald (v := nI jb) 96 rfl rfl (vp_in_nI (by omega : i < 60) (by omega)) (by rw [nI_clamp (by omega), ← eb]; exact (hXM1.2.1 i hi).2.2) rfl ?_
    refine mg_callV1 99 rfl (Nat.le_of_ble_eq_true rfl) pg_An_use rfl rfl ?_
    refine sp_use (by omega) (an_cu_01 hlM1 (by omega)) (by omega) (fun M2 s2 => ?_)
    have hlM2 := an_st_low s2 hlM1 (fun T hT => by have := (cT T hT).2.1 (by rw [hk]; rfl); rw [eb, an_oI (by omega)] at this; exact this)
    show mm_Rn _ _ _ _ _ _ 99 [(0, _), (1, _), (2, _)] [] _
    refine mg_vret rfl rfl ?_
    exact k M2 (an_to_tr s1.1 s2.1) hlM2 ⟨fun _ => by rw [ea, an_oI (by omega)]; exact ms_tr (an_st_v s1) (s2.1.2.2 ja), fun _ => by rw [eb, an_oI (by omega)]; exact an_st_v s2, fun h => absurd (hk.symm.trans h) (by decide)⟩
  · rw [hk]
    obtain ⟨jb, hjb, eb, -⟩ := (hW.2.1 i hi).2.2.2.2.1 (by rw [hk]; rfl)
    refine mg_istore_n (L2 := [(0, _), (1, _), (2, _)]) 10 rfl (by decide) rfl rfl ?_
    refine mg_iload_n 11 rfl rfl rfl ?_
    refine mg_iconst (v := 1) 12 rfl (by decide) rfl ?_
    refine mg_ic_ne 15 51 rfl rfl (by decide) (fun c_12 => ?_) (fun c_12 => absurd c_12 (by decide))
    refine mg_aload_n 52 rfl rfl rfl ?_
    refine mg_getR 55 rfl rfl rfl rfl ?_
    refine mg_iload_n 56 rfl rfl rfl ?_
    refine mg_callV1 59 rfl (Nat.le_of_ble_eq_true rfl) pg_Gr_leftIsNode rfl rfl ?_
    refine sp_leftIsNode_8 (by omega) ?_
    show mm_Rn _ _ _ _ _ _ 59 [(0, _), (1, _), (2, _)] [_] _
    refine mg_if_eq 62 75 rfl rfl (by decide) (fun c_59 => ?_) (fun c_59 => absurd c_59 (by decide))
    refine mg_aload_n 76 rfl rfl rfl ?_
    refine mg_getR 79 rfl rfl rfl rfl ?_
    refine mg_iload_n 80 rfl rfl rfl ?_
    refine mg_callV1 83 rfl (Nat.le_of_ble_eq_true rfl) pg_Gr_rightIsNode rfl rfl ?_
    refine sp_rightIsNode_8 (by omega) ?_
    show mm_Rn _ _ _ _ _ _ 83 [(0, _), (1, _), (2, _)] [_] _
    refine mg_if_eq 86 99 rfl rfl (by decide) (fun c_83 => absurd c_83 (by decide)) (fun c_83 => ?_)
    refine mg_aload_n 87 rfl rfl rfl ?_
    refine mg_aload_n 88 rfl rfl rfl ?_
    refine mg_getR 91 rfl rfl rfl rfl ?_
    refine mg_getR 94 rfl rfl rfl rfl ?_
    refine mg_iload_n 95 rfl rfl rfl ?_
    refine mg_iald (v := nI jb) 96 rfl rfl (vp_in_nI (by omega : i < 60) (by omega)) (by rw [nI_clamp (by omega), ← eb]; exact (hX.2.1 i hi).2.2) rfl ?_
    refine mg_callV1 99 rfl (Nat.le_of_ble_eq_true rfl) pg_An_use rfl rfl ?_
    refine sp_use (by omega) (an_cu_01 hl (by omega)) (by omega) (fun M1 s1 => ?_)
    have hlM1 := an_st_low s1 hl (fun T hT => by have := (cT T hT).2.1 (by rw [hk]; rfl); rw [eb, an_oI (by omega)] at this; exact this)
    show mm_Rn _ _ _ _ _ _ 99 [(0, _), (1, _), (2, _)] [] _
    refine mg_vret rfl rfl ?_
    exact k M1 (s1.1) hlM1 ⟨fun h => absurd h (by rw [hk]; decide), fun _ => by rw [eb, an_oI (by omega)]; exact an_st_v s1, fun h => absurd (hk.symm.trans h) (by decide)⟩
set_option maxHeartbeats 2000000 in
set_option maxRecDepth 20000 in
theorem lp_fu1 {d : Nat} {M1 : mm_M} {Q : mm_Qt} {rr : mm_V} {n : Nat} {kd lv : Nat → Nat} {a b kp : Nat → Int32} {rt : Nat} (hW : st_wf n kd lv a b kp) (hX : an_X M1 n kd a b kp rt) (hd : 3 ≤ d) (k : ∀ M, an_to 8 M1 M → an_low (an_cu n kd a b kp rt) (M 8) → (M = M1 → ∀ i, i < n → ms_le 1 (M1 8 i) → an_cu1 kd a b kp (M1 8) i) → mm_Rn pg ly d (mm_Ev pg ly d) yy_An_findUsed Q 68 [(0, .inr 7), (1, rr)] [] M) :
    ∀ (i : Nat) (x : Int32) (M : mm_M), i ≤ n → x = nI i - 1 → an_to 8 M1 M → an_low (an_cu n kd a b kp rt) (M 8) → (M = M1 → ∀ q, i ≤ q → q < n → ms_le 1 (M1 8 q) → an_cu1 kd a b kp (M1 8) q) → mm_Rn pg ly d (mm_Ev pg ly d) yy_An_findUsed Q 44 [(0, .inr 7), (1, rr), (2, .inl x)] [] M := by
  have hn : n ≤ 60 := hW.1
  intro i
  induction i with
  | zero =>
    intro x M hi ex ht hl hp
    subst ex
    refine mg_iload_n 45 rfl rfl rfl ?_
    refine mg_if_lt 48 68 rfl rfl (by decide) (fun c_45 => ?_) (fun c_45 => absurd c_45 (by decide))
    exact mg_loc [(0, _), (1, _)] ⟨rfl, rfl, trivial⟩ (k M ht hl (fun e q hq => hp e q (by omega) hq))
  | succ i ih =>
    intro x M hi ex ht hl hp
    have ex2 : x = nI i := by rw [ex]; exact nI_pred i
    subst ex2
    have hX2 := an_X_fr (by decide) ht.1 hX
    refine mg_iload_n 45 rfl rfl rfl ?_
    refine mg_if_lt 48 68 rfl rfl (by decide) (fun c_45 => absurd c_45 (nI_pos (by omega))) (fun c_45 => ?_)
    refine mg_aload_n 49 rfl rfl rfl ?_
    refine mg_getR 52 rfl rfl rfl rfl ?_
    refine mg_iload_n 53 rfl rfl rfl ?_
    refine mg_zald (v := M 8 i) 54 rfl rfl (vp_in_nI (by omega : i < 60) (by omega)) (by rw [nI_clamp (by omega)]) rfl ?_
    refine mg_if_eq 57 62 rfl rfl (by decide) (fun c_54 => ?_) (fun c_54 => ?_)
    · refine mg_iinc (v := _ + (-1)) (L2 := [(0, _), (1, _), (2, _)]) 65 rfl rfl (by decide) rfl rfl rfl ?_
      refine mg_goto 44 rfl (by decide) ?_
      exact ih _ _ (by omega) (pk_m1' i) ht hl (fun e q h1 h2 h3 => by
        rcases Nat.lt_or_ge i q with h | h
        · exact hp e q h h2 h3
        · have : q = i := by omega
          subst this
          rw [e] at c_54
          exact absurd c_54 (ms_1n0 h3))
    · refine mg_aload_n 58 rfl rfl rfl ?_
      refine mg_iload_n 59 rfl rfl rfl ?_
      refine mg_callV1 62 rfl (Nat.le_of_ble_eq_true rfl) pg_An_useParts rfl rfl ?_
      refine sp_useParts hW hX2 (by omega) (ms_1of (an_cu_01 hl (by omega)) c_54) hl (by omega) (fun M2 t2 hl2 hc => ?_)
      show mm_Rn _ _ _ _ _ _ 62 [(0, _), (1, _), (2, _)] [] _
      refine mg_iinc (v := _ + (-1)) (L2 := [(0, _), (1, _), (2, _)]) 65 rfl rfl (by decide) rfl rfl rfl ?_
      refine mg_goto 44 rfl (by decide) ?_
      exact ih _ _ (by omega) (pk_m1' i) (an_to_tr ht t2) hl2 (fun e q h1 h2 h3 => by
        have e0 := an_to_eq ht t2 e
        rcases Nat.lt_or_ge i q with h | h
        · exact hp e0 q h h2 h3
        · have : q = i := by omega
          subst this
          rw [← e]; exact hc)
set_option maxHeartbeats 2000000 in
set_option maxRecDepth 20000 in
theorem lp_fu2 {d : Nat} {Q : mm_Qt} {M0 : mm_M} {n : Nat} {kd lv : Nat → Nat} {a b kp : Nat → Int32} {rt : Nat} (hW : st_wf n kd lv a b kp) (hX : an_X M0 n kd a b kp rt) (hd : 3 ≤ d) (k : ∀ M, an_fr 8 M0 M → an_lst (an_cu n kd a b kp rt) (M 8) → Q none M) :
    ∀ (r : Nat) (x : Int32) (M : mm_M), r ≤ 661 → x = nI r → an_fr 8 M0 M → an_low (an_cu n kd a b kp rt) (M 8) → ms_le 1 (M 8 rt) → ((M 7 9 = 1 ∧ r ≤ an_cnt (M 8) 60) ∨ (M 7 9 = 0 ∧ ∀ i, i < n → ms_le 1 (M 8 i) → an_cu1 kd a b kp (M 8) i)) → mm_Rn pg ly d (mm_Ev pg ly d) yy_An_findUsed Q 15 [(0, .inr 7), (1, .inl x)] [] M := by
  have hn : n ≤ 60 := hW.1
  intro r
  induction hm : 661 - r using Nat.strongRecOn generalizing r with
  | _ m ih =>
    intro x M hr ex hf hl hrt hc
    subst ex
    have hX1 := an_X_fr (by decide) hf hX
    rcases hc with ⟨hc1, hc2⟩ | ⟨hc1, hc2⟩
    · have hb := an_low_bd hl (an_cu_1 n kd a b kp rt)
      have e1 : ms_c 1 32 = 1 := by decide
      rw [e1] at hb
      refine mg_aload_n 16 rfl rfl rfl ?_
      refine mg_getI (v := 1) 19 rfl rfl (Or.inr rfl) hc1 rfl ?_
      refine mg_if_eq 22 74 rfl rfl (by decide) (fun c_19 => absurd c_19 (by decide)) (fun c_19 => ?_)
      refine mg_iload_n 23 rfl rfl rfl ?_
      refine mg_sipush (v := 661) 26 rfl (by decide) rfl ?_
      refine mg_ic_ge 29 74 rfl rfl (by decide) (fun c_26 => absurd c_26 (nI_ge (b := 661) (by omega) (by omega))) (fun c_26 => ?_)
      refine mg_aload_n 30 rfl rfl rfl ?_
      refine mg_iconst (v := 0) 31 rfl (by decide) rfl ?_
      refine mg_putZ 34 rfl rfl rfl (by first | exact Or.inl rfl | exact Or.inr rfl) rfl ?_
      refine mg_aload_n 35 rfl rfl rfl ?_
      refine mg_getR 38 rfl rfl rfl rfl ?_
      refine mg_getI (v := nI n) 41 rfl rfl (Or.inl rfl) hX1.1 rfl ?_
      refine mg_iconst (v := 1) 42 rfl (by decide) rfl ?_
      refine mg_isub (v := nI n - 1) 43 rfl rfl rfl ?_
      refine mg_istore_n (L2 := [(0, _), (1, _), (2, _)]) 44 rfl (by decide) rfl rfl ?_
      obtain ⟨hf0, e8⟩ := an_to_set 8 M (by decide)
      refine mg_loc [(0, _), (1, _), (2, _)] ⟨rfl, rfl, rfl, trivial⟩ (lp_fu1 (M1 := mm_up M 7 9 0) hW (an_X_fr (by decide) hf0 hX1) hd (fun M2 t2 hl2 hp2 => ?_) n _ _ (by omega) rfl (an_to_rf 8 _) (by rw [e8]; exact hl) (fun _ q h1 h2 => by omega))
      refine mg_iinc (v := _ + 1) (L2 := [(0, _), (1, _)]) 71 rfl rfl (by decide) rfl rfl rfl ?_
      refine mg_goto 15 rfl (by decide) ?_
      have hf2 := an_fr_tr hf (an_fr_tr hf0 t2.1)
      have hrt2 : ms_le 1 (M2 8 rt) := ms_tr (by rw [e8]; exact hrt) (t2.2.2 rt)
      rcases t2.2.1 with e2 | ⟨e2, c2⟩
      · exact ih _ (by omega) (r + 1) rfl _ M2 (by omega) (nI_1 r) hf2 hl2 hrt2 (Or.inr ⟨by rw [e2]; simp [mm_up, upd], by rw [e2]; exact hp2 e2⟩)
      · rw [e8] at c2
        exact ih _ (by omega) (r + 1) rfl _ M2 (by omega) (nI_1 r) hf2 hl2 hrt2 (Or.inl ⟨e2, by omega⟩)
    · refine mg_aload_n 16 rfl rfl rfl ?_
      refine mg_getI (v := 0) 19 rfl rfl (Or.inr rfl) hc1 rfl ?_
      refine mg_if_eq 22 74 rfl rfl (by decide) (fun c_19 => ?_) (fun c_19 => absurd c_19 (by decide))
      refine mg_vret rfl rfl ?_
      exact k M hf ⟨⟨hrt, hc2⟩, hl⟩
set_option maxHeartbeats 2000000 in
set_option maxRecDepth 20000 in
theorem sp_findUsed {d : Nat} {M : mm_M} {Q : mm_Qt} {n : Nat} {kd lv : Nat → Nat} {a b kp : Nat → Int32} {rt : Nat} (hW : st_wf n kd lv a b kp) (hX : an_X M n kd a b kp rt) (hrt : rt < n) (h0 : ∀ i, i < 60 → M 8 i = 0) (hd : 4 ≤ d) (k : ∀ M', an_fr 8 M M' → an_lst (an_cu n kd a b kp rt) (M' 8) → Q none M') : mm_Ev pg ly d 29 [.inr 7] M Q := by
  have hn : n ≤ 60 := hW.1
  have hl0 : an_low (an_cu n kd a b kp rt) (M 8) := fun T hT i hi => by rw [h0 i hi]; exact ms_0 _
  obtain ⟨d, rfl⟩ : ∃ e, d = e + 1 := ⟨d - 1, by omega⟩
  refine mg_body yy_An_findUsed pg_An_findUsed (Nat.le_of_ble_eq_true rfl) ?_
  show mm_Rn _ _ _ _ _ _ 0 [(0, _)] [] _
  refine mg_aload_n 1 rfl rfl rfl ?_
  refine mg_aload_n 2 rfl rfl rfl ?_
  refine mg_getI (v := nI rt) 5 rfl rfl (Or.inl rfl) hX.2.2.2 rfl ?_
  refine mg_callV1 8 rfl (Nat.le_of_ble_eq_true rfl) pg_An_use rfl rfl ?_
  refine sp_use (by omega) (Or.inl (h0 rt (by omega))) (by omega) (fun M1 s1 => ?_)
  show mm_Rn _ _ _ _ _ _ 8 [(0, _)] [] _
  refine mg_aload_n 9 rfl rfl rfl ?_
  refine mg_iconst (v := 1) 10 rfl (by decide) rfl ?_
  refine mg_putZ 13 rfl rfl rfl (by first | exact Or.inl rfl | exact Or.inr rfl) rfl ?_
  refine mg_iconst (v := 0) 14 rfl (by decide) rfl ?_
  refine mg_istore_n (L2 := [(0, _), (1, _)]) 15 rfl (by decide) rfl rfl ?_
  have hl1 := an_st_low s1 hl0 (fun T hT => hT.1)
  have hfs : an_fr 8 M1 (mm_up M1 7 9 1) := ⟨fun k _ h => by simp [mm_up, h], fun j hj => by simp [mm_up, upd, hj]⟩
  have e8 : mm_up M1 7 9 1 8 = M1 8 := by simp [mm_up]
  exact lp_fu2 (M0 := M) hW hX (by omega) k 0 0 _ (by omega) rfl (an_fr_tr s1.1.1 hfs) (by rw [e8]; exact hl1) (by rw [e8]; exact an_st_v s1) (Or.inl ⟨by simp [mm_up, upd], Nat.zero_le _⟩)
