set_option maxHeartbeats 2000000 in
set_option maxRecDepth 20000 in
theorem sm_nextTo {d : Nat} {M : mm_M} {Q : mm_Qt} {j : Nat} {v : Int32} (hj : j < 60) (hd : 1 ≤ d) (k : ∀ fl M', an_ms 31 j v fl M M' → Q (some (.inl fl)) M') : mm_Ev pg ly d 77 [.inr 21, .inl (nI j), .inl v] M Q := by
  obtain ⟨d, rfl⟩ : ∃ e, d = e + 1 := ⟨d - 1, by omega⟩
  refine mg_body yy_Mo_nextTo pg_Mo_nextTo (Nat.le_of_ble_eq_true rfl) ?_
  show mm_Rn _ _ _ _ _ _ 0 [(0, _), (1, _), (2, _)] [] _
  refine mg_aload_n 1 rfl rfl rfl ?_
  refine mg_getR 4 rfl rfl rfl rfl ?_
  refine mg_iload_n 5 rfl rfl rfl ?_
  refine mg_iald (v := M 31 j) 6 rfl rfl (vp_in_nI (by omega : j < 60) (by omega)) (by rw [nI_clamp (by omega)]) rfl ?_
  refine mg_iload_n 7 rfl rfl rfl ?_
  refine mg_ior 8 rfl rfl rfl ?_
  refine mg_aload_n 9 rfl rfl rfl ?_
  refine mg_getR 12 rfl rfl rfl rfl ?_
  refine mg_iload_n 13 rfl rfl rfl ?_
  refine mg_iald (v := M 31 j) 14 rfl rfl (vp_in_nI (by omega : j < 60) (by omega)) (by rw [nI_clamp (by omega)]) rfl ?_
  refine mg_ic_eq 17 21 rfl rfl (by decide) (fun c_14 => ?_) (fun c_14 => ?_)
  · refine mg_iconst (v := 0) 22 rfl (by decide) rfl ?_
    refine mg_istore_n (L2 := [(0, _), (1, _), (2, _), (3, _)]) 23 rfl (by decide) rfl rfl ?_
    refine mg_aload_n 24 rfl rfl rfl ?_
    refine mg_getR 27 rfl rfl rfl rfl ?_
    refine mg_iload_n 28 rfl rfl rfl ?_
    refine mg_dup2 29 rfl rfl ?_
    refine mg_iald (v := M 31 j) 30 rfl rfl (vp_in_nI (by omega : j < 60) (by omega)) (by rw [nI_clamp (by omega)]) rfl ?_
    refine mg_iload_n 31 rfl rfl rfl ?_
    refine mg_ior 32 rfl rfl rfl ?_
    refine mg_iast (j := j) 33 rfl rfl (vp_in_nI (by omega : j < 60) (by omega)) (nI_clamp (by omega)) rfl ?_
    refine mg_iload_n 34 rfl rfl rfl ?_
    refine mg_zret rfl rfl (by first | exact Or.inl rfl | exact Or.inr rfl) ?_
    exact k 0 _ (an_ms_no c_14)
  · refine mg_iconst (v := 1) 18 rfl (by decide) rfl ?_
    refine mg_goto 22 rfl (by decide) ?_
    refine mg_istore_n (L2 := [(0, _), (1, _), (2, _), (3, _)]) 23 rfl (by decide) rfl rfl ?_
    refine mg_aload_n 24 rfl rfl rfl ?_
    refine mg_getR 27 rfl rfl rfl rfl ?_
    refine mg_iload_n 28 rfl rfl rfl ?_
    refine mg_dup2 29 rfl rfl ?_
    refine mg_iald (v := M 31 j) 30 rfl rfl (vp_in_nI (by omega : j < 60) (by omega)) (by rw [nI_clamp (by omega)]) rfl ?_
    refine mg_iload_n 31 rfl rfl rfl ?_
    refine mg_ior 32 rfl rfl rfl ?_
    refine mg_iast (j := j) 33 rfl rfl (vp_in_nI (by omega : j < 60) (by omega)) (nI_clamp (by omega)) rfl ?_
    refine mg_iload_n 34 rfl rfl rfl ?_
    refine mg_zret rfl rfl (by first | exact Or.inl rfl | exact Or.inr rfl) ?_
    exact k 1 _ (an_ms_up hj c_14)
set_option maxHeartbeats 2000000 in
set_option maxRecDepth 20000 in
theorem sm_giveNext {d : Nat} {M : mm_M} {Q : mm_Qt} {i : Nat} {n : Nat} {kd lv : Nat → Nat} {a b kp us : Nat → Int32} {rt : Nat} (hW : st_wf n kd lv a b kp) (hX : an_M M n kd a b kp) (hU : st_us n kd a b kp us rt) {em fi : Nat → Int32} (hM29 : ∀ j, j < 60 → M 29 j = em j) (hM30 : ∀ j, j < 60 → M 30 j = fi j) (hi : i < n) (hu : us i = 1) (hl : an_low (an_cn n kd a b kp us em fi rt) (M 31)) (hd : 2 ≤ d) (k : ∀ fl M', an_mt 31 fl M M' → an_low (an_cn n kd a b kp us em fi rt) (M' 31) → (M' = M → an_cn1 kd a b kp em fi (M 31) i) → Q (some (.inl fl)) M') : mm_Ev pg ly d 78 [.inr 21, .inl (nI i)] M Q := by
  have hn : n ≤ 60 := hW.1
  have hO := an_ok_of hW hU hi hu
  have cT : ∀ T, an_cn n kd a b kp us em fi rt T → an_cn1 kd a b kp em fi T i := fun T hT => hT.2 i hi hu
  obtain ⟨d, rfl⟩ : ∃ e, d = e + 1 := ⟨d - 1, by omega⟩
  refine mg_body yy_Mo_giveNext pg_Mo_giveNext (Nat.le_of_ble_eq_true rfl) ?_
  show mm_Rn _ _ _ _ _ _ 0 [(0, _), (1, _)] [] _
  refine mg_aload_n 1 rfl rfl rfl ?_
  refine mg_getR 4 rfl rfl rfl rfl ?_
  refine mg_iload_n 5 rfl rfl rfl ?_
  refine mg_iald (v := nI (kd i)) 6 rfl rfl (vp_in_nI (by omega : i < 60) (by omega)) (by rw [nI_clamp (by omega)]; exact (hX.2.1 i hi).1) rfl ?_
  rcases st_k9 (hW.2.1 i hi).1 with hk | hk | hk | hk | hk | hk | hk | hk | hk
  · rw [hk]
    refine mg_istore_n (L2 := [(0, _), (1, _), (2, _)]) 7 rfl (by decide) rfl rfl ?_
    refine mg_aload_n 8 rfl rfl rfl ?_
    refine mg_getR 11 rfl rfl rfl rfl ?_
    refine mg_iload_n 12 rfl rfl rfl ?_
    refine mg_iald (v := a i) 13 rfl rfl (vp_in_nI (by omega : i < 60) (by omega)) (by rw [nI_clamp (by omega)]; exact (hX.2.1 i hi).2.1) rfl ?_
    refine mg_istore_n (L2 := [(0, _), (1, _), (2, _), (3, _)]) 14 rfl (by decide) rfl rfl ?_
    refine mg_aload_n 15 rfl rfl rfl ?_
    refine mg_getR 18 rfl rfl rfl rfl ?_
    refine mg_iload_n 19 rfl rfl rfl ?_
    refine mg_iald (v := b i) 20 rfl rfl (vp_in_nI (by omega : i < 60) (by omega)) (by rw [nI_clamp (by omega)]; exact (hX.2.1 i hi).2.2) rfl ?_
    refine mg_istore (L2 := [(0, _), (1, _), (2, _), (3, _), (4, _)]) 22 rfl (by decide) rfl rfl ?_
    refine mg_aload_n 23 rfl rfl rfl ?_
    refine mg_getR 26 rfl rfl rfl rfl ?_
    refine mg_iload_n 27 rfl rfl rfl ?_
    refine mg_iald (v := M 31 i) 28 rfl rfl (vp_in_nI (by omega : i < 60) (by omega)) (by rw [nI_clamp (by omega)]) rfl ?_
    refine mg_istore (L2 := [(0, _), (1, _), (2, _), (3, _), (4, _), (5, _)]) 30 rfl (by decide) rfl rfl ?_
    refine mg_iconst (v := 0) 31 rfl (by decide) rfl ?_
    refine mg_istore (L2 := [(0, _), (1, _), (2, _), (3, _), (4, _), (5, _), (6, _)]) 33 rfl (by decide) rfl rfl ?_
    refine mg_iload_n 34 rfl rfl rfl ?_
    refine mg_iconst (v := 1) 35 rfl (by decide) rfl ?_
    refine mg_ic_ne 38 51 rfl rfl (by decide) (fun c_35 => ?_) (fun c_35 => absurd c_35 (by decide))
    refine mg_iload_n 52 rfl rfl rfl ?_
    refine mg_iconst (v := 2) 53 rfl (by decide) rfl ?_
    refine mg_ic_ne 56 100 rfl rfl (by decide) (fun c_53 => ?_) (fun c_53 => absurd c_53 (by decide))
    refine mg_iload_n 101 rfl rfl rfl ?_
    refine mg_iconst (v := 3) 102 rfl (by decide) rfl ?_
    refine mg_ic_eq 105 110 rfl rfl (by decide) (fun c_102 => absurd c_102 (by decide)) (fun c_102 => ?_)
    refine mg_iload_n 106 rfl rfl rfl ?_
    refine mg_iconst (v := 4) 107 rfl (by decide) rfl ?_
    refine mg_ic_ne 110 119 rfl rfl (by decide) (fun c_107 => ?_) (fun c_107 => absurd c_107 (by decide))
    refine mg_iload_n 120 rfl rfl rfl ?_
    refine mg_iconst (v := 5) 121 rfl (by decide) rfl ?_
    refine mg_ic_ne 124 140 rfl rfl (by decide) (fun c_121 => ?_) (fun c_121 => absurd c_121 (by decide))
    refine mg_iload_n 141 rfl rfl rfl ?_
    refine mg_iconst (v := 3) 142 rfl (by decide) rfl ?_
    refine mg_ic_eq 145 151 rfl rfl (by decide) (fun c_142 => absurd c_142 (by decide)) (fun c_142 => ?_)
    refine mg_iload_n 146 rfl rfl rfl ?_
    refine mg_bipush (v := 6) 148 rfl (by decide) rfl ?_
    refine mg_ic_le 151 164 rfl rfl (by decide) (fun c_148 => ?_) (fun c_148 => absurd c_148 (by decide))
    refine mg_iload 166 rfl rfl rfl ?_
    refine mg_zret rfl rfl (an_mt_01 (an_mt_rf 31 M)) ?_
    exact k 0 M (an_mt_rf 31 M) hl (fun _ => an_cn1_0 hk)
  · rw [hk]
    obtain ⟨r, jc, hr, ea, hjc, hjcn, ekp, -⟩ := hO.2.2.2 hk
    refine mg_istore_n (L2 := [(0, _), (1, _), (2, _)]) 7 rfl (by decide) rfl rfl ?_
    refine mg_aload_n 8 rfl rfl rfl ?_
    refine mg_getR 11 rfl rfl rfl rfl ?_
    refine mg_iload_n 12 rfl rfl rfl ?_
    refine mg_iald (v := a i) 13 rfl rfl (vp_in_nI (by omega : i < 60) (by omega)) (by rw [nI_clamp (by omega)]; exact (hX.2.1 i hi).2.1) rfl ?_
    refine mg_istore_n (L2 := [(0, _), (1, _), (2, _), (3, _)]) 14 rfl (by decide) rfl rfl ?_
    refine mg_aload_n 15 rfl rfl rfl ?_
    refine mg_getR 18 rfl rfl rfl rfl ?_
    refine mg_iload_n 19 rfl rfl rfl ?_
    refine mg_iald (v := b i) 20 rfl rfl (vp_in_nI (by omega : i < 60) (by omega)) (by rw [nI_clamp (by omega)]; exact (hX.2.1 i hi).2.2) rfl ?_
    refine mg_istore (L2 := [(0, _), (1, _), (2, _), (3, _), (4, _)]) 22 rfl (by decide) rfl rfl ?_
    refine mg_aload_n 23 rfl rfl rfl ?_
    refine mg_getR 26 rfl rfl rfl rfl ?_
    refine mg_iload_n 27 rfl rfl rfl ?_
    refine mg_iald (v := M 31 i) 28 rfl rfl (vp_in_nI (by omega : i < 60) (by omega)) (by rw [nI_clamp (by omega)]) rfl ?_
    refine mg_istore (L2 := [(0, _), (1, _), (2, _), (3, _), (4, _), (5, _)]) 30 rfl (by decide) rfl rfl ?_
    refine mg_iconst (v := 0) 31 rfl (by decide) rfl ?_
    refine mg_istore (L2 := [(0, _), (1, _), (2, _), (3, _), (4, _), (5, _), (6, _)]) 33 rfl (by decide) rfl rfl ?_
    refine mg_iload_n 34 rfl rfl rfl ?_
    refine mg_iconst (v := 1) 35 rfl (by decide) rfl ?_
    refine mg_ic_ne 38 51 rfl rfl (by decide) (fun c_35 => absurd c_35 (by decide)) (fun c_35 => ?_)
    refine mg_aload_n 39 rfl rfl rfl ?_
    refine mg_aload_n 40 rfl rfl rfl ?_
    refine mg_iload_n 41 rfl rfl rfl ?_
    refine mg_callV1 44 rfl (Nat.le_of_ble_eq_true rfl) pg_Mo_callee rfl rfl ?_
    refine sm_callee hX hn hi hr ea (by omega) ?_
    rw [ekp]
    show mm_Rn _ _ _ _ _ _ 44 [(0, _), (1, _), (2, _), (3, _), (4, _), (5, _), (6, _)] [_, _] _
    refine mg_iload 46 rfl rfl rfl ?_
    refine mg_callV2 49 rfl (Nat.le_of_ble_eq_true rfl) pg_Mo_nextTo rfl rfl ?_
    refine sm_nextTo (by omega) (by omega) (fun f1 N1 s1 => ?_)
    have hl1 := an_ms_low s1 hl (fun T hT => by have h := (cT T hT).1 hk; rw [ea, an_oI (by omega), ekp, an_oI (by omega)] at h; exact ms_tr (hl T hT i (by omega)) h)
    show mm_Rn _ _ _ _ _ _ 49 [(0, _), (1, _), (2, _), (3, _), (4, _), (5, _), (6, _)] [_] _
    refine mg_istore (L2 := [(0, _), (1, _), (2, _), (3, _), (4, _), (5, _), (6, _)]) 51 rfl (by decide) rfl rfl ?_
    refine mg_iload_n 52 rfl rfl rfl ?_
    refine mg_iconst (v := 2) 53 rfl (by decide) rfl ?_
    refine mg_ic_ne 56 100 rfl rfl (by decide) (fun c_53 => ?_) (fun c_53 => absurd c_53 (by decide))
    refine mg_iload_n 101 rfl rfl rfl ?_
    refine mg_iconst (v := 3) 102 rfl (by decide) rfl ?_
    refine mg_ic_eq 105 110 rfl rfl (by decide) (fun c_102 => absurd c_102 (by decide)) (fun c_102 => ?_)
    refine mg_iload_n 106 rfl rfl rfl ?_
    refine mg_iconst (v := 4) 107 rfl (by decide) rfl ?_
    refine mg_ic_ne 110 119 rfl rfl (by decide) (fun c_107 => ?_) (fun c_107 => absurd c_107 (by decide))
    refine mg_iload_n 120 rfl rfl rfl ?_
    refine mg_iconst (v := 5) 121 rfl (by decide) rfl ?_
    refine mg_ic_ne 124 140 rfl rfl (by decide) (fun c_121 => ?_) (fun c_121 => absurd c_121 (by decide))
    refine mg_iload_n 141 rfl rfl rfl ?_
    refine mg_iconst (v := 3) 142 rfl (by decide) rfl ?_
    refine mg_ic_eq 145 151 rfl rfl (by decide) (fun c_142 => absurd c_142 (by decide)) (fun c_142 => ?_)
    refine mg_iload_n 146 rfl rfl rfl ?_
    refine mg_bipush (v := 6) 148 rfl (by decide) rfl ?_
    refine mg_ic_le 151 164 rfl rfl (by decide) (fun c_148 => ?_) (fun c_148 => absurd c_148 (by decide))
    refine mg_iload 166 rfl rfl rfl ?_
    refine mg_zret rfl rfl (an_mt_01 s1.1) ?_
    exact k _ N1 s1.1 hl1 (fun e => an_cn1_1 hk (by rw [ea, an_oI (by omega), ekp, an_oI (by omega)]; have h := an_ms_v s1; rw [e] at h; exact h))
  · rw [hk]
    obtain ⟨ja, hja, hjn, ea, -⟩ := hO.2.1 (by rw [hk]; rfl)
    obtain ⟨jb, hjb, hjbn, eb, -⟩ := hO.2.2.1 (by rw [hk]; rfl)
    refine mg_istore_n (L2 := [(0, _), (1, _), (2, _)]) 7 rfl (by decide) rfl rfl ?_
    refine mg_aload_n 8 rfl rfl rfl ?_
    refine mg_getR 11 rfl rfl rfl rfl ?_
    refine mg_iload_n 12 rfl rfl rfl ?_
    refine mg_iald (v := a i) 13 rfl rfl (vp_in_nI (by omega : i < 60) (by omega)) (by rw [nI_clamp (by omega)]; exact (hX.2.1 i hi).2.1) rfl ?_
    refine mg_istore_n (L2 := [(0, _), (1, _), (2, _), (3, _)]) 14 rfl (by decide) rfl rfl ?_
    refine mg_aload_n 15 rfl rfl rfl ?_
    refine mg_getR 18 rfl rfl rfl rfl ?_
    refine mg_iload_n 19 rfl rfl rfl ?_
    refine mg_iald (v := b i) 20 rfl rfl (vp_in_nI (by omega : i < 60) (by omega)) (by rw [nI_clamp (by omega)]; exact (hX.2.1 i hi).2.2) rfl ?_
    refine mg_istore (L2 := [(0, _), (1, _), (2, _), (3, _), (4, _)]) 22 rfl (by decide) rfl rfl ?_
    refine mg_aload_n 23 rfl rfl rfl ?_
    refine mg_getR 26 rfl rfl rfl rfl ?_
    refine mg_iload_n 27 rfl rfl rfl ?_
    refine mg_iald (v := M 31 i) 28 rfl rfl (vp_in_nI (by omega : i < 60) (by omega)) (by rw [nI_clamp (by omega)]) rfl ?_
    refine mg_istore (L2 := [(0, _), (1, _), (2, _), (3, _), (4, _), (5, _)]) 30 rfl (by decide) rfl rfl ?_
    refine mg_iconst (v := 0) 31 rfl (by decide) rfl ?_
    refine mg_istore (L2 := [(0, _), (1, _), (2, _), (3, _), (4, _), (5, _), (6, _)]) 33 rfl (by decide) rfl rfl ?_
    refine mg_iload_n 34 rfl rfl rfl ?_
    refine mg_iconst (v := 1) 35 rfl (by decide) rfl ?_
    refine mg_ic_ne 38 51 rfl rfl (by decide) (fun c_35 => ?_) (fun c_35 => absurd c_35 (by decide))
    refine mg_iload_n 52 rfl rfl rfl ?_
    refine mg_iconst (v := 2) 53 rfl (by decide) rfl ?_
    refine mg_ic_ne 56 100 rfl rfl (by decide) (fun c_53 => absurd c_53 (by decide)) (fun c_53 => ?_)
    refine mg_aload_n 57 rfl rfl rfl ?_
    refine mg_iload 59 rfl rfl rfl ?_
    refine mg_iload 61 rfl rfl rfl ?_
    rw [eb]
    refine mg_callV2 64 rfl (Nat.le_of_ble_eq_true rfl) pg_Mo_nextTo rfl rfl ?_
    refine sm_nextTo (by omega) (by omega) (fun f1 N1 s1 => ?_)
    have hl1 := an_ms_low s1 hl (fun T hT => by have h := ((cT T hT).2.1 hk).1; rw [eb, an_oI (by omega)] at h; exact ms_tr (hl T hT i (by omega)) h)
    show mm_Rn _ _ _ _ _ _ 64 [(0, _), (1, _), (2, _), (3, _), (4, _), (5, _), (6, _)] [_] _
    refine mg_istore (L2 := [(0, _), (1, _), (2, _), (3, _), (4, _), (5, _), (6, _)]) 66 rfl (by decide) rfl rfl ?_
    refine mg_iload 68 rfl rfl rfl ?_
    refine mg_aload_n 69 rfl rfl rfl ?_
    refine mg_iload_n 70 rfl rfl rfl ?_
    refine mg_aload_n 71 rfl rfl rfl ?_
    refine mg_getR 74 rfl rfl rfl rfl ?_
    refine mg_iload 76 rfl rfl rfl ?_
    refine mg_iald (v := fi jb) 77 rfl rfl (vp_in_nI (by omega : jb < 60) (by omega)) (by rw [nI_clamp (by omega), s1.1.1 30 (by decide)]; exact hM30 jb (by omega)) rfl ?_
    refine mg_aload_n 78 rfl rfl rfl ?_
    refine mg_getR 81 rfl rfl rfl rfl ?_
    refine mg_iload 83 rfl rfl rfl ?_
    refine mg_zald (v := em jb) 84 rfl rfl (vp_in_nI (by omega : jb < 60) (by omega)) (by rw [nI_clamp (by omega), s1.1.1 29 (by decide)]; exact hM29 jb (by omega)) rfl ?_
    refine mg_if_eq 87 92 rfl rfl (by decide) (fun c_84 => ?_) (fun c_84 => ?_)
    · refine mg_iconst (v := 0) 93 rfl (by decide) rfl ?_
      refine mg_ior 94 rfl rfl rfl ?_
      rw [show fi jb ||| 0 = (if em jb = 0 then fi jb else fi jb ||| M 31 i) from by rw [if_pos c_84, Int32.or_zero]]
      rw [ea]
      refine mg_callV2 97 rfl (Nat.le_of_ble_eq_true rfl) pg_Mo_nextTo rfl rfl ?_
      refine sm_nextTo (by omega) (by omega) (fun f2 N2 s2 => ?_)
      have hl2 := an_ms_low s2 hl1 (fun T hT => by have h := ((cT T hT).2.1 hk).2; rw [ea, an_oI (by omega), eb, an_oI (by omega)] at h; exact ms_tr (an_if_mono (hl T hT i (by omega))) h)
      show mm_Rn _ _ _ _ _ _ 97 [(0, _), (1, _), (2, _), (3, _), (4, _), (5, _), (6, _)] [_, _] _
      refine mg_ior 98 rfl rfl rfl ?_
      refine mg_istore (L2 := [(0, _), (1, _), (2, _), (3, _), (4, _), (5, _), (6, _)]) 100 rfl (by decide) rfl rfl ?_
      refine mg_iload_n 101 rfl rfl rfl ?_
      refine mg_iconst (v := 3) 102 rfl (by decide) rfl ?_
      refine mg_ic_eq 105 110 rfl rfl (by decide) (fun c_102 => absurd c_102 (by decide)) (fun c_102 => ?_)
      refine mg_iload_n 106 rfl rfl rfl ?_
      refine mg_iconst (v := 4) 107 rfl (by decide) rfl ?_
      refine mg_ic_ne 110 119 rfl rfl (by decide) (fun c_107 => ?_) (fun c_107 => absurd c_107 (by decide))
      refine mg_iload_n 120 rfl rfl rfl ?_
      refine mg_iconst (v := 5) 121 rfl (by decide) rfl ?_
      refine mg_ic_ne 124 140 rfl rfl (by decide) (fun c_121 => ?_) (fun c_121 => absurd c_121 (by decide))
      refine mg_iload_n 141 rfl rfl rfl ?_
      refine mg_iconst (v := 3) 142 rfl (by decide) rfl ?_
      refine mg_ic_eq 145 151 rfl rfl (by decide) (fun c_142 => absurd c_142 (by decide)) (fun c_142 => ?_)
      refine mg_iload_n 146 rfl rfl rfl ?_
      refine mg_bipush (v := 6) 148 rfl (by decide) rfl ?_
      refine mg_ic_le 151 164 rfl rfl (by decide) (fun c_148 => ?_) (fun c_148 => absurd c_148 (by decide))
      refine mg_iload 166 rfl rfl rfl ?_
      refine mg_zret rfl rfl (an_mt_01 (an_mt_tr s1.1 s2.1)) ?_
      exact k _ N2 (an_mt_tr s1.1 s2.1) hl2 (fun e => an_cn1_2 hk (by
        have e1 := an_mt_eq s1.1 s2.1 e
        have h1 := an_ms_v s1
        have h2 := an_ms_v s2
        rw [e1] at h1; rw [e] at h2
        rw [ea, an_oI (by omega), eb, an_oI (by omega)]; exact ⟨h1, h2⟩))
    · refine mg_iload 89 rfl rfl rfl ?_
      refine mg_goto 93 rfl (by decide) ?_
      refine mg_ior 94 rfl rfl rfl ?_
      rw [show fi jb ||| M 31 i = (if em jb = 0 then fi jb else fi jb ||| M 31 i) from by rw [if_neg c_84]]
      rw [ea]
      refine mg_callV2 97 rfl (Nat.le_of_ble_eq_true rfl) pg_Mo_nextTo rfl rfl ?_
      refine sm_nextTo (by omega) (by omega) (fun f2 N2 s2 => ?_)
      have hl2 := an_ms_low s2 hl1 (fun T hT => by have h := ((cT T hT).2.1 hk).2; rw [ea, an_oI (by omega), eb, an_oI (by omega)] at h; exact ms_tr (an_if_mono (hl T hT i (by omega))) h)
      show mm_Rn _ _ _ _ _ _ 97 [(0, _), (1, _), (2, _), (3, _), (4, _), (5, _), (6, _)] [_, _] _
      refine mg_ior 98 rfl rfl rfl ?_
      refine mg_istore (L2 := [(0, _), (1, _), (2, _), (3, _), (4, _), (5, _), (6, _)]) 100 rfl (by decide) rfl rfl ?_
      refine mg_iload_n 101 rfl rfl rfl ?_
      refine mg_iconst (v := 3) 102 rfl (by decide) rfl ?_
      refine mg_ic_eq 105 110 rfl rfl (by decide) (fun c_102 => absurd c_102 (by decide)) (fun c_102 => ?_)
      refine mg_iload_n 106 rfl rfl rfl ?_
      refine mg_iconst (v := 4) 107 rfl (by decide) rfl ?_
      refine mg_ic_ne 110 119 rfl rfl (by decide) (fun c_107 => ?_) (fun c_107 => absurd c_107 (by decide))
      refine mg_iload_n 120 rfl rfl rfl ?_
      refine mg_iconst (v := 5) 121 rfl (by decide) rfl ?_
      refine mg_ic_ne 124 140 rfl rfl (by decide) (fun c_121 => ?_) (fun c_121 => absurd c_121 (by decide))
      refine mg_iload_n 141 rfl rfl rfl ?_
      refine mg_iconst (v := 3) 142 rfl (by decide) rfl ?_
      refine mg_ic_eq 145 151 rfl rfl (by decide) (fun c_142 => absurd c_142 (by decide)) (fun c_142 => ?_)
      refine mg_iload_n 146 rfl rfl rfl ?_
      refine mg_bipush (v := 6) 148 rfl (by decide) rfl ?_
      refine mg_ic_le 151 164 rfl rfl (by decide) (fun c_148 => ?_) (fun c_148 => absurd c_148 (by decide))
      refine mg_iload 166 rfl rfl rfl ?_
      refine mg_zret rfl rfl (an_mt_01 (an_mt_tr s1.1 s2.1)) ?_
      exact k _ N2 (an_mt_tr s1.1 s2.1) hl2 (fun e => an_cn1_2 hk (by
        have e1 := an_mt_eq s1.1 s2.1 e
        have h1 := an_ms_v s1
        have h2 := an_ms_v s2
        rw [e1] at h1; rw [e] at h2
        rw [ea, an_oI (by omega), eb, an_oI (by omega)]; exact ⟨h1, h2⟩))
  · rw [hk]
    obtain ⟨ja, hja, hjn, ea, -⟩ := hO.2.1 (by rw [hk]; rfl)
    obtain ⟨jb, hjb, hjbn, eb, -⟩ := hO.2.2.1 (by rw [hk]; rfl)
    refine mg_istore_n (L2 := [(0, _), (1, _), (2, _)]) 7 rfl (by decide) rfl rfl ?_
    refine mg_aload_n 8 rfl rfl rfl ?_
    refine mg_getR 11 rfl rfl rfl rfl ?_
    refine mg_iload_n 12 rfl rfl rfl ?_
    refine mg_iald (v := a i) 13 rfl rfl (vp_in_nI (by omega : i < 60) (by omega)) (by rw [nI_clamp (by omega)]; exact (hX.2.1 i hi).2.1) rfl ?_
    refine mg_istore_n (L2 := [(0, _), (1, _), (2, _), (3, _)]) 14 rfl (by decide) rfl rfl ?_
    refine mg_aload_n 15 rfl rfl rfl ?_
    refine mg_getR 18 rfl rfl rfl rfl ?_
    refine mg_iload_n 19 rfl rfl rfl ?_
    refine mg_iald (v := b i) 20 rfl rfl (vp_in_nI (by omega : i < 60) (by omega)) (by rw [nI_clamp (by omega)]; exact (hX.2.1 i hi).2.2) rfl ?_
    refine mg_istore (L2 := [(0, _), (1, _), (2, _), (3, _), (4, _)]) 22 rfl (by decide) rfl rfl ?_
    refine mg_aload_n 23 rfl rfl rfl ?_
    refine mg_getR 26 rfl rfl rfl rfl ?_
    refine mg_iload_n 27 rfl rfl rfl ?_
    refine mg_iald (v := M 31 i) 28 rfl rfl (vp_in_nI (by omega : i < 60) (by omega)) (by rw [nI_clamp (by omega)]) rfl ?_
    refine mg_istore (L2 := [(0, _), (1, _), (2, _), (3, _), (4, _), (5, _)]) 30 rfl (by decide) rfl rfl ?_
    refine mg_iconst (v := 0) 31 rfl (by decide) rfl ?_
    refine mg_istore (L2 := [(0, _), (1, _), (2, _), (3, _), (4, _), (5, _), (6, _)]) 33 rfl (by decide) rfl rfl ?_
    refine mg_iload_n 34 rfl rfl rfl ?_
    refine mg_iconst (v := 1) 35 rfl (by decide) rfl ?_
    refine mg_ic_ne 38 51 rfl rfl (by decide) (fun c_35 => ?_) (fun c_35 => absurd c_35 (by decide))
    refine mg_iload_n 52 rfl rfl rfl ?_
    refine mg_iconst (v := 2) 53 rfl (by decide) rfl ?_
    refine mg_ic_ne 56 100 rfl rfl (by decide) (fun c_53 => ?_) (fun c_53 => absurd c_53 (by decide))
    refine mg_iload_n 101 rfl rfl rfl ?_
    refine mg_iconst (v := 3) 102 rfl (by decide) rfl ?_
    refine mg_ic_eq 105 110 rfl rfl (by decide) (fun c_102 => ?_) (fun c_102 => absurd c_102 (by decide))
    refine mg_aload_n 111 rfl rfl rfl ?_
    refine mg_iload_n 112 rfl rfl rfl ?_
    refine mg_iload 114 rfl rfl rfl ?_
    rw [ea]
    refine mg_callV2 117 rfl (Nat.le_of_ble_eq_true rfl) pg_Mo_nextTo rfl rfl ?_
    refine sm_nextTo (by omega) (by omega) (fun f1 N1 s1 => ?_)
    have hl1 := an_ms_low s1 hl (fun T hT => by have h := ((cT T hT).2.2.1 hk).1; rw [ea, an_oI (by omega)] at h; exact ms_tr (hl T hT i (by omega)) h)
    show mm_Rn _ _ _ _ _ _ 117 [(0, _), (1, _), (2, _), (3, _), (4, _), (5, _), (6, _)] [_] _
    refine mg_istore (L2 := [(0, _), (1, _), (2, _), (3, _), (4, _), (5, _), (6, _)]) 119 rfl (by decide) rfl rfl ?_
    refine mg_iload_n 120 rfl rfl rfl ?_
    refine mg_iconst (v := 5) 121 rfl (by decide) rfl ?_
    refine mg_ic_ne 124 140 rfl rfl (by decide) (fun c_121 => ?_) (fun c_121 => absurd c_121 (by decide))
    refine mg_iload_n 141 rfl rfl rfl ?_
    refine mg_iconst (v := 3) 142 rfl (by decide) rfl ?_
    refine mg_ic_eq 145 151 rfl rfl (by decide) (fun c_142 => ?_) (fun c_142 => absurd c_142 (by decide))
    refine mg_iload 153 rfl rfl rfl ?_
    refine mg_aload_n 154 rfl rfl rfl ?_
    refine mg_iload 156 rfl rfl rfl ?_
    refine mg_iload 158 rfl rfl rfl ?_
    rw [eb]
    refine mg_callV2 161 rfl (Nat.le_of_ble_eq_true rfl) pg_Mo_nextTo rfl rfl ?_
    refine sm_nextTo (by omega) (by omega) (fun f2 N2 s2 => ?_)
    have hl2 := an_ms_low s2 hl1 (fun T hT => by have h := ((cT T hT).2.2.1 hk).2; rw [eb, an_oI (by omega)] at h; exact ms_tr (hl T hT i (by omega)) h)
    show mm_Rn _ _ _ _ _ _ 161 [(0, _), (1, _), (2, _), (3, _), (4, _), (5, _), (6, _)] [_, _] _
    refine mg_ior 162 rfl rfl rfl ?_
    refine mg_istore (L2 := [(0, _), (1, _), (2, _), (3, _), (4, _), (5, _), (6, _)]) 164 rfl (by decide) rfl rfl ?_
    refine mg_iload 166 rfl rfl rfl ?_
    refine mg_zret rfl rfl (an_mt_01 (an_mt_tr s1.1 s2.1)) ?_
    exact k _ N2 (an_mt_tr s1.1 s2.1) hl2 (fun e => an_cn1_3 hk (by
      have e1 := an_mt_eq s1.1 s2.1 e
      have h1 := an_ms_v s1
      have h2 := an_ms_v s2
      rw [e1] at h1; rw [e] at h2
      rw [ea, an_oI (by omega), eb, an_oI (by omega)]; exact ⟨h1, h2⟩))
  · rw [hk]
    obtain ⟨ja, hja, hjn, ea, -⟩ := hO.2.1 (by rw [hk]; rfl)
    refine mg_istore_n (L2 := [(0, _), (1, _), (2, _)]) 7 rfl (by decide) rfl rfl ?_
    refine mg_aload_n 8 rfl rfl rfl ?_
    refine mg_getR 11 rfl rfl rfl rfl ?_
    refine mg_iload_n 12 rfl rfl rfl ?_
    refine mg_iald (v := a i) 13 rfl rfl (vp_in_nI (by omega : i < 60) (by omega)) (by rw [nI_clamp (by omega)]; exact (hX.2.1 i hi).2.1) rfl ?_
    refine mg_istore_n (L2 := [(0, _), (1, _), (2, _), (3, _)]) 14 rfl (by decide) rfl rfl ?_
    refine mg_aload_n 15 rfl rfl rfl ?_
    refine mg_getR 18 rfl rfl rfl rfl ?_
    refine mg_iload_n 19 rfl rfl rfl ?_
    refine mg_iald (v := b i) 20 rfl rfl (vp_in_nI (by omega : i < 60) (by omega)) (by rw [nI_clamp (by omega)]; exact (hX.2.1 i hi).2.2) rfl ?_
    refine mg_istore (L2 := [(0, _), (1, _), (2, _), (3, _), (4, _)]) 22 rfl (by decide) rfl rfl ?_
    refine mg_aload_n 23 rfl rfl rfl ?_
    refine mg_getR 26 rfl rfl rfl rfl ?_
    refine mg_iload_n 27 rfl rfl rfl ?_
    refine mg_iald (v := M 31 i) 28 rfl rfl (vp_in_nI (by omega : i < 60) (by omega)) (by rw [nI_clamp (by omega)]) rfl ?_
    refine mg_istore (L2 := [(0, _), (1, _), (2, _), (3, _), (4, _), (5, _)]) 30 rfl (by decide) rfl rfl ?_
    refine mg_iconst (v := 0) 31 rfl (by decide) rfl ?_
    refine mg_istore (L2 := [(0, _), (1, _), (2, _), (3, _), (4, _), (5, _), (6, _)]) 33 rfl (by decide) rfl rfl ?_
    refine mg_iload_n 34 rfl rfl rfl ?_
    refine mg_iconst (v := 1) 35 rfl (by decide) rfl ?_
    refine mg_ic_ne 38 51 rfl rfl (by decide) (fun c_35 => ?_) (fun c_35 => absurd c_35 (by decide))
    refine mg_iload_n 52 rfl rfl rfl ?_
    refine mg_iconst (v := 2) 53 rfl (by decide) rfl ?_
    refine mg_ic_ne 56 100 rfl rfl (by decide) (fun c_53 => ?_) (fun c_53 => absurd c_53 (by decide))
    refine mg_iload_n 101 rfl rfl rfl ?_
    refine mg_iconst (v := 3) 102 rfl (by decide) rfl ?_
    refine mg_ic_eq 105 110 rfl rfl (by decide) (fun c_102 => absurd c_102 (by decide)) (fun c_102 => ?_)
    refine mg_iload_n 106 rfl rfl rfl ?_
    refine mg_iconst (v := 4) 107 rfl (by decide) rfl ?_
    refine mg_ic_ne 110 119 rfl rfl (by decide) (fun c_107 => absurd c_107 (by decide)) (fun c_107 => ?_)
    refine mg_aload_n 111 rfl rfl rfl ?_
    refine mg_iload_n 112 rfl rfl rfl ?_
    refine mg_iload 114 rfl rfl rfl ?_
    rw [ea]
    refine mg_callV2 117 rfl (Nat.le_of_ble_eq_true rfl) pg_Mo_nextTo rfl rfl ?_
    refine sm_nextTo (by omega) (by omega) (fun f1 N1 s1 => ?_)
    have hl1 := an_ms_low s1 hl (fun T hT => by have h := (cT T hT).2.2.2.1 hk; rw [ea, an_oI (by omega)] at h; exact ms_tr (hl T hT i (by omega)) h)
    show mm_Rn _ _ _ _ _ _ 117 [(0, _), (1, _), (2, _), (3, _), (4, _), (5, _), (6, _)] [_] _
    refine mg_istore (L2 := [(0, _), (1, _), (2, _), (3, _), (4, _), (5, _), (6, _)]) 119 rfl (by decide) rfl rfl ?_
    refine mg_iload_n 120 rfl rfl rfl ?_
    refine mg_iconst (v := 5) 121 rfl (by decide) rfl ?_
    refine mg_ic_ne 124 140 rfl rfl (by decide) (fun c_121 => ?_) (fun c_121 => absurd c_121 (by decide))
    refine mg_iload_n 141 rfl rfl rfl ?_
    refine mg_iconst (v := 3) 142 rfl (by decide) rfl ?_
    refine mg_ic_eq 145 151 rfl rfl (by decide) (fun c_142 => absurd c_142 (by decide)) (fun c_142 => ?_)
    refine mg_iload_n 146 rfl rfl rfl ?_
    refine mg_bipush (v := 6) 148 rfl (by decide) rfl ?_
    refine mg_ic_le 151 164 rfl rfl (by decide) (fun c_148 => ?_) (fun c_148 => absurd c_148 (by decide))
    refine mg_iload 166 rfl rfl rfl ?_
    refine mg_zret rfl rfl (an_mt_01 s1.1) ?_
    exact k _ N1 s1.1 hl1 (fun e => an_cn1_4 hk (by rw [ea, an_oI (by omega)]; have h := an_ms_v s1; rw [e] at h; exact h))
  · rw [hk]
    obtain ⟨ja, hja, hjn, ea, -⟩ := hO.2.1 (by rw [hk]; rfl)
    refine mg_istore_n (L2 := [(0, _), (1, _), (2, _)]) 7 rfl (by decide) rfl rfl ?_
    refine mg_aload_n 8 rfl rfl rfl ?_
    refine mg_getR 11 rfl rfl rfl rfl ?_
    refine mg_iload_n 12 rfl rfl rfl ?_
    refine mg_iald (v := a i) 13 rfl rfl (vp_in_nI (by omega : i < 60) (by omega)) (by rw [nI_clamp (by omega)]; exact (hX.2.1 i hi).2.1) rfl ?_
    refine mg_istore_n (L2 := [(0, _), (1, _), (2, _), (3, _)]) 14 rfl (by decide) rfl rfl ?_
    refine mg_aload_n 15 rfl rfl rfl ?_
    refine mg_getR 18 rfl rfl rfl rfl ?_
    refine mg_iload_n 19 rfl rfl rfl ?_
    refine mg_iald (v := b i) 20 rfl rfl (vp_in_nI (by omega : i < 60) (by omega)) (by rw [nI_clamp (by omega)]; exact (hX.2.1 i hi).2.2) rfl ?_
    refine mg_istore (L2 := [(0, _), (1, _), (2, _), (3, _), (4, _)]) 22 rfl (by decide) rfl rfl ?_
    refine mg_aload_n 23 rfl rfl rfl ?_
    refine mg_getR 26 rfl rfl rfl rfl ?_
    refine mg_iload_n 27 rfl rfl rfl ?_
    refine mg_iald (v := M 31 i) 28 rfl rfl (vp_in_nI (by omega : i < 60) (by omega)) (by rw [nI_clamp (by omega)]) rfl ?_
    refine mg_istore (L2 := [(0, _), (1, _), (2, _), (3, _), (4, _), (5, _)]) 30 rfl (by decide) rfl rfl ?_
    refine mg_iconst (v := 0) 31 rfl (by decide) rfl ?_
    refine mg_istore (L2 := [(0, _), (1, _), (2, _), (3, _), (4, _), (5, _), (6, _)]) 33 rfl (by decide) rfl rfl ?_
    refine mg_iload_n 34 rfl rfl rfl ?_
    refine mg_iconst (v := 1) 35 rfl (by decide) rfl ?_
    refine mg_ic_ne 38 51 rfl rfl (by decide) (fun c_35 => ?_) (fun c_35 => absurd c_35 (by decide))
    refine mg_iload_n 52 rfl rfl rfl ?_
    refine mg_iconst (v := 2) 53 rfl (by decide) rfl ?_
    refine mg_ic_ne 56 100 rfl rfl (by decide) (fun c_53 => ?_) (fun c_53 => absurd c_53 (by decide))
    refine mg_iload_n 101 rfl rfl rfl ?_
    refine mg_iconst (v := 3) 102 rfl (by decide) rfl ?_
    refine mg_ic_eq 105 110 rfl rfl (by decide) (fun c_102 => absurd c_102 (by decide)) (fun c_102 => ?_)
    refine mg_iload_n 106 rfl rfl rfl ?_
    refine mg_iconst (v := 4) 107 rfl (by decide) rfl ?_
    refine mg_ic_ne 110 119 rfl rfl (by decide) (fun c_107 => ?_) (fun c_107 => absurd c_107 (by decide))
    refine mg_iload_n 120 rfl rfl rfl ?_
    refine mg_iconst (v := 5) 121 rfl (by decide) rfl ?_
    refine mg_ic_ne 124 140 rfl rfl (by decide) (fun c_121 => absurd c_121 (by decide)) (fun c_121 => ?_)
    refine mg_aload_n 125 rfl rfl rfl ?_
    refine mg_iload_n 126 rfl rfl rfl ?_
    refine mg_iload 128 rfl rfl rfl ?_
    refine mg_aload_n 129 rfl rfl rfl ?_
    refine mg_getR 132 rfl rfl rfl rfl ?_
    refine mg_iload_n 133 rfl rfl rfl ?_
    refine mg_iald (v := fi ja) 134 rfl rfl (by rw [ea]; exact vp_in_nI (by omega : ja < 60) (by omega)) (by rw [ea, nI_clamp (by omega)]; exact hM30 ja (by omega)) rfl ?_
    refine mg_ior 135 rfl rfl rfl ?_
    rw [ea]
    refine mg_callV2 138 rfl (Nat.le_of_ble_eq_true rfl) pg_Mo_nextTo rfl rfl ?_
    refine sm_nextTo (by omega) (by omega) (fun f1 N1 s1 => ?_)
    have hl1 := an_ms_low s1 hl (fun T hT => by have h := (cT T hT).2.2.2.2.1 hk; rw [ea, an_oI (by omega)] at h; exact ms_tr (ms_oo (hl T hT i (by omega)) (ms_rf _)) h)
    show mm_Rn _ _ _ _ _ _ 138 [(0, _), (1, _), (2, _), (3, _), (4, _), (5, _), (6, _)] [_] _
    refine mg_istore (L2 := [(0, _), (1, _), (2, _), (3, _), (4, _), (5, _), (6, _)]) 140 rfl (by decide) rfl rfl ?_
    refine mg_iload_n 141 rfl rfl rfl ?_
    refine mg_iconst (v := 3) 142 rfl (by decide) rfl ?_
    refine mg_ic_eq 145 151 rfl rfl (by decide) (fun c_142 => absurd c_142 (by decide)) (fun c_142 => ?_)
    refine mg_iload_n 146 rfl rfl rfl ?_
    refine mg_bipush (v := 6) 148 rfl (by decide) rfl ?_
    refine mg_ic_le 151 164 rfl rfl (by decide) (fun c_148 => ?_) (fun c_148 => absurd c_148 (by decide))
    refine mg_iload 166 rfl rfl rfl ?_
    refine mg_zret rfl rfl (an_mt_01 s1.1) ?_
    exact k _ N1 s1.1 hl1 (fun e => an_cn1_5 hk (by rw [ea, an_oI (by omega)]; have h := an_ms_v s1; rw [e] at h; exact h))
  · rw [hk]
    refine mg_istore_n (L2 := [(0, _), (1, _), (2, _)]) 7 rfl (by decide) rfl rfl ?_
    refine mg_aload_n 8 rfl rfl rfl ?_
    refine mg_getR 11 rfl rfl rfl rfl ?_
    refine mg_iload_n 12 rfl rfl rfl ?_
    refine mg_iald (v := a i) 13 rfl rfl (vp_in_nI (by omega : i < 60) (by omega)) (by rw [nI_clamp (by omega)]; exact (hX.2.1 i hi).2.1) rfl ?_
    refine mg_istore_n (L2 := [(0, _), (1, _), (2, _), (3, _)]) 14 rfl (by decide) rfl rfl ?_
    refine mg_aload_n 15 rfl rfl rfl ?_
    refine mg_getR 18 rfl rfl rfl rfl ?_
    refine mg_iload_n 19 rfl rfl rfl ?_
    refine mg_iald (v := b i) 20 rfl rfl (vp_in_nI (by omega : i < 60) (by omega)) (by rw [nI_clamp (by omega)]; exact (hX.2.1 i hi).2.2) rfl ?_
    refine mg_istore (L2 := [(0, _), (1, _), (2, _), (3, _), (4, _)]) 22 rfl (by decide) rfl rfl ?_
    refine mg_aload_n 23 rfl rfl rfl ?_
    refine mg_getR 26 rfl rfl rfl rfl ?_
    refine mg_iload_n 27 rfl rfl rfl ?_
    refine mg_iald (v := M 31 i) 28 rfl rfl (vp_in_nI (by omega : i < 60) (by omega)) (by rw [nI_clamp (by omega)]) rfl ?_
    refine mg_istore (L2 := [(0, _), (1, _), (2, _), (3, _), (4, _), (5, _)]) 30 rfl (by decide) rfl rfl ?_
    refine mg_iconst (v := 0) 31 rfl (by decide) rfl ?_
    refine mg_istore (L2 := [(0, _), (1, _), (2, _), (3, _), (4, _), (5, _), (6, _)]) 33 rfl (by decide) rfl rfl ?_
    refine mg_iload_n 34 rfl rfl rfl ?_
    refine mg_iconst (v := 1) 35 rfl (by decide) rfl ?_
    refine mg_ic_ne 38 51 rfl rfl (by decide) (fun c_35 => ?_) (fun c_35 => absurd c_35 (by decide))
    refine mg_iload_n 52 rfl rfl rfl ?_
    refine mg_iconst (v := 2) 53 rfl (by decide) rfl ?_
    refine mg_ic_ne 56 100 rfl rfl (by decide) (fun c_53 => ?_) (fun c_53 => absurd c_53 (by decide))
    refine mg_iload_n 101 rfl rfl rfl ?_
    refine mg_iconst (v := 3) 102 rfl (by decide) rfl ?_
    refine mg_ic_eq 105 110 rfl rfl (by decide) (fun c_102 => absurd c_102 (by decide)) (fun c_102 => ?_)
    refine mg_iload_n 106 rfl rfl rfl ?_
    refine mg_iconst (v := 4) 107 rfl (by decide) rfl ?_
    refine mg_ic_ne 110 119 rfl rfl (by decide) (fun c_107 => ?_) (fun c_107 => absurd c_107 (by decide))
    refine mg_iload_n 120 rfl rfl rfl ?_
    refine mg_iconst (v := 5) 121 rfl (by decide) rfl ?_
    refine mg_ic_ne 124 140 rfl rfl (by decide) (fun c_121 => ?_) (fun c_121 => absurd c_121 (by decide))
    refine mg_iload_n 141 rfl rfl rfl ?_
    refine mg_iconst (v := 3) 142 rfl (by decide) rfl ?_
    refine mg_ic_eq 145 151 rfl rfl (by decide) (fun c_142 => absurd c_142 (by decide)) (fun c_142 => ?_)
    refine mg_iload_n 146 rfl rfl rfl ?_
    refine mg_bipush (v := 6) 148 rfl (by decide) rfl ?_
    refine mg_ic_le 151 164 rfl rfl (by decide) (fun c_148 => ?_) (fun c_148 => absurd c_148 (by decide))
    refine mg_iload 166 rfl rfl rfl ?_
    refine mg_zret rfl rfl (an_mt_01 (an_mt_rf 31 M)) ?_
    exact k 0 M (an_mt_rf 31 M) hl (fun _ => an_cn1_6 hk)
  · rw [hk]
    obtain ⟨ja, hja, hjn, ea, -⟩ := hO.2.1 (by rw [hk]; rfl)
    obtain ⟨jb, hjb, hjbn, eb, -⟩ := hO.2.2.1 (by rw [hk]; rfl)
    refine mg_istore_n (L2 := [(0, _), (1, _), (2, _)]) 7 rfl (by decide) rfl rfl ?_
    refine mg_aload_n 8 rfl rfl rfl ?_
    refine mg_getR 11 rfl rfl rfl rfl ?_
    refine mg_iload_n 12 rfl rfl rfl ?_
    refine mg_iald (v := a i) 13 rfl rfl (vp_in_nI (by omega : i < 60) (by omega)) (by rw [nI_clamp (by omega)]; exact (hX.2.1 i hi).2.1) rfl ?_
    refine mg_istore_n (L2 := [(0, _), (1, _), (2, _), (3, _)]) 14 rfl (by decide) rfl rfl ?_
    refine mg_aload_n 15 rfl rfl rfl ?_
    refine mg_getR 18 rfl rfl rfl rfl ?_
    refine mg_iload_n 19 rfl rfl rfl ?_
    refine mg_iald (v := b i) 20 rfl rfl (vp_in_nI (by omega : i < 60) (by omega)) (by rw [nI_clamp (by omega)]; exact (hX.2.1 i hi).2.2) rfl ?_
    refine mg_istore (L2 := [(0, _), (1, _), (2, _), (3, _), (4, _)]) 22 rfl (by decide) rfl rfl ?_
    refine mg_aload_n 23 rfl rfl rfl ?_
    refine mg_getR 26 rfl rfl rfl rfl ?_
    refine mg_iload_n 27 rfl rfl rfl ?_
    refine mg_iald (v := M 31 i) 28 rfl rfl (vp_in_nI (by omega : i < 60) (by omega)) (by rw [nI_clamp (by omega)]) rfl ?_
    refine mg_istore (L2 := [(0, _), (1, _), (2, _), (3, _), (4, _), (5, _)]) 30 rfl (by decide) rfl rfl ?_
    refine mg_iconst (v := 0) 31 rfl (by decide) rfl ?_
    refine mg_istore (L2 := [(0, _), (1, _), (2, _), (3, _), (4, _), (5, _), (6, _)]) 33 rfl (by decide) rfl rfl ?_
    refine mg_iload_n 34 rfl rfl rfl ?_
    refine mg_iconst (v := 1) 35 rfl (by decide) rfl ?_
    refine mg_ic_ne 38 51 rfl rfl (by decide) (fun c_35 => ?_) (fun c_35 => absurd c_35 (by decide))
    refine mg_iload_n 52 rfl rfl rfl ?_
    refine mg_iconst (v := 2) 53 rfl (by decide) rfl ?_
    refine mg_ic_ne 56 100 rfl rfl (by decide) (fun c_53 => ?_) (fun c_53 => absurd c_53 (by decide))
    refine mg_iload_n 101 rfl rfl rfl ?_
    refine mg_iconst (v := 3) 102 rfl (by decide) rfl ?_
    refine mg_ic_eq 105 110 rfl rfl (by decide) (fun c_102 => absurd c_102 (by decide)) (fun c_102 => ?_)
    refine mg_iload_n 106 rfl rfl rfl ?_
    refine mg_iconst (v := 4) 107 rfl (by decide) rfl ?_
    refine mg_ic_ne 110 119 rfl rfl (by decide) (fun c_107 => ?_) (fun c_107 => absurd c_107 (by decide))
    refine mg_iload_n 120 rfl rfl rfl ?_
    refine mg_iconst (v := 5) 121 rfl (by decide) rfl ?_
    refine mg_ic_ne 124 140 rfl rfl (by decide) (fun c_121 => ?_) (fun c_121 => absurd c_121 (by decide))
    refine mg_iload_n 141 rfl rfl rfl ?_
    refine mg_iconst (v := 3) 142 rfl (by decide) rfl ?_
    refine mg_ic_eq 145 151 rfl rfl (by decide) (fun c_142 => absurd c_142 (by decide)) (fun c_142 => ?_)
    refine mg_iload_n 146 rfl rfl rfl ?_
    refine mg_bipush (v := 6) 148 rfl (by decide) rfl ?_
    refine mg_ic_le 151 164 rfl rfl (by decide) (fun c_148 => absurd c_148 (by decide)) (fun c_148 => ?_)
    refine mg_iload 153 rfl rfl rfl ?_
    refine mg_aload_n 154 rfl rfl rfl ?_
    refine mg_iload 156 rfl rfl rfl ?_
    refine mg_iload 158 rfl rfl rfl ?_
    rw [eb]
    refine mg_callV2 161 rfl (Nat.le_of_ble_eq_true rfl) pg_Mo_nextTo rfl rfl ?_
    refine sm_nextTo (by omega) (by omega) (fun f1 N1 s1 => ?_)
    have hl1 := an_ms_low s1 hl (fun T hT => by have h := (cT T hT).2.2.2.2.2 (Or.inl hk); rw [eb, an_oI (by omega)] at h; exact ms_tr (hl T hT i (by omega)) h)
    show mm_Rn _ _ _ _ _ _ 161 [(0, _), (1, _), (2, _), (3, _), (4, _), (5, _), (6, _)] [_, _] _
    refine mg_ior 162 rfl rfl rfl ?_
    refine mg_istore (L2 := [(0, _), (1, _), (2, _), (3, _), (4, _), (5, _), (6, _)]) 164 rfl (by decide) rfl rfl ?_
    refine mg_iload 166 rfl rfl rfl ?_
    refine mg_zret rfl rfl (an_mt_01 (an_mt_tr (an_mt_rf 31 M) s1.1)) ?_
    exact k _ N1 (an_mt_tr (an_mt_rf 31 M) s1.1) hl1 (fun e => an_cn1_7 hk (by rw [eb, an_oI (by omega)]; have h := an_ms_v s1; rw [e] at h; exact h))
  · rw [hk]
    obtain ⟨jb, hjb, hjbn, eb, -⟩ := hO.2.2.1 (by rw [hk]; rfl)
    refine mg_istore_n (L2 := [(0, _), (1, _), (2, _)]) 7 rfl (by decide) rfl rfl ?_
    refine mg_aload_n 8 rfl rfl rfl ?_
    refine mg_getR 11 rfl rfl rfl rfl ?_
    refine mg_iload_n 12 rfl rfl rfl ?_
    refine mg_iald (v := a i) 13 rfl rfl (vp_in_nI (by omega : i < 60) (by omega)) (by rw [nI_clamp (by omega)]; exact (hX.2.1 i hi).2.1) rfl ?_
    refine mg_istore_n (L2 := [(0, _), (1, _), (2, _), (3, _)]) 14 rfl (by decide) rfl rfl ?_
    refine mg_aload_n 15 rfl rfl rfl ?_
    refine mg_getR 18 rfl rfl rfl rfl ?_
    refine mg_iload_n 19 rfl rfl rfl ?_
    refine mg_iald (v := b i) 20 rfl rfl (vp_in_nI (by omega : i < 60) (by omega)) (by rw [nI_clamp (by omega)]; exact (hX.2.1 i hi).2.2) rfl ?_
    refine mg_istore (L2 := [(0, _), (1, _), (2, _), (3, _), (4, _)]) 22 rfl (by decide) rfl rfl ?_
    refine mg_aload_n 23 rfl rfl rfl ?_
    refine mg_getR 26 rfl rfl rfl rfl ?_
    refine mg_iload_n 27 rfl rfl rfl ?_
    refine mg_iald (v := M 31 i) 28 rfl rfl (vp_in_nI (by omega : i < 60) (by omega)) (by rw [nI_clamp (by omega)]) rfl ?_
    refine mg_istore (L2 := [(0, _), (1, _), (2, _), (3, _), (4, _), (5, _)]) 30 rfl (by decide) rfl rfl ?_
    refine mg_iconst (v := 0) 31 rfl (by decide) rfl ?_
    refine mg_istore (L2 := [(0, _), (1, _), (2, _), (3, _), (4, _), (5, _), (6, _)]) 33 rfl (by decide) rfl rfl ?_
    refine mg_iload_n 34 rfl rfl rfl ?_
    refine mg_iconst (v := 1) 35 rfl (by decide) rfl ?_
    refine mg_ic_ne 38 51 rfl rfl (by decide) (fun c_35 => ?_) (fun c_35 => absurd c_35 (by decide))
    refine mg_iload_n 52 rfl rfl rfl ?_
    refine mg_iconst (v := 2) 53 rfl (by decide) rfl ?_
    refine mg_ic_ne 56 100 rfl rfl (by decide) (fun c_53 => ?_) (fun c_53 => absurd c_53 (by decide))
    refine mg_iload_n 101 rfl rfl rfl ?_
    refine mg_iconst (v := 3) 102 rfl (by decide) rfl ?_
    refine mg_ic_eq 105 110 rfl rfl (by decide) (fun c_102 => absurd c_102 (by decide)) (fun c_102 => ?_)
    refine mg_iload_n 106 rfl rfl rfl ?_
    refine mg_iconst (v := 4) 107 rfl (by decide) rfl ?_
    refine mg_ic_ne 110 119 rfl rfl (by decide) (fun c_107 => ?_) (fun c_107 => absurd c_107 (by decide))
    refine mg_iload_n 120 rfl rfl rfl ?_
    refine mg_iconst (v := 5) 121 rfl (by decide) rfl ?_
    refine mg_ic_ne 124 140 rfl rfl (by decide) (fun c_121 => ?_) (fun c_121 => absurd c_121 (by decide))
    refine mg_iload_n 141 rfl rfl rfl ?_
    refine mg_iconst (v := 3) 142 rfl (by decide) rfl ?_
    refine mg_ic_eq 145 151 rfl rfl (by decide) (fun c_142 => absurd c_142 (by decide)) (fun c_142 => ?_)
    refine mg_iload_n 146 rfl rfl rfl ?_
    refine mg_bipush (v := 6) 148 rfl (by decide) rfl ?_
    refine mg_ic_le 151 164 rfl rfl (by decide) (fun c_148 => absurd c_148 (by decide)) (fun c_148 => ?_)
    refine mg_iload 153 rfl rfl rfl ?_
    refine mg_aload_n 154 rfl rfl rfl ?_
    refine mg_iload 156 rfl rfl rfl ?_
    refine mg_iload 158 rfl rfl rfl ?_
    rw [eb]
    refine mg_callV2 161 rfl (Nat.le_of_ble_eq_true rfl) pg_Mo_nextTo rfl rfl ?_
    refine sm_nextTo (by omega) (by omega) (fun f1 N1 s1 => ?_)
    have hl1 := an_ms_low s1 hl (fun T hT => by have h := (cT T hT).2.2.2.2.2 (Or.inr hk); rw [eb, an_oI (by omega)] at h; exact ms_tr (hl T hT i (by omega)) h)
    show mm_Rn _ _ _ _ _ _ 161 [(0, _), (1, _), (2, _), (3, _), (4, _), (5, _), (6, _)] [_, _] _
    refine mg_ior 162 rfl rfl rfl ?_
    refine mg_istore (L2 := [(0, _), (1, _), (2, _), (3, _), (4, _), (5, _), (6, _)]) 164 rfl (by decide) rfl rfl ?_
    refine mg_iload 166 rfl rfl rfl ?_
    refine mg_zret rfl rfl (an_mt_01 (an_mt_tr (an_mt_rf 31 M) s1.1)) ?_
    exact k _ N1 (an_mt_tr (an_mt_rf 31 M) s1.1) hl1 (fun e => an_cn1_8 hk (by rw [eb, an_oI (by omega)]; have h := an_ms_v s1; rw [e] at h; exact h))
set_option maxHeartbeats 2000000 in
set_option maxRecDepth 20000 in
theorem lq_gives {d : Nat} {M1 : mm_M} {Q : mm_Qt} {n : Nat} {kd lv : Nat → Nat} {a b kp us : Nat → Int32} {rt : Nat} (hW : st_wf n kd lv a b kp) (hX : an_M M1 n kd a b kp) (hU : st_us n kd a b kp us rt) {em fi : Nat → Int32} (hM29 : ∀ j, j < 60 → M1 29 j = em j) (hM30 : ∀ j, j < 60 → M1 30 j = fi j) (hM28 : ∀ j, j < 60 → M1 28 j = us j) (hd : 3 ≤ d) (k : ∀ f M, an_mt 31 f M1 M → an_low (an_cn n kd a b kp us em fi rt) (M 31) → (M = M1 → ∀ i, i < n → us i = 1 → an_cn1 kd a b kp em fi (M1 31) i) → Q (some (.inl f)) M) :
    ∀ (i : Nat) (f x : Int32) (M : mm_M), i ≤ n → x = nI i → an_mt 31 f M1 M → an_low (an_cn n kd a b kp us em fi rt) (M 31) → (M = M1 → ∀ q, q < i → us q = 1 → an_cn1 kd a b kp em fi (M1 31) q) → mm_Rn pg ly d (mm_Ev pg ly d) yy_Mo_givesAll Q 4 [(0, .inr 21), (1, .inl f), (2, .inl x)] [] M := by
  have hn : n ≤ 60 := hW.1
  intro i
  induction hm : n - i using Nat.strongRecOn generalizing i with
  | _ m ih =>
    intro f x M hi0 ex ht hl hp
    subst ex
    have hX2 := an_M_mt (by decide) ht hX
    have h28 : ∀ j, j < 60 → M 28 j = us j := fun j hj => by rw [ht.1 28 (by decide)]; exact hM28 j hj
    have h29 : ∀ j, j < 60 → M 29 j = em j := fun j hj => by rw [ht.1 29 (by decide)]; exact hM29 j hj
    have h30 : ∀ j, j < 60 → M 30 j = fi j := fun j hj => by rw [ht.1 30 (by decide)]; exact hM30 j hj
    refine mg_iload_n 5 rfl rfl rfl ?_
    refine mg_aload_n 6 rfl rfl rfl ?_
    refine mg_getI (v := nI n) 9 rfl rfl (Or.inl rfl) hX2.1 rfl ?_
    refine mg_ic_ge 12 35 rfl rfl (by decide) (fun c_9 => ?_) (fun c_9 => ?_)
    · refine mg_iload_n 36 rfl rfl rfl ?_
      refine mg_zret rfl rfl (an_mt_01 ht) ?_
      exact k f M ht hl (fun e q hq => hp e q (by have := (nI_leI (by omega) (by omega)).mp c_9; omega))
    · have hi : i < n := Nat.not_le.mp (fun h => c_9 (nI_le h (by omega)))
      refine mg_aload_n 13 rfl rfl rfl ?_
      refine mg_getR 16 rfl rfl rfl rfl ?_
      refine mg_iload_n 17 rfl rfl rfl ?_
      refine mg_zald (v := us i) 18 rfl rfl (vp_in_nI (by omega : i < 60) (by omega)) (by rw [nI_clamp (by omega)]; exact h28 i (by omega)) rfl ?_
      refine mg_if_eq 21 29 rfl rfl (by decide) (fun c_18 => ?_) (fun c_18 => ?_)
      · refine mg_iinc (v := _ + 1) (L2 := [(0, _), (1, _), (2, _)]) 32 rfl rfl (by decide) rfl rfl rfl ?_
        refine mg_goto 4 rfl (by decide) ?_
        exact ih _ (by omega) (i + 1) rfl _ _ _ (by omega) (nI_1 i) ht hl (fun e q hq hqu => by
          rcases Nat.lt_or_ge q i with h | h
          · exact hp e q h hqu
          · have : q = i := by omega
            subst this
            exact absurd (hqu.symm.trans c_18) (by decide))
      · have hu : us i = 1 := ((hU.2.2.1 i (by omega)).resolve_left c_18).1
        refine mg_iload_n 22 rfl rfl rfl ?_
        refine mg_aload_n 23 rfl rfl rfl ?_
        refine mg_iload_n 24 rfl rfl rfl ?_
        refine mg_callV1 27 rfl (Nat.le_of_ble_eq_true rfl) pg_Mo_giveNext rfl rfl ?_
        refine sm_giveNext hW hX2 hU h29 h30 hi hu hl (by omega) (fun f1 N1 t2 hl2 hc => ?_)
        show mm_Rn _ _ _ _ _ _ 27 [(0, _), (1, _), (2, _)] [_, _] _
        refine mg_ior 28 rfl rfl rfl ?_
        refine mg_istore_n (L2 := [(0, _), (1, _), (2, _)]) 29 rfl (by decide) rfl rfl ?_
        refine mg_iinc (v := _ + 1) (L2 := [(0, _), (1, _), (2, _)]) 32 rfl rfl (by decide) rfl rfl rfl ?_
        refine mg_goto 4 rfl (by decide) ?_
        exact ih _ (by omega) (i + 1) rfl _ _ _ (by omega) (nI_1 i) (an_mt_tr ht t2) hl2 (fun e q hq hqu => by
          have e0 := an_mt_eq ht t2 e
          rcases Nat.lt_or_ge q i with h | h
          · exact hp e0 q h hqu
          · have : q = i := by omega
            subst this
            have h9 := hc (e.trans e0.symm)
            rw [e0] at h9
            exact h9)
set_option maxHeartbeats 2000000 in
set_option maxRecDepth 20000 in
theorem sm_givesAll {d : Nat} {M : mm_M} {Q : mm_Qt} {n : Nat} {kd lv : Nat → Nat} {a b kp us : Nat → Int32} {rt : Nat} (hW : st_wf n kd lv a b kp) (hX : an_M M n kd a b kp) (hU : st_us n kd a b kp us rt) {em fi : Nat → Int32} (hM29 : ∀ j, j < 60 → M 29 j = em j) (hM30 : ∀ j, j < 60 → M 30 j = fi j) (hM28 : ∀ j, j < 60 → M 28 j = us j) (hl : an_low (an_cn n kd a b kp us em fi rt) (M 31)) (hd : 4 ≤ d) (k : ∀ f M', an_mt 31 f M M' → an_low (an_cn n kd a b kp us em fi rt) (M' 31) → (M' = M → ∀ i, i < n → us i = 1 → an_cn1 kd a b kp em fi (M 31) i) → Q (some (.inl f)) M') : mm_Ev pg ly d 80 [.inr 21] M Q := by
  obtain ⟨d, rfl⟩ : ∃ e, d = e + 1 := ⟨d - 1, by omega⟩
  refine mg_body yy_Mo_givesAll pg_Mo_givesAll (Nat.le_of_ble_eq_true rfl) ?_
  show mm_Rn _ _ _ _ _ _ 0 [(0, _)] [] _
  refine mg_iconst (v := 0) 1 rfl (by decide) rfl ?_
  refine mg_istore_n (L2 := [(0, _), (1, _)]) 2 rfl (by decide) rfl rfl ?_
  refine mg_iconst (v := 0) 3 rfl (by decide) rfl ?_
  refine mg_istore_n (L2 := [(0, _), (1, _), (2, _)]) 4 rfl (by decide) rfl rfl ?_
  exact lq_gives hW hX hU hM29 hM30 hM28 (by omega) k 0 0 0 M (by omega) rfl (an_mt_rf 31 M) hl (fun _ q hq => by omega)
set_option maxHeartbeats 2000000 in
set_option maxRecDepth 20000 in
theorem lq_b1 {d : Nat} {M : mm_M} {Q : mm_Qt} {rr : mm_V} {n : Nat} {kd lv : Nat → Nat} {a b kp us : Nat → Int32} (hW : st_wf n kd lv a b kp) (hX : an_M M n kd a b kp) (hM28 : ∀ j, j < 60 → M 28 j = us j ∧ (us j = 0 ∨ us j = 1)) (hd : 3 ≤ d) (k1 : (∃ q, q < n ∧ us q = 1 ∧ kd q = 1 ∧ kp (an_o (a q)) = -1) → Q (some (.inl (-3))) M) (k0 : ¬ (∃ q, q < n ∧ us q = 1 ∧ kd q = 1 ∧ kp (an_o (a q)) = -1) → mm_Rn pg ly d (mm_Ev pg ly d) yy_Mo_bad Q 52 [(0, .inr 21), (1, rr)] [] M) :
    ∀ (i : Nat) (x : Int32), i ≤ n → x = nI i → (∀ q, q < i → ¬ (us q = 1 ∧ kd q = 1 ∧ kp (an_o (a q)) = -1)) → mm_Rn pg ly d (mm_Ev pg ly d) yy_Mo_bad Q 2 [(0, .inr 21), (1, rr), (2, .inl x)] [] M := by
  have hn : n ≤ 60 := hW.1
  intro i
  induction hm : n - i using Nat.strongRecOn generalizing i with
  | _ m ih =>
    intro x hi0 ex hp
    subst ex
    refine mg_iload_n 3 rfl rfl rfl ?_
    refine mg_aload_n 4 rfl rfl rfl ?_
    refine mg_getI (v := nI n) 7 rfl rfl (Or.inl rfl) hX.1 rfl ?_
    refine mg_ic_ge 10 52 rfl rfl (by decide) (fun c_7 => ?_) (fun c_7 => ?_)
    · exact mg_loc [(0, _), (1, _)] ⟨rfl, rfl, trivial⟩ (k0 (fun h => by obtain ⟨q, hq, hpq⟩ := h; exact hp q (by have := (nI_leI (by omega) (by omega)).mp c_7; omega) hpq))
    · have hi : i < n := Nat.not_le.mp (fun h => c_7 (nI_le h (by omega)))
      refine mg_aload_n 11 rfl rfl rfl ?_
      refine mg_getR 14 rfl rfl rfl rfl ?_
      refine mg_iload_n 15 rfl rfl rfl ?_
      refine mg_zald (v := us i) 16 rfl rfl (vp_in_nI (by omega : i < 60) (by omega)) (by rw [nI_clamp (by omega)]; exact (hM28 i (by omega)).1) rfl ?_
      refine mg_if_eq 19 46 rfl rfl (by decide) (fun c_16 => ?_) (fun c_16 => ?_)
      · refine mg_iinc (v := _ + 1) (L2 := [(0, _), (1, _), (2, _)]) 49 rfl rfl (by decide) rfl rfl rfl ?_
        refine mg_goto 2 rfl (by decide) ?_
        exact ih _ (by omega) (i + 1) rfl _ (by omega) (nI_1 i) (fun q hq hp2 => by
          rcases Nat.lt_or_ge q i with h | h
          · exact hp q h hp2
          · have : q = i := by omega
            subst this
            exact absurd (hp2.1.symm.trans c_16) (by decide))
      · refine mg_aload_n 20 rfl rfl rfl ?_
        refine mg_getR 23 rfl rfl rfl rfl ?_
        refine mg_iload_n 24 rfl rfl rfl ?_
        refine mg_iald (v := nI (kd i)) 25 rfl rfl (vp_in_nI (by omega : i < 60) (by omega)) (by rw [nI_clamp (by omega)]; exact (hX.2.1 i hi).1) rfl ?_
        refine mg_iconst (v := 1) 26 rfl (by decide) rfl ?_
        refine mg_ic_ne 29 46 rfl rfl (by decide) (fun c_26 => ?_) (fun c_26 => ?_)
        · refine mg_iinc (v := _ + 1) (L2 := [(0, _), (1, _), (2, _)]) 49 rfl rfl (by decide) rfl rfl rfl ?_
          refine mg_goto 2 rfl (by decide) ?_
          exact ih _ (by omega) (i + 1) rfl _ (by omega) (nI_1 i) (fun q hq hp2 => by
            rcases Nat.lt_or_ge q i with h | h
            · exact hp q h hp2
            · have : q = i := by omega
              subst this
              exact c_26 (by rw [hp2.2.1]; rfl))
        · have hk : kd i = 1 := (st_eq 1 1 rfl (by have := (hW.2.1 i hi).1; omega) (by omega)).mp c_26
          obtain ⟨r, hr, ea⟩ := (hW.2.1 i hi).2.2.2.2.2.2.1 hk
          refine mg_aload_n 30 rfl rfl rfl ?_
          refine mg_getR 33 rfl rfl rfl rfl ?_
          refine mg_aload_n 34 rfl rfl rfl ?_
          refine mg_getR 37 rfl rfl rfl rfl ?_
          refine mg_iload_n 38 rfl rfl rfl ?_
          refine mg_iald (v := a i) 39 rfl rfl (vp_in_nI (by omega : i < 60) (by omega)) (by rw [nI_clamp (by omega)]; exact (hX.2.1 i hi).2.1) rfl ?_
          refine mg_iald (v := kp r) 40 rfl rfl (by rw [ea]; exact vp_in_nI hr (by omega)) (by rw [ea, nI_clamp (by omega)]; exact hX.2.2 r hr) rfl ?_
          refine mg_if_ge 43 46 rfl rfl (by decide) (fun c_40 => ?_) (fun c_40 => ?_)
          · refine mg_iinc (v := _ + 1) (L2 := [(0, _), (1, _), (2, _)]) 49 rfl rfl (by decide) rfl rfl rfl ?_
            refine mg_goto 2 rfl (by decide) ?_
            exact ih _ (by omega) (i + 1) rfl _ (by omega) (nI_1 i) (fun q hq hp2 => by
              rcases Nat.lt_or_ge q i with h | h
              · exact hp q h hp2
              · have : q = i := by omega
                subst this
                have h9 := hp2.2.2
                rw [ea, an_oI (by omega)] at h9
                rw [h9] at c_40
                exact absurd c_40 (by decide))
          · refine mg_bipush (v := (-3)) 45 rfl (by decide) rfl ?_
            refine mg_iret rfl rfl ?_
            exact k1 ⟨i, hi, (hM28 i (by omega)).2.resolve_left c_16, hk, by rw [ea, an_oI (by omega)]; exact (hW.2.2 r hr).resolve_right (fun z => by obtain ⟨j, hj, e⟩ := z; rw [e] at c_40; exact c_40 (nI_pos' (by omega)))⟩
set_option maxHeartbeats 2000000 in
set_option maxRecDepth 20000 in
theorem lq_b2 {d : Nat} {M : mm_M} {Q : mm_Qt} {rr : mm_V} {n : Nat} {kd lv : Nat → Nat} {a b kp us : Nat → Int32} {rt : Nat} (hW : st_wf n kd lv a b kp) (hX : an_M M n kd a b kp) (hU : st_us n kd a b kp us rt) (hM28 : ∀ j, j < 60 → M 28 j = us j ∧ (us j = 0 ∨ us j = 1)) (hd : 3 ≤ d) (k1 : (∃ q, q < n ∧ us q = 1 ∧ kd q = 1 ∧ an_rc kp (M 32) (an_o (a q))) → Q (some (.inl (-4))) M) (k0 : ¬ (∃ q, q < n ∧ us q = 1 ∧ kd q = 1 ∧ an_rc kp (M 32) (an_o (a q))) → mm_Rn pg ly d (mm_Ev pg ly d) yy_Mo_bad Q 130 [(0, .inr 21), (1, rr)] [] M) :
    ∀ (i : Nat) (x : Int32), i ≤ n → x = nI i → (∀ q, q < i → ¬ (us q = 1 ∧ kd q = 1 ∧ an_rc kp (M 32) (an_o (a q)))) → mm_Rn pg ly d (mm_Ev pg ly d) yy_Mo_bad Q 68 [(0, .inr 21), (1, rr), (3, .inl x)] [] M := by
  have hn : n ≤ 60 := hW.1
  intro i
  induction hm : n - i using Nat.strongRecOn generalizing i with
  | _ m ih =>
    intro x hi0 ex hp
    subst ex
    refine mg_iload_n 69 rfl rfl rfl ?_
    refine mg_aload_n 70 rfl rfl rfl ?_
    refine mg_getI (v := nI n) 73 rfl rfl (Or.inl rfl) hX.1 rfl ?_
    refine mg_ic_ge 76 130 rfl rfl (by decide) (fun c_73 => ?_) (fun c_73 => ?_)
    · exact mg_loc [(0, _), (1, _)] ⟨rfl, rfl, trivial⟩ (k0 (fun h => by obtain ⟨q, hq, hpq⟩ := h; exact hp q (by have := (nI_leI (by omega) (by omega)).mp c_73; omega) hpq))
    · have hi : i < n := Nat.not_le.mp (fun h => c_73 (nI_le h (by omega)))
      refine mg_aload_n 77 rfl rfl rfl ?_
      refine mg_getR 80 rfl rfl rfl rfl ?_
      refine mg_iload_n 81 rfl rfl rfl ?_
      refine mg_zald (v := us i) 82 rfl rfl (vp_in_nI (by omega : i < 60) (by omega)) (by rw [nI_clamp (by omega)]; exact (hM28 i (by omega)).1) rfl ?_
      refine mg_if_eq 85 124 rfl rfl (by decide) (fun c_82 => ?_) (fun c_82 => ?_)
      · refine mg_iinc (v := _ + 1) (L2 := [(0, _), (1, _), (3, _)]) 127 rfl rfl (by decide) rfl rfl rfl ?_
        refine mg_goto 68 rfl (by decide) ?_
        exact ih _ (by omega) (i + 1) rfl _ (by omega) (nI_1 i) (fun q hq hp2 => by
          rcases Nat.lt_or_ge q i with h | h
          · exact hp q h hp2
          · have : q = i := by omega
            subst this
            exact absurd (hp2.1.symm.trans c_82) (by decide))
      · refine mg_aload_n 86 rfl rfl rfl ?_
        refine mg_getR 89 rfl rfl rfl rfl ?_
        refine mg_iload_n 90 rfl rfl rfl ?_
        refine mg_iald (v := nI (kd i)) 91 rfl rfl (vp_in_nI (by omega : i < 60) (by omega)) (by rw [nI_clamp (by omega)]; exact (hX.2.1 i hi).1) rfl ?_
        refine mg_iconst (v := 1) 92 rfl (by decide) rfl ?_
        refine mg_ic_eq 95 98 rfl rfl (by decide) (fun c_92 => ?_) (fun c_92 => ?_)
        · have hk : kd i = 1 := (st_eq 1 1 rfl (by have := (hW.2.1 i hi).1; omega) (by omega)).mp c_92
          have hu : us i = 1 := (hM28 i (by omega)).2.resolve_left c_82
          obtain ⟨r, jc, hr, ea, hjc, ekp, -⟩ := (hU.2.2.2 i hi hu).2.2 hk
          refine mg_aload_n 99 rfl rfl rfl ?_
          refine mg_getR 102 rfl rfl rfl rfl ?_
          refine mg_aload_n 103 rfl rfl rfl ?_
          refine mg_iload_n 104 rfl rfl rfl ?_
          refine mg_callV1 107 rfl (Nat.le_of_ble_eq_true rfl) pg_Mo_callee rfl rfl ?_
          refine sm_callee hX hn hi hr ea (by omega) ?_
          rw [ekp]
          show mm_Rn _ _ _ _ _ _ 107 [(0, _), (1, _), (3, _)] [_, _] _
          refine mg_iald (v := M 32 jc) 108 rfl rfl (vp_in_nI (by omega : jc < 60) (by omega)) (by rw [nI_clamp (by omega)]) rfl ?_
          refine mg_aload_n 109 rfl rfl rfl ?_
          refine mg_getR 112 rfl rfl rfl rfl ?_
          refine mg_iload_n 113 rfl rfl rfl ?_
          refine mg_iald (v := nI r) 114 rfl rfl (vp_in_nI (by omega : i < 60) (by omega)) (by rw [nI_clamp (by omega), ← ea]; exact (hX.2.1 i hi).2.1) rfl ?_
          refine mg_ishr 115 rfl rfl rfl ?_
          refine mg_iconst (v := 1) 116 rfl (by decide) rfl ?_
          refine mg_iand 117 rfl rfl rfl ?_
          refine mg_iconst (v := 1) 118 rfl (by decide) rfl ?_
          refine mg_ic_ne 121 124 rfl rfl (by decide) (fun c_118 => ?_) (fun c_118 => ?_)
          · refine mg_iinc (v := _ + 1) (L2 := [(0, _), (1, _), (3, _)]) 127 rfl rfl (by decide) rfl rfl rfl ?_
            refine mg_goto 68 rfl (by decide) ?_
            exact ih _ (by omega) (i + 1) rfl _ (by omega) (nI_1 i) (fun q hq hp2 => by
              rcases Nat.lt_or_ge q i with h | h
              · exact hp q h hp2
              · have : q = i := by omega
                subst this
                have h9 := hp2.2.2
                rw [ea, an_oI (by omega), an_rc, ekp, an_oI (by omega)] at h9
                exact c_118 ((an_bit (M 32 jc) (by omega)).mpr h9))
          · refine mg_bipush (v := (-4)) 123 rfl (by decide) rfl ?_
            refine mg_iret rfl rfl ?_
            exact k1 ⟨i, hi, hu, hk, by rw [ea, an_oI (by omega), an_rc, ekp, an_oI (by omega)]; exact (an_bit (M 32 jc) (by omega)).mp c_118⟩
        · refine mg_goto 124 rfl (by decide) ?_
          refine mg_iinc (v := _ + 1) (L2 := [(0, _), (1, _), (3, _)]) 127 rfl rfl (by decide) rfl rfl rfl ?_
          refine mg_goto 68 rfl (by decide) ?_
          exact ih _ (by omega) (i + 1) rfl _ (by omega) (nI_1 i) (fun q hq hp2 => by
            rcases Nat.lt_or_ge q i with h | h
            · exact hp q h hp2
            · have : q = i := by omega
              subst this
              exact c_92 (by rw [hp2.2.1]; rfl))
set_option maxHeartbeats 2000000 in
set_option maxRecDepth 20000 in
theorem lq_b3 {d : Nat} {M : mm_M} {Q : mm_Qt} {rr : mm_V} {n : Nat} {kd lv : Nat → Nat} {a b kp us : Nat → Int32} (hW : st_wf n kd lv a b kp) (hX : an_M M n kd a b kp) (hM28 : ∀ j, j < 60 → M 28 j = us j ∧ (us j = 0 ∨ us j = 1)) (hd : 3 ≤ d) (k1 : (∃ q, q < n ∧ us q = 1 ∧ kd q = 5 ∧ ¬ M 29 (an_o (a q)) = 0) → Q (some (.inl (-5))) M) (k0 : ¬ (∃ q, q < n ∧ us q = 1 ∧ kd q = 5 ∧ ¬ M 29 (an_o (a q)) = 0) → mm_Rn pg ly d (mm_Ev pg ly d) yy_Mo_bad Q 204 [(0, .inr 21), (1, rr)] [] M) :
    ∀ (i : Nat) (x : Int32), i ≤ n → x = nI i → (∀ q, q < i → ¬ (us q = 1 ∧ kd q = 5 ∧ ¬ M 29 (an_o (a q)) = 0)) → mm_Rn pg ly d (mm_Ev pg ly d) yy_Mo_bad Q 154 [(0, .inr 21), (1, rr), (3, .inl x)] [] M := by
  have hn : n ≤ 60 := hW.1
  intro i
  induction hm : n - i using Nat.strongRecOn generalizing i with
  | _ m ih =>
    intro x hi0 ex hp
    subst ex
    refine mg_iload_n 155 rfl rfl rfl ?_
    refine mg_aload_n 156 rfl rfl rfl ?_
    refine mg_getI (v := nI n) 159 rfl rfl (Or.inl rfl) hX.1 rfl ?_
    refine mg_ic_ge 162 204 rfl rfl (by decide) (fun c_159 => ?_) (fun c_159 => ?_)
    · exact mg_loc [(0, _), (1, _)] ⟨rfl, rfl, trivial⟩ (k0 (fun h => by obtain ⟨q, hq, hpq⟩ := h; exact hp q (by have := (nI_leI (by omega) (by omega)).mp c_159; omega) hpq))
    · have hi : i < n := Nat.not_le.mp (fun h => c_159 (nI_le h (by omega)))
      refine mg_aload_n 163 rfl rfl rfl ?_
      refine mg_getR 166 rfl rfl rfl rfl ?_
      refine mg_iload_n 167 rfl rfl rfl ?_
      refine mg_zald (v := us i) 168 rfl rfl (vp_in_nI (by omega : i < 60) (by omega)) (by rw [nI_clamp (by omega)]; exact (hM28 i (by omega)).1) rfl ?_
      refine mg_if_eq 171 198 rfl rfl (by decide) (fun c_168 => ?_) (fun c_168 => ?_)
      · refine mg_iinc (v := _ + 1) (L2 := [(0, _), (1, _), (3, _)]) 201 rfl rfl (by decide) rfl rfl rfl ?_
        refine mg_goto 154 rfl (by decide) ?_
        exact ih _ (by omega) (i + 1) rfl _ (by omega) (nI_1 i) (fun q hq hp2 => by
          rcases Nat.lt_or_ge q i with h | h
          · exact hp q h hp2
          · have : q = i := by omega
            subst this
            exact absurd (hp2.1.symm.trans c_168) (by decide))
      · refine mg_aload_n 172 rfl rfl rfl ?_
        refine mg_getR 175 rfl rfl rfl rfl ?_
        refine mg_iload_n 176 rfl rfl rfl ?_
        refine mg_iald (v := nI (kd i)) 177 rfl rfl (vp_in_nI (by omega : i < 60) (by omega)) (by rw [nI_clamp (by omega)]; exact (hX.2.1 i hi).1) rfl ?_
        refine mg_iconst (v := 5) 178 rfl (by decide) rfl ?_
        refine mg_ic_ne 181 198 rfl rfl (by decide) (fun c_178 => ?_) (fun c_178 => ?_)
        · refine mg_iinc (v := _ + 1) (L2 := [(0, _), (1, _), (3, _)]) 201 rfl rfl (by decide) rfl rfl rfl ?_
          refine mg_goto 154 rfl (by decide) ?_
          exact ih _ (by omega) (i + 1) rfl _ (by omega) (nI_1 i) (fun q hq hp2 => by
            rcases Nat.lt_or_ge q i with h | h
            · exact hp q h hp2
            · have : q = i := by omega
              subst this
              exact c_178 (by rw [hp2.2.1]; rfl))
        · have hk : kd i = 5 := (st_eq 5 5 rfl (by have := (hW.2.1 i hi).1; omega) (by omega)).mp c_178
          obtain ⟨ja, hja, ea, -⟩ := (hW.2.1 i hi).2.2.2.1 (by rw [hk]; rfl)
          refine mg_aload_n 182 rfl rfl rfl ?_
          refine mg_getR 185 rfl rfl rfl rfl ?_
          refine mg_aload_n 186 rfl rfl rfl ?_
          refine mg_getR 189 rfl rfl rfl rfl ?_
          refine mg_iload_n 190 rfl rfl rfl ?_
          refine mg_iald (v := a i) 191 rfl rfl (vp_in_nI (by omega : i < 60) (by omega)) (by rw [nI_clamp (by omega)]; exact (hX.2.1 i hi).2.1) rfl ?_
          refine mg_zald (v := M 29 ja) 192 rfl rfl (by rw [ea]; exact vp_in_nI (by omega : ja < 60) (by omega)) (by rw [ea, nI_clamp (by omega)]) rfl ?_
          refine mg_if_eq 195 198 rfl rfl (by decide) (fun c_192 => ?_) (fun c_192 => ?_)
          · refine mg_iinc (v := _ + 1) (L2 := [(0, _), (1, _), (3, _)]) 201 rfl rfl (by decide) rfl rfl rfl ?_
            refine mg_goto 154 rfl (by decide) ?_
            exact ih _ (by omega) (i + 1) rfl _ (by omega) (nI_1 i) (fun q hq hp2 => by
              rcases Nat.lt_or_ge q i with h | h
              · exact hp q h hp2
              · have : q = i := by omega
                subst this
                have h9 := hp2.2.2
                rw [ea, an_oI (by omega)] at h9
                exact h9 c_192)
          · refine mg_bipush (v := (-5)) 197 rfl (by decide) rfl ?_
            refine mg_iret rfl rfl ?_
            exact k1 ⟨i, hi, (hM28 i (by omega)).2.resolve_left c_168, hk, by rw [ea, an_oI (by omega)]; exact c_192⟩
set_option maxHeartbeats 2000000 in
set_option maxRecDepth 20000 in
theorem lq_b4 {d : Nat} {M0 : mm_M} {Q : mm_Qt} {rr : mm_V} {n : Nat} {kd lv : Nat → Nat} {a b kp us : Nat → Int32} {rt : Nat} (hW : st_wf n kd lv a b kp) (hX : an_M M0 n kd a b kp) (hU : st_us n kd a b kp us rt) (hM28 : ∀ j, j < 60 → M0 28 j = us j) (hd : 5 ≤ d) (k : ∀ M', an_f3 M0 M' → an_lst (an_ce n kd a b kp us) (M' 29) → an_lst (an_cf 0 n kd a b kp us (M' 29)) (M' 30) → an_lst (an_cf 1 n kd a b kp us (M' 29)) (M' 32) → mm_Rn pg ly d (mm_Ev pg ly d) yy_Mo_bad Q 66 [(0, .inr 21), (1, rr)] [] M') :
    ∀ (g : Nat) (x : Int32) (M : mm_M), 5760 - an_c3 M ≤ g → an_f3 M0 M → an_up n kd a b kp us M → an_l3 n kd a b kp us M → (x = 1 ∨ (x = 0 ∧ ∀ i, i < n → us i = 1 → (an_fe kd a b kp (M 29) i → ms_le 1 (M 29 i)) ∧ ms_le (an_ow 0 kd a i ||| an_bg kd a b kp (M 29) (M 30) i) (M 30 i) ∧ ms_le (an_ow 1 kd a i ||| an_bg kd a b kp (M 29) (M 32) i) (M 32 i))) → mm_Rn pg ly d (mm_Ev pg ly d) yy_Mo_bad Q 54 [(0, .inr 21), (1, rr), (2, .inl x)] [] M := by
  have hn : n ≤ 60 := hW.1
  intro g
  induction g using Nat.strongRecOn with
  | _ g ih =>
    intro x M hg hf hup hl hx
    have hX2 : an_M M n kd a b kp := an_M_fr (by rw [hf 21 (by decide) (by decide) (by decide)]) (hf 22 (by decide) (by decide) (by decide)) (hf 23 (by decide) (by decide) (by decide)) (hf 24 (by decide) (by decide) (by decide)) (hf 27 (by decide) (by decide) (by decide)) hX
    rcases hx with rfl | ⟨rfl, hfx⟩
    · refine mg_iload_n 55 rfl rfl rfl ?_
      refine mg_if_eq 58 66 rfl rfl (by decide) (fun c_55 => absurd c_55 (by decide)) (fun c_55 => ?_)
      refine mg_aload_n 59 rfl rfl rfl ?_
      refine mg_callV0 62 rfl (Nat.le_of_ble_eq_true rfl) pg_Mo_looksInto rfl rfl ?_
      refine sm_looks hW hX2 hU (fun j hj => by rw [hf 28 (by decide) (by decide) (by decide)]; exact hM28 j hj) hup hl (by omega) (fun f2 N2 hg2 hup2 hl2 hp2 => ?_)
      show mm_Rn _ _ _ _ _ _ 62 [(0, _), (1, _), (2, _)] [_] _
      refine mg_istore_n (L2 := [(0, _), (1, _), (2, _)]) 63 rfl (by decide) rfl rfl ?_
      refine mg_goto 54 rfl (by decide) ?_
      have hf2 : an_f3 M0 N2 := fun k h1 h2 h3 => (hg2.1 k h1 h2 h3).trans (hf k h1 h2 h3)
      have hb : an_c3 N2 ≤ 5760 := by
        have h1 := an_cnt_all (N2 29)
        have h2 := an_cnt_all (N2 30)
        have h3 := an_cnt_all (N2 32)
        unfold an_c3; omega
      rcases hg2.2.2 with ⟨e1, e2⟩ | ⟨e1, e2⟩
      · subst e2
        have hlast := hp2 rfl
        have hstop : ∀ x, x = (0 : Int32) → mm_Rn pg ly d (mm_Ev pg ly d) yy_Mo_bad Q 54 [(0, .inr 21), (1, rr), (2, .inl x)] [] N2 := by
          intro x ex
          subst ex
          refine mg_iload_n 55 rfl rfl rfl ?_
          refine mg_if_eq 58 66 rfl rfl (by decide) (fun c_55 => ?_) (fun c_55 => absurd c_55 (by decide))
          exact mg_loc [(0, _), (1, _)] ⟨rfl, rfl, trivial⟩ (k N2 hf2 ⟨fun i hi hu => (hlast i hi hu).1, hl2.1⟩ ⟨fun i hi hu => (hlast i hi hu).2.1, (hl2.2 _ (fun i hi hu => (hlast i hi hu).1)).1⟩ ⟨fun i hi hu => (hlast i hi hu).2.2, (hl2.2 _ (fun i hi hu => (hlast i hi hu).1)).2⟩)
        exact hstop f2 e1
      · exact ih (5760 - an_c3 N2) (by omega) f2 N2 (Nat.le_refl _) hf2 hup2 hl2 (Or.inl e1)
    · refine mg_iload_n 55 rfl rfl rfl ?_
      refine mg_if_eq 58 66 rfl rfl (by decide) (fun c_55 => ?_) (fun c_55 => absurd c_55 (by decide))
      exact mg_loc [(0, _), (1, _)] ⟨rfl, rfl, trivial⟩ (k M hf ⟨fun i hi hu => (hfx i hi hu).1, hl.1⟩ ⟨fun i hi hu => (hfx i hi hu).2.1, (hl.2 _ (fun i hi hu => (hfx i hi hu).1)).1⟩ ⟨fun i hi hu => (hfx i hi hu).2.2, (hl.2 _ (fun i hi hu => (hfx i hi hu).1)).2⟩)
set_option maxHeartbeats 2000000 in
set_option maxRecDepth 20000 in
theorem sm_bad {d : Nat} {M : mm_M} {Q : mm_Qt} {r : Nat} {n : Nat} {kd lv : Nat → Nat} {a b kp us : Nat → Int32} {rt : Nat} (hW : st_wf n kd lv a b kp) (hX : an_M M n kd a b kp) (hrt : rt < n) (hr : r < 8) (ert : kp r = nI rt) (hL : an_lst (an_cu n kd a b kp rt) (M 28)) (hus : us = M 28) (h0 : ∀ i, i < 60 → M 29 i = 0 ∧ M 30 i = 0 ∧ M 32 i = 0) (hd : 6 ≤ d) (k3 : an_U n kd a kp us → Q (some (.inl (-3))) M) (k4 : ∀ M', an_f3 M M' → ¬ an_U n kd a kp us → an_lst (an_ce n kd a b kp us) (M' 29) → an_lst (an_cf 0 n kd a b kp us (M' 29)) (M' 30) → an_lst (an_cf 1 n kd a b kp us (M' 29)) (M' 32) → an_R n kd a kp us (M' 32) r → Q (some (.inl (-4))) M') (k5 : ∀ M', an_f3 M M' → ¬ an_U n kd a kp us → an_lst (an_ce n kd a b kp us) (M' 29) → an_lst (an_cf 0 n kd a b kp us (M' 29)) (M' 30) → an_lst (an_cf 1 n kd a b kp us (M' 29)) (M' 32) → ¬ an_R n kd a kp us (M' 32) r → an_E n kd a us (M' 29) → Q (some (.inl (-5))) M') (k0 : ∀ M', an_f3 M M' → ¬ an_U n kd a kp us → an_lst (an_ce n kd a b kp us) (M' 29) → an_lst (an_cf 0 n kd a b kp us (M' 29)) (M' 30) → an_lst (an_cf 1 n kd a b kp us (M' 29)) (M' 32) → ¬ an_R n kd a kp us (M' 32) r → ¬ an_E n kd a us (M' 29) → Q (some (.inl 0)) M') : mm_Ev pg ly d 81 [.inr 21, .inl (nI r)] M Q := by
  have hn : n ≤ 60 := hW.1
  have h01 : ∀ j, j < 60 → M 28 j = us j ∧ (us j = 0 ∨ us j = 1) := fun j hj => by subst hus; exact ⟨rfl, an_cu_01 hL.2 hj⟩
  obtain ⟨d, rfl⟩ : ∃ e, d = e + 1 := ⟨d - 1, by omega⟩
  refine mg_body yy_Mo_bad pg_Mo_bad (Nat.le_of_ble_eq_true rfl) ?_
  show mm_Rn _ _ _ _ _ _ 0 [(0, _), (1, _)] [] _
  refine mg_iconst (v := 0) 1 rfl (by decide) rfl ?_
  refine mg_istore_n (L2 := [(0, _), (1, _), (2, _)]) 2 rfl (by decide) rfl rfl ?_
  refine lq_b1 hW hX h01 (by omega) k3 (fun hnU => ?_) 0 0 (by omega) rfl (fun q hq => by omega)
  have hU : st_us n kd a b kp us rt := by subst hus; exact an_us_of hW hrt hL hnU
  refine mg_iconst (v := 1) 53 rfl (by decide) rfl ?_
  refine mg_istore_n (L2 := [(0, _), (1, _), (2, _)]) 54 rfl (by decide) rfl rfl ?_
  refine lq_b4 hW hX hU (fun j hj => (h01 j hj).1) (by omega) (fun M1 hf1 l1 l2 l3 => ?_) 5760 1 M (by omega) (fun _ _ _ _ => rfl) ?_ ?_ (Or.inl rfl)
  rotate_left
  · intro i hi hu
    obtain ⟨z1, z2, z3⟩ := h0 i (by omega)
    rw [z1, z2, z3]
    exact ⟨fun h => absurd h ms_10, ms_0 _, ms_0 _⟩
  · exact ⟨fun T hT i hi => by rw [(h0 i hi).1]; exact ms_0 _, fun E hE => ⟨fun T hT i hi => by rw [(h0 i hi).2.1]; exact ms_0 _, fun T hT i hi => by rw [(h0 i hi).2.2]; exact ms_0 _⟩⟩
  have hX1 : an_M M1 n kd a b kp := an_M_fr (by rw [hf1 21 (by decide) (by decide) (by decide)]) (hf1 22 (by decide) (by decide) (by decide)) (hf1 23 (by decide) (by decide) (by decide)) (hf1 24 (by decide) (by decide) (by decide)) (hf1 27 (by decide) (by decide) (by decide)) hX
  have h01' : ∀ j, j < 60 → M1 28 j = us j ∧ (us j = 0 ∨ us j = 1) := fun j hj => by rw [hf1 28 (by decide) (by decide) (by decide)]; exact h01 j hj
  refine mg_iconst (v := 0) 67 rfl (by decide) rfl ?_
  refine mg_istore_n (L2 := [(0, _), (1, _), (3, _)]) 68 rfl (by decide) rfl rfl ?_
  refine lq_b2 hW hX1 hU h01' (by omega) (fun h => k4 M1 hf1 hnU l1 l2 l3 (Or.inr h)) (fun hnR => ?_) 0 0 (by omega) rfl (fun q hq => by omega)
  refine mg_aload_n 131 rfl rfl rfl ?_
  refine mg_getR 134 rfl rfl rfl rfl ?_
  refine mg_aload_n 135 rfl rfl rfl ?_
  refine mg_getR 138 rfl rfl rfl rfl ?_
  refine mg_iload_n 139 rfl rfl rfl ?_
  refine mg_iald (v := nI rt) 140 rfl rfl (vp_in_nI hr (by omega)) (by rw [nI_clamp (by omega), ← ert]; exact hX1.2.2 r hr) rfl ?_
  refine mg_iald (v := M1 32 rt) 141 rfl rfl (vp_in_nI (by omega : rt < 60) (by omega)) (by rw [nI_clamp (by omega)]) rfl ?_
  refine mg_iload_n 142 rfl rfl rfl ?_
  refine mg_ishr 143 rfl rfl rfl ?_
  refine mg_iconst (v := 1) 144 rfl (by decide) rfl ?_
  refine mg_iand 145 rfl rfl rfl ?_
  refine mg_iconst (v := 1) 146 rfl (by decide) rfl ?_
  refine mg_ic_ne 149 152 rfl rfl (by decide) (fun c_146 => ?_) (fun c_146 => ?_)
  · refine mg_iconst (v := 0) 153 rfl (by decide) rfl ?_
    refine mg_istore_n (L2 := [(0, _), (1, _), (3, _)]) 154 rfl (by decide) rfl rfl ?_
    exact lq_b3 hW hX1 h01' (by omega) (fun h => k5 M1 hf1 hnU l1 l2 l3 (fun q => q.elim (fun q => c_146 ((an_bit (M1 32 rt) (by omega)).mpr (by rw [an_rc, ert, an_oI (by omega)] at q; exact q))) hnR) h) (fun hnE => mg_iconst (v := 0) 205 rfl (by decide) rfl (mg_iret rfl rfl (k0 M1 hf1 hnU l1 l2 l3 (fun q => q.elim (fun q => c_146 ((an_bit (M1 32 rt) (by omega)).mpr (by rw [an_rc, ert, an_oI (by omega)] at q; exact q))) hnR) hnE))) 0 0 (by omega) rfl (fun q hq => by omega)
  · refine mg_bipush (v := (-4)) 151 rfl (by decide) rfl ?_
    refine mg_iret rfl rfl ?_
    exact k4 M1 hf1 hnU l1 l2 l3 (Or.inl (by rw [an_rc, ert, an_oI (by omega)]; exact (an_bit (M1 32 rt) (by omega)).mp c_146))
