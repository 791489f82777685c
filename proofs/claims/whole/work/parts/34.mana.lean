theorem ms_0or (x : Int32) : 0 ||| x = x := by rw [Int32.or_comm, Int32.or_zero]
set_option maxHeartbeats 2000000 in
set_option maxRecDepth 20000 in
theorem sm_use {d : Nat} {M : mm_M} {Q : mm_Qt} {j : Nat} (hj : j < 60) (h01 : M 28 j = 0 ∨ M 28 j = 1) (hd : 1 ≤ d) (k : ∀ fl M', an_ms 28 j 1 fl M M' → Q (some (.inl fl)) M') : mm_Ev pg ly d 72 [.inr 21, .inl (nI j)] M Q := by
  obtain ⟨d, rfl⟩ : ∃ e, d = e + 1 := ⟨d - 1, by omega⟩
  refine mg_body yy_Mo_use pg_Mo_use (Nat.le_of_ble_eq_true rfl) ?_
  show mm_Rn _ _ _ _ _ _ 0 [(0, _), (1, _)] [] _
  refine mg_aload_n 1 rfl rfl rfl ?_
  refine mg_getR 4 rfl rfl rfl rfl ?_
  refine mg_iload_n 5 rfl rfl rfl ?_
  refine mg_zald (v := M 28 j) 6 rfl rfl (vp_in_nI (by omega : j < 60) (by omega)) (by rw [nI_clamp (by omega)]) rfl ?_
  refine mg_if_ne 9 13 rfl rfl (by decide) (fun c_6 => ?_) (fun c_6 => ?_)
  · refine mg_iconst (v := 0) 14 rfl (by decide) rfl ?_
    refine mg_istore_n (L2 := [(0, _), (1, _), (2, _)]) 15 rfl (by decide) rfl rfl ?_
    refine mg_aload_n 16 rfl rfl rfl ?_
    refine mg_getR 19 rfl rfl rfl rfl ?_
    refine mg_iload_n 20 rfl rfl rfl ?_
    refine mg_iconst (v := 1) 21 rfl (by decide) rfl ?_
    refine mg_zast (v := M 28 j ||| 1) (j := j) 22 rfl rfl (vp_in_nI (by omega : j < 60) (by omega)) (nI_clamp (by omega)) (by rw [h01.resolve_left c_6]; decide) rfl ?_
    refine mg_iload_n 23 rfl rfl rfl ?_
    refine mg_zret rfl rfl (by first | exact Or.inl rfl | exact Or.inr rfl) ?_
    exact k 0 _ (an_ms_no (by rw [h01.resolve_left c_6]; decide))
  · refine mg_iconst (v := 1) 10 rfl (by decide) rfl ?_
    refine mg_goto 14 rfl (by decide) ?_
    refine mg_istore_n (L2 := [(0, _), (1, _), (2, _)]) 15 rfl (by decide) rfl rfl ?_
    refine mg_aload_n 16 rfl rfl rfl ?_
    refine mg_getR 19 rfl rfl rfl rfl ?_
    refine mg_iload_n 20 rfl rfl rfl ?_
    refine mg_iconst (v := 1) 21 rfl (by decide) rfl ?_
    refine mg_zast (v := M 28 j ||| 1) (j := j) 22 rfl rfl (vp_in_nI (by omega : j < 60) (by omega)) (nI_clamp (by omega)) (by rw [c_6]; decide) rfl ?_
    refine mg_iload_n 23 rfl rfl rfl ?_
    refine mg_zret rfl rfl (by first | exact Or.inl rfl | exact Or.inr rfl) ?_
    exact k 1 _ (an_ms_up hj (by rw [c_6]; decide))
set_option maxHeartbeats 2000000 in
set_option maxRecDepth 20000 in
theorem sm_callee {d : Nat} {M : mm_M} {Q : mm_Qt} {i r : Nat} {n : Nat} {kd : Nat → Nat} {a b kp : Nat → Int32} (hX : an_M M n kd a b kp) (hn : n ≤ 60) (hi : i < n) (hr : r < 8) (ea : a i = nI r) (hd : 1 ≤ d) (k : Q (some (.inl (kp r))) M) : mm_Ev pg ly d 73 [.inr 21, .inl (nI i)] M Q := by
  obtain ⟨d, rfl⟩ : ∃ e, d = e + 1 := ⟨d - 1, by omega⟩
  refine mg_body yy_Mo_callee pg_Mo_callee (Nat.le_of_ble_eq_true rfl) ?_
  show mm_Rn _ _ _ _ _ _ 0 [(0, _), (1, _)] [] _
  refine mg_aload_n 1 rfl rfl rfl ?_
  refine mg_getR 4 rfl rfl rfl rfl ?_
  refine mg_aload_n 5 rfl rfl rfl ?_
  refine mg_getR 8 rfl rfl rfl rfl ?_
  refine mg_iload_n 9 rfl rfl rfl ?_
  refine mg_iald (v := a i) 10 rfl rfl (vp_in_nI (by omega : i < 60) (by omega)) (by rw [nI_clamp (by omega)]; exact (hX.2.1 i hi).2.1) rfl ?_
  refine mg_iald (v := kp r) 11 rfl rfl (by rw [ea]; exact vp_in_nI hr (by omega)) (by rw [ea, nI_clamp (by omega)]; exact hX.2.2 r hr) rfl ?_
  refine mg_iret rfl rfl ?_
  exact k
set_option maxHeartbeats 2000000 in
set_option maxRecDepth 20000 in
theorem lq_spread {d : Nat} {M1 : mm_M} {Q : mm_Qt} {n : Nat} {kd lv : Nat → Nat} {a b kp : Nat → Int32} {rt : Nat} (hW : st_wf n kd lv a b kp) (hX : an_M M1 n kd a b kp) (hd : 2 ≤ d) (k : ∀ f M, an_mt 28 f M1 M → an_low (an_cu n kd a b kp rt) (M 28) → (M = M1 → ∀ i, i < n → ms_le 1 (M1 28 i) → an_cu1 kd a b kp (M1 28) i) → Q (some (.inl f)) M) :
    ∀ (i : Nat) (f x : Int32) (M : mm_M), i ≤ n → x = nI i → an_mt 28 f M1 M → an_low (an_cu n kd a b kp rt) (M 28) → (M = M1 → ∀ q, q < i → ms_le 1 (M1 28 q) → an_cu1 kd a b kp (M1 28) q) → mm_Rn pg ly d (mm_Ev pg ly d) yy_Mo_spread Q 4 [(0, .inr 21), (1, .inl f), (2, .inl x)] [] M := by
  have hn : n ≤ 60 := hW.1
  intro i
  induction hm : n - i using Nat.strongRecOn generalizing i with
  | _ m ih =>
    intro f x M hi0 ex ht hl hp
    subst ex
    have hX2 := an_M_mt (by decide) ht hX
    refine mg_iload_n 5 rfl rfl rfl ?_
    refine mg_aload_n 6 rfl rfl rfl ?_
    refine mg_getI (v := nI n) 9 rfl rfl (Or.inl rfl) hX2.1 rfl ?_
    refine mg_ic_ge 12 116 rfl rfl (by decide) (fun c_9 => ?_) (fun c_9 => ?_)
    · refine mg_iload_n 117 rfl rfl rfl ?_
      refine mg_zret rfl rfl (an_mt_01 ht) ?_
      exact k f M ht hl (fun e q hq => hp e q (by have := (nI_leI (by omega) (by omega)).mp c_9; omega))
    · have hi : i < n := Nat.not_le.mp (fun h => c_9 (nI_le h (by omega)))
      refine mg_aload_n 13 rfl rfl rfl ?_
      refine mg_getR 16 rfl rfl rfl rfl ?_
      refine mg_iload_n 17 rfl rfl rfl ?_
      refine mg_zald (v := M 28 i) 18 rfl rfl (vp_in_nI (by omega : i < 60) (by omega)) (by rw [nI_clamp (by omega)]) rfl ?_
      refine mg_if_ne 21 24 rfl rfl (by decide) (fun c_18 => ?_) (fun c_18 => ?_)
      · have cT : ∀ T, an_cu n kd a b kp rt T → an_cu1 kd a b kp T i := fun T hT => hT.2 i hi (ms_tr (ms_1of (an_cu_01 hl (by omega)) c_18) (hl T hT i (by omega)))
        refine mg_aload_n 25 rfl rfl rfl ?_
        refine mg_getR 28 rfl rfl rfl rfl ?_
        refine mg_iload_n 29 rfl rfl rfl ?_
        refine mg_iald (v := nI (kd i)) 30 rfl rfl (vp_in_nI (by omega : i < 60) (by omega)) (by rw [nI_clamp (by omega)]; exact (hX2.2.1 i hi).1) rfl ?_
        rcases st_k9 (hW.2.1 i hi).1 with hk | hk | hk | hk | hk | hk | hk | hk | hk
        · rw [hk]
          refine mg_istore_n (L2 := [(0, _), (1, _), (2, _), (3, _)]) 31 rfl (by decide) rfl rfl ?_
          refine mg_aload_n 32 rfl rfl rfl ?_
          refine mg_iload_n 33 rfl rfl rfl ?_
          refine mg_callV1 36 rfl (Nat.le_of_ble_eq_true rfl) pg_Mo_namesA rfl rfl ?_
          refine sm_namesA_0 (by omega) ?_
          show mm_Rn _ _ _ _ _ _ 36 [(0, _), (1, _), (2, _), (3, _)] [_] _
          refine mg_if_eq 39 52 rfl rfl (by decide) (fun c_36 => ?_) (fun c_36 => absurd c_36 (by decide))
          refine mg_aload_n 53 rfl rfl rfl ?_
          refine mg_iload_n 54 rfl rfl rfl ?_
          refine mg_callV1 57 rfl (Nat.le_of_ble_eq_true rfl) pg_Mo_namesB rfl rfl ?_
          refine sm_namesB_0 (by omega) ?_
          show mm_Rn _ _ _ _ _ _ 57 [(0, _), (1, _), (2, _), (3, _)] [_] _
          refine mg_if_eq 60 73 rfl rfl (by decide) (fun c_57 => ?_) (fun c_57 => absurd c_57 (by decide))
          refine mg_iload_n 74 rfl rfl rfl ?_
          refine mg_iconst (v := 1) 75 rfl (by decide) rfl ?_
          refine mg_ic_ne 78 110 rfl rfl (by decide) (fun c_75 => ?_) (fun c_75 => absurd c_75 (by decide))
          refine mg_iinc (v := _ + 1) (L2 := [(0, _), (1, _), (2, _), (3, _)]) 113 rfl rfl (by decide) rfl rfl rfl ?_
          refine mg_goto 4 rfl (by decide) ?_
          have hcu : an_cu1 kd a b kp (M 28) i := ⟨fun h => absurd h (by rw [hk]; decide), fun h => absurd h (by rw [hk]; decide), fun h => absurd (hk.symm.trans h) (by decide)⟩
          exact mg_loc [(0, _), (1, _), (2, _)] ⟨rfl, rfl, rfl, trivial⟩ (ih _ (by omega) (i + 1) rfl _ _ _ (by omega) (nI_1 i) ht hl (fun e q hq h3 => by
            have e0 := e
            rcases Nat.lt_or_ge q i with h | h
            · exact hp e0 q h h3
            · have : q = i := by omega
              subst this
              rw [← e]; exact hcu))
        · rw [hk]
          obtain ⟨r, hr, ea⟩ := (hW.2.1 i hi).2.2.2.2.2.2.1 hk
          refine mg_istore_n (L2 := [(0, _), (1, _), (2, _), (3, _)]) 31 rfl (by decide) rfl rfl ?_
          refine mg_aload_n 32 rfl rfl rfl ?_
          refine mg_iload_n 33 rfl rfl rfl ?_
          refine mg_callV1 36 rfl (Nat.le_of_ble_eq_true rfl) pg_Mo_namesA rfl rfl ?_
          refine sm_namesA_1 (by omega) ?_
          show mm_Rn _ _ _ _ _ _ 36 [(0, _), (1, _), (2, _), (3, _)] [_] _
          refine mg_if_eq 39 52 rfl rfl (by decide) (fun c_36 => ?_) (fun c_36 => absurd c_36 (by decide))
          refine mg_aload_n 53 rfl rfl rfl ?_
          refine mg_iload_n 54 rfl rfl rfl ?_
          refine mg_callV1 57 rfl (Nat.le_of_ble_eq_true rfl) pg_Mo_namesB rfl rfl ?_
          refine sm_namesB_1 (by omega) ?_
          show mm_Rn _ _ _ _ _ _ 57 [(0, _), (1, _), (2, _), (3, _)] [_] _
          refine mg_if_eq 60 73 rfl rfl (by decide) (fun c_57 => ?_) (fun c_57 => absurd c_57 (by decide))
          refine mg_iload_n 74 rfl rfl rfl ?_
          refine mg_iconst (v := 1) 75 rfl (by decide) rfl ?_
          refine mg_ic_ne 78 110 rfl rfl (by decide) (fun c_75 => absurd c_75 (by decide)) (fun c_75 => ?_)
          refine mg_aload_n 79 rfl rfl rfl ?_
          refine mg_getR 82 rfl rfl rfl rfl ?_
          refine mg_aload_n 83 rfl rfl rfl ?_
          refine mg_getR 86 rfl rfl rfl rfl ?_
          refine mg_iload_n 87 rfl rfl rfl ?_
          refine mg_iald (v := a i) 88 rfl rfl (vp_in_nI (by omega : i < 60) (by omega)) (by rw [nI_clamp (by omega)]; exact (hX2.2.1 i hi).2.1) rfl ?_
          refine mg_iald (v := kp r) 89 rfl rfl (by rw [ea]; exact vp_in_nI hr (by omega)) (by rw [ea, nI_clamp (by omega)]; exact hX2.2.2 r hr) rfl ?_
          refine mg_if_lt 92 110 rfl rfl (by decide) (fun c_89 => ?_) (fun c_89 => ?_)
          · refine mg_iinc (v := _ + 1) (L2 := [(0, _), (1, _), (2, _), (3, _)]) 113 rfl rfl (by decide) rfl rfl rfl ?_
            refine mg_goto 4 rfl (by decide) ?_
            have hcu : an_cu1 kd a b kp (M 28) i := ⟨fun h => absurd h (by rw [hk]; decide), fun h => absurd h (by rw [hk]; decide), fun _ h => absurd (by rw [ea, an_oI (by omega)]; exact ((hW.2.2 r hr).resolve_right (fun z => by obtain ⟨j, hj, e⟩ := z; rw [e] at c_89; exact nI_pos (by omega) c_89))) h⟩
            exact mg_loc [(0, _), (1, _), (2, _)] ⟨rfl, rfl, rfl, trivial⟩ (ih _ (by omega) (i + 1) rfl _ _ _ (by omega) (nI_1 i) ht hl (fun e q hq h3 => by
              have e0 := e
              rcases Nat.lt_or_ge q i with h | h
              · exact hp e0 q h h3
              · have : q = i := by omega
                subst this
                rw [← e]; exact hcu))
          · obtain ⟨jc, hjc, ekp⟩ := (hW.2.2 r hr).resolve_left (fun h => c_89 (by rw [h]; decide))
            refine mg_iload_n 93 rfl rfl rfl ?_
            refine mg_aload_n 94 rfl rfl rfl ?_
            refine mg_aload_n 95 rfl rfl rfl ?_
            refine mg_getR 98 rfl rfl rfl rfl ?_
            refine mg_aload_n 99 rfl rfl rfl ?_
            refine mg_getR 102 rfl rfl rfl rfl ?_
            refine mg_iload_n 103 rfl rfl rfl ?_
            refine mg_iald (v := a i) 104 rfl rfl (vp_in_nI (by omega : i < 60) (by omega)) (by rw [nI_clamp (by omega)]; exact (hX2.2.1 i hi).2.1) rfl ?_
            refine mg_iald (v := nI jc) 105 rfl rfl (by rw [ea]; exact vp_in_nI hr (by omega)) (by rw [ea, nI_clamp (by omega), ← ekp]; exact hX2.2.2 r hr) rfl ?_
            refine mg_callV1 108 rfl (Nat.le_of_ble_eq_true rfl) pg_Mo_use rfl rfl ?_
            refine sm_use (by omega) (an_cu_01 hl (by omega)) (by omega) (fun f1 N1 s1 => ?_)
            have hl1 := an_ms_low s1 hl (fun T hT => by have h := (cT T hT).2.2 hk; rw [ea, an_oI (by omega), ekp, an_oI (by omega)] at h; exact h (fun z => absurd (by rw [z]; decide : nI jc < 0) (nI_pos (by omega))))
            have hX1 := an_M_mt (by decide) s1.1 hX2
            show mm_Rn _ _ _ _ _ _ 108 [(0, _), (1, _), (2, _), (3, _)] [_, _] _
            refine mg_ior 109 rfl rfl rfl ?_
            refine mg_istore_n (L2 := [(0, _), (1, _), (2, _), (3, _)]) 110 rfl (by decide) rfl rfl ?_
            refine mg_iinc (v := _ + 1) (L2 := [(0, _), (1, _), (2, _), (3, _)]) 113 rfl rfl (by decide) rfl rfl rfl ?_
            refine mg_goto 4 rfl (by decide) ?_
            have hcu : an_cu1 kd a b kp (N1 28) i := ⟨fun h => absurd h (by rw [hk]; decide), fun h => absurd h (by rw [hk]; decide), fun _ _ => by rw [ea, an_oI (by omega), ekp, an_oI (by omega)]; exact an_ms_v s1⟩
            exact mg_loc [(0, _), (1, _), (2, _)] ⟨rfl, rfl, rfl, trivial⟩ (ih _ (by omega) (i + 1) rfl _ _ _ (by omega) (nI_1 i) (an_mt_tr ht s1.1) hl1 (fun e q hq h3 => by
              have e0 := an_mt_eq ht s1.1 e
              rcases Nat.lt_or_ge q i with h | h
              · exact hp e0 q h h3
              · have : q = i := by omega
                subst this
                rw [← e]; exact hcu))
        · rw [hk]
          obtain ⟨ja, hja, ea, -⟩ := (hW.2.1 i hi).2.2.2.1 (by rw [hk]; rfl)
          obtain ⟨jb, hjb, eb, -⟩ := (hW.2.1 i hi).2.2.2.2.1 (by rw [hk]; rfl)
          refine mg_istore_n (L2 := [(0, _), (1, _), (2, _), (3, _)]) 31 rfl (by decide) rfl rfl ?_
          refine mg_aload_n 32 rfl rfl rfl ?_
          refine mg_iload_n 33 rfl rfl rfl ?_
          refine mg_callV1 36 rfl (Nat.le_of_ble_eq_true rfl) pg_Mo_namesA rfl rfl ?_
          refine sm_namesA_2 (by omega) ?_
          show mm_Rn _ _ _ _ _ _ 36 [(0, _), (1, _), (2, _), (3, _)] [_] _
          refine mg_if_eq 39 52 rfl rfl (by decide) (fun c_36 => absurd c_36 (by decide)) (fun c_36 => ?_)
          refine mg_iload_n 40 rfl rfl rfl ?_
          refine mg_aload_n 41 rfl rfl rfl ?_
          refine mg_aload_n 42 rfl rfl rfl ?_
          refine mg_getR 45 rfl rfl rfl rfl ?_
          refine mg_iload_n 46 rfl rfl rfl ?_
          refine mg_iald (v := nI ja) 47 rfl rfl (vp_in_nI (by omega : i < 60) (by omega)) (by rw [nI_clamp (by omega), ← ea]; exact (hX2.2.1 i hi).2.1) rfl ?_
          refine mg_callV1 50 rfl (Nat.le_of_ble_eq_true rfl) pg_Mo_use rfl rfl ?_
          refine sm_use (by omega) (an_cu_01 hl (by omega)) (by omega) (fun f1 N1 s1 => ?_)
          have hl1 := an_ms_low s1 hl (fun T hT => by have h := (cT T hT).1 (by rw [hk]; rfl); rw [ea, an_oI (by omega)] at h; exact h)
          have hX1 := an_M_mt (by decide) s1.1 hX2
          show mm_Rn _ _ _ _ _ _ 50 [(0, _), (1, _), (2, _), (3, _)] [_, _] _
          refine mg_ior 51 rfl rfl rfl ?_
          refine mg_istore_n (L2 := [(0, _), (1, _), (2, _), (3, _)]) 52 rfl (by decide) rfl rfl ?_
          refine mg_aload_n 53 rfl rfl rfl ?_
          refine mg_iload_n 54 rfl rfl rfl ?_
          refine mg_callV1 57 rfl (Nat.le_of_ble_eq_true rfl) pg_Mo_namesB rfl rfl ?_
          refine sm_namesB_2 (by omega) ?_
          show mm_Rn _ _ _ _ _ _ 57 [(0, _), (1, _), (2, _), (3, _)] [_] _
          refine mg_if_eq 60 73 rfl rfl (by decide) (fun c_57 => absurd c_57 (by decide)) (fun c_57 => ?_)
          refine mg_iload_n 61 rfl rfl rfl ?_
          refine mg_aload_n 62 rfl rfl rfl ?_
          refine mg_aload_n 63 rfl rfl rfl ?_
          refine mg_getR 66 rfl rfl rfl rfl ?_
          refine mg_iload_n 67 rfl rfl rfl ?_
          refine mg_iald (v := nI jb) 68 rfl rfl (vp_in_nI (by omega : i < 60) (by omega)) (by rw [nI_clamp (by omega), ← eb]; exact (hX1.2.1 i hi).2.2) rfl ?_
          refine mg_callV1 71 rfl (Nat.le_of_ble_eq_true rfl) pg_Mo_use rfl rfl ?_
          refine sm_use (by omega) (an_cu_01 hl1 (by omega)) (by omega) (fun f2 N2 s2 => ?_)
          have hl2 := an_ms_low s2 hl1 (fun T hT => by have h := (cT T hT).2.1 (by rw [hk]; rfl); rw [eb, an_oI (by omega)] at h; exact h)
          show mm_Rn _ _ _ _ _ _ 71 [(0, _), (1, _), (2, _), (3, _)] [_, _] _
          refine mg_ior 72 rfl rfl rfl ?_
          refine mg_istore_n (L2 := [(0, _), (1, _), (2, _), (3, _)]) 73 rfl (by decide) rfl rfl ?_
          refine mg_iload_n 74 rfl rfl rfl ?_
          refine mg_iconst (v := 1) 75 rfl (by decide) rfl ?_
          refine mg_ic_ne 78 110 rfl rfl (by decide) (fun c_75 => ?_) (fun c_75 => absurd c_75 (by decide))
          refine mg_iinc (v := _ + 1) (L2 := [(0, _), (1, _), (2, _), (3, _)]) 113 rfl rfl (by decide) rfl rfl rfl ?_
          refine mg_goto 4 rfl (by decide) ?_
          have hcu : an_cu1 kd a b kp (N2 28) i := ⟨fun _ => by rw [ea, an_oI (by omega)]; exact ms_tr (an_ms_v s1) (s2.1.2.2 ja), fun _ => by rw [eb, an_oI (by omega)]; exact an_ms_v s2, fun h => absurd (hk.symm.trans h) (by decide)⟩
          exact mg_loc [(0, _), (1, _), (2, _)] ⟨rfl, rfl, rfl, trivial⟩ (ih _ (by omega) (i + 1) rfl _ _ _ (by omega) (nI_1 i) (an_mt_tr (an_mt_tr ht s1.1) s2.1) hl2 (fun e q hq h3 => by
            have e0 := an_mt_eq ht (an_mt_tr s1.1 s2.1) e
            rcases Nat.lt_or_ge q i with h | h
            · exact hp e0 q h h3
            · have : q = i := by omega
              subst this
              rw [← e]; exact hcu))
        · rw [hk]
          obtain ⟨ja, hja, ea, -⟩ := (hW.2.1 i hi).2.2.2.1 (by rw [hk]; rfl)
          obtain ⟨jb, hjb, eb, -⟩ := (hW.2.1 i hi).2.2.2.2.1 (by rw [hk]; rfl)
          refine mg_istore_n (L2 := [(0, _), (1, _), (2, _), (3, _)]) 31 rfl (by decide) rfl rfl ?_
          refine mg_aload_n 32 rfl rfl rfl ?_
          refine mg_iload_n 33 rfl rfl rfl ?_
          refine mg_callV1 36 rfl (Nat.le_of_ble_eq_true rfl) pg_Mo_namesA rfl rfl ?_
          refine sm_namesA_3 (by omega) ?_
          show mm_Rn _ _ _ _ _ _ 36 [(0, _), (1, _), (2, _), (3, _)] [_] _
          refine mg_if_eq 39 52 rfl rfl (by decide) (fun c_36 => absurd c_36 (by decide)) (fun c_36 => ?_)
          refine mg_iload_n 40 rfl rfl rfl ?_
          refine mg_aload_n 41 rfl rfl rfl ?_
          refine mg_aload_n 42 rfl rfl rfl ?_
          refine mg_getR 45 rfl rfl rfl rfl ?_
          refine mg_iload_n 46 rfl rfl rfl ?_
          refine mg_iald (v := nI ja) 47 rfl rfl (vp_in_nI (by omega : i < 60) (by omega)) (by rw [nI_clamp (by omega), ← ea]; exact (hX2.2.1 i hi).2.1) rfl ?_
          refine mg_callV1 50 rfl (Nat.le_of_ble_eq_true rfl) pg_Mo_use rfl rfl ?_
          refine sm_use (by omega) (an_cu_01 hl (by omega)) (by omega) (fun f1 N1 s1 => ?_)
          have hl1 := an_ms_low s1 hl (fun T hT => by have h := (cT T hT).1 (by rw [hk]; rfl); rw [ea, an_oI (by omega)] at h; exact h)
          have hX1 := an_M_mt (by decide) s1.1 hX2
          show mm_Rn _ _ _ _ _ _ 50 [(0, _), (1, _), (2, _), (3, _)] [_, _] _
          refine mg_ior 51 rfl rfl rfl ?_
          refine mg_istore_n (L2 := [(0, _), (1, _), (2, _), (3, _)]) 52 rfl (by decide) rfl rfl ?_
          refine mg_aload_n 53 rfl rfl rfl ?_
          refine mg_iload_n 54 rfl rfl rfl ?_
          refine mg_callV1 57 rfl (Nat.le_of_ble_eq_true rfl) pg_Mo_namesB rfl rfl ?_
          refine sm_namesB_3 (by omega) ?_
          show mm_Rn _ _ _ _ _ _ 57 [(0, _), (1, _), (2, _), (3, _)] [_] _
          refine mg_if_eq 60 73 rfl rfl (by decide) (fun c_57 => absurd c_57 (by decide)) (fun c_57 => ?_)
          refine mg_iload_n 61 rfl rfl rfl ?_
          refine mg_aload_n 62 rfl rfl rfl ?_
          refine mg_aload_n 63 rfl rfl rfl ?_
          refine mg_getR 66 rfl rfl rfl rfl ?_
          refine mg_iload_n 67 rfl rfl rfl ?_
          refine mg_iald (v := nI jb) 68 rfl rfl (vp_in_nI (by omega : i < 60) (by omega)) (by rw [nI_clamp (by omega), ← eb]; exact (hX1.2.1 i hi).2.2) rfl ?_
          refine mg_callV1 71 rfl (Nat.le_of_ble_eq_true rfl) pg_Mo_use rfl rfl ?_
          refine sm_use (by omega) (an_cu_01 hl1 (by omega)) (by omega) (fun f2 N2 s2 => ?_)
          have hl2 := an_ms_low s2 hl1 (fun T hT => by have h := (cT T hT).2.1 (by rw [hk]; rfl); rw [eb, an_oI (by omega)] at h; exact h)
          show mm_Rn _ _ _ _ _ _ 71 [(0, _), (1, _), (2, _), (3, _)] [_, _] _
          refine mg_ior 72 rfl rfl rfl ?_
          refine mg_istore_n (L2 := [(0, _), (1, _), (2, _), (3, _)]) 73 rfl (by decide) rfl rfl ?_
          refine mg_iload_n 74 rfl rfl rfl ?_
          refine mg_iconst (v := 1) 75 rfl (by decide) rfl ?_
          refine mg_ic_ne 78 110 rfl rfl (by decide) (fun c_75 => ?_) (fun c_75 => absurd c_75 (by decide))
          refine mg_iinc (v := _ + 1) (L2 := [(0, _), (1, _), (2, _), (3, _)]) 113 rfl rfl (by decide) rfl rfl rfl ?_
          refine mg_goto 4 rfl (by decide) ?_
          have hcu : an_cu1 kd a b kp (N2 28) i := ⟨fun _ => by rw [ea, an_oI (by omega)]; exact ms_tr (an_ms_v s1) (s2.1.2.2 ja), fun _ => by rw [eb, an_oI (by omega)]; exact an_ms_v s2, fun h => absurd (hk.symm.trans h) (by decide)⟩
          exact mg_loc [(0, _), (1, _), (2, _)] ⟨rfl, rfl, rfl, trivial⟩ (ih _ (by omega) (i + 1) rfl _ _ _ (by omega) (nI_1 i) (an_mt_tr (an_mt_tr ht s1.1) s2.1) hl2 (fun e q hq h3 => by
            have e0 := an_mt_eq ht (an_mt_tr s1.1 s2.1) e
            rcases Nat.lt_or_ge q i with h | h
            · exact hp e0 q h h3
            · have : q = i := by omega
              subst this
              rw [← e]; exact hcu))
        · rw [hk]
          obtain ⟨ja, hja, ea, -⟩ := (hW.2.1 i hi).2.2.2.1 (by rw [hk]; rfl)
          refine mg_istore_n (L2 := [(0, _), (1, _), (2, _), (3, _)]) 31 rfl (by decide) rfl rfl ?_
          refine mg_aload_n 32 rfl rfl rfl ?_
          refine mg_iload_n 33 rfl rfl rfl ?_
          refine mg_callV1 36 rfl (Nat.le_of_ble_eq_true rfl) pg_Mo_namesA rfl rfl ?_
          refine sm_namesA_4 (by omega) ?_
          show mm_Rn _ _ _ _ _ _ 36 [(0, _), (1, _), (2, _), (3, _)] [_] _
          refine mg_if_eq 39 52 rfl rfl (by decide) (fun c_36 => absurd c_36 (by decide)) (fun c_36 => ?_)
          refine mg_iload_n 40 rfl rfl rfl ?_
          refine mg_aload_n 41 rfl rfl rfl ?_
          refine mg_aload_n 42 rfl rfl rfl ?_
          refine mg_getR 45 rfl rfl rfl rfl ?_
          refine mg_iload_n 46 rfl rfl rfl ?_
          refine mg_iald (v := nI ja) 47 rfl rfl (vp_in_nI (by omega : i < 60) (by omega)) (by rw [nI_clamp (by omega), ← ea]; exact (hX2.2.1 i hi).2.1) rfl ?_
          refine mg_callV1 50 rfl (Nat.le_of_ble_eq_true rfl) pg_Mo_use rfl rfl ?_
          refine sm_use (by omega) (an_cu_01 hl (by omega)) (by omega) (fun f1 N1 s1 => ?_)
          have hl1 := an_ms_low s1 hl (fun T hT => by have h := (cT T hT).1 (by rw [hk]; rfl); rw [ea, an_oI (by omega)] at h; exact h)
          have hX1 := an_M_mt (by decide) s1.1 hX2
          show mm_Rn _ _ _ _ _ _ 50 [(0, _), (1, _), (2, _), (3, _)] [_, _] _
          refine mg_ior 51 rfl rfl rfl ?_
          refine mg_istore_n (L2 := [(0, _), (1, _), (2, _), (3, _)]) 52 rfl (by decide) rfl rfl ?_
          refine mg_aload_n 53 rfl rfl rfl ?_
          refine mg_iload_n 54 rfl rfl rfl ?_
          refine mg_callV1 57 rfl (Nat.le_of_ble_eq_true rfl) pg_Mo_namesB rfl rfl ?_
          refine sm_namesB_4 (by omega) ?_
          show mm_Rn _ _ _ _ _ _ 57 [(0, _), (1, _), (2, _), (3, _)] [_] _
          refine mg_if_eq 60 73 rfl rfl (by decide) (fun c_57 => ?_) (fun c_57 => absurd c_57 (by decide))
          refine mg_iload_n 74 rfl rfl rfl ?_
          refine mg_iconst (v := 1) 75 rfl (by decide) rfl ?_
          refine mg_ic_ne 78 110 rfl rfl (by decide) (fun c_75 => ?_) (fun c_75 => absurd c_75 (by decide))
          refine mg_iinc (v := _ + 1) (L2 := [(0, _), (1, _), (2, _), (3, _)]) 113 rfl rfl (by decide) rfl rfl rfl ?_
          refine mg_goto 4 rfl (by decide) ?_
          have hcu : an_cu1 kd a b kp (N1 28) i := ⟨fun _ => by rw [ea, an_oI (by omega)]; exact an_ms_v s1, fun h => absurd h (by rw [hk]; decide), fun h => absurd (hk.symm.trans h) (by decide)⟩
          exact mg_loc [(0, _), (1, _), (2, _)] ⟨rfl, rfl, rfl, trivial⟩ (ih _ (by omega) (i + 1) rfl _ _ _ (by omega) (nI_1 i) (an_mt_tr ht s1.1) hl1 (fun e q hq h3 => by
            have e0 := an_mt_eq ht s1.1 e
            rcases Nat.lt_or_ge q i with h | h
            · exact hp e0 q h h3
            · have : q = i := by omega
              subst this
              rw [← e]; exact hcu))
        · rw [hk]
          obtain ⟨ja, hja, ea, -⟩ := (hW.2.1 i hi).2.2.2.1 (by rw [hk]; rfl)
          refine mg_istore_n (L2 := [(0, _), (1, _), (2, _), (3, _)]) 31 rfl (by decide) rfl rfl ?_
          refine mg_aload_n 32 rfl rfl rfl ?_
          refine mg_iload_n 33 rfl rfl rfl ?_
          refine mg_callV1 36 rfl (Nat.le_of_ble_eq_true rfl) pg_Mo_namesA rfl rfl ?_
          refine sm_namesA_5 (by omega) ?_
          show mm_Rn _ _ _ _ _ _ 36 [(0, _), (1, _), (2, _), (3, _)] [_] _
          refine mg_if_eq 39 52 rfl rfl (by decide) (fun c_36 => absurd c_36 (by decide)) (fun c_36 => ?_)
          refine mg_iload_n 40 rfl rfl rfl ?_
          refine mg_aload_n 41 rfl rfl rfl ?_
          refine mg_aload_n 42 rfl rfl rfl ?_
          refine mg_getR 45 rfl rfl rfl rfl ?_
          refine mg_iload_n 46 rfl rfl rfl ?_
          refine mg_iald (v := nI ja) 47 rfl rfl (vp_in_nI (by omega : i < 60) (by omega)) (by rw [nI_clamp (by omega), ← ea]; exact (hX2.2.1 i hi).2.1) rfl ?_
          refine mg_callV1 50 rfl (Nat.le_of_ble_eq_true rfl) pg_Mo_use rfl rfl ?_
          refine sm_use (by omega) (an_cu_01 hl (by omega)) (by omega) (fun f1 N1 s1 => ?_)
          have hl1 := an_ms_low s1 hl (fun T hT => by have h := (cT T hT).1 (by rw [hk]; rfl); rw [ea, an_oI (by omega)] at h; exact h)
          have hX1 := an_M_mt (by decide) s1.1 hX2
          show mm_Rn _ _ _ _ _ _ 50 [(0, _), (1, _), (2, _), (3, _)] [_, _] _
          refine mg_ior 51 rfl rfl rfl ?_
          refine mg_istore_n (L2 := [(0, _), (1, _), (2, _), (3, _)]) 52 rfl (by decide) rfl rfl ?_
          refine mg_aload_n 53 rfl rfl rfl ?_
          refine mg_iload_n 54 rfl rfl rfl ?_
          refine mg_callV1 57 rfl (Nat.le_of_ble_eq_true rfl) pg_Mo_namesB rfl rfl ?_
          refine sm_namesB_5 (by omega) ?_
          show mm_Rn _ _ _ _ _ _ 57 [(0, _), (1, _), (2, _), (3, _)] [_] _
          refine mg_if_eq 60 73 rfl rfl (by decide) (fun c_57 => ?_) (fun c_57 => absurd c_57 (by decide))
          refine mg_iload_n 74 rfl rfl rfl ?_
          refine mg_iconst (v := 1) 75 rfl (by decide) rfl ?_
          refine mg_ic_ne 78 110 rfl rfl (by decide) (fun c_75 => ?_) (fun c_75 => absurd c_75 (by decide))
          refine mg_iinc (v := _ + 1) (L2 := [(0, _), (1, _), (2, _), (3, _)]) 113 rfl rfl (by decide) rfl rfl rfl ?_
          refine mg_goto 4 rfl (by decide) ?_
          have hcu : an_cu1 kd a b kp (N1 28) i := ⟨fun _ => by rw [ea, an_oI (by omega)]; exact an_ms_v s1, fun h => absurd h (by rw [hk]; decide), fun h => absurd (hk.symm.trans h) (by decide)⟩
          exact mg_loc [(0, _), (1, _), (2, _)] ⟨rfl, rfl, rfl, trivial⟩ (ih _ (by omega) (i + 1) rfl _ _ _ (by omega) (nI_1 i) (an_mt_tr ht s1.1) hl1 (fun e q hq h3 => by
            have e0 := an_mt_eq ht s1.1 e
            rcases Nat.lt_or_ge q i with h | h
            · exact hp e0 q h h3
            · have : q = i := by omega
              subst this
              rw [← e]; exact hcu))
        · rw [hk]
          refine mg_istore_n (L2 := [(0, _), (1, _), (2, _), (3, _)]) 31 rfl (by decide) rfl rfl ?_
          refine mg_aload_n 32 rfl rfl rfl ?_
          refine mg_iload_n 33 rfl rfl rfl ?_
          refine mg_callV1 36 rfl (Nat.le_of_ble_eq_true rfl) pg_Mo_namesA rfl rfl ?_
          refine sm_namesA_6 (by omega) ?_
          show mm_Rn _ _ _ _ _ _ 36 [(0, _), (1, _), (2, _), (3, _)] [_] _
          refine mg_if_eq 39 52 rfl rfl (by decide) (fun c_36 => ?_) (fun c_36 => absurd c_36 (by decide))
          refine mg_aload_n 53 rfl rfl rfl ?_
          refine mg_iload_n 54 rfl rfl rfl ?_
          refine mg_callV1 57 rfl (Nat.le_of_ble_eq_true rfl) pg_Mo_namesB rfl rfl ?_
          refine sm_namesB_6 (by omega) ?_
          show mm_Rn _ _ _ _ _ _ 57 [(0, _), (1, _), (2, _), (3, _)] [_] _
          refine mg_if_eq 60 73 rfl rfl (by decide) (fun c_57 => ?_) (fun c_57 => absurd c_57 (by decide))
          refine mg_iload_n 74 rfl rfl rfl ?_
          refine mg_iconst (v := 1) 75 rfl (by decide) rfl ?_
          refine mg_ic_ne 78 110 rfl rfl (by decide) (fun c_75 => ?_) (fun c_75 => absurd c_75 (by decide))
          refine mg_iinc (v := _ + 1) (L2 := [(0, _), (1, _), (2, _), (3, _)]) 113 rfl rfl (by decide) rfl rfl rfl ?_
          refine mg_goto 4 rfl (by decide) ?_
          have hcu : an_cu1 kd a b kp (M 28) i := ⟨fun h => absurd h (by rw [hk]; decide), fun h => absurd h (by rw [hk]; decide), fun h => absurd (hk.symm.trans h) (by decide)⟩
          exact mg_loc [(0, _), (1, _), (2, _)] ⟨rfl, rfl, rfl, trivial⟩ (ih _ (by omega) (i + 1) rfl _ _ _ (by omega) (nI_1 i) ht hl (fun e q hq h3 => by
            have e0 := e
            rcases Nat.lt_or_ge q i with h | h
            · exact hp e0 q h h3
            · have : q = i := by omega
              subst this
              rw [← e]; exact hcu))
        · rw [hk]
          obtain ⟨ja, hja, ea, -⟩ := (hW.2.1 i hi).2.2.2.1 (by rw [hk]; rfl)
          obtain ⟨jb, hjb, eb, -⟩ := (hW.2.1 i hi).2.2.2.2.1 (by rw [hk]; rfl)
          refine mg_istore_n (L2 := [(0, _), (1, _), (2, _), (3, _)]) 31 rfl (by decide) rfl rfl ?_
          refine mg_aload_n 32 rfl rfl rfl ?_
          refine mg_iload_n 33 rfl rfl rfl ?_
          refine mg_callV1 36 rfl (Nat.le_of_ble_eq_true rfl) pg_Mo_namesA rfl rfl ?_
          refine sm_namesA_7 (by omega) ?_
          show mm_Rn _ _ _ _ _ _ 36 [(0, _), (1, _), (2, _), (3, _)] [_] _
          refine mg_if_eq 39 52 rfl rfl (by decide) (fun c_36 => absurd c_36 (by decide)) (fun c_36 => ?_)
          refine mg_iload_n 40 rfl rfl rfl ?_
          refine mg_aload_n 41 rfl rfl rfl ?_
          refine mg_aload_n 42 rfl rfl rfl ?_
          refine mg_getR 45 rfl rfl rfl rfl ?_
          refine mg_iload_n 46 rfl rfl rfl ?_
          refine mg_iald (v := nI ja) 47 rfl rfl (vp_in_nI (by omega : i < 60) (by omega)) (by rw [nI_clamp (by omega), ← ea]; exact (hX2.2.1 i hi).2.1) rfl ?_
          refine mg_callV1 50 rfl (Nat.le_of_ble_eq_true rfl) pg_Mo_use rfl rfl ?_
          refine sm_use (by omega) (an_cu_01 hl (by omega)) (by omega) (fun f1 N1 s1 => ?_)
          have hl1 := an_ms_low s1 hl (fun T hT => by have h := (cT T hT).1 (by rw [hk]; rfl); rw [ea, an_oI (by omega)] at h; exact h)
          have hX1 := an_M_mt (by decide) s1.1 hX2
          show mm_Rn _ _ _ _ _ _ 50 [(0, _), (1, _), (2, _), (3, _)] [_, _] _
          refine mg_ior 51 rfl rfl rfl ?_
          refine mg_istore_n (L2 := [(0, _), (1, _), (2, _), (3, _)]) 52 rfl (by decide) rfl rfl ?_
          refine mg_aload_n 53 rfl rfl rfl ?_
          refine mg_iload_n 54 rfl rfl rfl ?_
          refine mg_callV1 57 rfl (Nat.le_of_ble_eq_true rfl) pg_Mo_namesB rfl rfl ?_
          refine sm_namesB_7 (by omega) ?_
          show mm_Rn _ _ _ _ _ _ 57 [(0, _), (1, _), (2, _), (3, _)] [_] _
          refine mg_if_eq 60 73 rfl rfl (by decide) (fun c_57 => absurd c_57 (by decide)) (fun c_57 => ?_)
          refine mg_iload_n 61 rfl rfl rfl ?_
          refine mg_aload_n 62 rfl rfl rfl ?_
          refine mg_aload_n 63 rfl rfl rfl ?_
          refine mg_getR 66 rfl rfl rfl rfl ?_
          refine mg_iload_n 67 rfl rfl rfl ?_
          refine mg_iald (v := nI jb) 68 rfl rfl (vp_in_nI (by omega : i < 60) (by omega)) (by rw [nI_clamp (by omega), ← eb]; exact (hX1.2.1 i hi).2.2) rfl ?_
          refine mg_callV1 71 rfl (Nat.le_of_ble_eq_true rfl) pg_Mo_use rfl rfl ?_
          refine sm_use (by omega) (an_cu_01 hl1 (by omega)) (by omega) (fun f2 N2 s2 => ?_)
          have hl2 := an_ms_low s2 hl1 (fun T hT => by have h := (cT T hT).2.1 (by rw [hk]; rfl); rw [eb, an_oI (by omega)] at h; exact h)
          show mm_Rn _ _ _ _ _ _ 71 [(0, _), (1, _), (2, _), (3, _)] [_, _] _
          refine mg_ior 72 rfl rfl rfl ?_
          refine mg_istore_n (L2 := [(0, _), (1, _), (2, _), (3, _)]) 73 rfl (by decide) rfl rfl ?_
          refine mg_iload_n 74 rfl rfl rfl ?_
          refine mg_iconst (v := 1) 75 rfl (by decide) rfl ?_
          refine mg_ic_ne 78 110 rfl rfl (by decide) (fun c_75 => ?_) (fun c_75 => absurd c_75 (by decide))
          refine mg_iinc (v := _ + 1) (L2 := [(0, _), (1, _), (2, _), (3, _)]) 113 rfl rfl (by decide) rfl rfl rfl ?_
          refine mg_goto 4 rfl (by decide) ?_
          have hcu : an_cu1 kd a b kp (N2 28) i := ⟨fun _ => by rw [ea, an_oI (by omega)]; exact ms_tr (an_ms_v s1) (s2.1.2.2 ja), fun _ => by rw [eb, an_oI (by omega)]; exact an_ms_v s2, fun h => absurd (hk.symm.trans h) (by decide)⟩
          exact mg_loc [(0, _), (1, _), (2, _)] ⟨rfl, rfl, rfl, trivial⟩ (ih _ (by omega) (i + 1) rfl _ _ _ (by omega) (nI_1 i) (an_mt_tr (an_mt_tr ht s1.1) s2.1) hl2 (fun e q hq h3 => by
            have e0 := an_mt_eq ht (an_mt_tr s1.1 s2.1) e
            rcases Nat.lt_or_ge q i with h | h
            · exact hp e0 q h h3
            · have : q = i := by omega
              subst this
              rw [← e]; exact hcu))
        · rw [hk]
          obtain ⟨jb, hjb, eb, -⟩ := (hW.2.1 i hi).2.2.2.2.1 (by rw [hk]; rfl)
          refine mg_istore_n (L2 := [(0, _), (1, _), (2, _), (3, _)]) 31 rfl (by decide) rfl rfl ?_
          refine mg_aload_n 32 rfl rfl rfl ?_
          refine mg_iload_n 33 rfl rfl rfl ?_
          refine mg_callV1 36 rfl (Nat.le_of_ble_eq_true rfl) pg_Mo_namesA rfl rfl ?_
          refine sm_namesA_8 (by omega) ?_
          show mm_Rn _ _ _ _ _ _ 36 [(0, _), (1, _), (2, _), (3, _)] [_] _
          refine mg_if_eq 39 52 rfl rfl (by decide) (fun c_36 => ?_) (fun c_36 => absurd c_36 (by decide))
          refine mg_aload_n 53 rfl rfl rfl ?_
          refine mg_iload_n 54 rfl rfl rfl ?_
          refine mg_callV1 57 rfl (Nat.le_of_ble_eq_true rfl) pg_Mo_namesB rfl rfl ?_
          refine sm_namesB_8 (by omega) ?_
          show mm_Rn _ _ _ _ _ _ 57 [(0, _), (1, _), (2, _), (3, _)] [_] _
          refine mg_if_eq 60 73 rfl rfl (by decide) (fun c_57 => absurd c_57 (by decide)) (fun c_57 => ?_)
          refine mg_iload_n 61 rfl rfl rfl ?_
          refine mg_aload_n 62 rfl rfl rfl ?_
          refine mg_aload_n 63 rfl rfl rfl ?_
          refine mg_getR 66 rfl rfl rfl rfl ?_
          refine mg_iload_n 67 rfl rfl rfl ?_
          refine mg_iald (v := nI jb) 68 rfl rfl (vp_in_nI (by omega : i < 60) (by omega)) (by rw [nI_clamp (by omega), ← eb]; exact (hX2.2.1 i hi).2.2) rfl ?_
          refine mg_callV1 71 rfl (Nat.le_of_ble_eq_true rfl) pg_Mo_use rfl rfl ?_
          refine sm_use (by omega) (an_cu_01 hl (by omega)) (by omega) (fun f1 N1 s1 => ?_)
          have hl1 := an_ms_low s1 hl (fun T hT => by have h := (cT T hT).2.1 (by rw [hk]; rfl); rw [eb, an_oI (by omega)] at h; exact h)
          have hX1 := an_M_mt (by decide) s1.1 hX2
          show mm_Rn _ _ _ _ _ _ 71 [(0, _), (1, _), (2, _), (3, _)] [_, _] _
          refine mg_ior 72 rfl rfl rfl ?_
          refine mg_istore_n (L2 := [(0, _), (1, _), (2, _), (3, _)]) 73 rfl (by decide) rfl rfl ?_
          refine mg_iload_n 74 rfl rfl rfl ?_
          refine mg_iconst (v := 1) 75 rfl (by decide) rfl ?_
          refine mg_ic_ne 78 110 rfl rfl (by decide) (fun c_75 => ?_) (fun c_75 => absurd c_75 (by decide))
          refine mg_iinc (v := _ + 1) (L2 := [(0, _), (1, _), (2, _), (3, _)]) 113 rfl rfl (by decide) rfl rfl rfl ?_
          refine mg_goto 4 rfl (by decide) ?_
          have hcu : an_cu1 kd a b kp (N1 28) i := ⟨fun h => absurd h (by rw [hk]; decide), fun _ => by rw [eb, an_oI (by omega)]; exact an_ms_v s1, fun h => absurd (hk.symm.trans h) (by decide)⟩
          exact mg_loc [(0, _), (1, _), (2, _)] ⟨rfl, rfl, rfl, trivial⟩ (ih _ (by omega) (i + 1) rfl _ _ _ (by omega) (nI_1 i) (an_mt_tr ht s1.1) hl1 (fun e q hq h3 => by
            have e0 := an_mt_eq ht s1.1 e
            rcases Nat.lt_or_ge q i with h | h
            · exact hp e0 q h h3
            · have : q = i := by omega
              subst this
              rw [← e]; exact hcu))
      · refine mg_goto 110 rfl (by decide) ?_
        refine mg_iinc (v := _ + 1) (L2 := [(0, _), (1, _), (2, _)]) 113 rfl rfl (by decide) rfl rfl rfl ?_
        refine mg_goto 4 rfl (by decide) ?_
        exact ih _ (by omega) (i + 1) rfl _ _ _ (by omega) (nI_1 i) ht hl (fun e q hq h3 => by
          rcases Nat.lt_or_ge q i with h | h
          · exact hp e q h h3
          · have : q = i := by omega
            subst this
            rw [e] at c_18
            exact absurd c_18 (ms_1n0 h3))
set_option maxHeartbeats 2000000 in
set_option maxRecDepth 20000 in
theorem sm_spread {d : Nat} {M : mm_M} {Q : mm_Qt} {n : Nat} {kd lv : Nat → Nat} {a b kp : Nat → Int32} {rt : Nat} (hW : st_wf n kd lv a b kp) (hX : an_M M n kd a b kp) (hl : an_low (an_cu n kd a b kp rt) (M 28)) (hd : 3 ≤ d) (k : ∀ f M', an_mt 28 f M M' → an_low (an_cu n kd a b kp rt) (M' 28) → (M' = M → ∀ i, i < n → ms_le 1 (M 28 i) → an_cu1 kd a b kp (M 28) i) → Q (some (.inl f)) M') : mm_Ev pg ly d 71 [.inr 21] M Q := by
  obtain ⟨d, rfl⟩ : ∃ e, d = e + 1 := ⟨d - 1, by omega⟩
  refine mg_body yy_Mo_spread pg_Mo_spread (Nat.le_of_ble_eq_true rfl) ?_
  show mm_Rn _ _ _ _ _ _ 0 [(0, _)] [] _
  refine mg_iconst (v := 0) 1 rfl (by decide) rfl ?_
  refine mg_istore_n (L2 := [(0, _), (1, _)]) 2 rfl (by decide) rfl rfl ?_
  refine mg_iconst (v := 0) 3 rfl (by decide) rfl ?_
  refine mg_istore_n (L2 := [(0, _), (1, _), (2, _)]) 4 rfl (by decide) rfl rfl ?_
  exact lq_spread hW hX (by omega) k 0 0 0 M (by omega) rfl (an_mt_rf 28 M) hl (fun _ q hq => by omega)
set_option maxHeartbeats 2000000 in
set_option maxRecDepth 20000 in
theorem sm_emptyNow {d : Nat} {M : mm_M} {Q : mm_Qt} {i : Nat} {n : Nat} {kd lv : Nat → Nat} {a b kp us : Nat → Int32} {rt : Nat} (hW : st_wf n kd lv a b kp) (hX : an_M M n kd a b kp) (hU : st_us n kd a b kp us rt) (hi : i < n) (hu : us i = 1) (h01 : ∀ j, j < 60 → M 29 j = 0 ∨ M 29 j = 1) (hd : 2 ≤ d) (k1 : an_fe kd a b kp (M 29) i → Q (some (.inl 1)) M) (k0 : ¬ an_fe kd a b kp (M 29) i → Q (some (.inl 0)) M) : mm_Ev pg ly d 74 [.inr 21, .inl (nI i)] M Q := by
  have hn : n ≤ 60 := hW.1
  have hO := an_ok_of hW hU hi hu
  obtain ⟨d, rfl⟩ : ∃ e, d = e + 1 := ⟨d - 1, by omega⟩
  refine mg_body yy_Mo_emptyNow pg_Mo_emptyNow (Nat.le_of_ble_eq_true rfl) ?_
  show mm_Rn _ _ _ _ _ _ 0 [(0, _), (1, _)] [] _
  refine mg_aload_n 1 rfl rfl rfl ?_
  refine mg_getR 4 rfl rfl rfl rfl ?_
  refine mg_iload_n 5 rfl rfl rfl ?_
  refine mg_iald (v := nI (kd i)) 6 rfl rfl (vp_in_nI (by omega : i < 60) (by omega)) (by rw [nI_clamp (by omega)]; exact (hX.2.1 i hi).1) rfl ?_
  rcases st_k9 (hW.2.1 i hi).1 with hk | hk | hk | hk | hk | hk | hk | hk | hk
  · rw [hk]
    refine mg_istore_n (L2 := [(0, _), (1, _), (2, _)]) 7 rfl (by decide) rfl rfl ?_
    refine mg_aload_n 8 rfl rfl rfl ?_
    refine mg_getR 11 rfl rfl rfl rfl ?_
    refine mg_iload_n 12 rfl rfl rfl ?_
    refine mg_iald (v := a i) 13 rfl rfl (vp_in_nI (by omega : i < 60) (by omega)) (by rw [nI_clamp (by omega)]; exact (hX.2.1 i hi).2.1) rfl ?_
    refine mg_istore_n (L2 := [(0, _), (1, _), (2, _), (3, _)]) 14 rfl (by decide) rfl rfl ?_
    refine mg_aload_n 15 rfl rfl rfl ?_
    refine mg_getR 18 rfl rfl rfl rfl ?_
    refine mg_iload_n 19 rfl rfl rfl ?_
    refine mg_iald (v := b i) 20 rfl rfl (vp_in_nI (by omega : i < 60) (by omega)) (by rw [nI_clamp (by omega)]; exact (hX.2.1 i hi).2.2) rfl ?_
    refine mg_istore (L2 := [(0, _), (1, _), (2, _), (3, _), (4, _)]) 22 rfl (by decide) rfl rfl ?_
    refine mg_iload_n 23 rfl rfl rfl ?_
    refine mg_iconst (v := 2) 24 rfl (by decide) rfl ?_
    refine mg_ic_ne 27 52 rfl rfl (by decide) (fun c_24 => ?_) (fun c_24 => absurd c_24 (by decide))
    refine mg_iload_n 53 rfl rfl rfl ?_
    refine mg_iconst (v := 3) 54 rfl (by decide) rfl ?_
    refine mg_ic_ne 57 82 rfl rfl (by decide) (fun c_54 => ?_) (fun c_54 => absurd c_54 (by decide))
    refine mg_iload_n 83 rfl rfl rfl ?_
    refine mg_bipush (v := 6) 85 rfl (by decide) rfl ?_
    refine mg_ic_le 88 96 rfl rfl (by decide) (fun c_85 => ?_) (fun c_85 => absurd c_85 (by decide))
    refine mg_iload_n 97 rfl rfl rfl ?_
    refine mg_iconst (v := 1) 98 rfl (by decide) rfl ?_
    refine mg_ic_ne 101 114 rfl rfl (by decide) (fun c_98 => ?_) (fun c_98 => absurd c_98 (by decide))
    refine mg_iload_n 115 rfl rfl rfl ?_
    refine mg_iconst (v := 3) 116 rfl (by decide) rfl ?_
    refine mg_ic_le 119 123 rfl rfl (by decide) (fun c_116 => ?_) (fun c_116 => absurd c_116 (by decide))
    refine mg_iconst (v := 0) 124 rfl (by decide) rfl ?_
    refine mg_zret rfl rfl (by first | exact Or.inl rfl | exact Or.inr rfl) ?_
    exact k0 (by rw [an_fe0 hk]; exact id)
  · rw [hk]
    obtain ⟨r, jc, hr, ea, hjc, hjcn, ekp, -⟩ := hO.2.2.2 hk
    refine mg_istore_n (L2 := [(0, _), (1, _), (2, _)]) 7 rfl (by decide) rfl rfl ?_
    refine mg_aload_n 8 rfl rfl rfl ?_
    refine mg_getR 11 rfl rfl rfl rfl ?_
    refine mg_iload_n 12 rfl rfl rfl ?_
    refine mg_iald (v := a i) 13 rfl rfl (vp_in_nI (by omega : i < 60) (by omega)) (by rw [nI_clamp (by omega)]; exact (hX.2.1 i hi).2.1) rfl ?_
    refine mg_istore_n (L2 := [(0, _), (1, _), (2, _), (3, _)]) 14 rfl (by decide) rfl rfl ?_
    refine mg_aload_n 15 rfl rfl rfl ?_
    refine mg_getR 18 rfl rfl rfl rfl ?_
    refine mg_iload_n 19 rfl rfl rfl ?_
    refine mg_iald (v := b i) 20 rfl rfl (vp_in_nI (by omega : i < 60) (by omega)) (by rw [nI_clamp (by omega)]; exact (hX.2.1 i hi).2.2) rfl ?_
    refine mg_istore (L2 := [(0, _), (1, _), (2, _), (3, _), (4, _)]) 22 rfl (by decide) rfl rfl ?_
    refine mg_iload_n 23 rfl rfl rfl ?_
    refine mg_iconst (v := 2) 24 rfl (by decide) rfl ?_
    refine mg_ic_ne 27 52 rfl rfl (by decide) (fun c_24 => ?_) (fun c_24 => absurd c_24 (by decide))
    refine mg_iload_n 53 rfl rfl rfl ?_
    refine mg_iconst (v := 3) 54 rfl (by decide) rfl ?_
    refine mg_ic_ne 57 82 rfl rfl (by decide) (fun c_54 => ?_) (fun c_54 => absurd c_54 (by decide))
    refine mg_iload_n 83 rfl rfl rfl ?_
    refine mg_bipush (v := 6) 85 rfl (by decide) rfl ?_
    refine mg_ic_le 88 96 rfl rfl (by decide) (fun c_85 => ?_) (fun c_85 => absurd c_85 (by decide))
    refine mg_iload_n 97 rfl rfl rfl ?_
    refine mg_iconst (v := 1) 98 rfl (by decide) rfl ?_
    refine mg_ic_ne 101 114 rfl rfl (by decide) (fun c_98 => absurd c_98 (by decide)) (fun c_98 => ?_)
    refine mg_aload_n 102 rfl rfl rfl ?_
    refine mg_getR 105 rfl rfl rfl rfl ?_
    refine mg_aload_n 106 rfl rfl rfl ?_
    refine mg_iload_n 107 rfl rfl rfl ?_
    refine mg_callV1 110 rfl (Nat.le_of_ble_eq_true rfl) pg_Mo_callee rfl rfl ?_
    refine sm_callee hX hn hi hr ea (by omega) ?_
    rw [ekp]
    show mm_Rn _ _ _ _ _ _ 110 [(0, _), (1, _), (2, _), (3, _), (4, _)] [_, _] _
    refine mg_zald (v := M 29 jc) 111 rfl rfl (vp_in_nI (by omega : jc < 60) (by omega)) (by rw [nI_clamp (by omega)]) rfl ?_
    rcases h01 jc (by omega) with hv | hv
    · rw [hv]
      refine mg_goto 124 rfl (by decide) ?_
      refine mg_zret rfl rfl (by first | exact Or.inl rfl | exact Or.inr rfl) ?_
      exact k0 (by rw [an_fe1 hk, ea, an_oI (by omega), ekp, an_oI (by omega), hv]; exact ms_10)
    · rw [hv]
      refine mg_goto 124 rfl (by decide) ?_
      refine mg_zret rfl rfl (by first | exact Or.inl rfl | exact Or.inr rfl) ?_
      exact k1 (by rw [an_fe1 hk, ea, an_oI (by omega), ekp, an_oI (by omega), hv]; exact ms_rf 1)
  · rw [hk]
    obtain ⟨ja, hja, hjn, ea, -⟩ := hO.2.1 (by rw [hk]; rfl)
    obtain ⟨jb, hjb, hjbn, eb, -⟩ := hO.2.2.1 (by rw [hk]; rfl)
    refine mg_istore_n (L2 := [(0, _), (1, _), (2, _)]) 7 rfl (by decide) rfl rfl ?_
    refine mg_aload_n 8 rfl rfl rfl ?_
    refine mg_getR 11 rfl rfl rfl rfl ?_
    refine mg_iload_n 12 rfl rfl rfl ?_
    refine mg_iald (v := a i) 13 rfl rfl (vp_in_nI (by omega : i < 60) (by omega)) (by rw [nI_clamp (by omega)]; exact (hX.2.1 i hi).2.1) rfl ?_
    refine mg_istore_n (L2 := [(0, _), (1, _), (2, _), (3, _)]) 14 rfl (by decide) rfl rfl ?_
    refine mg_aload_n 15 rfl rfl rfl ?_
    refine mg_getR 18 rfl rfl rfl rfl ?_
    refine mg_iload_n 19 rfl rfl rfl ?_
    refine mg_iald (v := b i) 20 rfl rfl (vp_in_nI (by omega : i < 60) (by omega)) (by rw [nI_clamp (by omega)]; exact (hX.2.1 i hi).2.2) rfl ?_
    refine mg_istore (L2 := [(0, _), (1, _), (2, _), (3, _), (4, _)]) 22 rfl (by decide) rfl rfl ?_
    refine mg_iload_n 23 rfl rfl rfl ?_
    refine mg_iconst (v := 2) 24 rfl (by decide) rfl ?_
    refine mg_ic_ne 27 52 rfl rfl (by decide) (fun c_24 => absurd c_24 (by decide)) (fun c_24 => ?_)
    refine mg_aload_n 28 rfl rfl rfl ?_
    refine mg_getR 31 rfl rfl rfl rfl ?_
    refine mg_iload_n 32 rfl rfl rfl ?_
    refine mg_zald (v := M 29 ja) 33 rfl rfl (by rw [ea]; exact vp_in_nI (by omega : ja < 60) (by omega)) (by rw [ea, nI_clamp (by omega)]) rfl ?_
    refine mg_if_eq 36 50 rfl rfl (by decide) (fun c_33 => ?_) (fun c_33 => ?_)
    · refine mg_iconst (v := 0) 51 rfl (by decide) rfl ?_
      refine mg_zret rfl rfl (by first | exact Or.inl rfl | exact Or.inr rfl) ?_
      exact k0 (by rw [an_fe2 hk, ea, an_oI (by omega), eb, an_oI (by omega)]; exact fun h => ms_1n0 h.1 c_33)
    · refine mg_aload_n 37 rfl rfl rfl ?_
      refine mg_getR 40 rfl rfl rfl rfl ?_
      refine mg_iload 42 rfl rfl rfl ?_
      refine mg_zald (v := M 29 jb) 43 rfl rfl (by rw [eb]; exact vp_in_nI (by omega : jb < 60) (by omega)) (by rw [eb, nI_clamp (by omega)]) rfl ?_
      refine mg_if_eq 46 50 rfl rfl (by decide) (fun c_43 => ?_) (fun c_43 => ?_)
      · refine mg_iconst (v := 0) 51 rfl (by decide) rfl ?_
        refine mg_zret rfl rfl (by first | exact Or.inl rfl | exact Or.inr rfl) ?_
        exact k0 (by rw [an_fe2 hk, ea, an_oI (by omega), eb, an_oI (by omega)]; exact fun h => ms_1n0 h.2 c_43)
      · refine mg_iconst (v := 1) 47 rfl (by decide) rfl ?_
        refine mg_goto 51 rfl (by decide) ?_
        refine mg_zret rfl rfl (by first | exact Or.inl rfl | exact Or.inr rfl) ?_
        exact k1 (by rw [an_fe2 hk, ea, an_oI (by omega), eb, an_oI (by omega)]; exact ⟨ms_1of (h01 ja (by omega)) c_33, ms_1of (h01 jb (by omega)) c_43⟩)
  · rw [hk]
    obtain ⟨ja, hja, hjn, ea, -⟩ := hO.2.1 (by rw [hk]; rfl)
    obtain ⟨jb, hjb, hjbn, eb, -⟩ := hO.2.2.1 (by rw [hk]; rfl)
    refine mg_istore_n (L2 := [(0, _), (1, _), (2, _)]) 7 rfl (by decide) rfl rfl ?_
    refine mg_aload_n 8 rfl rfl rfl ?_
    refine mg_getR 11 rfl rfl rfl rfl ?_
    refine mg_iload_n 12 rfl rfl rfl ?_
    refine mg_iald (v := a i) 13 rfl rfl (vp_in_nI (by omega : i < 60) (by omega)) (by rw [nI_clamp (by omega)]; exact (hX.2.1 i hi).2.1) rfl ?_
    refine mg_istore_n (L2 := [(0, _), (1, _), (2, _), (3, _)]) 14 rfl (by decide) rfl rfl ?_
    refine mg_aload_n 15 rfl rfl rfl ?_
    refine mg_getR 18 rfl rfl rfl rfl ?_
    refine mg_iload_n 19 rfl rfl rfl ?_
    refine mg_iald (v := b i) 20 rfl rfl (vp_in_nI (by omega : i < 60) (by omega)) (by rw [nI_clamp (by omega)]; exact (hX.2.1 i hi).2.2) rfl ?_
    refine mg_istore (L2 := [(0, _), (1, _), (2, _), (3, _), (4, _)]) 22 rfl (by decide) rfl rfl ?_
    refine mg_iload_n 23 rfl rfl rfl ?_
    refine mg_iconst (v := 2) 24 rfl (by decide) rfl ?_
    refine mg_ic_ne 27 52 rfl rfl (by decide) (fun c_24 => ?_) (fun c_24 => absurd c_24 (by decide))
    refine mg_iload_n 53 rfl rfl rfl ?_
    refine mg_iconst (v := 3) 54 rfl (by decide) rfl ?_
    refine mg_ic_ne 57 82 rfl rfl (by decide) (fun c_54 => absurd c_54 (by decide)) (fun c_54 => ?_)
    refine mg_aload_n 58 rfl rfl rfl ?_
    refine mg_getR 61 rfl rfl rfl rfl ?_
    refine mg_iload_n 62 rfl rfl rfl ?_
    refine mg_zald (v := M 29 ja) 63 rfl rfl (by rw [ea]; exact vp_in_nI (by omega : ja < 60) (by omega)) (by rw [ea, nI_clamp (by omega)]) rfl ?_
    refine mg_if_ne 66 76 rfl rfl (by decide) (fun c_63 => ?_) (fun c_63 => ?_)
    · refine mg_iconst (v := 1) 77 rfl (by decide) rfl ?_
      refine mg_goto 81 rfl (by decide) ?_
      refine mg_zret rfl rfl (by first | exact Or.inl rfl | exact Or.inr rfl) ?_
      exact k1 (by rw [an_fe3 hk, ea, an_oI (by omega), eb, an_oI (by omega)]; exact Or.inl (ms_1of (h01 ja (by omega)) c_63))
    · refine mg_aload_n 67 rfl rfl rfl ?_
      refine mg_getR 70 rfl rfl rfl rfl ?_
      refine mg_iload 72 rfl rfl rfl ?_
      refine mg_zald (v := M 29 jb) 73 rfl rfl (by rw [eb]; exact vp_in_nI (by omega : jb < 60) (by omega)) (by rw [eb, nI_clamp (by omega)]) rfl ?_
      refine mg_if_eq 76 80 rfl rfl (by decide) (fun c_73 => ?_) (fun c_73 => ?_)
      · refine mg_iconst (v := 0) 81 rfl (by decide) rfl ?_
        refine mg_zret rfl rfl (by first | exact Or.inl rfl | exact Or.inr rfl) ?_
        exact k0 (by rw [an_fe3 hk, ea, an_oI (by omega), eb, an_oI (by omega)]; exact fun h => h.elim (fun h => ms_1n0 h c_63) (fun h => ms_1n0 h c_73))
      · refine mg_iconst (v := 1) 77 rfl (by decide) rfl ?_
        refine mg_goto 81 rfl (by decide) ?_
        refine mg_zret rfl rfl (by first | exact Or.inl rfl | exact Or.inr rfl) ?_
        exact k1 (by rw [an_fe3 hk, ea, an_oI (by omega), eb, an_oI (by omega)]; exact Or.inr (ms_1of (h01 jb (by omega)) c_73))
  · rw [hk]
    obtain ⟨ja, hja, hjn, ea, -⟩ := hO.2.1 (by rw [hk]; rfl)
    refine mg_istore_n (L2 := [(0, _), (1, _), (2, _)]) 7 rfl (by decide) rfl rfl ?_
    refine mg_aload_n 8 rfl rfl rfl ?_
    refine mg_getR 11 rfl rfl rfl rfl ?_
    refine mg_iload_n 12 rfl rfl rfl ?_
    refine mg_iald (v := a i) 13 rfl rfl (vp_in_nI (by omega : i < 60) (by omega)) (by rw [nI_clamp (by omega)]; exact (hX.2.1 i hi).2.1) rfl ?_
    refine mg_istore_n (L2 := [(0, _), (1, _), (2, _), (3, _)]) 14 rfl (by decide) rfl rfl ?_
    refine mg_aload_n 15 rfl rfl rfl ?_
    refine mg_getR 18 rfl rfl rfl rfl ?_
    refine mg_iload_n 19 rfl rfl rfl ?_
    refine mg_iald (v := b i) 20 rfl rfl (vp_in_nI (by omega : i < 60) (by omega)) (by rw [nI_clamp (by omega)]; exact (hX.2.1 i hi).2.2) rfl ?_
    refine mg_istore (L2 := [(0, _), (1, _), (2, _), (3, _), (4, _)]) 22 rfl (by decide) rfl rfl ?_
    refine mg_iload_n 23 rfl rfl rfl ?_
    refine mg_iconst (v := 2) 24 rfl (by decide) rfl ?_
    refine mg_ic_ne 27 52 rfl rfl (by decide) (fun c_24 => ?_) (fun c_24 => absurd c_24 (by decide))
    refine mg_iload_n 53 rfl rfl rfl ?_
    refine mg_iconst (v := 3) 54 rfl (by decide) rfl ?_
    refine mg_ic_ne 57 82 rfl rfl (by decide) (fun c_54 => ?_) (fun c_54 => absurd c_54 (by decide))
    refine mg_iload_n 83 rfl rfl rfl ?_
    refine mg_bipush (v := 6) 85 rfl (by decide) rfl ?_
    refine mg_ic_le 88 96 rfl rfl (by decide) (fun c_85 => ?_) (fun c_85 => absurd c_85 (by decide))
    refine mg_iload_n 97 rfl rfl rfl ?_
    refine mg_iconst (v := 1) 98 rfl (by decide) rfl ?_
    refine mg_ic_ne 101 114 rfl rfl (by decide) (fun c_98 => ?_) (fun c_98 => absurd c_98 (by decide))
    refine mg_iload_n 115 rfl rfl rfl ?_
    refine mg_iconst (v := 3) 116 rfl (by decide) rfl ?_
    refine mg_ic_le 119 123 rfl rfl (by decide) (fun c_116 => absurd c_116 (by decide)) (fun c_116 => ?_)
    refine mg_iconst (v := 1) 120 rfl (by decide) rfl ?_
    refine mg_goto 124 rfl (by decide) ?_
    refine mg_zret rfl rfl (by first | exact Or.inl rfl | exact Or.inr rfl) ?_
    exact k1 (by rw [an_fe4 hk]; trivial)
  · rw [hk]
    obtain ⟨ja, hja, hjn, ea, -⟩ := hO.2.1 (by rw [hk]; rfl)
    refine mg_istore_n (L2 := [(0, _), (1, _), (2, _)]) 7 rfl (by decide) rfl rfl ?_
    refine mg_aload_n 8 rfl rfl rfl ?_
    refine mg_getR 11 rfl rfl rfl rfl ?_
    refine mg_iload_n 12 rfl rfl rfl ?_
    refine mg_iald (v := a i) 13 rfl rfl (vp_in_nI (by omega : i < 60) (by omega)) (by rw [nI_clamp (by omega)]; exact (hX.2.1 i hi).2.1) rfl ?_
    refine mg_istore_n (L2 := [(0, _), (1, _), (2, _), (3, _)]) 14 rfl (by decide) rfl rfl ?_
    refine mg_aload_n 15 rfl rfl rfl ?_
    refine mg_getR 18 rfl rfl rfl rfl ?_
    refine mg_iload_n 19 rfl rfl rfl ?_
    refine mg_iald (v := b i) 20 rfl rfl (vp_in_nI (by omega : i < 60) (by omega)) (by rw [nI_clamp (by omega)]; exact (hX.2.1 i hi).2.2) rfl ?_
    refine mg_istore (L2 := [(0, _), (1, _), (2, _), (3, _), (4, _)]) 22 rfl (by decide) rfl rfl ?_
    refine mg_iload_n 23 rfl rfl rfl ?_
    refine mg_iconst (v := 2) 24 rfl (by decide) rfl ?_
    refine mg_ic_ne 27 52 rfl rfl (by decide) (fun c_24 => ?_) (fun c_24 => absurd c_24 (by decide))
    refine mg_iload_n 53 rfl rfl rfl ?_
    refine mg_iconst (v := 3) 54 rfl (by decide) rfl ?_
    refine mg_ic_ne 57 82 rfl rfl (by decide) (fun c_54 => ?_) (fun c_54 => absurd c_54 (by decide))
    refine mg_iload_n 83 rfl rfl rfl ?_
    refine mg_bipush (v := 6) 85 rfl (by decide) rfl ?_
    refine mg_ic_le 88 96 rfl rfl (by decide) (fun c_85 => ?_) (fun c_85 => absurd c_85 (by decide))
    refine mg_iload_n 97 rfl rfl rfl ?_
    refine mg_iconst (v := 1) 98 rfl (by decide) rfl ?_
    refine mg_ic_ne 101 114 rfl rfl (by decide) (fun c_98 => ?_) (fun c_98 => absurd c_98 (by decide))
    refine mg_iload_n 115 rfl rfl rfl ?_
    refine mg_iconst (v := 3) 116 rfl (by decide) rfl ?_
    refine mg_ic_le 119 123 rfl rfl (by decide) (fun c_116 => absurd c_116 (by decide)) (fun c_116 => ?_)
    refine mg_iconst (v := 1) 120 rfl (by decide) rfl ?_
    refine mg_goto 124 rfl (by decide) ?_
    refine mg_zret rfl rfl (by first | exact Or.inl rfl | exact Or.inr rfl) ?_
    exact k1 (by rw [an_fe5 hk]; trivial)
  · rw [hk]
    refine mg_istore_n (L2 := [(0, _), (1, _), (2, _)]) 7 rfl (by decide) rfl rfl ?_
    refine mg_aload_n 8 rfl rfl rfl ?_
    refine mg_getR 11 rfl rfl rfl rfl ?_
    refine mg_iload_n 12 rfl rfl rfl ?_
    refine mg_iald (v := a i) 13 rfl rfl (vp_in_nI (by omega : i < 60) (by omega)) (by rw [nI_clamp (by omega)]; exact (hX.2.1 i hi).2.1) rfl ?_
    refine mg_istore_n (L2 := [(0, _), (1, _), (2, _), (3, _)]) 14 rfl (by decide) rfl rfl ?_
    refine mg_aload_n 15 rfl rfl rfl ?_
    refine mg_getR 18 rfl rfl rfl rfl ?_
    refine mg_iload_n 19 rfl rfl rfl ?_
    refine mg_iald (v := b i) 20 rfl rfl (vp_in_nI (by omega : i < 60) (by omega)) (by rw [nI_clamp (by omega)]; exact (hX.2.1 i hi).2.2) rfl ?_
    refine mg_istore (L2 := [(0, _), (1, _), (2, _), (3, _), (4, _)]) 22 rfl (by decide) rfl rfl ?_
    refine mg_iload_n 23 rfl rfl rfl ?_
    refine mg_iconst (v := 2) 24 rfl (by decide) rfl ?_
    refine mg_ic_ne 27 52 rfl rfl (by decide) (fun c_24 => ?_) (fun c_24 => absurd c_24 (by decide))
    refine mg_iload_n 53 rfl rfl rfl ?_
    refine mg_iconst (v := 3) 54 rfl (by decide) rfl ?_
    refine mg_ic_ne 57 82 rfl rfl (by decide) (fun c_54 => ?_) (fun c_54 => absurd c_54 (by decide))
    refine mg_iload_n 83 rfl rfl rfl ?_
    refine mg_bipush (v := 6) 85 rfl (by decide) rfl ?_
    refine mg_ic_le 88 96 rfl rfl (by decide) (fun c_85 => ?_) (fun c_85 => absurd c_85 (by decide))
    refine mg_iload_n 97 rfl rfl rfl ?_
    refine mg_iconst (v := 1) 98 rfl (by decide) rfl ?_
    refine mg_ic_ne 101 114 rfl rfl (by decide) (fun c_98 => ?_) (fun c_98 => absurd c_98 (by decide))
    refine mg_iload_n 115 rfl rfl rfl ?_
    refine mg_iconst (v := 3) 116 rfl (by decide) rfl ?_
    refine mg_ic_le 119 123 rfl rfl (by decide) (fun c_116 => absurd c_116 (by decide)) (fun c_116 => ?_)
    refine mg_iconst (v := 1) 120 rfl (by decide) rfl ?_
    refine mg_goto 124 rfl (by decide) ?_
    refine mg_zret rfl rfl (by first | exact Or.inl rfl | exact Or.inr rfl) ?_
    exact k1 (by rw [an_fe6 hk]; trivial)
  · rw [hk]
    obtain ⟨ja, hja, hjn, ea, -⟩ := hO.2.1 (by rw [hk]; rfl)
    obtain ⟨jb, hjb, hjbn, eb, -⟩ := hO.2.2.1 (by rw [hk]; rfl)
    refine mg_istore_n (L2 := [(0, _), (1, _), (2, _)]) 7 rfl (by decide) rfl rfl ?_
    refine mg_aload_n 8 rfl rfl rfl ?_
    refine mg_getR 11 rfl rfl rfl rfl ?_
    refine mg_iload_n 12 rfl rfl rfl ?_
    refine mg_iald (v := a i) 13 rfl rfl (vp_in_nI (by omega : i < 60) (by omega)) (by rw [nI_clamp (by omega)]; exact (hX.2.1 i hi).2.1) rfl ?_
    refine mg_istore_n (L2 := [(0, _), (1, _), (2, _), (3, _)]) 14 rfl (by decide) rfl rfl ?_
    refine mg_aload_n 15 rfl rfl rfl ?_
    refine mg_getR 18 rfl rfl rfl rfl ?_
    refine mg_iload_n 19 rfl rfl rfl ?_
    refine mg_iald (v := b i) 20 rfl rfl (vp_in_nI (by omega : i < 60) (by omega)) (by rw [nI_clamp (by omega)]; exact (hX.2.1 i hi).2.2) rfl ?_
    refine mg_istore (L2 := [(0, _), (1, _), (2, _), (3, _), (4, _)]) 22 rfl (by decide) rfl rfl ?_
    refine mg_iload_n 23 rfl rfl rfl ?_
    refine mg_iconst (v := 2) 24 rfl (by decide) rfl ?_
    refine mg_ic_ne 27 52 rfl rfl (by decide) (fun c_24 => ?_) (fun c_24 => absurd c_24 (by decide))
    refine mg_iload_n 53 rfl rfl rfl ?_
    refine mg_iconst (v := 3) 54 rfl (by decide) rfl ?_
    refine mg_ic_ne 57 82 rfl rfl (by decide) (fun c_54 => ?_) (fun c_54 => absurd c_54 (by decide))
    refine mg_iload_n 83 rfl rfl rfl ?_
    refine mg_bipush (v := 6) 85 rfl (by decide) rfl ?_
    refine mg_ic_le 88 96 rfl rfl (by decide) (fun c_85 => absurd c_85 (by decide)) (fun c_85 => ?_)
    refine mg_aload_n 89 rfl rfl rfl ?_
    refine mg_getR 92 rfl rfl rfl rfl ?_
    refine mg_iload 94 rfl rfl rfl ?_
    refine mg_zald (v := M 29 jb) 95 rfl rfl (by rw [eb]; exact vp_in_nI (by omega : jb < 60) (by omega)) (by rw [eb, nI_clamp (by omega)]) rfl ?_
    rcases h01 jb (by omega) with hv | hv
    · rw [hv]
      refine mg_zret rfl rfl (by first | exact Or.inl rfl | exact Or.inr rfl) ?_
      exact k0 (by rw [an_fe7 hk, eb, an_oI (by omega), hv]; exact ms_10)
    · rw [hv]
      refine mg_zret rfl rfl (by first | exact Or.inl rfl | exact Or.inr rfl) ?_
      exact k1 (by rw [an_fe7 hk, eb, an_oI (by omega), hv]; exact ms_rf 1)
  · rw [hk]
    obtain ⟨jb, hjb, hjbn, eb, -⟩ := hO.2.2.1 (by rw [hk]; rfl)
    refine mg_istore_n (L2 := [(0, _), (1, _), (2, _)]) 7 rfl (by decide) rfl rfl ?_
    refine mg_aload_n 8 rfl rfl rfl ?_
    refine mg_getR 11 rfl rfl rfl rfl ?_
    refine mg_iload_n 12 rfl rfl rfl ?_
    refine mg_iald (v := a i) 13 rfl rfl (vp_in_nI (by omega : i < 60) (by omega)) (by rw [nI_clamp (by omega)]; exact (hX.2.1 i hi).2.1) rfl ?_
    refine mg_istore_n (L2 := [(0, _), (1, _), (2, _), (3, _)]) 14 rfl (by decide) rfl rfl ?_
    refine mg_aload_n 15 rfl rfl rfl ?_
    refine mg_getR 18 rfl rfl rfl rfl ?_
    refine mg_iload_n 19 rfl rfl rfl ?_
    refine mg_iald (v := b i) 20 rfl rfl (vp_in_nI (by omega : i < 60) (by omega)) (by rw [nI_clamp (by omega)]; exact (hX.2.1 i hi).2.2) rfl ?_
    refine mg_istore (L2 := [(0, _), (1, _), (2, _), (3, _), (4, _)]) 22 rfl (by decide) rfl rfl ?_
    refine mg_iload_n 23 rfl rfl rfl ?_
    refine mg_iconst (v := 2) 24 rfl (by decide) rfl ?_
    refine mg_ic_ne 27 52 rfl rfl (by decide) (fun c_24 => ?_) (fun c_24 => absurd c_24 (by decide))
    refine mg_iload_n 53 rfl rfl rfl ?_
    refine mg_iconst (v := 3) 54 rfl (by decide) rfl ?_
    refine mg_ic_ne 57 82 rfl rfl (by decide) (fun c_54 => ?_) (fun c_54 => absurd c_54 (by decide))
    refine mg_iload_n 83 rfl rfl rfl ?_
    refine mg_bipush (v := 6) 85 rfl (by decide) rfl ?_
    refine mg_ic_le 88 96 rfl rfl (by decide) (fun c_85 => absurd c_85 (by decide)) (fun c_85 => ?_)
    refine mg_aload_n 89 rfl rfl rfl ?_
    refine mg_getR 92 rfl rfl rfl rfl ?_
    refine mg_iload 94 rfl rfl rfl ?_
    refine mg_zald (v := M 29 jb) 95 rfl rfl (by rw [eb]; exact vp_in_nI (by omega : jb < 60) (by omega)) (by rw [eb, nI_clamp (by omega)]) rfl ?_
    rcases h01 jb (by omega) with hv | hv
    · rw [hv]
      refine mg_zret rfl rfl (by first | exact Or.inl rfl | exact Or.inr rfl) ?_
      exact k0 (by rw [an_fe8 hk, eb, an_oI (by omega), hv]; exact ms_10)
    · rw [hv]
      refine mg_zret rfl rfl (by first | exact Or.inl rfl | exact Or.inr rfl) ?_
      exact k1 (by rw [an_fe8 hk, eb, an_oI (by omega), hv]; exact ms_rf 1)
set_option maxHeartbeats 2000000 in
set_option maxRecDepth 20000 in
theorem sm_firstNow {d : Nat} {M : mm_M} {Q : mm_Qt} {i : Nat} {n : Nat} {kd lv : Nat → Nat} {a b kp us : Nat → Int32} {rt : Nat} (hW : st_wf n kd lv a b kp) (hX : an_M M n kd a b kp) (hU : st_us n kd a b kp us rt) (hi : i < n) (hu : us i = 1) (hd : 2 ≤ d) (k : Q (some (.inl (an_ow 0 kd a i ||| an_bg kd a b kp (M 29) (M 30) i))) M) : mm_Ev pg ly d 75 [.inr 21, .inl (nI i)] M Q := by
  have hn : n ≤ 60 := hW.1
  have hO := an_ok_of hW hU hi hu
  obtain ⟨d, rfl⟩ : ∃ e, d = e + 1 := ⟨d - 1, by omega⟩
  refine mg_body yy_Mo_firstNow pg_Mo_firstNow (Nat.le_of_ble_eq_true rfl) ?_
  show mm_Rn _ _ _ _ _ _ 0 [(0, _), (1, _)] [] _
  refine mg_aload_n 1 rfl rfl rfl ?_
  refine mg_getR 4 rfl rfl rfl rfl ?_
  refine mg_iload_n 5 rfl rfl rfl ?_
  refine mg_iald (v := nI (kd i)) 6 rfl rfl (vp_in_nI (by omega : i < 60) (by omega)) (by rw [nI_clamp (by omega)]; exact (hX.2.1 i hi).1) rfl ?_
  rcases st_k9 (hW.2.1 i hi).1 with hk | hk | hk | hk | hk | hk | hk | hk | hk
  · rw [hk]
    refine mg_istore_n (L2 := [(0, _), (1, _), (2, _)]) 7 rfl (by decide) rfl rfl ?_
    refine mg_aload_n 8 rfl rfl rfl ?_
    refine mg_getR 11 rfl rfl rfl rfl ?_
    refine mg_iload_n 12 rfl rfl rfl ?_
    refine mg_iald (v := a i) 13 rfl rfl (vp_in_nI (by omega : i < 60) (by omega)) (by rw [nI_clamp (by omega)]; exact (hX.2.1 i hi).2.1) rfl ?_
    refine mg_istore_n (L2 := [(0, _), (1, _), (2, _), (3, _)]) 14 rfl (by decide) rfl rfl ?_
    refine mg_aload_n 15 rfl rfl rfl ?_
    refine mg_getR 18 rfl rfl rfl rfl ?_
    refine mg_iload_n 19 rfl rfl rfl ?_
    refine mg_iald (v := b i) 20 rfl rfl (vp_in_nI (by omega : i < 60) (by omega)) (by rw [nI_clamp (by omega)]; exact (hX.2.1 i hi).2.2) rfl ?_
    refine mg_istore (L2 := [(0, _), (1, _), (2, _), (3, _), (4, _)]) 22 rfl (by decide) rfl rfl ?_
    refine mg_iload_n 23 rfl rfl rfl ?_
    refine mg_if_ne 26 30 rfl rfl (by decide) (fun c_23 => absurd c_23 (by decide)) (fun c_23 => ?_)
    refine mg_iconst (v := 1) 27 rfl (by decide) rfl ?_
    refine mg_iload_n 28 rfl rfl rfl ?_
    refine mg_ishl 29 rfl rfl rfl ?_
    refine mg_iret rfl rfl ?_
    rw [an_ow, if_pos hk, an_bg0 hk] at k
    rw [Int32.or_zero] at k
    exact k
  · rw [hk]
    obtain ⟨r, jc, hr, ea, hjc, hjcn, ekp, -⟩ := hO.2.2.2 hk
    refine mg_istore_n (L2 := [(0, _), (1, _), (2, _)]) 7 rfl (by decide) rfl rfl ?_
    refine mg_aload_n 8 rfl rfl rfl ?_
    refine mg_getR 11 rfl rfl rfl rfl ?_
    refine mg_iload_n 12 rfl rfl rfl ?_
    refine mg_iald (v := a i) 13 rfl rfl (vp_in_nI (by omega : i < 60) (by omega)) (by rw [nI_clamp (by omega)]; exact (hX.2.1 i hi).2.1) rfl ?_
    refine mg_istore_n (L2 := [(0, _), (1, _), (2, _), (3, _)]) 14 rfl (by decide) rfl rfl ?_
    refine mg_aload_n 15 rfl rfl rfl ?_
    refine mg_getR 18 rfl rfl rfl rfl ?_
    refine mg_iload_n 19 rfl rfl rfl ?_
    refine mg_iald (v := b i) 20 rfl rfl (vp_in_nI (by omega : i < 60) (by omega)) (by rw [nI_clamp (by omega)]; exact (hX.2.1 i hi).2.2) rfl ?_
    refine mg_istore (L2 := [(0, _), (1, _), (2, _), (3, _), (4, _)]) 22 rfl (by decide) rfl rfl ?_
    refine mg_iload_n 23 rfl rfl rfl ?_
    refine mg_if_ne 26 30 rfl rfl (by decide) (fun c_23 => ?_) (fun c_23 => absurd c_23 (by decide))
    refine mg_iload_n 31 rfl rfl rfl ?_
    refine mg_iconst (v := 1) 32 rfl (by decide) rfl ?_
    refine mg_ic_ne 35 46 rfl rfl (by decide) (fun c_32 => absurd c_32 (by decide)) (fun c_32 => ?_)
    refine mg_aload_n 36 rfl rfl rfl ?_
    refine mg_getR 39 rfl rfl rfl rfl ?_
    refine mg_aload_n 40 rfl rfl rfl ?_
    refine mg_iload_n 41 rfl rfl rfl ?_
    refine mg_callV1 44 rfl (Nat.le_of_ble_eq_true rfl) pg_Mo_callee rfl rfl ?_
    refine sm_callee hX hn hi hr ea (by omega) ?_
    rw [ekp]
    show mm_Rn _ _ _ _ _ _ 44 [(0, _), (1, _), (2, _), (3, _), (4, _)] [_, _] _
    refine mg_iald (v := M 30 jc) 45 rfl rfl (vp_in_nI (by omega : jc < 60) (by omega)) (by rw [nI_clamp (by omega)]) rfl ?_
    refine mg_iret rfl rfl ?_
    rw [an_ow, if_neg (by omega), ms_0or, an_bg1 hk, ea, an_oI (by omega), ekp, an_oI (by omega)] at k
    exact k
  · rw [hk]
    obtain ⟨ja, hja, hjn, ea, -⟩ := hO.2.1 (by rw [hk]; rfl)
    obtain ⟨jb, hjb, hjbn, eb, -⟩ := hO.2.2.1 (by rw [hk]; rfl)
    refine mg_istore_n (L2 := [(0, _), (1, _), (2, _)]) 7 rfl (by decide) rfl rfl ?_
    refine mg_aload_n 8 rfl rfl rfl ?_
    refine mg_getR 11 rfl rfl rfl rfl ?_
    refine mg_iload_n 12 rfl rfl rfl ?_
    refine mg_iald (v := a i) 13 rfl rfl (vp_in_nI (by omega : i < 60) (by omega)) (by rw [nI_clamp (by omega)]; exact (hX.2.1 i hi).2.1) rfl ?_
    refine mg_istore_n (L2 := [(0, _), (1, _), (2, _), (3, _)]) 14 rfl (by decide) rfl rfl ?_
    refine mg_aload_n 15 rfl rfl rfl ?_
    refine mg_getR 18 rfl rfl rfl rfl ?_
    refine mg_iload_n 19 rfl rfl rfl ?_
    refine mg_iald (v := b i) 20 rfl rfl (vp_in_nI (by omega : i < 60) (by omega)) (by rw [nI_clamp (by omega)]; exact (hX.2.1 i hi).2.2) rfl ?_
    refine mg_istore (L2 := [(0, _), (1, _), (2, _), (3, _), (4, _)]) 22 rfl (by decide) rfl rfl ?_
    refine mg_iload_n 23 rfl rfl rfl ?_
    refine mg_if_ne 26 30 rfl rfl (by decide) (fun c_23 => ?_) (fun c_23 => absurd c_23 (by decide))
    refine mg_iload_n 31 rfl rfl rfl ?_
    refine mg_iconst (v := 1) 32 rfl (by decide) rfl ?_
    refine mg_ic_ne 35 46 rfl rfl (by decide) (fun c_32 => ?_) (fun c_32 => absurd c_32 (by decide))
    refine mg_iload_n 47 rfl rfl rfl ?_
    refine mg_iconst (v := 2) 48 rfl (by decide) rfl ?_
    refine mg_ic_ne 51 79 rfl rfl (by decide) (fun c_48 => absurd c_48 (by decide)) (fun c_48 => ?_)
    refine mg_aload_n 52 rfl rfl rfl ?_
    refine mg_getR 55 rfl rfl rfl rfl ?_
    refine mg_iload_n 56 rfl rfl rfl ?_
    refine mg_iald (v := M 30 ja) 57 rfl rfl (by rw [ea]; exact vp_in_nI (by omega : ja < 60) (by omega)) (by rw [ea, nI_clamp (by omega)]) rfl ?_
    refine mg_aload_n 58 rfl rfl rfl ?_
    refine mg_getR 61 rfl rfl rfl rfl ?_
    refine mg_iload_n 62 rfl rfl rfl ?_
    refine mg_zald (v := M 29 ja) 63 rfl rfl (by rw [ea]; exact vp_in_nI (by omega : ja < 60) (by omega)) (by rw [ea, nI_clamp (by omega)]) rfl ?_
    refine mg_if_eq 66 76 rfl rfl (by decide) (fun c_63 => ?_) (fun c_63 => ?_)
    · refine mg_iconst (v := 0) 77 rfl (by decide) rfl ?_
      refine mg_ior 78 rfl rfl rfl ?_
      refine mg_iret rfl rfl ?_
      rw [an_ow, if_neg (by omega), ms_0or, an_bg2 hk, ea, an_oI (by omega), eb, an_oI (by omega), if_pos c_63] at k
      rw [Int32.or_zero]
      exact k
    · refine mg_aload_n 67 rfl rfl rfl ?_
      refine mg_getR 70 rfl rfl rfl rfl ?_
      refine mg_iload 72 rfl rfl rfl ?_
      refine mg_iald (v := M 30 jb) 73 rfl rfl (by rw [eb]; exact vp_in_nI (by omega : jb < 60) (by omega)) (by rw [eb, nI_clamp (by omega)]) rfl ?_
      refine mg_goto 77 rfl (by decide) ?_
      refine mg_ior 78 rfl rfl rfl ?_
      refine mg_iret rfl rfl ?_
      rw [an_ow, if_neg (by omega), ms_0or, an_bg2 hk, ea, an_oI (by omega), eb, an_oI (by omega), if_neg c_63] at k
      exact k
  · rw [hk]
    obtain ⟨ja, hja, hjn, ea, -⟩ := hO.2.1 (by rw [hk]; rfl)
    obtain ⟨jb, hjb, hjbn, eb, -⟩ := hO.2.2.1 (by rw [hk]; rfl)
    refine mg_istore_n (L2 := [(0, _), (1, _), (2, _)]) 7 rfl (by decide) rfl rfl ?_
    refine mg_aload_n 8 rfl rfl rfl ?_
    refine mg_getR 11 rfl rfl rfl rfl ?_
    refine mg_iload_n 12 rfl rfl rfl ?_
    refine mg_iald (v := a i) 13 rfl rfl (vp_in_nI (by omega : i < 60) (by omega)) (by rw [nI_clamp (by omega)]; exact (hX.2.1 i hi).2.1) rfl ?_
    refine mg_istore_n (L2 := [(0, _), (1, _), (2, _), (3, _)]) 14 rfl (by decide) rfl rfl ?_
    refine mg_aload_n 15 rfl rfl rfl ?_
    refine mg_getR 18 rfl rfl rfl rfl ?_
    refine mg_iload_n 19 rfl rfl rfl ?_
    refine mg_iald (v := b i) 20 rfl rfl (vp_in_nI (by omega : i < 60) (by omega)) (by rw [nI_clamp (by omega)]; exact (hX.2.1 i hi).2.2) rfl ?_
    refine mg_istore (L2 := [(0, _), (1, _), (2, _), (3, _), (4, _)]) 22 rfl (by decide) rfl rfl ?_
    refine mg_iload_n 23 rfl rfl rfl ?_
    refine mg_if_ne 26 30 rfl rfl (by decide) (fun c_23 => ?_) (fun c_23 => absurd c_23 (by decide))
    refine mg_iload_n 31 rfl rfl rfl ?_
    refine mg_iconst (v := 1) 32 rfl (by decide) rfl ?_
    refine mg_ic_ne 35 46 rfl rfl (by decide) (fun c_32 => ?_) (fun c_32 => absurd c_32 (by decide))
    refine mg_iload_n 47 rfl rfl rfl ?_
    refine mg_iconst (v := 2) 48 rfl (by decide) rfl ?_
    refine mg_ic_ne 51 79 rfl rfl (by decide) (fun c_48 => ?_) (fun c_48 => absurd c_48 (by decide))
    refine mg_iload_n 80 rfl rfl rfl ?_
    refine mg_iconst (v := 3) 81 rfl (by decide) rfl ?_
    refine mg_ic_ne 84 99 rfl rfl (by decide) (fun c_81 => absurd c_81 (by decide)) (fun c_81 => ?_)
    refine mg_aload_n 85 rfl rfl rfl ?_
    refine mg_getR 88 rfl rfl rfl rfl ?_
    refine mg_iload_n 89 rfl rfl rfl ?_
    refine mg_iald (v := M 30 ja) 90 rfl rfl (by rw [ea]; exact vp_in_nI (by omega : ja < 60) (by omega)) (by rw [ea, nI_clamp (by omega)]) rfl ?_
    refine mg_aload_n 91 rfl rfl rfl ?_
    refine mg_getR 94 rfl rfl rfl rfl ?_
    refine mg_iload 96 rfl rfl rfl ?_
    refine mg_iald (v := M 30 jb) 97 rfl rfl (by rw [eb]; exact vp_in_nI (by omega : jb < 60) (by omega)) (by rw [eb, nI_clamp (by omega)]) rfl ?_
    refine mg_ior 98 rfl rfl rfl ?_
    refine mg_iret rfl rfl ?_
    rw [an_ow, if_neg (by omega), ms_0or, an_bg3 hk, ea, an_oI (by omega), eb, an_oI (by omega)] at k
    exact k
  · rw [hk]
    obtain ⟨ja, hja, hjn, ea, -⟩ := hO.2.1 (by rw [hk]; rfl)
    refine mg_istore_n (L2 := [(0, _), (1, _), (2, _)]) 7 rfl (by decide) rfl rfl ?_
    refine mg_aload_n 8 rfl rfl rfl ?_
    refine mg_getR 11 rfl rfl rfl rfl ?_
    refine mg_iload_n 12 rfl rfl rfl ?_
    refine mg_iald (v := a i) 13 rfl rfl (vp_in_nI (by omega : i < 60) (by omega)) (by rw [nI_clamp (by omega)]; exact (hX.2.1 i hi).2.1) rfl ?_
    refine mg_istore_n (L2 := [(0, _), (1, _), (2, _), (3, _)]) 14 rfl (by decide) rfl rfl ?_
    refine mg_aload_n 15 rfl rfl rfl ?_
    refine mg_getR 18 rfl rfl rfl rfl ?_
    refine mg_iload_n 19 rfl rfl rfl ?_
    refine mg_iald (v := b i) 20 rfl rfl (vp_in_nI (by omega : i < 60) (by omega)) (by rw [nI_clamp (by omega)]; exact (hX.2.1 i hi).2.2) rfl ?_
    refine mg_istore (L2 := [(0, _), (1, _), (2, _), (3, _), (4, _)]) 22 rfl (by decide) rfl rfl ?_
    refine mg_iload_n 23 rfl rfl rfl ?_
    refine mg_if_ne 26 30 rfl rfl (by decide) (fun c_23 => ?_) (fun c_23 => absurd c_23 (by decide))
    refine mg_iload_n 31 rfl rfl rfl ?_
    refine mg_iconst (v := 1) 32 rfl (by decide) rfl ?_
    refine mg_ic_ne 35 46 rfl rfl (by decide) (fun c_32 => ?_) (fun c_32 => absurd c_32 (by decide))
    refine mg_iload_n 47 rfl rfl rfl ?_
    refine mg_iconst (v := 2) 48 rfl (by decide) rfl ?_
    refine mg_ic_ne 51 79 rfl rfl (by decide) (fun c_48 => ?_) (fun c_48 => absurd c_48 (by decide))
    refine mg_iload_n 80 rfl rfl rfl ?_
    refine mg_iconst (v := 3) 81 rfl (by decide) rfl ?_
    refine mg_ic_ne 84 99 rfl rfl (by decide) (fun c_81 => ?_) (fun c_81 => absurd c_81 (by decide))
    refine mg_iload_n 100 rfl rfl rfl ?_
    refine mg_bipush (v := 6) 102 rfl (by decide) rfl ?_
    refine mg_ic_ge 105 114 rfl rfl (by decide) (fun c_102 => absurd c_102 (by decide)) (fun c_102 => ?_)
    refine mg_aload_n 106 rfl rfl rfl ?_
    refine mg_getR 109 rfl rfl rfl rfl ?_
    refine mg_iload_n 110 rfl rfl rfl ?_
    refine mg_iald (v := M 30 ja) 111 rfl rfl (by rw [ea]; exact vp_in_nI (by omega : ja < 60) (by omega)) (by rw [ea, nI_clamp (by omega)]) rfl ?_
    refine mg_goto 131 rfl (by decide) ?_
    refine mg_iret rfl rfl ?_
    rw [an_ow, if_neg (by omega), ms_0or, an_bg4 hk, ea, an_oI (by omega)] at k
    exact k
  · rw [hk]
    obtain ⟨ja, hja, hjn, ea, -⟩ := hO.2.1 (by rw [hk]; rfl)
    refine mg_istore_n (L2 := [(0, _), (1, _), (2, _)]) 7 rfl (by decide) rfl rfl ?_
    refine mg_aload_n 8 rfl rfl rfl ?_
    refine mg_getR 11 rfl rfl rfl rfl ?_
    refine mg_iload_n 12 rfl rfl rfl ?_
    refine mg_iald (v := a i) 13 rfl rfl (vp_in_nI (by omega : i < 60) (by omega)) (by rw [nI_clamp (by omega)]; exact (hX.2.1 i hi).2.1) rfl ?_
    refine mg_istore_n (L2 := [(0, _), (1, _), (2, _), (3, _)]) 14 rfl (by decide) rfl rfl ?_
    refine mg_aload_n 15 rfl rfl rfl ?_
    refine mg_getR 18 rfl rfl rfl rfl ?_
    refine mg_iload_n 19 rfl rfl rfl ?_
    refine mg_iald (v := b i) 20 rfl rfl (vp_in_nI (by omega : i < 60) (by omega)) (by rw [nI_clamp (by omega)]; exact (hX.2.1 i hi).2.2) rfl ?_
    refine mg_istore (L2 := [(0, _), (1, _), (2, _), (3, _), (4, _)]) 22 rfl (by decide) rfl rfl ?_
    refine mg_iload_n 23 rfl rfl rfl ?_
    refine mg_if_ne 26 30 rfl rfl (by decide) (fun c_23 => ?_) (fun c_23 => absurd c_23 (by decide))
    refine mg_iload_n 31 rfl rfl rfl ?_
    refine mg_iconst (v := 1) 32 rfl (by decide) rfl ?_
    refine mg_ic_ne 35 46 rfl rfl (by decide) (fun c_32 => ?_) (fun c_32 => absurd c_32 (by decide))
    refine mg_iload_n 47 rfl rfl rfl ?_
    refine mg_iconst (v := 2) 48 rfl (by decide) rfl ?_
    refine mg_ic_ne 51 79 rfl rfl (by decide) (fun c_48 => ?_) (fun c_48 => absurd c_48 (by decide))
    refine mg_iload_n 80 rfl rfl rfl ?_
    refine mg_iconst (v := 3) 81 rfl (by decide) rfl ?_
    refine mg_ic_ne 84 99 rfl rfl (by decide) (fun c_81 => ?_) (fun c_81 => absurd c_81 (by decide))
    refine mg_iload_n 100 rfl rfl rfl ?_
    refine mg_bipush (v := 6) 102 rfl (by decide) rfl ?_
    refine mg_ic_ge 105 114 rfl rfl (by decide) (fun c_102 => absurd c_102 (by decide)) (fun c_102 => ?_)
    refine mg_aload_n 106 rfl rfl rfl ?_
    refine mg_getR 109 rfl rfl rfl rfl ?_
    refine mg_iload_n 110 rfl rfl rfl ?_
    refine mg_iald (v := M 30 ja) 111 rfl rfl (by rw [ea]; exact vp_in_nI (by omega : ja < 60) (by omega)) (by rw [ea, nI_clamp (by omega)]) rfl ?_
    refine mg_goto 131 rfl (by decide) ?_
    refine mg_iret rfl rfl ?_
    rw [an_ow, if_neg (by omega), ms_0or, an_bg5 hk, ea, an_oI (by omega)] at k
    exact k
  · rw [hk]
    refine mg_istore_n (L2 := [(0, _), (1, _), (2, _)]) 7 rfl (by decide) rfl rfl ?_
    refine mg_aload_n 8 rfl rfl rfl ?_
    refine mg_getR 11 rfl rfl rfl rfl ?_
    refine mg_iload_n 12 rfl rfl rfl ?_
    refine mg_iald (v := a i) 13 rfl rfl (vp_in_nI (by omega : i < 60) (by omega)) (by rw [nI_clamp (by omega)]; exact (hX.2.1 i hi).2.1) rfl ?_
    refine mg_istore_n (L2 := [(0, _), (1, _), (2, _), (3, _)]) 14 rfl (by decide) rfl rfl ?_
    refine mg_aload_n 15 rfl rfl rfl ?_
    refine mg_getR 18 rfl rfl rfl rfl ?_
    refine mg_iload_n 19 rfl rfl rfl ?_
    refine mg_iald (v := b i) 20 rfl rfl (vp_in_nI (by omega : i < 60) (by omega)) (by rw [nI_clamp (by omega)]; exact (hX.2.1 i hi).2.2) rfl ?_
    refine mg_istore (L2 := [(0, _), (1, _), (2, _), (3, _), (4, _)]) 22 rfl (by decide) rfl rfl ?_
    refine mg_iload_n 23 rfl rfl rfl ?_
    refine mg_if_ne 26 30 rfl rfl (by decide) (fun c_23 => ?_) (fun c_23 => absurd c_23 (by decide))
    refine mg_iload_n 31 rfl rfl rfl ?_
    refine mg_iconst (v := 1) 32 rfl (by decide) rfl ?_
    refine mg_ic_ne 35 46 rfl rfl (by decide) (fun c_32 => ?_) (fun c_32 => absurd c_32 (by decide))
    refine mg_iload_n 47 rfl rfl rfl ?_
    refine mg_iconst (v := 2) 48 rfl (by decide) rfl ?_
    refine mg_ic_ne 51 79 rfl rfl (by decide) (fun c_48 => ?_) (fun c_48 => absurd c_48 (by decide))
    refine mg_iload_n 80 rfl rfl rfl ?_
    refine mg_iconst (v := 3) 81 rfl (by decide) rfl ?_
    refine mg_ic_ne 84 99 rfl rfl (by decide) (fun c_81 => ?_) (fun c_81 => absurd c_81 (by decide))
    refine mg_iload_n 100 rfl rfl rfl ?_
    refine mg_bipush (v := 6) 102 rfl (by decide) rfl ?_
    refine mg_ic_ge 105 114 rfl rfl (by decide) (fun c_102 => ?_) (fun c_102 => absurd c_102 (by decide))
    refine mg_iload_n 115 rfl rfl rfl ?_
    refine mg_bipush (v := 6) 117 rfl (by decide) rfl ?_
    refine mg_ic_ne 120 124 rfl rfl (by decide) (fun c_117 => absurd c_117 (by decide)) (fun c_117 => ?_)
    refine mg_iconst (v := 0) 121 rfl (by decide) rfl ?_
    refine mg_goto 131 rfl (by decide) ?_
    refine mg_iret rfl rfl ?_
    rw [an_ow, if_neg (by omega), ms_0or, an_bg6 hk] at k
    exact k
  · rw [hk]
    obtain ⟨ja, hja, hjn, ea, -⟩ := hO.2.1 (by rw [hk]; rfl)
    obtain ⟨jb, hjb, hjbn, eb, -⟩ := hO.2.2.1 (by rw [hk]; rfl)
    refine mg_istore_n (L2 := [(0, _), (1, _), (2, _)]) 7 rfl (by decide) rfl rfl ?_
    refine mg_aload_n 8 rfl rfl rfl ?_
    refine mg_getR 11 rfl rfl rfl rfl ?_
    refine mg_iload_n 12 rfl rfl rfl ?_
    refine mg_iald (v := a i) 13 rfl rfl (vp_in_nI (by omega : i < 60) (by omega)) (by rw [nI_clamp (by omega)]; exact (hX.2.1 i hi).2.1) rfl ?_
    refine mg_istore_n (L2 := [(0, _), (1, _), (2, _), (3, _)]) 14 rfl (by decide) rfl rfl ?_
    refine mg_aload_n 15 rfl rfl rfl ?_
    refine mg_getR 18 rfl rfl rfl rfl ?_
    refine mg_iload_n 19 rfl rfl rfl ?_
    refine mg_iald (v := b i) 20 rfl rfl (vp_in_nI (by omega : i < 60) (by omega)) (by rw [nI_clamp (by omega)]; exact (hX.2.1 i hi).2.2) rfl ?_
    refine mg_istore (L2 := [(0, _), (1, _), (2, _), (3, _), (4, _)]) 22 rfl (by decide) rfl rfl ?_
    refine mg_iload_n 23 rfl rfl rfl ?_
    refine mg_if_ne 26 30 rfl rfl (by decide) (fun c_23 => ?_) (fun c_23 => absurd c_23 (by decide))
    refine mg_iload_n 31 rfl rfl rfl ?_
    refine mg_iconst (v := 1) 32 rfl (by decide) rfl ?_
    refine mg_ic_ne 35 46 rfl rfl (by decide) (fun c_32 => ?_) (fun c_32 => absurd c_32 (by decide))
    refine mg_iload_n 47 rfl rfl rfl ?_
    refine mg_iconst (v := 2) 48 rfl (by decide) rfl ?_
    refine mg_ic_ne 51 79 rfl rfl (by decide) (fun c_48 => ?_) (fun c_48 => absurd c_48 (by decide))
    refine mg_iload_n 80 rfl rfl rfl ?_
    refine mg_iconst (v := 3) 81 rfl (by decide) rfl ?_
    refine mg_ic_ne 84 99 rfl rfl (by decide) (fun c_81 => ?_) (fun c_81 => absurd c_81 (by decide))
    refine mg_iload_n 100 rfl rfl rfl ?_
    refine mg_bipush (v := 6) 102 rfl (by decide) rfl ?_
    refine mg_ic_ge 105 114 rfl rfl (by decide) (fun c_102 => ?_) (fun c_102 => absurd c_102 (by decide))
    refine mg_iload_n 115 rfl rfl rfl ?_
    refine mg_bipush (v := 6) 117 rfl (by decide) rfl ?_
    refine mg_ic_ne 120 124 rfl rfl (by decide) (fun c_117 => ?_) (fun c_117 => absurd c_117 (by decide))
    refine mg_aload_n 125 rfl rfl rfl ?_
    refine mg_getR 128 rfl rfl rfl rfl ?_
    refine mg_iload 130 rfl rfl rfl ?_
    refine mg_iald (v := M 30 jb) 131 rfl rfl (by rw [eb]; exact vp_in_nI (by omega : jb < 60) (by omega)) (by rw [eb, nI_clamp (by omega)]) rfl ?_
    refine mg_iret rfl rfl ?_
    rw [an_ow, if_neg (by omega), ms_0or, an_bg7 hk, eb, an_oI (by omega)] at k
    exact k
  · rw [hk]
    obtain ⟨jb, hjb, hjbn, eb, -⟩ := hO.2.2.1 (by rw [hk]; rfl)
    refine mg_istore_n (L2 := [(0, _), (1, _), (2, _)]) 7 rfl (by decide) rfl rfl ?_
    refine mg_aload_n 8 rfl rfl rfl ?_
    refine mg_getR 11 rfl rfl rfl rfl ?_
    refine mg_iload_n 12 rfl rfl rfl ?_
    refine mg_iald (v := a i) 13 rfl rfl (vp_in_nI (by omega : i < 60) (by omega)) (by rw [nI_clamp (by omega)]; exact (hX.2.1 i hi).2.1) rfl ?_
    refine mg_istore_n (L2 := [(0, _), (1, _), (2, _), (3, _)]) 14 rfl (by decide) rfl rfl ?_
    refine mg_aload_n 15 rfl rfl rfl ?_
    refine mg_getR 18 rfl rfl rfl rfl ?_
    refine mg_iload_n 19 rfl rfl rfl ?_
    refine mg_iald (v := b i) 20 rfl rfl (vp_in_nI (by omega : i < 60) (by omega)) (by rw [nI_clamp (by omega)]; exact (hX.2.1 i hi).2.2) rfl ?_
    refine mg_istore (L2 := [(0, _), (1, _), (2, _), (3, _), (4, _)]) 22 rfl (by decide) rfl rfl ?_
    refine mg_iload_n 23 rfl rfl rfl ?_
    refine mg_if_ne 26 30 rfl rfl (by decide) (fun c_23 => ?_) (fun c_23 => absurd c_23 (by decide))
    refine mg_iload_n 31 rfl rfl rfl ?_
    refine mg_iconst (v := 1) 32 rfl (by decide) rfl ?_
    refine mg_ic_ne 35 46 rfl rfl (by decide) (fun c_32 => ?_) (fun c_32 => absurd c_32 (by decide))
    refine mg_iload_n 47 rfl rfl rfl ?_
    refine mg_iconst (v := 2) 48 rfl (by decide) rfl ?_
    refine mg_ic_ne 51 79 rfl rfl (by decide) (fun c_48 => ?_) (fun c_48 => absurd c_48 (by decide))
    refine mg_iload_n 80 rfl rfl rfl ?_
    refine mg_iconst (v := 3) 81 rfl (by decide) rfl ?_
    refine mg_ic_ne 84 99 rfl rfl (by decide) (fun c_81 => ?_) (fun c_81 => absurd c_81 (by decide))
    refine mg_iload_n 100 rfl rfl rfl ?_
    refine mg_bipush (v := 6) 102 rfl (by decide) rfl ?_
    refine mg_ic_ge 105 114 rfl rfl (by decide) (fun c_102 => ?_) (fun c_102 => absurd c_102 (by decide))
    refine mg_iload_n 115 rfl rfl rfl ?_
    refine mg_bipush (v := 6) 117 rfl (by decide) rfl ?_
    refine mg_ic_ne 120 124 rfl rfl (by decide) (fun c_117 => ?_) (fun c_117 => absurd c_117 (by decide))
    refine mg_aload_n 125 rfl rfl rfl ?_
    refine mg_getR 128 rfl rfl rfl rfl ?_
    refine mg_iload 130 rfl rfl rfl ?_
    refine mg_iald (v := M 30 jb) 131 rfl rfl (by rw [eb]; exact vp_in_nI (by omega : jb < 60) (by omega)) (by rw [eb, nI_clamp (by omega)]) rfl ?_
    refine mg_iret rfl rfl ?_
    rw [an_ow, if_neg (by omega), ms_0or, an_bg8 hk, eb, an_oI (by omega)] at k
    exact k
set_option maxHeartbeats 2000000 in
set_option maxRecDepth 20000 in
theorem sm_comesNow {d : Nat} {M : mm_M} {Q : mm_Qt} {i : Nat} {n : Nat} {kd lv : Nat → Nat} {a b kp us : Nat → Int32} {rt : Nat} (hW : st_wf n kd lv a b kp) (hX : an_M M n kd a b kp) (hU : st_us n kd a b kp us rt) (hi : i < n) (hu : us i = 1) (hd : 2 ≤ d) (k : Q (some (.inl (an_ow 1 kd a i ||| an_bg kd a b kp (M 29) (M 32) i))) M) : mm_Ev pg ly d 76 [.inr 21, .inl (nI i)] M Q := by
  have hn : n ≤ 60 := hW.1
  have hO := an_ok_of hW hU hi hu
  obtain ⟨d, rfl⟩ : ∃ e, d = e + 1 := ⟨d - 1, by omega⟩
  refine mg_body yy_Mo_comesNow pg_Mo_comesNow (Nat.le_of_ble_eq_true rfl) ?_
  show mm_Rn _ _ _ _ _ _ 0 [(0, _), (1, _)] [] _
  refine mg_aload_n 1 rfl rfl rfl ?_
  refine mg_getR 4 rfl rfl rfl rfl ?_
  refine mg_iload_n 5 rfl rfl rfl ?_
  refine mg_iald (v := nI (kd i)) 6 rfl rfl (vp_in_nI (by omega : i < 60) (by omega)) (by rw [nI_clamp (by omega)]; exact (hX.2.1 i hi).1) rfl ?_
  rcases st_k9 (hW.2.1 i hi).1 with hk | hk | hk | hk | hk | hk | hk | hk | hk
  · rw [hk]
    refine mg_istore_n (L2 := [(0, _), (1, _), (2, _)]) 7 rfl (by decide) rfl rfl ?_
    refine mg_aload_n 8 rfl rfl rfl ?_
    refine mg_getR 11 rfl rfl rfl rfl ?_
    refine mg_iload_n 12 rfl rfl rfl ?_
    refine mg_iald (v := a i) 13 rfl rfl (vp_in_nI (by omega : i < 60) (by omega)) (by rw [nI_clamp (by omega)]; exact (hX.2.1 i hi).2.1) rfl ?_
    refine mg_istore_n (L2 := [(0, _), (1, _), (2, _), (3, _)]) 14 rfl (by decide) rfl rfl ?_
    refine mg_aload_n 15 rfl rfl rfl ?_
    refine mg_getR 18 rfl rfl rfl rfl ?_
    refine mg_iload_n 19 rfl rfl rfl ?_
    refine mg_iald (v := b i) 20 rfl rfl (vp_in_nI (by omega : i < 60) (by omega)) (by rw [nI_clamp (by omega)]; exact (hX.2.1 i hi).2.2) rfl ?_
    refine mg_istore (L2 := [(0, _), (1, _), (2, _), (3, _), (4, _)]) 22 rfl (by decide) rfl rfl ?_
    refine mg_iload_n 23 rfl rfl rfl ?_
    refine mg_if_eq 26 32 rfl rfl (by decide) (fun c_23 => ?_) (fun c_23 => absurd c_23 (by decide))
    refine mg_iconst (v := 0) 33 rfl (by decide) rfl ?_
    refine mg_iret rfl rfl ?_
    rw [an_ow, if_neg (by omega), ms_0or, an_bg0 hk] at k
    exact k
  · rw [hk]
    obtain ⟨r, jc, hr, ea, hjc, hjcn, ekp, -⟩ := hO.2.2.2 hk
    refine mg_istore_n (L2 := [(0, _), (1, _), (2, _)]) 7 rfl (by decide) rfl rfl ?_
    refine mg_aload_n 8 rfl rfl rfl ?_
    refine mg_getR 11 rfl rfl rfl rfl ?_
    refine mg_iload_n 12 rfl rfl rfl ?_
    refine mg_iald (v := a i) 13 rfl rfl (vp_in_nI (by omega : i < 60) (by omega)) (by rw [nI_clamp (by omega)]; exact (hX.2.1 i hi).2.1) rfl ?_
    refine mg_istore_n (L2 := [(0, _), (1, _), (2, _), (3, _)]) 14 rfl (by decide) rfl rfl ?_
    refine mg_aload_n 15 rfl rfl rfl ?_
    refine mg_getR 18 rfl rfl rfl rfl ?_
    refine mg_iload_n 19 rfl rfl rfl ?_
    refine mg_iald (v := b i) 20 rfl rfl (vp_in_nI (by omega : i < 60) (by omega)) (by rw [nI_clamp (by omega)]; exact (hX.2.1 i hi).2.2) rfl ?_
    refine mg_istore (L2 := [(0, _), (1, _), (2, _), (3, _), (4, _)]) 22 rfl (by decide) rfl rfl ?_
    refine mg_iload_n 23 rfl rfl rfl ?_
    refine mg_if_eq 26 32 rfl rfl (by decide) (fun c_23 => absurd c_23 (by decide)) (fun c_23 => ?_)
    refine mg_iload_n 27 rfl rfl rfl ?_
    refine mg_bipush (v := 6) 29 rfl (by decide) rfl ?_
    refine mg_ic_ne 32 34 rfl rfl (by decide) (fun c_29 => ?_) (fun c_29 => absurd c_29 (by decide))
    refine mg_iload_n 35 rfl rfl rfl ?_
    refine mg_iconst (v := 1) 36 rfl (by decide) rfl ?_
    refine mg_ic_ne 39 54 rfl rfl (by decide) (fun c_36 => absurd c_36 (by decide)) (fun c_36 => ?_)
    refine mg_iconst (v := 1) 40 rfl (by decide) rfl ?_
    refine mg_iload_n 41 rfl rfl rfl ?_
    refine mg_ishl 42 rfl rfl rfl ?_
    refine mg_aload_n 43 rfl rfl rfl ?_
    refine mg_getR 46 rfl rfl rfl rfl ?_
    refine mg_aload_n 47 rfl rfl rfl ?_
    refine mg_iload_n 48 rfl rfl rfl ?_
    refine mg_callV1 51 rfl (Nat.le_of_ble_eq_true rfl) pg_Mo_callee rfl rfl ?_
    refine sm_callee hX hn hi hr ea (by omega) ?_
    rw [ekp]
    show mm_Rn _ _ _ _ _ _ 51 [(0, _), (1, _), (2, _), (3, _), (4, _)] [_, _, _] _
    refine mg_iald (v := M 32 jc) 52 rfl rfl (vp_in_nI (by omega : jc < 60) (by omega)) (by rw [nI_clamp (by omega)]) rfl ?_
    refine mg_ior 53 rfl rfl rfl ?_
    refine mg_iret rfl rfl ?_
    rw [an_ow, if_pos hk, an_bg1 hk, ea, an_oI (by omega), ekp, an_oI (by omega)] at k
    rw [ea]
    exact k
  · rw [hk]
    obtain ⟨ja, hja, hjn, ea, -⟩ := hO.2.1 (by rw [hk]; rfl)
    obtain ⟨jb, hjb, hjbn, eb, -⟩ := hO.2.2.1 (by rw [hk]; rfl)
    refine mg_istore_n (L2 := [(0, _), (1, _), (2, _)]) 7 rfl (by decide) rfl rfl ?_
    refine mg_aload_n 8 rfl rfl rfl ?_
    refine mg_getR 11 rfl rfl rfl rfl ?_
    refine mg_iload_n 12 rfl rfl rfl ?_
    refine mg_iald (v := a i) 13 rfl rfl (vp_in_nI (by omega : i < 60) (by omega)) (by rw [nI_clamp (by omega)]; exact (hX.2.1 i hi).2.1) rfl ?_
    refine mg_istore_n (L2 := [(0, _), (1, _), (2, _), (3, _)]) 14 rfl (by decide) rfl rfl ?_
    refine mg_aload_n 15 rfl rfl rfl ?_
    refine mg_getR 18 rfl rfl rfl rfl ?_
    refine mg_iload_n 19 rfl rfl rfl ?_
    refine mg_iald (v := b i) 20 rfl rfl (vp_in_nI (by omega : i < 60) (by omega)) (by rw [nI_clamp (by omega)]; exact (hX.2.1 i hi).2.2) rfl ?_
    refine mg_istore (L2 := [(0, _), (1, _), (2, _), (3, _), (4, _)]) 22 rfl (by decide) rfl rfl ?_
    refine mg_iload_n 23 rfl rfl rfl ?_
    refine mg_if_eq 26 32 rfl rfl (by decide) (fun c_23 => absurd c_23 (by decide)) (fun c_23 => ?_)
    refine mg_iload_n 27 rfl rfl rfl ?_
    refine mg_bipush (v := 6) 29 rfl (by decide) rfl ?_
    refine mg_ic_ne 32 34 rfl rfl (by decide) (fun c_29 => ?_) (fun c_29 => absurd c_29 (by decide))
    refine mg_iload_n 35 rfl rfl rfl ?_
    refine mg_iconst (v := 1) 36 rfl (by decide) rfl ?_
    refine mg_ic_ne 39 54 rfl rfl (by decide) (fun c_36 => ?_) (fun c_36 => absurd c_36 (by decide))
    refine mg_iload_n 55 rfl rfl rfl ?_
    refine mg_iconst (v := 2) 56 rfl (by decide) rfl ?_
    refine mg_ic_ne 59 87 rfl rfl (by decide) (fun c_56 => absurd c_56 (by decide)) (fun c_56 => ?_)
    refine mg_aload_n 60 rfl rfl rfl ?_
    refine mg_getR 63 rfl rfl rfl rfl ?_
    refine mg_iload_n 64 rfl rfl rfl ?_
    refine mg_iald (v := M 32 ja) 65 rfl rfl (by rw [ea]; exact vp_in_nI (by omega : ja < 60) (by omega)) (by rw [ea, nI_clamp (by omega)]) rfl ?_
    refine mg_aload_n 66 rfl rfl rfl ?_
    refine mg_getR 69 rfl rfl rfl rfl ?_
    refine mg_iload_n 70 rfl rfl rfl ?_
    refine mg_zald (v := M 29 ja) 71 rfl rfl (by rw [ea]; exact vp_in_nI (by omega : ja < 60) (by omega)) (by rw [ea, nI_clamp (by omega)]) rfl ?_
    refine mg_if_eq 74 84 rfl rfl (by decide) (fun c_71 => ?_) (fun c_71 => ?_)
    · refine mg_iconst (v := 0) 85 rfl (by decide) rfl ?_
      refine mg_ior 86 rfl rfl rfl ?_
      refine mg_iret rfl rfl ?_
      rw [an_ow, if_neg (by omega), ms_0or, an_bg2 hk, ea, an_oI (by omega), eb, an_oI (by omega), if_pos c_71] at k
      rw [Int32.or_zero]
      exact k
    · refine mg_aload_n 75 rfl rfl rfl ?_
      refine mg_getR 78 rfl rfl rfl rfl ?_
      refine mg_iload 80 rfl rfl rfl ?_
      refine mg_iald (v := M 32 jb) 81 rfl rfl (by rw [eb]; exact vp_in_nI (by omega : jb < 60) (by omega)) (by rw [eb, nI_clamp (by omega)]) rfl ?_
      refine mg_goto 85 rfl (by decide) ?_
      refine mg_ior 86 rfl rfl rfl ?_
      refine mg_iret rfl rfl ?_
      rw [an_ow, if_neg (by omega), ms_0or, an_bg2 hk, ea, an_oI (by omega), eb, an_oI (by omega), if_neg c_71] at k
      exact k
  · rw [hk]
    obtain ⟨ja, hja, hjn, ea, -⟩ := hO.2.1 (by rw [hk]; rfl)
    obtain ⟨jb, hjb, hjbn, eb, -⟩ := hO.2.2.1 (by rw [hk]; rfl)
    refine mg_istore_n (L2 := [(0, _), (1, _), (2, _)]) 7 rfl (by decide) rfl rfl ?_
    refine mg_aload_n 8 rfl rfl rfl ?_
    refine mg_getR 11 rfl rfl rfl rfl ?_
    refine mg_iload_n 12 rfl rfl rfl ?_
    refine mg_iald (v := a i) 13 rfl rfl (vp_in_nI (by omega : i < 60) (by omega)) (by rw [nI_clamp (by omega)]; exact (hX.2.1 i hi).2.1) rfl ?_
    refine mg_istore_n (L2 := [(0, _), (1, _), (2, _), (3, _)]) 14 rfl (by decide) rfl rfl ?_
    refine mg_aload_n 15 rfl rfl rfl ?_
    refine mg_getR 18 rfl rfl rfl rfl ?_
    refine mg_iload_n 19 rfl rfl rfl ?_
    refine mg_iald (v := b i) 20 rfl rfl (vp_in_nI (by omega : i < 60) (by omega)) (by rw [nI_clamp (by omega)]; exact (hX.2.1 i hi).2.2) rfl ?_
    refine mg_istore (L2 := [(0, _), (1, _), (2, _), (3, _), (4, _)]) 22 rfl (by decide) rfl rfl ?_
    refine mg_iload_n 23 rfl rfl rfl ?_
    refine mg_if_eq 26 32 rfl rfl (by decide) (fun c_23 => absurd c_23 (by decide)) (fun c_23 => ?_)
    refine mg_iload_n 27 rfl rfl rfl ?_
    refine mg_bipush (v := 6) 29 rfl (by decide) rfl ?_
    refine mg_ic_ne 32 34 rfl rfl (by decide) (fun c_29 => ?_) (fun c_29 => absurd c_29 (by decide))
    refine mg_iload_n 35 rfl rfl rfl ?_
    refine mg_iconst (v := 1) 36 rfl (by decide) rfl ?_
    refine mg_ic_ne 39 54 rfl rfl (by decide) (fun c_36 => ?_) (fun c_36 => absurd c_36 (by decide))
    refine mg_iload_n 55 rfl rfl rfl ?_
    refine mg_iconst (v := 2) 56 rfl (by decide) rfl ?_
    refine mg_ic_ne 59 87 rfl rfl (by decide) (fun c_56 => ?_) (fun c_56 => absurd c_56 (by decide))
    refine mg_iload_n 88 rfl rfl rfl ?_
    refine mg_iconst (v := 3) 89 rfl (by decide) rfl ?_
    refine mg_ic_ne 92 107 rfl rfl (by decide) (fun c_89 => absurd c_89 (by decide)) (fun c_89 => ?_)
    refine mg_aload_n 93 rfl rfl rfl ?_
    refine mg_getR 96 rfl rfl rfl rfl ?_
    refine mg_iload_n 97 rfl rfl rfl ?_
    refine mg_iald (v := M 32 ja) 98 rfl rfl (by rw [ea]; exact vp_in_nI (by omega : ja < 60) (by omega)) (by rw [ea, nI_clamp (by omega)]) rfl ?_
    refine mg_aload_n 99 rfl rfl rfl ?_
    refine mg_getR 102 rfl rfl rfl rfl ?_
    refine mg_iload 104 rfl rfl rfl ?_
    refine mg_iald (v := M 32 jb) 105 rfl rfl (by rw [eb]; exact vp_in_nI (by omega : jb < 60) (by omega)) (by rw [eb, nI_clamp (by omega)]) rfl ?_
    refine mg_ior 106 rfl rfl rfl ?_
    refine mg_iret rfl rfl ?_
    rw [an_ow, if_neg (by omega), ms_0or, an_bg3 hk, ea, an_oI (by omega), eb, an_oI (by omega)] at k
    exact k
  · rw [hk]
    obtain ⟨ja, hja, hjn, ea, -⟩ := hO.2.1 (by rw [hk]; rfl)
    refine mg_istore_n (L2 := [(0, _), (1, _), (2, _)]) 7 rfl (by decide) rfl rfl ?_
    refine mg_aload_n 8 rfl rfl rfl ?_
    refine mg_getR 11 rfl rfl rfl rfl ?_
    refine mg_iload_n 12 rfl rfl rfl ?_
    refine mg_iald (v := a i) 13 rfl rfl (vp_in_nI (by omega : i < 60) (by omega)) (by rw [nI_clamp (by omega)]; exact (hX.2.1 i hi).2.1) rfl ?_
    refine mg_istore_n (L2 := [(0, _), (1, _), (2, _), (3, _)]) 14 rfl (by decide) rfl rfl ?_
    refine mg_aload_n 15 rfl rfl rfl ?_
    refine mg_getR 18 rfl rfl rfl rfl ?_
    refine mg_iload_n 19 rfl rfl rfl ?_
    refine mg_iald (v := b i) 20 rfl rfl (vp_in_nI (by omega : i < 60) (by omega)) (by rw [nI_clamp (by omega)]; exact (hX.2.1 i hi).2.2) rfl ?_
    refine mg_istore (L2 := [(0, _), (1, _), (2, _), (3, _), (4, _)]) 22 rfl (by decide) rfl rfl ?_
    refine mg_iload_n 23 rfl rfl rfl ?_
    refine mg_if_eq 26 32 rfl rfl (by decide) (fun c_23 => absurd c_23 (by decide)) (fun c_23 => ?_)
    refine mg_iload_n 27 rfl rfl rfl ?_
    refine mg_bipush (v := 6) 29 rfl (by decide) rfl ?_
    refine mg_ic_ne 32 34 rfl rfl (by decide) (fun c_29 => ?_) (fun c_29 => absurd c_29 (by decide))
    refine mg_iload_n 35 rfl rfl rfl ?_
    refine mg_iconst (v := 1) 36 rfl (by decide) rfl ?_
    refine mg_ic_ne 39 54 rfl rfl (by decide) (fun c_36 => ?_) (fun c_36 => absurd c_36 (by decide))
    refine mg_iload_n 55 rfl rfl rfl ?_
    refine mg_iconst (v := 2) 56 rfl (by decide) rfl ?_
    refine mg_ic_ne 59 87 rfl rfl (by decide) (fun c_56 => ?_) (fun c_56 => absurd c_56 (by decide))
    refine mg_iload_n 88 rfl rfl rfl ?_
    refine mg_iconst (v := 3) 89 rfl (by decide) rfl ?_
    refine mg_ic_ne 92 107 rfl rfl (by decide) (fun c_89 => ?_) (fun c_89 => absurd c_89 (by decide))
    refine mg_iload_n 108 rfl rfl rfl ?_
    refine mg_bipush (v := 6) 110 rfl (by decide) rfl ?_
    refine mg_ic_ge 113 122 rfl rfl (by decide) (fun c_110 => absurd c_110 (by decide)) (fun c_110 => ?_)
    refine mg_aload_n 114 rfl rfl rfl ?_
    refine mg_getR 117 rfl rfl rfl rfl ?_
    refine mg_iload_n 118 rfl rfl rfl ?_
    refine mg_iald (v := M 32 ja) 119 rfl rfl (by rw [ea]; exact vp_in_nI (by omega : ja < 60) (by omega)) (by rw [ea, nI_clamp (by omega)]) rfl ?_
    refine mg_goto 129 rfl (by decide) ?_
    refine mg_iret rfl rfl ?_
    rw [an_ow, if_neg (by omega), ms_0or, an_bg4 hk, ea, an_oI (by omega)] at k
    exact k
  · rw [hk]
    obtain ⟨ja, hja, hjn, ea, -⟩ := hO.2.1 (by rw [hk]; rfl)
    refine mg_istore_n (L2 := [(0, _), (1, _), (2, _)]) 7 rfl (by decide) rfl rfl ?_
    refine mg_aload_n 8 rfl rfl rfl ?_
    refine mg_getR 11 rfl rfl rfl rfl ?_
    refine mg_iload_n 12 rfl rfl rfl ?_
    refine mg_iald (v := a i) 13 rfl rfl (vp_in_nI (by omega : i < 60) (by omega)) (by rw [nI_clamp (by omega)]; exact (hX.2.1 i hi).2.1) rfl ?_
    refine mg_istore_n (L2 := [(0, _), (1, _), (2, _), (3, _)]) 14 rfl (by decide) rfl rfl ?_
    refine mg_aload_n 15 rfl rfl rfl ?_
    refine mg_getR 18 rfl rfl rfl rfl ?_
    refine mg_iload_n 19 rfl rfl rfl ?_
    refine mg_iald (v := b i) 20 rfl rfl (vp_in_nI (by omega : i < 60) (by omega)) (by rw [nI_clamp (by omega)]; exact (hX.2.1 i hi).2.2) rfl ?_
    refine mg_istore (L2 := [(0, _), (1, _), (2, _), (3, _), (4, _)]) 22 rfl (by decide) rfl rfl ?_
    refine mg_iload_n 23 rfl rfl rfl ?_
    refine mg_if_eq 26 32 rfl rfl (by decide) (fun c_23 => absurd c_23 (by decide)) (fun c_23 => ?_)
    refine mg_iload_n 27 rfl rfl rfl ?_
    refine mg_bipush (v := 6) 29 rfl (by decide) rfl ?_
    refine mg_ic_ne 32 34 rfl rfl (by decide) (fun c_29 => ?_) (fun c_29 => absurd c_29 (by decide))
    refine mg_iload_n 35 rfl rfl rfl ?_
    refine mg_iconst (v := 1) 36 rfl (by decide) rfl ?_
    refine mg_ic_ne 39 54 rfl rfl (by decide) (fun c_36 => ?_) (fun c_36 => absurd c_36 (by decide))
    refine mg_iload_n 55 rfl rfl rfl ?_
    refine mg_iconst (v := 2) 56 rfl (by decide) rfl ?_
    refine mg_ic_ne 59 87 rfl rfl (by decide) (fun c_56 => ?_) (fun c_56 => absurd c_56 (by decide))
    refine mg_iload_n 88 rfl rfl rfl ?_
    refine mg_iconst (v := 3) 89 rfl (by decide) rfl ?_
    refine mg_ic_ne 92 107 rfl rfl (by decide) (fun c_89 => ?_) (fun c_89 => absurd c_89 (by decide))
    refine mg_iload_n 108 rfl rfl rfl ?_
    refine mg_bipush (v := 6) 110 rfl (by decide) rfl ?_
    refine mg_ic_ge 113 122 rfl rfl (by decide) (fun c_110 => absurd c_110 (by decide)) (fun c_110 => ?_)
    refine mg_aload_n 114 rfl rfl rfl ?_
    refine mg_getR 117 rfl rfl rfl rfl ?_
    refine mg_iload_n 118 rfl rfl rfl ?_
    refine mg_iald (v := M 32 ja) 119 rfl rfl (by rw [ea]; exact vp_in_nI (by omega : ja < 60) (by omega)) (by rw [ea, nI_clamp (by omega)]) rfl ?_
    refine mg_goto 129 rfl (by decide) ?_
    refine mg_iret rfl rfl ?_
    rw [an_ow, if_neg (by omega), ms_0or, an_bg5 hk, ea, an_oI (by omega)] at k
    exact k
  · rw [hk]
    refine mg_istore_n (L2 := [(0, _), (1, _), (2, _)]) 7 rfl (by decide) rfl rfl ?_
    refine mg_aload_n 8 rfl rfl rfl ?_
    refine mg_getR 11 rfl rfl rfl rfl ?_
    refine mg_iload_n 12 rfl rfl rfl ?_
    refine mg_iald (v := a i) 13 rfl rfl (vp_in_nI (by omega : i < 60) (by omega)) (by rw [nI_clamp (by omega)]; exact (hX.2.1 i hi).2.1) rfl ?_
    refine mg_istore_n (L2 := [(0, _), (1, _), (2, _), (3, _)]) 14 rfl (by decide) rfl rfl ?_
    refine mg_aload_n 15 rfl rfl rfl ?_
    refine mg_getR 18 rfl rfl rfl rfl ?_
    refine mg_iload_n 19 rfl rfl rfl ?_
    refine mg_iald (v := b i) 20 rfl rfl (vp_in_nI (by omega : i < 60) (by omega)) (by rw [nI_clamp (by omega)]; exact (hX.2.1 i hi).2.2) rfl ?_
    refine mg_istore (L2 := [(0, _), (1, _), (2, _), (3, _), (4, _)]) 22 rfl (by decide) rfl rfl ?_
    refine mg_iload_n 23 rfl rfl rfl ?_
    refine mg_if_eq 26 32 rfl rfl (by decide) (fun c_23 => absurd c_23 (by decide)) (fun c_23 => ?_)
    refine mg_iload_n 27 rfl rfl rfl ?_
    refine mg_bipush (v := 6) 29 rfl (by decide) rfl ?_
    refine mg_ic_ne 32 34 rfl rfl (by decide) (fun c_29 => absurd c_29 (by decide)) (fun c_29 => ?_)
    refine mg_iconst (v := 0) 33 rfl (by decide) rfl ?_
    refine mg_iret rfl rfl ?_
    rw [an_ow, if_neg (by omega), ms_0or, an_bg6 hk] at k
    exact k
  · rw [hk]
    obtain ⟨ja, hja, hjn, ea, -⟩ := hO.2.1 (by rw [hk]; rfl)
    obtain ⟨jb, hjb, hjbn, eb, -⟩ := hO.2.2.1 (by rw [hk]; rfl)
    refine mg_istore_n (L2 := [(0, _), (1, _), (2, _)]) 7 rfl (by decide) rfl rfl ?_
    refine mg_aload_n 8 rfl rfl rfl ?_
    refine mg_getR 11 rfl rfl rfl rfl ?_
    refine mg_iload_n 12 rfl rfl rfl ?_
    refine mg_iald (v := a i) 13 rfl rfl (vp_in_nI (by omega : i < 60) (by omega)) (by rw [nI_clamp (by omega)]; exact (hX.2.1 i hi).2.1) rfl ?_
    refine mg_istore_n (L2 := [(0, _), (1, _), (2, _), (3, _)]) 14 rfl (by decide) rfl rfl ?_
    refine mg_aload_n 15 rfl rfl rfl ?_
    refine mg_getR 18 rfl rfl rfl rfl ?_
    refine mg_iload_n 19 rfl rfl rfl ?_
    refine mg_iald (v := b i) 20 rfl rfl (vp_in_nI (by omega : i < 60) (by omega)) (by rw [nI_clamp (by omega)]; exact (hX.2.1 i hi).2.2) rfl ?_
    refine mg_istore (L2 := [(0, _), (1, _), (2, _), (3, _), (4, _)]) 22 rfl (by decide) rfl rfl ?_
    refine mg_iload_n 23 rfl rfl rfl ?_
    refine mg_if_eq 26 32 rfl rfl (by decide) (fun c_23 => absurd c_23 (by decide)) (fun c_23 => ?_)
    refine mg_iload_n 27 rfl rfl rfl ?_
    refine mg_bipush (v := 6) 29 rfl (by decide) rfl ?_
    refine mg_ic_ne 32 34 rfl rfl (by decide) (fun c_29 => ?_) (fun c_29 => absurd c_29 (by decide))
    refine mg_iload_n 35 rfl rfl rfl ?_
    refine mg_iconst (v := 1) 36 rfl (by decide) rfl ?_
    refine mg_ic_ne 39 54 rfl rfl (by decide) (fun c_36 => ?_) (fun c_36 => absurd c_36 (by decide))
    refine mg_iload_n 55 rfl rfl rfl ?_
    refine mg_iconst (v := 2) 56 rfl (by decide) rfl ?_
    refine mg_ic_ne 59 87 rfl rfl (by decide) (fun c_56 => ?_) (fun c_56 => absurd c_56 (by decide))
    refine mg_iload_n 88 rfl rfl rfl ?_
    refine mg_iconst (v := 3) 89 rfl (by decide) rfl ?_
    refine mg_ic_ne 92 107 rfl rfl (by decide) (fun c_89 => ?_) (fun c_89 => absurd c_89 (by decide))
    refine mg_iload_n 108 rfl rfl rfl ?_
    refine mg_bipush (v := 6) 110 rfl (by decide) rfl ?_
    refine mg_ic_ge 113 122 rfl rfl (by decide) (fun c_110 => ?_) (fun c_110 => absurd c_110 (by decide))
    refine mg_aload_n 123 rfl rfl rfl ?_
    refine mg_getR 126 rfl rfl rfl rfl ?_
    refine mg_iload 128 rfl rfl rfl ?_
    refine mg_iald (v := M 32 jb) 129 rfl rfl (by rw [eb]; exact vp_in_nI (by omega : jb < 60) (by omega)) (by rw [eb, nI_clamp (by omega)]) rfl ?_
    refine mg_iret rfl rfl ?_
    rw [an_ow, if_neg (by omega), ms_0or, an_bg7 hk, eb, an_oI (by omega)] at k
    exact k
  · rw [hk]
    obtain ⟨jb, hjb, hjbn, eb, -⟩ := hO.2.2.1 (by rw [hk]; rfl)
    refine mg_istore_n (L2 := [(0, _), (1, _), (2, _)]) 7 rfl (by decide) rfl rfl ?_
    refine mg_aload_n 8 rfl rfl rfl ?_
    refine mg_getR 11 rfl rfl rfl rfl ?_
    refine mg_iload_n 12 rfl rfl rfl ?_
    refine mg_iald (v := a i) 13 rfl rfl (vp_in_nI (by omega : i < 60) (by omega)) (by rw [nI_clamp (by omega)]; exact (hX.2.1 i hi).2.1) rfl ?_
    refine mg_istore_n (L2 := [(0, _), (1, _), (2, _), (3, _)]) 14 rfl (by decide) rfl rfl ?_
    refine mg_aload_n 15 rfl rfl rfl ?_
    refine mg_getR 18 rfl rfl rfl rfl ?_
    refine mg_iload_n 19 rfl rfl rfl ?_
    refine mg_iald (v := b i) 20 rfl rfl (vp_in_nI (by omega : i < 60) (by omega)) (by rw [nI_clamp (by omega)]; exact (hX.2.1 i hi).2.2) rfl ?_
    refine mg_istore (L2 := [(0, _), (1, _), (2, _), (3, _), (4, _)]) 22 rfl (by decide) rfl rfl ?_
    refine mg_iload_n 23 rfl rfl rfl ?_
    refine mg_if_eq 26 32 rfl rfl (by decide) (fun c_23 => absurd c_23 (by decide)) (fun c_23 => ?_)
    refine mg_iload_n 27 rfl rfl rfl ?_
    refine mg_bipush (v := 6) 29 rfl (by decide) rfl ?_
    refine mg_ic_ne 32 34 rfl rfl (by decide) (fun c_29 => ?_) (fun c_29 => absurd c_29 (by decide))
    refine mg_iload_n 35 rfl rfl rfl ?_
    refine mg_iconst (v := 1) 36 rfl (by decide) rfl ?_
    refine mg_ic_ne 39 54 rfl rfl (by decide) (fun c_36 => ?_) (fun c_36 => absurd c_36 (by decide))
    refine mg_iload_n 55 rfl rfl rfl ?_
    refine mg_iconst (v := 2) 56 rfl (by decide) rfl ?_
    refine mg_ic_ne 59 87 rfl rfl (by decide) (fun c_56 => ?_) (fun c_56 => absurd c_56 (by decide))
    refine mg_iload_n 88 rfl rfl rfl ?_
    refine mg_iconst (v := 3) 89 rfl (by decide) rfl ?_
    refine mg_ic_ne 92 107 rfl rfl (by decide) (fun c_89 => ?_) (fun c_89 => absurd c_89 (by decide))
    refine mg_iload_n 108 rfl rfl rfl ?_
    refine mg_bipush (v := 6) 110 rfl (by decide) rfl ?_
    refine mg_ic_ge 113 122 rfl rfl (by decide) (fun c_110 => ?_) (fun c_110 => absurd c_110 (by decide))
    refine mg_aload_n 123 rfl rfl rfl ?_
    refine mg_getR 126 rfl rfl rfl rfl ?_
    refine mg_iload 128 rfl rfl rfl ?_
    refine mg_iald (v := M 32 jb) 129 rfl rfl (by rw [eb]; exact vp_in_nI (by omega : jb < 60) (by omega)) (by rw [eb, nI_clamp (by omega)]) rfl ?_
    refine mg_iret rfl rfl ?_
    rw [an_ow, if_neg (by omega), ms_0or, an_bg8 hk, eb, an_oI (by omega)] at k
    exact k
set_option maxHeartbeats 2000000 in
set_option maxRecDepth 20000 in
theorem lq_looks {d : Nat} {M1 : mm_M} {Q : mm_Qt} {n : Nat} {kd lv : Nat → Nat} {a b kp us : Nat → Int32} {rt : Nat} (hW : st_wf n kd lv a b kp) (hX : an_M M1 n kd a b kp) (hU : st_us n kd a b kp us rt) (hM28 : ∀ j, j < 60 → M1 28 j = us j) (hd : 3 ≤ d) (k : ∀ f M, an_f3 M1 M ∧ an_c3 M1 ≤ an_c3 M ∧ ((f = 0 ∧ M = M1) ∨ (f = 1 ∧ an_c3 M1 < an_c3 M)) → an_up n kd a b kp us M → an_l3 n kd a b kp us M → (M = M1 → ∀ i, i < n → us i = 1 → (an_fe kd a b kp (M1 29) i → ms_le 1 (M1 29 i)) ∧ ms_le (an_ow 0 kd a i ||| an_bg kd a b kp (M1 29) (M1 30) i) (M1 30 i) ∧ ms_le (an_ow 1 kd a i ||| an_bg kd a b kp (M1 29) (M1 32) i) (M1 32 i)) → Q (some (.inl f)) M) :
    ∀ (i : Nat) (f x : Int32) (M : mm_M), i ≤ n → x = nI i → (an_f3 M1 M ∧ an_c3 M1 ≤ an_c3 M ∧ ((f = 0 ∧ M = M1) ∨ (f = 1 ∧ an_c3 M1 < an_c3 M))) → an_up n kd a b kp us M → an_l3 n kd a b kp us M → (M = M1 → ∀ q, q < i → us q = 1 → (an_fe kd a b kp (M1 29) q → ms_le 1 (M1 29 q)) ∧ ms_le (an_ow 0 kd a q ||| an_bg kd a b kp (M1 29) (M1 30) q) (M1 30 q) ∧ ms_le (an_ow 1 kd a q ||| an_bg kd a b kp (M1 29) (M1 32) q) (M1 32 q)) → mm_Rn pg ly d (mm_Ev pg ly d) yy_Mo_looksInto Q 4 [(0, .inr 21), (1, .inl f), (2, .inl x)] [] M := by
  have hn : n ≤ 60 := hW.1
  intro i
  induction hm : n - i using Nat.strongRecOn generalizing i with
  | _ m ih =>
    intro f x M hi0 ex hg hup hl hp
    subst ex
    have hX2 : an_M M n kd a b kp := an_M_fr (by rw [hg.1 21 (by decide) (by decide) (by decide)]) (hg.1 22 (by decide) (by decide) (by decide)) (hg.1 23 (by decide) (by decide) (by decide)) (hg.1 24 (by decide) (by decide) (by decide)) (hg.1 27 (by decide) (by decide) (by decide)) hX
    have h28 : ∀ j, j < 60 → M 28 j = us j := fun j hj => by rw [hg.1 28 (by decide) (by decide) (by decide)]; exact hM28 j hj
    refine mg_iload_n 5 rfl rfl rfl ?_
    refine mg_aload_n 6 rfl rfl rfl ?_
    refine mg_getI (v := nI n) 9 rfl rfl (Or.inl rfl) hX2.1 rfl ?_
    refine mg_ic_ge 12 107 rfl rfl (by decide) (fun c_9 => ?_) (fun c_9 => ?_)
    · refine mg_iload_n 108 rfl rfl rfl ?_
      refine mg_zret rfl rfl (hg.2.2.elim (fun h => Or.inl h.1) (fun h => Or.inr h.1)) ?_
      exact k f M hg hup hl (fun e q hq => hp e q (by have := (nI_leI (by omega) (by omega)).mp c_9; omega))
    · have hi : i < n := Nat.not_le.mp (fun h => c_9 (nI_le h (by omega)))
      refine mg_aload_n 13 rfl rfl rfl ?_
      refine mg_getR 16 rfl rfl rfl rfl ?_
      refine mg_iload_n 17 rfl rfl rfl ?_
      refine mg_zald (v := us i) 18 rfl rfl (vp_in_nI (by omega : i < 60) (by omega)) (by rw [nI_clamp (by omega)]; exact h28 i (by omega)) rfl ?_
      refine mg_if_ne 21 24 rfl rfl (by decide) (fun c_18 => ?_) (fun c_18 => ?_)
      · have hu : us i = 1 := ((hU.2.2.1 i (by omega)).resolve_left c_18).1
        refine mg_aload_n 25 rfl rfl rfl ?_
        refine mg_iload_n 26 rfl rfl rfl ?_
        refine mg_callV1 29 rfl (Nat.le_of_ble_eq_true rfl) pg_Mo_emptyNow rfl rfl ?_
        refine sm_emptyNow hW hX2 hU hi hu (fun j hj => an_ce_01 hl.1 hj) (by omega) (fun hfe => ?_) (fun hfe => ?_)
        · show mm_Rn _ _ _ _ _ _ 29 [(0, _), (1, _), (2, _)] [_] _
          refine mg_istore_n (L2 := [(0, _), (1, _), (2, _), (3, _)]) 30 rfl (by decide) rfl rfl ?_
          refine mg_aload_n 31 rfl rfl rfl ?_
          refine mg_iload_n 32 rfl rfl rfl ?_
          refine mg_callV1 35 rfl (Nat.le_of_ble_eq_true rfl) pg_Mo_firstNow rfl rfl ?_
          refine sm_firstNow hW hX2 hU hi hu (by omega) ?_
          show mm_Rn _ _ _ _ _ _ 35 [(0, _), (1, _), (2, _), (3, _)] [_] _
          refine mg_istore (L2 := [(0, _), (1, _), (2, _), (3, _), (4, _)]) 37 rfl (by decide) rfl rfl ?_
          refine mg_aload_n 38 rfl rfl rfl ?_
          refine mg_iload_n 39 rfl rfl rfl ?_
          refine mg_callV1 42 rfl (Nat.le_of_ble_eq_true rfl) pg_Mo_comesNow rfl rfl ?_
          refine sm_comesNow hW hX2 hU hi hu (by omega) ?_
          show mm_Rn _ _ _ _ _ _ 42 [(0, _), (1, _), (2, _), (3, _), (4, _)] [_] _
          refine mg_istore (L2 := [(0, _), (1, _), (2, _), (3, _), (4, _), (5, _)]) 44 rfl (by decide) rfl rfl ?_
          refine mg_iload_n 45 rfl rfl rfl ?_
          refine mg_aload_n 46 rfl rfl rfl ?_
          refine mg_getR 49 rfl rfl rfl rfl ?_
          refine mg_iload_n 50 rfl rfl rfl ?_
          refine mg_zald (v := M 29 i) 51 rfl rfl (vp_in_nI (by omega : i < 60) (by omega)) (by rw [nI_clamp (by omega)]) rfl ?_
          refine mg_ic_ne 54 76 rfl rfl (by decide) (fun c_51 => ?_) (fun c_51 => ?_)
          · refine mg_iconst (v := 1) 77 rfl (by decide) rfl ?_
            refine mg_istore_n (L2 := [(0, _), (1, _), (2, _), (3, _), (4, _), (5, _)]) 78 rfl (by decide) rfl rfl ?_
            refine mg_aload_n 79 rfl rfl rfl ?_
            refine mg_getR 82 rfl rfl rfl rfl ?_
            refine mg_iload_n 83 rfl rfl rfl ?_
            refine mg_iload_n 84 rfl rfl rfl ?_
            refine mg_zast (v := 1) (j := i) 85 rfl rfl (vp_in_nI (by omega : i < 60) (by omega)) (nI_clamp (by omega)) (by decide) rfl ?_
            refine mg_aload_n 86 rfl rfl rfl ?_
            refine mg_getR 89 rfl rfl rfl rfl ?_
            refine mg_iload_n 90 rfl rfl rfl ?_
            refine mg_iload 92 rfl rfl rfl ?_
            refine mg_iast (j := i) 93 rfl rfl (vp_in_nI (by omega : i < 60) (by omega)) (nI_clamp (by omega)) rfl ?_
            refine mg_aload_n 94 rfl rfl rfl ?_
            refine mg_getR 97 rfl rfl rfl rfl ?_
            refine mg_iload_n 98 rfl rfl rfl ?_
            refine mg_iload 100 rfl rfl rfl ?_
            refine mg_iast (j := i) 101 rfl rfl (vp_in_nI (by omega : i < 60) (by omega)) (nI_clamp (by omega)) rfl ?_
            refine mg_iinc (v := _ + 1) (L2 := [(0, _), (1, _), (2, _), (3, _), (4, _), (5, _)]) 104 rfl rfl (by decide) rfl rfl rfl ?_
            refine mg_goto 4 rfl (by decide) ?_
            obtain ⟨m1, m2, m3, hup2, hl2⟩ := an_lk1_ok (e := 1) (f := (an_ow 0 kd a i ||| an_bg kd a b kp (M 29) (M 30) i)) (c := (an_ow 1 kd a i ||| an_bg kd a b kp (M 29) (M 32) i)) hW hU hi hu hup hl (Or.inl ⟨rfl, hfe⟩) rfl rfl
            have hlt3 := an_c3_lt (M := M) (M' := (an_lk1 M i 1 (an_ow 0 kd a i ||| an_bg kd a b kp (M 29) (M 30) i) (an_ow 1 kd a i ||| an_bg kd a b kp (M 29) (M 32) i))) (by omega : i < 60) m1 m2 m3 (Or.inl (by rw [an_lk1_29, if_pos rfl]; exact c_51))
            exact mg_loc [(0, _), (1, _), (2, _)] ⟨rfl, rfl, rfl, trivial⟩ (ih _ (by omega) (i + 1) rfl _ _ (an_lk1 M i 1 (an_ow 0 kd a i ||| an_bg kd a b kp (M 29) (M 30) i) (an_ow 1 kd a i ||| an_bg kd a b kp (M 29) (M 32) i)) (by omega) (nI_1 i) ⟨fun k a1 a2 a3 => (an_lk1_f k a1 a2 a3).trans (hg.1 k a1 a2 a3), by have := hg.2.1; omega, Or.inr ⟨rfl, by have := hg.2.1; omega⟩⟩ hup2 hl2 (fun e q hq hqu => by
              have := hg.2.1
              rw [e] at hlt3
              omega))
          · refine mg_iload 56 rfl rfl rfl ?_
            refine mg_aload_n 57 rfl rfl rfl ?_
            refine mg_getR 60 rfl rfl rfl rfl ?_
            refine mg_iload_n 61 rfl rfl rfl ?_
            refine mg_iald (v := M 30 i) 62 rfl rfl (vp_in_nI (by omega : i < 60) (by omega)) (by rw [nI_clamp (by omega)]) rfl ?_
            refine mg_ic_ne 65 76 rfl rfl (by decide) (fun c_62 => ?_) (fun c_62 => ?_)
            · refine mg_iconst (v := 1) 77 rfl (by decide) rfl ?_
              refine mg_istore_n (L2 := [(0, _), (1, _), (2, _), (3, _), (4, _), (5, _)]) 78 rfl (by decide) rfl rfl ?_
              refine mg_aload_n 79 rfl rfl rfl ?_
              refine mg_getR 82 rfl rfl rfl rfl ?_
              refine mg_iload_n 83 rfl rfl rfl ?_
              refine mg_iload_n 84 rfl rfl rfl ?_
              refine mg_zast (v := 1) (j := i) 85 rfl rfl (vp_in_nI (by omega : i < 60) (by omega)) (nI_clamp (by omega)) (by decide) rfl ?_
              refine mg_aload_n 86 rfl rfl rfl ?_
              refine mg_getR 89 rfl rfl rfl rfl ?_
              refine mg_iload_n 90 rfl rfl rfl ?_
              refine mg_iload 92 rfl rfl rfl ?_
              refine mg_iast (j := i) 93 rfl rfl (vp_in_nI (by omega : i < 60) (by omega)) (nI_clamp (by omega)) rfl ?_
              refine mg_aload_n 94 rfl rfl rfl ?_
              refine mg_getR 97 rfl rfl rfl rfl ?_
              refine mg_iload_n 98 rfl rfl rfl ?_
              refine mg_iload 100 rfl rfl rfl ?_
              refine mg_iast (j := i) 101 rfl rfl (vp_in_nI (by omega : i < 60) (by omega)) (nI_clamp (by omega)) rfl ?_
              refine mg_iinc (v := _ + 1) (L2 := [(0, _), (1, _), (2, _), (3, _), (4, _), (5, _)]) 104 rfl rfl (by decide) rfl rfl rfl ?_
              refine mg_goto 4 rfl (by decide) ?_
              obtain ⟨m1, m2, m3, hup2, hl2⟩ := an_lk1_ok (e := 1) (f := (an_ow 0 kd a i ||| an_bg kd a b kp (M 29) (M 30) i)) (c := (an_ow 1 kd a i ||| an_bg kd a b kp (M 29) (M 32) i)) hW hU hi hu hup hl (Or.inl ⟨rfl, hfe⟩) rfl rfl
              have hlt3 := an_c3_lt (M := M) (M' := (an_lk1 M i 1 (an_ow 0 kd a i ||| an_bg kd a b kp (M 29) (M 30) i) (an_ow 1 kd a i ||| an_bg kd a b kp (M 29) (M 32) i))) (by omega : i < 60) m1 m2 m3 (Or.inr (Or.inl (by rw [an_lk1_30, if_pos rfl]; exact c_62)))
              exact mg_loc [(0, _), (1, _), (2, _)] ⟨rfl, rfl, rfl, trivial⟩ (ih _ (by omega) (i + 1) rfl _ _ (an_lk1 M i 1 (an_ow 0 kd a i ||| an_bg kd a b kp (M 29) (M 30) i) (an_ow 1 kd a i ||| an_bg kd a b kp (M 29) (M 32) i)) (by omega) (nI_1 i) ⟨fun k a1 a2 a3 => (an_lk1_f k a1 a2 a3).trans (hg.1 k a1 a2 a3), by have := hg.2.1; omega, Or.inr ⟨rfl, by have := hg.2.1; omega⟩⟩ hup2 hl2 (fun e q hq hqu => by
                have := hg.2.1
                rw [e] at hlt3
                omega))
            · refine mg_iload 67 rfl rfl rfl ?_
              refine mg_aload_n 68 rfl rfl rfl ?_
              refine mg_getR 71 rfl rfl rfl rfl ?_
              refine mg_iload_n 72 rfl rfl rfl ?_
              refine mg_iald (v := M 32 i) 73 rfl rfl (vp_in_nI (by omega : i < 60) (by omega)) (by rw [nI_clamp (by omega)]) rfl ?_
              refine mg_ic_eq 76 78 rfl rfl (by decide) (fun c_73 => ?_) (fun c_73 => ?_)
              · refine mg_aload_n 79 rfl rfl rfl ?_
                refine mg_getR 82 rfl rfl rfl rfl ?_
                refine mg_iload_n 83 rfl rfl rfl ?_
                refine mg_iload_n 84 rfl rfl rfl ?_
                refine mg_zast (v := 1) (j := i) 85 rfl rfl (vp_in_nI (by omega : i < 60) (by omega)) (nI_clamp (by omega)) (by decide) rfl ?_
                refine mg_aload_n 86 rfl rfl rfl ?_
                refine mg_getR 89 rfl rfl rfl rfl ?_
                refine mg_iload_n 90 rfl rfl rfl ?_
                refine mg_iload 92 rfl rfl rfl ?_
                refine mg_iast (j := i) 93 rfl rfl (vp_in_nI (by omega : i < 60) (by omega)) (nI_clamp (by omega)) rfl ?_
                refine mg_aload_n 94 rfl rfl rfl ?_
                refine mg_getR 97 rfl rfl rfl rfl ?_
                refine mg_iload_n 98 rfl rfl rfl ?_
                refine mg_iload 100 rfl rfl rfl ?_
                refine mg_iast (j := i) 101 rfl rfl (vp_in_nI (by omega : i < 60) (by omega)) (nI_clamp (by omega)) rfl ?_
                refine mg_iinc (v := _ + 1) (L2 := [(0, _), (1, _), (2, _), (3, _), (4, _), (5, _)]) 104 rfl rfl (by decide) rfl rfl rfl ?_
                refine mg_goto 4 rfl (by decide) ?_
                obtain ⟨m1, m2, m3, hup2, hl2⟩ := an_lk1_ok (e := 1) (f := (an_ow 0 kd a i ||| an_bg kd a b kp (M 29) (M 30) i)) (c := (an_ow 1 kd a i ||| an_bg kd a b kp (M 29) (M 32) i)) hW hU hi hu hup hl (Or.inl ⟨rfl, hfe⟩) rfl rfl
                have esame : (an_lk1 M i 1 (an_ow 0 kd a i ||| an_bg kd a b kp (M 29) (M 30) i) (an_ow 1 kd a i ||| an_bg kd a b kp (M 29) (M 32) i)) = M := an_lk1_same c_51 c_62 c_73
                refine mg_loc [(0, _), (1, _), (2, _)] ⟨rfl, rfl, rfl, trivial⟩ (show mm_Rn pg ly d (mm_Ev pg ly d) yy_Mo_looksInto Q 4 _ [] (an_lk1 M i 1 (an_ow 0 kd a i ||| an_bg kd a b kp (M 29) (M 30) i) (an_ow 1 kd a i ||| an_bg kd a b kp (M 29) (M 32) i)) from ?_)
                rw [esame]
                exact ih _ (by omega) (i + 1) rfl _ _ _ (by omega) (nI_1 i) hg hup hl (fun e q hq hqu => by
                  rcases Nat.lt_or_ge q i with h | h
                  · exact hp e q h hqu
                  · have : q = i := by omega
                    subst this
                    rw [← e]
                    exact ⟨fun z => by rw [← c_51]; exact ms_rf 1, by rw [← c_62]; exact ms_rf _, by rw [← c_73]; exact ms_rf _⟩)
              · refine mg_iconst (v := 1) 77 rfl (by decide) rfl ?_
                refine mg_istore_n (L2 := [(0, _), (1, _), (2, _), (3, _), (4, _), (5, _)]) 78 rfl (by decide) rfl rfl ?_
                refine mg_aload_n 79 rfl rfl rfl ?_
                refine mg_getR 82 rfl rfl rfl rfl ?_
                refine mg_iload_n 83 rfl rfl rfl ?_
                refine mg_iload_n 84 rfl rfl rfl ?_
                refine mg_zast (v := 1) (j := i) 85 rfl rfl (vp_in_nI (by omega : i < 60) (by omega)) (nI_clamp (by omega)) (by decide) rfl ?_
                refine mg_aload_n 86 rfl rfl rfl ?_
                refine mg_getR 89 rfl rfl rfl rfl ?_
                refine mg_iload_n 90 rfl rfl rfl ?_
                refine mg_iload 92 rfl rfl rfl ?_
                refine mg_iast (j := i) 93 rfl rfl (vp_in_nI (by omega : i < 60) (by omega)) (nI_clamp (by omega)) rfl ?_
                refine mg_aload_n 94 rfl rfl rfl ?_
                refine mg_getR 97 rfl rfl rfl rfl ?_
                refine mg_iload_n 98 rfl rfl rfl ?_
                refine mg_iload 100 rfl rfl rfl ?_
                refine mg_iast (j := i) 101 rfl rfl (vp_in_nI (by omega : i < 60) (by omega)) (nI_clamp (by omega)) rfl ?_
                refine mg_iinc (v := _ + 1) (L2 := [(0, _), (1, _), (2, _), (3, _), (4, _), (5, _)]) 104 rfl rfl (by decide) rfl rfl rfl ?_
                refine mg_goto 4 rfl (by decide) ?_
                obtain ⟨m1, m2, m3, hup2, hl2⟩ := an_lk1_ok (e := 1) (f := (an_ow 0 kd a i ||| an_bg kd a b kp (M 29) (M 30) i)) (c := (an_ow 1 kd a i ||| an_bg kd a b kp (M 29) (M 32) i)) hW hU hi hu hup hl (Or.inl ⟨rfl, hfe⟩) rfl rfl
                have hlt3 := an_c3_lt (M := M) (M' := (an_lk1 M i 1 (an_ow 0 kd a i ||| an_bg kd a b kp (M 29) (M 30) i) (an_ow 1 kd a i ||| an_bg kd a b kp (M 29) (M 32) i))) (by omega : i < 60) m1 m2 m3 (Or.inr (Or.inr (by rw [an_lk1_32, if_pos rfl]; exact c_73)))
                exact mg_loc [(0, _), (1, _), (2, _)] ⟨rfl, rfl, rfl, trivial⟩ (ih _ (by omega) (i + 1) rfl _ _ (an_lk1 M i 1 (an_ow 0 kd a i ||| an_bg kd a b kp (M 29) (M 30) i) (an_ow 1 kd a i ||| an_bg kd a b kp (M 29) (M 32) i)) (by omega) (nI_1 i) ⟨fun k a1 a2 a3 => (an_lk1_f k a1 a2 a3).trans (hg.1 k a1 a2 a3), by have := hg.2.1; omega, Or.inr ⟨rfl, by have := hg.2.1; omega⟩⟩ hup2 hl2 (fun e q hq hqu => by
                  have := hg.2.1
                  rw [e] at hlt3
                  omega))
        · show mm_Rn _ _ _ _ _ _ 29 [(0, _), (1, _), (2, _)] [_] _
          refine mg_istore_n (L2 := [(0, _), (1, _), (2, _), (3, _)]) 30 rfl (by decide) rfl rfl ?_
          refine mg_aload_n 31 rfl rfl rfl ?_
          refine mg_iload_n 32 rfl rfl rfl ?_
          refine mg_callV1 35 rfl (Nat.le_of_ble_eq_true rfl) pg_Mo_firstNow rfl rfl ?_
          refine sm_firstNow hW hX2 hU hi hu (by omega) ?_
          show mm_Rn _ _ _ _ _ _ 35 [(0, _), (1, _), (2, _), (3, _)] [_] _
          refine mg_istore (L2 := [(0, _), (1, _), (2, _), (3, _), (4, _)]) 37 rfl (by decide) rfl rfl ?_
          refine mg_aload_n 38 rfl rfl rfl ?_
          refine mg_iload_n 39 rfl rfl rfl ?_
          refine mg_callV1 42 rfl (Nat.le_of_ble_eq_true rfl) pg_Mo_comesNow rfl rfl ?_
          refine sm_comesNow hW hX2 hU hi hu (by omega) ?_
          show mm_Rn _ _ _ _ _ _ 42 [(0, _), (1, _), (2, _), (3, _), (4, _)] [_] _
          refine mg_istore (L2 := [(0, _), (1, _), (2, _), (3, _), (4, _), (5, _)]) 44 rfl (by decide) rfl rfl ?_
          refine mg_iload_n 45 rfl rfl rfl ?_
          refine mg_aload_n 46 rfl rfl rfl ?_
          refine mg_getR 49 rfl rfl rfl rfl ?_
          refine mg_iload_n 50 rfl rfl rfl ?_
          refine mg_zald (v := M 29 i) 51 rfl rfl (vp_in_nI (by omega : i < 60) (by omega)) (by rw [nI_clamp (by omega)]) rfl ?_
          refine mg_ic_ne 54 76 rfl rfl (by decide) (fun c_51 => ?_) (fun c_51 => ?_)
          · refine mg_iconst (v := 1) 77 rfl (by decide) rfl ?_
            refine mg_istore_n (L2 := [(0, _), (1, _), (2, _), (3, _), (4, _), (5, _)]) 78 rfl (by decide) rfl rfl ?_
            refine mg_aload_n 79 rfl rfl rfl ?_
            refine mg_getR 82 rfl rfl rfl rfl ?_
            refine mg_iload_n 83 rfl rfl rfl ?_
            refine mg_iload_n 84 rfl rfl rfl ?_
            refine mg_zast (v := 0) (j := i) 85 rfl rfl (vp_in_nI (by omega : i < 60) (by omega)) (nI_clamp (by omega)) (by decide) rfl ?_
            refine mg_aload_n 86 rfl rfl rfl ?_
            refine mg_getR 89 rfl rfl rfl rfl ?_
            refine mg_iload_n 90 rfl rfl rfl ?_
            refine mg_iload 92 rfl rfl rfl ?_
            refine mg_iast (j := i) 93 rfl rfl (vp_in_nI (by omega : i < 60) (by omega)) (nI_clamp (by omega)) rfl ?_
            refine mg_aload_n 94 rfl rfl rfl ?_
            refine mg_getR 97 rfl rfl rfl rfl ?_
            refine mg_iload_n 98 rfl rfl rfl ?_
            refine mg_iload 100 rfl rfl rfl ?_
            refine mg_iast (j := i) 101 rfl rfl (vp_in_nI (by omega : i < 60) (by omega)) (nI_clamp (by omega)) rfl ?_
            refine mg_iinc (v := _ + 1) (L2 := [(0, _), (1, _), (2, _), (3, _), (4, _), (5, _)]) 104 rfl rfl (by decide) rfl rfl rfl ?_
            refine mg_goto 4 rfl (by decide) ?_
            obtain ⟨m1, m2, m3, hup2, hl2⟩ := an_lk1_ok (e := 0) (f := (an_ow 0 kd a i ||| an_bg kd a b kp (M 29) (M 30) i)) (c := (an_ow 1 kd a i ||| an_bg kd a b kp (M 29) (M 32) i)) hW hU hi hu hup hl (Or.inr ⟨rfl, hfe⟩) rfl rfl
            have hlt3 := an_c3_lt (M := M) (M' := (an_lk1 M i 0 (an_ow 0 kd a i ||| an_bg kd a b kp (M 29) (M 30) i) (an_ow 1 kd a i ||| an_bg kd a b kp (M 29) (M 32) i))) (by omega : i < 60) m1 m2 m3 (Or.inl (by rw [an_lk1_29, if_pos rfl]; exact c_51))
            exact mg_loc [(0, _), (1, _), (2, _)] ⟨rfl, rfl, rfl, trivial⟩ (ih _ (by omega) (i + 1) rfl _ _ (an_lk1 M i 0 (an_ow 0 kd a i ||| an_bg kd a b kp (M 29) (M 30) i) (an_ow 1 kd a i ||| an_bg kd a b kp (M 29) (M 32) i)) (by omega) (nI_1 i) ⟨fun k a1 a2 a3 => (an_lk1_f k a1 a2 a3).trans (hg.1 k a1 a2 a3), by have := hg.2.1; omega, Or.inr ⟨rfl, by have := hg.2.1; omega⟩⟩ hup2 hl2 (fun e q hq hqu => by
              have := hg.2.1
              rw [e] at hlt3
              omega))
          · refine mg_iload 56 rfl rfl rfl ?_
            refine mg_aload_n 57 rfl rfl rfl ?_
            refine mg_getR 60 rfl rfl rfl rfl ?_
            refine mg_iload_n 61 rfl rfl rfl ?_
            refine mg_iald (v := M 30 i) 62 rfl rfl (vp_in_nI (by omega : i < 60) (by omega)) (by rw [nI_clamp (by omega)]) rfl ?_
            refine mg_ic_ne 65 76 rfl rfl (by decide) (fun c_62 => ?_) (fun c_62 => ?_)
            · refine mg_iconst (v := 1) 77 rfl (by decide) rfl ?_
              refine mg_istore_n (L2 := [(0, _), (1, _), (2, _), (3, _), (4, _), (5, _)]) 78 rfl (by decide) rfl rfl ?_
              refine mg_aload_n 79 rfl rfl rfl ?_
              refine mg_getR 82 rfl rfl rfl rfl ?_
              refine mg_iload_n 83 rfl rfl rfl ?_
              refine mg_iload_n 84 rfl rfl rfl ?_
              refine mg_zast (v := 0) (j := i) 85 rfl rfl (vp_in_nI (by omega : i < 60) (by omega)) (nI_clamp (by omega)) (by decide) rfl ?_
              refine mg_aload_n 86 rfl rfl rfl ?_
              refine mg_getR 89 rfl rfl rfl rfl ?_
              refine mg_iload_n 90 rfl rfl rfl ?_
              refine mg_iload 92 rfl rfl rfl ?_
              refine mg_iast (j := i) 93 rfl rfl (vp_in_nI (by omega : i < 60) (by omega)) (nI_clamp (by omega)) rfl ?_
              refine mg_aload_n 94 rfl rfl rfl ?_
              refine mg_getR 97 rfl rfl rfl rfl ?_
              refine mg_iload_n 98 rfl rfl rfl ?_
              refine mg_iload 100 rfl rfl rfl ?_
              refine mg_iast (j := i) 101 rfl rfl (vp_in_nI (by omega : i < 60) (by omega)) (nI_clamp (by omega)) rfl ?_
              refine mg_iinc (v := _ + 1) (L2 := [(0, _), (1, _), (2, _), (3, _), (4, _), (5, _)]) 104 rfl rfl (by decide) rfl rfl rfl ?_
              refine mg_goto 4 rfl (by decide) ?_
              obtain ⟨m1, m2, m3, hup2, hl2⟩ := an_lk1_ok (e := 0) (f := (an_ow 0 kd a i ||| an_bg kd a b kp (M 29) (M 30) i)) (c := (an_ow 1 kd a i ||| an_bg kd a b kp (M 29) (M 32) i)) hW hU hi hu hup hl (Or.inr ⟨rfl, hfe⟩) rfl rfl
              have hlt3 := an_c3_lt (M := M) (M' := (an_lk1 M i 0 (an_ow 0 kd a i ||| an_bg kd a b kp (M 29) (M 30) i) (an_ow 1 kd a i ||| an_bg kd a b kp (M 29) (M 32) i))) (by omega : i < 60) m1 m2 m3 (Or.inr (Or.inl (by rw [an_lk1_30, if_pos rfl]; exact c_62)))
              exact mg_loc [(0, _), (1, _), (2, _)] ⟨rfl, rfl, rfl, trivial⟩ (ih _ (by omega) (i + 1) rfl _ _ (an_lk1 M i 0 (an_ow 0 kd a i ||| an_bg kd a b kp (M 29) (M 30) i) (an_ow 1 kd a i ||| an_bg kd a b kp (M 29) (M 32) i)) (by omega) (nI_1 i) ⟨fun k a1 a2 a3 => (an_lk1_f k a1 a2 a3).trans (hg.1 k a1 a2 a3), by have := hg.2.1; omega, Or.inr ⟨rfl, by have := hg.2.1; omega⟩⟩ hup2 hl2 (fun e q hq hqu => by
                have := hg.2.1
                rw [e] at hlt3
                omega))
            · refine mg_iload 67 rfl rfl rfl ?_
              refine mg_aload_n 68 rfl rfl rfl ?_
              refine mg_getR 71 rfl rfl rfl rfl ?_
              refine mg_iload_n 72 rfl rfl rfl ?_
              refine mg_iald (v := M 32 i) 73 rfl rfl (vp_in_nI (by omega : i < 60) (by omega)) (by rw [nI_clamp (by omega)]) rfl ?_
              refine mg_ic_eq 76 78 rfl rfl (by decide) (fun c_73 => ?_) (fun c_73 => ?_)
              · refine mg_aload_n 79 rfl rfl rfl ?_
                refine mg_getR 82 rfl rfl rfl rfl ?_
                refine mg_iload_n 83 rfl rfl rfl ?_
                refine mg_iload_n 84 rfl rfl rfl ?_
                refine mg_zast (v := 0) (j := i) 85 rfl rfl (vp_in_nI (by omega : i < 60) (by omega)) (nI_clamp (by omega)) (by decide) rfl ?_
                refine mg_aload_n 86 rfl rfl rfl ?_
                refine mg_getR 89 rfl rfl rfl rfl ?_
                refine mg_iload_n 90 rfl rfl rfl ?_
                refine mg_iload 92 rfl rfl rfl ?_
                refine mg_iast (j := i) 93 rfl rfl (vp_in_nI (by omega : i < 60) (by omega)) (nI_clamp (by omega)) rfl ?_
                refine mg_aload_n 94 rfl rfl rfl ?_
                refine mg_getR 97 rfl rfl rfl rfl ?_
                refine mg_iload_n 98 rfl rfl rfl ?_
                refine mg_iload 100 rfl rfl rfl ?_
                refine mg_iast (j := i) 101 rfl rfl (vp_in_nI (by omega : i < 60) (by omega)) (nI_clamp (by omega)) rfl ?_
                refine mg_iinc (v := _ + 1) (L2 := [(0, _), (1, _), (2, _), (3, _), (4, _), (5, _)]) 104 rfl rfl (by decide) rfl rfl rfl ?_
                refine mg_goto 4 rfl (by decide) ?_
                obtain ⟨m1, m2, m3, hup2, hl2⟩ := an_lk1_ok (e := 0) (f := (an_ow 0 kd a i ||| an_bg kd a b kp (M 29) (M 30) i)) (c := (an_ow 1 kd a i ||| an_bg kd a b kp (M 29) (M 32) i)) hW hU hi hu hup hl (Or.inr ⟨rfl, hfe⟩) rfl rfl
                have esame : (an_lk1 M i 0 (an_ow 0 kd a i ||| an_bg kd a b kp (M 29) (M 30) i) (an_ow 1 kd a i ||| an_bg kd a b kp (M 29) (M 32) i)) = M := an_lk1_same c_51 c_62 c_73
                refine mg_loc [(0, _), (1, _), (2, _)] ⟨rfl, rfl, rfl, trivial⟩ (show mm_Rn pg ly d (mm_Ev pg ly d) yy_Mo_looksInto Q 4 _ [] (an_lk1 M i 0 (an_ow 0 kd a i ||| an_bg kd a b kp (M 29) (M 30) i) (an_ow 1 kd a i ||| an_bg kd a b kp (M 29) (M 32) i)) from ?_)
                rw [esame]
                exact ih _ (by omega) (i + 1) rfl _ _ _ (by omega) (nI_1 i) hg hup hl (fun e q hq hqu => by
                  rcases Nat.lt_or_ge q i with h | h
                  · exact hp e q h hqu
                  · have : q = i := by omega
                    subst this
                    rw [← e]
                    exact ⟨fun z => absurd z hfe, by rw [← c_62]; exact ms_rf _, by rw [← c_73]; exact ms_rf _⟩)
              · refine mg_iconst (v := 1) 77 rfl (by decide) rfl ?_
                refine mg_istore_n (L2 := [(0, _), (1, _), (2, _), (3, _), (4, _), (5, _)]) 78 rfl (by decide) rfl rfl ?_
                refine mg_aload_n 79 rfl rfl rfl ?_
                refine mg_getR 82 rfl rfl rfl rfl ?_
                refine mg_iload_n 83 rfl rfl rfl ?_
                refine mg_iload_n 84 rfl rfl rfl ?_
                refine mg_zast (v := 0) (j := i) 85 rfl rfl (vp_in_nI (by omega : i < 60) (by omega)) (nI_clamp (by omega)) (by decide) rfl ?_
                refine mg_aload_n 86 rfl rfl rfl ?_
                refine mg_getR 89 rfl rfl rfl rfl ?_
                refine mg_iload_n 90 rfl rfl rfl ?_
                refine mg_iload 92 rfl rfl rfl ?_
                refine mg_iast (j := i) 93 rfl rfl (vp_in_nI (by omega : i < 60) (by omega)) (nI_clamp (by omega)) rfl ?_
                refine mg_aload_n 94 rfl rfl rfl ?_
                refine mg_getR 97 rfl rfl rfl rfl ?_
                refine mg_iload_n 98 rfl rfl rfl ?_
                refine mg_iload 100 rfl rfl rfl ?_
                refine mg_iast (j := i) 101 rfl rfl (vp_in_nI (by omega : i < 60) (by omega)) (nI_clamp (by omega)) rfl ?_
                refine mg_iinc (v := _ + 1) (L2 := [(0, _), (1, _), (2, _), (3, _), (4, _), (5, _)]) 104 rfl rfl (by decide) rfl rfl rfl ?_
                refine mg_goto 4 rfl (by decide) ?_
                obtain ⟨m1, m2, m3, hup2, hl2⟩ := an_lk1_ok (e := 0) (f := (an_ow 0 kd a i ||| an_bg kd a b kp (M 29) (M 30) i)) (c := (an_ow 1 kd a i ||| an_bg kd a b kp (M 29) (M 32) i)) hW hU hi hu hup hl (Or.inr ⟨rfl, hfe⟩) rfl rfl
                have hlt3 := an_c3_lt (M := M) (M' := (an_lk1 M i 0 (an_ow 0 kd a i ||| an_bg kd a b kp (M 29) (M 30) i) (an_ow 1 kd a i ||| an_bg kd a b kp (M 29) (M 32) i))) (by omega : i < 60) m1 m2 m3 (Or.inr (Or.inr (by rw [an_lk1_32, if_pos rfl]; exact c_73)))
                exact mg_loc [(0, _), (1, _), (2, _)] ⟨rfl, rfl, rfl, trivial⟩ (ih _ (by omega) (i + 1) rfl _ _ (an_lk1 M i 0 (an_ow 0 kd a i ||| an_bg kd a b kp (M 29) (M 30) i) (an_ow 1 kd a i ||| an_bg kd a b kp (M 29) (M 32) i)) (by omega) (nI_1 i) ⟨fun k a1 a2 a3 => (an_lk1_f k a1 a2 a3).trans (hg.1 k a1 a2 a3), by have := hg.2.1; omega, Or.inr ⟨rfl, by have := hg.2.1; omega⟩⟩ hup2 hl2 (fun e q hq hqu => by
                  have := hg.2.1
                  rw [e] at hlt3
                  omega))
      · refine mg_goto 101 rfl (by decide) ?_
        refine mg_iinc (v := _ + 1) (L2 := [(0, _), (1, _), (2, _)]) 104 rfl rfl (by decide) rfl rfl rfl ?_
        refine mg_goto 4 rfl (by decide) ?_
        exact ih _ (by omega) (i + 1) rfl _ _ _ (by omega) (nI_1 i) hg hup hl (fun e q hq hqu => by
          rcases Nat.lt_or_ge q i with h | h
          · exact hp e q h hqu
          · have : q = i := by omega
            subst this
            exact absurd (hqu.symm.trans c_18) (by decide))
set_option maxHeartbeats 2000000 in
set_option maxRecDepth 20000 in
theorem sm_looks {d : Nat} {M : mm_M} {Q : mm_Qt} {n : Nat} {kd lv : Nat → Nat} {a b kp us : Nat → Int32} {rt : Nat} (hW : st_wf n kd lv a b kp) (hX : an_M M n kd a b kp) (hU : st_us n kd a b kp us rt) (hM28 : ∀ j, j < 60 → M 28 j = us j) (hup : an_up n kd a b kp us M) (hl : an_l3 n kd a b kp us M) (hd : 4 ≤ d) (k : ∀ f M', an_f3 M M' ∧ an_c3 M ≤ an_c3 M' ∧ ((f = 0 ∧ M' = M) ∨ (f = 1 ∧ an_c3 M < an_c3 M')) → an_up n kd a b kp us M' → an_l3 n kd a b kp us M' → (M' = M → ∀ i, i < n → us i = 1 → (an_fe kd a b kp (M 29) i → ms_le 1 (M 29 i)) ∧ ms_le (an_ow 0 kd a i ||| an_bg kd a b kp (M 29) (M 30) i) (M 30 i) ∧ ms_le (an_ow 1 kd a i ||| an_bg kd a b kp (M 29) (M 32) i) (M 32 i)) → Q (some (.inl f)) M') : mm_Ev pg ly d 79 [.inr 21] M Q := by
  obtain ⟨d, rfl⟩ : ∃ e, d = e + 1 := ⟨d - 1, by omega⟩
  refine mg_body yy_Mo_looksInto pg_Mo_looksInto (Nat.le_of_ble_eq_true rfl) ?_
  show mm_Rn _ _ _ _ _ _ 0 [(0, _)] [] _
  refine mg_iconst (v := 0) 1 rfl (by decide) rfl ?_
  refine mg_istore_n (L2 := [(0, _), (1, _)]) 2 rfl (by decide) rfl rfl ?_
  refine mg_iconst (v := 0) 3 rfl (by decide) rfl ?_
  refine mg_istore_n (L2 := [(0, _), (1, _), (2, _)]) 4 rfl (by decide) rfl rfl ?_
  exact lq_looks hW hX hU hM28 (by omega) k 0 0 0 M (by omega) rfl ⟨fun _ _ _ _ => rfl, Nat.le_refl _, Or.inl ⟨rfl, rfl⟩⟩ hup hl (fun _ q hq => by omega)
