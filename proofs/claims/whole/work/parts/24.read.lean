set_option maxHeartbeats 2000000 in
set_option maxRecDepth 20000 in
theorem sp_covers {d : Nat} {M : mm_M} {Q : mm_Qt} {x : Int32} {n : Nat} {kd lv : Nat → Nat} {a b ru : Nat → Int32} {c : Bool} {us em fi nx kp : Nat → Int32} {rt : Nat} (hG : st_gX M n kd lv a b ru) (hW : st_wf n kd lv a b ru) (hC : st_CX M c us em fi nx kp rt) (hK : st_cok c n kd a b kp us em rt) (hd : 2 ≤ d) (k1 : ∀ j, j < n → x = nI j → us j = 1 → c = true → Q (some (.inl 1)) M) (k0 : ¬ st_cv c n us x → Q (some (.inl 0)) M) : mm_Ev pg ly d 23 [.inr 7, .inl x] M Q := by
  have hn : n ≤ 60 := hW.1
  have hsz : M 1 5 = nI n := hG.1
  cases c with
  | false =>
    obtain ⟨d, rfl⟩ : ∃ e, d = e + 1 := ⟨d - 1, by omega⟩
    refine mg_body yy_An_covers pg_An_covers (Nat.le_of_ble_eq_true rfl) ?_
    show mm_Rn _ _ _ _ _ _ 0 [(0, _), (1, _)] [] _
    refine mg_aload_n 1 rfl rfl rfl ?_
    refine mg_getI (v := 0) 4 rfl rfl (Or.inr rfl) hC.1 rfl ?_
    refine mg_if_eq 7 34 rfl rfl (by decide) (fun c_4 => ?_) (fun c_4 => ?_)
    · refine mg_iconst (v := 0) 35 rfl (by decide) rfl ?_
      refine mg_zret rfl rfl (by first | exact Or.inl rfl | exact Or.inr rfl) ?_
      exact k0 (fun h => absurd h.1 (by decide))
    · exact absurd rfl c_4
  | true =>
    obtain ⟨h7, hA, -⟩ := hC.2 rfl
    obtain ⟨hU, -⟩ := hK rfl
    obtain ⟨d, rfl⟩ : ∃ e, d = e + 1 := ⟨d - 1, by omega⟩
    refine mg_body yy_An_covers pg_An_covers (Nat.le_of_ble_eq_true rfl) ?_
    show mm_Rn _ _ _ _ _ _ 0 [(0, _), (1, _)] [] _
    refine mg_aload_n 1 rfl rfl rfl ?_
    refine mg_getI (v := 1) 4 rfl rfl (Or.inr rfl) hC.1 rfl ?_
    refine mg_if_eq 7 34 rfl rfl (by decide) (fun c_4 => absurd c_4 (by decide)) (fun c_4 => ?_)
    refine mg_iload_n 8 rfl rfl rfl ?_
    refine mg_aload_n 9 rfl rfl rfl ?_
    refine mg_getR 12 rfl rfl rfl rfl ?_
    refine mg_getI 15 rfl rfl (Or.inl rfl) rfl rfl ?_
    refine mg_callS2 18 rfl (by decide) (Nat.le_of_ble_eq_true rfl) pg_PG_within rfl ?_
    refine sp_within n (by omega) hsz (by omega) (fun j hj hx => ?_) (fun hno => ?_)
    · show mm_Rn _ _ _ _ _ _ 18 [(0, _), (1, _)] [_] _
      refine mg_if_eq 21 34 rfl rfl (by decide) (fun c_18 => absurd c_18 (by decide)) (fun c_18 => ?_)
      subst hx
      refine mg_aload_n 22 rfl rfl rfl ?_
      refine mg_getR 25 rfl rfl rfl rfl ?_
      refine mg_iload_n 26 rfl rfl rfl ?_
      refine mg_zald (v := us j) 27 rfl rfl (vp_in_nI (by omega : j < 60) (by omega)) (by rw [nI_clamp (by omega)]; exact (hA j (by omega)).1) rfl ?_
      refine mg_if_eq 30 34 rfl rfl (by decide) (fun c_27 => ?_) (fun c_27 => ?_)
      · refine mg_iconst (v := 0) 35 rfl (by decide) rfl ?_
        refine mg_zret rfl rfl (by first | exact Or.inl rfl | exact Or.inr rfl) ?_
        first | exact k1 j hj rfl ((hU.2.2.1 j (by omega)).resolve_left c_27).1 rfl | exact k0 (fun h => absurd ((st_cv_i hn hj h).symm.trans c_27) (by decide)) | exact k0 (fun h => hno (by obtain ⟨-, j, hj, e, -⟩ := h; exact ⟨j, hj, e⟩))
      · refine mg_iconst (v := 1) 31 rfl (by decide) rfl ?_
        refine mg_goto 35 rfl (by decide) ?_
        refine mg_zret rfl rfl (by first | exact Or.inl rfl | exact Or.inr rfl) ?_
        first | exact k1 j hj rfl ((hU.2.2.1 j (by omega)).resolve_left c_27).1 rfl | exact k0 (fun h => absurd ((st_cv_i hn hj h).symm.trans c_27) (by decide)) | exact k0 (fun h => hno (by obtain ⟨-, j, hj, e, -⟩ := h; exact ⟨j, hj, e⟩))
    · show mm_Rn _ _ _ _ _ _ 18 [(0, _), (1, _)] [_] _
      refine mg_if_eq 21 34 rfl rfl (by decide) (fun c_18 => ?_) (fun c_18 => absurd c_18 (by decide))
      refine mg_iconst (v := 0) 35 rfl (by decide) rfl ?_
      refine mg_zret rfl rfl (by first | exact Or.inl rfl | exact Or.inr rfl) ?_
      first | exact k1 j hj rfl ((hU.2.2.1 j (by omega)).resolve_left c_27).1 rfl | exact k0 (fun h => absurd ((st_cv_i hn hj h).symm.trans c_27) (by decide)) | exact k0 (fun h => hno (by obtain ⟨-, j, hj, e, -⟩ := h; exact ⟨j, hj, e⟩))
set_option maxHeartbeats 2000000 in
set_option maxRecDepth 20000 in
theorem sp_start {d : Nat} {M : mm_M} {Q : mm_Qt} {us em fi nx : Nat → Int32} {j : Nat} (hj : j < 60) (hA : ∀ i, i < 60 → M 8 i = us i ∧ M 10 i = em i ∧ M 11 i = fi i ∧ M 12 i = nx i) (hd : 1 ≤ d) (k : Q (some (.inl (st_sta em fi nx j))) M) : mm_Ev pg ly d 24 [.inr 7, .inl (nI j)] M Q := by
  obtain ⟨d, rfl⟩ : ∃ e, d = e + 1 := ⟨d - 1, by omega⟩
  refine mg_body yy_An_start pg_An_start (Nat.le_of_ble_eq_true rfl) ?_
  show mm_Rn _ _ _ _ _ _ 0 [(0, _), (1, _)] [] _
  refine mg_aload_n 1 rfl rfl rfl ?_
  refine mg_getR 4 rfl rfl rfl rfl ?_
  refine mg_iload_n 5 rfl rfl rfl ?_
  refine mg_zald (v := em j) 6 rfl rfl (vp_in_nI (by omega : j < 60) (by omega)) (by rw [nI_clamp (by omega)]; exact (hA j hj).2.1) rfl ?_
  refine mg_if_eq 9 25 rfl rfl (by decide) (fun c_6 => ?_) (fun c_6 => ?_)
  · refine mg_aload_n 26 rfl rfl rfl ?_
    refine mg_getR 29 rfl rfl rfl rfl ?_
    refine mg_iload_n 30 rfl rfl rfl ?_
    refine mg_iald (v := fi j) 31 rfl rfl (vp_in_nI (by omega : j < 60) (by omega)) (by rw [nI_clamp (by omega)]; exact (hA j hj).2.2.1) rfl ?_
    refine mg_iret rfl rfl ?_
    first | (rw [st_sta, if_neg c_6] at k; exact k) | (rw [st_sta, if_pos c_6] at k; exact k)
  · refine mg_aload_n 10 rfl rfl rfl ?_
    refine mg_getR 13 rfl rfl rfl rfl ?_
    refine mg_iload_n 14 rfl rfl rfl ?_
    refine mg_iald (v := fi j) 15 rfl rfl (vp_in_nI (by omega : j < 60) (by omega)) (by rw [nI_clamp (by omega)]; exact (hA j hj).2.2.1) rfl ?_
    refine mg_aload_n 16 rfl rfl rfl ?_
    refine mg_getR 19 rfl rfl rfl rfl ?_
    refine mg_iload_n 20 rfl rfl rfl ?_
    refine mg_iald (v := nx j) 21 rfl rfl (vp_in_nI (by omega : j < 60) (by omega)) (by rw [nI_clamp (by omega)]; exact (hA j hj).2.2.2) rfl ?_
    refine mg_ior 22 rfl rfl rfl ?_
    refine mg_goto 31 rfl (by decide) ?_
    refine mg_iret rfl rfl ?_
    first | (rw [st_sta, if_neg c_6] at k; exact k) | (rw [st_sta, if_pos c_6] at k; exact k)
set_option maxHeartbeats 2000000 in
set_option maxRecDepth 20000 in
theorem sp_clashOf {d : Nat} {M : mm_M} {Q : mm_Qt} {i : Nat} {n : Nat} {kd lv : Nat → Nat} {a b ru : Nat → Int32} {c : Bool} {us em fi nx kp : Nat → Int32} {rt : Nat} (hG : st_gX M n kd lv a b ru) (hW : st_wf n kd lv a b ru) (hC : st_CX M c us em fi nx kp rt) (hK : st_cok c n kd a b kp us em rt) (hi : i < n) (hc : c = true) (hu : us i = 1) (hd : 3 ≤ d) (k : Q (some (.inl (st_cla kd a b em fi nx i))) M) : mm_Ev pg ly d 25 [.inr 7, .inl (nI i)] M Q := by
  have hn : n ≤ 60 := hW.1
  have hsz : M 1 5 = nI n := hG.1
  obtain ⟨h7, hA, -⟩ := hC.2 hc
  obtain ⟨hU, -⟩ := hK hc
  obtain ⟨hoa, hob, -⟩ := hU.2.2.2 i hi hu
  obtain ⟨d, rfl⟩ : ∃ e, d = e + 1 := ⟨d - 1, by omega⟩
  refine mg_body yy_An_clashOf pg_An_clashOf (Nat.le_of_ble_eq_true rfl) ?_
  show mm_Rn _ _ _ _ _ _ 0 [(0, _), (1, _)] [] _
  refine mg_aload_n 1 rfl rfl rfl ?_
  refine mg_getR 4 rfl rfl rfl rfl ?_
  refine mg_getR 7 rfl rfl rfl rfl ?_
  refine mg_iload_n 8 rfl rfl rfl ?_
  refine mg_iald (v := a i) 9 rfl rfl (vp_in_nI (by omega : i < 60) (by omega)) (by rw [nI_clamp (by omega)]; exact (hG.2.1 i hi).2.1) rfl ?_
  refine mg_istore_n (L2 := [(0, _), (1, _), (2, _)]) 10 rfl (by decide) rfl rfl ?_
  refine mg_aload_n 11 rfl rfl rfl ?_
  refine mg_getR 14 rfl rfl rfl rfl ?_
  refine mg_getR 17 rfl rfl rfl rfl ?_
  refine mg_iload_n 18 rfl rfl rfl ?_
  refine mg_iald (v := nI (kd i)) 19 rfl rfl (vp_in_nI (by omega : i < 60) (by omega)) (by rw [nI_clamp (by omega)]; exact (hG.2.1 i hi).1) rfl ?_
  rcases st_k9 (hW.2.1 i hi).1 with hk | hk | hk | hk | hk | hk | hk | hk | hk
  · rw [hk]
    refine mg_tsOut 78 rfl (by decide) (by decide) ?_
    refine mg_iconst (v := 0) 79 rfl (by decide) rfl ?_
    refine mg_iret rfl rfl ?_
    rw [st_cla, if_neg (by omega), if_neg (by omega)] at k
    exact k
  · rw [hk]
    refine mg_tsOut 78 rfl (by decide) (by decide) ?_
    refine mg_iconst (v := 0) 79 rfl (by decide) rfl ?_
    refine mg_iret rfl rfl ?_
    rw [st_cla, if_neg (by omega), if_neg (by omega)] at k
    exact k
  · rw [hk]
    refine mg_tsOut 78 rfl (by decide) (by decide) ?_
    refine mg_iconst (v := 0) 79 rfl (by decide) rfl ?_
    refine mg_iret rfl rfl ?_
    rw [st_cla, if_neg (by omega), if_neg (by omega)] at k
    exact k
  · rw [hk]
    obtain ⟨ja, hja, ea, -⟩ := hoa (by rw [hk]; rfl)
    obtain ⟨jb, hjb, eb, -⟩ := hob (by rw [hk]; rfl)
    refine mg_tsIn (off := 25) 44 rfl (by decide) (by decide) (by decide +kernel) (by decide) ?_
    refine mg_aload_n 45 rfl rfl rfl ?_
    refine mg_iload_n 46 rfl rfl rfl ?_
    rw [ea]
    refine mg_callV1 49 rfl (Nat.le_of_ble_eq_true rfl) pg_An_start rfl rfl ?_
    refine sp_start (by omega) hA (by omega) ?_
    show mm_Rn _ _ _ _ _ _ 49 [(0, _), (1, _), (2, _)] [_] _
    refine mg_aload_n 50 rfl rfl rfl ?_
    refine mg_aload_n 51 rfl rfl rfl ?_
    refine mg_getR 54 rfl rfl rfl rfl ?_
    refine mg_getR 57 rfl rfl rfl rfl ?_
    refine mg_iload_n 58 rfl rfl rfl ?_
    refine mg_iald (v := b i) 59 rfl rfl (vp_in_nI (by omega : i < 60) (by omega)) (by rw [nI_clamp (by omega)]; exact (hG.2.1 i hi).2.2.1) rfl ?_
    rw [eb]
    refine mg_callV1 62 rfl (Nat.le_of_ble_eq_true rfl) pg_An_start rfl rfl ?_
    refine sp_start (by omega) hA (by omega) ?_
    show mm_Rn _ _ _ _ _ _ 62 [(0, _), (1, _), (2, _)] [_, _] _
    refine mg_iand 63 rfl rfl rfl ?_
    refine mg_iret rfl rfl ?_
    rw [st_cla, if_pos hk, ea, eb, nI_clamp (by omega), nI_clamp (by omega)] at k
    exact k
  · rw [hk]
    obtain ⟨ja, hja, ea, -⟩ := hoa (by rw [hk]; rfl)
    refine mg_tsIn (off := 45) 64 rfl (by decide) (by decide) (by decide +kernel) (by decide) ?_
    refine mg_aload_n 65 rfl rfl rfl ?_
    refine mg_getR 68 rfl rfl rfl rfl ?_
    refine mg_iload_n 69 rfl rfl rfl ?_
    refine mg_iald (v := fi (a i).toNatClampNeg) 70 rfl rfl (by rw [ea]; exact vp_in_nI (by omega : ja < 60) (by omega)) (by rw [ea, nI_clamp (by omega)]; exact (hA ja (by omega)).2.2.1) rfl ?_
    refine mg_aload_n 71 rfl rfl rfl ?_
    refine mg_getR 74 rfl rfl rfl rfl ?_
    refine mg_iload_n 75 rfl rfl rfl ?_
    refine mg_iald (v := nx i) 76 rfl rfl (vp_in_nI (by omega : i < 60) (by omega)) (by rw [nI_clamp (by omega)]; exact (hA i (by omega)).2.2.2) rfl ?_
    refine mg_iand 77 rfl rfl rfl ?_
    refine mg_iret rfl rfl ?_
    rw [st_cla, if_neg (by omega), if_pos (by omega)] at k
    exact k
  · rw [hk]
    obtain ⟨ja, hja, ea, -⟩ := hoa (by rw [hk]; rfl)
    refine mg_tsIn (off := 45) 64 rfl (by decide) (by decide) (by decide +kernel) (by decide) ?_
    refine mg_aload_n 65 rfl rfl rfl ?_
    refine mg_getR 68 rfl rfl rfl rfl ?_
    refine mg_iload_n 69 rfl rfl rfl ?_
    refine mg_iald (v := fi (a i).toNatClampNeg) 70 rfl rfl (by rw [ea]; exact vp_in_nI (by omega : ja < 60) (by omega)) (by rw [ea, nI_clamp (by omega)]; exact (hA ja (by omega)).2.2.1) rfl ?_
    refine mg_aload_n 71 rfl rfl rfl ?_
    refine mg_getR 74 rfl rfl rfl rfl ?_
    refine mg_iload_n 75 rfl rfl rfl ?_
    refine mg_iald (v := nx i) 76 rfl rfl (vp_in_nI (by omega : i < 60) (by omega)) (by rw [nI_clamp (by omega)]; exact (hA i (by omega)).2.2.2) rfl ?_
    refine mg_iand 77 rfl rfl rfl ?_
    refine mg_iret rfl rfl ?_
    rw [st_cla, if_neg (by omega), if_pos (by omega)] at k
    exact k
  · rw [hk]
    refine mg_tsOut 78 rfl (by decide) (by decide) ?_
    refine mg_iconst (v := 0) 79 rfl (by decide) rfl ?_
    refine mg_iret rfl rfl ?_
    rw [st_cla, if_neg (by omega), if_neg (by omega)] at k
    exact k
  · rw [hk]
    refine mg_tsOut 78 rfl (by decide) (by decide) ?_
    refine mg_iconst (v := 0) 79 rfl (by decide) rfl ?_
    refine mg_iret rfl rfl ?_
    rw [st_cla, if_neg (by omega), if_neg (by omega)] at k
    exact k
  · rw [hk]
    refine mg_tsOut 78 rfl (by decide) (by decide) ?_
    refine mg_iconst (v := 0) 79 rfl (by decide) rfl ?_
    refine mg_iret rfl rfl ?_
    rw [st_cla, if_neg (by omega), if_neg (by omega)] at k
    exact k
set_option maxHeartbeats 2000000 in
set_option maxRecDepth 20000 in
theorem lp_usedNodes {d : Nat} {M : mm_M} {Q : mm_Qt} {n : Nat} {kd lv : Nat → Nat} {a b ru : Nat → Int32} {c : Bool} {us em fi nx kp : Nat → Int32} {rt : Nat} (hG : st_gX M n kd lv a b ru) (hW : st_wf n kd lv a b ru) (hC : st_CX M c us em fi nx kp rt) (hK : st_cok c n kd a b kp us em rt) (hd : 4 ≤ d) (k : Q (some (.inl (nI (st_num (st_uq c us) n)))) M) : ∀ (i : Nat) (f x : Int32), i ≤ n → f = nI (st_num (st_uq c us) i) → x = nI i → mm_Rn pg ly d (mm_Ev pg ly d) yy_An_usedNodes Q 4 [(0, .inr 7), (1, .inl f), (2, .inl x)] [] M := by
  have hn : n ≤ 60 := hW.1
  have hsz : M 1 5 = nI n := hG.1
  intro i
  induction hm : n - i using Nat.strongRecOn generalizing i with
  | _ m ih =>
    intro f x hi ef ex
    subst ex
    refine mg_iload_n 5 rfl rfl rfl ?_
    refine mg_aload_n 6 rfl rfl rfl ?_
    refine mg_getR 9 rfl rfl rfl rfl ?_
    refine mg_getI (v := nI n) 12 rfl rfl (Or.inl rfl) hsz rfl ?_
    refine mg_ic_ge 15 32 rfl rfl (by decide) (fun c_12 => ?_) (fun c_12 => ?_)
    · refine mg_iload_n 33 rfl rfl rfl ?_
      refine mg_iret rfl rfl ?_
      have hin : i = n := by have := (nI_leI (by omega) (by omega)).mp c_12; omega
      rw [hin] at ef
      rw [ef]
      exact k
    · have hlt : i < n := Nat.not_le.mp (fun h => c_12 (nI_le h (by omega)))
      refine mg_aload_n 16 rfl rfl rfl ?_
      refine mg_iload_n 17 rfl rfl rfl ?_
      refine mg_callV1 20 rfl (Nat.le_of_ble_eq_true rfl) pg_An_covers rfl rfl ?_
      refine sp_covers hG hW hC hK (by omega) (fun j hj hx hu hc => ?_) (fun hno => ?_)
      · show mm_Rn _ _ _ _ _ _ 20 [(0, _), (1, _), (2, _)] [_] _
        refine mg_if_eq 23 26 rfl rfl (by decide) (fun c_20 => absurd c_20 (by decide)) (fun c_20 => ?_)
        refine mg_iinc (v := _ + 1) (L2 := [(0, _), (1, _), (2, _)]) 26 rfl rfl (by decide) rfl rfl rfl ?_
        refine mg_iinc (v := _ + 1) (L2 := [(0, _), (1, _), (2, _)]) 29 rfl rfl (by decide) rfl rfl rfl ?_
        refine mg_goto 4 rfl (by decide) ?_
        exact ih (n - (i + 1)) (by omega) (i + 1) rfl _ _ (by omega) (by rw [ef, st_num_y (by obtain rfl := st_nIe (by omega) (by omega) hx; simp [st_uq, hu, hc])]; exact nI_1 _) (nI_1 i)
      · show mm_Rn _ _ _ _ _ _ 20 [(0, _), (1, _), (2, _)] [_] _
        refine mg_if_eq 23 26 rfl rfl (by decide) (fun c_20 => ?_) (fun c_20 => absurd c_20 (by decide))
        refine mg_iinc (v := _ + 1) (L2 := [(0, _), (1, _), (2, _)]) 29 rfl rfl (by decide) rfl rfl rfl ?_
        refine mg_goto 4 rfl (by decide) ?_
        exact ih (n - (i + 1)) (by omega) (i + 1) rfl _ _ (by omega) (by rw [ef, st_num_n (by cases c with | false => rfl | true => simp only [st_uq, Bool.true_and]; exact decide_eq_false (fun h => hno ⟨rfl, i, by omega, rfl, h⟩))]) (nI_1 i)
set_option maxHeartbeats 2000000 in
set_option maxRecDepth 20000 in
theorem sp_usedNodes {d : Nat} {M : mm_M} {Q : mm_Qt} {n : Nat} {kd lv : Nat → Nat} {a b ru : Nat → Int32} {c : Bool} {us em fi nx kp : Nat → Int32} {rt : Nat} (hG : st_gX M n kd lv a b ru) (hW : st_wf n kd lv a b ru) (hC : st_CX M c us em fi nx kp rt) (hK : st_cok c n kd a b kp us em rt) (hd : 5 ≤ d) (k : Q (some (.inl (nI (st_num (st_uq c us) n)))) M) : mm_Ev pg ly d 27 [.inr 7] M Q := by
  obtain ⟨d, rfl⟩ : ∃ e, d = e + 1 := ⟨d - 1, by omega⟩
  refine mg_body yy_An_usedNodes pg_An_usedNodes (Nat.le_of_ble_eq_true rfl) ?_
  show mm_Rn _ _ _ _ _ _ 0 [(0, _)] [] _
  refine mg_iconst (v := 0) 1 rfl (by decide) rfl ?_
  refine mg_istore_n (L2 := [(0, _), (1, _)]) 2 rfl (by decide) rfl rfl ?_
  refine mg_iconst (v := 0) 3 rfl (by decide) rfl ?_
  refine mg_istore_n (L2 := [(0, _), (1, _), (2, _)]) 4 rfl (by decide) rfl rfl ?_
  exact lp_usedNodes hG hW hC hK (by omega) k 0 0 0 (by omega) rfl rfl
set_option maxHeartbeats 2000000 in
set_option maxRecDepth 20000 in
theorem lp_clashing {d : Nat} {M : mm_M} {Q : mm_Qt} {n : Nat} {kd lv : Nat → Nat} {a b ru : Nat → Int32} {c : Bool} {us em fi nx kp : Nat → Int32} {rt : Nat} (hG : st_gX M n kd lv a b ru) (hW : st_wf n kd lv a b ru) (hC : st_CX M c us em fi nx kp rt) (hK : st_cok c n kd a b kp us em rt) (hd : 4 ≤ d) (k : Q (some (.inl (nI (st_num (st_cq c kd a b us em fi nx) n)))) M) : ∀ (i : Nat) (f x : Int32), i ≤ n → f = nI (st_num (st_cq c kd a b us em fi nx) i) → x = nI i → mm_Rn pg ly d (mm_Ev pg ly d) yy_An_clashing Q 4 [(0, .inr 7), (1, .inl f), (2, .inl x)] [] M := by
  have hn : n ≤ 60 := hW.1
  have hsz : M 1 5 = nI n := hG.1
  intro i
  induction hm : n - i using Nat.strongRecOn generalizing i with
  | _ m ih =>
    intro f x hi ef ex
    subst ex
    refine mg_iload_n 5 rfl rfl rfl ?_
    refine mg_aload_n 6 rfl rfl rfl ?_
    refine mg_getR 9 rfl rfl rfl rfl ?_
    refine mg_getI (v := nI n) 12 rfl rfl (Or.inl rfl) hsz rfl ?_
    refine mg_ic_ge 15 40 rfl rfl (by decide) (fun c_12 => ?_) (fun c_12 => ?_)
    · refine mg_iload_n 41 rfl rfl rfl ?_
      refine mg_iret rfl rfl ?_
      have hin : i = n := by have := (nI_leI (by omega) (by omega)).mp c_12; omega
      rw [hin] at ef
      rw [ef]
      exact k
    · have hlt : i < n := Nat.not_le.mp (fun h => c_12 (nI_le h (by omega)))
      refine mg_aload_n 16 rfl rfl rfl ?_
      refine mg_iload_n 17 rfl rfl rfl ?_
      refine mg_callV1 20 rfl (Nat.le_of_ble_eq_true rfl) pg_An_covers rfl rfl ?_
      refine sp_covers hG hW hC hK (by omega) (fun j hj hx hu hc => ?_) (fun hno => ?_)
      · obtain rfl := st_nIe (by omega) (by omega) hx
        show mm_Rn _ _ _ _ _ _ 20 [(0, _), (1, _), (2, _)] [_] _
        refine mg_if_eq 23 34 rfl rfl (by decide) (fun c_20 => absurd c_20 (by decide)) (fun c_20 => ?_)
        refine mg_aload_n 24 rfl rfl rfl ?_
        refine mg_iload_n 25 rfl rfl rfl ?_
        refine mg_callV1 28 rfl (Nat.le_of_ble_eq_true rfl) pg_An_clashOf rfl rfl ?_
        refine sp_clashOf hG hW hC hK hj hc hu (by omega) ?_
        show mm_Rn _ _ _ _ _ _ 28 [(0, _), (1, _), (2, _)] [_] _
        refine mg_if_eq 31 34 rfl rfl (by decide) (fun c_28 => ?_) (fun c_28 => ?_)
        · refine mg_iinc (v := _ + 1) (L2 := [(0, _), (1, _), (2, _)]) 37 rfl rfl (by decide) rfl rfl rfl ?_
          refine mg_goto 4 rfl (by decide) ?_
          exact ih (n - (i + 1)) (by omega) (i + 1) rfl _ _ (by omega) (by rw [ef, st_num_n (by simp [st_cq, c_28])]) (nI_1 i)
        · refine mg_iinc (v := _ + 1) (L2 := [(0, _), (1, _), (2, _)]) 34 rfl rfl (by decide) rfl rfl rfl ?_
          refine mg_iinc (v := _ + 1) (L2 := [(0, _), (1, _), (2, _)]) 37 rfl rfl (by decide) rfl rfl rfl ?_
          refine mg_goto 4 rfl (by decide) ?_
          exact ih (n - (i + 1)) (by omega) (i + 1) rfl _ _ (by omega) (by rw [ef, st_num_y (by simp [st_cq, hu, hc, c_28])]; exact nI_1 _) (nI_1 i)
      · show mm_Rn _ _ _ _ _ _ 20 [(0, _), (1, _), (2, _)] [_] _
        refine mg_if_eq 23 34 rfl rfl (by decide) (fun c_20 => ?_) (fun c_20 => absurd c_20 (by decide))
        refine mg_iinc (v := _ + 1) (L2 := [(0, _), (1, _), (2, _)]) 37 rfl rfl (by decide) rfl rfl rfl ?_
        refine mg_goto 4 rfl (by decide) ?_
        exact ih (n - (i + 1)) (by omega) (i + 1) rfl _ _ (by omega) (by rw [ef, st_num_n (by cases c with | false => rfl | true => simp only [st_cq, Bool.true_and]; rw [decide_eq_false (fun h => hno ⟨rfl, i, by omega, rfl, h⟩)]; rfl)]) (nI_1 i)
set_option maxHeartbeats 2000000 in
set_option maxRecDepth 20000 in
theorem sp_clashing {d : Nat} {M : mm_M} {Q : mm_Qt} {n : Nat} {kd lv : Nat → Nat} {a b ru : Nat → Int32} {c : Bool} {us em fi nx kp : Nat → Int32} {rt : Nat} (hG : st_gX M n kd lv a b ru) (hW : st_wf n kd lv a b ru) (hC : st_CX M c us em fi nx kp rt) (hK : st_cok c n kd a b kp us em rt) (hd : 5 ≤ d) (k : Q (some (.inl (nI (st_num (st_cq c kd a b us em fi nx) n)))) M) : mm_Ev pg ly d 26 [.inr 7] M Q := by
  obtain ⟨d, rfl⟩ : ∃ e, d = e + 1 := ⟨d - 1, by omega⟩
  refine mg_body yy_An_clashing pg_An_clashing (Nat.le_of_ble_eq_true rfl) ?_
  show mm_Rn _ _ _ _ _ _ 0 [(0, _)] [] _
  refine mg_iconst (v := 0) 1 rfl (by decide) rfl ?_
  refine mg_istore_n (L2 := [(0, _), (1, _)]) 2 rfl (by decide) rfl rfl ?_
  refine mg_iconst (v := 0) 3 rfl (by decide) rfl ?_
  refine mg_istore_n (L2 := [(0, _), (1, _), (2, _)]) 4 rfl (by decide) rfl rfl ?_
  exact lp_clashing hG hW hC hK (by omega) k 0 0 0 (by omega) rfl rfl
set_option maxHeartbeats 2000000 in
set_option maxRecDepth 20000 in
theorem sp_PG_empty {d : Nat} {M : mm_M} {Q : mm_Qt} {x : Int32} {n : Nat} {kd lv : Nat → Nat} {a b ru : Nat → Int32} {c : Bool} {us em fi nx kp : Nat → Int32} {rt : Nat} (hG : st_gX M n kd lv a b ru) (hW : st_wf n kd lv a b ru) (hC : st_CX M c us em fi nx kp rt) (hK : st_cok c n kd a b kp us em rt) (hd : 3 ≤ d) (kR : ¬ st_cv c n us x → Q (some (.inl (-1))) M) (kN : ∀ j, j < n → x = nI j → us j = 1 → c = true → Q (some (.inl (em j))) M) : mm_Ev pg ly d 3 [.inr 0, .inl x] M Q := by
  have hn : n ≤ 60 := hW.1
  have hsz : M 1 5 = nI n := hG.1
  obtain ⟨d, rfl⟩ : ∃ e, d = e + 1 := ⟨d - 1, by omega⟩
  refine mg_body yy_PG_empty pg_PG_empty (Nat.le_of_ble_eq_true rfl) ?_
  show mm_Rn _ _ _ _ _ _ 0 [(0, _), (1, _)] [] _
  refine mg_aload_n 1 rfl rfl rfl ?_
  refine mg_getR 4 rfl rfl rfl rfl ?_
  refine mg_iload_n 5 rfl rfl rfl ?_
  refine mg_callV1 8 rfl (Nat.le_of_ble_eq_true rfl) pg_An_covers rfl rfl ?_
  refine sp_covers hG hW hC hK (by omega) (fun j hj hx hu hc => ?_) (fun hno => ?_)
  · subst hx
    show mm_Rn _ _ _ _ _ _ 8 [(0, _), (1, _)] [_] _
    refine mg_if_ne 11 13 rfl rfl (by decide) (fun c_8 => ?_) (fun c_8 => absurd c_8 (by decide))
    obtain ⟨h7, hA, -⟩ := hC.2 hc
    refine mg_aload_n 14 rfl rfl rfl ?_
    refine mg_getR 17 rfl rfl rfl rfl ?_
    refine mg_getR 20 rfl rfl rfl rfl ?_
    refine mg_iload_n 21 rfl rfl rfl ?_
    refine mg_zald (v := em j) 22 rfl rfl (vp_in_nI (by omega : j < 60) (by omega)) (by rw [nI_clamp (by omega)]; exact (hA j (by omega)).2.1) rfl ?_
    refine mg_if_eq 25 29 rfl rfl (by decide) (fun c_22 => ?_) (fun c_22 => ?_)
    · refine mg_iconst (v := 0) 30 rfl (by decide) rfl ?_
      refine mg_iret rfl rfl ?_
      have := kN j hj rfl hu hc
      first | (rw [c_22] at this; exact this) | (rw [((hK hc).2 j (by omega)).resolve_left c_22] at this; exact this)
    · refine mg_iconst (v := 1) 26 rfl (by decide) rfl ?_
      refine mg_goto 30 rfl (by decide) ?_
      refine mg_iret rfl rfl ?_
      have := kN j hj rfl hu hc
      first | (rw [c_22] at this; exact this) | (rw [((hK hc).2 j (by omega)).resolve_left c_22] at this; exact this)
  · show mm_Rn _ _ _ _ _ _ 8 [(0, _), (1, _)] [_] _
    refine mg_if_ne 11 13 rfl rfl (by decide) (fun c_8 => absurd c_8 (by decide)) (fun c_8 => ?_)
    refine mg_iconst (v := (-1)) 12 rfl (by decide) rfl ?_
    refine mg_iret rfl rfl ?_
    exact kR hno
set_option maxHeartbeats 2000000 in
set_option maxRecDepth 20000 in
theorem sp_PG_first {d : Nat} {M : mm_M} {Q : mm_Qt} {x : Int32} {n : Nat} {kd lv : Nat → Nat} {a b ru : Nat → Int32} {c : Bool} {us em fi nx kp : Nat → Int32} {rt : Nat} (hG : st_gX M n kd lv a b ru) (hW : st_wf n kd lv a b ru) (hC : st_CX M c us em fi nx kp rt) (hK : st_cok c n kd a b kp us em rt) (hd : 3 ≤ d) (kR : ¬ st_cv c n us x → Q (some (.inl (-1))) M) (kN : ∀ j, j < n → x = nI j → us j = 1 → c = true → Q (some (.inl (fi j))) M) : mm_Ev pg ly d 4 [.inr 0, .inl x] M Q := by
  have hn : n ≤ 60 := hW.1
  have hsz : M 1 5 = nI n := hG.1
  obtain ⟨d, rfl⟩ : ∃ e, d = e + 1 := ⟨d - 1, by omega⟩
  refine mg_body yy_PG_first pg_PG_first (Nat.le_of_ble_eq_true rfl) ?_
  show mm_Rn _ _ _ _ _ _ 0 [(0, _), (1, _)] [] _
  refine mg_aload_n 1 rfl rfl rfl ?_
  refine mg_getR 4 rfl rfl rfl rfl ?_
  refine mg_iload_n 5 rfl rfl rfl ?_
  refine mg_callV1 8 rfl (Nat.le_of_ble_eq_true rfl) pg_An_covers rfl rfl ?_
  refine sp_covers hG hW hC hK (by omega) (fun j hj hx hu hc => ?_) (fun hno => ?_)
  · subst hx
    show mm_Rn _ _ _ _ _ _ 8 [(0, _), (1, _)] [_] _
    refine mg_if_eq 11 23 rfl rfl (by decide) (fun c_8 => absurd c_8 (by decide)) (fun c_8 => ?_)
    obtain ⟨h7, hA, -⟩ := hC.2 hc
    refine mg_aload_n 12 rfl rfl rfl ?_
    refine mg_getR 15 rfl rfl rfl rfl ?_
    refine mg_getR 18 rfl rfl rfl rfl ?_
    refine mg_iload_n 19 rfl rfl rfl ?_
    refine mg_iald (v := fi j) 20 rfl rfl (vp_in_nI (by omega : j < 60) (by omega)) (by rw [nI_clamp (by omega)]; exact (hA j (by omega)).2.2.1) rfl ?_
    refine mg_goto 24 rfl (by decide) ?_
    refine mg_iret rfl rfl ?_
    first | exact kN j hj rfl hu hc | exact kR hno
  · show mm_Rn _ _ _ _ _ _ 8 [(0, _), (1, _)] [_] _
    refine mg_if_eq 11 23 rfl rfl (by decide) (fun c_8 => ?_) (fun c_8 => absurd c_8 (by decide))
    refine mg_iconst (v := (-1)) 24 rfl (by decide) rfl ?_
    refine mg_iret rfl rfl ?_
    first | exact kN j hj rfl hu hc | exact kR hno
set_option maxHeartbeats 2000000 in
set_option maxRecDepth 20000 in
theorem sp_PG_next {d : Nat} {M : mm_M} {Q : mm_Qt} {x : Int32} {n : Nat} {kd lv : Nat → Nat} {a b ru : Nat → Int32} {c : Bool} {us em fi nx kp : Nat → Int32} {rt : Nat} (hG : st_gX M n kd lv a b ru) (hW : st_wf n kd lv a b ru) (hC : st_CX M c us em fi nx kp rt) (hK : st_cok c n kd a b kp us em rt) (hd : 3 ≤ d) (kR : ¬ st_cv c n us x → Q (some (.inl (-1))) M) (kN : ∀ j, j < n → x = nI j → us j = 1 → c = true → Q (some (.inl (nx j))) M) : mm_Ev pg ly d 5 [.inr 0, .inl x] M Q := by
  have hn : n ≤ 60 := hW.1
  have hsz : M 1 5 = nI n := hG.1
  obtain ⟨d, rfl⟩ : ∃ e, d = e + 1 := ⟨d - 1, by omega⟩
  refine mg_body yy_PG_next pg_PG_next (Nat.le_of_ble_eq_true rfl) ?_
  show mm_Rn _ _ _ _ _ _ 0 [(0, _), (1, _)] [] _
  refine mg_aload_n 1 rfl rfl rfl ?_
  refine mg_getR 4 rfl rfl rfl rfl ?_
  refine mg_iload_n 5 rfl rfl rfl ?_
  refine mg_callV1 8 rfl (Nat.le_of_ble_eq_true rfl) pg_An_covers rfl rfl ?_
  refine sp_covers hG hW hC hK (by omega) (fun j hj hx hu hc => ?_) (fun hno => ?_)
  · subst hx
    show mm_Rn _ _ _ _ _ _ 8 [(0, _), (1, _)] [_] _
    refine mg_if_eq 11 23 rfl rfl (by decide) (fun c_8 => absurd c_8 (by decide)) (fun c_8 => ?_)
    obtain ⟨h7, hA, -⟩ := hC.2 hc
    refine mg_aload_n 12 rfl rfl rfl ?_
    refine mg_getR 15 rfl rfl rfl rfl ?_
    refine mg_getR 18 rfl rfl rfl rfl ?_
    refine mg_iload_n 19 rfl rfl rfl ?_
    refine mg_iald (v := nx j) 20 rfl rfl (vp_in_nI (by omega : j < 60) (by omega)) (by rw [nI_clamp (by omega)]; exact (hA j (by omega)).2.2.2) rfl ?_
    refine mg_goto 24 rfl (by decide) ?_
    refine mg_iret rfl rfl ?_
    first | exact kN j hj rfl hu hc | exact kR hno
  · show mm_Rn _ _ _ _ _ _ 8 [(0, _), (1, _)] [_] _
    refine mg_if_eq 11 23 rfl rfl (by decide) (fun c_8 => ?_) (fun c_8 => absurd c_8 (by decide))
    refine mg_iconst (v := (-1)) 24 rfl (by decide) rfl ?_
    refine mg_iret rfl rfl ?_
    first | exact kN j hj rfl hu hc | exact kR hno
set_option maxHeartbeats 2000000 in
set_option maxRecDepth 20000 in
theorem sp_PG_clash {d : Nat} {M : mm_M} {Q : mm_Qt} {x : Int32} {n : Nat} {kd lv : Nat → Nat} {a b ru : Nat → Int32} {c : Bool} {us em fi nx kp : Nat → Int32} {rt : Nat} (hG : st_gX M n kd lv a b ru) (hW : st_wf n kd lv a b ru) (hC : st_CX M c us em fi nx kp rt) (hK : st_cok c n kd a b kp us em rt) (hd : 4 ≤ d) (kR : ¬ st_cv c n us x → Q (some (.inl (-1))) M) (kN : ∀ j, j < n → x = nI j → us j = 1 → c = true → Q (some (.inl (st_cla kd a b em fi nx j))) M) : mm_Ev pg ly d 6 [.inr 0, .inl x] M Q := by
  obtain ⟨d, rfl⟩ : ∃ e, d = e + 1 := ⟨d - 1, by omega⟩
  refine mg_body yy_PG_clash pg_PG_clash (Nat.le_of_ble_eq_true rfl) ?_
  show mm_Rn _ _ _ _ _ _ 0 [(0, _), (1, _)] [] _
  refine mg_aload_n 1 rfl rfl rfl ?_
  refine mg_getR 4 rfl rfl rfl rfl ?_
  refine mg_iload_n 5 rfl rfl rfl ?_
  refine mg_callV1 8 rfl (Nat.le_of_ble_eq_true rfl) pg_An_covers rfl rfl ?_
  refine sp_covers hG hW hC hK (by omega) (fun j hj hx hu hc => ?_) (fun hno => ?_)
  · subst hx
    show mm_Rn _ _ _ _ _ _ 8 [(0, _), (1, _)] [_] _
    refine mg_if_eq 11 22 rfl rfl (by decide) (fun c_8 => absurd c_8 (by decide)) (fun c_8 => ?_)
    refine mg_aload_n 12 rfl rfl rfl ?_
    refine mg_getR 15 rfl rfl rfl rfl ?_
    refine mg_iload_n 16 rfl rfl rfl ?_
    refine mg_callV1 19 rfl (Nat.le_of_ble_eq_true rfl) pg_An_clashOf rfl rfl ?_
    refine sp_clashOf hG hW hC hK hj hc hu (by omega) ?_
    show mm_Rn _ _ _ _ _ _ 19 [(0, _), (1, _)] [_] _
    refine mg_goto 23 rfl (by decide) ?_
    refine mg_iret rfl rfl ?_
    first | exact kN j hj rfl hu hc | exact kR hno
  · show mm_Rn _ _ _ _ _ _ 8 [(0, _), (1, _)] [_] _
    refine mg_if_eq 11 22 rfl rfl (by decide) (fun c_8 => ?_) (fun c_8 => absurd c_8 (by decide))
    refine mg_iconst (v := (-1)) 23 rfl (by decide) rfl ?_
    refine mg_iret rfl rfl ?_
    first | exact kN j hj rfl hu hc | exact kR hno
theorem st_6 (x : Int32) : x = nI 0 ∨ x = nI 1 ∨ x = nI 2 ∨ x = nI 3 ∨ x = nI 4 ∨ x = nI 5 ∨ (¬ st_in 6 x ∧ (x.toInt < 0 ∨ 5 < x.toInt)) := by
  by_cases h : st_in 6 x
  · obtain ⟨j, hj, rfl⟩ := h
    rcases (by omega : j = 0 ∨ j = 1 ∨ j = 2 ∨ j = 3 ∨ j = 4 ∨ j = 5) with rfl | rfl | rfl | rfl | rfl | rfl <;> simp
  · refine Or.inr (Or.inr (Or.inr (Or.inr (Or.inr (Or.inr ⟨h, ?_⟩)))))
    by_cases h0 : x.toInt < 0
    · exact Or.inl h0
    · refine Or.inr ?_
      by_cases h5 : 5 < x.toInt
      · exact h5
      · exact absurd ⟨x.toInt.toNat, by omega, Int32.toInt_inj.mp (by rw [nI_toInt (by omega)]; omega)⟩ h
set_option maxHeartbeats 2000000 in
set_option maxRecDepth 20000 in
theorem sp_PG_count {d : Nat} {M : mm_M} {Q : mm_Qt} {x : Int32} {n : Nat} {kd lv : Nat → Nat} {a b ru : Nat → Int32} {c : Bool} {us em fi nx kp : Nat → Int32} {rt : Nat} (hG : st_gX M n kd lv a b ru) (hW : st_wf n kd lv a b ru) (hC : st_CX M c us em fi nx kp rt) (hK : st_cok c n kd a b kp us em rt) (hd : 6 ≤ d) (kR : ¬ st_in 6 x → Q (some (.inl (-1))) M) (k0 : x = nI 0 → Q (some (.inl (nI n))) M) (k1 : x = nI 1 → Q (some (.inl (M 14 1))) M) (k2 : x = nI 2 → Q (some (.inl (M 16 4))) M) (k3 : x = nI 3 → Q (some (.inl (M 20 6))) M) (k4 : x = nI 4 → Q (some (.inl (nI (st_num (st_cq c kd a b us em fi nx) n)))) M) (k5 : x = nI 5 → Q (some (.inl (nI (st_num (st_uq c us) n)))) M) : mm_Ev pg ly d 13 [.inr 0, .inl x] M Q := by
  have hn : n ≤ 60 := hW.1
  have hsz : M 1 5 = nI n := hG.1
  obtain ⟨d, rfl⟩ : ∃ e, d = e + 1 := ⟨d - 1, by omega⟩
  refine mg_body yy_PG_count pg_PG_count (Nat.le_of_ble_eq_true rfl) ?_
  show mm_Rn _ _ _ _ _ _ 0 [(0, _), (1, _)] [] _
  rcases st_6 x with rfl | rfl | rfl | rfl | rfl | rfl | ⟨hno, hout⟩
  · refine mg_iload_n 1 rfl rfl rfl ?_
    refine mg_tsIn (off := 39) 40 rfl (by decide) (by decide) (by decide +kernel) (by decide) ?_
    refine mg_aload_n 41 rfl rfl rfl ?_
    refine mg_getR 44 rfl rfl rfl rfl ?_
    refine mg_getI (v := nI n) 47 rfl rfl (Or.inl rfl) hsz rfl ?_
    refine mg_iret rfl rfl ?_
    exact k0 rfl
  · refine mg_iload_n 1 rfl rfl rfl ?_
    refine mg_tsIn (off := 47) 48 rfl (by decide) (by decide) (by decide +kernel) (by decide) ?_
    refine mg_aload_n 49 rfl rfl rfl ?_
    refine mg_getR 52 rfl rfl rfl rfl ?_
    refine mg_getI 55 rfl rfl (Or.inl rfl) rfl rfl ?_
    refine mg_iret rfl rfl ?_
    exact k1 rfl
  · refine mg_iload_n 1 rfl rfl rfl ?_
    refine mg_tsIn (off := 55) 56 rfl (by decide) (by decide) (by decide +kernel) (by decide) ?_
    refine mg_aload_n 57 rfl rfl rfl ?_
    refine mg_getR 60 rfl rfl rfl rfl ?_
    refine mg_getI 63 rfl rfl (Or.inl rfl) rfl rfl ?_
    refine mg_iret rfl rfl ?_
    exact k2 rfl
  · refine mg_iload_n 1 rfl rfl rfl ?_
    refine mg_tsIn (off := 63) 64 rfl (by decide) (by decide) (by decide +kernel) (by decide) ?_
    refine mg_aload_n 65 rfl rfl rfl ?_
    refine mg_getR 68 rfl rfl rfl rfl ?_
    refine mg_getI 71 rfl rfl (Or.inl rfl) rfl rfl ?_
    refine mg_iret rfl rfl ?_
    exact k3 rfl
  · refine mg_iload_n 1 rfl rfl rfl ?_
    refine mg_tsIn (off := 71) 72 rfl (by decide) (by decide) (by decide +kernel) (by decide) ?_
    refine mg_aload_n 73 rfl rfl rfl ?_
    refine mg_getR 76 rfl rfl rfl rfl ?_
    refine mg_callV0 79 rfl (Nat.le_of_ble_eq_true rfl) pg_An_clashing rfl rfl ?_
    refine sp_clashing hG hW hC hK (by omega) ?_
    show mm_Rn _ _ _ _ _ _ 79 [(0, _), (1, _)] [_] _
    refine mg_iret rfl rfl ?_
    exact k4 rfl
  · refine mg_iload_n 1 rfl rfl rfl ?_
    refine mg_tsIn (off := 79) 80 rfl (by decide) (by decide) (by decide +kernel) (by decide) ?_
    refine mg_aload_n 81 rfl rfl rfl ?_
    refine mg_getR 84 rfl rfl rfl rfl ?_
    refine mg_callV0 87 rfl (Nat.le_of_ble_eq_true rfl) pg_An_usedNodes rfl rfl ?_
    refine sp_usedNodes hG hW hC hK (by omega) ?_
    show mm_Rn _ _ _ _ _ _ 87 [(0, _), (1, _)] [_] _
    refine mg_iret rfl rfl ?_
    exact k5 rfl
  · refine mg_iload_n 1 rfl rfl rfl ?_
    refine mg_tsOut 88 rfl hout (by decide) ?_
    refine mg_iconst (v := (-1)) 89 rfl (by decide) rfl ?_
    refine mg_iret rfl rfl ?_
    exact kR hno
set_option maxHeartbeats 2000000 in
set_option maxRecDepth 20000 in
theorem sm_unknown {d : Nat} {M : mm_M} {Q : mm_Qt} {x : Int32} {n : Nat} {kd lv : Nat → Nat} {a b ru : Nat → Int32} {c : Bool} {us em fi nx kp : Nat → Int32} {rt : Nat} (hG : st_gM M n kd lv a b ru) (hW : st_wf n kd lv a b ru) (hC : st_CM M c n us em fi nx kp rt) (hK : st_cok c n kd a b kp us em rt) (hd : 2 ≤ d) (k0 : ∀ j, j < n → x = nI j → us j = 1 → c = true → Q (some (.inl 0)) M) (k1 : ¬ st_cv c n us x → Q (some (.inl 1)) M) : mm_Ev pg ly d 83 [.inr 21, .inl x] M Q := by
  have hn : n ≤ 60 := hW.1
  have hsz : M 21 0 = nI n := hG.1
  cases c with
  | false =>
    have hr := hC.1 rfl
    obtain ⟨d, rfl⟩ : ∃ e, d = e + 1 := ⟨d - 1, by omega⟩
    refine mg_body yy_Mo_unknown pg_Mo_unknown (Nat.le_of_ble_eq_true rfl) ?_
    show mm_Rn _ _ _ _ _ _ 0 [(0, _), (1, _)] [] _
    refine mg_aload_n 1 rfl rfl rfl ?_
    refine mg_getI (v := -1) 4 rfl rfl (Or.inl rfl) hr rfl ?_
    refine mg_if_lt 7 24 rfl rfl (by decide) (fun c_4 => ?_) (fun c_4 => absurd c_4 (by decide))
    refine mg_iconst (v := 1) 25 rfl (by decide) rfl ?_
    refine mg_goto 29 rfl (by decide) ?_
    refine mg_zret rfl rfl (by first | exact Or.inl rfl | exact Or.inr rfl) ?_
    exact k1 (fun h => absurd h.1 (by decide))
  | true =>
    obtain ⟨h7, hA, -⟩ := hC.2.2 rfl
    obtain ⟨hU, -⟩ := hK rfl
    have hrt := hU.1
    obtain ⟨d, rfl⟩ : ∃ e, d = e + 1 := ⟨d - 1, by omega⟩
    refine mg_body yy_Mo_unknown pg_Mo_unknown (Nat.le_of_ble_eq_true rfl) ?_
    show mm_Rn _ _ _ _ _ _ 0 [(0, _), (1, _)] [] _
    refine mg_aload_n 1 rfl rfl rfl ?_
    refine mg_getI (v := nI rt) 4 rfl rfl (Or.inl rfl) h7 rfl ?_
    refine mg_if_lt 7 24 rfl rfl (by decide) (fun c_4 => absurd c_4 (nI_pos (by omega))) (fun c_4 => ?_)
    refine mg_aload_n 8 rfl rfl rfl ?_
    refine mg_iload_n 9 rfl rfl rfl ?_
    refine mg_callV1 12 rfl (Nat.le_of_ble_eq_true rfl) pg_Mo_no rfl rfl ?_
    refine sm_no hsz hn (by omega) (fun hno => ?_) (fun j hj hx => ?_)
    · show mm_Rn _ _ _ _ _ _ 12 [(0, _), (1, _)] [_] _
      refine mg_if_ne 15 24 rfl rfl (by decide) (fun c_12 => ?_) (fun c_12 => absurd c_12 (by decide))
      refine mg_iconst (v := 1) 25 rfl (by decide) rfl ?_
      refine mg_goto 29 rfl (by decide) ?_
      refine mg_zret rfl rfl (by first | exact Or.inl rfl | exact Or.inr rfl) ?_
      first | exact k0 j hj rfl ((hU.2.2.1 j (by omega)).resolve_left c_21).1 rfl | exact k1 (fun h => absurd ((st_cv_i hn hj h).symm.trans c_21) (by decide)) | exact k1 (fun h => hno (by obtain ⟨-, j, hj, e, -⟩ := h; exact ⟨j, hj, e⟩))
    · show mm_Rn _ _ _ _ _ _ 12 [(0, _), (1, _)] [_] _
      refine mg_if_ne 15 24 rfl rfl (by decide) (fun c_12 => absurd c_12 (by decide)) (fun c_12 => ?_)
      subst hx
      refine mg_aload_n 16 rfl rfl rfl ?_
      refine mg_getR 19 rfl rfl rfl rfl ?_
      refine mg_iload_n 20 rfl rfl rfl ?_
      refine mg_zald (v := us j) 21 rfl rfl (vp_in_nI (by omega : j < 60) (by omega)) (by rw [nI_clamp (by omega)]; exact (hA j (by omega)).1) rfl ?_
      refine mg_if_ne 24 28 rfl rfl (by decide) (fun c_21 => ?_) (fun c_21 => ?_)
      · refine mg_iconst (v := 0) 29 rfl (by decide) rfl ?_
        refine mg_zret rfl rfl (by first | exact Or.inl rfl | exact Or.inr rfl) ?_
        first | exact k0 j hj rfl ((hU.2.2.1 j (by omega)).resolve_left c_21).1 rfl | exact k1 (fun h => absurd ((st_cv_i hn hj h).symm.trans c_21) (by decide)) | exact k1 (fun h => hno (by obtain ⟨-, j, hj, e, -⟩ := h; exact ⟨j, hj, e⟩))
      · refine mg_iconst (v := 1) 25 rfl (by decide) rfl ?_
        refine mg_goto 29 rfl (by decide) ?_
        refine mg_zret rfl rfl (by first | exact Or.inl rfl | exact Or.inr rfl) ?_
        first | exact k0 j hj rfl ((hU.2.2.1 j (by omega)).resolve_left c_21).1 rfl | exact k1 (fun h => absurd ((st_cv_i hn hj h).symm.trans c_21) (by decide)) | exact k1 (fun h => hno (by obtain ⟨-, j, hj, e, -⟩ := h; exact ⟨j, hj, e⟩))
set_option maxHeartbeats 2000000 in
set_option maxRecDepth 20000 in
theorem sm_start {d : Nat} {M : mm_M} {Q : mm_Qt} {us em fi nx : Nat → Int32} {j : Nat} (hj : j < 60) (hA : ∀ i, i < 60 → M 28 i = us i ∧ M 29 i = em i ∧ M 30 i = fi i ∧ M 31 i = nx i) (hd : 1 ≤ d) (k : Q (some (.inl (st_sta em fi nx j))) M) : mm_Ev pg ly d 84 [.inr 21, .inl (nI j)] M Q := by
  obtain ⟨d, rfl⟩ : ∃ e, d = e + 1 := ⟨d - 1, by omega⟩
  refine mg_body yy_Mo_start pg_Mo_start (Nat.le_of_ble_eq_true rfl) ?_
  show mm_Rn _ _ _ _ _ _ 0 [(0, _), (1, _)] [] _
  refine mg_aload_n 1 rfl rfl rfl ?_
  refine mg_getR 4 rfl rfl rfl rfl ?_
  refine mg_iload_n 5 rfl rfl rfl ?_
  refine mg_iald (v := fi j) 6 rfl rfl (vp_in_nI (by omega : j < 60) (by omega)) (by rw [nI_clamp (by omega)]; exact (hA j hj).2.2.1) rfl ?_
  refine mg_aload_n 7 rfl rfl rfl ?_
  refine mg_getR 10 rfl rfl rfl rfl ?_
  refine mg_iload_n 11 rfl rfl rfl ?_
  refine mg_zald (v := em j) 12 rfl rfl (vp_in_nI (by omega : j < 60) (by omega)) (by rw [nI_clamp (by omega)]; exact (hA j hj).2.1) rfl ?_
  refine mg_if_eq 15 24 rfl rfl (by decide) (fun c_12 => ?_) (fun c_12 => ?_)
  · refine mg_iconst (v := 0) 25 rfl (by decide) rfl ?_
    refine mg_ior 26 rfl rfl rfl ?_
    refine mg_iret rfl rfl ?_
    first | (rw [st_sta, if_neg c_12] at k; exact k) | (rw [st_sta, if_pos c_12] at k; rw [Int32.or_zero]; exact k)
  · refine mg_aload_n 16 rfl rfl rfl ?_
    refine mg_getR 19 rfl rfl rfl rfl ?_
    refine mg_iload_n 20 rfl rfl rfl ?_
    refine mg_iald (v := nx j) 21 rfl rfl (vp_in_nI (by omega : j < 60) (by omega)) (by rw [nI_clamp (by omega)]; exact (hA j hj).2.2.2) rfl ?_
    refine mg_goto 25 rfl (by decide) ?_
    refine mg_ior 26 rfl rfl rfl ?_
    refine mg_iret rfl rfl ?_
    first | (rw [st_sta, if_neg c_12] at k; exact k) | (rw [st_sta, if_pos c_12] at k; rw [Int32.or_zero]; exact k)
set_option maxHeartbeats 2000000 in
set_option maxRecDepth 20000 in
theorem sm_empty {d : Nat} {M : mm_M} {Q : mm_Qt} {x : Int32} {n : Nat} {kd lv : Nat → Nat} {a b ru : Nat → Int32} {c : Bool} {us em fi nx kp : Nat → Int32} {rt : Nat} (hG : st_gM M n kd lv a b ru) (hW : st_wf n kd lv a b ru) (hC : st_CM M c n us em fi nx kp rt) (hK : st_cok c n kd a b kp us em rt) (hd : 3 ≤ d) (kR : ¬ st_cv c n us x → Q (some (.inl (-1))) M) (kN : ∀ j, j < n → x = nI j → us j = 1 → c = true → Q (some (.inl (em j))) M) : mm_Ev pg ly d 85 [.inr 21, .inl x] M Q := by
  have hn : n ≤ 60 := hW.1
  have hsz : M 21 0 = nI n := hG.1
  obtain ⟨d, rfl⟩ : ∃ e, d = e + 1 := ⟨d - 1, by omega⟩
  refine mg_body yy_Mo_empty pg_Mo_empty (Nat.le_of_ble_eq_true rfl) ?_
  show mm_Rn _ _ _ _ _ _ 0 [(0, _), (1, _)] [] _
  refine mg_aload_n 1 rfl rfl rfl ?_
  refine mg_iload_n 2 rfl rfl rfl ?_
  refine mg_callV1 5 rfl (Nat.le_of_ble_eq_true rfl) pg_Mo_unknown rfl rfl ?_
  refine sm_unknown hG hW hC hK (by omega) (fun j hj hx hu hc => ?_) (fun hno => ?_)
  · subst hx
    show mm_Rn _ _ _ _ _ _ 5 [(0, _), (1, _)] [_] _
    refine mg_if_eq 8 12 rfl rfl (by decide) (fun c_5 => ?_) (fun c_5 => absurd c_5 (by decide))
    obtain ⟨h7, hA, -⟩ := hC.2.2 hc
    refine mg_aload_n 13 rfl rfl rfl ?_
    refine mg_getR 16 rfl rfl rfl rfl ?_
    refine mg_iload_n 17 rfl rfl rfl ?_
    refine mg_zald (v := em j) 18 rfl rfl (vp_in_nI (by omega : j < 60) (by omega)) (by rw [nI_clamp (by omega)]; exact (hA j (by omega)).2.1) rfl ?_
    refine mg_if_eq 21 25 rfl rfl (by decide) (fun c_18 => ?_) (fun c_18 => ?_)
    · refine mg_iconst (v := 0) 26 rfl (by decide) rfl ?_
      refine mg_iret rfl rfl ?_
      first | exact kR hno | (have := kN j hj rfl hu hc; rw [c_18] at this; exact this) | (have := kN j hj rfl hu hc; rw [((hK hc).2 j (by omega)).resolve_left c_18] at this; exact this)
    · refine mg_iconst (v := 1) 22 rfl (by decide) rfl ?_
      refine mg_goto 26 rfl (by decide) ?_
      refine mg_iret rfl rfl ?_
      first | exact kR hno | (have := kN j hj rfl hu hc; rw [c_18] at this; exact this) | (have := kN j hj rfl hu hc; rw [((hK hc).2 j (by omega)).resolve_left c_18] at this; exact this)
  · show mm_Rn _ _ _ _ _ _ 5 [(0, _), (1, _)] [_] _
    refine mg_if_eq 8 12 rfl rfl (by decide) (fun c_5 => absurd c_5 (by decide)) (fun c_5 => ?_)
    refine mg_iconst (v := (-1)) 9 rfl (by decide) rfl ?_
    refine mg_goto 26 rfl (by decide) ?_
    refine mg_iret rfl rfl ?_
    first | exact kR hno | (have := kN j hj rfl hu hc; rw [c_18] at this; exact this) | (have := kN j hj rfl hu hc; rw [((hK hc).2 j (by omega)).resolve_left c_18] at this; exact this)
set_option maxHeartbeats 2000000 in
set_option maxRecDepth 20000 in
theorem sm_first {d : Nat} {M : mm_M} {Q : mm_Qt} {x : Int32} {n : Nat} {kd lv : Nat → Nat} {a b ru : Nat → Int32} {c : Bool} {us em fi nx kp : Nat → Int32} {rt : Nat} (hG : st_gM M n kd lv a b ru) (hW : st_wf n kd lv a b ru) (hC : st_CM M c n us em fi nx kp rt) (hK : st_cok c n kd a b kp us em rt) (hd : 3 ≤ d) (kR : ¬ st_cv c n us x → Q (some (.inl (-1))) M) (kN : ∀ j, j < n → x = nI j → us j = 1 → c = true → Q (some (.inl (fi j))) M) : mm_Ev pg ly d 86 [.inr 21, .inl x] M Q := by
  have hn : n ≤ 60 := hW.1
  have hsz : M 21 0 = nI n := hG.1
  obtain ⟨d, rfl⟩ : ∃ e, d = e + 1 := ⟨d - 1, by omega⟩
  refine mg_body yy_Mo_first pg_Mo_first (Nat.le_of_ble_eq_true rfl) ?_
  show mm_Rn _ _ _ _ _ _ 0 [(0, _), (1, _)] [] _
  refine mg_aload_n 1 rfl rfl rfl ?_
  refine mg_iload_n 2 rfl rfl rfl ?_
  refine mg_callV1 5 rfl (Nat.le_of_ble_eq_true rfl) pg_Mo_unknown rfl rfl ?_
  refine sm_unknown hG hW hC hK (by omega) (fun j hj hx hu hc => ?_) (fun hno => ?_)
  · subst hx
    show mm_Rn _ _ _ _ _ _ 5 [(0, _), (1, _)] [_] _
    refine mg_if_eq 8 12 rfl rfl (by decide) (fun c_5 => ?_) (fun c_5 => absurd c_5 (by decide))
    obtain ⟨h7, hA, -⟩ := hC.2.2 hc
    refine mg_aload_n 13 rfl rfl rfl ?_
    refine mg_getR 16 rfl rfl rfl rfl ?_
    refine mg_iload_n 17 rfl rfl rfl ?_
    refine mg_iald (v := fi j) 18 rfl rfl (vp_in_nI (by omega : j < 60) (by omega)) (by rw [nI_clamp (by omega)]; exact (hA j (by omega)).2.2.1) rfl ?_
    refine mg_iret rfl rfl ?_
    first | exact kN j hj rfl hu hc | exact kR hno
  · show mm_Rn _ _ _ _ _ _ 5 [(0, _), (1, _)] [_] _
    refine mg_if_eq 8 12 rfl rfl (by decide) (fun c_5 => absurd c_5 (by decide)) (fun c_5 => ?_)
    refine mg_iconst (v := (-1)) 9 rfl (by decide) rfl ?_
    refine mg_goto 18 rfl (by decide) ?_
    refine mg_iret rfl rfl ?_
    first | exact kN j hj rfl hu hc | exact kR hno
set_option maxHeartbeats 2000000 in
set_option maxRecDepth 20000 in
theorem sm_next {d : Nat} {M : mm_M} {Q : mm_Qt} {x : Int32} {n : Nat} {kd lv : Nat → Nat} {a b ru : Nat → Int32} {c : Bool} {us em fi nx kp : Nat → Int32} {rt : Nat} (hG : st_gM M n kd lv a b ru) (hW : st_wf n kd lv a b ru) (hC : st_CM M c n us em fi nx kp rt) (hK : st_cok c n kd a b kp us em rt) (hd : 3 ≤ d) (kR : ¬ st_cv c n us x → Q (some (.inl (-1))) M) (kN : ∀ j, j < n → x = nI j → us j = 1 → c = true → Q (some (.inl (nx j))) M) : mm_Ev pg ly d 87 [.inr 21, .inl x] M Q := by
  have hn : n ≤ 60 := hW.1
  have hsz : M 21 0 = nI n := hG.1
  obtain ⟨d, rfl⟩ : ∃ e, d = e + 1 := ⟨d - 1, by omega⟩
  refine mg_body yy_Mo_next pg_Mo_next (Nat.le_of_ble_eq_true rfl) ?_
  show mm_Rn _ _ _ _ _ _ 0 [(0, _), (1, _)] [] _
  refine mg_aload_n 1 rfl rfl rfl ?_
  refine mg_iload_n 2 rfl rfl rfl ?_
  refine mg_callV1 5 rfl (Nat.le_of_ble_eq_true rfl) pg_Mo_unknown rfl rfl ?_
  refine sm_unknown hG hW hC hK (by omega) (fun j hj hx hu hc => ?_) (fun hno => ?_)
  · subst hx
    show mm_Rn _ _ _ _ _ _ 5 [(0, _), (1, _)] [_] _
    refine mg_if_eq 8 12 rfl rfl (by decide) (fun c_5 => ?_) (fun c_5 => absurd c_5 (by decide))
    obtain ⟨h7, hA, -⟩ := hC.2.2 hc
    refine mg_aload_n 13 rfl rfl rfl ?_
    refine mg_getR 16 rfl rfl rfl rfl ?_
    refine mg_iload_n 17 rfl rfl rfl ?_
    refine mg_iald (v := nx j) 18 rfl rfl (vp_in_nI (by omega : j < 60) (by omega)) (by rw [nI_clamp (by omega)]; exact (hA j (by omega)).2.2.2) rfl ?_
    refine mg_iret rfl rfl ?_
    first | exact kN j hj rfl hu hc | exact kR hno
  · show mm_Rn _ _ _ _ _ _ 5 [(0, _), (1, _)] [_] _
    refine mg_if_eq 8 12 rfl rfl (by decide) (fun c_5 => absurd c_5 (by decide)) (fun c_5 => ?_)
    refine mg_iconst (v := (-1)) 9 rfl (by decide) rfl ?_
    refine mg_goto 18 rfl (by decide) ?_
    refine mg_iret rfl rfl ?_
    first | exact kN j hj rfl hu hc | exact kR hno
set_option maxHeartbeats 2000000 in
set_option maxRecDepth 20000 in
theorem sm_clash {d : Nat} {M : mm_M} {Q : mm_Qt} {x : Int32} {n : Nat} {kd lv : Nat → Nat} {a b ru : Nat → Int32} {c : Bool} {us em fi nx kp : Nat → Int32} {rt : Nat} (hG : st_gM M n kd lv a b ru) (hW : st_wf n kd lv a b ru) (hC : st_CM M c n us em fi nx kp rt) (hK : st_cok c n kd a b kp us em rt) (hd : 3 ≤ d) (kR : ¬ st_cv c n us x → Q (some (.inl (-1))) M) (kN : ∀ j, j < n → x = nI j → us j = 1 → c = true → Q (some (.inl (st_cla kd a b em fi nx j))) M) : mm_Ev pg ly d 88 [.inr 21, .inl x] M Q := by
  have hn : n ≤ 60 := hW.1
  have hsz : M 21 0 = nI n := hG.1
  obtain ⟨d, rfl⟩ : ∃ e, d = e + 1 := ⟨d - 1, by omega⟩
  refine mg_body yy_Mo_clash pg_Mo_clash (Nat.le_of_ble_eq_true rfl) ?_
  show mm_Rn _ _ _ _ _ _ 0 [(0, _), (1, _)] [] _
  refine mg_aload_n 1 rfl rfl rfl ?_
  refine mg_iload_n 2 rfl rfl rfl ?_
  refine mg_callV1 5 rfl (Nat.le_of_ble_eq_true rfl) pg_Mo_unknown rfl rfl ?_
  refine sm_unknown hG hW hC hK (by omega) (fun j hj hx hu hc => ?_) (fun hno => ?_)
  · subst hx
    show mm_Rn _ _ _ _ _ _ 5 [(0, _), (1, _)] [_] _
    refine mg_if_eq 8 10 rfl rfl (by decide) (fun c_5 => ?_) (fun c_5 => absurd c_5 (by decide))
    obtain ⟨h7, hA, -⟩ := hC.2.2 hc
    obtain ⟨hU, -⟩ := hK hc
    obtain ⟨hoa, hob, -⟩ := hU.2.2.2 j hj hu
    refine mg_aload_n 11 rfl rfl rfl ?_
    refine mg_getR 14 rfl rfl rfl rfl ?_
    refine mg_iload_n 15 rfl rfl rfl ?_
    refine mg_iald (v := nI (kd j)) 16 rfl rfl (vp_in_nI (by omega : j < 60) (by omega)) (by rw [nI_clamp (by omega)]; exact (hG.2.1 j hj).1) rfl ?_
    rcases st_k9 (hW.2.1 j hj).1 with hk | hk | hk | hk | hk | hk | hk | hk | hk
    · rw [hk]
      refine mg_istore_n (L2 := [(0, _), (1, _), (2, _)]) 17 rfl (by decide) rfl rfl ?_
      refine mg_iload_n 18 rfl rfl rfl ?_
      refine mg_iconst (v := 3) 19 rfl (by decide) rfl ?_
      refine mg_ic_ne 22 46 rfl rfl (by decide) (fun c_19 => ?_) (fun c_19 => absurd c_19 (by decide))
      refine mg_iload_n 47 rfl rfl rfl ?_
      refine mg_iconst (v := 4) 48 rfl (by decide) rfl ?_
      refine mg_ic_eq 51 56 rfl rfl (by decide) (fun c_48 => absurd c_48 (by decide)) (fun c_48 => ?_)
      refine mg_iload_n 52 rfl rfl rfl ?_
      refine mg_iconst (v := 5) 53 rfl (by decide) rfl ?_
      refine mg_ic_ne 56 77 rfl rfl (by decide) (fun c_53 => ?_) (fun c_53 => absurd c_53 (by decide))
      refine mg_iconst (v := 0) 78 rfl (by decide) rfl ?_
      refine mg_iret rfl rfl ?_
      have k := kN j hj rfl hu hc
      first | (rw [st_cla, if_pos hk, ea, eb, nI_clamp (by omega), nI_clamp (by omega)] at k; exact k) | (rw [st_cla, if_neg (by omega), if_pos (by omega)] at k; exact k) | (rw [st_cla, if_neg (by omega), if_neg (by omega)] at k; exact k)
    · rw [hk]
      refine mg_istore_n (L2 := [(0, _), (1, _), (2, _)]) 17 rfl (by decide) rfl rfl ?_
      refine mg_iload_n 18 rfl rfl rfl ?_
      refine mg_iconst (v := 3) 19 rfl (by decide) rfl ?_
      refine mg_ic_ne 22 46 rfl rfl (by decide) (fun c_19 => ?_) (fun c_19 => absurd c_19 (by decide))
      refine mg_iload_n 47 rfl rfl rfl ?_
      refine mg_iconst (v := 4) 48 rfl (by decide) rfl ?_
      refine mg_ic_eq 51 56 rfl rfl (by decide) (fun c_48 => absurd c_48 (by decide)) (fun c_48 => ?_)
      refine mg_iload_n 52 rfl rfl rfl ?_
      refine mg_iconst (v := 5) 53 rfl (by decide) rfl ?_
      refine mg_ic_ne 56 77 rfl rfl (by decide) (fun c_53 => ?_) (fun c_53 => absurd c_53 (by decide))
      refine mg_iconst (v := 0) 78 rfl (by decide) rfl ?_
      refine mg_iret rfl rfl ?_
      have k := kN j hj rfl hu hc
      first | (rw [st_cla, if_pos hk, ea, eb, nI_clamp (by omega), nI_clamp (by omega)] at k; exact k) | (rw [st_cla, if_neg (by omega), if_pos (by omega)] at k; exact k) | (rw [st_cla, if_neg (by omega), if_neg (by omega)] at k; exact k)
    · rw [hk]
      refine mg_istore_n (L2 := [(0, _), (1, _), (2, _)]) 17 rfl (by decide) rfl rfl ?_
      refine mg_iload_n 18 rfl rfl rfl ?_
      refine mg_iconst (v := 3) 19 rfl (by decide) rfl ?_
      refine mg_ic_ne 22 46 rfl rfl (by decide) (fun c_19 => ?_) (fun c_19 => absurd c_19 (by decide))
      refine mg_iload_n 47 rfl rfl rfl ?_
      refine mg_iconst (v := 4) 48 rfl (by decide) rfl ?_
      refine mg_ic_eq 51 56 rfl rfl (by decide) (fun c_48 => absurd c_48 (by decide)) (fun c_48 => ?_)
      refine mg_iload_n 52 rfl rfl rfl ?_
      refine mg_iconst (v := 5) 53 rfl (by decide) rfl ?_
      refine mg_ic_ne 56 77 rfl rfl (by decide) (fun c_53 => ?_) (fun c_53 => absurd c_53 (by decide))
      refine mg_iconst (v := 0) 78 rfl (by decide) rfl ?_
      refine mg_iret rfl rfl ?_
      have k := kN j hj rfl hu hc
      first | (rw [st_cla, if_pos hk, ea, eb, nI_clamp (by omega), nI_clamp (by omega)] at k; exact k) | (rw [st_cla, if_neg (by omega), if_pos (by omega)] at k; exact k) | (rw [st_cla, if_neg (by omega), if_neg (by omega)] at k; exact k)
    · rw [hk]
      obtain ⟨ja, hja, ea, -⟩ := hoa (by rw [hk]; rfl)
      obtain ⟨jb, hjb, eb, -⟩ := hob (by rw [hk]; rfl)
      refine mg_istore_n (L2 := [(0, _), (1, _), (2, _)]) 17 rfl (by decide) rfl rfl ?_
      refine mg_iload_n 18 rfl rfl rfl ?_
      refine mg_iconst (v := 3) 19 rfl (by decide) rfl ?_
      refine mg_ic_ne 22 46 rfl rfl (by decide) (fun c_19 => absurd c_19 (by decide)) (fun c_19 => ?_)
      refine mg_aload_n 23 rfl rfl rfl ?_
      refine mg_aload_n 24 rfl rfl rfl ?_
      refine mg_getR 27 rfl rfl rfl rfl ?_
      refine mg_iload_n 28 rfl rfl rfl ?_
      refine mg_iald (v := a j) 29 rfl rfl (vp_in_nI (by omega : j < 60) (by omega)) (by rw [nI_clamp (by omega)]; exact (hG.2.1 j hj).2.1) rfl ?_
      rw [ea]
      refine mg_callV1 32 rfl (Nat.le_of_ble_eq_true rfl) pg_Mo_start rfl rfl ?_
      refine sm_start (by omega) hA (by omega) ?_
      show mm_Rn _ _ _ _ _ _ 32 [(0, _), (1, _), (2, _)] [_] _
      refine mg_aload_n 33 rfl rfl rfl ?_
      refine mg_aload_n 34 rfl rfl rfl ?_
      refine mg_getR 37 rfl rfl rfl rfl ?_
      refine mg_iload_n 38 rfl rfl rfl ?_
      refine mg_iald (v := b j) 39 rfl rfl (vp_in_nI (by omega : j < 60) (by omega)) (by rw [nI_clamp (by omega)]; exact (hG.2.1 j hj).2.2.1) rfl ?_
      rw [eb]
      refine mg_callV1 42 rfl (Nat.le_of_ble_eq_true rfl) pg_Mo_start rfl rfl ?_
      refine sm_start (by omega) hA (by omega) ?_
      show mm_Rn _ _ _ _ _ _ 42 [(0, _), (1, _), (2, _)] [_, _] _
      refine mg_iand 43 rfl rfl rfl ?_
      refine mg_goto 78 rfl (by decide) ?_
      refine mg_iret rfl rfl ?_
      have k := kN j hj rfl hu hc
      first | (rw [st_cla, if_pos hk, ea, eb, nI_clamp (by omega), nI_clamp (by omega)] at k; exact k) | (rw [st_cla, if_neg (by omega), if_pos (by omega)] at k; exact k) | (rw [st_cla, if_neg (by omega), if_neg (by omega)] at k; exact k)
    · rw [hk]
      obtain ⟨ja, hja, ea, -⟩ := hoa (by rw [hk]; rfl)
      refine mg_istore_n (L2 := [(0, _), (1, _), (2, _)]) 17 rfl (by decide) rfl rfl ?_
      refine mg_iload_n 18 rfl rfl rfl ?_
      refine mg_iconst (v := 3) 19 rfl (by decide) rfl ?_
      refine mg_ic_ne 22 46 rfl rfl (by decide) (fun c_19 => ?_) (fun c_19 => absurd c_19 (by decide))
      refine mg_iload_n 47 rfl rfl rfl ?_
      refine mg_iconst (v := 4) 48 rfl (by decide) rfl ?_
      refine mg_ic_eq 51 56 rfl rfl (by decide) (fun c_48 => ?_) (fun c_48 => absurd c_48 (by decide))
      refine mg_aload_n 57 rfl rfl rfl ?_
      refine mg_getR 60 rfl rfl rfl rfl ?_
      refine mg_aload_n 61 rfl rfl rfl ?_
      refine mg_getR 64 rfl rfl rfl rfl ?_
      refine mg_iload_n 65 rfl rfl rfl ?_
      refine mg_iald (v := a j) 66 rfl rfl (vp_in_nI (by omega : j < 60) (by omega)) (by rw [nI_clamp (by omega)]; exact (hG.2.1 j hj).2.1) rfl ?_
      refine mg_iald (v := fi (a j).toNatClampNeg) 67 rfl rfl (by rw [ea]; exact vp_in_nI (by omega : ja < 60) (by omega)) (by rw [ea, nI_clamp (by omega)]; exact (hA ja (by omega)).2.2.1) rfl ?_
      refine mg_aload_n 68 rfl rfl rfl ?_
      refine mg_getR 71 rfl rfl rfl rfl ?_
      refine mg_iload_n 72 rfl rfl rfl ?_
      refine mg_iald (v := nx j) 73 rfl rfl (vp_in_nI (by omega : j < 60) (by omega)) (by rw [nI_clamp (by omega)]; exact (hA j (by omega)).2.2.2) rfl ?_
      refine mg_iand 74 rfl rfl rfl ?_
      refine mg_goto 78 rfl (by decide) ?_
      refine mg_iret rfl rfl ?_
      have k := kN j hj rfl hu hc
      first | (rw [st_cla, if_pos hk, ea, eb, nI_clamp (by omega), nI_clamp (by omega)] at k; exact k) | (rw [st_cla, if_neg (by omega), if_pos (by omega)] at k; exact k) | (rw [st_cla, if_neg (by omega), if_neg (by omega)] at k; exact k)
    · rw [hk]
      obtain ⟨ja, hja, ea, -⟩ := hoa (by rw [hk]; rfl)
      refine mg_istore_n (L2 := [(0, _), (1, _), (2, _)]) 17 rfl (by decide) rfl rfl ?_
      refine mg_iload_n 18 rfl rfl rfl ?_
      refine mg_iconst (v := 3) 19 rfl (by decide) rfl ?_
      refine mg_ic_ne 22 46 rfl rfl (by decide) (fun c_19 => ?_) (fun c_19 => absurd c_19 (by decide))
      refine mg_iload_n 47 rfl rfl rfl ?_
      refine mg_iconst (v := 4) 48 rfl (by decide) rfl ?_
      refine mg_ic_eq 51 56 rfl rfl (by decide) (fun c_48 => absurd c_48 (by decide)) (fun c_48 => ?_)
      refine mg_iload_n 52 rfl rfl rfl ?_
      refine mg_iconst (v := 5) 53 rfl (by decide) rfl ?_
      refine mg_ic_ne 56 77 rfl rfl (by decide) (fun c_53 => absurd c_53 (by decide)) (fun c_53 => ?_)
      refine mg_aload_n 57 rfl rfl rfl ?_
      refine mg_getR 60 rfl rfl rfl rfl ?_
      refine mg_aload_n 61 rfl rfl rfl ?_
      refine mg_getR 64 rfl rfl rfl rfl ?_
      refine mg_iload_n 65 rfl rfl rfl ?_
      refine mg_iald (v := a j) 66 rfl rfl (vp_in_nI (by omega : j < 60) (by omega)) (by rw [nI_clamp (by omega)]; exact (hG.2.1 j hj).2.1) rfl ?_
      refine mg_iald (v := fi (a j).toNatClampNeg) 67 rfl rfl (by rw [ea]; exact vp_in_nI (by omega : ja < 60) (by omega)) (by rw [ea, nI_clamp (by omega)]; exact (hA ja (by omega)).2.2.1) rfl ?_
      refine mg_aload_n 68 rfl rfl rfl ?_
      refine mg_getR 71 rfl rfl rfl rfl ?_
      refine mg_iload_n 72 rfl rfl rfl ?_
      refine mg_iald (v := nx j) 73 rfl rfl (vp_in_nI (by omega : j < 60) (by omega)) (by rw [nI_clamp (by omega)]; exact (hA j (by omega)).2.2.2) rfl ?_
      refine mg_iand 74 rfl rfl rfl ?_
      refine mg_goto 78 rfl (by decide) ?_
      refine mg_iret rfl rfl ?_
      have k := kN j hj rfl hu hc
      first | (rw [st_cla, if_pos hk, ea, eb, nI_clamp (by omega), nI_clamp (by omega)] at k; exact k) | (rw [st_cla, if_neg (by omega), if_pos (by omega)] at k; exact k) | (rw [st_cla, if_neg (by omega), if_neg (by omega)] at k; exact k)
    · rw [hk]
      refine mg_istore_n (L2 := [(0, _), (1, _), (2, _)]) 17 rfl (by decide) rfl rfl ?_
      refine mg_iload_n 18 rfl rfl rfl ?_
      refine mg_iconst (v := 3) 19 rfl (by decide) rfl ?_
      refine mg_ic_ne 22 46 rfl rfl (by decide) (fun c_19 => ?_) (fun c_19 => absurd c_19 (by decide))
      refine mg_iload_n 47 rfl rfl rfl ?_
      refine mg_iconst (v := 4) 48 rfl (by decide) rfl ?_
      refine mg_ic_eq 51 56 rfl rfl (by decide) (fun c_48 => absurd c_48 (by decide)) (fun c_48 => ?_)
      refine mg_iload_n 52 rfl rfl rfl ?_
      refine mg_iconst (v := 5) 53 rfl (by decide) rfl ?_
      refine mg_ic_ne 56 77 rfl rfl (by decide) (fun c_53 => ?_) (fun c_53 => absurd c_53 (by decide))
      refine mg_iconst (v := 0) 78 rfl (by decide) rfl ?_
      refine mg_iret rfl rfl ?_
      have k := kN j hj rfl hu hc
      first | (rw [st_cla, if_pos hk, ea, eb, nI_clamp (by omega), nI_clamp (by omega)] at k; exact k) | (rw [st_cla, if_neg (by omega), if_pos (by omega)] at k; exact k) | (rw [st_cla, if_neg (by omega), if_neg (by omega)] at k; exact k)
    · rw [hk]
      refine mg_istore_n (L2 := [(0, _), (1, _), (2, _)]) 17 rfl (by decide) rfl rfl ?_
      refine mg_iload_n 18 rfl rfl rfl ?_
      refine mg_iconst (v := 3) 19 rfl (by decide) rfl ?_
      refine mg_ic_ne 22 46 rfl rfl (by decide) (fun c_19 => ?_) (fun c_19 => absurd c_19 (by decide))
      refine mg_iload_n 47 rfl rfl rfl ?_
      refine mg_iconst (v := 4) 48 rfl (by decide) rfl ?_
      refine mg_ic_eq 51 56 rfl rfl (by decide) (fun c_48 => absurd c_48 (by decide)) (fun c_48 => ?_)
      refine mg_iload_n 52 rfl rfl rfl ?_
      refine mg_iconst (v := 5) 53 rfl (by decide) rfl ?_
      refine mg_ic_ne 56 77 rfl rfl (by decide) (fun c_53 => ?_) (fun c_53 => absurd c_53 (by decide))
      refine mg_iconst (v := 0) 78 rfl (by decide) rfl ?_
      refine mg_iret rfl rfl ?_
      have k := kN j hj rfl hu hc
      first | (rw [st_cla, if_pos hk, ea, eb, nI_clamp (by omega), nI_clamp (by omega)] at k; exact k) | (rw [st_cla, if_neg (by omega), if_pos (by omega)] at k; exact k) | (rw [st_cla, if_neg (by omega), if_neg (by omega)] at k; exact k)
    · rw [hk]
      refine mg_istore_n (L2 := [(0, _), (1, _), (2, _)]) 17 rfl (by decide) rfl rfl ?_
      refine mg_iload_n 18 rfl rfl rfl ?_
      refine mg_iconst (v := 3) 19 rfl (by decide) rfl ?_
      refine mg_ic_ne 22 46 rfl rfl (by decide) (fun c_19 => ?_) (fun c_19 => absurd c_19 (by decide))
      refine mg_iload_n 47 rfl rfl rfl ?_
      refine mg_iconst (v := 4) 48 rfl (by decide) rfl ?_
      refine mg_ic_eq 51 56 rfl rfl (by decide) (fun c_48 => absurd c_48 (by decide)) (fun c_48 => ?_)
      refine mg_iload_n 52 rfl rfl rfl ?_
      refine mg_iconst (v := 5) 53 rfl (by decide) rfl ?_
      refine mg_ic_ne 56 77 rfl rfl (by decide) (fun c_53 => ?_) (fun c_53 => absurd c_53 (by decide))
      refine mg_iconst (v := 0) 78 rfl (by decide) rfl ?_
      refine mg_iret rfl rfl ?_
      have k := kN j hj rfl hu hc
      first | (rw [st_cla, if_pos hk, ea, eb, nI_clamp (by omega), nI_clamp (by omega)] at k; exact k) | (rw [st_cla, if_neg (by omega), if_pos (by omega)] at k; exact k) | (rw [st_cla, if_neg (by omega), if_neg (by omega)] at k; exact k)
  · show mm_Rn _ _ _ _ _ _ 5 [(0, _), (1, _)] [_] _
    refine mg_if_eq 8 10 rfl rfl (by decide) (fun c_5 => absurd c_5 (by decide)) (fun c_5 => ?_)
    refine mg_iconst (v := (-1)) 9 rfl (by decide) rfl ?_
    refine mg_iret rfl rfl ?_
    exact kR hno
set_option maxHeartbeats 2000000 in
set_option maxRecDepth 20000 in
theorem tl_count {d : Nat} {M : mm_M} {Q : mm_Qt} {y f x : Int32} {n : Nat} {kd lv : Nat → Nat} {a b ru : Nat → Int32} {c : Bool} {us em fi nx kp : Nat → Int32} {rt : Nat} (hG : st_gM M n kd lv a b ru) (hW : st_wf n kd lv a b ru) (hC : st_CM M c n us em fi nx kp rt) (hK : st_cok c n kd a b kp us em rt) (kR : ¬ st_in 6 y → Q (some (.inl (-1))) M) (k0 : y = nI 0 → Q (some (.inl (nI n))) M) (k1 : y = nI 1 → Q (some (.inl (M 21 1))) M) (k2 : y = nI 2 → Q (some (.inl (M 21 14))) M) (k3 : y = nI 3 → Q (some (.inl (M 21 11))) M) (k4 : y = nI 4 → Q (some (.inl (nI (st_num (st_cq c kd a b us em fi nx) n)))) M) (k5 : y = nI 5 → Q (some (.inl (nI (st_num (st_uq c us) n)))) M) (ef : f = nI (st_num (st_cq c kd a b us em fi nx) n)) : mm_Rn pg ly d (mm_Ev pg ly d) yy_Mo_count Q 45 [(0, .inr 21), (1, .inl y), (2, .inl f), (3, .inl x)] [] M := by
  have hn : n ≤ 60 := hW.1
  have hsz : M 21 0 = nI n := hG.1
  subst ef
  rcases st_6 y with rfl | rfl | rfl | rfl | rfl | rfl | ⟨hno, hout⟩
  · refine mg_iload_n 46 rfl rfl rfl ?_
    refine mg_if_ne 49 56 rfl rfl (by decide) (fun c_46 => absurd c_46 (by decide)) (fun c_46 => ?_)
    refine mg_aload_n 50 rfl rfl rfl ?_
    refine mg_getI (v := nI n) 53 rfl rfl (Or.inl rfl) hsz rfl ?_
    refine mg_goto 114 rfl (by decide) ?_
    refine mg_iret rfl rfl ?_
    exact k0 rfl
  · refine mg_iload_n 46 rfl rfl rfl ?_
    refine mg_if_ne 49 56 rfl rfl (by decide) (fun c_46 => ?_) (fun c_46 => absurd c_46 (by decide))
    refine mg_iload_n 57 rfl rfl rfl ?_
    refine mg_iconst (v := 1) 58 rfl (by decide) rfl ?_
    refine mg_ic_ne 61 68 rfl rfl (by decide) (fun c_58 => absurd c_58 (by decide)) (fun c_58 => ?_)
    refine mg_aload_n 62 rfl rfl rfl ?_
    refine mg_getI 65 rfl rfl (Or.inl rfl) rfl rfl ?_
    refine mg_goto 114 rfl (by decide) ?_
    refine mg_iret rfl rfl ?_
    exact k1 rfl
  · refine mg_iload_n 46 rfl rfl rfl ?_
    refine mg_if_ne 49 56 rfl rfl (by decide) (fun c_46 => ?_) (fun c_46 => absurd c_46 (by decide))
    refine mg_iload_n 57 rfl rfl rfl ?_
    refine mg_iconst (v := 1) 58 rfl (by decide) rfl ?_
    refine mg_ic_ne 61 68 rfl rfl (by decide) (fun c_58 => ?_) (fun c_58 => absurd c_58 (by decide))
    refine mg_iload_n 69 rfl rfl rfl ?_
    refine mg_iconst (v := 2) 70 rfl (by decide) rfl ?_
    refine mg_ic_ne 73 80 rfl rfl (by decide) (fun c_70 => absurd c_70 (by decide)) (fun c_70 => ?_)
    refine mg_aload_n 74 rfl rfl rfl ?_
    refine mg_getI 77 rfl rfl (Or.inl rfl) rfl rfl ?_
    refine mg_goto 114 rfl (by decide) ?_
    refine mg_iret rfl rfl ?_
    exact k2 rfl
  · refine mg_iload_n 46 rfl rfl rfl ?_
    refine mg_if_ne 49 56 rfl rfl (by decide) (fun c_46 => ?_) (fun c_46 => absurd c_46 (by decide))
    refine mg_iload_n 57 rfl rfl rfl ?_
    refine mg_iconst (v := 1) 58 rfl (by decide) rfl ?_
    refine mg_ic_ne 61 68 rfl rfl (by decide) (fun c_58 => ?_) (fun c_58 => absurd c_58 (by decide))
    refine mg_iload_n 69 rfl rfl rfl ?_
    refine mg_iconst (v := 2) 70 rfl (by decide) rfl ?_
    refine mg_ic_ne 73 80 rfl rfl (by decide) (fun c_70 => ?_) (fun c_70 => absurd c_70 (by decide))
    refine mg_iload_n 81 rfl rfl rfl ?_
    refine mg_iconst (v := 3) 82 rfl (by decide) rfl ?_
    refine mg_ic_ne 85 92 rfl rfl (by decide) (fun c_82 => absurd c_82 (by decide)) (fun c_82 => ?_)
    refine mg_aload_n 86 rfl rfl rfl ?_
    refine mg_getI 89 rfl rfl (Or.inl rfl) rfl rfl ?_
    refine mg_goto 114 rfl (by decide) ?_
    refine mg_iret rfl rfl ?_
    exact k3 rfl
  · refine mg_iload_n 46 rfl rfl rfl ?_
    refine mg_if_ne 49 56 rfl rfl (by decide) (fun c_46 => ?_) (fun c_46 => absurd c_46 (by decide))
    refine mg_iload_n 57 rfl rfl rfl ?_
    refine mg_iconst (v := 1) 58 rfl (by decide) rfl ?_
    refine mg_ic_ne 61 68 rfl rfl (by decide) (fun c_58 => ?_) (fun c_58 => absurd c_58 (by decide))
    refine mg_iload_n 69 rfl rfl rfl ?_
    refine mg_iconst (v := 2) 70 rfl (by decide) rfl ?_
    refine mg_ic_ne 73 80 rfl rfl (by decide) (fun c_70 => ?_) (fun c_70 => absurd c_70 (by decide))
    refine mg_iload_n 81 rfl rfl rfl ?_
    refine mg_iconst (v := 3) 82 rfl (by decide) rfl ?_
    refine mg_ic_ne 85 92 rfl rfl (by decide) (fun c_82 => ?_) (fun c_82 => absurd c_82 (by decide))
    refine mg_iload_n 93 rfl rfl rfl ?_
    refine mg_iconst (v := 4) 94 rfl (by decide) rfl ?_
    refine mg_ic_ne 97 101 rfl rfl (by decide) (fun c_94 => absurd c_94 (by decide)) (fun c_94 => ?_)
    refine mg_iload_n 98 rfl rfl rfl ?_
    refine mg_goto 114 rfl (by decide) ?_
    refine mg_iret rfl rfl ?_
    exact k4 rfl
  · refine mg_iload_n 46 rfl rfl rfl ?_
    refine mg_if_ne 49 56 rfl rfl (by decide) (fun c_46 => ?_) (fun c_46 => absurd c_46 (by decide))
    refine mg_iload_n 57 rfl rfl rfl ?_
    refine mg_iconst (v := 1) 58 rfl (by decide) rfl ?_
    refine mg_ic_ne 61 68 rfl rfl (by decide) (fun c_58 => ?_) (fun c_58 => absurd c_58 (by decide))
    refine mg_iload_n 69 rfl rfl rfl ?_
    refine mg_iconst (v := 2) 70 rfl (by decide) rfl ?_
    refine mg_ic_ne 73 80 rfl rfl (by decide) (fun c_70 => ?_) (fun c_70 => absurd c_70 (by decide))
    refine mg_iload_n 81 rfl rfl rfl ?_
    refine mg_iconst (v := 3) 82 rfl (by decide) rfl ?_
    refine mg_ic_ne 85 92 rfl rfl (by decide) (fun c_82 => ?_) (fun c_82 => absurd c_82 (by decide))
    refine mg_iload_n 93 rfl rfl rfl ?_
    refine mg_iconst (v := 4) 94 rfl (by decide) rfl ?_
    refine mg_ic_ne 97 101 rfl rfl (by decide) (fun c_94 => ?_) (fun c_94 => absurd c_94 (by decide))
    refine mg_iload_n 102 rfl rfl rfl ?_
    refine mg_iconst (v := 5) 103 rfl (by decide) rfl ?_
    refine mg_ic_ne 106 113 rfl rfl (by decide) (fun c_103 => absurd c_103 (by decide)) (fun c_103 => ?_)
    refine mg_aload_n 107 rfl rfl rfl ?_
    refine mg_getI (v := nI (st_num (st_uq c us) n)) 110 rfl rfl (Or.inl rfl) hC.2.1 rfl ?_
    refine mg_goto 114 rfl (by decide) ?_
    refine mg_iret rfl rfl ?_
    exact k5 rfl
  · refine mg_iload_n 46 rfl rfl rfl ?_
    refine mg_if_ne 49 56 rfl rfl (by decide) (fun c_46 => ?_) (fun c_46 => absurd ⟨0, by omega, c_46⟩ hno)
    refine mg_iload_n 57 rfl rfl rfl ?_
    refine mg_iconst (v := 1) 58 rfl (by decide) rfl ?_
    refine mg_ic_ne 61 68 rfl rfl (by decide) (fun c_58 => ?_) (fun c_58 => absurd ⟨1, by omega, c_58⟩ hno)
    refine mg_iload_n 69 rfl rfl rfl ?_
    refine mg_iconst (v := 2) 70 rfl (by decide) rfl ?_
    refine mg_ic_ne 73 80 rfl rfl (by decide) (fun c_70 => ?_) (fun c_70 => absurd ⟨2, by omega, c_70⟩ hno)
    refine mg_iload_n 81 rfl rfl rfl ?_
    refine mg_iconst (v := 3) 82 rfl (by decide) rfl ?_
    refine mg_ic_ne 85 92 rfl rfl (by decide) (fun c_82 => ?_) (fun c_82 => absurd ⟨3, by omega, c_82⟩ hno)
    refine mg_iload_n 93 rfl rfl rfl ?_
    refine mg_iconst (v := 4) 94 rfl (by decide) rfl ?_
    refine mg_ic_ne 97 101 rfl rfl (by decide) (fun c_94 => ?_) (fun c_94 => absurd ⟨4, by omega, c_94⟩ hno)
    refine mg_iload_n 102 rfl rfl rfl ?_
    refine mg_iconst (v := 5) 103 rfl (by decide) rfl ?_
    refine mg_ic_ne 106 113 rfl rfl (by decide) (fun c_103 => ?_) (fun c_103 => absurd ⟨5, by omega, c_103⟩ hno)
    refine mg_iconst (v := (-1)) 114 rfl (by decide) rfl ?_
    refine mg_iret rfl rfl ?_
    exact kR hno
set_option maxHeartbeats 2000000 in
set_option maxRecDepth 20000 in
theorem lp_count {d : Nat} {M : mm_M} {Q : mm_Qt} {y : Int32} {n : Nat} {kd lv : Nat → Nat} {a b ru : Nat → Int32} {c : Bool} {us em fi nx kp : Nat → Int32} {rt : Nat} (hG : st_gM M n kd lv a b ru) (hW : st_wf n kd lv a b ru) (hC : st_CM M c n us em fi nx kp rt) (hK : st_cok c n kd a b kp us em rt) (hd : 4 ≤ d) (kR : ¬ st_in 6 y → Q (some (.inl (-1))) M) (k0 : y = nI 0 → Q (some (.inl (nI n))) M) (k1 : y = nI 1 → Q (some (.inl (M 21 1))) M) (k2 : y = nI 2 → Q (some (.inl (M 21 14))) M) (k3 : y = nI 3 → Q (some (.inl (M 21 11))) M) (k4 : y = nI 4 → Q (some (.inl (nI (st_num (st_cq c kd a b us em fi nx) n)))) M) (k5 : y = nI 5 → Q (some (.inl (nI (st_num (st_uq c us) n)))) M) : ∀ (i : Nat) (f x : Int32), i ≤ n → f = nI (st_num (st_cq c kd a b us em fi nx) i) → x = nI i → mm_Rn pg ly d (mm_Ev pg ly d) yy_Mo_count Q 4 [(0, .inr 21), (1, .inl y), (2, .inl f), (3, .inl x)] [] M := by
  have hn : n ≤ 60 := hW.1
  have hsz : M 21 0 = nI n := hG.1
  cases c with
  | false =>
    intro i f x hi ef ex
    have hr := hC.1 rfl
    have e0 : ∀ m, st_num (st_cq false kd a b us em fi nx) m = 0 := by
      intro m
      induction m with
      | zero => rfl
      | succ m ih => rw [st_num_n rfl, ih]
    rw [e0 i, ← e0 n] at ef
    subst ex
    refine mg_iload_n 5 rfl rfl rfl ?_
    refine mg_aload_n 6 rfl rfl rfl ?_
    refine mg_getI (v := nI n) 9 rfl rfl (Or.inl rfl) hsz rfl ?_
    refine mg_ic_ge 12 45 rfl rfl (by decide) (fun c_9 => ?_) (fun c_9 => ?_)
    · exact tl_count hG hW hC hK kR k0 k1 k2 k3 k4 k5 ef
    · refine mg_aload_n 13 rfl rfl rfl ?_
      refine mg_getI (v := -1) 16 rfl rfl (Or.inl rfl) hr rfl ?_
      refine mg_if_lt 19 45 rfl rfl (by decide) (fun c_16 => ?_) (fun c_16 => absurd c_16 (by decide))
      exact tl_count hG hW hC hK kR k0 k1 k2 k3 k4 k5 ef
  | true =>
    obtain ⟨h7, hA, -⟩ := hC.2.2 rfl
    obtain ⟨hU, -⟩ := hK rfl
    have hrt := hU.1
    intro i
    induction hm : n - i using Nat.strongRecOn generalizing i with
    | _ m ih =>
      intro f x hi ef ex
      subst ex
      refine mg_iload_n 5 rfl rfl rfl ?_
      refine mg_aload_n 6 rfl rfl rfl ?_
      refine mg_getI (v := nI n) 9 rfl rfl (Or.inl rfl) hsz rfl ?_
      refine mg_ic_ge 12 45 rfl rfl (by decide) (fun c_9 => ?_) (fun c_9 => ?_)
      · have hin : i = n := by have := (nI_leI (by omega) (by omega)).mp c_9; omega
        rw [hin] at ef
        exact tl_count hG hW hC hK kR k0 k1 k2 k3 k4 k5 ef
      · have hlt : i < n := Nat.not_le.mp (fun h => c_9 (nI_le h (by omega)))
        refine mg_aload_n 13 rfl rfl rfl ?_
        refine mg_getI (v := nI rt) 16 rfl rfl (Or.inl rfl) h7 rfl ?_
        refine mg_if_lt 19 45 rfl rfl (by decide) (fun c_16 => absurd c_16 (nI_pos (by omega))) (fun c_16 => ?_)
        refine mg_aload_n 20 rfl rfl rfl ?_
        refine mg_getR 23 rfl rfl rfl rfl ?_
        refine mg_iload_n 24 rfl rfl rfl ?_
        refine mg_zald (v := us i) 25 rfl rfl (vp_in_nI (by omega : i < 60) (by omega)) (by rw [nI_clamp (by omega)]; exact (hA i (by omega)).1) rfl ?_
        refine mg_if_eq 28 39 rfl rfl (by decide) (fun c_25 => ?_) (fun c_25 => ?_)
        · refine mg_iinc (v := _ + 1) (L2 := [(0, _), (1, _), (2, _), (3, _)]) 42 rfl rfl (by decide) rfl rfl rfl ?_
          refine mg_goto 4 rfl (by decide) ?_
          exact ih (n - (i + 1)) (by omega) (i + 1) rfl _ _ (by omega) (by rw [ef, st_num_n (by simp [st_cq, c_25])]) (nI_1 i)
        · have hu2 : us i = 1 := ((hU.2.2.1 i (by omega)).resolve_left c_25).1
          refine mg_aload_n 29 rfl rfl rfl ?_
          refine mg_iload_n 30 rfl rfl rfl ?_
          refine mg_callV1 33 rfl (Nat.le_of_ble_eq_true rfl) pg_Mo_clash rfl rfl ?_
          refine sm_clash hG hW hC hK (by omega) (fun hno => absurd ⟨rfl, i, hlt, rfl, hu2⟩ hno) (fun j hj hx hu hc => ?_)
          obtain rfl := st_nIe (by omega) (by omega) hx
          show mm_Rn _ _ _ _ _ _ 33 [(0, _), (1, _), (2, _), (3, _)] [_] _
          refine mg_if_eq 36 39 rfl rfl (by decide) (fun c_33 => ?_) (fun c_33 => ?_)
          · refine mg_iinc (v := _ + 1) (L2 := [(0, _), (1, _), (2, _), (3, _)]) 42 rfl rfl (by decide) rfl rfl rfl ?_
            refine mg_goto 4 rfl (by decide) ?_
            exact ih (n - (i + 1)) (by omega) (i + 1) rfl _ _ (by omega) (by rw [ef, st_num_n (by simp [st_cq, c_33])]) (nI_1 i)
          · refine mg_iinc (v := _ + 1) (L2 := [(0, _), (1, _), (2, _), (3, _)]) 39 rfl rfl (by decide) rfl rfl rfl ?_
            refine mg_iinc (v := _ + 1) (L2 := [(0, _), (1, _), (2, _), (3, _)]) 42 rfl rfl (by decide) rfl rfl rfl ?_
            refine mg_goto 4 rfl (by decide) ?_
            exact ih (n - (i + 1)) (by omega) (i + 1) rfl _ _ (by omega) (by rw [ef, st_num_y (by simp [st_cq, hu2, c_33])]; exact nI_1 _) (nI_1 i)
set_option maxHeartbeats 2000000 in
set_option maxRecDepth 20000 in
theorem sm_count {d : Nat} {M : mm_M} {Q : mm_Qt} {y : Int32} {n : Nat} {kd lv : Nat → Nat} {a b ru : Nat → Int32} {c : Bool} {us em fi nx kp : Nat → Int32} {rt : Nat} (hG : st_gM M n kd lv a b ru) (hW : st_wf n kd lv a b ru) (hC : st_CM M c n us em fi nx kp rt) (hK : st_cok c n kd a b kp us em rt) (hd : 5 ≤ d) (kR : ¬ st_in 6 y → Q (some (.inl (-1))) M) (k0 : y = nI 0 → Q (some (.inl (nI n))) M) (k1 : y = nI 1 → Q (some (.inl (M 21 1))) M) (k2 : y = nI 2 → Q (some (.inl (M 21 14))) M) (k3 : y = nI 3 → Q (some (.inl (M 21 11))) M) (k4 : y = nI 4 → Q (some (.inl (nI (st_num (st_cq c kd a b us em fi nx) n)))) M) (k5 : y = nI 5 → Q (some (.inl (nI (st_num (st_uq c us) n)))) M) : mm_Ev pg ly d 106 [.inr 21, .inl y] M Q := by
  obtain ⟨d, rfl⟩ : ∃ e, d = e + 1 := ⟨d - 1, by omega⟩
  refine mg_body yy_Mo_count pg_Mo_count (Nat.le_of_ble_eq_true rfl) ?_
  show mm_Rn _ _ _ _ _ _ 0 [(0, _), (1, _)] [] _
  refine mg_iconst (v := 0) 1 rfl (by decide) rfl ?_
  refine mg_istore_n (L2 := [(0, _), (1, _), (2, _)]) 2 rfl (by decide) rfl rfl ?_
  refine mg_iconst (v := 0) 3 rfl (by decide) rfl ?_
  refine mg_istore_n (L2 := [(0, _), (1, _), (2, _), (3, _)]) 4 rfl (by decide) rfl rfl ?_
  exact lp_count hG hW hC hK (by omega) kR k0 k1 k2 k3 k4 k5 0 0 0 (by omega) rfl rfl
