set_option maxHeartbeats 2000000 in
set_option maxRecDepth 20000 in
theorem sp_usedAs {d : Nat} {M : mm_M} {Q : mm_Qt} {i w : Nat} {y : Int32} {n : Nat} {kd lv : Nat → Nat} {a b kp us : Nat → Int32} {rt : Nat} (hX : an_X M n kd a b kp rt) (hW : st_wf n kd lv a b kp) (h01 : ∀ i, i < 60 → M 8 i = us i ∧ (us i = 0 ∨ us i = 1)) (hi : i < n) (hw : w < 9) (ey : y = nI w) (hd : 1 ≤ d) (k1 : us i = 1 → kd i = w → Q (some (.inl 1)) M) (k0 : ¬ (us i = 1 ∧ kd i = w) → Q (some (.inl 0)) M) : mm_Ev pg ly d 32 [.inr 7, .inl (nI i), .inl y] M Q := by
  have hn : n ≤ 60 := hW.1
  have hk9 := (hW.2.1 i hi).1
  subst ey
  obtain ⟨d, rfl⟩ : ∃ e, d = e + 1 := ⟨d - 1, by omega⟩
  refine mg_body yy_An_usedAs pg_An_usedAs (Nat.le_of_ble_eq_true rfl) ?_
  show mm_Rn _ _ _ _ _ _ 0 [(0, _), (1, _), (2, _)] [] _
  refine mg_aload_n 1 rfl rfl rfl ?_
  refine mg_getR 4 rfl rfl rfl rfl ?_
  refine mg_iload_n 5 rfl rfl rfl ?_
  refine mg_zald (v := us i) 6 rfl rfl (vp_in_nI (by omega : i < 60) (by omega)) (by rw [nI_clamp (by omega)]; exact (h01 i (by omega)).1) rfl ?_
  refine mg_if_eq 9 26 rfl rfl (by decide) (fun c_6 => ?_) (fun c_6 => ?_)
  · refine mg_iconst (v := 0) 27 rfl (by decide) rfl ?_
    refine mg_zret rfl rfl (by first | exact Or.inl rfl | exact Or.inr rfl) ?_
    exact k0 (fun h => absurd (h.1.symm.trans c_6) (by decide))
  · refine mg_aload_n 10 rfl rfl rfl ?_
    refine mg_getR 13 rfl rfl rfl rfl ?_
    refine mg_getR 16 rfl rfl rfl rfl ?_
    refine mg_iload_n 17 rfl rfl rfl ?_
    refine mg_iald (v := nI (kd i)) 18 rfl rfl (vp_in_nI (by omega : i < 60) (by omega)) (by rw [nI_clamp (by omega)]; exact (hX.2.1 i hi).1) rfl ?_
    refine mg_iload_n 19 rfl rfl rfl ?_
    refine mg_ic_ne 22 26 rfl rfl (by decide) (fun c_19 => ?_) (fun c_19 => ?_)
    · refine mg_iconst (v := 0) 27 rfl (by decide) rfl ?_
      refine mg_zret rfl rfl (by first | exact Or.inl rfl | exact Or.inr rfl) ?_
      exact k0 (fun h => c_19 (by rw [h.2]))
    · refine mg_iconst (v := 1) 23 rfl (by decide) rfl ?_
      refine mg_goto 27 rfl (by decide) ?_
      refine mg_zret rfl rfl (by first | exact Or.inl rfl | exact Or.inr rfl) ?_
      exact k1 ((h01 i (by omega)).2.resolve_left c_6) (st_nIe (by omega) (by omega) c_19)
set_option maxHeartbeats 2000000 in
set_option maxRecDepth 20000 in
theorem lp_callsUndefined {d : Nat} {M : mm_M} {Q : mm_Qt} {n : Nat} {kd lv : Nat → Nat} {a b kp us : Nat → Int32} {rt : Nat} (hX : an_X M n kd a b kp rt) (hW : st_wf n kd lv a b kp) (h01 : ∀ i, i < 60 → M 8 i = us i ∧ (us i = 0 ∨ us i = 1)) (hd : 2 ≤ d) (k1 : (∃ q, q < n ∧ us q = 1 ∧ kd q = 1 ∧ kp (an_o (a q)) = -1) → Q (some (.inl 1)) M) (k0 : ¬ (∃ q, q < n ∧ us q = 1 ∧ kd q = 1 ∧ kp (an_o (a q)) = -1) → Q (some (.inl 0)) M) : ∀ (i : Nat) (x : Int32), i ≤ n → x = nI i → (∀ q, q < i → ¬ (us q = 1 ∧ kd q = 1 ∧ kp (an_o (a q)) = -1)) → mm_Rn pg ly d (mm_Ev pg ly d) yy_An_callsUndefined Q 2 [(0, .inr 7), (1, .inl x)] [] M := by
  have hn : n ≤ 60 := hW.1
  intro i
  induction hm : n - i using Nat.strongRecOn generalizing i with
  | _ m ih =>
    intro x hi ex hp
    subst ex
    refine mg_iload_n 3 rfl rfl rfl ?_
    refine mg_aload_n 4 rfl rfl rfl ?_
    refine mg_getR 7 rfl rfl rfl rfl ?_
    refine mg_getI (v := nI n) 10 rfl rfl (Or.inl rfl) hX.1 rfl ?_
    refine mg_ic_ge 13 48 rfl rfl (by decide) (fun c_10 => ?_) (fun c_10 => ?_)
    · refine mg_iconst (v := 0) 49 rfl (by decide) rfl ?_
      refine mg_zret rfl rfl (by first | exact Or.inl rfl | exact Or.inr rfl) ?_
      exact k0 (fun h => by obtain ⟨q, hq, hpq⟩ := h; exact hp q (by have := (nI_leI (by omega) (by omega)).mp c_10; omega) hpq)
    · have hlt : i < n := Nat.not_le.mp (fun h => c_10 (nI_le h (by omega)))
      refine mg_aload_n 14 rfl rfl rfl ?_
      refine mg_iload_n 15 rfl rfl rfl ?_
      refine mg_iconst (v := 1) 16 rfl (by decide) rfl ?_
      refine mg_callV2 19 rfl (Nat.le_of_ble_eq_true rfl) pg_An_usedAs rfl rfl ?_
      refine sp_usedAs hX hW h01 hlt (w := 1) (by omega) rfl (by omega) (fun hu hk => ?_) (fun hno => ?_)
      · show mm_Rn _ _ _ _ _ _ 19 [(0, _), (1, _)] [_] _
        refine mg_if_eq 22 42 rfl rfl (by decide) (fun c_19 => absurd c_19 (by decide)) (fun c_19 => ?_)
        obtain ⟨r, hr, ea⟩ := (hW.2.1 i hlt).2.2.2.2.2.2.1 hk
        refine mg_aload_n 23 rfl rfl rfl ?_
        refine mg_getR 26 rfl rfl rfl rfl ?_
        refine mg_aload_n 27 rfl rfl rfl ?_
        refine mg_getR 30 rfl rfl rfl rfl ?_
        refine mg_getR 33 rfl rfl rfl rfl ?_
        refine mg_iload_n 34 rfl rfl rfl ?_
        refine mg_iald (v := a i) 35 rfl rfl (vp_in_nI (by omega : i < 60) (by omega)) (by rw [nI_clamp (by omega)]; exact (hX.2.1 i hlt).2.1) rfl ?_
        refine mg_iald (v := kp r) 36 rfl rfl (by rw [ea]; exact vp_in_nI hr (by omega)) (by rw [ea, nI_clamp (by omega)]; exact hX.2.2.1 r hr) rfl ?_
        refine mg_iconst (v := (-1)) 37 rfl (by decide) rfl ?_
        refine mg_ic_ne 40 42 rfl rfl (by decide) (fun c_37 => ?_) (fun c_37 => ?_)
        · refine mg_iinc (v := _ + 1) (L2 := [(0, _), (1, _)]) 45 rfl rfl (by decide) rfl rfl rfl ?_
          refine mg_goto 2 rfl (by decide) ?_
          exact ih _ (by omega) (i + 1) rfl _ (by omega) (nI_1 i) (fun q hq hp2 => by
            rcases Nat.lt_or_ge q i with h | h
            · exact hp q h hp2
            · have : q = i := by omega
              subst this
              have h9 := hp2.2.2
              rw [ea, an_oI (by omega)] at h9
              exact c_37 h9)
        · refine mg_iconst (v := 1) 41 rfl (by decide) rfl ?_
          refine mg_zret rfl rfl (by first | exact Or.inl rfl | exact Or.inr rfl) ?_
          exact k1 ⟨i, hlt, hu, hk, by rw [ea, an_oI (by omega)]; exact c_37⟩
      · show mm_Rn _ _ _ _ _ _ 19 [(0, _), (1, _)] [_] _
        refine mg_if_eq 22 42 rfl rfl (by decide) (fun c_19 => ?_) (fun c_19 => absurd c_19 (by decide))
        refine mg_iinc (v := _ + 1) (L2 := [(0, _), (1, _)]) 45 rfl rfl (by decide) rfl rfl rfl ?_
        refine mg_goto 2 rfl (by decide) ?_
        exact ih _ (by omega) (i + 1) rfl _ (by omega) (nI_1 i) (fun q hq hp2 => by
          rcases Nat.lt_or_ge q i with h | h
          · exact hp q h hp2
          · have : q = i := by omega
            subst this
            exact hno ⟨hp2.1, hp2.2.1⟩)
set_option maxHeartbeats 2000000 in
set_option maxRecDepth 20000 in
theorem sp_callsUndefined {d : Nat} {M : mm_M} {Q : mm_Qt} {n : Nat} {kd lv : Nat → Nat} {a b kp us : Nat → Int32} {rt : Nat} (hX : an_X M n kd a b kp rt) (hW : st_wf n kd lv a b kp) (h01 : ∀ i, i < 60 → M 8 i = us i ∧ (us i = 0 ∨ us i = 1)) (hd : 3 ≤ d) (k1 : (∃ q, q < n ∧ us q = 1 ∧ kd q = 1 ∧ kp (an_o (a q)) = -1) → Q (some (.inl 1)) M) (k0 : ¬ (∃ q, q < n ∧ us q = 1 ∧ kd q = 1 ∧ kp (an_o (a q)) = -1) → Q (some (.inl 0)) M) : mm_Ev pg ly d 33 [.inr 7] M Q := by
  obtain ⟨d, rfl⟩ : ∃ e, d = e + 1 := ⟨d - 1, by omega⟩
  refine mg_body yy_An_callsUndefined pg_An_callsUndefined (Nat.le_of_ble_eq_true rfl) ?_
  show mm_Rn _ _ _ _ _ _ 0 [(0, _)] [] _
  refine mg_iconst (v := 0) 1 rfl (by decide) rfl ?_
  refine mg_istore_n (L2 := [(0, _), (1, _)]) 2 rfl (by decide) rfl rfl ?_
  exact lp_callsUndefined hX hW h01 (by omega) k1 k0 0 0 (by omega) rfl (fun q hq => by omega)
set_option maxHeartbeats 2000000 in
set_option maxRecDepth 20000 in
theorem sp_comesToItself {d : Nat} {M : mm_M} {Q : mm_Qt} {r jc : Nat} {n : Nat} {kd : Nat → Nat} {a b kp : Nat → Int32} {rt : Nat} (hX : an_X M n kd a b kp rt) (hr : r < 8) (hj : jc < 60) (ekp : kp r = nI jc) (hd : 1 ≤ d) (k1 : an_rc kp (M 9) r → Q (some (.inl 1)) M) (k0 : ¬ an_rc kp (M 9) r → Q (some (.inl 0)) M) : mm_Ev pg ly d 35 [.inr 7, .inl (nI r)] M Q := by
  obtain ⟨d, rfl⟩ : ∃ e, d = e + 1 := ⟨d - 1, by omega⟩
  refine mg_body yy_An_comesToItself pg_An_comesToItself (Nat.le_of_ble_eq_true rfl) ?_
  show mm_Rn _ _ _ _ _ _ 0 [(0, _), (1, _)] [] _
  refine mg_aload_n 1 rfl rfl rfl ?_
  refine mg_getR 4 rfl rfl rfl rfl ?_
  refine mg_aload_n 5 rfl rfl rfl ?_
  refine mg_getR 8 rfl rfl rfl rfl ?_
  refine mg_iload_n 9 rfl rfl rfl ?_
  refine mg_iald (v := nI jc) 10 rfl rfl (vp_in_nI hr (by omega)) (by rw [nI_clamp (by omega), ← ekp]; exact hX.2.2.1 r hr) rfl ?_
  refine mg_iald (v := M 9 jc) 11 rfl rfl (vp_in_nI (by omega : jc < 60) (by omega)) (by rw [nI_clamp (by omega)]) rfl ?_
  refine mg_iconst (v := 1) 12 rfl (by decide) rfl ?_
  refine mg_iload_n 13 rfl rfl rfl ?_
  refine mg_ishl 14 rfl rfl rfl ?_
  refine mg_iand 15 rfl rfl rfl ?_
  refine mg_if_eq 18 22 rfl rfl (by decide) (fun c_15 => ?_) (fun c_15 => ?_)
  · refine mg_iconst (v := 0) 23 rfl (by decide) rfl ?_
    refine mg_zret rfl rfl (by first | exact Or.inl rfl | exact Or.inr rfl) ?_
    exact k0 (fun h => h (by rw [ekp, an_oI (by omega)]; exact c_15))
  · refine mg_iconst (v := 1) 19 rfl (by decide) rfl ?_
    refine mg_goto 23 rfl (by decide) ?_
    refine mg_zret rfl rfl (by first | exact Or.inl rfl | exact Or.inr rfl) ?_
    exact k1 (by unfold an_rc; rw [ekp, an_oI (by omega)]; exact c_15)
set_option maxHeartbeats 2000000 in
set_option maxRecDepth 20000 in
theorem lp_someCalled {d : Nat} {M : mm_M} {Q : mm_Qt} {n : Nat} {kd lv : Nat → Nat} {a b kp us : Nat → Int32} {rt : Nat} (hX : an_X M n kd a b kp rt) (hW : st_wf n kd lv a b kp) (h01 : ∀ i, i < 60 → M 8 i = us i ∧ (us i = 0 ∨ us i = 1)) (hU : st_us n kd a b kp us rt) (hd : 2 ≤ d) (k1 : (∃ q, q < n ∧ us q = 1 ∧ kd q = 1 ∧ an_rc kp (M 9) (an_o (a q))) → Q (some (.inl 1)) M) (k0 : ¬ (∃ q, q < n ∧ us q = 1 ∧ kd q = 1 ∧ an_rc kp (M 9) (an_o (a q))) → Q (some (.inl 0)) M) : ∀ (i : Nat) (x : Int32), i ≤ n → x = nI i → (∀ q, q < i → ¬ (us q = 1 ∧ kd q = 1 ∧ an_rc kp (M 9) (an_o (a q)))) → mm_Rn pg ly d (mm_Ev pg ly d) yy_An_someCalledComesToItself Q 2 [(0, .inr 7), (1, .inl x)] [] M := by
  have hn : n ≤ 60 := hW.1
  intro i
  induction hm : n - i using Nat.strongRecOn generalizing i with
  | _ m ih =>
    intro x hi ex hp
    subst ex
    refine mg_iload_n 3 rfl rfl rfl ?_
    refine mg_aload_n 4 rfl rfl rfl ?_
    refine mg_getR 7 rfl rfl rfl rfl ?_
    refine mg_getI (v := nI n) 10 rfl rfl (Or.inl rfl) hX.1 rfl ?_
    refine mg_ic_ge 13 46 rfl rfl (by decide) (fun c_10 => ?_) (fun c_10 => ?_)
    · refine mg_iconst (v := 0) 47 rfl (by decide) rfl ?_
      refine mg_zret rfl rfl (by first | exact Or.inl rfl | exact Or.inr rfl) ?_
      exact k0 (fun h => by obtain ⟨q, hq, hpq⟩ := h; exact hp q (by have := (nI_leI (by omega) (by omega)).mp c_10; omega) hpq)
    · have hlt : i < n := Nat.not_le.mp (fun h => c_10 (nI_le h (by omega)))
      refine mg_aload_n 14 rfl rfl rfl ?_
      refine mg_iload_n 15 rfl rfl rfl ?_
      refine mg_iconst (v := 1) 16 rfl (by decide) rfl ?_
      refine mg_callV2 19 rfl (Nat.le_of_ble_eq_true rfl) pg_An_usedAs rfl rfl ?_
      refine sp_usedAs hX hW h01 hlt (w := 1) (by omega) rfl (by omega) (fun hu hk => ?_) (fun hno => ?_)
      · show mm_Rn _ _ _ _ _ _ 19 [(0, _), (1, _)] [_] _
        refine mg_if_eq 22 40 rfl rfl (by decide) (fun c_19 => absurd c_19 (by decide)) (fun c_19 => ?_)
        obtain ⟨r, jc, hr, ea, hjc, ekp, -⟩ := (hU.2.2.2 i hlt hu).2.2 hk
        refine mg_aload_n 23 rfl rfl rfl ?_
        refine mg_aload_n 24 rfl rfl rfl ?_
        refine mg_getR 27 rfl rfl rfl rfl ?_
        refine mg_getR 30 rfl rfl rfl rfl ?_
        refine mg_iload_n 31 rfl rfl rfl ?_
        refine mg_iald (v := nI r) 32 rfl rfl (vp_in_nI (by omega : i < 60) (by omega)) (by rw [nI_clamp (by omega), ← ea]; exact (hX.2.1 i hlt).2.1) rfl ?_
        refine mg_callV1 35 rfl (Nat.le_of_ble_eq_true rfl) pg_An_comesToItself rfl rfl ?_
        refine sp_comesToItself hX hr (by omega) ekp (by omega) (fun hrc => ?_) (fun hrc => ?_)
        · show mm_Rn _ _ _ _ _ _ 35 [(0, _), (1, _)] [_] _
          refine mg_if_eq 38 40 rfl rfl (by decide) (fun c_35 => absurd c_35 (by decide)) (fun c_35 => ?_)
          refine mg_iconst (v := 1) 39 rfl (by decide) rfl ?_
          refine mg_zret rfl rfl (by first | exact Or.inl rfl | exact Or.inr rfl) ?_
          exact k1 ⟨i, hlt, hu, hk, by rw [ea, an_oI (by omega)]; exact hrc⟩
        · show mm_Rn _ _ _ _ _ _ 35 [(0, _), (1, _)] [_] _
          refine mg_if_eq 38 40 rfl rfl (by decide) (fun c_35 => ?_) (fun c_35 => absurd c_35 (by decide))
          refine mg_iinc (v := _ + 1) (L2 := [(0, _), (1, _)]) 43 rfl rfl (by decide) rfl rfl rfl ?_
          refine mg_goto 2 rfl (by decide) ?_
          exact ih _ (by omega) (i + 1) rfl _ (by omega) (nI_1 i) (fun q hq hp2 => by
            rcases Nat.lt_or_ge q i with h | h
            · exact hp q h hp2
            · have : q = i := by omega
              subst this
              have h9 := hp2.2.2
              rw [ea, an_oI (by omega)] at h9
              exact hrc h9)
      · show mm_Rn _ _ _ _ _ _ 19 [(0, _), (1, _)] [_] _
        refine mg_if_eq 22 40 rfl rfl (by decide) (fun c_19 => ?_) (fun c_19 => absurd c_19 (by decide))
        refine mg_iinc (v := _ + 1) (L2 := [(0, _), (1, _)]) 43 rfl rfl (by decide) rfl rfl rfl ?_
        refine mg_goto 2 rfl (by decide) ?_
        exact ih _ (by omega) (i + 1) rfl _ (by omega) (nI_1 i) (fun q hq hp2 => by
          rcases Nat.lt_or_ge q i with h | h
          · exact hp q h hp2
          · have : q = i := by omega
            subst this
            exact hno ⟨hp2.1, hp2.2.1⟩)
set_option maxHeartbeats 2000000 in
set_option maxRecDepth 20000 in
theorem sp_someCalled {d : Nat} {M : mm_M} {Q : mm_Qt} {n : Nat} {kd lv : Nat → Nat} {a b kp us : Nat → Int32} {rt : Nat} (hX : an_X M n kd a b kp rt) (hW : st_wf n kd lv a b kp) (h01 : ∀ i, i < 60 → M 8 i = us i ∧ (us i = 0 ∨ us i = 1)) (hU : st_us n kd a b kp us rt) (hd : 3 ≤ d) (k1 : (∃ q, q < n ∧ us q = 1 ∧ kd q = 1 ∧ an_rc kp (M 9) (an_o (a q))) → Q (some (.inl 1)) M) (k0 : ¬ (∃ q, q < n ∧ us q = 1 ∧ kd q = 1 ∧ an_rc kp (M 9) (an_o (a q))) → Q (some (.inl 0)) M) : mm_Ev pg ly d 34 [.inr 7] M Q := by
  obtain ⟨d, rfl⟩ : ∃ e, d = e + 1 := ⟨d - 1, by omega⟩
  refine mg_body yy_An_someCalledComesToItself pg_An_someCalledComesToItself (Nat.le_of_ble_eq_true rfl) ?_
  show mm_Rn _ _ _ _ _ _ 0 [(0, _)] [] _
  refine mg_iconst (v := 0) 1 rfl (by decide) rfl ?_
  refine mg_istore_n (L2 := [(0, _), (1, _)]) 2 rfl (by decide) rfl rfl ?_
  exact lp_someCalled hX hW h01 hU (by omega) k1 k0 0 0 (by omega) rfl (fun q hq => by omega)
set_option maxHeartbeats 2000000 in
set_option maxRecDepth 20000 in
theorem lp_repeatsEmptyable {d : Nat} {M : mm_M} {Q : mm_Qt} {n : Nat} {kd lv : Nat → Nat} {a b kp us : Nat → Int32} {rt : Nat} (hX : an_X M n kd a b kp rt) (hW : st_wf n kd lv a b kp) (h01 : ∀ i, i < 60 → M 8 i = us i ∧ (us i = 0 ∨ us i = 1)) (hd : 2 ≤ d) (k1 : (∃ q, q < n ∧ us q = 1 ∧ kd q = 5 ∧ ¬ M 10 (an_o (a q)) = 0) → Q (some (.inl 1)) M) (k0 : ¬ (∃ q, q < n ∧ us q = 1 ∧ kd q = 5 ∧ ¬ M 10 (an_o (a q)) = 0) → Q (some (.inl 0)) M) : ∀ (i : Nat) (x : Int32), i ≤ n → x = nI i → (∀ q, q < i → ¬ (us q = 1 ∧ kd q = 5 ∧ ¬ M 10 (an_o (a q)) = 0)) → mm_Rn pg ly d (mm_Ev pg ly d) yy_An_repeatsEmptyable Q 2 [(0, .inr 7), (1, .inl x)] [] M := by
  have hn : n ≤ 60 := hW.1
  intro i
  induction hm : n - i using Nat.strongRecOn generalizing i with
  | _ m ih =>
    intro x hi ex hp
    subst ex
    refine mg_iload_n 3 rfl rfl rfl ?_
    refine mg_aload_n 4 rfl rfl rfl ?_
    refine mg_getR 7 rfl rfl rfl rfl ?_
    refine mg_getI (v := nI n) 10 rfl rfl (Or.inl rfl) hX.1 rfl ?_
    refine mg_ic_ge 13 47 rfl rfl (by decide) (fun c_10 => ?_) (fun c_10 => ?_)
    · refine mg_iconst (v := 0) 48 rfl (by decide) rfl ?_
      refine mg_zret rfl rfl (by first | exact Or.inl rfl | exact Or.inr rfl) ?_
      exact k0 (fun h => by obtain ⟨q, hq, hpq⟩ := h; exact hp q (by have := (nI_leI (by omega) (by omega)).mp c_10; omega) hpq)
    · have hlt : i < n := Nat.not_le.mp (fun h => c_10 (nI_le h (by omega)))
      refine mg_aload_n 14 rfl rfl rfl ?_
      refine mg_iload_n 15 rfl rfl rfl ?_
      refine mg_iconst (v := 5) 16 rfl (by decide) rfl ?_
      refine mg_callV2 19 rfl (Nat.le_of_ble_eq_true rfl) pg_An_usedAs rfl rfl ?_
      refine sp_usedAs hX hW h01 hlt (w := 5) (by omega) rfl (by omega) (fun hu hk => ?_) (fun hno => ?_)
      · show mm_Rn _ _ _ _ _ _ 19 [(0, _), (1, _)] [_] _
        refine mg_if_eq 22 41 rfl rfl (by decide) (fun c_19 => absurd c_19 (by decide)) (fun c_19 => ?_)
        obtain ⟨ja, hja, ea, -⟩ := (hW.2.1 i hlt).2.2.2.1 (by rw [hk]; rfl)
        refine mg_aload_n 23 rfl rfl rfl ?_
        refine mg_getR 26 rfl rfl rfl rfl ?_
        refine mg_aload_n 27 rfl rfl rfl ?_
        refine mg_getR 30 rfl rfl rfl rfl ?_
        refine mg_getR 33 rfl rfl rfl rfl ?_
        refine mg_iload_n 34 rfl rfl rfl ?_
        refine mg_iald (v := a i) 35 rfl rfl (vp_in_nI (by omega : i < 60) (by omega)) (by rw [nI_clamp (by omega)]; exact (hX.2.1 i hlt).2.1) rfl ?_
        refine mg_zald (v := M 10 ja) 36 rfl rfl (by rw [ea]; exact vp_in_nI (by omega : ja < 60) (by omega)) (by rw [ea, nI_clamp (by omega)]) rfl ?_
        refine mg_if_eq 39 41 rfl rfl (by decide) (fun c_36 => ?_) (fun c_36 => ?_)
        · refine mg_iinc (v := _ + 1) (L2 := [(0, _), (1, _)]) 44 rfl rfl (by decide) rfl rfl rfl ?_
          refine mg_goto 2 rfl (by decide) ?_
          exact ih _ (by omega) (i + 1) rfl _ (by omega) (nI_1 i) (fun q hq hp2 => by
            rcases Nat.lt_or_ge q i with h | h
            · exact hp q h hp2
            · have : q = i := by omega
              subst this
              have h9 := hp2.2.2
              rw [ea, an_oI (by omega)] at h9
              exact h9 c_36)
        · refine mg_iconst (v := 1) 40 rfl (by decide) rfl ?_
          refine mg_zret rfl rfl (by first | exact Or.inl rfl | exact Or.inr rfl) ?_
          exact k1 ⟨i, hlt, hu, hk, by rw [ea, an_oI (by omega)]; exact c_36⟩
      · show mm_Rn _ _ _ _ _ _ 19 [(0, _), (1, _)] [_] _
        refine mg_if_eq 22 41 rfl rfl (by decide) (fun c_19 => ?_) (fun c_19 => absurd c_19 (by decide))
        refine mg_iinc (v := _ + 1) (L2 := [(0, _), (1, _)]) 44 rfl rfl (by decide) rfl rfl rfl ?_
        refine mg_goto 2 rfl (by decide) ?_
        exact ih _ (by omega) (i + 1) rfl _ (by omega) (nI_1 i) (fun q hq hp2 => by
          rcases Nat.lt_or_ge q i with h | h
          · exact hp q h hp2
          · have : q = i := by omega
            subst this
            exact hno ⟨hp2.1, hp2.2.1⟩)
set_option maxHeartbeats 2000000 in
set_option maxRecDepth 20000 in
theorem sp_repeatsEmptyable {d : Nat} {M : mm_M} {Q : mm_Qt} {n : Nat} {kd lv : Nat → Nat} {a b kp us : Nat → Int32} {rt : Nat} (hX : an_X M n kd a b kp rt) (hW : st_wf n kd lv a b kp) (h01 : ∀ i, i < 60 → M 8 i = us i ∧ (us i = 0 ∨ us i = 1)) (hd : 3 ≤ d) (k1 : (∃ q, q < n ∧ us q = 1 ∧ kd q = 5 ∧ ¬ M 10 (an_o (a q)) = 0) → Q (some (.inl 1)) M) (k0 : ¬ (∃ q, q < n ∧ us q = 1 ∧ kd q = 5 ∧ ¬ M 10 (an_o (a q)) = 0) → Q (some (.inl 0)) M) : mm_Ev pg ly d 36 [.inr 7] M Q := by
  obtain ⟨d, rfl⟩ : ∃ e, d = e + 1 := ⟨d - 1, by omega⟩
  refine mg_body yy_An_repeatsEmptyable pg_An_repeatsEmptyable (Nat.le_of_ble_eq_true rfl) ?_
  show mm_Rn _ _ _ _ _ _ 0 [(0, _)] [] _
  refine mg_iconst (v := 0) 1 rfl (by decide) rfl ?_
  refine mg_istore_n (L2 := [(0, _), (1, _)]) 2 rfl (by decide) rfl rfl ?_
  exact lp_repeatsEmptyable hX hW h01 (by omega) k1 k0 0 0 (by omega) rfl (fun q hq => by omega)
set_option maxHeartbeats 2000000 in
set_option maxRecDepth 20000 in
theorem lp_forget {d : Nat} {M0 : mm_M} {Q : mm_Qt} (k : ∀ M', (∀ q, q ≠ 8 → q ≠ 9 → q ≠ 10 → q ≠ 11 → q ≠ 12 → M' q = M0 q) → (∀ i, i < 60 → M' 8 i = 0 ∧ M' 9 i = 0 ∧ M' 10 i = 0 ∧ M' 11 i = 0 ∧ M' 12 i = 0) → Q none M') : ∀ (i : Nat) (x : Int32) (M : mm_M), i ≤ 60 → x = nI i → (∀ q, q ≠ 8 → q ≠ 9 → q ≠ 10 → q ≠ 11 → q ≠ 12 → M q = M0 q) → (∀ q, q < i → M 8 q = 0 ∧ M 9 q = 0 ∧ M 10 q = 0 ∧ M 11 q = 0 ∧ M 12 q = 0) → mm_Rn pg ly d (mm_Ev pg ly d) yy_An_forget Q 2 [(0, .inr 7), (1, .inl x)] [] M := by
  intro i
  induction hm : 60 - i using Nat.strongRecOn generalizing i with
  | _ m ih =>
    intro x M hi ex hf hz
    subst ex
    refine mg_iload_n 3 rfl rfl rfl ?_
    refine mg_bipush (v := 60) 5 rfl (by decide) rfl ?_
    refine mg_ic_ge 8 49 rfl rfl (by decide) (fun c_5 => ?_) (fun c_5 => ?_)
    · refine mg_vret rfl rfl ?_
      have hin : i = 60 := by have := (nI_leI (a := 60) (by omega) (by omega)).mp c_5; omega
      subst hin
      exact k M hf hz
    · have hlt : i < 60 := Nat.not_le.mp (fun h => c_5 (nI_le (a := 60) h (by omega)))
      refine mg_aload_n 9 rfl rfl rfl ?_
      refine mg_getR 12 rfl rfl rfl rfl ?_
      refine mg_iload_n 13 rfl rfl rfl ?_
      refine mg_iconst (v := 0) 14 rfl (by decide) rfl ?_
      refine mg_zast (v := 0) (j := i) 15 rfl rfl (vp_in_nI (by omega : i < 60) (by omega)) (nI_clamp (by omega)) (by decide) rfl ?_
      refine mg_aload_n 16 rfl rfl rfl ?_
      refine mg_getR 19 rfl rfl rfl rfl ?_
      refine mg_iload_n 20 rfl rfl rfl ?_
      refine mg_iconst (v := 0) 21 rfl (by decide) rfl ?_
      refine mg_zast (v := 0) (j := i) 22 rfl rfl (vp_in_nI (by omega : i < 60) (by omega)) (nI_clamp (by omega)) (by decide) rfl ?_
      refine mg_aload_n 23 rfl rfl rfl ?_
      refine mg_getR 26 rfl rfl rfl rfl ?_
      refine mg_iload_n 27 rfl rfl rfl ?_
      refine mg_iconst (v := 0) 28 rfl (by decide) rfl ?_
      refine mg_iast (j := i) 29 rfl rfl (vp_in_nI (by omega : i < 60) (by omega)) (nI_clamp (by omega)) rfl ?_
      refine mg_aload_n 30 rfl rfl rfl ?_
      refine mg_getR 33 rfl rfl rfl rfl ?_
      refine mg_iload_n 34 rfl rfl rfl ?_
      refine mg_iconst (v := 0) 35 rfl (by decide) rfl ?_
      refine mg_iast (j := i) 36 rfl rfl (vp_in_nI (by omega : i < 60) (by omega)) (nI_clamp (by omega)) rfl ?_
      refine mg_aload_n 37 rfl rfl rfl ?_
      refine mg_getR 40 rfl rfl rfl rfl ?_
      refine mg_iload_n 41 rfl rfl rfl ?_
      refine mg_iconst (v := 0) 42 rfl (by decide) rfl ?_
      refine mg_iast (j := i) 43 rfl rfl (vp_in_nI (by omega : i < 60) (by omega)) (nI_clamp (by omega)) rfl ?_
      refine mg_iinc (v := _ + 1) (L2 := [(0, _), (1, _)]) 46 rfl rfl (by decide) rfl rfl rfl ?_
      refine mg_goto 2 rfl (by decide) ?_
      refine ih _ (by omega) (i + 1) rfl _ _ (by omega) (nI_1 i) (fun q h1 h2 h3 h4 h5 => by simp only [mm_up, if_neg h1, if_neg h2, if_neg h3, if_neg h4, if_neg h5]; exact hf q h1 h2 h3 h4 h5) (fun q hq => ?_)
      by_cases e : q = i
      · subst e
        simp [mm_up, upd]
      · have := hz q (by omega)
        simp [mm_up, upd, e, this]
set_option maxHeartbeats 2000000 in
set_option maxRecDepth 20000 in
theorem sp_forget {d : Nat} {M : mm_M} {Q : mm_Qt} (hd : 1 ≤ d) (k : ∀ M', (∀ q, q ≠ 8 → q ≠ 9 → q ≠ 10 → q ≠ 11 → q ≠ 12 → M' q = M q) → (∀ i, i < 60 → M' 8 i = 0 ∧ M' 9 i = 0 ∧ M' 10 i = 0 ∧ M' 11 i = 0 ∧ M' 12 i = 0) → Q none M') : mm_Ev pg ly d 28 [.inr 7] M Q := by
  obtain ⟨d, rfl⟩ : ∃ e, d = e + 1 := ⟨d - 1, by omega⟩
  refine mg_body yy_An_forget pg_An_forget (Nat.le_of_ble_eq_true rfl) ?_
  show mm_Rn _ _ _ _ _ _ 0 [(0, _)] [] _
  refine mg_iconst (v := 0) 1 rfl (by decide) rfl ?_
  refine mg_istore_n (L2 := [(0, _), (1, _)]) 2 rfl (by decide) rfl rfl ?_
  exact lp_forget k 0 0 M (by omega) rfl (fun _ _ _ _ _ _ => rfl) (fun q hq => by omega)
set_option maxHeartbeats 2000000 in
set_option maxRecDepth 20000 in
theorem sp_build {d : Nat} {M : mm_M} {Q : mm_Qt} {r : Nat} {n : Nat} {kd lv : Nat → Nat} {a b ru : Nat → Int32} (hG : st_gX M n kd lv a b ru) (hW : st_wf n kd lv a b ru) (hr : r < 8) (hd : 6 ≤ d) (kU : ru r = -1 → Q (some (.inl (-3))) (mm_up M 7 8 0)) (k3 : ∀ M' rt us, rt < n → ru r = nI rt → an_cfr M M' → M' 7 8 = 0 → an_lst (an_cu n kd a b ru rt) us → an_U n kd a ru us → Q (some (.inl (-3))) M') (k4 : ∀ M' rt us em cm, rt < n → ru r = nI rt → an_cfr M M' → M' 7 8 = 0 → an_lst (an_cu n kd a b ru rt) us → ¬ an_U n kd a ru us → an_lst (an_ce n kd a b ru us) em → an_lst (an_cf 1 n kd a b ru us em) cm → an_R n kd a ru us cm r → Q (some (.inl (-4))) M') (k5 : ∀ M' rt us em cm, rt < n → ru r = nI rt → an_cfr M M' → M' 7 8 = 0 → an_lst (an_cu n kd a b ru rt) us → ¬ an_U n kd a ru us → an_lst (an_ce n kd a b ru us) em → an_lst (an_cf 1 n kd a b ru us em) cm → ¬ an_R n kd a ru us cm r → an_E n kd a us em → Q (some (.inl (-5))) M') (k0 : ∀ M' rt us em cm fi nx, rt < n → ru r = nI rt → an_cfr M M' → st_CX M' true us em fi nx ru rt → an_lst (an_cu n kd a b ru rt) us → ¬ an_U n kd a ru us → an_lst (an_ce n kd a b ru us) em → an_lst (an_cf 1 n kd a b ru us em) cm → ¬ an_R n kd a ru us cm r → ¬ an_E n kd a us em → an_lst (an_cf 0 n kd a b ru us em) fi → an_lst (an_cn n kd a b ru us em fi rt) nx → Q (some (.inl (nI (st_num (st_uq true us) n)))) M') : mm_Ev pg ly d 22 [.inr 7, .inl (nI r)] M Q := by
  have hn : n ≤ 60 := hW.1
  have hsz : M 1 5 = nI n := hG.1
  obtain ⟨d, rfl⟩ : ∃ e, d = e + 1 := ⟨d - 1, by omega⟩
  refine mg_body yy_An_build pg_An_build (Nat.le_of_ble_eq_true rfl) ?_
  show mm_Rn _ _ _ _ _ _ 0 [(0, _), (1, _)] [] _
  refine mg_aload_n 1 rfl rfl rfl ?_
  refine mg_iconst (v := 0) 2 rfl (by decide) rfl ?_
  refine mg_putZ 5 rfl rfl rfl (by first | exact Or.inl rfl | exact Or.inr rfl) rfl ?_
  refine mg_aload_n 6 rfl rfl rfl ?_
  refine mg_getR 9 rfl rfl rfl rfl ?_
  refine mg_getR 12 rfl rfl rfl rfl ?_
  refine mg_iload_n 13 rfl rfl rfl ?_
  refine mg_iald (v := ru r) 14 rfl rfl (vp_in_nI hr (by omega)) (by rw [nI_clamp (by omega)]; exact hG.2.2 r hr) rfl ?_
  refine mg_iconst (v := (-1)) 15 rfl (by decide) rfl ?_
  refine mg_ic_ne 18 21 rfl rfl (by decide) (fun c_15 => ?_) (fun c_15 => ?_)
  · obtain ⟨rt, hrt, ert⟩ := (hW.2.2 r hr).resolve_left c_15
    refine mg_aload_n 22 rfl rfl rfl ?_
    refine mg_callV0 25 rfl (Nat.le_of_ble_eq_true rfl) pg_An_forget rfl rfl ?_
    refine sp_forget (by omega) (fun M1 hf1 hz1 => ?_)
    show mm_Rn _ _ _ _ _ _ 25 [(0, _), (1, _)] [] _
    refine mg_aload_n 26 rfl rfl rfl ?_
    refine mg_getR 29 rfl rfl rfl rfl ?_
    refine mg_getR 32 rfl rfl rfl rfl ?_
    refine mg_iconst (v := 0) 33 rfl (by decide) rfl ?_
    refine mg_aload_n 34 rfl rfl rfl ?_
    refine mg_getR 37 rfl rfl rfl rfl ?_
    refine mg_iconst (v := 0) 38 rfl (by decide) rfl ?_
    refine mg_bipush (v := 8) 40 rfl (by decide) rfl ?_
    refine mg_copy 43 rfl (Nat.le_of_ble_eq_true rfl) (by omega) rfl rfl (by decide) (by decide) (by decide) (by decide) (by decide) rfl ?_
    refine mg_aload_n 44 rfl rfl rfl ?_
    refine mg_aload_n 45 rfl rfl rfl ?_
    refine mg_getR 48 rfl rfl rfl rfl ?_
    refine mg_iload_n 49 rfl rfl rfl ?_
    refine mg_iald (v := nI rt) 50 rfl rfl (vp_in_nI hr (by omega)) (by rw [nI_clamp (by omega), ← ert]; have h5 : M1 5 r = M 5 r := (by rw [hf1 5 (by omega) (by omega) (by omega) (by omega) (by omega)]; simp [mm_up]); have h6 := hG.2.2 r hr; simp [mm_cp, va_cpy, hr, h5, h6]) rfl ?_
    refine mg_putI 53 rfl rfl rfl rfl ?_
    show mm_Rn _ _ _ _ _ _ 53 _ _ (mm_up (mm_cp M1 5 13 0 0 8) 7 7 (nI rt))
    generalize hMA : mm_up (mm_cp M1 5 13 0 0 8) 7 7 (nI rt) = MA
    have hA : an_X MA n kd a b ru rt ∧ an_cfr M MA ∧ MA 7 8 = 0 ∧ ∀ i, i < 60 → MA 8 i = 0 ∧ MA 9 i = 0 ∧ MA 10 i = 0 ∧ MA 11 i = 0 ∧ MA 12 i = 0 := by
      have e1 : ∀ q, q < 7 ∨ 13 < q → MA q = M q := by
        intro q hq
        have h7 : q ≠ 7 := by omega
        have h13 : q ≠ 13 := by omega
        rw [← hMA]
        simp only [mm_up, mm_cp, if_neg h7, if_neg h13]
        rw [hf1 q (by omega) (by omega) (by omega) (by omega) (by omega)]
        simp [mm_up, h7]
      refine ⟨⟨by rw [e1 1 (by omega)]; exact hsz, fun i hi => ?_, fun r hr => ?_, ?_⟩, e1, ?_, fun i hi => ?_⟩
      · rw [e1 2 (by omega), e1 3 (by omega), e1 4 (by omega)]
        exact ⟨(hG.2.1 i hi).1, (hG.2.1 i hi).2.1, (hG.2.1 i hi).2.2.1⟩
      · rw [← hMA]
        have h5 : M1 5 r = M 5 r := by rw [hf1 5 (by omega) (by omega) (by omega) (by omega) (by omega)]; simp [mm_up]
        have h6 := hG.2.2 r hr
        simp [mm_up, mm_cp, va_cpy, hr, h5, h6]
      · rw [← hMA]; simp [mm_up, upd]
      · rw [← hMA]
        have h5 : M1 7 8 = 0 := by rw [hf1 7 (by omega) (by omega) (by omega) (by omega) (by omega)]; simp [mm_up, upd]
        simp [mm_up, mm_cp, upd, h5]
      · rw [← hMA]
        have := hz1 i hi
        simp [mm_up, mm_cp, this]
    obtain ⟨hXA, hfA, h78A, hzA⟩ := hA
    refine mg_aload_n 54 rfl rfl rfl ?_
    refine mg_callV0 57 rfl (Nat.le_of_ble_eq_true rfl) pg_An_findUsed rfl rfl ?_
    refine sp_findUsed hW hXA hrt (fun i hi => (hzA i hi).1) (by omega) (fun MB fB lB => ?_)
    show mm_Rn _ _ _ _ _ _ 57 [(0, _), (1, _)] [] _
    have hfB := an_cfr_tr hfA (an_cfr_fr (by decide) fB)
    have hXB := an_X_fr (by decide) fB hXA
    have h78B : MB 7 8 = 0 := by rw [fB.2 8 (by decide)]; exact h78A
    refine mg_aload_n 58 rfl rfl rfl ?_
    refine mg_callV0 61 rfl (Nat.le_of_ble_eq_true rfl) pg_An_callsUndefined rfl rfl ?_
    refine sp_callsUndefined (us := MB 8) hXB hW (fun i hi => ⟨rfl, an_cu_01 lB.2 hi⟩) (by omega) (fun hyes => ?_) (fun hno => ?_)
    · show mm_Rn _ _ _ _ _ _ 61 [(0, _), (1, _)] [_] _
      refine mg_if_eq 64 67 rfl rfl (by decide) (fun c_61 => absurd c_61 (by decide)) (fun c_61 => ?_)
      refine mg_bipush (v := (-3)) 66 rfl (by decide) rfl ?_
      refine mg_iret rfl rfl ?_
      exact k3 MB rt _ hrt ert hfB h78B lB hyes
    · show mm_Rn _ _ _ _ _ _ 61 [(0, _), (1, _)] [_] _
      refine mg_if_eq 64 67 rfl rfl (by decide) (fun c_61 => ?_) (fun c_61 => absurd c_61 (by decide))
      have hU := an_us_of hW hrt lB hno
      have h8B : ∀ j, j < 60 → MB 8 j = MB 8 j := fun _ _ => rfl
      refine mg_aload_n 68 rfl rfl rfl ?_
      refine mg_callV0 71 rfl (Nat.le_of_ble_eq_true rfl) pg_An_findEmptyable rfl rfl ?_
      refine sp_findEmptyable hW hXB hU h8B (fun i hi => by rw [fB.1 10 (by decide) (by decide)]; exact (hzA i hi).2.2.1) (by omega) (fun MC fC lC => ?_)
      show mm_Rn _ _ _ _ _ _ 71 [(0, _), (1, _)] [] _
      have hfC := an_cfr_tr hfB (an_cfr_fr (by decide) fC)
      have hXC := an_X_fr (by decide) fC hXB
      have h78C : MC 7 8 = 0 := by rw [fC.2 8 (by decide)]; exact h78B
      have h8C : ∀ j, j < 60 → MC 8 j = MB 8 j := fun j _ => by rw [fC.1 8 (by decide) (by decide)]
      refine mg_aload_n 72 rfl rfl rfl ?_
      refine mg_aload_n 73 rfl rfl rfl ?_
      refine mg_getR 76 rfl rfl rfl rfl ?_
      refine mg_iconst (v := 1) 77 rfl (by decide) rfl ?_
      refine mg_callV2 80 rfl (Nat.le_of_ble_eq_true rfl) pg_An_findBeginnings rfl rfl ?_
      refine sp_findBeg_9 (em := MC 10) hW hXC hU h8C (fun _ _ => rfl) (fun i hi => by rw [fC.1 9 (by decide) (by decide), fB.1 9 (by decide) (by decide)]; exact (hzA i hi).2.1) (by omega) (fun MD fD lD => ?_)
      show mm_Rn _ _ _ _ _ _ 80 [(0, _), (1, _)] [] _
      have hfD := an_cfr_tr hfC (an_cfr_fr (by decide) fD)
      have hXD := an_X_fr (by decide) fD hXC
      have h78D : MD 7 8 = 0 := by rw [fD.2 8 (by decide)]; exact h78C
      have h8D : ∀ j, j < 60 → MD 8 j = MB 8 j := fun j hj => by rw [fD.1 8 (by decide) (by decide)]; exact h8C j hj
      have h10D : ∀ j, MD 10 j = MC 10 j := fun j => by rw [fD.1 10 (by decide) (by decide)]
      have lE : an_lst (an_ce n kd a b ru (MB 8)) (MC 10) := lC
      have h01 : ∀ i, i < 60 → MD 8 i = MB 8 i ∧ (MB 8 i = 0 ∨ MB 8 i = 1) := fun i hi => ⟨h8D i hi, an_cu_01 lB.2 hi⟩
      refine mg_aload_n 81 rfl rfl rfl ?_
      refine mg_iload_n 82 rfl rfl rfl ?_
      refine mg_callV1 85 rfl (Nat.le_of_ble_eq_true rfl) pg_An_comesToItself rfl rfl ?_
      refine sp_comesToItself hXD hr (by omega : rt < 60) ert (by omega) (fun hR1 => ?_) (fun hR1 => ?_)
      · show mm_Rn _ _ _ _ _ _ 85 [(0, _), (1, _)] [_] _
        refine mg_if_ne 88 95 rfl rfl (by decide) (fun c_85 => ?_) (fun c_85 => absurd c_85 (by decide))
        refine mg_bipush (v := (-4)) 97 rfl (by decide) rfl ?_
        refine mg_iret rfl rfl ?_
        exact k4 MD rt _ _ _ hrt ert hfD h78D lB hno lE lD (Or.inl hR1)
      · show mm_Rn _ _ _ _ _ _ 85 [(0, _), (1, _)] [_] _
        refine mg_if_ne 88 95 rfl rfl (by decide) (fun c_85 => absurd c_85 (by decide)) (fun c_85 => ?_)
        refine mg_aload_n 89 rfl rfl rfl ?_
        refine mg_callV0 92 rfl (Nat.le_of_ble_eq_true rfl) pg_An_someCalledComesToItself rfl rfl ?_
        refine sp_someCalled hXD hW h01 hU (by omega) (fun hR2 => ?_) (fun hR2 => ?_)
        · show mm_Rn _ _ _ _ _ _ 92 [(0, _), (1, _)] [_] _
          refine mg_if_eq 95 98 rfl rfl (by decide) (fun c_92 => absurd c_92 (by decide)) (fun c_92 => ?_)
          refine mg_bipush (v := (-4)) 97 rfl (by decide) rfl ?_
          refine mg_iret rfl rfl ?_
          exact k4 MD rt _ _ _ hrt ert hfD h78D lB hno lE lD (Or.inr hR2)
        · show mm_Rn _ _ _ _ _ _ 92 [(0, _), (1, _)] [_] _
          refine mg_if_eq 95 98 rfl rfl (by decide) (fun c_92 => ?_) (fun c_92 => absurd c_92 (by decide))
          refine mg_aload_n 99 rfl rfl rfl ?_
          refine mg_callV0 102 rfl (Nat.le_of_ble_eq_true rfl) pg_An_repeatsEmptyable rfl rfl ?_
          refine sp_repeatsEmptyable hXD hW h01 (by omega) (fun hE => ?_) (fun hE => ?_)
          · show mm_Rn _ _ _ _ _ _ 102 [(0, _), (1, _)] [_] _
            refine mg_if_eq 105 108 rfl rfl (by decide) (fun c_102 => absurd c_102 (by decide)) (fun c_102 => ?_)
            refine mg_bipush (v := (-5)) 107 rfl (by decide) rfl ?_
            refine mg_iret rfl rfl ?_
            exact k5 MD rt _ _ _ hrt ert hfD h78D lB hno lE lD (fun h => h.elim hR1 hR2) (by obtain ⟨q, h1, h2, h3, h4⟩ := hE; exact ⟨q, h1, h2, h3, by rw [← h10D]; exact h4⟩)
          · show mm_Rn _ _ _ _ _ _ 102 [(0, _), (1, _)] [_] _
            refine mg_if_eq 105 108 rfl rfl (by decide) (fun c_102 => ?_) (fun c_102 => absurd c_102 (by decide))
            refine mg_aload_n 109 rfl rfl rfl ?_
            refine mg_aload_n 110 rfl rfl rfl ?_
            refine mg_getR 113 rfl rfl rfl rfl ?_
            refine mg_iconst (v := 0) 114 rfl (by decide) rfl ?_
            refine mg_callV2 117 rfl (Nat.le_of_ble_eq_true rfl) pg_An_findBeginnings rfl rfl ?_
            refine sp_findBeg_11 (em := MC 10) hW hXD hU h8D (fun j _ => h10D j) (fun i hi => by rw [fD.1 11 (by decide) (by decide), fC.1 11 (by decide) (by decide), fB.1 11 (by decide) (by decide)]; exact (hzA i hi).2.2.2.1) (by omega) (fun ME fE lE2 => ?_)
            show mm_Rn _ _ _ _ _ _ 117 [(0, _), (1, _)] [] _
            have hXE := an_X_fr (by decide) fE hXD
            have hfE := an_cfr_tr hfD (an_cfr_fr (by decide) fE)
            refine mg_aload_n 118 rfl rfl rfl ?_
            refine mg_callV0 121 rfl (Nat.le_of_ble_eq_true rfl) pg_An_findNext rfl rfl ?_
            refine sp_findNext (em := MC 10) (fi := ME 11) hW hXE hU (fun j hj => by rw [fE.1 8 (by decide) (by decide)]; exact h8D j hj) (fun j _ => by rw [fE.1 10 (by decide) (by decide)]; exact h10D j) (fun _ _ => rfl) (fun j hj => lE2.2 _ (an_cf0_T hW) j hj) (fun i hi => by rw [fE.1 12 (by decide) (by decide), fD.1 12 (by decide) (by decide), fC.1 12 (by decide) (by decide), fB.1 12 (by decide) (by decide)]; exact (hzA i hi).2.2.2.2) (by omega) (fun MF fF lF => ?_)
            show mm_Rn _ _ _ _ _ _ 121 [(0, _), (1, _)] [] _
            have hXF := an_X_fr (by decide) fF hXE
            have hfF := an_cfr_tr hfE (an_cfr_fr (by decide) fF)
            refine mg_aload_n 122 rfl rfl rfl ?_
            refine mg_iconst (v := 1) 123 rfl (by decide) rfl ?_
            refine mg_putZ 126 rfl rfl rfl (by first | exact Or.inl rfl | exact Or.inr rfl) rfl ?_
            generalize hMG : mm_up MF 7 8 1 = MG
            have hfG : an_cfr M MG := by rw [← hMG]; exact an_cfr_tr hfF (an_cfr_up (by decide))
            have eG : ∀ q, q ≠ 7 → MG q = MF q := fun q hq => by rw [← hMG]; simp [mm_up, hq]
            have hCX : st_CX MG true (MB 8) (MC 10) (ME 11) (MF 12) ru rt := by
              refine ⟨by rw [← hMG]; simp [mm_up, upd], fun _ => ⟨by rw [← hMG]; simp [mm_up, upd]; exact hXF.2.2.2, fun i hi => ?_, fun r hr => by rw [eG 13 (by decide)]; exact hXF.2.2.1 r hr⟩⟩
              rw [eG 8 (by decide), eG 10 (by decide), eG 11 (by decide), eG 12 (by decide), fF.1 8 (by decide) (by decide), fF.1 10 (by decide) (by decide), fF.1 11 (by decide) (by decide), fE.1 8 (by decide) (by decide), fE.1 10 (by decide) (by decide)]
              exact ⟨h8D i hi, h10D i, rfl, rfl⟩
            have hGG : st_gX MG n kd lv a b ru := by
              refine ⟨by rw [hfG 1 (by omega)]; exact hsz, fun i hi => ?_, fun r hr => by rw [hfG 5 (by omega)]; exact hG.2.2 r hr⟩
              rw [hfG 2 (by omega), hfG 3 (by omega), hfG 4 (by omega), hfG 6 (by omega)]
              exact hG.2.1 i hi
            refine mg_aload_n 127 rfl rfl rfl ?_
            refine mg_callV0 130 rfl (Nat.le_of_ble_eq_true rfl) pg_An_usedNodes rfl rfl ?_
            refine sp_usedNodes hGG hW hCX (fun _ => ⟨hU, fun i hi => an_ce_01 lE.2 hi⟩) (by omega) ?_
            show mm_Rn _ _ _ _ _ _ 130 [(0, _), (1, _)] [_] _
            refine mg_iret rfl rfl ?_
            exact k0 MG rt _ _ _ _ _ hrt ert hfG hCX lB hno lE lD (fun h => h.elim hR1 hR2) (fun h => hE (by obtain ⟨q, h1, h2, h3, h4⟩ := h; exact ⟨q, h1, h2, h3, by rw [h10D]; exact h4⟩)) lE2 lF
  · refine mg_bipush (v := (-3)) 20 rfl (by decide) rfl ?_
    refine mg_iret rfl rfl ?_
    exact kU c_15
set_option maxHeartbeats 2000000 in
set_option maxRecDepth 20000 in
theorem sp_PG_compile {d : Nat} {M : mm_M} {Q : mm_Qt} {x : Int32} {n : Nat} {kd lv : Nat → Nat} {a b ru : Nat → Int32} (hG : st_gX M n kd lv a b ru) (hW : st_wf n kd lv a b ru) (hd : 7 ≤ d) (kR : ¬ st_in 8 x → Q (some (.inl (-1))) M) (kU : ∀ r, r < 8 → x = nI r → ru r = -1 → Q (some (.inl (-3))) (mm_up M 7 8 0)) (k3 : ∀ r, r < 8 → x = nI r → ∀ M' rt us, rt < n → ru r = nI rt → an_cfr M M' → M' 7 8 = 0 → an_lst (an_cu n kd a b ru rt) us → an_U n kd a ru us → Q (some (.inl (-3))) M') (k4 : ∀ r, r < 8 → x = nI r → ∀ M' rt us em cm, rt < n → ru r = nI rt → an_cfr M M' → M' 7 8 = 0 → an_lst (an_cu n kd a b ru rt) us → ¬ an_U n kd a ru us → an_lst (an_ce n kd a b ru us) em → an_lst (an_cf 1 n kd a b ru us em) cm → an_R n kd a ru us cm r → Q (some (.inl (-4))) M') (k5 : ∀ r, r < 8 → x = nI r → ∀ M' rt us em cm, rt < n → ru r = nI rt → an_cfr M M' → M' 7 8 = 0 → an_lst (an_cu n kd a b ru rt) us → ¬ an_U n kd a ru us → an_lst (an_ce n kd a b ru us) em → an_lst (an_cf 1 n kd a b ru us em) cm → ¬ an_R n kd a ru us cm r → an_E n kd a us em → Q (some (.inl (-5))) M') (k0 : ∀ r, r < 8 → x = nI r → ∀ M' rt us em cm fi nx, rt < n → ru r = nI rt → an_cfr M M' → st_CX M' true us em fi nx ru rt → an_lst (an_cu n kd a b ru rt) us → ¬ an_U n kd a ru us → an_lst (an_ce n kd a b ru us) em → an_lst (an_cf 1 n kd a b ru us em) cm → ¬ an_R n kd a ru us cm r → ¬ an_E n kd a us em → an_lst (an_cf 0 n kd a b ru us em) fi → an_lst (an_cn n kd a b ru us em fi rt) nx → Q (some (.inl (nI (st_num (st_uq true us) n)))) M') : mm_Ev pg ly d 2 [.inr 0, .inl x] M Q := by
  obtain ⟨d, rfl⟩ : ∃ e, d = e + 1 := ⟨d - 1, by omega⟩
  refine mg_body yy_PG_compile pg_PG_compile (Nat.le_of_ble_eq_true rfl) ?_
  show mm_Rn _ _ _ _ _ _ 0 [(0, _), (1, _)] [] _
  refine mg_iload_n 1 rfl rfl rfl ?_
  refine mg_bipush (v := 8) 3 rfl (by decide) rfl ?_
  refine mg_callS2 6 rfl (by decide) (Nat.le_of_ble_eq_true rfl) pg_PG_within rfl ?_
  refine sp_within 8 (by omega) rfl (by omega) (fun r hr hx => ?_) (fun hno => ?_)
  · subst hx
    show mm_Rn _ _ _ _ _ _ 6 [(0, _), (1, _)] [_] _
    refine mg_if_eq 9 20 rfl rfl (by decide) (fun c_6 => absurd c_6 (by decide)) (fun c_6 => ?_)
    refine mg_aload_n 10 rfl rfl rfl ?_
    refine mg_getR 13 rfl rfl rfl rfl ?_
    refine mg_iload_n 14 rfl rfl rfl ?_
    refine mg_callV1 17 rfl (Nat.le_of_ble_eq_true rfl) pg_An_build rfl rfl ?_
    refine sp_build hG hW hr (by omega) (fun h => ?_) (fun M' rt us h1 h2 h3 h4 h5 h6 => ?_) (fun M' rt us em cm h1 h2 h3 h4 h5 h6 h7 h8 h9 => ?_) (fun M' rt us em cm h1 h2 h3 h4 h5 h6 h7 h8 h9 h10 => ?_) (fun M' rt us em cm fi nx h1 h2 h3 h4 h5 h6 h7 h8 h9 h10 h11 h12 => ?_)
    · show mm_Rn _ _ _ _ _ _ 17 [(0, _), (1, _)] [_] _
      refine mg_goto 21 rfl (by decide) ?_
      refine mg_iret rfl rfl ?_
      exact kU r hr rfl h
    · show mm_Rn _ _ _ _ _ _ 17 [(0, _), (1, _)] [_] _
      refine mg_goto 21 rfl (by decide) ?_
      refine mg_iret rfl rfl ?_
      exact k3 r hr rfl M' rt us h1 h2 h3 h4 h5 h6
    · show mm_Rn _ _ _ _ _ _ 17 [(0, _), (1, _)] [_] _
      refine mg_goto 21 rfl (by decide) ?_
      refine mg_iret rfl rfl ?_
      exact k4 r hr rfl M' rt us em cm h1 h2 h3 h4 h5 h6 h7 h8 h9
    · show mm_Rn _ _ _ _ _ _ 17 [(0, _), (1, _)] [_] _
      refine mg_goto 21 rfl (by decide) ?_
      refine mg_iret rfl rfl ?_
      exact k5 r hr rfl M' rt us em cm h1 h2 h3 h4 h5 h6 h7 h8 h9 h10
    · show mm_Rn _ _ _ _ _ _ 17 [(0, _), (1, _)] [_] _
      refine mg_goto 21 rfl (by decide) ?_
      refine mg_iret rfl rfl ?_
      exact k0 r hr rfl M' rt us em cm fi nx h1 h2 h3 h4 h5 h6 h7 h8 h9 h10 h11 h12
  · show mm_Rn _ _ _ _ _ _ 6 [(0, _), (1, _)] [_] _
    refine mg_if_eq 9 20 rfl rfl (by decide) (fun c_6 => ?_) (fun c_6 => absurd c_6 (by decide))
    refine mg_iconst (v := (-1)) 21 rfl (by decide) rfl ?_
    refine mg_iret rfl rfl ?_
    exact kR hno
