set_option maxHeartbeats 1000000 in
set_option maxRecDepth 20000 in
theorem sp_within0 {d : Nat} {M : mm_M} {Q : mm_Qt} {x b : Int32} (hd : 1 ≤ d) (k1 : ¬ x < 0 → ¬ b ≤ x → Q (some (.inl 1)) M) (k0 : x < 0 ∨ b ≤ x → Q (some (.inl 0)) M) : mm_Ev pg ly d 14 [.inl x, .inl b] M Q := by
  obtain ⟨d, rfl⟩ : ∃ e, d = e + 1 := ⟨d - 1, by omega⟩
  refine mg_body yy_PG_within pg_PG_within (Nat.le_of_ble_eq_true rfl) ?_
  show mm_Rn _ _ _ _ _ _ 0 [(0, _), (1, _)] [] _
  refine mg_iload_n 1 rfl rfl rfl ?_
  refine mg_if_lt 4 13 rfl rfl (by decide) (fun c_1 => ?_) (fun c_1 => ?_)
  · refine mg_iconst (v := 0) 14 rfl (by decide) rfl ?_
    refine mg_zret rfl rfl (by first | exact Or.inl rfl | exact Or.inr rfl) ?_
    first | exact k1 c_1 c_6 | exact k0 (Or.inl c_1) | exact k0 (Or.inr c_6)
  · refine mg_iload_n 5 rfl rfl rfl ?_
    refine mg_iload_n 6 rfl rfl rfl ?_
    refine mg_ic_ge 9 13 rfl rfl (by decide) (fun c_6 => ?_) (fun c_6 => ?_)
    · refine mg_iconst (v := 0) 14 rfl (by decide) rfl ?_
      refine mg_zret rfl rfl (by first | exact Or.inl rfl | exact Or.inr rfl) ?_
      first | exact k1 c_1 c_6 | exact k0 (Or.inl c_1) | exact k0 (Or.inr c_6)
    · refine mg_iconst (v := 1) 10 rfl (by decide) rfl ?_
      refine mg_goto 14 rfl (by decide) ?_
      refine mg_zret rfl rfl (by first | exact Or.inl rfl | exact Or.inr rfl) ?_
      first | exact k1 c_1 c_6 | exact k0 (Or.inl c_1) | exact k0 (Or.inr c_6)
theorem sp_within {d : Nat} {M : mm_M} {Q : mm_Qt} {x b : Int32} (m : Nat) (hm : m < 2 ^ 31) (hb : b = nI m) (hd : 1 ≤ d) (k1 : ∀ j, j < m → x = nI j → Q (some (.inl 1)) M) (k0 : ¬ st_in m x → Q (some (.inl 0)) M) : mm_Ev pg ly d 14 [.inl x, .inl b] M Q := by
  subst hb
  refine sp_within0 hd (fun h1 h2 => ?_) (fun h => k0 (st_in_no hm h))
  obtain ⟨j, hj, hx⟩ := st_in_of hm h1 h2
  exact k1 j hj hx
set_option maxHeartbeats 1000000 in
set_option maxRecDepth 20000 in
theorem sp_leftIsNode_0 {d : Nat} {M : mm_M} {Q : mm_Qt} (hd : 1 ≤ d) (k : Q (some (.inl 0)) M) : mm_Ev pg ly d 17 [.inr 1, .inl (nI 0)] M Q := by
  obtain ⟨d, rfl⟩ : ∃ e, d = e + 1 := ⟨d - 1, by omega⟩
  refine mg_body yy_Gr_leftIsNode pg_Gr_leftIsNode (Nat.le_of_ble_eq_true rfl) ?_
  show mm_Rn _ _ _ _ _ _ 0 [(0, _), (1, _)] [] _
  refine mg_iload_n 1 rfl rfl rfl ?_
  refine mg_iconst (v := 2) 2 rfl (by decide) rfl ?_
  refine mg_ic_eq 5 26 rfl rfl (by decide) (fun c_2 => absurd c_2 (by decide)) (fun c_2 => ?_)
  refine mg_iload_n 6 rfl rfl rfl ?_
  refine mg_iconst (v := 3) 7 rfl (by decide) rfl ?_
  refine mg_ic_eq 10 26 rfl rfl (by decide) (fun c_7 => absurd c_7 (by decide)) (fun c_7 => ?_)
  refine mg_iload_n 11 rfl rfl rfl ?_
  refine mg_iconst (v := 4) 12 rfl (by decide) rfl ?_
  refine mg_ic_eq 15 26 rfl rfl (by decide) (fun c_12 => absurd c_12 (by decide)) (fun c_12 => ?_)
  refine mg_iload_n 16 rfl rfl rfl ?_
  refine mg_iconst (v := 5) 17 rfl (by decide) rfl ?_
  refine mg_ic_eq 20 26 rfl rfl (by decide) (fun c_17 => absurd c_17 (by decide)) (fun c_17 => ?_)
  refine mg_iload_n 21 rfl rfl rfl ?_
  refine mg_bipush (v := 7) 23 rfl (by decide) rfl ?_
  refine mg_ic_ne 26 30 rfl rfl (by decide) (fun c_23 => ?_) (fun c_23 => absurd c_23 (by decide))
  refine mg_iconst (v := 0) 31 rfl (by decide) rfl ?_
  refine mg_zret rfl rfl (by first | exact Or.inl rfl | exact Or.inr rfl) ?_
  exact k
set_option maxHeartbeats 1000000 in
set_option maxRecDepth 20000 in
theorem sp_leftIsNode_1 {d : Nat} {M : mm_M} {Q : mm_Qt} (hd : 1 ≤ d) (k : Q (some (.inl 0)) M) : mm_Ev pg ly d 17 [.inr 1, .inl (nI 1)] M Q := by
  obtain ⟨d, rfl⟩ : ∃ e, d = e + 1 := ⟨d - 1, by omega⟩
  refine mg_body yy_Gr_leftIsNode pg_Gr_leftIsNode (Nat.le_of_ble_eq_true rfl) ?_
  show mm_Rn _ _ _ _ _ _ 0 [(0, _), (1, _)] [] _
  refine mg_iload_n 1 rfl rfl rfl ?_
  refine mg_iconst (v := 2) 2 rfl (by decide) rfl ?_
  refine mg_ic_eq 5 26 rfl rfl (by decide) (fun c_2 => absurd c_2 (by decide)) (fun c_2 => ?_)
  refine mg_iload_n 6 rfl rfl rfl ?_
  refine mg_iconst (v := 3) 7 rfl (by decide) rfl ?_
  refine mg_ic_eq 10 26 rfl rfl (by decide) (fun c_7 => absurd c_7 (by decide)) (fun c_7 => ?_)
  refine mg_iload_n 11 rfl rfl rfl ?_
  refine mg_iconst (v := 4) 12 rfl (by decide) rfl ?_
  refine mg_ic_eq 15 26 rfl rfl (by decide) (fun c_12 => absurd c_12 (by decide)) (fun c_12 => ?_)
  refine mg_iload_n 16 rfl rfl rfl ?_
  refine mg_iconst (v := 5) 17 rfl (by decide) rfl ?_
  refine mg_ic_eq 20 26 rfl rfl (by decide) (fun c_17 => absurd c_17 (by decide)) (fun c_17 => ?_)
  refine mg_iload_n 21 rfl rfl rfl ?_
  refine mg_bipush (v := 7) 23 rfl (by decide) rfl ?_
  refine mg_ic_ne 26 30 rfl rfl (by decide) (fun c_23 => ?_) (fun c_23 => absurd c_23 (by decide))
  refine mg_iconst (v := 0) 31 rfl (by decide) rfl ?_
  refine mg_zret rfl rfl (by first | exact Or.inl rfl | exact Or.inr rfl) ?_
  exact k
set_option maxHeartbeats 1000000 in
set_option maxRecDepth 20000 in
theorem sp_leftIsNode_2 {d : Nat} {M : mm_M} {Q : mm_Qt} (hd : 1 ≤ d) (k : Q (some (.inl 1)) M) : mm_Ev pg ly d 17 [.inr 1, .inl (nI 2)] M Q := by
  obtain ⟨d, rfl⟩ : ∃ e, d = e + 1 := ⟨d - 1, by omega⟩
  refine mg_body yy_Gr_leftIsNode pg_Gr_leftIsNode (Nat.le_of_ble_eq_true rfl) ?_
  show mm_Rn _ _ _ _ _ _ 0 [(0, _), (1, _)] [] _
  refine mg_iload_n 1 rfl rfl rfl ?_
  refine mg_iconst (v := 2) 2 rfl (by decide) rfl ?_
  refine mg_ic_eq 5 26 rfl rfl (by decide) (fun c_2 => ?_) (fun c_2 => absurd c_2 (by decide))
  refine mg_iconst (v := 1) 27 rfl (by decide) rfl ?_
  refine mg_goto 31 rfl (by decide) ?_
  refine mg_zret rfl rfl (by first | exact Or.inl rfl | exact Or.inr rfl) ?_
  exact k
set_option maxHeartbeats 1000000 in
set_option maxRecDepth 20000 in
theorem sp_leftIsNode_3 {d : Nat} {M : mm_M} {Q : mm_Qt} (hd : 1 ≤ d) (k : Q (some (.inl 1)) M) : mm_Ev pg ly d 17 [.inr 1, .inl (nI 3)] M Q := by
  obtain ⟨d, rfl⟩ : ∃ e, d = e + 1 := ⟨d - 1, by omega⟩
  refine mg_body yy_Gr_leftIsNode pg_Gr_leftIsNode (Nat.le_of_ble_eq_true rfl) ?_
  show mm_Rn _ _ _ _ _ _ 0 [(0, _), (1, _)] [] _
  refine mg_iload_n 1 rfl rfl rfl ?_
  refine mg_iconst (v := 2) 2 rfl (by decide) rfl ?_
  refine mg_ic_eq 5 26 rfl rfl (by decide) (fun c_2 => absurd c_2 (by decide)) (fun c_2 => ?_)
  refine mg_iload_n 6 rfl rfl rfl ?_
  refine mg_iconst (v := 3) 7 rfl (by decide) rfl ?_
  refine mg_ic_eq 10 26 rfl rfl (by decide) (fun c_7 => ?_) (fun c_7 => absurd c_7 (by decide))
  refine mg_iconst (v := 1) 27 rfl (by decide) rfl ?_
  refine mg_goto 31 rfl (by decide) ?_
  refine mg_zret rfl rfl (by first | exact Or.inl rfl | exact Or.inr rfl) ?_
  exact k
set_option maxHeartbeats 1000000 in
set_option maxRecDepth 20000 in
theorem sp_leftIsNode_4 {d : Nat} {M : mm_M} {Q : mm_Qt} (hd : 1 ≤ d) (k : Q (some (.inl 1)) M) : mm_Ev pg ly d 17 [.inr 1, .inl (nI 4)] M Q := by
  obtain ⟨d, rfl⟩ : ∃ e, d = e + 1 := ⟨d - 1, by omega⟩
  refine mg_body yy_Gr_leftIsNode pg_Gr_leftIsNode (Nat.le_of_ble_eq_true rfl) ?_
  show mm_Rn _ _ _ _ _ _ 0 [(0, _), (1, _)] [] _
  refine mg_iload_n 1 rfl rfl rfl ?_
  refine mg_iconst (v := 2) 2 rfl (by decide) rfl ?_
  refine mg_ic_eq 5 26 rfl rfl (by decide) (fun c_2 => absurd c_2 (by decide)) (fun c_2 => ?_)
  refine mg_iload_n 6 rfl rfl rfl ?_
  refine mg_iconst (v := 3) 7 rfl (by decide) rfl ?_
  refine mg_ic_eq 10 26 rfl rfl (by decide) (fun c_7 => absurd c_7 (by decide)) (fun c_7 => ?_)
  refine mg_iload_n 11 rfl rfl rfl ?_
  refine mg_iconst (v := 4) 12 rfl (by decide) rfl ?_
  refine mg_ic_eq 15 26 rfl rfl (by decide) (fun c_12 => ?_) (fun c_12 => absurd c_12 (by decide))
  refine mg_iconst (v := 1) 27 rfl (by decide) rfl ?_
  refine mg_goto 31 rfl (by decide) ?_
  refine mg_zret rfl rfl (by first | exact Or.inl rfl | exact Or.inr rfl) ?_
  exact k
set_option maxHeartbeats 1000000 in
set_option maxRecDepth 20000 in
theorem sp_leftIsNode_5 {d : Nat} {M : mm_M} {Q : mm_Qt} (hd : 1 ≤ d) (k : Q (some (.inl 1)) M) : mm_Ev pg ly d 17 [.inr 1, .inl (nI 5)] M Q := by
  obtain ⟨d, rfl⟩ : ∃ e, d = e + 1 := ⟨d - 1, by omega⟩
  refine mg_body yy_Gr_leftIsNode pg_Gr_leftIsNode (Nat.le_of_ble_eq_true rfl) ?_
  show mm_Rn _ _ _ _ _ _ 0 [(0, _), (1, _)] [] _
  refine mg_iload_n 1 rfl rfl rfl ?_
  refine mg_iconst (v := 2) 2 rfl (by decide) rfl ?_
  refine mg_ic_eq 5 26 rfl rfl (by decide) (fun c_2 => absurd c_2 (by decide)) (fun c_2 => ?_)
  refine mg_iload_n 6 rfl rfl rfl ?_
  refine mg_iconst (v := 3) 7 rfl (by decide) rfl ?_
  refine mg_ic_eq 10 26 rfl rfl (by decide) (fun c_7 => absurd c_7 (by decide)) (fun c_7 => ?_)
  refine mg_iload_n 11 rfl rfl rfl ?_
  refine mg_iconst (v := 4) 12 rfl (by decide) rfl ?_
  refine mg_ic_eq 15 26 rfl rfl (by decide) (fun c_12 => absurd c_12 (by decide)) (fun c_12 => ?_)
  refine mg_iload_n 16 rfl rfl rfl ?_
  refine mg_iconst (v := 5) 17 rfl (by decide) rfl ?_
  refine mg_ic_eq 20 26 rfl rfl (by decide) (fun c_17 => ?_) (fun c_17 => absurd c_17 (by decide))
  refine mg_iconst (v := 1) 27 rfl (by decide) rfl ?_
  refine mg_goto 31 rfl (by decide) ?_
  refine mg_zret rfl rfl (by first | exact Or.inl rfl | exact Or.inr rfl) ?_
  exact k
set_option maxHeartbeats 1000000 in
set_option maxRecDepth 20000 in
theorem sp_leftIsNode_6 {d : Nat} {M : mm_M} {Q : mm_Qt} (hd : 1 ≤ d) (k : Q (some (.inl 0)) M) : mm_Ev pg ly d 17 [.inr 1, .inl (nI 6)] M Q := by
  obtain ⟨d, rfl⟩ : ∃ e, d = e + 1 := ⟨d - 1, by omega⟩
  refine mg_body yy_Gr_leftIsNode pg_Gr_leftIsNode (Nat.le_of_ble_eq_true rfl) ?_
  show mm_Rn _ _ _ _ _ _ 0 [(0, _), (1, _)] [] _
  refine mg_iload_n 1 rfl rfl rfl ?_
  refine mg_iconst (v := 2) 2 rfl (by decide) rfl ?_
  refine mg_ic_eq 5 26 rfl rfl (by decide) (fun c_2 => absurd c_2 (by decide)) (fun c_2 => ?_)
  refine mg_iload_n 6 rfl rfl rfl ?_
  refine mg_iconst (v := 3) 7 rfl (by decide) rfl ?_
  refine mg_ic_eq 10 26 rfl rfl (by decide) (fun c_7 => absurd c_7 (by decide)) (fun c_7 => ?_)
  refine mg_iload_n 11 rfl rfl rfl ?_
  refine mg_iconst (v := 4) 12 rfl (by decide) rfl ?_
  refine mg_ic_eq 15 26 rfl rfl (by decide) (fun c_12 => absurd c_12 (by decide)) (fun c_12 => ?_)
  refine mg_iload_n 16 rfl rfl rfl ?_
  refine mg_iconst (v := 5) 17 rfl (by decide) rfl ?_
  refine mg_ic_eq 20 26 rfl rfl (by decide) (fun c_17 => absurd c_17 (by decide)) (fun c_17 => ?_)
  refine mg_iload_n 21 rfl rfl rfl ?_
  refine mg_bipush (v := 7) 23 rfl (by decide) rfl ?_
  refine mg_ic_ne 26 30 rfl rfl (by decide) (fun c_23 => ?_) (fun c_23 => absurd c_23 (by decide))
  refine mg_iconst (v := 0) 31 rfl (by decide) rfl ?_
  refine mg_zret rfl rfl (by first | exact Or.inl rfl | exact Or.inr rfl) ?_
  exact k
set_option maxHeartbeats 1000000 in
set_option maxRecDepth 20000 in
theorem sp_leftIsNode_7 {d : Nat} {M : mm_M} {Q : mm_Qt} (hd : 1 ≤ d) (k : Q (some (.inl 1)) M) : mm_Ev pg ly d 17 [.inr 1, .inl (nI 7)] M Q := by
  obtain ⟨d, rfl⟩ : ∃ e, d = e + 1 := ⟨d - 1, by omega⟩
  refine mg_body yy_Gr_leftIsNode pg_Gr_leftIsNode (Nat.le_of_ble_eq_true rfl) ?_
  show mm_Rn _ _ _ _ _ _ 0 [(0, _), (1, _)] [] _
  refine mg_iload_n 1 rfl rfl rfl ?_
  refine mg_iconst (v := 2) 2 rfl (by decide) rfl ?_
  refine mg_ic_eq 5 26 rfl rfl (by decide) (fun c_2 => absurd c_2 (by decide)) (fun c_2 => ?_)
  refine mg_iload_n 6 rfl rfl rfl ?_
  refine mg_iconst (v := 3) 7 rfl (by decide) rfl ?_
  refine mg_ic_eq 10 26 rfl rfl (by decide) (fun c_7 => absurd c_7 (by decide)) (fun c_7 => ?_)
  refine mg_iload_n 11 rfl rfl rfl ?_
  refine mg_iconst (v := 4) 12 rfl (by decide) rfl ?_
  refine mg_ic_eq 15 26 rfl rfl (by decide) (fun c_12 => absurd c_12 (by decide)) (fun c_12 => ?_)
  refine mg_iload_n 16 rfl rfl rfl ?_
  refine mg_iconst (v := 5) 17 rfl (by decide) rfl ?_
  refine mg_ic_eq 20 26 rfl rfl (by decide) (fun c_17 => absurd c_17 (by decide)) (fun c_17 => ?_)
  refine mg_iload_n 21 rfl rfl rfl ?_
  refine mg_bipush (v := 7) 23 rfl (by decide) rfl ?_
  refine mg_ic_ne 26 30 rfl rfl (by decide) (fun c_23 => absurd c_23 (by decide)) (fun c_23 => ?_)
  refine mg_iconst (v := 1) 27 rfl (by decide) rfl ?_
  refine mg_goto 31 rfl (by decide) ?_
  refine mg_zret rfl rfl (by first | exact Or.inl rfl | exact Or.inr rfl) ?_
  exact k
set_option maxHeartbeats 1000000 in
set_option maxRecDepth 20000 in
theorem sp_leftIsNode_8 {d : Nat} {M : mm_M} {Q : mm_Qt} (hd : 1 ≤ d) (k : Q (some (.inl 0)) M) : mm_Ev pg ly d 17 [.inr 1, .inl (nI 8)] M Q := by
  obtain ⟨d, rfl⟩ : ∃ e, d = e + 1 := ⟨d - 1, by omega⟩
  refine mg_body yy_Gr_leftIsNode pg_Gr_leftIsNode (Nat.le_of_ble_eq_true rfl) ?_
  show mm_Rn _ _ _ _ _ _ 0 [(0, _), (1, _)] [] _
  refine mg_iload_n 1 rfl rfl rfl ?_
  refine mg_iconst (v := 2) 2 rfl (by decide) rfl ?_
  refine mg_ic_eq 5 26 rfl rfl (by decide) (fun c_2 => absurd c_2 (by decide)) (fun c_2 => ?_)
  refine mg_iload_n 6 rfl rfl rfl ?_
  refine mg_iconst (v := 3) 7 rfl (by decide) rfl ?_
  refine mg_ic_eq 10 26 rfl rfl (by decide) (fun c_7 => absurd c_7 (by decide)) (fun c_7 => ?_)
  refine mg_iload_n 11 rfl rfl rfl ?_
  refine mg_iconst (v := 4) 12 rfl (by decide) rfl ?_
  refine mg_ic_eq 15 26 rfl rfl (by decide) (fun c_12 => absurd c_12 (by decide)) (fun c_12 => ?_)
  refine mg_iload_n 16 rfl rfl rfl ?_
  refine mg_iconst (v := 5) 17 rfl (by decide) rfl ?_
  refine mg_ic_eq 20 26 rfl rfl (by decide) (fun c_17 => absurd c_17 (by decide)) (fun c_17 => ?_)
  refine mg_iload_n 21 rfl rfl rfl ?_
  refine mg_bipush (v := 7) 23 rfl (by decide) rfl ?_
  refine mg_ic_ne 26 30 rfl rfl (by decide) (fun c_23 => ?_) (fun c_23 => absurd c_23 (by decide))
  refine mg_iconst (v := 0) 31 rfl (by decide) rfl ?_
  refine mg_zret rfl rfl (by first | exact Or.inl rfl | exact Or.inr rfl) ?_
  exact k
theorem sp_leftIsNode {d : Nat} {M : mm_M} {Q : mm_Qt} {k : Nat} (hk : k < 9) (hd : 1 ≤ d) (k1 : st_nl k = true → Q (some (.inl 1)) M) (k0 : st_nl k = false → Q (some (.inl 0)) M) : mm_Ev pg ly d 17 [.inr 1, .inl (nI k)] M Q := by
  rcases st_k9 hk with rfl | rfl | rfl | rfl | rfl | rfl | rfl | rfl | rfl
  · exact sp_leftIsNode_0 hd (k0 rfl)
  · exact sp_leftIsNode_1 hd (k0 rfl)
  · exact sp_leftIsNode_2 hd (k1 rfl)
  · exact sp_leftIsNode_3 hd (k1 rfl)
  · exact sp_leftIsNode_4 hd (k1 rfl)
  · exact sp_leftIsNode_5 hd (k1 rfl)
  · exact sp_leftIsNode_6 hd (k0 rfl)
  · exact sp_leftIsNode_7 hd (k1 rfl)
  · exact sp_leftIsNode_8 hd (k0 rfl)
set_option maxHeartbeats 1000000 in
set_option maxRecDepth 20000 in
theorem sp_rightIsNode_0 {d : Nat} {M : mm_M} {Q : mm_Qt} (hd : 1 ≤ d) (k : Q (some (.inl 0)) M) : mm_Ev pg ly d 18 [.inr 1, .inl (nI 0)] M Q := by
  obtain ⟨d, rfl⟩ : ∃ e, d = e + 1 := ⟨d - 1, by omega⟩
  refine mg_body yy_Gr_rightIsNode pg_Gr_rightIsNode (Nat.le_of_ble_eq_true rfl) ?_
  show mm_Rn _ _ _ _ _ _ 0 [(0, _), (1, _)] [] _
  refine mg_iload_n 1 rfl rfl rfl ?_
  refine mg_iconst (v := 2) 2 rfl (by decide) rfl ?_
  refine mg_ic_eq 5 22 rfl rfl (by decide) (fun c_2 => absurd c_2 (by decide)) (fun c_2 => ?_)
  refine mg_iload_n 6 rfl rfl rfl ?_
  refine mg_iconst (v := 3) 7 rfl (by decide) rfl ?_
  refine mg_ic_eq 10 22 rfl rfl (by decide) (fun c_7 => absurd c_7 (by decide)) (fun c_7 => ?_)
  refine mg_iload_n 11 rfl rfl rfl ?_
  refine mg_bipush (v := 7) 13 rfl (by decide) rfl ?_
  refine mg_ic_eq 16 22 rfl rfl (by decide) (fun c_13 => absurd c_13 (by decide)) (fun c_13 => ?_)
  refine mg_iload_n 17 rfl rfl rfl ?_
  refine mg_bipush (v := 8) 19 rfl (by decide) rfl ?_
  refine mg_ic_ne 22 26 rfl rfl (by decide) (fun c_19 => ?_) (fun c_19 => absurd c_19 (by decide))
  refine mg_iconst (v := 0) 27 rfl (by decide) rfl ?_
  refine mg_zret rfl rfl (by first | exact Or.inl rfl | exact Or.inr rfl) ?_
  exact k
set_option maxHeartbeats 1000000 in
set_option maxRecDepth 20000 in
theorem sp_rightIsNode_1 {d : Nat} {M : mm_M} {Q : mm_Qt} (hd : 1 ≤ d) (k : Q (some (.inl 0)) M) : mm_Ev pg ly d 18 [.inr 1, .inl (nI 1)] M Q := by
  obtain ⟨d, rfl⟩ : ∃ e, d = e + 1 := ⟨d - 1, by omega⟩
  refine mg_body yy_Gr_rightIsNode pg_Gr_rightIsNode (Nat.le_of_ble_eq_true rfl) ?_
  show mm_Rn _ _ _ _ _ _ 0 [(0, _), (1, _)] [] _
  refine mg_iload_n 1 rfl rfl rfl ?_
  refine mg_iconst (v := 2) 2 rfl (by decide) rfl ?_
  refine mg_ic_eq 5 22 rfl rfl (by decide) (fun c_2 => absurd c_2 (by decide)) (fun c_2 => ?_)
  refine mg_iload_n 6 rfl rfl rfl ?_
  refine mg_iconst (v := 3) 7 rfl (by decide) rfl ?_
  refine mg_ic_eq 10 22 rfl rfl (by decide) (fun c_7 => absurd c_7 (by decide)) (fun c_7 => ?_)
  refine mg_iload_n 11 rfl rfl rfl ?_
  refine mg_bipush (v := 7) 13 rfl (by decide) rfl ?_
  refine mg_ic_eq 16 22 rfl rfl (by decide) (fun c_13 => absurd c_13 (by decide)) (fun c_13 => ?_)
  refine mg_iload_n 17 rfl rfl rfl ?_
  refine mg_bipush (v := 8) 19 rfl (by decide) rfl ?_
  refine mg_ic_ne 22 26 rfl rfl (by decide) (fun c_19 => ?_) (fun c_19 => absurd c_19 (by decide))
  refine mg_iconst (v := 0) 27 rfl (by decide) rfl ?_
  refine mg_zret rfl rfl (by first | exact Or.inl rfl | exact Or.inr rfl) ?_
  exact k
set_option maxHeartbeats 1000000 in
set_option maxRecDepth 20000 in
theorem sp_rightIsNode_2 {d : Nat} {M : mm_M} {Q : mm_Qt} (hd : 1 ≤ d) (k : Q (some (.inl 1)) M) : mm_Ev pg ly d 18 [.inr 1, .inl (nI 2)] M Q := by
  obtain ⟨d, rfl⟩ : ∃ e, d = e + 1 := ⟨d - 1, by omega⟩
  refine mg_body yy_Gr_rightIsNode pg_Gr_rightIsNode (Nat.le_of_ble_eq_true rfl) ?_
  show mm_Rn _ _ _ _ _ _ 0 [(0, _), (1, _)] [] _
  refine mg_iload_n 1 rfl rfl rfl ?_
  refine mg_iconst (v := 2) 2 rfl (by decide) rfl ?_
  refine mg_ic_eq 5 22 rfl rfl (by decide) (fun c_2 => ?_) (fun c_2 => absurd c_2 (by decide))
  refine mg_iconst (v := 1) 23 rfl (by decide) rfl ?_
  refine mg_goto 27 rfl (by decide) ?_
  refine mg_zret rfl rfl (by first | exact Or.inl rfl | exact Or.inr rfl) ?_
  exact k
set_option maxHeartbeats 1000000 in
set_option maxRecDepth 20000 in
theorem sp_rightIsNode_3 {d : Nat} {M : mm_M} {Q : mm_Qt} (hd : 1 ≤ d) (k : Q (some (.inl 1)) M) : mm_Ev pg ly d 18 [.inr 1, .inl (nI 3)] M Q := by
  obtain ⟨d, rfl⟩ : ∃ e, d = e + 1 := ⟨d - 1, by omega⟩
  refine mg_body yy_Gr_rightIsNode pg_Gr_rightIsNode (Nat.le_of_ble_eq_true rfl) ?_
  show mm_Rn _ _ _ _ _ _ 0 [(0, _), (1, _)] [] _
  refine mg_iload_n 1 rfl rfl rfl ?_
  refine mg_iconst (v := 2) 2 rfl (by decide) rfl ?_
  refine mg_ic_eq 5 22 rfl rfl (by decide) (fun c_2 => absurd c_2 (by decide)) (fun c_2 => ?_)
  refine mg_iload_n 6 rfl rfl rfl ?_
  refine mg_iconst (v := 3) 7 rfl (by decide) rfl ?_
  refine mg_ic_eq 10 22 rfl rfl (by decide) (fun c_7 => ?_) (fun c_7 => absurd c_7 (by decide))
  refine mg_iconst (v := 1) 23 rfl (by decide) rfl ?_
  refine mg_goto 27 rfl (by decide) ?_
  refine mg_zret rfl rfl (by first | exact Or.inl rfl | exact Or.inr rfl) ?_
  exact k
set_option maxHeartbeats 1000000 in
set_option maxRecDepth 20000 in
theorem sp_rightIsNode_4 {d : Nat} {M : mm_M} {Q : mm_Qt} (hd : 1 ≤ d) (k : Q (some (.inl 0)) M) : mm_Ev pg ly d 18 [.inr 1, .inl (nI 4)] M Q := by
  obtain ⟨d, rfl⟩ : ∃ e, d = e + 1 := ⟨d - 1, by omega⟩
  refine mg_body yy_Gr_rightIsNode pg_Gr_rightIsNode (Nat.le_of_ble_eq_true rfl) ?_
  show mm_Rn _ _ _ _ _ _ 0 [(0, _), (1, _)] [] _
  refine mg_iload_n 1 rfl rfl rfl ?_
  refine mg_iconst (v := 2) 2 rfl (by decide) rfl ?_
  refine mg_ic_eq 5 22 rfl rfl (by decide) (fun c_2 => absurd c_2 (by decide)) (fun c_2 => ?_)
  refine mg_iload_n 6 rfl rfl rfl ?_
  refine mg_iconst (v := 3) 7 rfl (by decide) rfl ?_
  refine mg_ic_eq 10 22 rfl rfl (by decide) (fun c_7 => absurd c_7 (by decide)) (fun c_7 => ?_)
  refine mg_iload_n 11 rfl rfl rfl ?_
  refine mg_bipush (v := 7) 13 rfl (by decide) rfl ?_
  refine mg_ic_eq 16 22 rfl rfl (by decide) (fun c_13 => absurd c_13 (by decide)) (fun c_13 => ?_)
  refine mg_iload_n 17 rfl rfl rfl ?_
  refine mg_bipush (v := 8) 19 rfl (by decide) rfl ?_
  refine mg_ic_ne 22 26 rfl rfl (by decide) (fun c_19 => ?_) (fun c_19 => absurd c_19 (by decide))
  refine mg_iconst (v := 0) 27 rfl (by decide) rfl ?_
  refine mg_zret rfl rfl (by first | exact Or.inl rfl | exact Or.inr rfl) ?_
  exact k
set_option maxHeartbeats 1000000 in
set_option maxRecDepth 20000 in
theorem sp_rightIsNode_5 {d : Nat} {M : mm_M} {Q : mm_Qt} (hd : 1 ≤ d) (k : Q (some (.inl 0)) M) : mm_Ev pg ly d 18 [.inr 1, .inl (nI 5)] M Q := by
  obtain ⟨d, rfl⟩ : ∃ e, d = e + 1 := ⟨d - 1, by omega⟩
  refine mg_body yy_Gr_rightIsNode pg_Gr_rightIsNode (Nat.le_of_ble_eq_true rfl) ?_
  show mm_Rn _ _ _ _ _ _ 0 [(0, _), (1, _)] [] _
  refine mg_iload_n 1 rfl rfl rfl ?_
  refine mg_iconst (v := 2) 2 rfl (by decide) rfl ?_
  refine mg_ic_eq 5 22 rfl rfl (by decide) (fun c_2 => absurd c_2 (by decide)) (fun c_2 => ?_)
  refine mg_iload_n 6 rfl rfl rfl ?_
  refine mg_iconst (v := 3) 7 rfl (by decide) rfl ?_
  refine mg_ic_eq 10 22 rfl rfl (by decide) (fun c_7 => absurd c_7 (by decide)) (fun c_7 => ?_)
  refine mg_iload_n 11 rfl rfl rfl ?_
  refine mg_bipush (v := 7) 13 rfl (by decide) rfl ?_
  refine mg_ic_eq 16 22 rfl rfl (by decide) (fun c_13 => absurd c_13 (by decide)) (fun c_13 => ?_)
  refine mg_iload_n 17 rfl rfl rfl ?_
  refine mg_bipush (v := 8) 19 rfl (by decide) rfl ?_
  refine mg_ic_ne 22 26 rfl rfl (by decide) (fun c_19 => ?_) (fun c_19 => absurd c_19 (by decide))
  refine mg_iconst (v := 0) 27 rfl (by decide) rfl ?_
  refine mg_zret rfl rfl (by first | exact Or.inl rfl | exact Or.inr rfl) ?_
  exact k
set_option maxHeartbeats 1000000 in
set_option maxRecDepth 20000 in
theorem sp_rightIsNode_6 {d : Nat} {M : mm_M} {Q : mm_Qt} (hd : 1 ≤ d) (k : Q (some (.inl 0)) M) : mm_Ev pg ly d 18 [.inr 1, .inl (nI 6)] M Q := by
  obtain ⟨d, rfl⟩ : ∃ e, d = e + 1 := ⟨d - 1, by omega⟩
  refine mg_body yy_Gr_rightIsNode pg_Gr_rightIsNode (Nat.le_of_ble_eq_true rfl) ?_
  show mm_Rn _ _ _ _ _ _ 0 [(0, _), (1, _)] [] _
  refine mg_iload_n 1 rfl rfl rfl ?_
  refine mg_iconst (v := 2) 2 rfl (by decide) rfl ?_
  refine mg_ic_eq 5 22 rfl rfl (by decide) (fun c_2 => absurd c_2 (by decide)) (fun c_2 => ?_)
  refine mg_iload_n 6 rfl rfl rfl ?_
  refine mg_iconst (v := 3) 7 rfl (by decide) rfl ?_
  refine mg_ic_eq 10 22 rfl rfl (by decide) (fun c_7 => absurd c_7 (by decide)) (fun c_7 => ?_)
  refine mg_iload_n 11 rfl rfl rfl ?_
  refine mg_bipush (v := 7) 13 rfl (by decide) rfl ?_
  refine mg_ic_eq 16 22 rfl rfl (by decide) (fun c_13 => absurd c_13 (by decide)) (fun c_13 => ?_)
  refine mg_iload_n 17 rfl rfl rfl ?_
  refine mg_bipush (v := 8) 19 rfl (by decide) rfl ?_
  refine mg_ic_ne 22 26 rfl rfl (by decide) (fun c_19 => ?_) (fun c_19 => absurd c_19 (by decide))
  refine mg_iconst (v := 0) 27 rfl (by decide) rfl ?_
  refine mg_zret rfl rfl (by first | exact Or.inl rfl | exact Or.inr rfl) ?_
  exact k
set_option maxHeartbeats 1000000 in
set_option maxRecDepth 20000 in
theorem sp_rightIsNode_7 {d : Nat} {M : mm_M} {Q : mm_Qt} (hd : 1 ≤ d) (k : Q (some (.inl 1)) M) : mm_Ev pg ly d 18 [.inr 1, .inl (nI 7)] M Q := by
  obtain ⟨d, rfl⟩ : ∃ e, d = e + 1 := ⟨d - 1, by omega⟩
  refine mg_body yy_Gr_rightIsNode pg_Gr_rightIsNode (Nat.le_of_ble_eq_true rfl) ?_
  show mm_Rn _ _ _ _ _ _ 0 [(0, _), (1, _)] [] _
  refine mg_iload_n 1 rfl rfl rfl ?_
  refine mg_iconst (v := 2) 2 rfl (by decide) rfl ?_
  refine mg_ic_eq 5 22 rfl rfl (by decide) (fun c_2 => absurd c_2 (by decide)) (fun c_2 => ?_)
  refine mg_iload_n 6 rfl rfl rfl ?_
  refine mg_iconst (v := 3) 7 rfl (by decide) rfl ?_
  refine mg_ic_eq 10 22 rfl rfl (by decide) (fun c_7 => absurd c_7 (by decide)) (fun c_7 => ?_)
  refine mg_iload_n 11 rfl rfl rfl ?_
  refine mg_bipush (v := 7) 13 rfl (by decide) rfl ?_
  refine mg_ic_eq 16 22 rfl rfl (by decide) (fun c_13 => ?_) (fun c_13 => absurd c_13 (by decide))
  refine mg_iconst (v := 1) 23 rfl (by decide) rfl ?_
  refine mg_goto 27 rfl (by decide) ?_
  refine mg_zret rfl rfl (by first | exact Or.inl rfl | exact Or.inr rfl) ?_
  exact k
set_option maxHeartbeats 1000000 in
set_option maxRecDepth 20000 in
theorem sp_rightIsNode_8 {d : Nat} {M : mm_M} {Q : mm_Qt} (hd : 1 ≤ d) (k : Q (some (.inl 1)) M) : mm_Ev pg ly d 18 [.inr 1, .inl (nI 8)] M Q := by
  obtain ⟨d, rfl⟩ : ∃ e, d = e + 1 := ⟨d - 1, by omega⟩
  refine mg_body yy_Gr_rightIsNode pg_Gr_rightIsNode (Nat.le_of_ble_eq_true rfl) ?_
  show mm_Rn _ _ _ _ _ _ 0 [(0, _), (1, _)] [] _
  refine mg_iload_n 1 rfl rfl rfl ?_
  refine mg_iconst (v := 2) 2 rfl (by decide) rfl ?_
  refine mg_ic_eq 5 22 rfl rfl (by decide) (fun c_2 => absurd c_2 (by decide)) (fun c_2 => ?_)
  refine mg_iload_n 6 rfl rfl rfl ?_
  refine mg_iconst (v := 3) 7 rfl (by decide) rfl ?_
  refine mg_ic_eq 10 22 rfl rfl (by decide) (fun c_7 => absurd c_7 (by decide)) (fun c_7 => ?_)
  refine mg_iload_n 11 rfl rfl rfl ?_
  refine mg_bipush (v := 7) 13 rfl (by decide) rfl ?_
  refine mg_ic_eq 16 22 rfl rfl (by decide) (fun c_13 => absurd c_13 (by decide)) (fun c_13 => ?_)
  refine mg_iload_n 17 rfl rfl rfl ?_
  refine mg_bipush (v := 8) 19 rfl (by decide) rfl ?_
  refine mg_ic_ne 22 26 rfl rfl (by decide) (fun c_19 => absurd c_19 (by decide)) (fun c_19 => ?_)
  refine mg_iconst (v := 1) 23 rfl (by decide) rfl ?_
  refine mg_goto 27 rfl (by decide) ?_
  refine mg_zret rfl rfl (by first | exact Or.inl rfl | exact Or.inr rfl) ?_
  exact k
theorem sp_rightIsNode {d : Nat} {M : mm_M} {Q : mm_Qt} {k : Nat} (hk : k < 9) (hd : 1 ≤ d) (k1 : st_nr k = true → Q (some (.inl 1)) M) (k0 : st_nr k = false → Q (some (.inl 0)) M) : mm_Ev pg ly d 18 [.inr 1, .inl (nI k)] M Q := by
  rcases st_k9 hk with rfl | rfl | rfl | rfl | rfl | rfl | rfl | rfl | rfl
  · exact sp_rightIsNode_0 hd (k0 rfl)
  · exact sp_rightIsNode_1 hd (k0 rfl)
  · exact sp_rightIsNode_2 hd (k1 rfl)
  · exact sp_rightIsNode_3 hd (k1 rfl)
  · exact sp_rightIsNode_4 hd (k0 rfl)
  · exact sp_rightIsNode_5 hd (k0 rfl)
  · exact sp_rightIsNode_6 hd (k0 rfl)
  · exact sp_rightIsNode_7 hd (k1 rfl)
  · exact sp_rightIsNode_8 hd (k1 rfl)
set_option maxHeartbeats 1000000 in
set_option maxRecDepth 20000 in
theorem sp_leftFits_0 {d : Nat} {M : mm_M} {Q : mm_Qt} {x : Int32} {n : Nat} {kd lv : Nat → Nat} {a b ru : Nat → Int32} (hG : st_gX M n kd lv a b ru) (hW : st_wf n kd lv a b ru) (hd : 2 ≤ d) (k1 : st_lf n 0 x → Q (some (.inl 1)) M) (k0 : ¬ st_lf n 0 x → Q (some (.inl 0)) M) : mm_Ev pg ly d 19 [.inr 1, .inl (nI 0), .inl x] M Q := by
  have hn : n ≤ 60 := hW.1
  have hsz : M 1 5 = nI n := hG.1
  obtain ⟨d, rfl⟩ : ∃ e, d = e + 1 := ⟨d - 1, by omega⟩
  refine mg_body yy_Gr_leftFits pg_Gr_leftFits (Nat.le_of_ble_eq_true rfl) ?_
  show mm_Rn _ _ _ _ _ _ 0 [(0, _), (1, _), (2, _)] [] _
  refine mg_iload_n 1 rfl rfl rfl ?_
  refine mg_tsIn (off := 51) 52 rfl (by decide) (by decide) (by decide +kernel) (by decide) ?_
  refine mg_iload_n 53 rfl rfl rfl ?_
  refine mg_bipush (v := 10) 55 rfl (by decide) rfl ?_
  refine mg_callS2 58 rfl (by decide) (Nat.le_of_ble_eq_true rfl) pg_PG_within rfl ?_
  refine sp_within 10 (by omega) rfl (by omega) (fun j hj hx => ?_) (fun hno => ?_)
  · show mm_Rn _ _ _ _ _ _ 58 [(0, _), (1, _), (2, _)] [_] _
    refine mg_zret rfl rfl (by first | exact Or.inl rfl | exact Or.inr rfl) ?_
    first | exact k1 (Or.inl ⟨j, hj, hx⟩) | exact k0 (fun h => h.elim (fun h => hno h) (fun h => absurd h (by decide)))
  · show mm_Rn _ _ _ _ _ _ 58 [(0, _), (1, _), (2, _)] [_] _
    refine mg_zret rfl rfl (by first | exact Or.inl rfl | exact Or.inr rfl) ?_
    first | exact k1 (Or.inl ⟨j, hj, hx⟩) | exact k0 (fun h => h.elim (fun h => hno h) (fun h => absurd h (by decide)))
set_option maxHeartbeats 1000000 in
set_option maxRecDepth 20000 in
theorem sp_rightFits_0 {d : Nat} {M : mm_M} {Q : mm_Qt} {x : Int32} {n : Nat} {kd lv : Nat → Nat} {a b ru : Nat → Int32} (hG : st_gX M n kd lv a b ru) (hW : st_wf n kd lv a b ru) (hd : 2 ≤ d) (k1 : st_rf n 0 x → Q (some (.inl 1)) M) (k0 : ¬ st_rf n 0 x → Q (some (.inl 0)) M) : mm_Ev pg ly d 20 [.inr 1, .inl (nI 0), .inl x] M Q := by
  have hn : n ≤ 60 := hW.1
  have hsz : M 1 5 = nI n := hG.1
  obtain ⟨d, rfl⟩ : ∃ e, d = e + 1 := ⟨d - 1, by omega⟩
  refine mg_body yy_Gr_rightFits pg_Gr_rightFits (Nat.le_of_ble_eq_true rfl) ?_
  show mm_Rn _ _ _ _ _ _ 0 [(0, _), (1, _), (2, _)] [] _
  refine mg_aload_n 1 rfl rfl rfl ?_
  refine mg_iload_n 2 rfl rfl rfl ?_
  refine mg_callV1 5 rfl (Nat.le_of_ble_eq_true rfl) pg_Gr_rightIsNode rfl rfl ?_
  refine sp_rightIsNode_0 (by omega) ?_
  show mm_Rn _ _ _ _ _ _ 5 [(0, _), (1, _), (2, _)] [_] _
  refine mg_if_eq 8 19 rfl rfl (by decide) (fun c_5 => ?_) (fun c_5 => absurd c_5 (by decide))
  refine mg_iconst (v := 1) 20 rfl (by decide) rfl ?_
  refine mg_goto 24 rfl (by decide) ?_
  refine mg_zret rfl rfl (by first | exact Or.inl rfl | exact Or.inr rfl) ?_
  exact k1 (fun h => absurd h (by decide))
set_option maxHeartbeats 1000000 in
set_option maxRecDepth 20000 in
theorem sp_leftFits_1 {d : Nat} {M : mm_M} {Q : mm_Qt} {x : Int32} {n : Nat} {kd lv : Nat → Nat} {a b ru : Nat → Int32} (hG : st_gX M n kd lv a b ru) (hW : st_wf n kd lv a b ru) (hd : 2 ≤ d) (k1 : st_lf n 1 x → Q (some (.inl 1)) M) (k0 : ¬ st_lf n 1 x → Q (some (.inl 0)) M) : mm_Ev pg ly d 19 [.inr 1, .inl (nI 1), .inl x] M Q := by
  have hn : n ≤ 60 := hW.1
  have hsz : M 1 5 = nI n := hG.1
  obtain ⟨d, rfl⟩ : ∃ e, d = e + 1 := ⟨d - 1, by omega⟩
  refine mg_body yy_Gr_leftFits pg_Gr_leftFits (Nat.le_of_ble_eq_true rfl) ?_
  show mm_Rn _ _ _ _ _ _ 0 [(0, _), (1, _), (2, _)] [] _
  refine mg_iload_n 1 rfl rfl rfl ?_
  refine mg_tsIn (off := 58) 59 rfl (by decide) (by decide) (by decide +kernel) (by decide) ?_
  refine mg_iload_n 60 rfl rfl rfl ?_
  refine mg_bipush (v := 8) 62 rfl (by decide) rfl ?_
  refine mg_callS2 65 rfl (by decide) (Nat.le_of_ble_eq_true rfl) pg_PG_within rfl ?_
  refine sp_within 8 (by omega) rfl (by omega) (fun j hj hx => ?_) (fun hno => ?_)
  · show mm_Rn _ _ _ _ _ _ 65 [(0, _), (1, _), (2, _)] [_] _
    refine mg_zret rfl rfl (by first | exact Or.inl rfl | exact Or.inr rfl) ?_
    first | exact k1 (Or.inl ⟨j, hj, hx⟩) | exact k0 (fun h => h.elim (fun h => hno h) (fun h => absurd h (by decide)))
  · show mm_Rn _ _ _ _ _ _ 65 [(0, _), (1, _), (2, _)] [_] _
    refine mg_zret rfl rfl (by first | exact Or.inl rfl | exact Or.inr rfl) ?_
    first | exact k1 (Or.inl ⟨j, hj, hx⟩) | exact k0 (fun h => h.elim (fun h => hno h) (fun h => absurd h (by decide)))
set_option maxHeartbeats 1000000 in
set_option maxRecDepth 20000 in
theorem sp_rightFits_1 {d : Nat} {M : mm_M} {Q : mm_Qt} {x : Int32} {n : Nat} {kd lv : Nat → Nat} {a b ru : Nat → Int32} (hG : st_gX M n kd lv a b ru) (hW : st_wf n kd lv a b ru) (hd : 2 ≤ d) (k1 : st_rf n 1 x → Q (some (.inl 1)) M) (k0 : ¬ st_rf n 1 x → Q (some (.inl 0)) M) : mm_Ev pg ly d 20 [.inr 1, .inl (nI 1), .inl x] M Q := by
  have hn : n ≤ 60 := hW.1
  have hsz : M 1 5 = nI n := hG.1
  obtain ⟨d, rfl⟩ : ∃ e, d = e + 1 := ⟨d - 1, by omega⟩
  refine mg_body yy_Gr_rightFits pg_Gr_rightFits (Nat.le_of_ble_eq_true rfl) ?_
  show mm_Rn _ _ _ _ _ _ 0 [(0, _), (1, _), (2, _)] [] _
  refine mg_aload_n 1 rfl rfl rfl ?_
  refine mg_iload_n 2 rfl rfl rfl ?_
  refine mg_callV1 5 rfl (Nat.le_of_ble_eq_true rfl) pg_Gr_rightIsNode rfl rfl ?_
  refine sp_rightIsNode_1 (by omega) ?_
  show mm_Rn _ _ _ _ _ _ 5 [(0, _), (1, _), (2, _)] [_] _
  refine mg_if_eq 8 19 rfl rfl (by decide) (fun c_5 => ?_) (fun c_5 => absurd c_5 (by decide))
  refine mg_iconst (v := 1) 20 rfl (by decide) rfl ?_
  refine mg_goto 24 rfl (by decide) ?_
  refine mg_zret rfl rfl (by first | exact Or.inl rfl | exact Or.inr rfl) ?_
  exact k1 (fun h => absurd h (by decide))
set_option maxHeartbeats 1000000 in
set_option maxRecDepth 20000 in
theorem sp_leftFits_2 {d : Nat} {M : mm_M} {Q : mm_Qt} {x : Int32} {n : Nat} {kd lv : Nat → Nat} {a b ru : Nat → Int32} (hG : st_gX M n kd lv a b ru) (hW : st_wf n kd lv a b ru) (hd : 2 ≤ d) (k1 : st_lf n 2 x → Q (some (.inl 1)) M) (k0 : ¬ st_lf n 2 x → Q (some (.inl 0)) M) : mm_Ev pg ly d 19 [.inr 1, .inl (nI 2), .inl x] M Q := by
  have hn : n ≤ 60 := hW.1
  have hsz : M 1 5 = nI n := hG.1
  obtain ⟨d, rfl⟩ : ∃ e, d = e + 1 := ⟨d - 1, by omega⟩
  refine mg_body yy_Gr_leftFits pg_Gr_leftFits (Nat.le_of_ble_eq_true rfl) ?_
  show mm_Rn _ _ _ _ _ _ 0 [(0, _), (1, _), (2, _)] [] _
  refine mg_iload_n 1 rfl rfl rfl ?_
  refine mg_tsIn (off := 74) 75 rfl (by decide) (by decide) (by decide +kernel) (by decide) ?_
  refine mg_iload_n 76 rfl rfl rfl ?_
  refine mg_aload_n 77 rfl rfl rfl ?_
  refine mg_getI 80 rfl rfl (Or.inl rfl) rfl rfl ?_
  refine mg_callS2 83 rfl (by decide) (Nat.le_of_ble_eq_true rfl) pg_PG_within rfl ?_
  refine sp_within n (by omega) hsz (by omega) (fun j hj hx => ?_) (fun hno => ?_)
  · show mm_Rn _ _ _ _ _ _ 83 [(0, _), (1, _), (2, _)] [_] _
    refine mg_zret rfl rfl (by first | exact Or.inl rfl | exact Or.inr rfl) ?_
    first | exact k1 (Or.inl ⟨j, hj, hx⟩) | exact k0 (fun h => h.elim (fun h => hno h) (fun h => absurd h (by decide)))
  · show mm_Rn _ _ _ _ _ _ 83 [(0, _), (1, _), (2, _)] [_] _
    refine mg_zret rfl rfl (by first | exact Or.inl rfl | exact Or.inr rfl) ?_
    first | exact k1 (Or.inl ⟨j, hj, hx⟩) | exact k0 (fun h => h.elim (fun h => hno h) (fun h => absurd h (by decide)))
set_option maxHeartbeats 1000000 in
set_option maxRecDepth 20000 in
theorem sp_rightFits_2 {d : Nat} {M : mm_M} {Q : mm_Qt} {x : Int32} {n : Nat} {kd lv : Nat → Nat} {a b ru : Nat → Int32} (hG : st_gX M n kd lv a b ru) (hW : st_wf n kd lv a b ru) (hd : 2 ≤ d) (k1 : st_rf n 2 x → Q (some (.inl 1)) M) (k0 : ¬ st_rf n 2 x → Q (some (.inl 0)) M) : mm_Ev pg ly d 20 [.inr 1, .inl (nI 2), .inl x] M Q := by
  have hn : n ≤ 60 := hW.1
  have hsz : M 1 5 = nI n := hG.1
  obtain ⟨d, rfl⟩ : ∃ e, d = e + 1 := ⟨d - 1, by omega⟩
  refine mg_body yy_Gr_rightFits pg_Gr_rightFits (Nat.le_of_ble_eq_true rfl) ?_
  show mm_Rn _ _ _ _ _ _ 0 [(0, _), (1, _), (2, _)] [] _
  refine mg_aload_n 1 rfl rfl rfl ?_
  refine mg_iload_n 2 rfl rfl rfl ?_
  refine mg_callV1 5 rfl (Nat.le_of_ble_eq_true rfl) pg_Gr_rightIsNode rfl rfl ?_
  refine sp_rightIsNode_2 (by omega) ?_
  show mm_Rn _ _ _ _ _ _ 5 [(0, _), (1, _), (2, _)] [_] _
  refine mg_if_eq 8 19 rfl rfl (by decide) (fun c_5 => absurd c_5 (by decide)) (fun c_5 => ?_)
  refine mg_iload_n 9 rfl rfl rfl ?_
  refine mg_aload_n 10 rfl rfl rfl ?_
  refine mg_getI 13 rfl rfl (Or.inl rfl) rfl rfl ?_
  refine mg_callS2 16 rfl (by decide) (Nat.le_of_ble_eq_true rfl) pg_PG_within rfl ?_
  refine sp_within n (by omega) hsz (by omega) (fun j hj hx => ?_) (fun hno => ?_)
  · show mm_Rn _ _ _ _ _ _ 16 [(0, _), (1, _), (2, _)] [_] _
    refine mg_if_eq 19 23 rfl rfl (by decide) (fun c_16 => absurd c_16 (by decide)) (fun c_16 => ?_)
    refine mg_iconst (v := 1) 20 rfl (by decide) rfl ?_
    refine mg_goto 24 rfl (by decide) ?_
    refine mg_zret rfl rfl (by first | exact Or.inl rfl | exact Or.inr rfl) ?_
    first | exact k1 (fun _ => ⟨j, hj, hx⟩) | exact k0 (fun h => hno (h rfl))
  · show mm_Rn _ _ _ _ _ _ 16 [(0, _), (1, _), (2, _)] [_] _
    refine mg_if_eq 19 23 rfl rfl (by decide) (fun c_16 => ?_) (fun c_16 => absurd c_16 (by decide))
    refine mg_iconst (v := 0) 24 rfl (by decide) rfl ?_
    refine mg_zret rfl rfl (by first | exact Or.inl rfl | exact Or.inr rfl) ?_
    first | exact k1 (fun _ => ⟨j, hj, hx⟩) | exact k0 (fun h => hno (h rfl))
set_option maxHeartbeats 1000000 in
set_option maxRecDepth 20000 in
theorem sp_leftFits_3 {d : Nat} {M : mm_M} {Q : mm_Qt} {x : Int32} {n : Nat} {kd lv : Nat → Nat} {a b ru : Nat → Int32} (hG : st_gX M n kd lv a b ru) (hW : st_wf n kd lv a b ru) (hd : 2 ≤ d) (k1 : st_lf n 3 x → Q (some (.inl 1)) M) (k0 : ¬ st_lf n 3 x → Q (some (.inl 0)) M) : mm_Ev pg ly d 19 [.inr 1, .inl (nI 3), .inl x] M Q := by
  have hn : n ≤ 60 := hW.1
  have hsz : M 1 5 = nI n := hG.1
  obtain ⟨d, rfl⟩ : ∃ e, d = e + 1 := ⟨d - 1, by omega⟩
  refine mg_body yy_Gr_leftFits pg_Gr_leftFits (Nat.le_of_ble_eq_true rfl) ?_
  show mm_Rn _ _ _ _ _ _ 0 [(0, _), (1, _), (2, _)] [] _
  refine mg_iload_n 1 rfl rfl rfl ?_
  refine mg_tsIn (off := 74) 75 rfl (by decide) (by decide) (by decide +kernel) (by decide) ?_
  refine mg_iload_n 76 rfl rfl rfl ?_
  refine mg_aload_n 77 rfl rfl rfl ?_
  refine mg_getI 80 rfl rfl (Or.inl rfl) rfl rfl ?_
  refine mg_callS2 83 rfl (by decide) (Nat.le_of_ble_eq_true rfl) pg_PG_within rfl ?_
  refine sp_within n (by omega) hsz (by omega) (fun j hj hx => ?_) (fun hno => ?_)
  · show mm_Rn _ _ _ _ _ _ 83 [(0, _), (1, _), (2, _)] [_] _
    refine mg_zret rfl rfl (by first | exact Or.inl rfl | exact Or.inr rfl) ?_
    first | exact k1 (Or.inl ⟨j, hj, hx⟩) | exact k0 (fun h => h.elim (fun h => hno h) (fun h => absurd h (by decide)))
  · show mm_Rn _ _ _ _ _ _ 83 [(0, _), (1, _), (2, _)] [_] _
    refine mg_zret rfl rfl (by first | exact Or.inl rfl | exact Or.inr rfl) ?_
    first | exact k1 (Or.inl ⟨j, hj, hx⟩) | exact k0 (fun h => h.elim (fun h => hno h) (fun h => absurd h (by decide)))
set_option maxHeartbeats 1000000 in
set_option maxRecDepth 20000 in
theorem sp_rightFits_3 {d : Nat} {M : mm_M} {Q : mm_Qt} {x : Int32} {n : Nat} {kd lv : Nat → Nat} {a b ru : Nat → Int32} (hG : st_gX M n kd lv a b ru) (hW : st_wf n kd lv a b ru) (hd : 2 ≤ d) (k1 : st_rf n 3 x → Q (some (.inl 1)) M) (k0 : ¬ st_rf n 3 x → Q (some (.inl 0)) M) : mm_Ev pg ly d 20 [.inr 1, .inl (nI 3), .inl x] M Q := by
  have hn : n ≤ 60 := hW.1
  have hsz : M 1 5 = nI n := hG.1
  obtain ⟨d, rfl⟩ : ∃ e, d = e + 1 := ⟨d - 1, by omega⟩
  refine mg_body yy_Gr_rightFits pg_Gr_rightFits (Nat.le_of_ble_eq_true rfl) ?_
  show mm_Rn _ _ _ _ _ _ 0 [(0, _), (1, _), (2, _)] [] _
  refine mg_aload_n 1 rfl rfl rfl ?_
  refine mg_iload_n 2 rfl rfl rfl ?_
  refine mg_callV1 5 rfl (Nat.le_of_ble_eq_true rfl) pg_Gr_rightIsNode rfl rfl ?_
  refine sp_rightIsNode_3 (by omega) ?_
  show mm_Rn _ _ _ _ _ _ 5 [(0, _), (1, _), (2, _)] [_] _
  refine mg_if_eq 8 19 rfl rfl (by decide) (fun c_5 => absurd c_5 (by decide)) (fun c_5 => ?_)
  refine mg_iload_n 9 rfl rfl rfl ?_
  refine mg_aload_n 10 rfl rfl rfl ?_
  refine mg_getI 13 rfl rfl (Or.inl rfl) rfl rfl ?_
  refine mg_callS2 16 rfl (by decide) (Nat.le_of_ble_eq_true rfl) pg_PG_within rfl ?_
  refine sp_within n (by omega) hsz (by omega) (fun j hj hx => ?_) (fun hno => ?_)
  · show mm_Rn _ _ _ _ _ _ 16 [(0, _), (1, _), (2, _)] [_] _
    refine mg_if_eq 19 23 rfl rfl (by decide) (fun c_16 => absurd c_16 (by decide)) (fun c_16 => ?_)
    refine mg_iconst (v := 1) 20 rfl (by decide) rfl ?_
    refine mg_goto 24 rfl (by decide) ?_
    refine mg_zret rfl rfl (by first | exact Or.inl rfl | exact Or.inr rfl) ?_
    first | exact k1 (fun _ => ⟨j, hj, hx⟩) | exact k0 (fun h => hno (h rfl))
  · show mm_Rn _ _ _ _ _ _ 16 [(0, _), (1, _), (2, _)] [_] _
    refine mg_if_eq 19 23 rfl rfl (by decide) (fun c_16 => ?_) (fun c_16 => absurd c_16 (by decide))
    refine mg_iconst (v := 0) 24 rfl (by decide) rfl ?_
    refine mg_zret rfl rfl (by first | exact Or.inl rfl | exact Or.inr rfl) ?_
    first | exact k1 (fun _ => ⟨j, hj, hx⟩) | exact k0 (fun h => hno (h rfl))
set_option maxHeartbeats 1000000 in
set_option maxRecDepth 20000 in
theorem sp_leftFits_4 {d : Nat} {M : mm_M} {Q : mm_Qt} {x : Int32} {n : Nat} {kd lv : Nat → Nat} {a b ru : Nat → Int32} (hG : st_gX M n kd lv a b ru) (hW : st_wf n kd lv a b ru) (hd : 2 ≤ d) (k1 : st_lf n 4 x → Q (some (.inl 1)) M) (k0 : ¬ st_lf n 4 x → Q (some (.inl 0)) M) : mm_Ev pg ly d 19 [.inr 1, .inl (nI 4), .inl x] M Q := by
  have hn : n ≤ 60 := hW.1
  have hsz : M 1 5 = nI n := hG.1
  obtain ⟨d, rfl⟩ : ∃ e, d = e + 1 := ⟨d - 1, by omega⟩
  refine mg_body yy_Gr_leftFits pg_Gr_leftFits (Nat.le_of_ble_eq_true rfl) ?_
  show mm_Rn _ _ _ _ _ _ 0 [(0, _), (1, _), (2, _)] [] _
  refine mg_iload_n 1 rfl rfl rfl ?_
  refine mg_tsIn (off := 74) 75 rfl (by decide) (by decide) (by decide +kernel) (by decide) ?_
  refine mg_iload_n 76 rfl rfl rfl ?_
  refine mg_aload_n 77 rfl rfl rfl ?_
  refine mg_getI 80 rfl rfl (Or.inl rfl) rfl rfl ?_
  refine mg_callS2 83 rfl (by decide) (Nat.le_of_ble_eq_true rfl) pg_PG_within rfl ?_
  refine sp_within n (by omega) hsz (by omega) (fun j hj hx => ?_) (fun hno => ?_)
  · show mm_Rn _ _ _ _ _ _ 83 [(0, _), (1, _), (2, _)] [_] _
    refine mg_zret rfl rfl (by first | exact Or.inl rfl | exact Or.inr rfl) ?_
    first | exact k1 (Or.inl ⟨j, hj, hx⟩) | exact k0 (fun h => h.elim (fun h => hno h) (fun h => absurd h (by decide)))
  · show mm_Rn _ _ _ _ _ _ 83 [(0, _), (1, _), (2, _)] [_] _
    refine mg_zret rfl rfl (by first | exact Or.inl rfl | exact Or.inr rfl) ?_
    first | exact k1 (Or.inl ⟨j, hj, hx⟩) | exact k0 (fun h => h.elim (fun h => hno h) (fun h => absurd h (by decide)))
set_option maxHeartbeats 1000000 in
set_option maxRecDepth 20000 in
theorem sp_rightFits_4 {d : Nat} {M : mm_M} {Q : mm_Qt} {x : Int32} {n : Nat} {kd lv : Nat → Nat} {a b ru : Nat → Int32} (hG : st_gX M n kd lv a b ru) (hW : st_wf n kd lv a b ru) (hd : 2 ≤ d) (k1 : st_rf n 4 x → Q (some (.inl 1)) M) (k0 : ¬ st_rf n 4 x → Q (some (.inl 0)) M) : mm_Ev pg ly d 20 [.inr 1, .inl (nI 4), .inl x] M Q := by
  have hn : n ≤ 60 := hW.1
  have hsz : M 1 5 = nI n := hG.1
  obtain ⟨d, rfl⟩ : ∃ e, d = e + 1 := ⟨d - 1, by omega⟩
  refine mg_body yy_Gr_rightFits pg_Gr_rightFits (Nat.le_of_ble_eq_true rfl) ?_
  show mm_Rn _ _ _ _ _ _ 0 [(0, _), (1, _), (2, _)] [] _
  refine mg_aload_n 1 rfl rfl rfl ?_
  refine mg_iload_n 2 rfl rfl rfl ?_
  refine mg_callV1 5 rfl (Nat.le_of_ble_eq_true rfl) pg_Gr_rightIsNode rfl rfl ?_
  refine sp_rightIsNode_4 (by omega) ?_
  show mm_Rn _ _ _ _ _ _ 5 [(0, _), (1, _), (2, _)] [_] _
  refine mg_if_eq 8 19 rfl rfl (by decide) (fun c_5 => ?_) (fun c_5 => absurd c_5 (by decide))
  refine mg_iconst (v := 1) 20 rfl (by decide) rfl ?_
  refine mg_goto 24 rfl (by decide) ?_
  refine mg_zret rfl rfl (by first | exact Or.inl rfl | exact Or.inr rfl) ?_
  exact k1 (fun h => absurd h (by decide))
set_option maxHeartbeats 1000000 in
set_option maxRecDepth 20000 in
theorem sp_leftFits_5 {d : Nat} {M : mm_M} {Q : mm_Qt} {x : Int32} {n : Nat} {kd lv : Nat → Nat} {a b ru : Nat → Int32} (hG : st_gX M n kd lv a b ru) (hW : st_wf n kd lv a b ru) (hd : 2 ≤ d) (k1 : st_lf n 5 x → Q (some (.inl 1)) M) (k0 : ¬ st_lf n 5 x → Q (some (.inl 0)) M) : mm_Ev pg ly d 19 [.inr 1, .inl (nI 5), .inl x] M Q := by
  have hn : n ≤ 60 := hW.1
  have hsz : M 1 5 = nI n := hG.1
  obtain ⟨d, rfl⟩ : ∃ e, d = e + 1 := ⟨d - 1, by omega⟩
  refine mg_body yy_Gr_leftFits pg_Gr_leftFits (Nat.le_of_ble_eq_true rfl) ?_
  show mm_Rn _ _ _ _ _ _ 0 [(0, _), (1, _), (2, _)] [] _
  refine mg_iload_n 1 rfl rfl rfl ?_
  refine mg_tsIn (off := 74) 75 rfl (by decide) (by decide) (by decide +kernel) (by decide) ?_
  refine mg_iload_n 76 rfl rfl rfl ?_
  refine mg_aload_n 77 rfl rfl rfl ?_
  refine mg_getI 80 rfl rfl (Or.inl rfl) rfl rfl ?_
  refine mg_callS2 83 rfl (by decide) (Nat.le_of_ble_eq_true rfl) pg_PG_within rfl ?_
  refine sp_within n (by omega) hsz (by omega) (fun j hj hx => ?_) (fun hno => ?_)
  · show mm_Rn _ _ _ _ _ _ 83 [(0, _), (1, _), (2, _)] [_] _
    refine mg_zret rfl rfl (by first | exact Or.inl rfl | exact Or.inr rfl) ?_
    first | exact k1 (Or.inl ⟨j, hj, hx⟩) | exact k0 (fun h => h.elim (fun h => hno h) (fun h => absurd h (by decide)))
  · show mm_Rn _ _ _ _ _ _ 83 [(0, _), (1, _), (2, _)] [_] _
    refine mg_zret rfl rfl (by first | exact Or.inl rfl | exact Or.inr rfl) ?_
    first | exact k1 (Or.inl ⟨j, hj, hx⟩) | exact k0 (fun h => h.elim (fun h => hno h) (fun h => absurd h (by decide)))
set_option maxHeartbeats 1000000 in
set_option maxRecDepth 20000 in
theorem sp_rightFits_5 {d : Nat} {M : mm_M} {Q : mm_Qt} {x : Int32} {n : Nat} {kd lv : Nat → Nat} {a b ru : Nat → Int32} (hG : st_gX M n kd lv a b ru) (hW : st_wf n kd lv a b ru) (hd : 2 ≤ d) (k1 : st_rf n 5 x → Q (some (.inl 1)) M) (k0 : ¬ st_rf n 5 x → Q (some (.inl 0)) M) : mm_Ev pg ly d 20 [.inr 1, .inl (nI 5), .inl x] M Q := by
  have hn : n ≤ 60 := hW.1
  have hsz : M 1 5 = nI n := hG.1
  obtain ⟨d, rfl⟩ : ∃ e, d = e + 1 := ⟨d - 1, by omega⟩
  refine mg_body yy_Gr_rightFits pg_Gr_rightFits (Nat.le_of_ble_eq_true rfl) ?_
  show mm_Rn _ _ _ _ _ _ 0 [(0, _), (1, _), (2, _)] [] _
  refine mg_aload_n 1 rfl rfl rfl ?_
  refine mg_iload_n 2 rfl rfl rfl ?_
  refine mg_callV1 5 rfl (Nat.le_of_ble_eq_true rfl) pg_Gr_rightIsNode rfl rfl ?_
  refine sp_rightIsNode_5 (by omega) ?_
  show mm_Rn _ _ _ _ _ _ 5 [(0, _), (1, _), (2, _)] [_] _
  refine mg_if_eq 8 19 rfl rfl (by decide) (fun c_5 => ?_) (fun c_5 => absurd c_5 (by decide))
  refine mg_iconst (v := 1) 20 rfl (by decide) rfl ?_
  refine mg_goto 24 rfl (by decide) ?_
  refine mg_zret rfl rfl (by first | exact Or.inl rfl | exact Or.inr rfl) ?_
  exact k1 (fun h => absurd h (by decide))
set_option maxHeartbeats 1000000 in
set_option maxRecDepth 20000 in
theorem sp_leftFits_6 {d : Nat} {M : mm_M} {Q : mm_Qt} {x : Int32} {n : Nat} {kd lv : Nat → Nat} {a b ru : Nat → Int32} (hG : st_gX M n kd lv a b ru) (hW : st_wf n kd lv a b ru) (hd : 2 ≤ d) (k1 : st_lf n 6 x → Q (some (.inl 1)) M) (k0 : ¬ st_lf n 6 x → Q (some (.inl 0)) M) : mm_Ev pg ly d 19 [.inr 1, .inl (nI 6), .inl x] M Q := by
  have hn : n ≤ 60 := hW.1
  have hsz : M 1 5 = nI n := hG.1
  obtain ⟨d, rfl⟩ : ∃ e, d = e + 1 := ⟨d - 1, by omega⟩
  refine mg_body yy_Gr_leftFits pg_Gr_leftFits (Nat.le_of_ble_eq_true rfl) ?_
  show mm_Rn _ _ _ _ _ _ 0 [(0, _), (1, _), (2, _)] [] _
  refine mg_iload_n 1 rfl rfl rfl ?_
  refine mg_tsIn (off := 65) 66 rfl (by decide) (by decide) (by decide +kernel) (by decide) ?_
  refine mg_iconst (v := 1) 67 rfl (by decide) rfl ?_
  refine mg_zret rfl rfl (by first | exact Or.inl rfl | exact Or.inr rfl) ?_
  exact k1 (Or.inr rfl)
set_option maxHeartbeats 1000000 in
set_option maxRecDepth 20000 in
theorem sp_rightFits_6 {d : Nat} {M : mm_M} {Q : mm_Qt} {x : Int32} {n : Nat} {kd lv : Nat → Nat} {a b ru : Nat → Int32} (hG : st_gX M n kd lv a b ru) (hW : st_wf n kd lv a b ru) (hd : 2 ≤ d) (k1 : st_rf n 6 x → Q (some (.inl 1)) M) (k0 : ¬ st_rf n 6 x → Q (some (.inl 0)) M) : mm_Ev pg ly d 20 [.inr 1, .inl (nI 6), .inl x] M Q := by
  have hn : n ≤ 60 := hW.1
  have hsz : M 1 5 = nI n := hG.1
  obtain ⟨d, rfl⟩ : ∃ e, d = e + 1 := ⟨d - 1, by omega⟩
  refine mg_body yy_Gr_rightFits pg_Gr_rightFits (Nat.le_of_ble_eq_true rfl) ?_
  show mm_Rn _ _ _ _ _ _ 0 [(0, _), (1, _), (2, _)] [] _
  refine mg_aload_n 1 rfl rfl rfl ?_
  refine mg_iload_n 2 rfl rfl rfl ?_
  refine mg_callV1 5 rfl (Nat.le_of_ble_eq_true rfl) pg_Gr_rightIsNode rfl rfl ?_
  refine sp_rightIsNode_6 (by omega) ?_
  show mm_Rn _ _ _ _ _ _ 5 [(0, _), (1, _), (2, _)] [_] _
  refine mg_if_eq 8 19 rfl rfl (by decide) (fun c_5 => ?_) (fun c_5 => absurd c_5 (by decide))
  refine mg_iconst (v := 1) 20 rfl (by decide) rfl ?_
  refine mg_goto 24 rfl (by decide) ?_
  refine mg_zret rfl rfl (by first | exact Or.inl rfl | exact Or.inr rfl) ?_
  exact k1 (fun h => absurd h (by decide))
set_option maxHeartbeats 1000000 in
set_option maxRecDepth 20000 in
theorem sp_leftFits_7 {d : Nat} {M : mm_M} {Q : mm_Qt} {x : Int32} {n : Nat} {kd lv : Nat → Nat} {a b ru : Nat → Int32} (hG : st_gX M n kd lv a b ru) (hW : st_wf n kd lv a b ru) (hd : 2 ≤ d) (k1 : st_lf n 7 x → Q (some (.inl 1)) M) (k0 : ¬ st_lf n 7 x → Q (some (.inl 0)) M) : mm_Ev pg ly d 19 [.inr 1, .inl (nI 7), .inl x] M Q := by
  have hn : n ≤ 60 := hW.1
  have hsz : M 1 5 = nI n := hG.1
  obtain ⟨d, rfl⟩ : ∃ e, d = e + 1 := ⟨d - 1, by omega⟩
  refine mg_body yy_Gr_leftFits pg_Gr_leftFits (Nat.le_of_ble_eq_true rfl) ?_
  show mm_Rn _ _ _ _ _ _ 0 [(0, _), (1, _), (2, _)] [] _
  refine mg_iload_n 1 rfl rfl rfl ?_
  refine mg_tsIn (off := 74) 75 rfl (by decide) (by decide) (by decide +kernel) (by decide) ?_
  refine mg_iload_n 76 rfl rfl rfl ?_
  refine mg_aload_n 77 rfl rfl rfl ?_
  refine mg_getI 80 rfl rfl (Or.inl rfl) rfl rfl ?_
  refine mg_callS2 83 rfl (by decide) (Nat.le_of_ble_eq_true rfl) pg_PG_within rfl ?_
  refine sp_within n (by omega) hsz (by omega) (fun j hj hx => ?_) (fun hno => ?_)
  · show mm_Rn _ _ _ _ _ _ 83 [(0, _), (1, _), (2, _)] [_] _
    refine mg_zret rfl rfl (by first | exact Or.inl rfl | exact Or.inr rfl) ?_
    first | exact k1 (Or.inl ⟨j, hj, hx⟩) | exact k0 (fun h => h.elim (fun h => hno h) (fun h => absurd h (by decide)))
  · show mm_Rn _ _ _ _ _ _ 83 [(0, _), (1, _), (2, _)] [_] _
    refine mg_zret rfl rfl (by first | exact Or.inl rfl | exact Or.inr rfl) ?_
    first | exact k1 (Or.inl ⟨j, hj, hx⟩) | exact k0 (fun h => h.elim (fun h => hno h) (fun h => absurd h (by decide)))
set_option maxHeartbeats 1000000 in
set_option maxRecDepth 20000 in
theorem sp_rightFits_7 {d : Nat} {M : mm_M} {Q : mm_Qt} {x : Int32} {n : Nat} {kd lv : Nat → Nat} {a b ru : Nat → Int32} (hG : st_gX M n kd lv a b ru) (hW : st_wf n kd lv a b ru) (hd : 2 ≤ d) (k1 : st_rf n 7 x → Q (some (.inl 1)) M) (k0 : ¬ st_rf n 7 x → Q (some (.inl 0)) M) : mm_Ev pg ly d 20 [.inr 1, .inl (nI 7), .inl x] M Q := by
  have hn : n ≤ 60 := hW.1
  have hsz : M 1 5 = nI n := hG.1
  obtain ⟨d, rfl⟩ : ∃ e, d = e + 1 := ⟨d - 1, by omega⟩
  refine mg_body yy_Gr_rightFits pg_Gr_rightFits (Nat.le_of_ble_eq_true rfl) ?_
  show mm_Rn _ _ _ _ _ _ 0 [(0, _), (1, _), (2, _)] [] _
  refine mg_aload_n 1 rfl rfl rfl ?_
  refine mg_iload_n 2 rfl rfl rfl ?_
  refine mg_callV1 5 rfl (Nat.le_of_ble_eq_true rfl) pg_Gr_rightIsNode rfl rfl ?_
  refine sp_rightIsNode_7 (by omega) ?_
  show mm_Rn _ _ _ _ _ _ 5 [(0, _), (1, _), (2, _)] [_] _
  refine mg_if_eq 8 19 rfl rfl (by decide) (fun c_5 => absurd c_5 (by decide)) (fun c_5 => ?_)
  refine mg_iload_n 9 rfl rfl rfl ?_
  refine mg_aload_n 10 rfl rfl rfl ?_
  refine mg_getI 13 rfl rfl (Or.inl rfl) rfl rfl ?_
  refine mg_callS2 16 rfl (by decide) (Nat.le_of_ble_eq_true rfl) pg_PG_within rfl ?_
  refine sp_within n (by omega) hsz (by omega) (fun j hj hx => ?_) (fun hno => ?_)
  · show mm_Rn _ _ _ _ _ _ 16 [(0, _), (1, _), (2, _)] [_] _
    refine mg_if_eq 19 23 rfl rfl (by decide) (fun c_16 => absurd c_16 (by decide)) (fun c_16 => ?_)
    refine mg_iconst (v := 1) 20 rfl (by decide) rfl ?_
    refine mg_goto 24 rfl (by decide) ?_
    refine mg_zret rfl rfl (by first | exact Or.inl rfl | exact Or.inr rfl) ?_
    first | exact k1 (fun _ => ⟨j, hj, hx⟩) | exact k0 (fun h => hno (h rfl))
  · show mm_Rn _ _ _ _ _ _ 16 [(0, _), (1, _), (2, _)] [_] _
    refine mg_if_eq 19 23 rfl rfl (by decide) (fun c_16 => ?_) (fun c_16 => absurd c_16 (by decide))
    refine mg_iconst (v := 0) 24 rfl (by decide) rfl ?_
    refine mg_zret rfl rfl (by first | exact Or.inl rfl | exact Or.inr rfl) ?_
    first | exact k1 (fun _ => ⟨j, hj, hx⟩) | exact k0 (fun h => hno (h rfl))
set_option maxHeartbeats 1000000 in
set_option maxRecDepth 20000 in
theorem sp_leftFits_8 {d : Nat} {M : mm_M} {Q : mm_Qt} {x : Int32} {n : Nat} {kd lv : Nat → Nat} {a b ru : Nat → Int32} (hG : st_gX M n kd lv a b ru) (hW : st_wf n kd lv a b ru) (hd : 2 ≤ d) (k1 : st_lf n 8 x → Q (some (.inl 1)) M) (k0 : ¬ st_lf n 8 x → Q (some (.inl 0)) M) : mm_Ev pg ly d 19 [.inr 1, .inl (nI 8), .inl x] M Q := by
  have hn : n ≤ 60 := hW.1
  have hsz : M 1 5 = nI n := hG.1
  obtain ⟨d, rfl⟩ : ∃ e, d = e + 1 := ⟨d - 1, by omega⟩
  refine mg_body yy_Gr_leftFits pg_Gr_leftFits (Nat.le_of_ble_eq_true rfl) ?_
  show mm_Rn _ _ _ _ _ _ 0 [(0, _), (1, _), (2, _)] [] _
  refine mg_iload_n 1 rfl rfl rfl ?_
  refine mg_tsIn (off := 67) 68 rfl (by decide) (by decide) (by decide +kernel) (by decide) ?_
  refine mg_iload_n 69 rfl rfl rfl ?_
  refine mg_bipush (v := 16) 71 rfl (by decide) rfl ?_
  refine mg_callS2 74 rfl (by decide) (Nat.le_of_ble_eq_true rfl) pg_PG_within rfl ?_
  refine sp_within 16 (by omega) rfl (by omega) (fun j hj hx => ?_) (fun hno => ?_)
  · show mm_Rn _ _ _ _ _ _ 74 [(0, _), (1, _), (2, _)] [_] _
    refine mg_zret rfl rfl (by first | exact Or.inl rfl | exact Or.inr rfl) ?_
    first | exact k1 (Or.inl ⟨j, hj, hx⟩) | exact k0 (fun h => h.elim (fun h => hno h) (fun h => absurd h (by decide)))
  · show mm_Rn _ _ _ _ _ _ 74 [(0, _), (1, _), (2, _)] [_] _
    refine mg_zret rfl rfl (by first | exact Or.inl rfl | exact Or.inr rfl) ?_
    first | exact k1 (Or.inl ⟨j, hj, hx⟩) | exact k0 (fun h => h.elim (fun h => hno h) (fun h => absurd h (by decide)))
set_option maxHeartbeats 1000000 in
set_option maxRecDepth 20000 in
theorem sp_rightFits_8 {d : Nat} {M : mm_M} {Q : mm_Qt} {x : Int32} {n : Nat} {kd lv : Nat → Nat} {a b ru : Nat → Int32} (hG : st_gX M n kd lv a b ru) (hW : st_wf n kd lv a b ru) (hd : 2 ≤ d) (k1 : st_rf n 8 x → Q (some (.inl 1)) M) (k0 : ¬ st_rf n 8 x → Q (some (.inl 0)) M) : mm_Ev pg ly d 20 [.inr 1, .inl (nI 8), .inl x] M Q := by
  have hn : n ≤ 60 := hW.1
  have hsz : M 1 5 = nI n := hG.1
  obtain ⟨d, rfl⟩ : ∃ e, d = e + 1 := ⟨d - 1, by omega⟩
  refine mg_body yy_Gr_rightFits pg_Gr_rightFits (Nat.le_of_ble_eq_true rfl) ?_
  show mm_Rn _ _ _ _ _ _ 0 [(0, _), (1, _), (2, _)] [] _
  refine mg_aload_n 1 rfl rfl rfl ?_
  refine mg_iload_n 2 rfl rfl rfl ?_
  refine mg_callV1 5 rfl (Nat.le_of_ble_eq_true rfl) pg_Gr_rightIsNode rfl rfl ?_
  refine sp_rightIsNode_8 (by omega) ?_
  show mm_Rn _ _ _ _ _ _ 5 [(0, _), (1, _), (2, _)] [_] _
  refine mg_if_eq 8 19 rfl rfl (by decide) (fun c_5 => absurd c_5 (by decide)) (fun c_5 => ?_)
  refine mg_iload_n 9 rfl rfl rfl ?_
  refine mg_aload_n 10 rfl rfl rfl ?_
  refine mg_getI 13 rfl rfl (Or.inl rfl) rfl rfl ?_
  refine mg_callS2 16 rfl (by decide) (Nat.le_of_ble_eq_true rfl) pg_PG_within rfl ?_
  refine sp_within n (by omega) hsz (by omega) (fun j hj hx => ?_) (fun hno => ?_)
  · show mm_Rn _ _ _ _ _ _ 16 [(0, _), (1, _), (2, _)] [_] _
    refine mg_if_eq 19 23 rfl rfl (by decide) (fun c_16 => absurd c_16 (by decide)) (fun c_16 => ?_)
    refine mg_iconst (v := 1) 20 rfl (by decide) rfl ?_
    refine mg_goto 24 rfl (by decide) ?_
    refine mg_zret rfl rfl (by first | exact Or.inl rfl | exact Or.inr rfl) ?_
    first | exact k1 (fun _ => ⟨j, hj, hx⟩) | exact k0 (fun h => hno (h rfl))
  · show mm_Rn _ _ _ _ _ _ 16 [(0, _), (1, _), (2, _)] [_] _
    refine mg_if_eq 19 23 rfl rfl (by decide) (fun c_16 => ?_) (fun c_16 => absurd c_16 (by decide))
    refine mg_iconst (v := 0) 24 rfl (by decide) rfl ?_
    refine mg_zret rfl rfl (by first | exact Or.inl rfl | exact Or.inr rfl) ?_
    first | exact k1 (fun _ => ⟨j, hj, hx⟩) | exact k0 (fun h => hno (h rfl))
set_option maxHeartbeats 1000000 in
set_option maxRecDepth 20000 in
theorem sp_levelAbove_0 {d : Nat} {M : mm_M} {Q : mm_Qt} {x y : Int32} {n : Nat} {kd lv : Nat → Nat} {a b ru : Nat → Int32} (hG : st_gX M n kd lv a b ru) (hW : st_wf n kd lv a b ru) (hd : 2 ≤ d) (k : Q (some (.inl (nI (max (0) (0) + 1)))) M) : mm_Ev pg ly d 21 [.inr 1, .inl (nI 0), .inl x, .inl y] M Q := by
  have hn : n ≤ 60 := hW.1
  have hsz : M 1 5 = nI n := hG.1
  obtain ⟨d, rfl⟩ : ∃ e, d = e + 1 := ⟨d - 1, by omega⟩
  refine mg_body yy_Gr_levelAbove pg_Gr_levelAbove (Nat.le_of_ble_eq_true rfl) ?_
  show mm_Rn _ _ _ _ _ _ 0 [(0, _), (1, _), (2, _), (3, _)] [] _
  refine mg_iconst (v := 0) 1 rfl (by decide) rfl ?_
  refine mg_istore (L2 := [(0, _), (1, _), (2, _), (3, _), (4, _)]) 3 rfl (by decide) rfl rfl ?_
  refine mg_aload_n 4 rfl rfl rfl ?_
  refine mg_iload_n 5 rfl rfl rfl ?_
  refine mg_callV1 8 rfl (Nat.le_of_ble_eq_true rfl) pg_Gr_leftIsNode rfl rfl ?_
  refine sp_leftIsNode_0 (by omega) ?_
  show mm_Rn _ _ _ _ _ _ 8 [(0, _), (1, _), (2, _), (3, _), (4, _)] [_] _
  refine mg_if_eq 11 19 rfl rfl (by decide) (fun c_8 => ?_) (fun c_8 => absurd c_8 (by decide))
  refine mg_aload_n 20 rfl rfl rfl ?_
  refine mg_iload_n 21 rfl rfl rfl ?_
  refine mg_callV1 24 rfl (Nat.le_of_ble_eq_true rfl) pg_Gr_rightIsNode rfl rfl ?_
  refine sp_rightIsNode_0 (by omega) ?_
  show mm_Rn _ _ _ _ _ _ 24 [(0, _), (1, _), (2, _), (3, _), (4, _)] [_] _
  refine mg_if_eq 27 40 rfl rfl (by decide) (fun c_24 => ?_) (fun c_24 => absurd c_24 (by decide))
  refine mg_iload 42 rfl rfl rfl ?_
  refine mg_iconst (v := 1) 43 rfl (by decide) rfl ?_
  refine mg_iadd 44 rfl rfl rfl ?_
  refine mg_iret rfl rfl ?_
  refine (show Q (some (.inl _)) M from ?_)
  refine ek_v (P := fun v => Q (some (.inl v)) M) ?_ k
  decide
set_option maxHeartbeats 1000000 in
set_option maxRecDepth 20000 in
theorem sp_levelAbove_1 {d : Nat} {M : mm_M} {Q : mm_Qt} {x y : Int32} {n : Nat} {kd lv : Nat → Nat} {a b ru : Nat → Int32} (hG : st_gX M n kd lv a b ru) (hW : st_wf n kd lv a b ru) (hd : 2 ≤ d) (k : Q (some (.inl (nI (max (0) (0) + 1)))) M) : mm_Ev pg ly d 21 [.inr 1, .inl (nI 1), .inl x, .inl y] M Q := by
  have hn : n ≤ 60 := hW.1
  have hsz : M 1 5 = nI n := hG.1
  obtain ⟨d, rfl⟩ : ∃ e, d = e + 1 := ⟨d - 1, by omega⟩
  refine mg_body yy_Gr_levelAbove pg_Gr_levelAbove (Nat.le_of_ble_eq_true rfl) ?_
  show mm_Rn _ _ _ _ _ _ 0 [(0, _), (1, _), (2, _), (3, _)] [] _
  refine mg_iconst (v := 0) 1 rfl (by decide) rfl ?_
  refine mg_istore (L2 := [(0, _), (1, _), (2, _), (3, _), (4, _)]) 3 rfl (by decide) rfl rfl ?_
  refine mg_aload_n 4 rfl rfl rfl ?_
  refine mg_iload_n 5 rfl rfl rfl ?_
  refine mg_callV1 8 rfl (Nat.le_of_ble_eq_true rfl) pg_Gr_leftIsNode rfl rfl ?_
  refine sp_leftIsNode_1 (by omega) ?_
  show mm_Rn _ _ _ _ _ _ 8 [(0, _), (1, _), (2, _), (3, _), (4, _)] [_] _
  refine mg_if_eq 11 19 rfl rfl (by decide) (fun c_8 => ?_) (fun c_8 => absurd c_8 (by decide))
  refine mg_aload_n 20 rfl rfl rfl ?_
  refine mg_iload_n 21 rfl rfl rfl ?_
  refine mg_callV1 24 rfl (Nat.le_of_ble_eq_true rfl) pg_Gr_rightIsNode rfl rfl ?_
  refine sp_rightIsNode_1 (by omega) ?_
  show mm_Rn _ _ _ _ _ _ 24 [(0, _), (1, _), (2, _), (3, _), (4, _)] [_] _
  refine mg_if_eq 27 40 rfl rfl (by decide) (fun c_24 => ?_) (fun c_24 => absurd c_24 (by decide))
  refine mg_iload 42 rfl rfl rfl ?_
  refine mg_iconst (v := 1) 43 rfl (by decide) rfl ?_
  refine mg_iadd 44 rfl rfl rfl ?_
  refine mg_iret rfl rfl ?_
  refine (show Q (some (.inl _)) M from ?_)
  refine ek_v (P := fun v => Q (some (.inl v)) M) ?_ k
  decide
set_option maxHeartbeats 1000000 in
set_option maxRecDepth 20000 in
theorem sp_levelAbove_2 {d : Nat} {M : mm_M} {Q : mm_Qt} {x y : Int32} {n : Nat} {kd lv : Nat → Nat} {a b ru : Nat → Int32} (hG : st_gX M n kd lv a b ru) (hW : st_wf n kd lv a b ru) {ja : Nat} (hja : ja < n) (ex : x = nI ja) {jb : Nat} (hjb : jb < n) (ey : y = nI jb) (hd : 2 ≤ d) (k : Q (some (.inl (nI (max (lv ja) (lv jb) + 1)))) M) : mm_Ev pg ly d 21 [.inr 1, .inl (nI 2), .inl x, .inl y] M Q := by
  have hn : n ≤ 60 := hW.1
  have hsz : M 1 5 = nI n := hG.1
  subst ex
  subst ey
  obtain ⟨d, rfl⟩ : ∃ e, d = e + 1 := ⟨d - 1, by omega⟩
  refine mg_body yy_Gr_levelAbove pg_Gr_levelAbove (Nat.le_of_ble_eq_true rfl) ?_
  show mm_Rn _ _ _ _ _ _ 0 [(0, _), (1, _), (2, _), (3, _)] [] _
  refine mg_iconst (v := 0) 1 rfl (by decide) rfl ?_
  refine mg_istore (L2 := [(0, _), (1, _), (2, _), (3, _), (4, _)]) 3 rfl (by decide) rfl rfl ?_
  refine mg_aload_n 4 rfl rfl rfl ?_
  refine mg_iload_n 5 rfl rfl rfl ?_
  refine mg_callV1 8 rfl (Nat.le_of_ble_eq_true rfl) pg_Gr_leftIsNode rfl rfl ?_
  refine sp_leftIsNode_2 (by omega) ?_
  show mm_Rn _ _ _ _ _ _ 8 [(0, _), (1, _), (2, _), (3, _), (4, _)] [_] _
  refine mg_if_eq 11 19 rfl rfl (by decide) (fun c_8 => absurd c_8 (by decide)) (fun c_8 => ?_)
  refine mg_aload_n 12 rfl rfl rfl ?_
  refine mg_getR 15 rfl rfl rfl rfl ?_
  refine mg_iload_n 16 rfl rfl rfl ?_
  refine mg_iald (v := nI (lv ja)) 17 rfl rfl (vp_in_nI (by omega : ja < 60) (by omega)) (by rw [nI_clamp (by omega)]; exact (hG.2.1 ja hja).2.2.2) rfl ?_
  refine mg_istore (L2 := [(0, _), (1, _), (2, _), (3, _), (4, _)]) 19 rfl (by decide) rfl rfl ?_
  refine mg_aload_n 20 rfl rfl rfl ?_
  refine mg_iload_n 21 rfl rfl rfl ?_
  refine mg_callV1 24 rfl (Nat.le_of_ble_eq_true rfl) pg_Gr_rightIsNode rfl rfl ?_
  refine sp_rightIsNode_2 (by omega) ?_
  show mm_Rn _ _ _ _ _ _ 24 [(0, _), (1, _), (2, _), (3, _), (4, _)] [_] _
  refine mg_if_eq 27 40 rfl rfl (by decide) (fun c_24 => absurd c_24 (by decide)) (fun c_24 => ?_)
  refine mg_iload 29 rfl rfl rfl ?_
  refine mg_aload_n 30 rfl rfl rfl ?_
  refine mg_getR 33 rfl rfl rfl rfl ?_
  refine mg_iload_n 34 rfl rfl rfl ?_
  refine mg_iald (v := nI (lv jb)) 35 rfl rfl (vp_in_nI (by omega : jb < 60) (by omega)) (by rw [nI_clamp (by omega)]; exact (hG.2.1 jb hjb).2.2.2) rfl ?_
  refine mg_max 38 rfl (Nat.le_of_ble_eq_true rfl) (by omega) rfl rfl ?_
  refine mg_istore (L2 := [(0, _), (1, _), (2, _), (3, _), (4, _)]) 40 rfl (by decide) rfl rfl ?_
  refine mg_iload 42 rfl rfl rfl ?_
  refine mg_iconst (v := 1) 43 rfl (by decide) rfl ?_
  refine mg_iadd 44 rfl rfl rfl ?_
  refine mg_iret rfl rfl ?_
  refine (show Q (some (.inl _)) M from ?_)
  refine ek_v (P := fun v => Q (some (.inl v)) M) ?_ k
  exact st_mx (by have := (hW.2.1 ja hja).2.2.1; omega) (by have := (hW.2.1 jb hjb).2.2.1; omega)
set_option maxHeartbeats 1000000 in
set_option maxRecDepth 20000 in
theorem sp_levelAbove_3 {d : Nat} {M : mm_M} {Q : mm_Qt} {x y : Int32} {n : Nat} {kd lv : Nat → Nat} {a b ru : Nat → Int32} (hG : st_gX M n kd lv a b ru) (hW : st_wf n kd lv a b ru) {ja : Nat} (hja : ja < n) (ex : x = nI ja) {jb : Nat} (hjb : jb < n) (ey : y = nI jb) (hd : 2 ≤ d) (k : Q (some (.inl (nI (max (lv ja) (lv jb) + 1)))) M) : mm_Ev pg ly d 21 [.inr 1, .inl (nI 3), .inl x, .inl y] M Q := by
  have hn : n ≤ 60 := hW.1
  have hsz : M 1 5 = nI n := hG.1
  subst ex
  subst ey
  obtain ⟨d, rfl⟩ : ∃ e, d = e + 1 := ⟨d - 1, by omega⟩
  refine mg_body yy_Gr_levelAbove pg_Gr_levelAbove (Nat.le_of_ble_eq_true rfl) ?_
  show mm_Rn _ _ _ _ _ _ 0 [(0, _), (1, _), (2, _), (3, _)] [] _
  refine mg_iconst (v := 0) 1 rfl (by decide) rfl ?_
  refine mg_istore (L2 := [(0, _), (1, _), (2, _), (3, _), (4, _)]) 3 rfl (by decide) rfl rfl ?_
  refine mg_aload_n 4 rfl rfl rfl ?_
  refine mg_iload_n 5 rfl rfl rfl ?_
  refine mg_callV1 8 rfl (Nat.le_of_ble_eq_true rfl) pg_Gr_leftIsNode rfl rfl ?_
  refine sp_leftIsNode_3 (by omega) ?_
  show mm_Rn _ _ _ _ _ _ 8 [(0, _), (1, _), (2, _), (3, _), (4, _)] [_] _
  refine mg_if_eq 11 19 rfl rfl (by decide) (fun c_8 => absurd c_8 (by decide)) (fun c_8 => ?_)
  refine mg_aload_n 12 rfl rfl rfl ?_
  refine mg_getR 15 rfl rfl rfl rfl ?_
  refine mg_iload_n 16 rfl rfl rfl ?_
  refine mg_iald (v := nI (lv ja)) 17 rfl rfl (vp_in_nI (by omega : ja < 60) (by omega)) (by rw [nI_clamp (by omega)]; exact (hG.2.1 ja hja).2.2.2) rfl ?_
  refine mg_istore (L2 := [(0, _), (1, _), (2, _), (3, _), (4, _)]) 19 rfl (by decide) rfl rfl ?_
  refine mg_aload_n 20 rfl rfl rfl ?_
  refine mg_iload_n 21 rfl rfl rfl ?_
  refine mg_callV1 24 rfl (Nat.le_of_ble_eq_true rfl) pg_Gr_rightIsNode rfl rfl ?_
  refine sp_rightIsNode_3 (by omega) ?_
  show mm_Rn _ _ _ _ _ _ 24 [(0, _), (1, _), (2, _), (3, _), (4, _)] [_] _
  refine mg_if_eq 27 40 rfl rfl (by decide) (fun c_24 => absurd c_24 (by decide)) (fun c_24 => ?_)
  refine mg_iload 29 rfl rfl rfl ?_
  refine mg_aload_n 30 rfl rfl rfl ?_
  refine mg_getR 33 rfl rfl rfl rfl ?_
  refine mg_iload_n 34 rfl rfl rfl ?_
  refine mg_iald (v := nI (lv jb)) 35 rfl rfl (vp_in_nI (by omega : jb < 60) (by omega)) (by rw [nI_clamp (by omega)]; exact (hG.2.1 jb hjb).2.2.2) rfl ?_
  refine mg_max 38 rfl (Nat.le_of_ble_eq_true rfl) (by omega) rfl rfl ?_
  refine mg_istore (L2 := [(0, _), (1, _), (2, _), (3, _), (4, _)]) 40 rfl (by decide) rfl rfl ?_
  refine mg_iload 42 rfl rfl rfl ?_
  refine mg_iconst (v := 1) 43 rfl (by decide) rfl ?_
  refine mg_iadd 44 rfl rfl rfl ?_
  refine mg_iret rfl rfl ?_
  refine (show Q (some (.inl _)) M from ?_)
  refine ek_v (P := fun v => Q (some (.inl v)) M) ?_ k
  exact st_mx (by have := (hW.2.1 ja hja).2.2.1; omega) (by have := (hW.2.1 jb hjb).2.2.1; omega)
set_option maxHeartbeats 1000000 in
set_option maxRecDepth 20000 in
theorem sp_levelAbove_4 {d : Nat} {M : mm_M} {Q : mm_Qt} {x y : Int32} {n : Nat} {kd lv : Nat → Nat} {a b ru : Nat → Int32} (hG : st_gX M n kd lv a b ru) (hW : st_wf n kd lv a b ru) {ja : Nat} (hja : ja < n) (ex : x = nI ja) (hd : 2 ≤ d) (k : Q (some (.inl (nI (max (lv ja) (0) + 1)))) M) : mm_Ev pg ly d 21 [.inr 1, .inl (nI 4), .inl x, .inl y] M Q := by
  have hn : n ≤ 60 := hW.1
  have hsz : M 1 5 = nI n := hG.1
  subst ex
  obtain ⟨d, rfl⟩ : ∃ e, d = e + 1 := ⟨d - 1, by omega⟩
  refine mg_body yy_Gr_levelAbove pg_Gr_levelAbove (Nat.le_of_ble_eq_true rfl) ?_
  show mm_Rn _ _ _ _ _ _ 0 [(0, _), (1, _), (2, _), (3, _)] [] _
  refine mg_iconst (v := 0) 1 rfl (by decide) rfl ?_
  refine mg_istore (L2 := [(0, _), (1, _), (2, _), (3, _), (4, _)]) 3 rfl (by decide) rfl rfl ?_
  refine mg_aload_n 4 rfl rfl rfl ?_
  refine mg_iload_n 5 rfl rfl rfl ?_
  refine mg_callV1 8 rfl (Nat.le_of_ble_eq_true rfl) pg_Gr_leftIsNode rfl rfl ?_
  refine sp_leftIsNode_4 (by omega) ?_
  show mm_Rn _ _ _ _ _ _ 8 [(0, _), (1, _), (2, _), (3, _), (4, _)] [_] _
  refine mg_if_eq 11 19 rfl rfl (by decide) (fun c_8 => absurd c_8 (by decide)) (fun c_8 => ?_)
  refine mg_aload_n 12 rfl rfl rfl ?_
  refine mg_getR 15 rfl rfl rfl rfl ?_
  refine mg_iload_n 16 rfl rfl rfl ?_
  refine mg_iald (v := nI (lv ja)) 17 rfl rfl (vp_in_nI (by omega : ja < 60) (by omega)) (by rw [nI_clamp (by omega)]; exact (hG.2.1 ja hja).2.2.2) rfl ?_
  refine mg_istore (L2 := [(0, _), (1, _), (2, _), (3, _), (4, _)]) 19 rfl (by decide) rfl rfl ?_
  refine mg_aload_n 20 rfl rfl rfl ?_
  refine mg_iload_n 21 rfl rfl rfl ?_
  refine mg_callV1 24 rfl (Nat.le_of_ble_eq_true rfl) pg_Gr_rightIsNode rfl rfl ?_
  refine sp_rightIsNode_4 (by omega) ?_
  show mm_Rn _ _ _ _ _ _ 24 [(0, _), (1, _), (2, _), (3, _), (4, _)] [_] _
  refine mg_if_eq 27 40 rfl rfl (by decide) (fun c_24 => ?_) (fun c_24 => absurd c_24 (by decide))
  refine mg_iload 42 rfl rfl rfl ?_
  refine mg_iconst (v := 1) 43 rfl (by decide) rfl ?_
  refine mg_iadd 44 rfl rfl rfl ?_
  refine mg_iret rfl rfl ?_
  refine (show Q (some (.inl _)) M from ?_)
  refine ek_v (P := fun v => Q (some (.inl v)) M) ?_ k
  rw [Nat.max_zero]
  exact nI_1 _
set_option maxHeartbeats 1000000 in
set_option maxRecDepth 20000 in
theorem sp_levelAbove_5 {d : Nat} {M : mm_M} {Q : mm_Qt} {x y : Int32} {n : Nat} {kd lv : Nat → Nat} {a b ru : Nat → Int32} (hG : st_gX M n kd lv a b ru) (hW : st_wf n kd lv a b ru) {ja : Nat} (hja : ja < n) (ex : x = nI ja) (hd : 2 ≤ d) (k : Q (some (.inl (nI (max (lv ja) (0) + 1)))) M) : mm_Ev pg ly d 21 [.inr 1, .inl (nI 5), .inl x, .inl y] M Q := by
  have hn : n ≤ 60 := hW.1
  have hsz : M 1 5 = nI n := hG.1
  subst ex
  obtain ⟨d, rfl⟩ : ∃ e, d = e + 1 := ⟨d - 1, by omega⟩
  refine mg_body yy_Gr_levelAbove pg_Gr_levelAbove (Nat.le_of_ble_eq_true rfl) ?_
  show mm_Rn _ _ _ _ _ _ 0 [(0, _), (1, _), (2, _), (3, _)] [] _
  refine mg_iconst (v := 0) 1 rfl (by decide) rfl ?_
  refine mg_istore (L2 := [(0, _), (1, _), (2, _), (3, _), (4, _)]) 3 rfl (by decide) rfl rfl ?_
  refine mg_aload_n 4 rfl rfl rfl ?_
  refine mg_iload_n 5 rfl rfl rfl ?_
  refine mg_callV1 8 rfl (Nat.le_of_ble_eq_true rfl) pg_Gr_leftIsNode rfl rfl ?_
  refine sp_leftIsNode_5 (by omega) ?_
  show mm_Rn _ _ _ _ _ _ 8 [(0, _), (1, _), (2, _), (3, _), (4, _)] [_] _
  refine mg_if_eq 11 19 rfl rfl (by decide) (fun c_8 => absurd c_8 (by decide)) (fun c_8 => ?_)
  refine mg_aload_n 12 rfl rfl rfl ?_
  refine mg_getR 15 rfl rfl rfl rfl ?_
  refine mg_iload_n 16 rfl rfl rfl ?_
  refine mg_iald (v := nI (lv ja)) 17 rfl rfl (vp_in_nI (by omega : ja < 60) (by omega)) (by rw [nI_clamp (by omega)]; exact (hG.2.1 ja hja).2.2.2) rfl ?_
  refine mg_istore (L2 := [(0, _), (1, _), (2, _), (3, _), (4, _)]) 19 rfl (by decide) rfl rfl ?_
  refine mg_aload_n 20 rfl rfl rfl ?_
  refine mg_iload_n 21 rfl rfl rfl ?_
  refine mg_callV1 24 rfl (Nat.le_of_ble_eq_true rfl) pg_Gr_rightIsNode rfl rfl ?_
  refine sp_rightIsNode_5 (by omega) ?_
  show mm_Rn _ _ _ _ _ _ 24 [(0, _), (1, _), (2, _), (3, _), (4, _)] [_] _
  refine mg_if_eq 27 40 rfl rfl (by decide) (fun c_24 => ?_) (fun c_24 => absurd c_24 (by decide))
  refine mg_iload 42 rfl rfl rfl ?_
  refine mg_iconst (v := 1) 43 rfl (by decide) rfl ?_
  refine mg_iadd 44 rfl rfl rfl ?_
  refine mg_iret rfl rfl ?_
  refine (show Q (some (.inl _)) M from ?_)
  refine ek_v (P := fun v => Q (some (.inl v)) M) ?_ k
  rw [Nat.max_zero]
  exact nI_1 _
set_option maxHeartbeats 1000000 in
set_option maxRecDepth 20000 in
theorem sp_levelAbove_6 {d : Nat} {M : mm_M} {Q : mm_Qt} {x y : Int32} {n : Nat} {kd lv : Nat → Nat} {a b ru : Nat → Int32} (hG : st_gX M n kd lv a b ru) (hW : st_wf n kd lv a b ru) (hd : 2 ≤ d) (k : Q (some (.inl (nI (max (0) (0) + 1)))) M) : mm_Ev pg ly d 21 [.inr 1, .inl (nI 6), .inl x, .inl y] M Q := by
  have hn : n ≤ 60 := hW.1
  have hsz : M 1 5 = nI n := hG.1
  obtain ⟨d, rfl⟩ : ∃ e, d = e + 1 := ⟨d - 1, by omega⟩
  refine mg_body yy_Gr_levelAbove pg_Gr_levelAbove (Nat.le_of_ble_eq_true rfl) ?_
  show mm_Rn _ _ _ _ _ _ 0 [(0, _), (1, _), (2, _), (3, _)] [] _
  refine mg_iconst (v := 0) 1 rfl (by decide) rfl ?_
  refine mg_istore (L2 := [(0, _), (1, _), (2, _), (3, _), (4, _)]) 3 rfl (by decide) rfl rfl ?_
  refine mg_aload_n 4 rfl rfl rfl ?_
  refine mg_iload_n 5 rfl rfl rfl ?_
  refine mg_callV1 8 rfl (Nat.le_of_ble_eq_true rfl) pg_Gr_leftIsNode rfl rfl ?_
  refine sp_leftIsNode_6 (by omega) ?_
  show mm_Rn _ _ _ _ _ _ 8 [(0, _), (1, _), (2, _), (3, _), (4, _)] [_] _
  refine mg_if_eq 11 19 rfl rfl (by decide) (fun c_8 => ?_) (fun c_8 => absurd c_8 (by decide))
  refine mg_aload_n 20 rfl rfl rfl ?_
  refine mg_iload_n 21 rfl rfl rfl ?_
  refine mg_callV1 24 rfl (Nat.le_of_ble_eq_true rfl) pg_Gr_rightIsNode rfl rfl ?_
  refine sp_rightIsNode_6 (by omega) ?_
  show mm_Rn _ _ _ _ _ _ 24 [(0, _), (1, _), (2, _), (3, _), (4, _)] [_] _
  refine mg_if_eq 27 40 rfl rfl (by decide) (fun c_24 => ?_) (fun c_24 => absurd c_24 (by decide))
  refine mg_iload 42 rfl rfl rfl ?_
  refine mg_iconst (v := 1) 43 rfl (by decide) rfl ?_
  refine mg_iadd 44 rfl rfl rfl ?_
  refine mg_iret rfl rfl ?_
  refine (show Q (some (.inl _)) M from ?_)
  refine ek_v (P := fun v => Q (some (.inl v)) M) ?_ k
  decide
set_option maxHeartbeats 1000000 in
set_option maxRecDepth 20000 in
theorem sp_levelAbove_7 {d : Nat} {M : mm_M} {Q : mm_Qt} {x y : Int32} {n : Nat} {kd lv : Nat → Nat} {a b ru : Nat → Int32} (hG : st_gX M n kd lv a b ru) (hW : st_wf n kd lv a b ru) {ja : Nat} (hja : ja < n) (ex : x = nI ja) {jb : Nat} (hjb : jb < n) (ey : y = nI jb) (hd : 2 ≤ d) (k : Q (some (.inl (nI (max (lv ja) (lv jb) + 1)))) M) : mm_Ev pg ly d 21 [.inr 1, .inl (nI 7), .inl x, .inl y] M Q := by
  have hn : n ≤ 60 := hW.1
  have hsz : M 1 5 = nI n := hG.1
  subst ex
  subst ey
  obtain ⟨d, rfl⟩ : ∃ e, d = e + 1 := ⟨d - 1, by omega⟩
  refine mg_body yy_Gr_levelAbove pg_Gr_levelAbove (Nat.le_of_ble_eq_true rfl) ?_
  show mm_Rn _ _ _ _ _ _ 0 [(0, _), (1, _), (2, _), (3, _)] [] _
  refine mg_iconst (v := 0) 1 rfl (by decide) rfl ?_
  refine mg_istore (L2 := [(0, _), (1, _), (2, _), (3, _), (4, _)]) 3 rfl (by decide) rfl rfl ?_
  refine mg_aload_n 4 rfl rfl rfl ?_
  refine mg_iload_n 5 rfl rfl rfl ?_
  refine mg_callV1 8 rfl (Nat.le_of_ble_eq_true rfl) pg_Gr_leftIsNode rfl rfl ?_
  refine sp_leftIsNode_7 (by omega) ?_
  show mm_Rn _ _ _ _ _ _ 8 [(0, _), (1, _), (2, _), (3, _), (4, _)] [_] _
  refine mg_if_eq 11 19 rfl rfl (by decide) (fun c_8 => absurd c_8 (by decide)) (fun c_8 => ?_)
  refine mg_aload_n 12 rfl rfl rfl ?_
  refine mg_getR 15 rfl rfl rfl rfl ?_
  refine mg_iload_n 16 rfl rfl rfl ?_
  refine mg_iald (v := nI (lv ja)) 17 rfl rfl (vp_in_nI (by omega : ja < 60) (by omega)) (by rw [nI_clamp (by omega)]; exact (hG.2.1 ja hja).2.2.2) rfl ?_
  refine mg_istore (L2 := [(0, _), (1, _), (2, _), (3, _), (4, _)]) 19 rfl (by decide) rfl rfl ?_
  refine mg_aload_n 20 rfl rfl rfl ?_
  refine mg_iload_n 21 rfl rfl rfl ?_
  refine mg_callV1 24 rfl (Nat.le_of_ble_eq_true rfl) pg_Gr_rightIsNode rfl rfl ?_
  refine sp_rightIsNode_7 (by omega) ?_
  show mm_Rn _ _ _ _ _ _ 24 [(0, _), (1, _), (2, _), (3, _), (4, _)] [_] _
  refine mg_if_eq 27 40 rfl rfl (by decide) (fun c_24 => absurd c_24 (by decide)) (fun c_24 => ?_)
  refine mg_iload 29 rfl rfl rfl ?_
  refine mg_aload_n 30 rfl rfl rfl ?_
  refine mg_getR 33 rfl rfl rfl rfl ?_
  refine mg_iload_n 34 rfl rfl rfl ?_
  refine mg_iald (v := nI (lv jb)) 35 rfl rfl (vp_in_nI (by omega : jb < 60) (by omega)) (by rw [nI_clamp (by omega)]; exact (hG.2.1 jb hjb).2.2.2) rfl ?_
  refine mg_max 38 rfl (Nat.le_of_ble_eq_true rfl) (by omega) rfl rfl ?_
  refine mg_istore (L2 := [(0, _), (1, _), (2, _), (3, _), (4, _)]) 40 rfl (by decide) rfl rfl ?_
  refine mg_iload 42 rfl rfl rfl ?_
  refine mg_iconst (v := 1) 43 rfl (by decide) rfl ?_
  refine mg_iadd 44 rfl rfl rfl ?_
  refine mg_iret rfl rfl ?_
  refine (show Q (some (.inl _)) M from ?_)
  refine ek_v (P := fun v => Q (some (.inl v)) M) ?_ k
  exact st_mx (by have := (hW.2.1 ja hja).2.2.1; omega) (by have := (hW.2.1 jb hjb).2.2.1; omega)
set_option maxHeartbeats 1000000 in
set_option maxRecDepth 20000 in
theorem sp_levelAbove_8 {d : Nat} {M : mm_M} {Q : mm_Qt} {x y : Int32} {n : Nat} {kd lv : Nat → Nat} {a b ru : Nat → Int32} (hG : st_gX M n kd lv a b ru) (hW : st_wf n kd lv a b ru) {jb : Nat} (hjb : jb < n) (ey : y = nI jb) (hd : 2 ≤ d) (k : Q (some (.inl (nI (max (0) (lv jb) + 1)))) M) : mm_Ev pg ly d 21 [.inr 1, .inl (nI 8), .inl x, .inl y] M Q := by
  have hn : n ≤ 60 := hW.1
  have hsz : M 1 5 = nI n := hG.1
  subst ey
  obtain ⟨d, rfl⟩ : ∃ e, d = e + 1 := ⟨d - 1, by omega⟩
  refine mg_body yy_Gr_levelAbove pg_Gr_levelAbove (Nat.le_of_ble_eq_true rfl) ?_
  show mm_Rn _ _ _ _ _ _ 0 [(0, _), (1, _), (2, _), (3, _)] [] _
  refine mg_iconst (v := 0) 1 rfl (by decide) rfl ?_
  refine mg_istore (L2 := [(0, _), (1, _), (2, _), (3, _), (4, _)]) 3 rfl (by decide) rfl rfl ?_
  refine mg_aload_n 4 rfl rfl rfl ?_
  refine mg_iload_n 5 rfl rfl rfl ?_
  refine mg_callV1 8 rfl (Nat.le_of_ble_eq_true rfl) pg_Gr_leftIsNode rfl rfl ?_
  refine sp_leftIsNode_8 (by omega) ?_
  show mm_Rn _ _ _ _ _ _ 8 [(0, _), (1, _), (2, _), (3, _), (4, _)] [_] _
  refine mg_if_eq 11 19 rfl rfl (by decide) (fun c_8 => ?_) (fun c_8 => absurd c_8 (by decide))
  refine mg_aload_n 20 rfl rfl rfl ?_
  refine mg_iload_n 21 rfl rfl rfl ?_
  refine mg_callV1 24 rfl (Nat.le_of_ble_eq_true rfl) pg_Gr_rightIsNode rfl rfl ?_
  refine sp_rightIsNode_8 (by omega) ?_
  show mm_Rn _ _ _ _ _ _ 24 [(0, _), (1, _), (2, _), (3, _), (4, _)] [_] _
  refine mg_if_eq 27 40 rfl rfl (by decide) (fun c_24 => absurd c_24 (by decide)) (fun c_24 => ?_)
  refine mg_iload 29 rfl rfl rfl ?_
  refine mg_aload_n 30 rfl rfl rfl ?_
  refine mg_getR 33 rfl rfl rfl rfl ?_
  refine mg_iload_n 34 rfl rfl rfl ?_
  refine mg_iald (v := nI (lv jb)) 35 rfl rfl (vp_in_nI (by omega : jb < 60) (by omega)) (by rw [nI_clamp (by omega)]; exact (hG.2.1 jb hjb).2.2.2) rfl ?_
  refine mg_max 38 rfl (Nat.le_of_ble_eq_true rfl) (by omega) rfl rfl ?_
  refine mg_istore (L2 := [(0, _), (1, _), (2, _), (3, _), (4, _)]) 40 rfl (by decide) rfl rfl ?_
  refine mg_iload 42 rfl rfl rfl ?_
  refine mg_iconst (v := 1) 43 rfl (by decide) rfl ?_
  refine mg_iadd 44 rfl rfl rfl ?_
  refine mg_iret rfl rfl ?_
  refine (show Q (some (.inl _)) M from ?_)
  refine ek_v (P := fun v => Q (some (.inl v)) M) ?_ k
  exact st_mx (p := 0) (by omega) (by have := (hW.2.1 jb hjb).2.2.1; omega)
