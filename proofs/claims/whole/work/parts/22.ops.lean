set_option maxHeartbeats 2000000 in
set_option maxRecDepth 20000 in
theorem sp_make {d : Nat} {M : mm_M} {Q : mm_Qt} {x p q : Int32} {n : Nat} {kd lv : Nat → Nat} {a b ru : Nat → Int32} (hG : st_gX M n kd lv a b ru) (hW : st_wf n kd lv a b ru) (hd : 4 ≤ d) (kR : ¬ st_ok n lv x p q → Q (some (.inl (-1))) M) (kF : st_ok n lv x p q → n = 60 → Q (some (.inl (-2))) M) (kN : ∀ k l, k < 9 → x = nI k → st_lf n k p → st_rf n k q → l = st_lev lv k p q → l ≤ 6 → n < 60 → Q (some (.inl (nI n))) (st_mkX M n x p q l)) : mm_Ev pg ly d 15 [.inr 1, .inl x, .inl p, .inl q] M Q := by
  have hn : n ≤ 60 := hW.1
  have hsz : M 1 5 = nI n := hG.1
  obtain ⟨d, rfl⟩ : ∃ e, d = e + 1 := ⟨d - 1, by omega⟩
  refine mg_body yy_Gr_make pg_Gr_make (Nat.le_of_ble_eq_true rfl) ?_
  show mm_Rn _ _ _ _ _ _ 0 [(0, _), (1, _), (2, _), (3, _)] [] _
  refine mg_iload_n 1 rfl rfl rfl ?_
  refine mg_bipush (v := 9) 3 rfl (by decide) rfl ?_
  refine mg_callS2 6 rfl (by decide) (Nat.le_of_ble_eq_true rfl) pg_PG_within rfl ?_
  refine sp_within 9 (by omega) rfl (by omega) (fun j hj hx => ?_) (fun hno => ?_)
  · show mm_Rn _ _ _ _ _ _ 6 [(0, _), (1, _), (2, _), (3, _)] [_] _
    refine mg_if_eq 9 27 rfl rfl (by decide) (fun c_6 => absurd c_6 (by decide)) (fun c_6 => ?_)
    subst hx
    rcases st_k9 hj with rfl | rfl | rfl | rfl | rfl | rfl | rfl | rfl | rfl
    · refine mg_aload_n 10 rfl rfl rfl ?_
      refine mg_iload_n 11 rfl rfl rfl ?_
      refine mg_iload_n 12 rfl rfl rfl ?_
      refine mg_callV2 15 rfl (Nat.le_of_ble_eq_true rfl) pg_Gr_leftFits rfl rfl ?_
      refine sp_leftFits_0 hG hW (by omega) (fun hl => ?_) (fun hl => ?_)
      · show mm_Rn _ _ _ _ _ _ 15 [(0, _), (1, _), (2, _), (3, _)] [_] _
        refine mg_if_eq 18 27 rfl rfl (by decide) (fun c_15 => absurd c_15 (by decide)) (fun c_15 => ?_)
        refine mg_aload_n 19 rfl rfl rfl ?_
        refine mg_iload_n 20 rfl rfl rfl ?_
        refine mg_iload_n 21 rfl rfl rfl ?_
        refine mg_callV2 24 rfl (Nat.le_of_ble_eq_true rfl) pg_Gr_rightFits rfl rfl ?_
        refine sp_rightFits_0 hG hW (by omega) (fun hr => ?_) (fun hr => ?_)
        · show mm_Rn _ _ _ _ _ _ 24 [(0, _), (1, _), (2, _), (3, _)] [_] _
          refine mg_if_ne 27 29 rfl rfl (by decide) (fun c_24 => ?_) (fun c_24 => absurd c_24 (by decide))
          have hlev : st_lev lv 0 p q = max (0) (0) + 1 := by
            unfold st_lev st_l
            rfl
          refine mg_aload_n 30 rfl rfl rfl ?_
          refine mg_iload_n 31 rfl rfl rfl ?_
          refine mg_iload_n 32 rfl rfl rfl ?_
          refine mg_iload_n 33 rfl rfl rfl ?_
          refine mg_callV3 36 rfl (Nat.le_of_ble_eq_true rfl) pg_Gr_levelAbove rfl rfl ?_
          refine sp_levelAbove_0 hG hW (by omega) ?_
          show mm_Rn _ _ _ _ _ _ 36 [(0, _), (1, _), (2, _), (3, _)] [_] _
          refine mg_istore (L2 := [(0, _), (1, _), (2, _), (3, _), (4, _)]) 38 rfl (by decide) rfl rfl ?_
          refine mg_iload 40 rfl rfl rfl ?_
          refine mg_bipush (v := 6) 42 rfl (by decide) rfl ?_
          refine mg_ic_le 45 47 rfl rfl (by decide) (fun c_42 => ?_) (fun c_42 => ?_)
          · have hle := (st_le 6 6 rfl (by omega) (by omega)).mp c_42
            refine mg_aload_n 48 rfl rfl rfl ?_
            refine mg_getI (v := nI n) 51 rfl rfl (Or.inl rfl) hsz rfl ?_
            refine mg_bipush (v := 60) 53 rfl (by decide) rfl ?_
            refine mg_ic_lt 56 59 rfl rfl (by decide) (fun c_53 => ?_) (fun c_53 => ?_)
            · have hn60 : n < 60 := (st_lt 60 60 rfl (by omega) (by omega)).mp c_53
              refine mg_aload_n 60 rfl rfl rfl ?_
              refine mg_getR 63 rfl rfl rfl rfl ?_
              refine mg_aload_n 64 rfl rfl rfl ?_
              refine mg_getI (v := nI n) 67 rfl rfl (Or.inl rfl) hsz rfl ?_
              refine mg_iload_n 68 rfl rfl rfl ?_
              refine mg_iast (j := n) 69 rfl rfl (vp_in_nI (by omega : n < 60) (by omega)) (nI_clamp (by omega)) rfl ?_
              refine mg_aload_n 70 rfl rfl rfl ?_
              refine mg_getR 73 rfl rfl rfl rfl ?_
              refine mg_aload_n 74 rfl rfl rfl ?_
              refine mg_getI (v := nI n) 77 rfl rfl (Or.inl rfl) hsz rfl ?_
              refine mg_iload_n 78 rfl rfl rfl ?_
              refine mg_iast (j := n) 79 rfl rfl (vp_in_nI (by omega : n < 60) (by omega)) (nI_clamp (by omega)) rfl ?_
              refine mg_aload_n 80 rfl rfl rfl ?_
              refine mg_getR 83 rfl rfl rfl rfl ?_
              refine mg_aload_n 84 rfl rfl rfl ?_
              refine mg_getI (v := nI n) 87 rfl rfl (Or.inl rfl) hsz rfl ?_
              refine mg_iload_n 88 rfl rfl rfl ?_
              refine mg_iast (j := n) 89 rfl rfl (vp_in_nI (by omega : n < 60) (by omega)) (nI_clamp (by omega)) rfl ?_
              refine mg_aload_n 90 rfl rfl rfl ?_
              refine mg_getR 93 rfl rfl rfl rfl ?_
              refine mg_aload_n 94 rfl rfl rfl ?_
              refine mg_getI (v := nI n) 97 rfl rfl (Or.inl rfl) hsz rfl ?_
              refine mg_iload 99 rfl rfl rfl ?_
              refine mg_iast (j := n) 100 rfl rfl (vp_in_nI (by omega : n < 60) (by omega)) (nI_clamp (by omega)) rfl ?_
              refine mg_aload_n 101 rfl rfl rfl ?_
              refine mg_dup 102 rfl rfl ?_
              refine mg_getI (v := nI n) 105 rfl rfl (Or.inl rfl) hsz rfl ?_
              refine mg_iconst (v := 1) 106 rfl (by decide) rfl ?_
              refine mg_iadd (v := nI (n + 1)) 107 rfl (nI_1 n) rfl ?_
              refine mg_putI 110 rfl rfl rfl rfl ?_
              refine mg_aload_n 111 rfl rfl rfl ?_
              refine mg_getI (v := nI (n + 1)) 114 rfl rfl (Or.inl rfl) rfl rfl ?_
              refine mg_iconst (v := 1) 115 rfl (by decide) rfl ?_
              refine mg_isub (v := nI n) 116 rfl (nI_pred n) rfl ?_
              refine mg_iret rfl rfl ?_
              have := kN 0 _ (by omega) rfl hl hr hlev.symm (by omega) hn60
              exact this
            · refine mg_bipush (v := (-2)) 58 rfl (by decide) rfl ?_
              refine mg_iret rfl rfl ?_
              exact kF ⟨0, by omega, rfl, hl, hr, by omega⟩ (by have := st_nlt 60 c_53 rfl (by omega) (by omega); omega)
          · refine mg_iconst (v := (-1)) 46 rfl (by decide) rfl ?_
            refine mg_iret rfl rfl ?_
            refine kR (fun h => c_42 ?_)
            have h6 := (st_ok_k (by omega) h).2.2
            rw [hlev] at h6
            exact (st_le 6 6 rfl (by omega) (by omega)).mpr h6
        · show mm_Rn _ _ _ _ _ _ 24 [(0, _), (1, _), (2, _), (3, _)] [_] _
          refine mg_if_ne 27 29 rfl rfl (by decide) (fun c_24 => absurd c_24 (by decide)) (fun c_24 => ?_)
          refine mg_iconst (v := (-1)) 28 rfl (by decide) rfl ?_
          refine mg_iret rfl rfl ?_
          first | exact kR (fun h => hl (st_ok_k (by omega) h).1) | exact kR (fun h => hr (st_ok_k (by omega) h).2.1)
      · show mm_Rn _ _ _ _ _ _ 15 [(0, _), (1, _), (2, _), (3, _)] [_] _
        refine mg_if_eq 18 27 rfl rfl (by decide) (fun c_15 => ?_) (fun c_15 => absurd c_15 (by decide))
        refine mg_iconst (v := (-1)) 28 rfl (by decide) rfl ?_
        refine mg_iret rfl rfl ?_
        first | exact kR (fun h => hl (st_ok_k (by omega) h).1) | exact kR (fun h => hr (st_ok_k (by omega) h).2.1)
    · refine mg_aload_n 10 rfl rfl rfl ?_
      refine mg_iload_n 11 rfl rfl rfl ?_
      refine mg_iload_n 12 rfl rfl rfl ?_
      refine mg_callV2 15 rfl (Nat.le_of_ble_eq_true rfl) pg_Gr_leftFits rfl rfl ?_
      refine sp_leftFits_1 hG hW (by omega) (fun hl => ?_) (fun hl => ?_)
      · show mm_Rn _ _ _ _ _ _ 15 [(0, _), (1, _), (2, _), (3, _)] [_] _
        refine mg_if_eq 18 27 rfl rfl (by decide) (fun c_15 => absurd c_15 (by decide)) (fun c_15 => ?_)
        refine mg_aload_n 19 rfl rfl rfl ?_
        refine mg_iload_n 20 rfl rfl rfl ?_
        refine mg_iload_n 21 rfl rfl rfl ?_
        refine mg_callV2 24 rfl (Nat.le_of_ble_eq_true rfl) pg_Gr_rightFits rfl rfl ?_
        refine sp_rightFits_1 hG hW (by omega) (fun hr => ?_) (fun hr => ?_)
        · show mm_Rn _ _ _ _ _ _ 24 [(0, _), (1, _), (2, _), (3, _)] [_] _
          refine mg_if_ne 27 29 rfl rfl (by decide) (fun c_24 => ?_) (fun c_24 => absurd c_24 (by decide))
          have hlev : st_lev lv 1 p q = max (0) (0) + 1 := by
            unfold st_lev st_l
            rfl
          refine mg_aload_n 30 rfl rfl rfl ?_
          refine mg_iload_n 31 rfl rfl rfl ?_
          refine mg_iload_n 32 rfl rfl rfl ?_
          refine mg_iload_n 33 rfl rfl rfl ?_
          refine mg_callV3 36 rfl (Nat.le_of_ble_eq_true rfl) pg_Gr_levelAbove rfl rfl ?_
          refine sp_levelAbove_1 hG hW (by omega) ?_
          show mm_Rn _ _ _ _ _ _ 36 [(0, _), (1, _), (2, _), (3, _)] [_] _
          refine mg_istore (L2 := [(0, _), (1, _), (2, _), (3, _), (4, _)]) 38 rfl (by decide) rfl rfl ?_
          refine mg_iload 40 rfl rfl rfl ?_
          refine mg_bipush (v := 6) 42 rfl (by decide) rfl ?_
          refine mg_ic_le 45 47 rfl rfl (by decide) (fun c_42 => ?_) (fun c_42 => ?_)
          · have hle := (st_le 6 6 rfl (by omega) (by omega)).mp c_42
            refine mg_aload_n 48 rfl rfl rfl ?_
            refine mg_getI (v := nI n) 51 rfl rfl (Or.inl rfl) hsz rfl ?_
            refine mg_bipush (v := 60) 53 rfl (by decide) rfl ?_
            refine mg_ic_lt 56 59 rfl rfl (by decide) (fun c_53 => ?_) (fun c_53 => ?_)
            · have hn60 : n < 60 := (st_lt 60 60 rfl (by omega) (by omega)).mp c_53
              refine mg_aload_n 60 rfl rfl rfl ?_
              refine mg_getR 63 rfl rfl rfl rfl ?_
              refine mg_aload_n 64 rfl rfl rfl ?_
              refine mg_getI (v := nI n) 67 rfl rfl (Or.inl rfl) hsz rfl ?_
              refine mg_iload_n 68 rfl rfl rfl ?_
              refine mg_iast (j := n) 69 rfl rfl (vp_in_nI (by omega : n < 60) (by omega)) (nI_clamp (by omega)) rfl ?_
              refine mg_aload_n 70 rfl rfl rfl ?_
              refine mg_getR 73 rfl rfl rfl rfl ?_
              refine mg_aload_n 74 rfl rfl rfl ?_
              refine mg_getI (v := nI n) 77 rfl rfl (Or.inl rfl) hsz rfl ?_
              refine mg_iload_n 78 rfl rfl rfl ?_
              refine mg_iast (j := n) 79 rfl rfl (vp_in_nI (by omega : n < 60) (by omega)) (nI_clamp (by omega)) rfl ?_
              refine mg_aload_n 80 rfl rfl rfl ?_
              refine mg_getR 83 rfl rfl rfl rfl ?_
              refine mg_aload_n 84 rfl rfl rfl ?_
              refine mg_getI (v := nI n) 87 rfl rfl (Or.inl rfl) hsz rfl ?_
              refine mg_iload_n 88 rfl rfl rfl ?_
              refine mg_iast (j := n) 89 rfl rfl (vp_in_nI (by omega : n < 60) (by omega)) (nI_clamp (by omega)) rfl ?_
              refine mg_aload_n 90 rfl rfl rfl ?_
              refine mg_getR 93 rfl rfl rfl rfl ?_
              refine mg_aload_n 94 rfl rfl rfl ?_
              refine mg_getI (v := nI n) 97 rfl rfl (Or.inl rfl) hsz rfl ?_
              refine mg_iload 99 rfl rfl rfl ?_
              refine mg_iast (j := n) 100 rfl rfl (vp_in_nI (by omega : n < 60) (by omega)) (nI_clamp (by omega)) rfl ?_
              refine mg_aload_n 101 rfl rfl rfl ?_
              refine mg_dup 102 rfl rfl ?_
              refine mg_getI (v := nI n) 105 rfl rfl (Or.inl rfl) hsz rfl ?_
              refine mg_iconst (v := 1) 106 rfl (by decide) rfl ?_
              refine mg_iadd (v := nI (n + 1)) 107 rfl (nI_1 n) rfl ?_
              refine mg_putI 110 rfl rfl rfl rfl ?_
              refine mg_aload_n 111 rfl rfl rfl ?_
              refine mg_getI (v := nI (n + 1)) 114 rfl rfl (Or.inl rfl) rfl rfl ?_
              refine mg_iconst (v := 1) 115 rfl (by decide) rfl ?_
              refine mg_isub (v := nI n) 116 rfl (nI_pred n) rfl ?_
              refine mg_iret rfl rfl ?_
              have := kN 1 _ (by omega) rfl hl hr hlev.symm (by omega) hn60
              exact this
            · refine mg_bipush (v := (-2)) 58 rfl (by decide) rfl ?_
              refine mg_iret rfl rfl ?_
              exact kF ⟨1, by omega, rfl, hl, hr, by omega⟩ (by have := st_nlt 60 c_53 rfl (by omega) (by omega); omega)
          · refine mg_iconst (v := (-1)) 46 rfl (by decide) rfl ?_
            refine mg_iret rfl rfl ?_
            refine kR (fun h => c_42 ?_)
            have h6 := (st_ok_k (by omega) h).2.2
            rw [hlev] at h6
            exact (st_le 6 6 rfl (by omega) (by omega)).mpr h6
        · show mm_Rn _ _ _ _ _ _ 24 [(0, _), (1, _), (2, _), (3, _)] [_] _
          refine mg_if_ne 27 29 rfl rfl (by decide) (fun c_24 => absurd c_24 (by decide)) (fun c_24 => ?_)
          refine mg_iconst (v := (-1)) 28 rfl (by decide) rfl ?_
          refine mg_iret rfl rfl ?_
          first | exact kR (fun h => hl (st_ok_k (by omega) h).1) | exact kR (fun h => hr (st_ok_k (by omega) h).2.1)
      · show mm_Rn _ _ _ _ _ _ 15 [(0, _), (1, _), (2, _), (3, _)] [_] _
        refine mg_if_eq 18 27 rfl rfl (by decide) (fun c_15 => ?_) (fun c_15 => absurd c_15 (by decide))
        refine mg_iconst (v := (-1)) 28 rfl (by decide) rfl ?_
        refine mg_iret rfl rfl ?_
        first | exact kR (fun h => hl (st_ok_k (by omega) h).1) | exact kR (fun h => hr (st_ok_k (by omega) h).2.1)
    · refine mg_aload_n 10 rfl rfl rfl ?_
      refine mg_iload_n 11 rfl rfl rfl ?_
      refine mg_iload_n 12 rfl rfl rfl ?_
      refine mg_callV2 15 rfl (Nat.le_of_ble_eq_true rfl) pg_Gr_leftFits rfl rfl ?_
      refine sp_leftFits_2 hG hW (by omega) (fun hl => ?_) (fun hl => ?_)
      · show mm_Rn _ _ _ _ _ _ 15 [(0, _), (1, _), (2, _), (3, _)] [_] _
        refine mg_if_eq 18 27 rfl rfl (by decide) (fun c_15 => absurd c_15 (by decide)) (fun c_15 => ?_)
        refine mg_aload_n 19 rfl rfl rfl ?_
        refine mg_iload_n 20 rfl rfl rfl ?_
        refine mg_iload_n 21 rfl rfl rfl ?_
        refine mg_callV2 24 rfl (Nat.le_of_ble_eq_true rfl) pg_Gr_rightFits rfl rfl ?_
        refine sp_rightFits_2 hG hW (by omega) (fun hr => ?_) (fun hr => ?_)
        · show mm_Rn _ _ _ _ _ _ 24 [(0, _), (1, _), (2, _), (3, _)] [_] _
          refine mg_if_ne 27 29 rfl rfl (by decide) (fun c_24 => ?_) (fun c_24 => absurd c_24 (by decide))
          obtain ⟨ja, hja, ex⟩ : st_in n p := hl.resolve_right (by decide)
          subst ex
          have lja := (hW.2.1 ja hja).2.2.1
          obtain ⟨jb, hjb, ey⟩ : st_in n q := hr rfl
          subst ey
          have ljb := (hW.2.1 jb hjb).2.2.1
          have hlev : st_lev lv 2 (nI ja) (nI jb) = max (lv ja) (lv jb) + 1 := by
            unfold st_lev st_l
            rw [nI_clamp (by omega : ja < 2 ^ 31)]
            rw [nI_clamp (by omega : jb < 2 ^ 31)]
            rfl
          refine mg_aload_n 30 rfl rfl rfl ?_
          refine mg_iload_n 31 rfl rfl rfl ?_
          refine mg_iload_n 32 rfl rfl rfl ?_
          refine mg_iload_n 33 rfl rfl rfl ?_
          refine mg_callV3 36 rfl (Nat.le_of_ble_eq_true rfl) pg_Gr_levelAbove rfl rfl ?_
          refine sp_levelAbove_2 hG hW hja rfl hjb rfl (by omega) ?_
          show mm_Rn _ _ _ _ _ _ 36 [(0, _), (1, _), (2, _), (3, _)] [_] _
          refine mg_istore (L2 := [(0, _), (1, _), (2, _), (3, _), (4, _)]) 38 rfl (by decide) rfl rfl ?_
          refine mg_iload 40 rfl rfl rfl ?_
          refine mg_bipush (v := 6) 42 rfl (by decide) rfl ?_
          refine mg_ic_le 45 47 rfl rfl (by decide) (fun c_42 => ?_) (fun c_42 => ?_)
          · have hle := (st_le 6 6 rfl (by omega) (by omega)).mp c_42
            refine mg_aload_n 48 rfl rfl rfl ?_
            refine mg_getI (v := nI n) 51 rfl rfl (Or.inl rfl) hsz rfl ?_
            refine mg_bipush (v := 60) 53 rfl (by decide) rfl ?_
            refine mg_ic_lt 56 59 rfl rfl (by decide) (fun c_53 => ?_) (fun c_53 => ?_)
            · have hn60 : n < 60 := (st_lt 60 60 rfl (by omega) (by omega)).mp c_53
              refine mg_aload_n 60 rfl rfl rfl ?_
              refine mg_getR 63 rfl rfl rfl rfl ?_
              refine mg_aload_n 64 rfl rfl rfl ?_
              refine mg_getI (v := nI n) 67 rfl rfl (Or.inl rfl) hsz rfl ?_
              refine mg_iload_n 68 rfl rfl rfl ?_
              refine mg_iast (j := n) 69 rfl rfl (vp_in_nI (by omega : n < 60) (by omega)) (nI_clamp (by omega)) rfl ?_
              refine mg_aload_n 70 rfl rfl rfl ?_
              refine mg_getR 73 rfl rfl rfl rfl ?_
              refine mg_aload_n 74 rfl rfl rfl ?_
              refine mg_getI (v := nI n) 77 rfl rfl (Or.inl rfl) hsz rfl ?_
              refine mg_iload_n 78 rfl rfl rfl ?_
              refine mg_iast (j := n) 79 rfl rfl (vp_in_nI (by omega : n < 60) (by omega)) (nI_clamp (by omega)) rfl ?_
              refine mg_aload_n 80 rfl rfl rfl ?_
              refine mg_getR 83 rfl rfl rfl rfl ?_
              refine mg_aload_n 84 rfl rfl rfl ?_
              refine mg_getI (v := nI n) 87 rfl rfl (Or.inl rfl) hsz rfl ?_
              refine mg_iload_n 88 rfl rfl rfl ?_
              refine mg_iast (j := n) 89 rfl rfl (vp_in_nI (by omega : n < 60) (by omega)) (nI_clamp (by omega)) rfl ?_
              refine mg_aload_n 90 rfl rfl rfl ?_
              refine mg_getR 93 rfl rfl rfl rfl ?_
              refine mg_aload_n 94 rfl rfl rfl ?_
              refine mg_getI (v := nI n) 97 rfl rfl (Or.inl rfl) hsz rfl ?_
              refine mg_iload 99 rfl rfl rfl ?_
              refine mg_iast (j := n) 100 rfl rfl (vp_in_nI (by omega : n < 60) (by omega)) (nI_clamp (by omega)) rfl ?_
              refine mg_aload_n 101 rfl rfl rfl ?_
              refine mg_dup 102 rfl rfl ?_
              refine mg_getI (v := nI n) 105 rfl rfl (Or.inl rfl) hsz rfl ?_
              refine mg_iconst (v := 1) 106 rfl (by decide) rfl ?_
              refine mg_iadd (v := nI (n + 1)) 107 rfl (nI_1 n) rfl ?_
              refine mg_putI 110 rfl rfl rfl rfl ?_
              refine mg_aload_n 111 rfl rfl rfl ?_
              refine mg_getI (v := nI (n + 1)) 114 rfl rfl (Or.inl rfl) rfl rfl ?_
              refine mg_iconst (v := 1) 115 rfl (by decide) rfl ?_
              refine mg_isub (v := nI n) 116 rfl (nI_pred n) rfl ?_
              refine mg_iret rfl rfl ?_
              have := kN 2 _ (by omega) rfl (Or.inl ⟨ja, hja, rfl⟩) (fun _ => ⟨jb, hjb, rfl⟩) hlev.symm (by omega) hn60
              exact this
            · refine mg_bipush (v := (-2)) 58 rfl (by decide) rfl ?_
              refine mg_iret rfl rfl ?_
              exact kF ⟨2, by omega, rfl, Or.inl ⟨ja, hja, rfl⟩, (fun _ => ⟨jb, hjb, rfl⟩), by omega⟩ (by have := st_nlt 60 c_53 rfl (by omega) (by omega); omega)
          · refine mg_iconst (v := (-1)) 46 rfl (by decide) rfl ?_
            refine mg_iret rfl rfl ?_
            refine kR (fun h => c_42 ?_)
            have h6 := (st_ok_k (by omega) h).2.2
            rw [hlev] at h6
            exact (st_le 6 6 rfl (by omega) (by omega)).mpr h6
        · show mm_Rn _ _ _ _ _ _ 24 [(0, _), (1, _), (2, _), (3, _)] [_] _
          refine mg_if_ne 27 29 rfl rfl (by decide) (fun c_24 => absurd c_24 (by decide)) (fun c_24 => ?_)
          refine mg_iconst (v := (-1)) 28 rfl (by decide) rfl ?_
          refine mg_iret rfl rfl ?_
          first | exact kR (fun h => hl (st_ok_k (by omega) h).1) | exact kR (fun h => hr (st_ok_k (by omega) h).2.1)
      · show mm_Rn _ _ _ _ _ _ 15 [(0, _), (1, _), (2, _), (3, _)] [_] _
        refine mg_if_eq 18 27 rfl rfl (by decide) (fun c_15 => ?_) (fun c_15 => absurd c_15 (by decide))
        refine mg_iconst (v := (-1)) 28 rfl (by decide) rfl ?_
        refine mg_iret rfl rfl ?_
        first | exact kR (fun h => hl (st_ok_k (by omega) h).1) | exact kR (fun h => hr (st_ok_k (by omega) h).2.1)
    · refine mg_aload_n 10 rfl rfl rfl ?_
      refine mg_iload_n 11 rfl rfl rfl ?_
      refine mg_iload_n 12 rfl rfl rfl ?_
      refine mg_callV2 15 rfl (Nat.le_of_ble_eq_true rfl) pg_Gr_leftFits rfl rfl ?_
      refine sp_leftFits_3 hG hW (by omega) (fun hl => ?_) (fun hl => ?_)
      · show mm_Rn _ _ _ _ _ _ 15 [(0, _), (1, _), (2, _), (3, _)] [_] _
        refine mg_if_eq 18 27 rfl rfl (by decide) (fun c_15 => absurd c_15 (by decide)) (fun c_15 => ?_)
        refine mg_aload_n 19 rfl rfl rfl ?_
        refine mg_iload_n 20 rfl rfl rfl ?_
        refine mg_iload_n 21 rfl rfl rfl ?_
        refine mg_callV2 24 rfl (Nat.le_of_ble_eq_true rfl) pg_Gr_rightFits rfl rfl ?_
        refine sp_rightFits_3 hG hW (by omega) (fun hr => ?_) (fun hr => ?_)
        · show mm_Rn _ _ _ _ _ _ 24 [(0, _), (1, _), (2, _), (3, _)] [_] _
          refine mg_if_ne 27 29 rfl rfl (by decide) (fun c_24 => ?_) (fun c_24 => absurd c_24 (by decide))
          obtain ⟨ja, hja, ex⟩ : st_in n p := hl.resolve_right (by decide)
          subst ex
          have lja := (hW.2.1 ja hja).2.2.1
          obtain ⟨jb, hjb, ey⟩ : st_in n q := hr rfl
          subst ey
          have ljb := (hW.2.1 jb hjb).2.2.1
          have hlev : st_lev lv 3 (nI ja) (nI jb) = max (lv ja) (lv jb) + 1 := by
            unfold st_lev st_l
            rw [nI_clamp (by omega : ja < 2 ^ 31)]
            rw [nI_clamp (by omega : jb < 2 ^ 31)]
            rfl
          refine mg_aload_n 30 rfl rfl rfl ?_
          refine mg_iload_n 31 rfl rfl rfl ?_
          refine mg_iload_n 32 rfl rfl rfl ?_
          refine mg_iload_n 33 rfl rfl rfl ?_
          refine mg_callV3 36 rfl (Nat.le_of_ble_eq_true rfl) pg_Gr_levelAbove rfl rfl ?_
          refine sp_levelAbove_3 hG hW hja rfl hjb rfl (by omega) ?_
          show mm_Rn _ _ _ _ _ _ 36 [(0, _), (1, _), (2, _), (3, _)] [_] _
          refine mg_istore (L2 := [(0, _), (1, _), (2, _), (3, _), (4, _)]) 38 rfl (by decide) rfl rfl ?_
          refine mg_iload 40 rfl rfl rfl ?_
          refine mg_bipush (v := 6) 42 rfl (by decide) rfl ?_
          refine mg_ic_le 45 47 rfl rfl (by decide) (fun c_42 => ?_) (fun c_42 => ?_)
          · have hle := (st_le 6 6 rfl (by omega) (by omega)).mp c_42
            refine mg_aload_n 48 rfl rfl rfl ?_
            refine mg_getI (v := nI n) 51 rfl rfl (Or.inl rfl) hsz rfl ?_
            refine mg_bipush (v := 60) 53 rfl (by decide) rfl ?_
            refine mg_ic_lt 56 59 rfl rfl (by decide) (fun c_53 => ?_) (fun c_53 => ?_)
            · have hn60 : n < 60 := (st_lt 60 60 rfl (by omega) (by omega)).mp c_53
              refine mg_aload_n 60 rfl rfl rfl ?_
              refine mg_getR 63 rfl rfl rfl rfl ?_
              refine mg_aload_n 64 rfl rfl rfl ?_
              refine mg_getI (v := nI n) 67 rfl rfl (Or.inl rfl) hsz rfl ?_
              refine mg_iload_n 68 rfl rfl rfl ?_
              refine mg_iast (j := n) 69 rfl rfl (vp_in_nI (by omega : n < 60) (by omega)) (nI_clamp (by omega)) rfl ?_
              refine mg_aload_n 70 rfl rfl rfl ?_
              refine mg_getR 73 rfl rfl rfl rfl ?_
              refine mg_aload_n 74 rfl rfl rfl ?_
              refine mg_getI (v := nI n) 77 rfl rfl (Or.inl rfl) hsz rfl ?_
              refine mg_iload_n 78 rfl rfl rfl ?_
              refine mg_iast (j := n) 79 rfl rfl (vp_in_nI (by omega : n < 60) (by omega)) (nI_clamp (by omega)) rfl ?_
              refine mg_aload_n 80 rfl rfl rfl ?_
              refine mg_getR 83 rfl rfl rfl rfl ?_
              refine mg_aload_n 84 rfl rfl rfl ?_
              refine mg_getI (v := nI n) 87 rfl rfl (Or.inl rfl) hsz rfl ?_
              refine mg_iload_n 88 rfl rfl rfl ?_
              refine mg_iast (j := n) 89 rfl rfl (vp_in_nI (by omega : n < 60) (by omega)) (nI_clamp (by omega)) rfl ?_
              refine mg_aload_n 90 rfl rfl rfl ?_
              refine mg_getR 93 rfl rfl rfl rfl ?_
              refine mg_aload_n 94 rfl rfl rfl ?_
              refine mg_getI (v := nI n) 97 rfl rfl (Or.inl rfl) hsz rfl ?_
              refine mg_iload 99 rfl rfl rfl ?_
              refine mg_iast (j := n) 100 rfl rfl (vp_in_nI (by omega : n < 60) (by omega)) (nI_clamp (by omega)) rfl ?_
              refine mg_aload_n 101 rfl rfl rfl ?_
              refine mg_dup 102 rfl rfl ?_
              refine mg_getI (v := nI n) 105 rfl rfl (Or.inl rfl) hsz rfl ?_
              refine mg_iconst (v := 1) 106 rfl (by decide) rfl ?_
              refine mg_iadd (v := nI (n + 1)) 107 rfl (nI_1 n) rfl ?_
              refine mg_putI 110 rfl rfl rfl rfl ?_
              refine mg_aload_n 111 rfl rfl rfl ?_
              refine mg_getI (v := nI (n + 1)) 114 rfl rfl (Or.inl rfl) rfl rfl ?_
              refine mg_iconst (v := 1) 115 rfl (by decide) rfl ?_
              refine mg_isub (v := nI n) 116 rfl (nI_pred n) rfl ?_
              refine mg_iret rfl rfl ?_
              have := kN 3 _ (by omega) rfl (Or.inl ⟨ja, hja, rfl⟩) (fun _ => ⟨jb, hjb, rfl⟩) hlev.symm (by omega) hn60
              exact this
            · refine mg_bipush (v := (-2)) 58 rfl (by decide) rfl ?_
              refine mg_iret rfl rfl ?_
              exact kF ⟨3, by omega, rfl, Or.inl ⟨ja, hja, rfl⟩, (fun _ => ⟨jb, hjb, rfl⟩), by omega⟩ (by have := st_nlt 60 c_53 rfl (by omega) (by omega); omega)
          · refine mg_iconst (v := (-1)) 46 rfl (by decide) rfl ?_
            refine mg_iret rfl rfl ?_
            refine kR (fun h => c_42 ?_)
            have h6 := (st_ok_k (by omega) h).2.2
            rw [hlev] at h6
            exact (st_le 6 6 rfl (by omega) (by omega)).mpr h6
        · show mm_Rn _ _ _ _ _ _ 24 [(0, _), (1, _), (2, _), (3, _)] [_] _
          refine mg_if_ne 27 29 rfl rfl (by decide) (fun c_24 => absurd c_24 (by decide)) (fun c_24 => ?_)
          refine mg_iconst (v := (-1)) 28 rfl (by decide) rfl ?_
          refine mg_iret rfl rfl ?_
          first | exact kR (fun h => hl (st_ok_k (by omega) h).1) | exact kR (fun h => hr (st_ok_k (by omega) h).2.1)
      · show mm_Rn _ _ _ _ _ _ 15 [(0, _), (1, _), (2, _), (3, _)] [_] _
        refine mg_if_eq 18 27 rfl rfl (by decide) (fun c_15 => ?_) (fun c_15 => absurd c_15 (by decide))
        refine mg_iconst (v := (-1)) 28 rfl (by decide) rfl ?_
        refine mg_iret rfl rfl ?_
        first | exact kR (fun h => hl (st_ok_k (by omega) h).1) | exact kR (fun h => hr (st_ok_k (by omega) h).2.1)
    · refine mg_aload_n 10 rfl rfl rfl ?_
      refine mg_iload_n 11 rfl rfl rfl ?_
      refine mg_iload_n 12 rfl rfl rfl ?_
      refine mg_callV2 15 rfl (Nat.le_of_ble_eq_true rfl) pg_Gr_leftFits rfl rfl ?_
      refine sp_leftFits_4 hG hW (by omega) (fun hl => ?_) (fun hl => ?_)
      · show mm_Rn _ _ _ _ _ _ 15 [(0, _), (1, _), (2, _), (3, _)] [_] _
        refine mg_if_eq 18 27 rfl rfl (by decide) (fun c_15 => absurd c_15 (by decide)) (fun c_15 => ?_)
        refine mg_aload_n 19 rfl rfl rfl ?_
        refine mg_iload_n 20 rfl rfl rfl ?_
        refine mg_iload_n 21 rfl rfl rfl ?_
        refine mg_callV2 24 rfl (Nat.le_of_ble_eq_true rfl) pg_Gr_rightFits rfl rfl ?_
        refine sp_rightFits_4 hG hW (by omega) (fun hr => ?_) (fun hr => ?_)
        · show mm_Rn _ _ _ _ _ _ 24 [(0, _), (1, _), (2, _), (3, _)] [_] _
          refine mg_if_ne 27 29 rfl rfl (by decide) (fun c_24 => ?_) (fun c_24 => absurd c_24 (by decide))
          obtain ⟨ja, hja, ex⟩ : st_in n p := hl.resolve_right (by decide)
          subst ex
          have lja := (hW.2.1 ja hja).2.2.1
          have hlev : st_lev lv 4 (nI ja) q = max (lv ja) (0) + 1 := by
            unfold st_lev st_l
            rw [nI_clamp (by omega : ja < 2 ^ 31)]
            rfl
          refine mg_aload_n 30 rfl rfl rfl ?_
          refine mg_iload_n 31 rfl rfl rfl ?_
          refine mg_iload_n 32 rfl rfl rfl ?_
          refine mg_iload_n 33 rfl rfl rfl ?_
          refine mg_callV3 36 rfl (Nat.le_of_ble_eq_true rfl) pg_Gr_levelAbove rfl rfl ?_
          refine sp_levelAbove_4 hG hW hja rfl (by omega) ?_
          show mm_Rn _ _ _ _ _ _ 36 [(0, _), (1, _), (2, _), (3, _)] [_] _
          refine mg_istore (L2 := [(0, _), (1, _), (2, _), (3, _), (4, _)]) 38 rfl (by decide) rfl rfl ?_
          refine mg_iload 40 rfl rfl rfl ?_
          refine mg_bipush (v := 6) 42 rfl (by decide) rfl ?_
          refine mg_ic_le 45 47 rfl rfl (by decide) (fun c_42 => ?_) (fun c_42 => ?_)
          · have hle := (st_le 6 6 rfl (by omega) (by omega)).mp c_42
            refine mg_aload_n 48 rfl rfl rfl ?_
            refine mg_getI (v := nI n) 51 rfl rfl (Or.inl rfl) hsz rfl ?_
            refine mg_bipush (v := 60) 53 rfl (by decide) rfl ?_
            refine mg_ic_lt 56 59 rfl rfl (by decide) (fun c_53 => ?_) (fun c_53 => ?_)
            · have hn60 : n < 60 := (st_lt 60 60 rfl (by omega) (by omega)).mp c_53
              refine mg_aload_n 60 rfl rfl rfl ?_
              refine mg_getR 63 rfl rfl rfl rfl ?_
              refine mg_aload_n 64 rfl rfl rfl ?_
              refine mg_getI (v := nI n) 67 rfl rfl (Or.inl rfl) hsz rfl ?_
              refine mg_iload_n 68 rfl rfl rfl ?_
              refine mg_iast (j := n) 69 rfl rfl (vp_in_nI (by omega : n < 60) (by omega)) (nI_clamp (by omega)) rfl ?_
              refine mg_aload_n 70 rfl rfl rfl ?_
              refine mg_getR 73 rfl rfl rfl rfl ?_
              refine mg_aload_n 74 rfl rfl rfl ?_
              refine mg_getI (v := nI n) 77 rfl rfl (Or.inl rfl) hsz rfl ?_
              refine mg_iload_n 78 rfl rfl rfl ?_
              refine mg_iast (j := n) 79 rfl rfl (vp_in_nI (by omega : n < 60) (by omega)) (nI_clamp (by omega)) rfl ?_
              refine mg_aload_n 80 rfl rfl rfl ?_
              refine mg_getR 83 rfl rfl rfl rfl ?_
              refine mg_aload_n 84 rfl rfl rfl ?_
              refine mg_getI (v := nI n) 87 rfl rfl (Or.inl rfl) hsz rfl ?_
              refine mg_iload_n 88 rfl rfl rfl ?_
              refine mg_iast (j := n) 89 rfl rfl (vp_in_nI (by omega : n < 60) (by omega)) (nI_clamp (by omega)) rfl ?_
              refine mg_aload_n 90 rfl rfl rfl ?_
              refine mg_getR 93 rfl rfl rfl rfl ?_
              refine mg_aload_n 94 rfl rfl rfl ?_
              refine mg_getI (v := nI n) 97 rfl rfl (Or.inl rfl) hsz rfl ?_
              refine mg_iload 99 rfl rfl rfl ?_
              refine mg_iast (j := n) 100 rfl rfl (vp_in_nI (by omega : n < 60) (by omega)) (nI_clamp (by omega)) rfl ?_
              refine mg_aload_n 101 rfl rfl rfl ?_
              refine mg_dup 102 rfl rfl ?_
              refine mg_getI (v := nI n) 105 rfl rfl (Or.inl rfl) hsz rfl ?_
              refine mg_iconst (v := 1) 106 rfl (by decide) rfl ?_
              refine mg_iadd (v := nI (n + 1)) 107 rfl (nI_1 n) rfl ?_
              refine mg_putI 110 rfl rfl rfl rfl ?_
              refine mg_aload_n 111 rfl rfl rfl ?_
              refine mg_getI (v := nI (n + 1)) 114 rfl rfl (Or.inl rfl) rfl rfl ?_
              refine mg_iconst (v := 1) 115 rfl (by decide) rfl ?_
              refine mg_isub (v := nI n) 116 rfl (nI_pred n) rfl ?_
              refine mg_iret rfl rfl ?_
              have := kN 4 _ (by omega) rfl (Or.inl ⟨ja, hja, rfl⟩) hr hlev.symm (by omega) hn60
              exact this
            · refine mg_bipush (v := (-2)) 58 rfl (by decide) rfl ?_
              refine mg_iret rfl rfl ?_
              exact kF ⟨4, by omega, rfl, Or.inl ⟨ja, hja, rfl⟩, hr, by omega⟩ (by have := st_nlt 60 c_53 rfl (by omega) (by omega); omega)
          · refine mg_iconst (v := (-1)) 46 rfl (by decide) rfl ?_
            refine mg_iret rfl rfl ?_
            refine kR (fun h => c_42 ?_)
            have h6 := (st_ok_k (by omega) h).2.2
            rw [hlev] at h6
            exact (st_le 6 6 rfl (by omega) (by omega)).mpr h6
        · show mm_Rn _ _ _ _ _ _ 24 [(0, _), (1, _), (2, _), (3, _)] [_] _
          refine mg_if_ne 27 29 rfl rfl (by decide) (fun c_24 => absurd c_24 (by decide)) (fun c_24 => ?_)
          refine mg_iconst (v := (-1)) 28 rfl (by decide) rfl ?_
          refine mg_iret rfl rfl ?_
          first | exact kR (fun h => hl (st_ok_k (by omega) h).1) | exact kR (fun h => hr (st_ok_k (by omega) h).2.1)
      · show mm_Rn _ _ _ _ _ _ 15 [(0, _), (1, _), (2, _), (3, _)] [_] _
        refine mg_if_eq 18 27 rfl rfl (by decide) (fun c_15 => ?_) (fun c_15 => absurd c_15 (by decide))
        refine mg_iconst (v := (-1)) 28 rfl (by decide) rfl ?_
        refine mg_iret rfl rfl ?_
        first | exact kR (fun h => hl (st_ok_k (by omega) h).1) | exact kR (fun h => hr (st_ok_k (by omega) h).2.1)
    · refine mg_aload_n 10 rfl rfl rfl ?_
      refine mg_iload_n 11 rfl rfl rfl ?_
      refine mg_iload_n 12 rfl rfl rfl ?_
      refine mg_callV2 15 rfl (Nat.le_of_ble_eq_true rfl) pg_Gr_leftFits rfl rfl ?_
      refine sp_leftFits_5 hG hW (by omega) (fun hl => ?_) (fun hl => ?_)
      · show mm_Rn _ _ _ _ _ _ 15 [(0, _), (1, _), (2, _), (3, _)] [_] _
        refine mg_if_eq 18 27 rfl rfl (by decide) (fun c_15 => absurd c_15 (by decide)) (fun c_15 => ?_)
        refine mg_aload_n 19 rfl rfl rfl ?_
        refine mg_iload_n 20 rfl rfl rfl ?_
        refine mg_iload_n 21 rfl rfl rfl ?_
        refine mg_callV2 24 rfl (Nat.le_of_ble_eq_true rfl) pg_Gr_rightFits rfl rfl ?_
        refine sp_rightFits_5 hG hW (by omega) (fun hr => ?_) (fun hr => ?_)
        · show mm_Rn _ _ _ _ _ _ 24 [(0, _), (1, _), (2, _), (3, _)] [_] _
          refine mg_if_ne 27 29 rfl rfl (by decide) (fun c_24 => ?_) (fun c_24 => absurd c_24 (by decide))
          obtain ⟨ja, hja, ex⟩ : st_in n p := hl.resolve_right (by decide)
          subst ex
          have lja := (hW.2.1 ja hja).2.2.1
          have hlev : st_lev lv 5 (nI ja) q = max (lv ja) (0) + 1 := by
            unfold st_lev st_l
            rw [nI_clamp (by omega : ja < 2 ^ 31)]
            rfl
          refine mg_aload_n 30 rfl rfl rfl ?_
          refine mg_iload_n 31 rfl rfl rfl ?_
          refine mg_iload_n 32 rfl rfl rfl ?_
          refine mg_iload_n 33 rfl rfl rfl ?_
          refine mg_callV3 36 rfl (Nat.le_of_ble_eq_true rfl) pg_Gr_levelAbove rfl rfl ?_
          refine sp_levelAbove_5 hG hW hja rfl (by omega) ?_
          show mm_Rn _ _ _ _ _ _ 36 [(0, _), (1, _), (2, _), (3, _)] [_] _
          refine mg_istore (L2 := [(0, _), (1, _), (2, _), (3, _), (4, _)]) 38 rfl (by decide) rfl rfl ?_
          refine mg_iload 40 rfl rfl rfl ?_
          refine mg_bipush (v := 6) 42 rfl (by decide) rfl ?_
          refine mg_ic_le 45 47 rfl rfl (by decide) (fun c_42 => ?_) (fun c_42 => ?_)
          · have hle := (st_le 6 6 rfl (by omega) (by omega)).mp c_42
            refine mg_aload_n 48 rfl rfl rfl ?_
            refine mg_getI (v := nI n) 51 rfl rfl (Or.inl rfl) hsz rfl ?_
            refine mg_bipush (v := 60) 53 rfl (by decide) rfl ?_
            refine mg_ic_lt 56 59 rfl rfl (by decide) (fun c_53 => ?_) (fun c_53 => ?_)
            · have hn60 : n < 60 := (st_lt 60 60 rfl (by omega) (by omega)).mp c_53
              refine mg_aload_n 60 rfl rfl rfl ?_
              refine mg_getR 63 rfl rfl rfl rfl ?_
              refine mg_aload_n 64 rfl rfl rfl ?_
              refine mg_getI (v := nI n) 67 rfl rfl (Or.inl rfl) hsz rfl ?_
              refine mg_iload_n 68 rfl rfl rfl ?_
              refine mg_iast (j := n) 69 rfl rfl (vp_in_nI (by omega : n < 60) (by omega)) (nI_clamp (by omega)) rfl ?_
              refine mg_aload_n 70 rfl rfl rfl ?_
              refine mg_getR 73 rfl rfl rfl rfl ?_
              refine mg_aload_n 74 rfl rfl rfl ?_
              refine mg_getI (v := nI n) 77 rfl rfl (Or.inl rfl) hsz rfl ?_
              refine mg_iload_n 78 rfl rfl rfl ?_
              refine mg_iast (j := n) 79 rfl rfl (vp_in_nI (by omega : n < 60) (by omega)) (nI_clamp (by omega)) rfl ?_
              refine mg_aload_n 80 rfl rfl rfl ?_
              refine mg_getR 83 rfl rfl rfl rfl ?_
              refine mg_aload_n 84 rfl rfl rfl ?_
              refine mg_getI (v := nI n) 87 rfl rfl (Or.inl rfl) hsz rfl ?_
              refine mg_iload_n 88 rfl rfl rfl ?_
              refine mg_iast (j := n) 89 rfl rfl (vp_in_nI (by omega : n < 60) (by omega)) (nI_clamp (by omega)) rfl ?_
              refine mg_aload_n 90 rfl rfl rfl ?_
              refine mg_getR 93 rfl rfl rfl rfl ?_
              refine mg_aload_n 94 rfl rfl rfl ?_
              refine mg_getI (v := nI n) 97 rfl rfl (Or.inl rfl) hsz rfl ?_
              refine mg_iload 99 rfl rfl rfl ?_
              refine mg_iast (j := n) 100 rfl rfl (vp_in_nI (by omega : n < 60) (by omega)) (nI_clamp (by omega)) rfl ?_
              refine mg_aload_n 101 rfl rfl rfl ?_
              refine mg_dup 102 rfl rfl ?_
              refine mg_getI (v := nI n) 105 rfl rfl (Or.inl rfl) hsz rfl ?_
              refine mg_iconst (v := 1) 106 rfl (by decide) rfl ?_
              refine mg_iadd (v := nI (n + 1)) 107 rfl (nI_1 n) rfl ?_
              refine mg_putI 110 rfl rfl rfl rfl ?_
              refine mg_aload_n 111 rfl rfl rfl ?_
              refine mg_getI (v := nI (n + 1)) 114 rfl rfl (Or.inl rfl) rfl rfl ?_
              refine mg_iconst (v := 1) 115 rfl (by decide) rfl ?_
              refine mg_isub (v := nI n) 116 rfl (nI_pred n) rfl ?_
              refine mg_iret rfl rfl ?_
              have := kN 5 _ (by omega) rfl (Or.inl ⟨ja, hja, rfl⟩) hr hlev.symm (by omega) hn60
              exact this
            · refine mg_bipush (v := (-2)) 58 rfl (by decide) rfl ?_
              refine mg_iret rfl rfl ?_
              exact kF ⟨5, by omega, rfl, Or.inl ⟨ja, hja, rfl⟩, hr, by omega⟩ (by have := st_nlt 60 c_53 rfl (by omega) (by omega); omega)
          · refine mg_iconst (v := (-1)) 46 rfl (by decide) rfl ?_
            refine mg_iret rfl rfl ?_
            refine kR (fun h => c_42 ?_)
            have h6 := (st_ok_k (by omega) h).2.2
            rw [hlev] at h6
            exact (st_le 6 6 rfl (by omega) (by omega)).mpr h6
        · show mm_Rn _ _ _ _ _ _ 24 [(0, _), (1, _), (2, _), (3, _)] [_] _
          refine mg_if_ne 27 29 rfl rfl (by decide) (fun c_24 => absurd c_24 (by decide)) (fun c_24 => ?_)
          refine mg_iconst (v := (-1)) 28 rfl (by decide) rfl ?_
          refine mg_iret rfl rfl ?_
          first | exact kR (fun h => hl (st_ok_k (by omega) h).1) | exact kR (fun h => hr (st_ok_k (by omega) h).2.1)
      · show mm_Rn _ _ _ _ _ _ 15 [(0, _), (1, _), (2, _), (3, _)] [_] _
        refine mg_if_eq 18 27 rfl rfl (by decide) (fun c_15 => ?_) (fun c_15 => absurd c_15 (by decide))
        refine mg_iconst (v := (-1)) 28 rfl (by decide) rfl ?_
        refine mg_iret rfl rfl ?_
        first | exact kR (fun h => hl (st_ok_k (by omega) h).1) | exact kR (fun h => hr (st_ok_k (by omega) h).2.1)
    · refine mg_aload_n 10 rfl rfl rfl ?_
      refine mg_iload_n 11 rfl rfl rfl ?_
      refine mg_iload_n 12 rfl rfl rfl ?_
      refine mg_callV2 15 rfl (Nat.le_of_ble_eq_true rfl) pg_Gr_leftFits rfl rfl ?_
      refine sp_leftFits_6 hG hW (by omega) (fun hl => ?_) (fun hl => ?_)
      · show mm_Rn _ _ _ _ _ _ 15 [(0, _), (1, _), (2, _), (3, _)] [_] _
        refine mg_if_eq 18 27 rfl rfl (by decide) (fun c_15 => absurd c_15 (by decide)) (fun c_15 => ?_)
        refine mg_aload_n 19 rfl rfl rfl ?_
        refine mg_iload_n 20 rfl rfl rfl ?_
        refine mg_iload_n 21 rfl rfl rfl ?_
        refine mg_callV2 24 rfl (Nat.le_of_ble_eq_true rfl) pg_Gr_rightFits rfl rfl ?_
        refine sp_rightFits_6 hG hW (by omega) (fun hr => ?_) (fun hr => ?_)
        · show mm_Rn _ _ _ _ _ _ 24 [(0, _), (1, _), (2, _), (3, _)] [_] _
          refine mg_if_ne 27 29 rfl rfl (by decide) (fun c_24 => ?_) (fun c_24 => absurd c_24 (by decide))
          have hlev : st_lev lv 6 p q = max (0) (0) + 1 := by
            unfold st_lev st_l
            rfl
          refine mg_aload_n 30 rfl rfl rfl ?_
          refine mg_iload_n 31 rfl rfl rfl ?_
          refine mg_iload_n 32 rfl rfl rfl ?_
          refine mg_iload_n 33 rfl rfl rfl ?_
          refine mg_callV3 36 rfl (Nat.le_of_ble_eq_true rfl) pg_Gr_levelAbove rfl rfl ?_
          refine sp_levelAbove_6 hG hW (by omega) ?_
          show mm_Rn _ _ _ _ _ _ 36 [(0, _), (1, _), (2, _), (3, _)] [_] _
          refine mg_istore (L2 := [(0, _), (1, _), (2, _), (3, _), (4, _)]) 38 rfl (by decide) rfl rfl ?_
          refine mg_iload 40 rfl rfl rfl ?_
          refine mg_bipush (v := 6) 42 rfl (by decide) rfl ?_
          refine mg_ic_le 45 47 rfl rfl (by decide) (fun c_42 => ?_) (fun c_42 => ?_)
          · have hle := (st_le 6 6 rfl (by omega) (by omega)).mp c_42
            refine mg_aload_n 48 rfl rfl rfl ?_
            refine mg_getI (v := nI n) 51 rfl rfl (Or.inl rfl) hsz rfl ?_
            refine mg_bipush (v := 60) 53 rfl (by decide) rfl ?_
            refine mg_ic_lt 56 59 rfl rfl (by decide) (fun c_53 => ?_) (fun c_53 => ?_)
            · have hn60 : n < 60 := (st_lt 60 60 rfl (by omega) (by omega)).mp c_53
              refine mg_aload_n 60 rfl rfl rfl ?_
              refine mg_getR 63 rfl rfl rfl rfl ?_
              refine mg_aload_n 64 rfl rfl rfl ?_
              refine mg_getI (v := nI n) 67 rfl rfl (Or.inl rfl) hsz rfl ?_
              refine mg_iload_n 68 rfl rfl rfl ?_
              refine mg_iast (j := n) 69 rfl rfl (vp_in_nI (by omega : n < 60) (by omega)) (nI_clamp (by omega)) rfl ?_
              refine mg_aload_n 70 rfl rfl rfl ?_
              refine mg_getR 73 rfl rfl rfl rfl ?_
              refine mg_aload_n 74 rfl rfl rfl ?_
              refine mg_getI (v := nI n) 77 rfl rfl (Or.inl rfl) hsz rfl ?_
              refine mg_iload_n 78 rfl rfl rfl ?_
              refine mg_iast (j := n) 79 rfl rfl (vp_in_nI (by omega : n < 60) (by omega)) (nI_clamp (by omega)) rfl ?_
              refine mg_aload_n 80 rfl rfl rfl ?_
              refine mg_getR 83 rfl rfl rfl rfl ?_
              refine mg_aload_n 84 rfl rfl rfl ?_
              refine mg_getI (v := nI n) 87 rfl rfl (Or.inl rfl) hsz rfl ?_
              refine mg_iload_n 88 rfl rfl rfl ?_
              refine mg_iast (j := n) 89 rfl rfl (vp_in_nI (by omega : n < 60) (by omega)) (nI_clamp (by omega)) rfl ?_
              refine mg_aload_n 90 rfl rfl rfl ?_
              refine mg_getR 93 rfl rfl rfl rfl ?_
              refine mg_aload_n 94 rfl rfl rfl ?_
              refine mg_getI (v := nI n) 97 rfl rfl (Or.inl rfl) hsz rfl ?_
              refine mg_iload 99 rfl rfl rfl ?_
              refine mg_iast (j := n) 100 rfl rfl (vp_in_nI (by omega : n < 60) (by omega)) (nI_clamp (by omega)) rfl ?_
              refine mg_aload_n 101 rfl rfl rfl ?_
              refine mg_dup 102 rfl rfl ?_
              refine mg_getI (v := nI n) 105 rfl rfl (Or.inl rfl) hsz rfl ?_
              refine mg_iconst (v := 1) 106 rfl (by decide) rfl ?_
              refine mg_iadd (v := nI (n + 1)) 107 rfl (nI_1 n) rfl ?_
              refine mg_putI 110 rfl rfl rfl rfl ?_
              refine mg_aload_n 111 rfl rfl rfl ?_
              refine mg_getI (v := nI (n + 1)) 114 rfl rfl (Or.inl rfl) rfl rfl ?_
              refine mg_iconst (v := 1) 115 rfl (by decide) rfl ?_
              refine mg_isub (v := nI n) 116 rfl (nI_pred n) rfl ?_
              refine mg_iret rfl rfl ?_
              have := kN 6 _ (by omega) rfl hl hr hlev.symm (by omega) hn60
              exact this
            · refine mg_bipush (v := (-2)) 58 rfl (by decide) rfl ?_
              refine mg_iret rfl rfl ?_
              exact kF ⟨6, by omega, rfl, hl, hr, by omega⟩ (by have := st_nlt 60 c_53 rfl (by omega) (by omega); omega)
          · refine mg_iconst (v := (-1)) 46 rfl (by decide) rfl ?_
            refine mg_iret rfl rfl ?_
            refine kR (fun h => c_42 ?_)
            have h6 := (st_ok_k (by omega) h).2.2
            rw [hlev] at h6
            exact (st_le 6 6 rfl (by omega) (by omega)).mpr h6
        · show mm_Rn _ _ _ _ _ _ 24 [(0, _), (1, _), (2, _), (3, _)] [_] _
          refine mg_if_ne 27 29 rfl rfl (by decide) (fun c_24 => absurd c_24 (by decide)) (fun c_24 => ?_)
          refine mg_iconst (v := (-1)) 28 rfl (by decide) rfl ?_
          refine mg_iret rfl rfl ?_
          first | exact kR (fun h => hl (st_ok_k (by omega) h).1) | exact kR (fun h => hr (st_ok_k (by omega) h).2.1)
      · show mm_Rn _ _ _ _ _ _ 15 [(0, _), (1, _), (2, _), (3, _)] [_] _
        refine mg_if_eq 18 27 rfl rfl (by decide) (fun c_15 => ?_) (fun c_15 => absurd c_15 (by decide))
        refine mg_iconst (v := (-1)) 28 rfl (by decide) rfl ?_
        refine mg_iret rfl rfl ?_
        first | exact kR (fun h => hl (st_ok_k (by omega) h).1) | exact kR (fun h => hr (st_ok_k (by omega) h).2.1)
    · refine mg_aload_n 10 rfl rfl rfl ?_
      refine mg_iload_n 11 rfl rfl rfl ?_
      refine mg_iload_n 12 rfl rfl rfl ?_
      refine mg_callV2 15 rfl (Nat.le_of_ble_eq_true rfl) pg_Gr_leftFits rfl rfl ?_
      refine sp_leftFits_7 hG hW (by omega) (fun hl => ?_) (fun hl => ?_)
      · show mm_Rn _ _ _ _ _ _ 15 [(0, _), (1, _), (2, _), (3, _)] [_] _
        refine mg_if_eq 18 27 rfl rfl (by decide) (fun c_15 => absurd c_15 (by decide)) (fun c_15 => ?_)
        refine mg_aload_n 19 rfl rfl rfl ?_
        refine mg_iload_n 20 rfl rfl rfl ?_
        refine mg_iload_n 21 rfl rfl rfl ?_
        refine mg_callV2 24 rfl (Nat.le_of_ble_eq_true rfl) pg_Gr_rightFits rfl rfl ?_
        refine sp_rightFits_7 hG hW (by omega) (fun hr => ?_) (fun hr => ?_)
        · show mm_Rn _ _ _ _ _ _ 24 [(0, _), (1, _), (2, _), (3, _)] [_] _
          refine mg_if_ne 27 29 rfl rfl (by decide) (fun c_24 => ?_) (fun c_24 => absurd c_24 (by decide))
          obtain ⟨ja, hja, ex⟩ : st_in n p := hl.resolve_right (by decide)
          subst ex
          have lja := (hW.2.1 ja hja).2.2.1
          obtain ⟨jb, hjb, ey⟩ : st_in n q := hr rfl
          subst ey
          have ljb := (hW.2.1 jb hjb).2.2.1
          have hlev : st_lev lv 7 (nI ja) (nI jb) = max (lv ja) (lv jb) + 1 := by
            unfold st_lev st_l
            rw [nI_clamp (by omega : ja < 2 ^ 31)]
            rw [nI_clamp (by omega : jb < 2 ^ 31)]
            rfl
          refine mg_aload_n 30 rfl rfl rfl ?_
          refine mg_iload_n 31 rfl rfl rfl ?_
          refine mg_iload_n 32 rfl rfl rfl ?_
          refine mg_iload_n 33 rfl rfl rfl ?_
          refine mg_callV3 36 rfl (Nat.le_of_ble_eq_true rfl) pg_Gr_levelAbove rfl rfl ?_
          refine sp_levelAbove_7 hG hW hja rfl hjb rfl (by omega) ?_
          show mm_Rn _ _ _ _ _ _ 36 [(0, _), (1, _), (2, _), (3, _)] [_] _
          refine mg_istore (L2 := [(0, _), (1, _), (2, _), (3, _), (4, _)]) 38 rfl (by decide) rfl rfl ?_
          refine mg_iload 40 rfl rfl rfl ?_
          refine mg_bipush (v := 6) 42 rfl (by decide) rfl ?_
          refine mg_ic_le 45 47 rfl rfl (by decide) (fun c_42 => ?_) (fun c_42 => ?_)
          · have hle := (st_le 6 6 rfl (by omega) (by omega)).mp c_42
            refine mg_aload_n 48 rfl rfl rfl ?_
            refine mg_getI (v := nI n) 51 rfl rfl (Or.inl rfl) hsz rfl ?_
            refine mg_bipush (v := 60) 53 rfl (by decide) rfl ?_
            refine mg_ic_lt 56 59 rfl rfl (by decide) (fun c_53 => ?_) (fun c_53 => ?_)
            · have hn60 : n < 60 := (st_lt 60 60 rfl (by omega) (by omega)).mp c_53
              refine mg_aload_n 60 rfl rfl rfl ?_
              refine mg_getR 63 rfl rfl rfl rfl ?_
              refine mg_aload_n 64 rfl rfl rfl ?_
              refine mg_getI (v := nI n) 67 rfl rfl (Or.inl rfl) hsz rfl ?_
              refine mg_iload_n 68 rfl rfl rfl ?_
              refine mg_iast (j := n) 69 rfl rfl (vp_in_nI (by omega : n < 60) (by omega)) (nI_clamp (by omega)) rfl ?_
              refine mg_aload_n 70 rfl rfl rfl ?_
              refine mg_getR 73 rfl rfl rfl rfl ?_
              refine mg_aload_n 74 rfl rfl rfl ?_
              refine mg_getI (v := nI n) 77 rfl rfl (Or.inl rfl) hsz rfl ?_
              refine mg_iload_n 78 rfl rfl rfl ?_
              refine mg_iast (j := n) 79 rfl rfl (vp_in_nI (by omega : n < 60) (by omega)) (nI_clamp (by omega)) rfl ?_
              refine mg_aload_n 80 rfl rfl rfl ?_
              refine mg_getR 83 rfl rfl rfl rfl ?_
              refine mg_aload_n 84 rfl rfl rfl ?_
              refine mg_getI (v := nI n) 87 rfl rfl (Or.inl rfl) hsz rfl ?_
              refine mg_iload_n 88 rfl rfl rfl ?_
              refine mg_iast (j := n) 89 rfl rfl (vp_in_nI (by omega : n < 60) (by omega)) (nI_clamp (by omega)) rfl ?_
              refine mg_aload_n 90 rfl rfl rfl ?_
              refine mg_getR 93 rfl rfl rfl rfl ?_
              refine mg_aload_n 94 rfl rfl rfl ?_
              refine mg_getI (v := nI n) 97 rfl rfl (Or.inl rfl) hsz rfl ?_
              refine mg_iload 99 rfl rfl rfl ?_
              refine mg_iast (j := n) 100 rfl rfl (vp_in_nI (by omega : n < 60) (by omega)) (nI_clamp (by omega)) rfl ?_
              refine mg_aload_n 101 rfl rfl rfl ?_
              refine mg_dup 102 rfl rfl ?_
              refine mg_getI (v := nI n) 105 rfl rfl (Or.inl rfl) hsz rfl ?_
              refine mg_iconst (v := 1) 106 rfl (by decide) rfl ?_
              refine mg_iadd (v := nI (n + 1)) 107 rfl (nI_1 n) rfl ?_
              refine mg_putI 110 rfl rfl rfl rfl ?_
              refine mg_aload_n 111 rfl rfl rfl ?_
              refine mg_getI (v := nI (n + 1)) 114 rfl rfl (Or.inl rfl) rfl rfl ?_
              refine mg_iconst (v := 1) 115 rfl (by decide) rfl ?_
              refine mg_isub (v := nI n) 116 rfl (nI_pred n) rfl ?_
              refine mg_iret rfl rfl ?_
              have := kN 7 _ (by omega) rfl (Or.inl ⟨ja, hja, rfl⟩) (fun _ => ⟨jb, hjb, rfl⟩) hlev.symm (by omega) hn60
              exact this
            · refine mg_bipush (v := (-2)) 58 rfl (by decide) rfl ?_
              refine mg_iret rfl rfl ?_
              exact kF ⟨7, by omega, rfl, Or.inl ⟨ja, hja, rfl⟩, (fun _ => ⟨jb, hjb, rfl⟩), by omega⟩ (by have := st_nlt 60 c_53 rfl (by omega) (by omega); omega)
          · refine mg_iconst (v := (-1)) 46 rfl (by decide) rfl ?_
            refine mg_iret rfl rfl ?_
            refine kR (fun h => c_42 ?_)
            have h6 := (st_ok_k (by omega) h).2.2
            rw [hlev] at h6
            exact (st_le 6 6 rfl (by omega) (by omega)).mpr h6
        · show mm_Rn _ _ _ _ _ _ 24 [(0, _), (1, _), (2, _), (3, _)] [_] _
          refine mg_if_ne 27 29 rfl rfl (by decide) (fun c_24 => absurd c_24 (by decide)) (fun c_24 => ?_)
          refine mg_iconst (v := (-1)) 28 rfl (by decide) rfl ?_
          refine mg_iret rfl rfl ?_
          first | exact kR (fun h => hl (st_ok_k (by omega) h).1) | exact kR (fun h => hr (st_ok_k (by omega) h).2.1)
      · show mm_Rn _ _ _ _ _ _ 15 [(0, _), (1, _), (2, _), (3, _)] [_] _
        refine mg_if_eq 18 27 rfl rfl (by decide) (fun c_15 => ?_) (fun c_15 => absurd c_15 (by decide))
        refine mg_iconst (v := (-1)) 28 rfl (by decide) rfl ?_
        refine mg_iret rfl rfl ?_
        first | exact kR (fun h => hl (st_ok_k (by omega) h).1) | exact kR (fun h => hr (st_ok_k (by omega) h).2.1)
    · refine mg_aload_n 10 rfl rfl rfl ?_
      refine mg_iload_n 11 rfl rfl rfl ?_
      refine mg_iload_n 12 rfl rfl rfl ?_
      refine mg_callV2 15 rfl (Nat.le_of_ble_eq_true rfl) pg_Gr_leftFits rfl rfl ?_
      refine sp_leftFits_8 hG hW (by omega) (fun hl => ?_) (fun hl => ?_)
      · show mm_Rn _ _ _ _ _ _ 15 [(0, _), (1, _), (2, _), (3, _)] [_] _
        refine mg_if_eq 18 27 rfl rfl (by decide) (fun c_15 => absurd c_15 (by decide)) (fun c_15 => ?_)
        refine mg_aload_n 19 rfl rfl rfl ?_
        refine mg_iload_n 20 rfl rfl rfl ?_
        refine mg_iload_n 21 rfl rfl rfl ?_
        refine mg_callV2 24 rfl (Nat.le_of_ble_eq_true rfl) pg_Gr_rightFits rfl rfl ?_
        refine sp_rightFits_8 hG hW (by omega) (fun hr => ?_) (fun hr => ?_)
        · show mm_Rn _ _ _ _ _ _ 24 [(0, _), (1, _), (2, _), (3, _)] [_] _
          refine mg_if_ne 27 29 rfl rfl (by decide) (fun c_24 => ?_) (fun c_24 => absurd c_24 (by decide))
          obtain ⟨jb, hjb, ey⟩ : st_in n q := hr rfl
          subst ey
          have ljb := (hW.2.1 jb hjb).2.2.1
          have hlev : st_lev lv 8 p (nI jb) = max (0) (lv jb) + 1 := by
            unfold st_lev st_l
            rw [nI_clamp (by omega : jb < 2 ^ 31)]
            rfl
          refine mg_aload_n 30 rfl rfl rfl ?_
          refine mg_iload_n 31 rfl rfl rfl ?_
          refine mg_iload_n 32 rfl rfl rfl ?_
          refine mg_iload_n 33 rfl rfl rfl ?_
          refine mg_callV3 36 rfl (Nat.le_of_ble_eq_true rfl) pg_Gr_levelAbove rfl rfl ?_
          refine sp_levelAbove_8 hG hW hjb rfl (by omega) ?_
          show mm_Rn _ _ _ _ _ _ 36 [(0, _), (1, _), (2, _), (3, _)] [_] _
          refine mg_istore (L2 := [(0, _), (1, _), (2, _), (3, _), (4, _)]) 38 rfl (by decide) rfl rfl ?_
          refine mg_iload 40 rfl rfl rfl ?_
          refine mg_bipush (v := 6) 42 rfl (by decide) rfl ?_
          refine mg_ic_le 45 47 rfl rfl (by decide) (fun c_42 => ?_) (fun c_42 => ?_)
          · have hle := (st_le 6 6 rfl (by omega) (by omega)).mp c_42
            refine mg_aload_n 48 rfl rfl rfl ?_
            refine mg_getI (v := nI n) 51 rfl rfl (Or.inl rfl) hsz rfl ?_
            refine mg_bipush (v := 60) 53 rfl (by decide) rfl ?_
            refine mg_ic_lt 56 59 rfl rfl (by decide) (fun c_53 => ?_) (fun c_53 => ?_)
            · have hn60 : n < 60 := (st_lt 60 60 rfl (by omega) (by omega)).mp c_53
              refine mg_aload_n 60 rfl rfl rfl ?_
              refine mg_getR 63 rfl rfl rfl rfl ?_
              refine mg_aload_n 64 rfl rfl rfl ?_
              refine mg_getI (v := nI n) 67 rfl rfl (Or.inl rfl) hsz rfl ?_
              refine mg_iload_n 68 rfl rfl rfl ?_
              refine mg_iast (j := n) 69 rfl rfl (vp_in_nI (by omega : n < 60) (by omega)) (nI_clamp (by omega)) rfl ?_
              refine mg_aload_n 70 rfl rfl rfl ?_
              refine mg_getR 73 rfl rfl rfl rfl ?_
              refine mg_aload_n 74 rfl rfl rfl ?_
              refine mg_getI (v := nI n) 77 rfl rfl (Or.inl rfl) hsz rfl ?_
              refine mg_iload_n 78 rfl rfl rfl ?_
              refine mg_iast (j := n) 79 rfl rfl (vp_in_nI (by omega : n < 60) (by omega)) (nI_clamp (by omega)) rfl ?_
              refine mg_aload_n 80 rfl rfl rfl ?_
              refine mg_getR 83 rfl rfl rfl rfl ?_
              refine mg_aload_n 84 rfl rfl rfl ?_
              refine mg_getI (v := nI n) 87 rfl rfl (Or.inl rfl) hsz rfl ?_
              refine mg_iload_n 88 rfl rfl rfl ?_
              refine mg_iast (j := n) 89 rfl rfl (vp_in_nI (by omega : n < 60) (by omega)) (nI_clamp (by omega)) rfl ?_
              refine mg_aload_n 90 rfl rfl rfl ?_
              refine mg_getR 93 rfl rfl rfl rfl ?_
              refine mg_aload_n 94 rfl rfl rfl ?_
              refine mg_getI (v := nI n) 97 rfl rfl (Or.inl rfl) hsz rfl ?_
              refine mg_iload 99 rfl rfl rfl ?_
              refine mg_iast (j := n) 100 rfl rfl (vp_in_nI (by omega : n < 60) (by omega)) (nI_clamp (by omega)) rfl ?_
              refine mg_aload_n 101 rfl rfl rfl ?_
              refine mg_dup 102 rfl rfl ?_
              refine mg_getI (v := nI n) 105 rfl rfl (Or.inl rfl) hsz rfl ?_
              refine mg_iconst (v := 1) 106 rfl (by decide) rfl ?_
              refine mg_iadd (v := nI (n + 1)) 107 rfl (nI_1 n) rfl ?_
              refine mg_putI 110 rfl rfl rfl rfl ?_
              refine mg_aload_n 111 rfl rfl rfl ?_
              refine mg_getI (v := nI (n + 1)) 114 rfl rfl (Or.inl rfl) rfl rfl ?_
              refine mg_iconst (v := 1) 115 rfl (by decide) rfl ?_
              refine mg_isub (v := nI n) 116 rfl (nI_pred n) rfl ?_
              refine mg_iret rfl rfl ?_
              have := kN 8 _ (by omega) rfl hl (fun _ => ⟨jb, hjb, rfl⟩) hlev.symm (by omega) hn60
              exact this
            · refine mg_bipush (v := (-2)) 58 rfl (by decide) rfl ?_
              refine mg_iret rfl rfl ?_
              exact kF ⟨8, by omega, rfl, hl, (fun _ => ⟨jb, hjb, rfl⟩), by omega⟩ (by have := st_nlt 60 c_53 rfl (by omega) (by omega); omega)
          · refine mg_iconst (v := (-1)) 46 rfl (by decide) rfl ?_
            refine mg_iret rfl rfl ?_
            refine kR (fun h => c_42 ?_)
            have h6 := (st_ok_k (by omega) h).2.2
            rw [hlev] at h6
            exact (st_le 6 6 rfl (by omega) (by omega)).mpr h6
        · show mm_Rn _ _ _ _ _ _ 24 [(0, _), (1, _), (2, _), (3, _)] [_] _
          refine mg_if_ne 27 29 rfl rfl (by decide) (fun c_24 => absurd c_24 (by decide)) (fun c_24 => ?_)
          refine mg_iconst (v := (-1)) 28 rfl (by decide) rfl ?_
          refine mg_iret rfl rfl ?_
          first | exact kR (fun h => hl (st_ok_k (by omega) h).1) | exact kR (fun h => hr (st_ok_k (by omega) h).2.1)
      · show mm_Rn _ _ _ _ _ _ 15 [(0, _), (1, _), (2, _), (3, _)] [_] _
        refine mg_if_eq 18 27 rfl rfl (by decide) (fun c_15 => ?_) (fun c_15 => absurd c_15 (by decide))
        refine mg_iconst (v := (-1)) 28 rfl (by decide) rfl ?_
        refine mg_iret rfl rfl ?_
        first | exact kR (fun h => hl (st_ok_k (by omega) h).1) | exact kR (fun h => hr (st_ok_k (by omega) h).2.1)
  · show mm_Rn _ _ _ _ _ _ 6 [(0, _), (1, _), (2, _), (3, _)] [_] _
    refine mg_if_eq 9 27 rfl rfl (by decide) (fun c_6 => ?_) (fun c_6 => absurd c_6 (by decide))
    refine mg_iconst (v := (-1)) 28 rfl (by decide) rfl ?_
    refine mg_iret rfl rfl ?_
    exact kR (fun h => hno (by obtain ⟨k, hk, e, _⟩ := h; exact ⟨k, hk, e⟩))
set_option maxHeartbeats 2000000 in
set_option maxRecDepth 20000 in
theorem sp_PG_node {d : Nat} {M : mm_M} {Q : mm_Qt} {x p q : Int32} {n : Nat} {kd lv : Nat → Nat} {a b ru : Nat → Int32} (hG : st_gX M n kd lv a b ru) (hW : st_wf n kd lv a b ru) (hd : 5 ≤ d) (kR : ¬ st_ok n lv x p q → Q (some (.inl (-1))) M) (kF : st_ok n lv x p q → n = 60 → Q (some (.inl (-2))) M) (kN : ∀ k l, k < 9 → x = nI k → st_lf n k p → st_rf n k q → l = st_lev lv k p q → l ≤ 6 → n < 60 → Q (some (.inl (nI n))) (st_mkX M n x p q l)) : mm_Ev pg ly d 0 [.inr 0, .inl x, .inl p, .inl q] M Q := by
  obtain ⟨d, rfl⟩ : ∃ e, d = e + 1 := ⟨d - 1, by omega⟩
  refine mg_body yy_PG_node pg_PG_node (Nat.le_of_ble_eq_true rfl) ?_
  show mm_Rn _ _ _ _ _ _ 0 [(0, _), (1, _), (2, _), (3, _)] [] _
  refine mg_aload_n 1 rfl rfl rfl ?_
  refine mg_getR 4 rfl rfl rfl rfl ?_
  refine mg_iload_n 5 rfl rfl rfl ?_
  refine mg_iload_n 6 rfl rfl rfl ?_
  refine mg_iload_n 7 rfl rfl rfl ?_
  refine mg_callV3 10 rfl (Nat.le_of_ble_eq_true rfl) pg_Gr_make rfl rfl ?_
  refine sp_make hG hW (by omega) (fun h => ?_) (fun h1 h2 => ?_) (fun k l h1 h2 h3 h4 h5 h6 h7 => ?_)
  · show mm_Rn _ _ _ _ _ _ 10 [(0, _), (1, _), (2, _), (3, _)] [_] _
    refine mg_iret rfl rfl ?_
    first | exact kR h | exact kF h1 h2 | exact kN k l h1 h2 h3 h4 h5 h6 h7
  · show mm_Rn _ _ _ _ _ _ 10 [(0, _), (1, _), (2, _), (3, _)] [_] _
    refine mg_iret rfl rfl ?_
    first | exact kR h | exact kF h1 h2 | exact kN k l h1 h2 h3 h4 h5 h6 h7
  · show mm_Rn _ _ _ _ _ _ 10 [(0, _), (1, _), (2, _), (3, _)] [_] _
    refine mg_iret rfl rfl ?_
    first | exact kR h | exact kF h1 h2 | exact kN k l h1 h2 h3 h4 h5 h6 h7
set_option maxHeartbeats 2000000 in
set_option maxRecDepth 20000 in
theorem sp_define {d : Nat} {M : mm_M} {Q : mm_Qt} {x p : Int32} {n : Nat} {kd lv : Nat → Nat} {a b ru : Nat → Int32} (hG : st_gX M n kd lv a b ru) (hW : st_wf n kd lv a b ru) (hd : 2 ≤ d) (kR : ¬ (st_in 8 x ∧ st_in n p) → Q (some (.inl (-1))) M) (kN : ∀ r j, r < 8 → j < n → x = nI r → p = nI j → Q (some (.inl 0)) (mm_up M 5 r (nI j))) : mm_Ev pg ly d 16 [.inr 1, .inl x, .inl p] M Q := by
  have hn : n ≤ 60 := hW.1
  have hsz : M 1 5 = nI n := hG.1
  obtain ⟨d, rfl⟩ : ∃ e, d = e + 1 := ⟨d - 1, by omega⟩
  refine mg_body yy_Gr_define pg_Gr_define (Nat.le_of_ble_eq_true rfl) ?_
  show mm_Rn _ _ _ _ _ _ 0 [(0, _), (1, _), (2, _)] [] _
  refine mg_iload_n 1 rfl rfl rfl ?_
  refine mg_bipush (v := 8) 3 rfl (by decide) rfl ?_
  refine mg_callS2 6 rfl (by decide) (Nat.le_of_ble_eq_true rfl) pg_PG_within rfl ?_
  refine sp_within 8 (by omega) rfl (by omega) (fun r hr hx => ?_) (fun hno => ?_)
  · show mm_Rn _ _ _ _ _ _ 6 [(0, _), (1, _), (2, _)] [_] _
    refine mg_if_eq 9 20 rfl rfl (by decide) (fun c_6 => absurd c_6 (by decide)) (fun c_6 => ?_)
    refine mg_iload_n 10 rfl rfl rfl ?_
    refine mg_aload_n 11 rfl rfl rfl ?_
    refine mg_getI 14 rfl rfl (Or.inl rfl) rfl rfl ?_
    refine mg_callS2 17 rfl (by decide) (Nat.le_of_ble_eq_true rfl) pg_PG_within rfl ?_
    refine sp_within n (by omega) hsz (by omega) (fun j hj hy => ?_) (fun hno => ?_)
    · show mm_Rn _ _ _ _ _ _ 17 [(0, _), (1, _), (2, _)] [_] _
      refine mg_if_ne 20 22 rfl rfl (by decide) (fun c_17 => ?_) (fun c_17 => absurd c_17 (by decide))
      subst hx
      subst hy
      refine mg_aload_n 23 rfl rfl rfl ?_
      refine mg_getR 26 rfl rfl rfl rfl ?_
      refine mg_iload_n 27 rfl rfl rfl ?_
      refine mg_iload_n 28 rfl rfl rfl ?_
      refine mg_iast (j := r) 29 rfl rfl (vp_in_nI hr (by omega)) (nI_clamp (by omega)) rfl ?_
      refine mg_iconst (v := 0) 30 rfl (by decide) rfl ?_
      refine mg_iret rfl rfl ?_
      exact kN r j hr hj rfl rfl
    · show mm_Rn _ _ _ _ _ _ 17 [(0, _), (1, _), (2, _)] [_] _
      refine mg_if_ne 20 22 rfl rfl (by decide) (fun c_17 => absurd c_17 (by decide)) (fun c_17 => ?_)
      refine mg_iconst (v := (-1)) 21 rfl (by decide) rfl ?_
      refine mg_iret rfl rfl ?_
      first | exact kR (fun h => hno h.2) | exact kR (fun h => hno h.1)
  · show mm_Rn _ _ _ _ _ _ 6 [(0, _), (1, _), (2, _)] [_] _
    refine mg_if_eq 9 20 rfl rfl (by decide) (fun c_6 => ?_) (fun c_6 => absurd c_6 (by decide))
    refine mg_iconst (v := (-1)) 21 rfl (by decide) rfl ?_
    refine mg_iret rfl rfl ?_
    first | exact kR (fun h => hno h.2) | exact kR (fun h => hno h.1)
set_option maxHeartbeats 2000000 in
set_option maxRecDepth 20000 in
theorem sp_PG_rule {d : Nat} {M : mm_M} {Q : mm_Qt} {x p : Int32} {n : Nat} {kd lv : Nat → Nat} {a b ru : Nat → Int32} (hG : st_gX M n kd lv a b ru) (hW : st_wf n kd lv a b ru) (hd : 3 ≤ d) (kR : ¬ (st_in 8 x ∧ st_in n p) → Q (some (.inl (-1))) M) (kN : ∀ r j, r < 8 → j < n → x = nI r → p = nI j → Q (some (.inl 0)) (mm_up M 5 r (nI j))) : mm_Ev pg ly d 1 [.inr 0, .inl x, .inl p] M Q := by
  obtain ⟨d, rfl⟩ : ∃ e, d = e + 1 := ⟨d - 1, by omega⟩
  refine mg_body yy_PG_rule pg_PG_rule (Nat.le_of_ble_eq_true rfl) ?_
  show mm_Rn _ _ _ _ _ _ 0 [(0, _), (1, _), (2, _)] [] _
  refine mg_aload_n 1 rfl rfl rfl ?_
  refine mg_getR 4 rfl rfl rfl rfl ?_
  refine mg_iload_n 5 rfl rfl rfl ?_
  refine mg_iload_n 6 rfl rfl rfl ?_
  refine mg_callV2 9 rfl (Nat.le_of_ble_eq_true rfl) pg_Gr_define rfl rfl ?_
  refine sp_define hG hW (by omega) (fun h => ?_) (fun r j h1 h2 h3 h4 => ?_)
  · show mm_Rn _ _ _ _ _ _ 9 [(0, _), (1, _), (2, _)] [_] _
    refine mg_iret rfl rfl ?_
    first | exact kR h | exact kN r j h1 h2 h3 h4
  · show mm_Rn _ _ _ _ _ _ 9 [(0, _), (1, _), (2, _)] [_] _
    refine mg_iret rfl rfl ?_
    first | exact kR h | exact kN r j h1 h2 h3 h4
set_option maxHeartbeats 2000000 in
set_option maxRecDepth 20000 in
theorem sp_append {d : Nat} {M : mm_M} {Q : mm_Qt} {x : Int32} {z : Nat} (hz : M 14 1 = nI z) (hz40 : z ≤ 40) (hd : 2 ≤ d) (kR : ¬ st_in 10 x → Q (some (.inl (-1))) M) (kF : st_in 10 x → z = 40 → Q (some (.inl (-2))) M) (kN : ∀ j, j < 10 → x = nI j → z < 40 → Q (some (.inl (nI (z + 1)))) (mm_up (mm_up M 15 z (nI j)) 14 1 (nI (z + 1)))) : mm_Ev pg ly d 44 [.inr 14, .inl x] M Q := by
  obtain ⟨d, rfl⟩ : ∃ e, d = e + 1 := ⟨d - 1, by omega⟩
  refine mg_body yy_In_append pg_In_append (Nat.le_of_ble_eq_true rfl) ?_
  show mm_Rn _ _ _ _ _ _ 0 [(0, _), (1, _)] [] _
  refine mg_iload_n 1 rfl rfl rfl ?_
  refine mg_bipush (v := 10) 3 rfl (by decide) rfl ?_
  refine mg_callS2 6 rfl (by decide) (Nat.le_of_ble_eq_true rfl) pg_PG_within rfl ?_
  refine sp_within 10 (by omega) rfl (by omega) (fun j hj hx => ?_) (fun hno => ?_)
  · show mm_Rn _ _ _ _ _ _ 6 [(0, _), (1, _)] [_] _
    refine mg_if_ne 9 11 rfl rfl (by decide) (fun c_6 => ?_) (fun c_6 => absurd c_6 (by decide))
    subst hx
    refine mg_aload_n 12 rfl rfl rfl ?_
    refine mg_getI (v := nI z) 15 rfl rfl (Or.inl rfl) hz rfl ?_
    refine mg_bipush (v := 40) 17 rfl (by decide) rfl ?_
    refine mg_ic_lt 20 23 rfl rfl (by decide) (fun c_17 => ?_) (fun c_17 => ?_)
    · have hl : z < 40 := (st_lt 40 40 rfl (by omega) (by omega)).mp c_17
      refine mg_aload_n 24 rfl rfl rfl ?_
      refine mg_getR 27 rfl rfl rfl rfl ?_
      refine mg_aload_n 28 rfl rfl rfl ?_
      refine mg_getI (v := nI z) 31 rfl rfl (Or.inl rfl) hz rfl ?_
      refine mg_iload_n 32 rfl rfl rfl ?_
      refine mg_iast (j := z) 33 rfl rfl (vp_in_nI hl (by omega)) (nI_clamp (by omega)) rfl ?_
      refine mg_aload_n 34 rfl rfl rfl ?_
      refine mg_dup 35 rfl rfl ?_
      refine mg_getI (v := nI z) 38 rfl rfl (Or.inl rfl) hz rfl ?_
      refine mg_iconst (v := 1) 39 rfl (by decide) rfl ?_
      refine mg_iadd (v := nI (z + 1)) 40 rfl (nI_1 z) rfl ?_
      refine mg_putI 43 rfl rfl rfl rfl ?_
      refine mg_aload_n 44 rfl rfl rfl ?_
      refine mg_getI (v := nI (z + 1)) 47 rfl rfl (Or.inl rfl) rfl rfl ?_
      refine mg_iret rfl rfl ?_
      exact kN j hj rfl hl
    · refine mg_bipush (v := (-2)) 22 rfl (by decide) rfl ?_
      refine mg_iret rfl rfl ?_
      exact kF ⟨j, hj, rfl⟩ (by have := st_nlt 40 c_17 rfl (by omega) (by omega); omega)
  · show mm_Rn _ _ _ _ _ _ 6 [(0, _), (1, _)] [_] _
    refine mg_if_ne 9 11 rfl rfl (by decide) (fun c_6 => absurd c_6 (by decide)) (fun c_6 => ?_)
    refine mg_iconst (v := (-1)) 10 rfl (by decide) rfl ?_
    refine mg_iret rfl rfl ?_
    exact kR hno
set_option maxHeartbeats 2000000 in
set_option maxRecDepth 20000 in
theorem sp_PG_feed {d : Nat} {M : mm_M} {Q : mm_Qt} {x : Int32} {z : Nat} (hz : M 14 1 = nI z) (hz40 : z ≤ 40) (hd : 3 ≤ d) (kR : ¬ st_in 10 x → Q (some (.inl (-1))) M) (kF : st_in 10 x → z = 40 → Q (some (.inl (-2))) M) (kN : ∀ j, j < 10 → x = nI j → z < 40 → Q (some (.inl (nI (z + 1)))) (mm_up (mm_up M 15 z (nI j)) 14 1 (nI (z + 1)))) : mm_Ev pg ly d 7 [.inr 0, .inl x] M Q := by
  obtain ⟨d, rfl⟩ : ∃ e, d = e + 1 := ⟨d - 1, by omega⟩
  refine mg_body yy_PG_feed pg_PG_feed (Nat.le_of_ble_eq_true rfl) ?_
  show mm_Rn _ _ _ _ _ _ 0 [(0, _), (1, _)] [] _
  refine mg_aload_n 1 rfl rfl rfl ?_
  refine mg_getR 4 rfl rfl rfl rfl ?_
  refine mg_iload_n 5 rfl rfl rfl ?_
  refine mg_callV1 8 rfl (Nat.le_of_ble_eq_true rfl) pg_In_append rfl rfl ?_
  refine sp_append hz hz40 (by omega) (fun h => ?_) (fun h1 h2 => ?_) (fun j h1 h2 h3 => ?_)
  · show mm_Rn _ _ _ _ _ _ 8 [(0, _), (1, _)] [_] _
    refine mg_iret rfl rfl ?_
    first | exact kR h | exact kF h1 h2 | exact kN j h1 h2 h3
  · show mm_Rn _ _ _ _ _ _ 8 [(0, _), (1, _)] [_] _
    refine mg_iret rfl rfl ?_
    first | exact kR h | exact kF h1 h2 | exact kN j h1 h2 h3
  · show mm_Rn _ _ _ _ _ _ 8 [(0, _), (1, _)] [_] _
    refine mg_iret rfl rfl ?_
    first | exact kR h | exact kF h1 h2 | exact kN j h1 h2 h3
set_option maxHeartbeats 2000000 in
set_option maxRecDepth 20000 in
theorem sp_PG_wipe {d : Nat} {M : mm_M} {Q : mm_Qt} (hd : 1 ≤ d) (k : Q (some (.inl (M 14 1))) (mm_up M 14 1 0)) : mm_Ev pg ly d 8 [.inr 0] M Q := by
  obtain ⟨d, rfl⟩ : ∃ e, d = e + 1 := ⟨d - 1, by omega⟩
  refine mg_body yy_PG_wipe pg_PG_wipe (Nat.le_of_ble_eq_true rfl) ?_
  show mm_Rn _ _ _ _ _ _ 0 [(0, _)] [] _
  refine mg_aload_n 1 rfl rfl rfl ?_
  refine mg_getR 4 rfl rfl rfl rfl ?_
  refine mg_getI 7 rfl rfl (Or.inl rfl) rfl rfl ?_
  refine mg_istore_n (L2 := [(0, _), (1, _)]) 8 rfl (by decide) rfl rfl ?_
  refine mg_aload_n 9 rfl rfl rfl ?_
  refine mg_getR 12 rfl rfl rfl rfl ?_
  refine mg_iconst (v := 0) 13 rfl (by decide) rfl ?_
  refine mg_putI 16 rfl rfl rfl rfl ?_
  refine mg_iload_n 17 rfl rfl rfl ?_
  refine mg_iret rfl rfl ?_
  exact k
set_option maxHeartbeats 2000000 in
set_option maxRecDepth 20000 in
theorem sp_PG_place {d : Nat} {M : mm_M} {Q : mm_Qt} (hd : 1 ≤ d) (k : Q (some (.inl (M 20 4))) M) : mm_Ev pg ly d 10 [.inr 0] M Q := by
  obtain ⟨d, rfl⟩ : ∃ e, d = e + 1 := ⟨d - 1, by omega⟩
  refine mg_body yy_PG_place pg_PG_place (Nat.le_of_ble_eq_true rfl) ?_
  show mm_Rn _ _ _ _ _ _ 0 [(0, _)] [] _
  refine mg_aload_n 1 rfl rfl rfl ?_
  refine mg_getR 4 rfl rfl rfl rfl ?_
  refine mg_getI 7 rfl rfl (Or.inl rfl) rfl rfl ?_
  refine mg_iret rfl rfl ?_
  exact k
set_option maxHeartbeats 2000000 in
set_option maxRecDepth 20000 in
theorem sp_PG_due {d : Nat} {M : mm_M} {Q : mm_Qt} (hd : 1 ≤ d) (k : Q (some (.inl (M 20 5))) M) : mm_Ev pg ly d 11 [.inr 0] M Q := by
  obtain ⟨d, rfl⟩ : ∃ e, d = e + 1 := ⟨d - 1, by omega⟩
  refine mg_body yy_PG_due pg_PG_due (Nat.le_of_ble_eq_true rfl) ?_
  show mm_Rn _ _ _ _ _ _ 0 [(0, _)] [] _
  refine mg_aload_n 1 rfl rfl rfl ?_
  refine mg_getR 4 rfl rfl rfl rfl ?_
  refine mg_getI 7 rfl rfl (Or.inl rfl) rfl rfl ?_
  refine mg_iret rfl rfl ?_
  exact k
set_option maxHeartbeats 2000000 in
set_option maxRecDepth 20000 in
theorem sp_tell {d : Nat} {M : mm_M} {Q : mm_Qt} {x p : Int32} {t : Nat} (ht : M 16 4 = nI t) (ht90 : t ≤ 90) (hd : 2 ≤ d) (kR : ¬ st_in 3 p → Q (some (.inl (-1))) M) (kN : st_in 3 p → ¬ st_in t x → Q (some (.inl (-10))) M) (k0 : ∀ j, j < t → x = nI j → p = nI 0 → Q (some (.inl (M 17 j))) M) (k1 : ∀ j, j < t → x = nI j → p = nI 1 → Q (some (.inl (M 18 j))) M) (k2 : ∀ j, j < t → x = nI j → p = nI 2 → Q (some (.inl (M 19 j))) M) : mm_Ev pg ly d 51 [.inr 16, .inl x, .inl p] M Q := by
  obtain ⟨d, rfl⟩ : ∃ e, d = e + 1 := ⟨d - 1, by omega⟩
  refine mg_body yy_Fo_tell pg_Fo_tell (Nat.le_of_ble_eq_true rfl) ?_
  show mm_Rn _ _ _ _ _ _ 0 [(0, _), (1, _), (2, _)] [] _
  refine mg_iload_n 1 rfl rfl rfl ?_
  refine mg_iconst (v := 3) 2 rfl (by decide) rfl ?_
  refine mg_callS2 5 rfl (by decide) (Nat.le_of_ble_eq_true rfl) pg_PG_within rfl ?_
  refine sp_within 3 (by omega) rfl (by omega) (fun w hw hp => ?_) (fun hno => ?_)
  · show mm_Rn _ _ _ _ _ _ 5 [(0, _), (1, _), (2, _)] [_] _
    refine mg_if_ne 8 10 rfl rfl (by decide) (fun c_5 => ?_) (fun c_5 => absurd c_5 (by decide))
    refine mg_iload_n 11 rfl rfl rfl ?_
    refine mg_aload_n 12 rfl rfl rfl ?_
    refine mg_getI 15 rfl rfl (Or.inl rfl) rfl rfl ?_
    refine mg_callS2 18 rfl (by decide) (Nat.le_of_ble_eq_true rfl) pg_PG_within rfl ?_
    refine sp_within t (by omega) ht (by omega) (fun j hj hx => ?_) (fun hno => ?_)
    · show mm_Rn _ _ _ _ _ _ 18 [(0, _), (1, _), (2, _)] [_] _
      refine mg_if_ne 21 24 rfl rfl (by decide) (fun c_18 => ?_) (fun c_18 => absurd c_18 (by decide))
      subst hx
      subst hp
      rcases (by omega : w = 0 ∨ w = 1 ∨ w = 2) with rfl | rfl | rfl
      · refine mg_iload_n 25 rfl rfl rfl ?_
        refine mg_if_ne 28 35 rfl rfl (by decide) (fun c_25 => absurd c_25 (by decide)) (fun c_25 => ?_)
        refine mg_aload_n 29 rfl rfl rfl ?_
        refine mg_getR 32 rfl rfl rfl rfl ?_
        refine mg_iload_n 33 rfl rfl rfl ?_
        refine mg_iald (v := M 17 j) 34 rfl rfl (vp_in_nI (by omega : j < 90) (by omega)) (by rw [nI_clamp (by omega)]) rfl ?_
        refine mg_iret rfl rfl ?_
        exact k0 j hj rfl rfl
      · refine mg_iload_n 25 rfl rfl rfl ?_
        refine mg_if_ne 28 35 rfl rfl (by decide) (fun c_25 => ?_) (fun c_25 => absurd c_25 (by decide))
        refine mg_iload_n 36 rfl rfl rfl ?_
        refine mg_iconst (v := 1) 37 rfl (by decide) rfl ?_
        refine mg_ic_ne 40 49 rfl rfl (by decide) (fun c_37 => absurd c_37 (by decide)) (fun c_37 => ?_)
        refine mg_aload_n 41 rfl rfl rfl ?_
        refine mg_getR 44 rfl rfl rfl rfl ?_
        refine mg_iload_n 45 rfl rfl rfl ?_
        refine mg_iald (v := M 18 j) 46 rfl rfl (vp_in_nI (by omega : j < 90) (by omega)) (by rw [nI_clamp (by omega)]) rfl ?_
        refine mg_goto 55 rfl (by decide) ?_
        refine mg_iret rfl rfl ?_
        first | exact k1 j hj rfl rfl | exact k2 j hj rfl rfl
      · refine mg_iload_n 25 rfl rfl rfl ?_
        refine mg_if_ne 28 35 rfl rfl (by decide) (fun c_25 => ?_) (fun c_25 => absurd c_25 (by decide))
        refine mg_iload_n 36 rfl rfl rfl ?_
        refine mg_iconst (v := 1) 37 rfl (by decide) rfl ?_
        refine mg_ic_ne 40 49 rfl rfl (by decide) (fun c_37 => ?_) (fun c_37 => absurd c_37 (by decide))
        refine mg_aload_n 50 rfl rfl rfl ?_
        refine mg_getR 53 rfl rfl rfl rfl ?_
        refine mg_iload_n 54 rfl rfl rfl ?_
        refine mg_iald (v := M 19 j) 55 rfl rfl (vp_in_nI (by omega : j < 90) (by omega)) (by rw [nI_clamp (by omega)]) rfl ?_
        refine mg_iret rfl rfl ?_
        first | exact k1 j hj rfl rfl | exact k2 j hj rfl rfl
    · show mm_Rn _ _ _ _ _ _ 18 [(0, _), (1, _), (2, _)] [_] _
      refine mg_if_ne 21 24 rfl rfl (by decide) (fun c_18 => absurd c_18 (by decide)) (fun c_18 => ?_)
      refine mg_bipush (v := (-10)) 23 rfl (by decide) rfl ?_
      refine mg_iret rfl rfl ?_
      exact kN ⟨w, hw, hp⟩ hno
  · show mm_Rn _ _ _ _ _ _ 5 [(0, _), (1, _), (2, _)] [_] _
    refine mg_if_ne 8 10 rfl rfl (by decide) (fun c_5 => absurd c_5 (by decide)) (fun c_5 => ?_)
    refine mg_iconst (v := (-1)) 9 rfl (by decide) rfl ?_
    refine mg_iret rfl rfl ?_
    exact kR hno
set_option maxHeartbeats 2000000 in
set_option maxRecDepth 20000 in
theorem sp_PG_tree {d : Nat} {M : mm_M} {Q : mm_Qt} {x p : Int32} {t : Nat} (ht : M 16 4 = nI t) (ht90 : t ≤ 90) (hd : 3 ≤ d) (kR : ¬ st_in 3 p → Q (some (.inl (-1))) M) (kN : st_in 3 p → ¬ st_in t x → Q (some (.inl (-10))) M) (k0 : ∀ j, j < t → x = nI j → p = nI 0 → Q (some (.inl (M 17 j))) M) (k1 : ∀ j, j < t → x = nI j → p = nI 1 → Q (some (.inl (M 18 j))) M) (k2 : ∀ j, j < t → x = nI j → p = nI 2 → Q (some (.inl (M 19 j))) M) : mm_Ev pg ly d 12 [.inr 0, .inl x, .inl p] M Q := by
  obtain ⟨d, rfl⟩ : ∃ e, d = e + 1 := ⟨d - 1, by omega⟩
  refine mg_body yy_PG_tree pg_PG_tree (Nat.le_of_ble_eq_true rfl) ?_
  show mm_Rn _ _ _ _ _ _ 0 [(0, _), (1, _), (2, _)] [] _
  refine mg_aload_n 1 rfl rfl rfl ?_
  refine mg_getR 4 rfl rfl rfl rfl ?_
  refine mg_iload_n 5 rfl rfl rfl ?_
  refine mg_iload_n 6 rfl rfl rfl ?_
  refine mg_callV2 9 rfl (Nat.le_of_ble_eq_true rfl) pg_Fo_tell rfl rfl ?_
  refine sp_tell ht ht90 (by omega) (fun h => ?_) (fun h1 h2 => ?_) (fun j h1 h2 h3 => ?_) (fun j h1 h2 h3 => ?_) (fun j h1 h2 h3 => ?_)
  · show mm_Rn _ _ _ _ _ _ 9 [(0, _), (1, _), (2, _)] [_] _
    refine mg_iret rfl rfl ?_
    first | exact kR h | exact kN h1 h2 | exact k0 j h1 h2 h3 | exact k1 j h1 h2 h3 | exact k2 j h1 h2 h3
  · show mm_Rn _ _ _ _ _ _ 9 [(0, _), (1, _), (2, _)] [_] _
    refine mg_iret rfl rfl ?_
    first | exact kR h | exact kN h1 h2 | exact k0 j h1 h2 h3 | exact k1 j h1 h2 h3 | exact k2 j h1 h2 h3
  · show mm_Rn _ _ _ _ _ _ 9 [(0, _), (1, _), (2, _)] [_] _
    refine mg_iret rfl rfl ?_
    first | exact kR h | exact kN h1 h2 | exact k0 j h1 h2 h3 | exact k1 j h1 h2 h3 | exact k2 j h1 h2 h3
  · show mm_Rn _ _ _ _ _ _ 9 [(0, _), (1, _), (2, _)] [_] _
    refine mg_iret rfl rfl ?_
    first | exact kR h | exact kN h1 h2 | exact k0 j h1 h2 h3 | exact k1 j h1 h2 h3 | exact k2 j h1 h2 h3
  · show mm_Rn _ _ _ _ _ _ 9 [(0, _), (1, _), (2, _)] [_] _
    refine mg_iret rfl rfl ?_
    first | exact kR h | exact kN h1 h2 | exact k0 j h1 h2 h3 | exact k1 j h1 h2 h3 | exact k2 j h1 h2 h3
set_option maxHeartbeats 2000000 in
set_option maxRecDepth 20000 in
theorem sm_out0 {d : Nat} {M : mm_M} {Q : mm_Qt} {v lo hi : Int32} (hd : 1 ≤ d) (k1 : v < lo ∨ ¬ v ≤ hi → Q (some (.inl 1)) M) (k0 : ¬ v < lo → v ≤ hi → Q (some (.inl 0)) M) : mm_Ev pg ly d 65 [.inr 21, .inl v, .inl lo, .inl hi] M Q := by
  obtain ⟨d, rfl⟩ : ∃ e, d = e + 1 := ⟨d - 1, by omega⟩
  refine mg_body yy_Mo_out pg_Mo_out (Nat.le_of_ble_eq_true rfl) ?_
  show mm_Rn _ _ _ _ _ _ 0 [(0, _), (1, _), (2, _), (3, _)] [] _
  refine mg_iload_n 1 rfl rfl rfl ?_
  refine mg_iload_n 2 rfl rfl rfl ?_
  refine mg_ic_lt 5 10 rfl rfl (by decide) (fun c_2 => ?_) (fun c_2 => ?_)
  · refine mg_iconst (v := 1) 11 rfl (by decide) rfl ?_
    refine mg_goto 15 rfl (by decide) ?_
    refine mg_zret rfl rfl (by first | exact Or.inl rfl | exact Or.inr rfl) ?_
    first | exact k0 c_2 c_7 | exact k1 (Or.inl c_2) | exact k1 (Or.inr c_7)
  · refine mg_iload_n 6 rfl rfl rfl ?_
    refine mg_iload_n 7 rfl rfl rfl ?_
    refine mg_ic_le 10 14 rfl rfl (by decide) (fun c_7 => ?_) (fun c_7 => ?_)
    · refine mg_iconst (v := 0) 15 rfl (by decide) rfl ?_
      refine mg_zret rfl rfl (by first | exact Or.inl rfl | exact Or.inr rfl) ?_
      first | exact k0 c_2 c_7 | exact k1 (Or.inl c_2) | exact k1 (Or.inr c_7)
    · refine mg_iconst (v := 1) 11 rfl (by decide) rfl ?_
      refine mg_goto 15 rfl (by decide) ?_
      refine mg_zret rfl rfl (by first | exact Or.inl rfl | exact Or.inr rfl) ?_
      first | exact k0 c_2 c_7 | exact k1 (Or.inl c_2) | exact k1 (Or.inr c_7)
theorem sm_out {d : Nat} {M : mm_M} {Q : mm_Qt} {v : Int32} (m : Nat) {hi : Int32} (hm : m < 1000) (hh : hi = nI m) (hd : 1 ≤ d) (k1 : ¬ st_in (m + 1) v → Q (some (.inl 1)) M) (k0 : ∀ j, j < m + 1 → v = nI j → Q (some (.inl 0)) M) : mm_Ev pg ly d 65 [.inr 21, .inl v, .inl 0, .inl hi] M Q := by
  subst hh
  refine sm_out0 hd (fun h => k1 ?_) (fun h1 h2 => ?_)
  · rintro ⟨j, hj, rfl⟩
    rcases h with h | h
    · exact nI_pos (by omega) h
    · exact h (nI_le (by omega) (by omega))
  · obtain ⟨j, hj, hx⟩ := nI_of h1
    subst hx
    have := (nI_leI hj (by omega : m < 2 ^ 31)).mp h2
    exact k0 j (by omega) rfl
set_option maxHeartbeats 2000000 in
set_option maxRecDepth 20000 in
theorem sm_no {d : Nat} {M : mm_M} {Q : mm_Qt} {x : Int32} {n : Nat} (hsz : M 21 0 = nI n) (hn : n ≤ 60) (hd : 1 ≤ d) (k1 : ¬ st_in n x → Q (some (.inl 1)) M) (k0 : ∀ j, j < n → x = nI j → Q (some (.inl 0)) M) : mm_Ev pg ly d 66 [.inr 21, .inl x] M Q := by
  obtain ⟨d, rfl⟩ : ∃ e, d = e + 1 := ⟨d - 1, by omega⟩
  refine mg_body yy_Mo_no pg_Mo_no (Nat.le_of_ble_eq_true rfl) ?_
  show mm_Rn _ _ _ _ _ _ 0 [(0, _), (1, _)] [] _
  refine mg_iload_n 1 rfl rfl rfl ?_
  refine mg_if_lt 4 12 rfl rfl (by decide) (fun c_1 => ?_) (fun c_1 => ?_)
  · refine mg_iconst (v := 1) 13 rfl (by decide) rfl ?_
    refine mg_goto 17 rfl (by decide) ?_
    refine mg_zret rfl rfl (by first | exact Or.inl rfl | exact Or.inr rfl) ?_
    first | exact k1 (st_in_no (by omega) (Or.inl c_1)) | exact k1 (fun h => c_9 (by obtain ⟨j, hj, e⟩ := h; rw [e]; exact nI_lt hj (by omega))) | exact (by obtain ⟨j, hj, hx⟩ := nI_of c_1; subst hx; exact k0 j ((nI_ltI hj (by omega)).mp c_9) rfl)
  · refine mg_iload_n 5 rfl rfl rfl ?_
    refine mg_aload_n 6 rfl rfl rfl ?_
    refine mg_getI (v := nI n) 9 rfl rfl (Or.inl rfl) hsz rfl ?_
    refine mg_ic_lt 12 16 rfl rfl (by decide) (fun c_9 => ?_) (fun c_9 => ?_)
    · refine mg_iconst (v := 0) 17 rfl (by decide) rfl ?_
      refine mg_zret rfl rfl (by first | exact Or.inl rfl | exact Or.inr rfl) ?_
      first | exact k1 (st_in_no (by omega) (Or.inl c_1)) | exact k1 (fun h => c_9 (by obtain ⟨j, hj, e⟩ := h; rw [e]; exact nI_lt hj (by omega))) | exact (by obtain ⟨j, hj, hx⟩ := nI_of c_1; subst hx; exact k0 j ((nI_ltI hj (by omega)).mp c_9) rfl)
    · refine mg_iconst (v := 1) 13 rfl (by decide) rfl ?_
      refine mg_goto 17 rfl (by decide) ?_
      refine mg_zret rfl rfl (by first | exact Or.inl rfl | exact Or.inr rfl) ?_
      first | exact k1 (st_in_no (by omega) (Or.inl c_1)) | exact k1 (fun h => c_9 (by obtain ⟨j, hj, e⟩ := h; rw [e]; exact nI_lt hj (by omega))) | exact (by obtain ⟨j, hj, hx⟩ := nI_of c_1; subst hx; exact k0 j ((nI_ltI hj (by omega)).mp c_9) rfl)
set_option maxHeartbeats 2000000 in
set_option maxRecDepth 20000 in
theorem sm_namesA_0 {d : Nat} {M : mm_M} {Q : mm_Qt} (hd : 1 ≤ d) (k : Q (some (.inl 0)) M) : mm_Ev pg ly d 67 [.inr 21, .inl (nI 0)] M Q := by
  obtain ⟨d, rfl⟩ : ∃ e, d = e + 1 := ⟨d - 1, by omega⟩
  refine mg_body yy_Mo_namesA pg_Mo_namesA (Nat.le_of_ble_eq_true rfl) ?_
  show mm_Rn _ _ _ _ _ _ 0 [(0, _), (1, _)] [] _
  refine mg_iload_n 1 rfl rfl rfl ?_
  refine mg_iconst (v := 1) 2 rfl (by decide) rfl ?_
  refine mg_ic_le 5 11 rfl rfl (by decide) (fun c_2 => ?_) (fun c_2 => absurd c_2 (by decide))
  refine mg_iload_n 12 rfl rfl rfl ?_
  refine mg_bipush (v := 7) 14 rfl (by decide) rfl ?_
  refine mg_ic_ne 17 21 rfl rfl (by decide) (fun c_14 => ?_) (fun c_14 => absurd c_14 (by decide))
  refine mg_iconst (v := 0) 22 rfl (by decide) rfl ?_
  refine mg_zret rfl rfl (by first | exact Or.inl rfl | exact Or.inr rfl) ?_
  exact k
set_option maxHeartbeats 2000000 in
set_option maxRecDepth 20000 in
theorem sm_namesA_1 {d : Nat} {M : mm_M} {Q : mm_Qt} (hd : 1 ≤ d) (k : Q (some (.inl 0)) M) : mm_Ev pg ly d 67 [.inr 21, .inl (nI 1)] M Q := by
  obtain ⟨d, rfl⟩ : ∃ e, d = e + 1 := ⟨d - 1, by omega⟩
  refine mg_body yy_Mo_namesA pg_Mo_namesA (Nat.le_of_ble_eq_true rfl) ?_
  show mm_Rn _ _ _ _ _ _ 0 [(0, _), (1, _)] [] _
  refine mg_iload_n 1 rfl rfl rfl ?_
  refine mg_iconst (v := 1) 2 rfl (by decide) rfl ?_
  refine mg_ic_le 5 11 rfl rfl (by decide) (fun c_2 => ?_) (fun c_2 => absurd c_2 (by decide))
  refine mg_iload_n 12 rfl rfl rfl ?_
  refine mg_bipush (v := 7) 14 rfl (by decide) rfl ?_
  refine mg_ic_ne 17 21 rfl rfl (by decide) (fun c_14 => ?_) (fun c_14 => absurd c_14 (by decide))
  refine mg_iconst (v := 0) 22 rfl (by decide) rfl ?_
  refine mg_zret rfl rfl (by first | exact Or.inl rfl | exact Or.inr rfl) ?_
  exact k
set_option maxHeartbeats 2000000 in
set_option maxRecDepth 20000 in
theorem sm_namesA_2 {d : Nat} {M : mm_M} {Q : mm_Qt} (hd : 1 ≤ d) (k : Q (some (.inl 1)) M) : mm_Ev pg ly d 67 [.inr 21, .inl (nI 2)] M Q := by
  obtain ⟨d, rfl⟩ : ∃ e, d = e + 1 := ⟨d - 1, by omega⟩
  refine mg_body yy_Mo_namesA pg_Mo_namesA (Nat.le_of_ble_eq_true rfl) ?_
  show mm_Rn _ _ _ _ _ _ 0 [(0, _), (1, _)] [] _
  refine mg_iload_n 1 rfl rfl rfl ?_
  refine mg_iconst (v := 1) 2 rfl (by decide) rfl ?_
  refine mg_ic_le 5 11 rfl rfl (by decide) (fun c_2 => absurd c_2 (by decide)) (fun c_2 => ?_)
  refine mg_iload_n 6 rfl rfl rfl ?_
  refine mg_bipush (v := 6) 8 rfl (by decide) rfl ?_
  refine mg_ic_lt 11 17 rfl rfl (by decide) (fun c_8 => ?_) (fun c_8 => absurd c_8 (by decide))
  refine mg_iconst (v := 1) 18 rfl (by decide) rfl ?_
  refine mg_goto 22 rfl (by decide) ?_
  refine mg_zret rfl rfl (by first | exact Or.inl rfl | exact Or.inr rfl) ?_
  exact k
set_option maxHeartbeats 2000000 in
set_option maxRecDepth 20000 in
theorem sm_namesA_3 {d : Nat} {M : mm_M} {Q : mm_Qt} (hd : 1 ≤ d) (k : Q (some (.inl 1)) M) : mm_Ev pg ly d 67 [.inr 21, .inl (nI 3)] M Q := by
  obtain ⟨d, rfl⟩ : ∃ e, d = e + 1 := ⟨d - 1, by omega⟩
  refine mg_body yy_Mo_namesA pg_Mo_namesA (Nat.le_of_ble_eq_true rfl) ?_
  show mm_Rn _ _ _ _ _ _ 0 [(0, _), (1, _)] [] _
  refine mg_iload_n 1 rfl rfl rfl ?_
  refine mg_iconst (v := 1) 2 rfl (by decide) rfl ?_
  refine mg_ic_le 5 11 rfl rfl (by decide) (fun c_2 => absurd c_2 (by decide)) (fun c_2 => ?_)
  refine mg_iload_n 6 rfl rfl rfl ?_
  refine mg_bipush (v := 6) 8 rfl (by decide) rfl ?_
  refine mg_ic_lt 11 17 rfl rfl (by decide) (fun c_8 => ?_) (fun c_8 => absurd c_8 (by decide))
  refine mg_iconst (v := 1) 18 rfl (by decide) rfl ?_
  refine mg_goto 22 rfl (by decide) ?_
  refine mg_zret rfl rfl (by first | exact Or.inl rfl | exact Or.inr rfl) ?_
  exact k
set_option maxHeartbeats 2000000 in
set_option maxRecDepth 20000 in
theorem sm_namesA_4 {d : Nat} {M : mm_M} {Q : mm_Qt} (hd : 1 ≤ d) (k : Q (some (.inl 1)) M) : mm_Ev pg ly d 67 [.inr 21, .inl (nI 4)] M Q := by
  obtain ⟨d, rfl⟩ : ∃ e, d = e + 1 := ⟨d - 1, by omega⟩
  refine mg_body yy_Mo_namesA pg_Mo_namesA (Nat.le_of_ble_eq_true rfl) ?_
  show mm_Rn _ _ _ _ _ _ 0 [(0, _), (1, _)] [] _
  refine mg_iload_n 1 rfl rfl rfl ?_
  refine mg_iconst (v := 1) 2 rfl (by decide) rfl ?_
  refine mg_ic_le 5 11 rfl rfl (by decide) (fun c_2 => absurd c_2 (by decide)) (fun c_2 => ?_)
  refine mg_iload_n 6 rfl rfl rfl ?_
  refine mg_bipush (v := 6) 8 rfl (by decide) rfl ?_
  refine mg_ic_lt 11 17 rfl rfl (by decide) (fun c_8 => ?_) (fun c_8 => absurd c_8 (by decide))
  refine mg_iconst (v := 1) 18 rfl (by decide) rfl ?_
  refine mg_goto 22 rfl (by decide) ?_
  refine mg_zret rfl rfl (by first | exact Or.inl rfl | exact Or.inr rfl) ?_
  exact k
set_option maxHeartbeats 2000000 in
set_option maxRecDepth 20000 in
theorem sm_namesA_5 {d : Nat} {M : mm_M} {Q : mm_Qt} (hd : 1 ≤ d) (k : Q (some (.inl 1)) M) : mm_Ev pg ly d 67 [.inr 21, .inl (nI 5)] M Q := by
  obtain ⟨d, rfl⟩ : ∃ e, d = e + 1 := ⟨d - 1, by omega⟩
  refine mg_body yy_Mo_namesA pg_Mo_namesA (Nat.le_of_ble_eq_true rfl) ?_
  show mm_Rn _ _ _ _ _ _ 0 [(0, _), (1, _)] [] _
  refine mg_iload_n 1 rfl rfl rfl ?_
  refine mg_iconst (v := 1) 2 rfl (by decide) rfl ?_
  refine mg_ic_le 5 11 rfl rfl (by decide) (fun c_2 => absurd c_2 (by decide)) (fun c_2 => ?_)
  refine mg_iload_n 6 rfl rfl rfl ?_
  refine mg_bipush (v := 6) 8 rfl (by decide) rfl ?_
  refine mg_ic_lt 11 17 rfl rfl (by decide) (fun c_8 => ?_) (fun c_8 => absurd c_8 (by decide))
  refine mg_iconst (v := 1) 18 rfl (by decide) rfl ?_
  refine mg_goto 22 rfl (by decide) ?_
  refine mg_zret rfl rfl (by first | exact Or.inl rfl | exact Or.inr rfl) ?_
  exact k
set_option maxHeartbeats 2000000 in
set_option maxRecDepth 20000 in
theorem sm_namesA_6 {d : Nat} {M : mm_M} {Q : mm_Qt} (hd : 1 ≤ d) (k : Q (some (.inl 0)) M) : mm_Ev pg ly d 67 [.inr 21, .inl (nI 6)] M Q := by
  obtain ⟨d, rfl⟩ : ∃ e, d = e + 1 := ⟨d - 1, by omega⟩
  refine mg_body yy_Mo_namesA pg_Mo_namesA (Nat.le_of_ble_eq_true rfl) ?_
  show mm_Rn _ _ _ _ _ _ 0 [(0, _), (1, _)] [] _
  refine mg_iload_n 1 rfl rfl rfl ?_
  refine mg_iconst (v := 1) 2 rfl (by decide) rfl ?_
  refine mg_ic_le 5 11 rfl rfl (by decide) (fun c_2 => absurd c_2 (by decide)) (fun c_2 => ?_)
  refine mg_iload_n 6 rfl rfl rfl ?_
  refine mg_bipush (v := 6) 8 rfl (by decide) rfl ?_
  refine mg_ic_lt 11 17 rfl rfl (by decide) (fun c_8 => absurd c_8 (by decide)) (fun c_8 => ?_)
  refine mg_iload_n 12 rfl rfl rfl ?_
  refine mg_bipush (v := 7) 14 rfl (by decide) rfl ?_
  refine mg_ic_ne 17 21 rfl rfl (by decide) (fun c_14 => ?_) (fun c_14 => absurd c_14 (by decide))
  refine mg_iconst (v := 0) 22 rfl (by decide) rfl ?_
  refine mg_zret rfl rfl (by first | exact Or.inl rfl | exact Or.inr rfl) ?_
  exact k
set_option maxHeartbeats 2000000 in
set_option maxRecDepth 20000 in
theorem sm_namesA_7 {d : Nat} {M : mm_M} {Q : mm_Qt} (hd : 1 ≤ d) (k : Q (some (.inl 1)) M) : mm_Ev pg ly d 67 [.inr 21, .inl (nI 7)] M Q := by
  obtain ⟨d, rfl⟩ : ∃ e, d = e + 1 := ⟨d - 1, by omega⟩
  refine mg_body yy_Mo_namesA pg_Mo_namesA (Nat.le_of_ble_eq_true rfl) ?_
  show mm_Rn _ _ _ _ _ _ 0 [(0, _), (1, _)] [] _
  refine mg_iload_n 1 rfl rfl rfl ?_
  refine mg_iconst (v := 1) 2 rfl (by decide) rfl ?_
  refine mg_ic_le 5 11 rfl rfl (by decide) (fun c_2 => absurd c_2 (by decide)) (fun c_2 => ?_)
  refine mg_iload_n 6 rfl rfl rfl ?_
  refine mg_bipush (v := 6) 8 rfl (by decide) rfl ?_
  refine mg_ic_lt 11 17 rfl rfl (by decide) (fun c_8 => absurd c_8 (by decide)) (fun c_8 => ?_)
  refine mg_iload_n 12 rfl rfl rfl ?_
  refine mg_bipush (v := 7) 14 rfl (by decide) rfl ?_
  refine mg_ic_ne 17 21 rfl rfl (by decide) (fun c_14 => absurd c_14 (by decide)) (fun c_14 => ?_)
  refine mg_iconst (v := 1) 18 rfl (by decide) rfl ?_
  refine mg_goto 22 rfl (by decide) ?_
  refine mg_zret rfl rfl (by first | exact Or.inl rfl | exact Or.inr rfl) ?_
  exact k
set_option maxHeartbeats 2000000 in
set_option maxRecDepth 20000 in
theorem sm_namesA_8 {d : Nat} {M : mm_M} {Q : mm_Qt} (hd : 1 ≤ d) (k : Q (some (.inl 0)) M) : mm_Ev pg ly d 67 [.inr 21, .inl (nI 8)] M Q := by
  obtain ⟨d, rfl⟩ : ∃ e, d = e + 1 := ⟨d - 1, by omega⟩
  refine mg_body yy_Mo_namesA pg_Mo_namesA (Nat.le_of_ble_eq_true rfl) ?_
  show mm_Rn _ _ _ _ _ _ 0 [(0, _), (1, _)] [] _
  refine mg_iload_n 1 rfl rfl rfl ?_
  refine mg_iconst (v := 1) 2 rfl (by decide) rfl ?_
  refine mg_ic_le 5 11 rfl rfl (by decide) (fun c_2 => absurd c_2 (by decide)) (fun c_2 => ?_)
  refine mg_iload_n 6 rfl rfl rfl ?_
  refine mg_bipush (v := 6) 8 rfl (by decide) rfl ?_
  refine mg_ic_lt 11 17 rfl rfl (by decide) (fun c_8 => absurd c_8 (by decide)) (fun c_8 => ?_)
  refine mg_iload_n 12 rfl rfl rfl ?_
  refine mg_bipush (v := 7) 14 rfl (by decide) rfl ?_
  refine mg_ic_ne 17 21 rfl rfl (by decide) (fun c_14 => ?_) (fun c_14 => absurd c_14 (by decide))
  refine mg_iconst (v := 0) 22 rfl (by decide) rfl ?_
  refine mg_zret rfl rfl (by first | exact Or.inl rfl | exact Or.inr rfl) ?_
  exact k
theorem sm_namesA {d : Nat} {M : mm_M} {Q : mm_Qt} {k : Nat} (hk : k < 9) (hd : 1 ≤ d) (k1 : st_nl k = true → Q (some (.inl 1)) M) (k0 : st_nl k = false → Q (some (.inl 0)) M) : mm_Ev pg ly d 67 [.inr 21, .inl (nI k)] M Q := by
  rcases st_k9 hk with rfl | rfl | rfl | rfl | rfl | rfl | rfl | rfl | rfl
  · exact sm_namesA_0 hd (k0 rfl)
  · exact sm_namesA_1 hd (k0 rfl)
  · exact sm_namesA_2 hd (k1 rfl)
  · exact sm_namesA_3 hd (k1 rfl)
  · exact sm_namesA_4 hd (k1 rfl)
  · exact sm_namesA_5 hd (k1 rfl)
  · exact sm_namesA_6 hd (k0 rfl)
  · exact sm_namesA_7 hd (k1 rfl)
  · exact sm_namesA_8 hd (k0 rfl)
set_option maxHeartbeats 2000000 in
set_option maxRecDepth 20000 in
theorem sm_namesB_0 {d : Nat} {M : mm_M} {Q : mm_Qt} (hd : 1 ≤ d) (k : Q (some (.inl 0)) M) : mm_Ev pg ly d 68 [.inr 21, .inl (nI 0)] M Q := by
  obtain ⟨d, rfl⟩ : ∃ e, d = e + 1 := ⟨d - 1, by omega⟩
  refine mg_body yy_Mo_namesB pg_Mo_namesB (Nat.le_of_ble_eq_true rfl) ?_
  show mm_Rn _ _ _ _ _ _ 0 [(0, _), (1, _)] [] _
  refine mg_iload_n 1 rfl rfl rfl ?_
  refine mg_iconst (v := 2) 2 rfl (by decide) rfl ?_
  refine mg_ic_eq 5 16 rfl rfl (by decide) (fun c_2 => absurd c_2 (by decide)) (fun c_2 => ?_)
  refine mg_iload_n 6 rfl rfl rfl ?_
  refine mg_iconst (v := 3) 7 rfl (by decide) rfl ?_
  refine mg_ic_eq 10 16 rfl rfl (by decide) (fun c_7 => absurd c_7 (by decide)) (fun c_7 => ?_)
  refine mg_iload_n 11 rfl rfl rfl ?_
  refine mg_bipush (v := 6) 13 rfl (by decide) rfl ?_
  refine mg_ic_le 16 20 rfl rfl (by decide) (fun c_13 => ?_) (fun c_13 => absurd c_13 (by decide))
  refine mg_iconst (v := 0) 21 rfl (by decide) rfl ?_
  refine mg_zret rfl rfl (by first | exact Or.inl rfl | exact Or.inr rfl) ?_
  exact k
set_option maxHeartbeats 2000000 in
set_option maxRecDepth 20000 in
theorem sm_namesB_1 {d : Nat} {M : mm_M} {Q : mm_Qt} (hd : 1 ≤ d) (k : Q (some (.inl 0)) M) : mm_Ev pg ly d 68 [.inr 21, .inl (nI 1)] M Q := by
  obtain ⟨d, rfl⟩ : ∃ e, d = e + 1 := ⟨d - 1, by omega⟩
  refine mg_body yy_Mo_namesB pg_Mo_namesB (Nat.le_of_ble_eq_true rfl) ?_
  show mm_Rn _ _ _ _ _ _ 0 [(0, _), (1, _)] [] _
  refine mg_iload_n 1 rfl rfl rfl ?_
  refine mg_iconst (v := 2) 2 rfl (by decide) rfl ?_
  refine mg_ic_eq 5 16 rfl rfl (by decide) (fun c_2 => absurd c_2 (by decide)) (fun c_2 => ?_)
  refine mg_iload_n 6 rfl rfl rfl ?_
  refine mg_iconst (v := 3) 7 rfl (by decide) rfl ?_
  refine mg_ic_eq 10 16 rfl rfl (by decide) (fun c_7 => absurd c_7 (by decide)) (fun c_7 => ?_)
  refine mg_iload_n 11 rfl rfl rfl ?_
  refine mg_bipush (v := 6) 13 rfl (by decide) rfl ?_
  refine mg_ic_le 16 20 rfl rfl (by decide) (fun c_13 => ?_) (fun c_13 => absurd c_13 (by decide))
  refine mg_iconst (v := 0) 21 rfl (by decide) rfl ?_
  refine mg_zret rfl rfl (by first | exact Or.inl rfl | exact Or.inr rfl) ?_
  exact k
set_option maxHeartbeats 2000000 in
set_option maxRecDepth 20000 in
theorem sm_namesB_2 {d : Nat} {M : mm_M} {Q : mm_Qt} (hd : 1 ≤ d) (k : Q (some (.inl 1)) M) : mm_Ev pg ly d 68 [.inr 21, .inl (nI 2)] M Q := by
  obtain ⟨d, rfl⟩ : ∃ e, d = e + 1 := ⟨d - 1, by omega⟩
  refine mg_body yy_Mo_namesB pg_Mo_namesB (Nat.le_of_ble_eq_true rfl) ?_
  show mm_Rn _ _ _ _ _ _ 0 [(0, _), (1, _)] [] _
  refine mg_iload_n 1 rfl rfl rfl ?_
  refine mg_iconst (v := 2) 2 rfl (by decide) rfl ?_
  refine mg_ic_eq 5 16 rfl rfl (by decide) (fun c_2 => ?_) (fun c_2 => absurd c_2 (by decide))
  refine mg_iconst (v := 1) 17 rfl (by decide) rfl ?_
  refine mg_goto 21 rfl (by decide) ?_
  refine mg_zret rfl rfl (by first | exact Or.inl rfl | exact Or.inr rfl) ?_
  exact k
set_option maxHeartbeats 2000000 in
set_option maxRecDepth 20000 in
theorem sm_namesB_3 {d : Nat} {M : mm_M} {Q : mm_Qt} (hd : 1 ≤ d) (k : Q (some (.inl 1)) M) : mm_Ev pg ly d 68 [.inr 21, .inl (nI 3)] M Q := by
  obtain ⟨d, rfl⟩ : ∃ e, d = e + 1 := ⟨d - 1, by omega⟩
  refine mg_body yy_Mo_namesB pg_Mo_namesB (Nat.le_of_ble_eq_true rfl) ?_
  show mm_Rn _ _ _ _ _ _ 0 [(0, _), (1, _)] [] _
  refine mg_iload_n 1 rfl rfl rfl ?_
  refine mg_iconst (v := 2) 2 rfl (by decide) rfl ?_
  refine mg_ic_eq 5 16 rfl rfl (by decide) (fun c_2 => absurd c_2 (by decide)) (fun c_2 => ?_)
  refine mg_iload_n 6 rfl rfl rfl ?_
  refine mg_iconst (v := 3) 7 rfl (by decide) rfl ?_
  refine mg_ic_eq 10 16 rfl rfl (by decide) (fun c_7 => ?_) (fun c_7 => absurd c_7 (by decide))
  refine mg_iconst (v := 1) 17 rfl (by decide) rfl ?_
  refine mg_goto 21 rfl (by decide) ?_
  refine mg_zret rfl rfl (by first | exact Or.inl rfl | exact Or.inr rfl) ?_
  exact k
set_option maxHeartbeats 2000000 in
set_option maxRecDepth 20000 in
theorem sm_namesB_4 {d : Nat} {M : mm_M} {Q : mm_Qt} (hd : 1 ≤ d) (k : Q (some (.inl 0)) M) : mm_Ev pg ly d 68 [.inr 21, .inl (nI 4)] M Q := by
  obtain ⟨d, rfl⟩ : ∃ e, d = e + 1 := ⟨d - 1, by omega⟩
  refine mg_body yy_Mo_namesB pg_Mo_namesB (Nat.le_of_ble_eq_true rfl) ?_
  show mm_Rn _ _ _ _ _ _ 0 [(0, _), (1, _)] [] _
  refine mg_iload_n 1 rfl rfl rfl ?_
  refine mg_iconst (v := 2) 2 rfl (by decide) rfl ?_
  refine mg_ic_eq 5 16 rfl rfl (by decide) (fun c_2 => absurd c_2 (by decide)) (fun c_2 => ?_)
  refine mg_iload_n 6 rfl rfl rfl ?_
  refine mg_iconst (v := 3) 7 rfl (by decide) rfl ?_
  refine mg_ic_eq 10 16 rfl rfl (by decide) (fun c_7 => absurd c_7 (by decide)) (fun c_7 => ?_)
  refine mg_iload_n 11 rfl rfl rfl ?_
  refine mg_bipush (v := 6) 13 rfl (by decide) rfl ?_
  refine mg_ic_le 16 20 rfl rfl (by decide) (fun c_13 => ?_) (fun c_13 => absurd c_13 (by decide))
  refine mg_iconst (v := 0) 21 rfl (by decide) rfl ?_
  refine mg_zret rfl rfl (by first | exact Or.inl rfl | exact Or.inr rfl) ?_
  exact k
set_option maxHeartbeats 2000000 in
set_option maxRecDepth 20000 in
theorem sm_namesB_5 {d : Nat} {M : mm_M} {Q : mm_Qt} (hd : 1 ≤ d) (k : Q (some (.inl 0)) M) : mm_Ev pg ly d 68 [.inr 21, .inl (nI 5)] M Q := by
  obtain ⟨d, rfl⟩ : ∃ e, d = e + 1 := ⟨d - 1, by omega⟩
  refine mg_body yy_Mo_namesB pg_Mo_namesB (Nat.le_of_ble_eq_true rfl) ?_
  show mm_Rn _ _ _ _ _ _ 0 [(0, _), (1, _)] [] _
  refine mg_iload_n 1 rfl rfl rfl ?_
  refine mg_iconst (v := 2) 2 rfl (by decide) rfl ?_
  refine mg_ic_eq 5 16 rfl rfl (by decide) (fun c_2 => absurd c_2 (by decide)) (fun c_2 => ?_)
  refine mg_iload_n 6 rfl rfl rfl ?_
  refine mg_iconst (v := 3) 7 rfl (by decide) rfl ?_
  refine mg_ic_eq 10 16 rfl rfl (by decide) (fun c_7 => absurd c_7 (by decide)) (fun c_7 => ?_)
  refine mg_iload_n 11 rfl rfl rfl ?_
  refine mg_bipush (v := 6) 13 rfl (by decide) rfl ?_
  refine mg_ic_le 16 20 rfl rfl (by decide) (fun c_13 => ?_) (fun c_13 => absurd c_13 (by decide))
  refine mg_iconst (v := 0) 21 rfl (by decide) rfl ?_
  refine mg_zret rfl rfl (by first | exact Or.inl rfl | exact Or.inr rfl) ?_
  exact k
set_option maxHeartbeats 2000000 in
set_option maxRecDepth 20000 in
theorem sm_namesB_6 {d : Nat} {M : mm_M} {Q : mm_Qt} (hd : 1 ≤ d) (k : Q (some (.inl 0)) M) : mm_Ev pg ly d 68 [.inr 21, .inl (nI 6)] M Q := by
  obtain ⟨d, rfl⟩ : ∃ e, d = e + 1 := ⟨d - 1, by omega⟩
  refine mg_body yy_Mo_namesB pg_Mo_namesB (Nat.le_of_ble_eq_true rfl) ?_
  show mm_Rn _ _ _ _ _ _ 0 [(0, _), (1, _)] [] _
  refine mg_iload_n 1 rfl rfl rfl ?_
  refine mg_iconst (v := 2) 2 rfl (by decide) rfl ?_
  refine mg_ic_eq 5 16 rfl rfl (by decide) (fun c_2 => absurd c_2 (by decide)) (fun c_2 => ?_)
  refine mg_iload_n 6 rfl rfl rfl ?_
  refine mg_iconst (v := 3) 7 rfl (by decide) rfl ?_
  refine mg_ic_eq 10 16 rfl rfl (by decide) (fun c_7 => absurd c_7 (by decide)) (fun c_7 => ?_)
  refine mg_iload_n 11 rfl rfl rfl ?_
  refine mg_bipush (v := 6) 13 rfl (by decide) rfl ?_
  refine mg_ic_le 16 20 rfl rfl (by decide) (fun c_13 => ?_) (fun c_13 => absurd c_13 (by decide))
  refine mg_iconst (v := 0) 21 rfl (by decide) rfl ?_
  refine mg_zret rfl rfl (by first | exact Or.inl rfl | exact Or.inr rfl) ?_
  exact k
set_option maxHeartbeats 2000000 in
set_option maxRecDepth 20000 in
theorem sm_namesB_7 {d : Nat} {M : mm_M} {Q : mm_Qt} (hd : 1 ≤ d) (k : Q (some (.inl 1)) M) : mm_Ev pg ly d 68 [.inr 21, .inl (nI 7)] M Q := by
  obtain ⟨d, rfl⟩ : ∃ e, d = e + 1 := ⟨d - 1, by omega⟩
  refine mg_body yy_Mo_namesB pg_Mo_namesB (Nat.le_of_ble_eq_true rfl) ?_
  show mm_Rn _ _ _ _ _ _ 0 [(0, _), (1, _)] [] _
  refine mg_iload_n 1 rfl rfl rfl ?_
  refine mg_iconst (v := 2) 2 rfl (by decide) rfl ?_
  refine mg_ic_eq 5 16 rfl rfl (by decide) (fun c_2 => absurd c_2 (by decide)) (fun c_2 => ?_)
  refine mg_iload_n 6 rfl rfl rfl ?_
  refine mg_iconst (v := 3) 7 rfl (by decide) rfl ?_
  refine mg_ic_eq 10 16 rfl rfl (by decide) (fun c_7 => absurd c_7 (by decide)) (fun c_7 => ?_)
  refine mg_iload_n 11 rfl rfl rfl ?_
  refine mg_bipush (v := 6) 13 rfl (by decide) rfl ?_
  refine mg_ic_le 16 20 rfl rfl (by decide) (fun c_13 => absurd c_13 (by decide)) (fun c_13 => ?_)
  refine mg_iconst (v := 1) 17 rfl (by decide) rfl ?_
  refine mg_goto 21 rfl (by decide) ?_
  refine mg_zret rfl rfl (by first | exact Or.inl rfl | exact Or.inr rfl) ?_
  exact k
set_option maxHeartbeats 2000000 in
set_option maxRecDepth 20000 in
theorem sm_namesB_8 {d : Nat} {M : mm_M} {Q : mm_Qt} (hd : 1 ≤ d) (k : Q (some (.inl 1)) M) : mm_Ev pg ly d 68 [.inr 21, .inl (nI 8)] M Q := by
  obtain ⟨d, rfl⟩ : ∃ e, d = e + 1 := ⟨d - 1, by omega⟩
  refine mg_body yy_Mo_namesB pg_Mo_namesB (Nat.le_of_ble_eq_true rfl) ?_
  show mm_Rn _ _ _ _ _ _ 0 [(0, _), (1, _)] [] _
  refine mg_iload_n 1 rfl rfl rfl ?_
  refine mg_iconst (v := 2) 2 rfl (by decide) rfl ?_
  refine mg_ic_eq 5 16 rfl rfl (by decide) (fun c_2 => absurd c_2 (by decide)) (fun c_2 => ?_)
  refine mg_iload_n 6 rfl rfl rfl ?_
  refine mg_iconst (v := 3) 7 rfl (by decide) rfl ?_
  refine mg_ic_eq 10 16 rfl rfl (by decide) (fun c_7 => absurd c_7 (by decide)) (fun c_7 => ?_)
  refine mg_iload_n 11 rfl rfl rfl ?_
  refine mg_bipush (v := 6) 13 rfl (by decide) rfl ?_
  refine mg_ic_le 16 20 rfl rfl (by decide) (fun c_13 => absurd c_13 (by decide)) (fun c_13 => ?_)
  refine mg_iconst (v := 1) 17 rfl (by decide) rfl ?_
  refine mg_goto 21 rfl (by decide) ?_
  refine mg_zret rfl rfl (by first | exact Or.inl rfl | exact Or.inr rfl) ?_
  exact k
theorem sm_namesB {d : Nat} {M : mm_M} {Q : mm_Qt} {k : Nat} (hk : k < 9) (hd : 1 ≤ d) (k1 : st_nr k = true → Q (some (.inl 1)) M) (k0 : st_nr k = false → Q (some (.inl 0)) M) : mm_Ev pg ly d 68 [.inr 21, .inl (nI k)] M Q := by
  rcases st_k9 hk with rfl | rfl | rfl | rfl | rfl | rfl | rfl | rfl | rfl
  · exact sm_namesB_0 hd (k0 rfl)
  · exact sm_namesB_1 hd (k0 rfl)
  · exact sm_namesB_2 hd (k1 rfl)
  · exact sm_namesB_3 hd (k1 rfl)
  · exact sm_namesB_4 hd (k0 rfl)
  · exact sm_namesB_5 hd (k0 rfl)
  · exact sm_namesB_6 hd (k0 rfl)
  · exact sm_namesB_7 hd (k1 rfl)
  · exact sm_namesB_8 hd (k1 rfl)
set_option maxHeartbeats 2000000 in
set_option maxRecDepth 20000 in
theorem sm_node {d : Nat} {M : mm_M} {Q : mm_Qt} {x p q : Int32} {n : Nat} {kd lv : Nat → Nat} {a b ru : Nat → Int32} (hG : st_gM M n kd lv a b ru) (hW : st_wf n kd lv a b ru) (hd : 2 ≤ d) (kR : ¬ st_ok n lv x p q → Q (some (.inl (-1))) M) (kF : st_ok n lv x p q → n = 60 → Q (some (.inl (-2))) M) (kN : ∀ k l, k < 9 → x = nI k → st_lf n k p → st_rf n k q → l = st_lev lv k p q → l ≤ 6 → n < 60 → Q (some (.inl (nI n))) (st_mkM M n x p q l)) : mm_Ev pg ly d 69 [.inr 21, .inl x, .inl p, .inl q] M Q := by
  have hn : n ≤ 60 := hW.1
  have hsz : M 21 0 = nI n := hG.1
  obtain ⟨d, rfl⟩ : ∃ e, d = e + 1 := ⟨d - 1, by omega⟩
  refine mg_body yy_Mo_node pg_Mo_node (Nat.le_of_ble_eq_true rfl) ?_
  show mm_Rn _ _ _ _ _ _ 0 [(0, _), (1, _), (2, _), (3, _)] [] _
  refine mg_aload_n 1 rfl rfl rfl ?_
  refine mg_iload_n 2 rfl rfl rfl ?_
  refine mg_iconst (v := 0) 3 rfl (by decide) rfl ?_
  refine mg_bipush (v := 8) 5 rfl (by decide) rfl ?_
  refine mg_callV3 8 rfl (Nat.le_of_ble_eq_true rfl) pg_Mo_out rfl rfl ?_
  refine sm_out 8 (by omega) rfl (by omega) (fun hno => ?_) (fun j hj hx => ?_)
  · show mm_Rn _ _ _ _ _ _ 8 [(0, _), (1, _), (2, _), (3, _)] [_] _
    refine mg_if_ne 11 59 rfl rfl (by decide) (fun c_8 => ?_) (fun c_8 => absurd c_8 (by decide))
    refine mg_iconst (v := (-1)) 60 rfl (by decide) rfl ?_
    refine mg_iret rfl rfl ?_
    exact kR (fun h => hno (by obtain ⟨k, hk, e, _⟩ := h; exact ⟨k, hk, e⟩))
  · show mm_Rn _ _ _ _ _ _ 8 [(0, _), (1, _), (2, _), (3, _)] [_] _
    refine mg_if_ne 11 59 rfl rfl (by decide) (fun c_8 => absurd c_8 (by decide)) (fun c_8 => ?_)
    subst hx
    rcases st_k9 hj with rfl | rfl | rfl | rfl | rfl | rfl | rfl | rfl | rfl
    · refine mg_iload_n 12 rfl rfl rfl ?_
      refine mg_if_ne 15 26 rfl rfl (by decide) (fun c_12 => absurd c_12 (by decide)) (fun c_12 => ?_)
      refine mg_aload_n 16 rfl rfl rfl ?_
      refine mg_iload_n 17 rfl rfl rfl ?_
      refine mg_iconst (v := 0) 18 rfl (by decide) rfl ?_
      refine mg_bipush (v := 9) 20 rfl (by decide) rfl ?_
      refine mg_callV3 23 rfl (Nat.le_of_ble_eq_true rfl) pg_Mo_out rfl rfl ?_
      refine sm_out 9 (by omega) rfl (by omega) (fun hno => ?_) (fun j2 hj2 hx2 => ?_)
      · show mm_Rn _ _ _ _ _ _ 23 [(0, _), (1, _), (2, _), (3, _)] [_] _
        refine mg_if_ne 26 59 rfl rfl (by decide) (fun c_23 => ?_) (fun c_23 => absurd c_23 (by decide))
        refine mg_iconst (v := (-1)) 60 rfl (by decide) rfl ?_
        refine mg_iret rfl rfl ?_
        exact kR (fun h => hno ((st_ok_k (by omega) h).1.resolve_right (by decide)))
      · show mm_Rn _ _ _ _ _ _ 23 [(0, _), (1, _), (2, _), (3, _)] [_] _
        refine mg_if_ne 26 59 rfl rfl (by decide) (fun c_23 => absurd c_23 (by decide)) (fun c_23 => ?_)
        refine mg_iload_n 27 rfl rfl rfl ?_
        refine mg_iconst (v := 1) 28 rfl (by decide) rfl ?_
        refine mg_ic_ne 31 42 rfl rfl (by decide) (fun c_28 => ?_) (fun c_28 => absurd c_28 (by decide))
        refine mg_iload_n 43 rfl rfl rfl ?_
        refine mg_bipush (v := 8) 45 rfl (by decide) rfl ?_
        refine mg_ic_ne 48 61 rfl rfl (by decide) (fun c_45 => ?_) (fun c_45 => absurd c_45 (by decide))
        have hl : st_lf n 0 p := Or.inl ⟨j2, hj2, hx2⟩
        refine mg_aload_n 62 rfl rfl rfl ?_
        refine mg_iload_n 63 rfl rfl rfl ?_
        refine mg_callV1 66 rfl (Nat.le_of_ble_eq_true rfl) pg_Mo_namesA rfl rfl ?_
        refine sm_namesA_0 (by omega) ?_
        show mm_Rn _ _ _ _ _ _ 66 [(0, _), (1, _), (2, _), (3, _)] [_] _
        refine mg_if_eq 69 77 rfl rfl (by decide) (fun c_66 => ?_) (fun c_66 => absurd c_66 (by decide))
        refine mg_aload_n 78 rfl rfl rfl ?_
        refine mg_iload_n 79 rfl rfl rfl ?_
        refine mg_callV1 82 rfl (Nat.le_of_ble_eq_true rfl) pg_Mo_namesB rfl rfl ?_
        refine sm_namesB_0 (by omega) ?_
        show mm_Rn _ _ _ _ _ _ 82 [(0, _), (1, _), (2, _), (3, _)] [_] _
        refine mg_if_eq 85 95 rfl rfl (by decide) (fun c_82 => ?_) (fun c_82 => absurd c_82 (by decide))
        have hr : st_rf n 0 q := fun h => absurd h (by decide)
        have hlev : st_lev lv 0 p q = max (0) (0) + 1 := by
          unfold st_lev st_l
          rfl
        refine mg_aload_n 96 rfl rfl rfl ?_
        refine mg_iload_n 97 rfl rfl rfl ?_
        refine mg_callV1 100 rfl (Nat.le_of_ble_eq_true rfl) pg_Mo_namesA rfl rfl ?_
        refine sm_namesA_0 (by omega) ?_
        show mm_Rn _ _ _ _ _ _ 100 [(0, _), (1, _), (2, _), (3, _)] [_] _
        refine mg_if_eq 103 112 rfl rfl (by decide) (fun c_100 => ?_) (fun c_100 => absurd c_100 (by decide))
        refine mg_iconst (v := 0) 113 rfl (by decide) rfl ?_
        refine mg_istore (L2 := [(0, _), (1, _), (2, _), (3, _), (4, _)]) 115 rfl (by decide) rfl rfl ?_
        refine mg_aload_n 116 rfl rfl rfl ?_
        refine mg_iload_n 117 rfl rfl rfl ?_
        refine mg_callV1 120 rfl (Nat.le_of_ble_eq_true rfl) pg_Mo_namesB rfl rfl ?_
        refine sm_namesB_0 (by omega) ?_
        show mm_Rn _ _ _ _ _ _ 120 [(0, _), (1, _), (2, _), (3, _), (4, _)] [_] _
        refine mg_if_eq 123 142 rfl rfl (by decide) (fun c_120 => ?_) (fun c_120 => absurd c_120 (by decide))
        refine mg_iload 144 rfl rfl rfl ?_
        refine mg_bipush (v := 6) 146 rfl (by decide) rfl ?_
        refine mg_ic_ne 149 151 rfl rfl (by decide) (fun c_146 => ?_) (fun c_146 => absurd c_146 (by decide))
        have h6 : max 0 0 + 1 ≤ 6 := by decide
        refine mg_aload_n 152 rfl rfl rfl ?_
        refine mg_getI (v := nI n) 155 rfl rfl (Or.inl rfl) hsz rfl ?_
        refine mg_bipush (v := 60) 157 rfl (by decide) rfl ?_
        refine mg_ic_ne 160 163 rfl rfl (by decide) (fun c_157 => ?_) (fun c_157 => ?_)
        · have hn60 : n < 60 := by
            have := st_ne 60 c_157 rfl (by omega) (by omega)
            omega
          refine mg_aload_n 164 rfl rfl rfl ?_
          refine mg_getR 167 rfl rfl rfl rfl ?_
          refine mg_aload_n 168 rfl rfl rfl ?_
          refine mg_getI (v := nI n) 171 rfl rfl (Or.inl rfl) hsz rfl ?_
          refine mg_iload_n 172 rfl rfl rfl ?_
          refine mg_iast (j := n) 173 rfl rfl (vp_in_nI (by omega : n < 60) (by omega)) (nI_clamp (by omega)) rfl ?_
          refine mg_aload_n 174 rfl rfl rfl ?_
          refine mg_getR 177 rfl rfl rfl rfl ?_
          refine mg_aload_n 178 rfl rfl rfl ?_
          refine mg_getI (v := nI n) 181 rfl rfl (Or.inl rfl) hsz rfl ?_
          refine mg_iload_n 182 rfl rfl rfl ?_
          refine mg_iast (j := n) 183 rfl rfl (vp_in_nI (by omega : n < 60) (by omega)) (nI_clamp (by omega)) rfl ?_
          refine mg_aload_n 184 rfl rfl rfl ?_
          refine mg_getR 187 rfl rfl rfl rfl ?_
          refine mg_aload_n 188 rfl rfl rfl ?_
          refine mg_getI (v := nI n) 191 rfl rfl (Or.inl rfl) hsz rfl ?_
          refine mg_iload_n 192 rfl rfl rfl ?_
          refine mg_iast (j := n) 193 rfl rfl (vp_in_nI (by omega : n < 60) (by omega)) (nI_clamp (by omega)) rfl ?_
          refine mg_aload_n 194 rfl rfl rfl ?_
          refine mg_getR 197 rfl rfl rfl rfl ?_
          refine mg_aload_n 198 rfl rfl rfl ?_
          refine mg_getI (v := nI n) 201 rfl rfl (Or.inl rfl) hsz rfl ?_
          refine mg_iload 203 rfl rfl rfl ?_
          refine mg_iconst (v := 1) 204 rfl (by decide) rfl ?_
          refine mg_iadd (v := nI (max 0 0 + 1)) 205 rfl (by decide) rfl ?_
          refine mg_iast (j := n) 206 rfl rfl (vp_in_nI (by omega : n < 60) (by omega)) (nI_clamp (by omega)) rfl ?_
          refine mg_aload_n 207 rfl rfl rfl ?_
          refine mg_dup 208 rfl rfl ?_
          refine mg_getI (v := nI n) 211 rfl rfl (Or.inl rfl) hsz rfl ?_
          refine mg_iconst (v := 1) 212 rfl (by decide) rfl ?_
          refine mg_iadd (v := nI (n + 1)) 213 rfl (nI_1 n) rfl ?_
          refine mg_putI 216 rfl rfl rfl rfl ?_
          refine mg_aload_n 217 rfl rfl rfl ?_
          refine mg_getI (v := nI (n + 1)) 220 rfl rfl (Or.inl rfl) rfl rfl ?_
          refine mg_iconst (v := 1) 221 rfl (by decide) rfl ?_
          refine mg_isub (v := nI n) 222 rfl (nI_pred n) rfl ?_
          refine mg_iret rfl rfl ?_
          have := kN 0 _ (by omega) rfl hl hr hlev.symm (by omega) hn60
          exact this
        · refine mg_bipush (v := (-2)) 162 rfl (by decide) rfl ?_
          refine mg_iret rfl rfl ?_
          exact kF ⟨0, by omega, rfl, hl, hr, by omega⟩ ((st_eq 60 60 rfl (by omega) (by omega)).mp c_157)
    · refine mg_iload_n 12 rfl rfl rfl ?_
      refine mg_if_ne 15 26 rfl rfl (by decide) (fun c_12 => ?_) (fun c_12 => absurd c_12 (by decide))
      refine mg_iload_n 27 rfl rfl rfl ?_
      refine mg_iconst (v := 1) 28 rfl (by decide) rfl ?_
      refine mg_ic_ne 31 42 rfl rfl (by decide) (fun c_28 => absurd c_28 (by decide)) (fun c_28 => ?_)
      refine mg_aload_n 32 rfl rfl rfl ?_
      refine mg_iload_n 33 rfl rfl rfl ?_
      refine mg_iconst (v := 0) 34 rfl (by decide) rfl ?_
      refine mg_bipush (v := 7) 36 rfl (by decide) rfl ?_
      refine mg_callV3 39 rfl (Nat.le_of_ble_eq_true rfl) pg_Mo_out rfl rfl ?_
      refine sm_out 7 (by omega) rfl (by omega) (fun hno => ?_) (fun j2 hj2 hx2 => ?_)
      · show mm_Rn _ _ _ _ _ _ 39 [(0, _), (1, _), (2, _), (3, _)] [_] _
        refine mg_if_ne 42 59 rfl rfl (by decide) (fun c_39 => ?_) (fun c_39 => absurd c_39 (by decide))
        refine mg_iconst (v := (-1)) 60 rfl (by decide) rfl ?_
        refine mg_iret rfl rfl ?_
        exact kR (fun h => hno ((st_ok_k (by omega) h).1.resolve_right (by decide)))
      · show mm_Rn _ _ _ _ _ _ 39 [(0, _), (1, _), (2, _), (3, _)] [_] _
        refine mg_if_ne 42 59 rfl rfl (by decide) (fun c_39 => absurd c_39 (by decide)) (fun c_39 => ?_)
        refine mg_iload_n 43 rfl rfl rfl ?_
        refine mg_bipush (v := 8) 45 rfl (by decide) rfl ?_
        refine mg_ic_ne 48 61 rfl rfl (by decide) (fun c_45 => ?_) (fun c_45 => absurd c_45 (by decide))
        have hl : st_lf n 1 p := Or.inl ⟨j2, hj2, hx2⟩
        refine mg_aload_n 62 rfl rfl rfl ?_
        refine mg_iload_n 63 rfl rfl rfl ?_
        refine mg_callV1 66 rfl (Nat.le_of_ble_eq_true rfl) pg_Mo_namesA rfl rfl ?_
        refine sm_namesA_1 (by omega) ?_
        show mm_Rn _ _ _ _ _ _ 66 [(0, _), (1, _), (2, _), (3, _)] [_] _
        refine mg_if_eq 69 77 rfl rfl (by decide) (fun c_66 => ?_) (fun c_66 => absurd c_66 (by decide))
        refine mg_aload_n 78 rfl rfl rfl ?_
        refine mg_iload_n 79 rfl rfl rfl ?_
        refine mg_callV1 82 rfl (Nat.le_of_ble_eq_true rfl) pg_Mo_namesB rfl rfl ?_
        refine sm_namesB_1 (by omega) ?_
        show mm_Rn _ _ _ _ _ _ 82 [(0, _), (1, _), (2, _), (3, _)] [_] _
        refine mg_if_eq 85 95 rfl rfl (by decide) (fun c_82 => ?_) (fun c_82 => absurd c_82 (by decide))
        have hr : st_rf n 1 q := fun h => absurd h (by decide)
        have hlev : st_lev lv 1 p q = max (0) (0) + 1 := by
          unfold st_lev st_l
          rfl
        refine mg_aload_n 96 rfl rfl rfl ?_
        refine mg_iload_n 97 rfl rfl rfl ?_
        refine mg_callV1 100 rfl (Nat.le_of_ble_eq_true rfl) pg_Mo_namesA rfl rfl ?_
        refine sm_namesA_1 (by omega) ?_
        show mm_Rn _ _ _ _ _ _ 100 [(0, _), (1, _), (2, _), (3, _)] [_] _
        refine mg_if_eq 103 112 rfl rfl (by decide) (fun c_100 => ?_) (fun c_100 => absurd c_100 (by decide))
        refine mg_iconst (v := 0) 113 rfl (by decide) rfl ?_
        refine mg_istore (L2 := [(0, _), (1, _), (2, _), (3, _), (4, _)]) 115 rfl (by decide) rfl rfl ?_
        refine mg_aload_n 116 rfl rfl rfl ?_
        refine mg_iload_n 117 rfl rfl rfl ?_
        refine mg_callV1 120 rfl (Nat.le_of_ble_eq_true rfl) pg_Mo_namesB rfl rfl ?_
        refine sm_namesB_1 (by omega) ?_
        show mm_Rn _ _ _ _ _ _ 120 [(0, _), (1, _), (2, _), (3, _), (4, _)] [_] _
        refine mg_if_eq 123 142 rfl rfl (by decide) (fun c_120 => ?_) (fun c_120 => absurd c_120 (by decide))
        refine mg_iload 144 rfl rfl rfl ?_
        refine mg_bipush (v := 6) 146 rfl (by decide) rfl ?_
        refine mg_ic_ne 149 151 rfl rfl (by decide) (fun c_146 => ?_) (fun c_146 => absurd c_146 (by decide))
        have h6 : max 0 0 + 1 ≤ 6 := by decide
        refine mg_aload_n 152 rfl rfl rfl ?_
        refine mg_getI (v := nI n) 155 rfl rfl (Or.inl rfl) hsz rfl ?_
        refine mg_bipush (v := 60) 157 rfl (by decide) rfl ?_
        refine mg_ic_ne 160 163 rfl rfl (by decide) (fun c_157 => ?_) (fun c_157 => ?_)
        · have hn60 : n < 60 := by
            have := st_ne 60 c_157 rfl (by omega) (by omega)
            omega
          refine mg_aload_n 164 rfl rfl rfl ?_
          refine mg_getR 167 rfl rfl rfl rfl ?_
          refine mg_aload_n 168 rfl rfl rfl ?_
          refine mg_getI (v := nI n) 171 rfl rfl (Or.inl rfl) hsz rfl ?_
          refine mg_iload_n 172 rfl rfl rfl ?_
          refine mg_iast (j := n) 173 rfl rfl (vp_in_nI (by omega : n < 60) (by omega)) (nI_clamp (by omega)) rfl ?_
          refine mg_aload_n 174 rfl rfl rfl ?_
          refine mg_getR 177 rfl rfl rfl rfl ?_
          refine mg_aload_n 178 rfl rfl rfl ?_
          refine mg_getI (v := nI n) 181 rfl rfl (Or.inl rfl) hsz rfl ?_
          refine mg_iload_n 182 rfl rfl rfl ?_
          refine mg_iast (j := n) 183 rfl rfl (vp_in_nI (by omega : n < 60) (by omega)) (nI_clamp (by omega)) rfl ?_
          refine mg_aload_n 184 rfl rfl rfl ?_
          refine mg_getR 187 rfl rfl rfl rfl ?_
          refine mg_aload_n 188 rfl rfl rfl ?_
          refine mg_getI (v := nI n) 191 rfl rfl (Or.inl rfl) hsz rfl ?_
          refine mg_iload_n 192 rfl rfl rfl ?_
          refine mg_iast (j := n) 193 rfl rfl (vp_in_nI (by omega : n < 60) (by omega)) (nI_clamp (by omega)) rfl ?_
          refine mg_aload_n 194 rfl rfl rfl ?_
          refine mg_getR 197 rfl rfl rfl rfl ?_
          refine mg_aload_n 198 rfl rfl rfl ?_
          refine mg_getI (v := nI n) 201 rfl rfl (Or.inl rfl) hsz rfl ?_
          refine mg_iload 203 rfl rfl rfl ?_
          refine mg_iconst (v := 1) 204 rfl (by decide) rfl ?_
          refine mg_iadd (v := nI (max 0 0 + 1)) 205 rfl (by decide) rfl ?_
          refine mg_iast (j := n) 206 rfl rfl (vp_in_nI (by omega : n < 60) (by omega)) (nI_clamp (by omega)) rfl ?_
          refine mg_aload_n 207 rfl rfl rfl ?_
          refine mg_dup 208 rfl rfl ?_
          refine mg_getI (v := nI n) 211 rfl rfl (Or.inl rfl) hsz rfl ?_
          refine mg_iconst (v := 1) 212 rfl (by decide) rfl ?_
          refine mg_iadd (v := nI (n + 1)) 213 rfl (nI_1 n) rfl ?_
          refine mg_putI 216 rfl rfl rfl rfl ?_
          refine mg_aload_n 217 rfl rfl rfl ?_
          refine mg_getI (v := nI (n + 1)) 220 rfl rfl (Or.inl rfl) rfl rfl ?_
          refine mg_iconst (v := 1) 221 rfl (by decide) rfl ?_
          refine mg_isub (v := nI n) 222 rfl (nI_pred n) rfl ?_
          refine mg_iret rfl rfl ?_
          have := kN 1 _ (by omega) rfl hl hr hlev.symm (by omega) hn60
          exact this
        · refine mg_bipush (v := (-2)) 162 rfl (by decide) rfl ?_
          refine mg_iret rfl rfl ?_
          exact kF ⟨1, by omega, rfl, hl, hr, by omega⟩ ((st_eq 60 60 rfl (by omega) (by omega)).mp c_157)
    · refine mg_iload_n 12 rfl rfl rfl ?_
      refine mg_if_ne 15 26 rfl rfl (by decide) (fun c_12 => ?_) (fun c_12 => absurd c_12 (by decide))
      refine mg_iload_n 27 rfl rfl rfl ?_
      refine mg_iconst (v := 1) 28 rfl (by decide) rfl ?_
      refine mg_ic_ne 31 42 rfl rfl (by decide) (fun c_28 => ?_) (fun c_28 => absurd c_28 (by decide))
      refine mg_iload_n 43 rfl rfl rfl ?_
      refine mg_bipush (v := 8) 45 rfl (by decide) rfl ?_
      refine mg_ic_ne 48 61 rfl rfl (by decide) (fun c_45 => ?_) (fun c_45 => absurd c_45 (by decide))
      refine mg_aload_n 62 rfl rfl rfl ?_
      refine mg_iload_n 63 rfl rfl rfl ?_
      refine mg_callV1 66 rfl (Nat.le_of_ble_eq_true rfl) pg_Mo_namesA rfl rfl ?_
      refine sm_namesA_2 (by omega) ?_
      show mm_Rn _ _ _ _ _ _ 66 [(0, _), (1, _), (2, _), (3, _)] [_] _
      refine mg_if_eq 69 77 rfl rfl (by decide) (fun c_66 => absurd c_66 (by decide)) (fun c_66 => ?_)
      refine mg_aload_n 70 rfl rfl rfl ?_
      refine mg_iload_n 71 rfl rfl rfl ?_
      refine mg_callV1 74 rfl (Nat.le_of_ble_eq_true rfl) pg_Mo_no rfl rfl ?_
      refine sm_no hsz hn (by omega) (fun hno => ?_) (fun j3 hj3 hx3 => ?_)
      · show mm_Rn _ _ _ _ _ _ 74 [(0, _), (1, _), (2, _), (3, _)] [_] _
        refine mg_if_ne 77 93 rfl rfl (by decide) (fun c_74 => ?_) (fun c_74 => absurd c_74 (by decide))
        refine mg_iconst (v := (-1)) 94 rfl (by decide) rfl ?_
        refine mg_iret rfl rfl ?_
        first | exact kR (fun h => hno ((st_ok_k (by omega) h).1.resolve_right (by decide))) | exact kR (fun h => hno ((st_ok_k (by omega) h).2.1 rfl))
      · show mm_Rn _ _ _ _ _ _ 74 [(0, _), (1, _), (2, _), (3, _)] [_] _
        refine mg_if_ne 77 93 rfl rfl (by decide) (fun c_74 => absurd c_74 (by decide)) (fun c_74 => ?_)
        refine mg_aload_n 78 rfl rfl rfl ?_
        refine mg_iload_n 79 rfl rfl rfl ?_
        refine mg_callV1 82 rfl (Nat.le_of_ble_eq_true rfl) pg_Mo_namesB rfl rfl ?_
        refine sm_namesB_2 (by omega) ?_
        show mm_Rn _ _ _ _ _ _ 82 [(0, _), (1, _), (2, _), (3, _)] [_] _
        refine mg_if_eq 85 95 rfl rfl (by decide) (fun c_82 => absurd c_82 (by decide)) (fun c_82 => ?_)
        refine mg_aload_n 86 rfl rfl rfl ?_
        refine mg_iload_n 87 rfl rfl rfl ?_
        refine mg_callV1 90 rfl (Nat.le_of_ble_eq_true rfl) pg_Mo_no rfl rfl ?_
        refine sm_no hsz hn (by omega) (fun hno => ?_) (fun j4 hj4 hx4 => ?_)
        · show mm_Rn _ _ _ _ _ _ 90 [(0, _), (1, _), (2, _), (3, _)] [_] _
          refine mg_if_eq 93 95 rfl rfl (by decide) (fun c_90 => absurd c_90 (by decide)) (fun c_90 => ?_)
          refine mg_iconst (v := (-1)) 94 rfl (by decide) rfl ?_
          refine mg_iret rfl rfl ?_
          first | exact kR (fun h => hno ((st_ok_k (by omega) h).1.resolve_right (by decide))) | exact kR (fun h => hno ((st_ok_k (by omega) h).2.1 rfl))
        · show mm_Rn _ _ _ _ _ _ 90 [(0, _), (1, _), (2, _), (3, _)] [_] _
          refine mg_if_eq 93 95 rfl rfl (by decide) (fun c_90 => ?_) (fun c_90 => absurd c_90 (by decide))
          have hl : st_lf n 2 p := Or.inl ⟨j3, hj3, hx3⟩
          have hr : st_rf n 2 q := fun _ => ⟨j4, hj4, hx4⟩
          obtain ⟨ja, hja, ex⟩ : st_in n p := hl.resolve_right (by decide)
          subst ex
          have lja := (hW.2.1 ja hja).2.2.1
          obtain ⟨jb, hjb, ey⟩ : st_in n q := hr rfl
          subst ey
          have ljb := (hW.2.1 jb hjb).2.2.1
          have hlev : st_lev lv 2 (nI ja) (nI jb) = max (lv ja) (lv jb) + 1 := by
            unfold st_lev st_l
            rw [nI_clamp (by omega : ja < 2 ^ 31)]
            rw [nI_clamp (by omega : jb < 2 ^ 31)]
            rfl
          refine mg_aload_n 96 rfl rfl rfl ?_
          refine mg_iload_n 97 rfl rfl rfl ?_
          refine mg_callV1 100 rfl (Nat.le_of_ble_eq_true rfl) pg_Mo_namesA rfl rfl ?_
          refine sm_namesA_2 (by omega) ?_
          show mm_Rn _ _ _ _ _ _ 100 [(0, _), (1, _), (2, _), (3, _)] [_] _
          refine mg_if_eq 103 112 rfl rfl (by decide) (fun c_100 => absurd c_100 (by decide)) (fun c_100 => ?_)
          refine mg_aload_n 104 rfl rfl rfl ?_
          refine mg_getR 107 rfl rfl rfl rfl ?_
          refine mg_iload_n 108 rfl rfl rfl ?_
          refine mg_iald (v := nI (lv ja)) 109 rfl rfl (vp_in_nI (by omega : ja < 60) (by omega)) (by rw [nI_clamp (by omega)]; exact (hG.2.1 ja hja).2.2.2) rfl ?_
          refine mg_goto 113 rfl (by decide) ?_
          refine mg_istore (L2 := [(0, _), (1, _), (2, _), (3, _), (4, _)]) 115 rfl (by decide) rfl rfl ?_
          refine mg_aload_n 116 rfl rfl rfl ?_
          refine mg_iload_n 117 rfl rfl rfl ?_
          refine mg_callV1 120 rfl (Nat.le_of_ble_eq_true rfl) pg_Mo_namesB rfl rfl ?_
          refine sm_namesB_2 (by omega) ?_
          show mm_Rn _ _ _ _ _ _ 120 [(0, _), (1, _), (2, _), (3, _), (4, _)] [_] _
          refine mg_if_eq 123 142 rfl rfl (by decide) (fun c_120 => absurd c_120 (by decide)) (fun c_120 => ?_)
          refine mg_aload_n 124 rfl rfl rfl ?_
          refine mg_getR 127 rfl rfl rfl rfl ?_
          refine mg_iload_n 128 rfl rfl rfl ?_
          refine mg_iald (v := nI (lv jb)) 129 rfl rfl (vp_in_nI (by omega : jb < 60) (by omega)) (by rw [nI_clamp (by omega)]; exact (hG.2.1 jb hjb).2.2.2) rfl ?_
          refine mg_iload 131 rfl rfl rfl ?_
          refine mg_ic_le 134 142 rfl rfl (by decide) (fun c_131 => ?_) (fun c_131 => ?_)
          · refine mg_iload 144 rfl rfl rfl ?_
            refine mg_bipush (v := 6) 146 rfl (by decide) rfl ?_
            refine mg_ic_ne 149 151 rfl rfl (by decide) (fun c_146 => ?_) (fun c_146 => ?_)
            · have h6 : max (lv ja) (lv jb) + 1 ≤ 6 := by
                first
                | (have e1 := (st_le (a := lv jb) (nI (lv ja)) (lv ja) rfl (by omega) (by omega)).mp c_131; have e6 : lv ja ≠ 6 := fun h => c_146 (by rw [h]; rfl); omega)
                | (have e6 : lv jb ≠ 6 := fun h => c_146 (by rw [h]; rfl); have e1 : ¬ lv jb ≤ lv ja := fun h => c_131 ((st_le (a := lv jb) (nI (lv ja)) (lv ja) rfl (by omega) (by omega)).mpr h); omega)
              refine mg_aload_n 152 rfl rfl rfl ?_
              refine mg_getI (v := nI n) 155 rfl rfl (Or.inl rfl) hsz rfl ?_
              refine mg_bipush (v := 60) 157 rfl (by decide) rfl ?_
              refine mg_ic_ne 160 163 rfl rfl (by decide) (fun c_157 => ?_) (fun c_157 => ?_)
              · have hn60 : n < 60 := by
                  have := st_ne 60 c_157 rfl (by omega) (by omega)
                  omega
                refine mg_aload_n 164 rfl rfl rfl ?_
                refine mg_getR 167 rfl rfl rfl rfl ?_
                refine mg_aload_n 168 rfl rfl rfl ?_
                refine mg_getI (v := nI n) 171 rfl rfl (Or.inl rfl) hsz rfl ?_
                refine mg_iload_n 172 rfl rfl rfl ?_
                refine mg_iast (j := n) 173 rfl rfl (vp_in_nI (by omega : n < 60) (by omega)) (nI_clamp (by omega)) rfl ?_
                refine mg_aload_n 174 rfl rfl rfl ?_
                refine mg_getR 177 rfl rfl rfl rfl ?_
                refine mg_aload_n 178 rfl rfl rfl ?_
                refine mg_getI (v := nI n) 181 rfl rfl (Or.inl rfl) hsz rfl ?_
                refine mg_iload_n 182 rfl rfl rfl ?_
                refine mg_iast (j := n) 183 rfl rfl (vp_in_nI (by omega : n < 60) (by omega)) (nI_clamp (by omega)) rfl ?_
                refine mg_aload_n 184 rfl rfl rfl ?_
                refine mg_getR 187 rfl rfl rfl rfl ?_
                refine mg_aload_n 188 rfl rfl rfl ?_
                refine mg_getI (v := nI n) 191 rfl rfl (Or.inl rfl) hsz rfl ?_
                refine mg_iload_n 192 rfl rfl rfl ?_
                refine mg_iast (j := n) 193 rfl rfl (vp_in_nI (by omega : n < 60) (by omega)) (nI_clamp (by omega)) rfl ?_
                refine mg_aload_n 194 rfl rfl rfl ?_
                refine mg_getR 197 rfl rfl rfl rfl ?_
                refine mg_aload_n 198 rfl rfl rfl ?_
                refine mg_getI (v := nI n) 201 rfl rfl (Or.inl rfl) hsz rfl ?_
                refine mg_iload 203 rfl rfl rfl ?_
                refine mg_iconst (v := 1) 204 rfl (by decide) rfl ?_
                refine mg_iadd (v := nI (max (lv ja) (lv jb) + 1)) 205 rfl (by first | (have e1 := (st_le (a := lv jb) (nI (lv ja)) (lv ja) rfl (by omega) (by omega)).mp c_131; rw [Nat.max_eq_left e1]; exact nI_1 _) | (have e1 : ¬ lv jb ≤ lv ja := fun h => c_131 ((st_le (a := lv jb) (nI (lv ja)) (lv ja) rfl (by omega) (by omega)).mpr h); rw [Nat.max_eq_right (by omega)]; exact nI_1 _)) rfl ?_
                refine mg_iast (j := n) 206 rfl rfl (vp_in_nI (by omega : n < 60) (by omega)) (nI_clamp (by omega)) rfl ?_
                refine mg_aload_n 207 rfl rfl rfl ?_
                refine mg_dup 208 rfl rfl ?_
                refine mg_getI (v := nI n) 211 rfl rfl (Or.inl rfl) hsz rfl ?_
                refine mg_iconst (v := 1) 212 rfl (by decide) rfl ?_
                refine mg_iadd (v := nI (n + 1)) 213 rfl (nI_1 n) rfl ?_
                refine mg_putI 216 rfl rfl rfl rfl ?_
                refine mg_aload_n 217 rfl rfl rfl ?_
                refine mg_getI (v := nI (n + 1)) 220 rfl rfl (Or.inl rfl) rfl rfl ?_
                refine mg_iconst (v := 1) 221 rfl (by decide) rfl ?_
                refine mg_isub (v := nI n) 222 rfl (nI_pred n) rfl ?_
                refine mg_iret rfl rfl ?_
                have := kN 2 _ (by omega) rfl (Or.inl ⟨ja, hja, rfl⟩) (fun _ => ⟨jb, hjb, rfl⟩) hlev.symm (by omega) hn60
                exact this
              · refine mg_bipush (v := (-2)) 162 rfl (by decide) rfl ?_
                refine mg_iret rfl rfl ?_
                exact kF ⟨2, by omega, rfl, Or.inl ⟨ja, hja, rfl⟩, (fun _ => ⟨jb, hjb, rfl⟩), by omega⟩ ((st_eq 60 60 rfl (by omega) (by omega)).mp c_157)
            · refine mg_iconst (v := (-1)) 150 rfl (by decide) rfl ?_
              refine mg_iret rfl rfl ?_
              refine kR (fun h => ?_)
              have h6 := (st_ok_k (by omega) h).2.2
              rw [hlev] at h6
              first | exact absurd c_146 (by decide) | (have e6 := (st_eq (a := lv jb) 6 6 rfl (by omega) (by omega)).mp c_146; omega) | (have e6 := (st_eq (a := lv ja) 6 6 rfl (by omega) (by omega)).mp c_146; omega)
          · refine mg_aload_n 135 rfl rfl rfl ?_
            refine mg_getR 138 rfl rfl rfl rfl ?_
            refine mg_iload_n 139 rfl rfl rfl ?_
            refine mg_iald (v := nI (lv jb)) 140 rfl rfl (vp_in_nI (by omega : jb < 60) (by omega)) (by rw [nI_clamp (by omega)]; exact (hG.2.1 jb hjb).2.2.2) rfl ?_
            refine mg_istore (L2 := [(0, _), (1, _), (2, _), (3, _), (4, _)]) 142 rfl (by decide) rfl rfl ?_
            refine mg_iload 144 rfl rfl rfl ?_
            refine mg_bipush (v := 6) 146 rfl (by decide) rfl ?_
            refine mg_ic_ne 149 151 rfl rfl (by decide) (fun c_146 => ?_) (fun c_146 => ?_)
            · have h6 : max (lv ja) (lv jb) + 1 ≤ 6 := by
                first
                | (have e1 := (st_le (a := lv jb) (nI (lv ja)) (lv ja) rfl (by omega) (by omega)).mp c_131; have e6 : lv ja ≠ 6 := fun h => c_146 (by rw [h]; rfl); omega)
                | (have e6 : lv jb ≠ 6 := fun h => c_146 (by rw [h]; rfl); have e1 : ¬ lv jb ≤ lv ja := fun h => c_131 ((st_le (a := lv jb) (nI (lv ja)) (lv ja) rfl (by omega) (by omega)).mpr h); omega)
              refine mg_aload_n 152 rfl rfl rfl ?_
              refine mg_getI (v := nI n) 155 rfl rfl (Or.inl rfl) hsz rfl ?_
              refine mg_bipush (v := 60) 157 rfl (by decide) rfl ?_
              refine mg_ic_ne 160 163 rfl rfl (by decide) (fun c_157 => ?_) (fun c_157 => ?_)
              · have hn60 : n < 60 := by
                  have := st_ne 60 c_157 rfl (by omega) (by omega)
                  omega
                refine mg_aload_n 164 rfl rfl rfl ?_
                refine mg_getR 167 rfl rfl rfl rfl ?_
                refine mg_aload_n 168 rfl rfl rfl ?_
                refine mg_getI (v := nI n) 171 rfl rfl (Or.inl rfl) hsz rfl ?_
                refine mg_iload_n 172 rfl rfl rfl ?_
                refine mg_iast (j := n) 173 rfl rfl (vp_in_nI (by omega : n < 60) (by omega)) (nI_clamp (by omega)) rfl ?_
                refine mg_aload_n 174 rfl rfl rfl ?_
                refine mg_getR 177 rfl rfl rfl rfl ?_
                refine mg_aload_n 178 rfl rfl rfl ?_
                refine mg_getI (v := nI n) 181 rfl rfl (Or.inl rfl) hsz rfl ?_
                refine mg_iload_n 182 rfl rfl rfl ?_
                refine mg_iast (j := n) 183 rfl rfl (vp_in_nI (by omega : n < 60) (by omega)) (nI_clamp (by omega)) rfl ?_
                refine mg_aload_n 184 rfl rfl rfl ?_
                refine mg_getR 187 rfl rfl rfl rfl ?_
                refine mg_aload_n 188 rfl rfl rfl ?_
                refine mg_getI (v := nI n) 191 rfl rfl (Or.inl rfl) hsz rfl ?_
                refine mg_iload_n 192 rfl rfl rfl ?_
                refine mg_iast (j := n) 193 rfl rfl (vp_in_nI (by omega : n < 60) (by omega)) (nI_clamp (by omega)) rfl ?_
                refine mg_aload_n 194 rfl rfl rfl ?_
                refine mg_getR 197 rfl rfl rfl rfl ?_
                refine mg_aload_n 198 rfl rfl rfl ?_
                refine mg_getI (v := nI n) 201 rfl rfl (Or.inl rfl) hsz rfl ?_
                refine mg_iload 203 rfl rfl rfl ?_
                refine mg_iconst (v := 1) 204 rfl (by decide) rfl ?_
                refine mg_iadd (v := nI (max (lv ja) (lv jb) + 1)) 205 rfl (by first | (have e1 := (st_le (a := lv jb) (nI (lv ja)) (lv ja) rfl (by omega) (by omega)).mp c_131; rw [Nat.max_eq_left e1]; exact nI_1 _) | (have e1 : ¬ lv jb ≤ lv ja := fun h => c_131 ((st_le (a := lv jb) (nI (lv ja)) (lv ja) rfl (by omega) (by omega)).mpr h); rw [Nat.max_eq_right (by omega)]; exact nI_1 _)) rfl ?_
                refine mg_iast (j := n) 206 rfl rfl (vp_in_nI (by omega : n < 60) (by omega)) (nI_clamp (by omega)) rfl ?_
                refine mg_aload_n 207 rfl rfl rfl ?_
                refine mg_dup 208 rfl rfl ?_
                refine mg_getI (v := nI n) 211 rfl rfl (Or.inl rfl) hsz rfl ?_
                refine mg_iconst (v := 1) 212 rfl (by decide) rfl ?_
                refine mg_iadd (v := nI (n + 1)) 213 rfl (nI_1 n) rfl ?_
                refine mg_putI 216 rfl rfl rfl rfl ?_
                refine mg_aload_n 217 rfl rfl rfl ?_
                refine mg_getI (v := nI (n + 1)) 220 rfl rfl (Or.inl rfl) rfl rfl ?_
                refine mg_iconst (v := 1) 221 rfl (by decide) rfl ?_
                refine mg_isub (v := nI n) 222 rfl (nI_pred n) rfl ?_
                refine mg_iret rfl rfl ?_
                have := kN 2 _ (by omega) rfl (Or.inl ⟨ja, hja, rfl⟩) (fun _ => ⟨jb, hjb, rfl⟩) hlev.symm (by omega) hn60
                exact this
              · refine mg_bipush (v := (-2)) 162 rfl (by decide) rfl ?_
                refine mg_iret rfl rfl ?_
                exact kF ⟨2, by omega, rfl, Or.inl ⟨ja, hja, rfl⟩, (fun _ => ⟨jb, hjb, rfl⟩), by omega⟩ ((st_eq 60 60 rfl (by omega) (by omega)).mp c_157)
            · refine mg_iconst (v := (-1)) 150 rfl (by decide) rfl ?_
              refine mg_iret rfl rfl ?_
              refine kR (fun h => ?_)
              have h6 := (st_ok_k (by omega) h).2.2
              rw [hlev] at h6
              first | exact absurd c_146 (by decide) | (have e6 := (st_eq (a := lv jb) 6 6 rfl (by omega) (by omega)).mp c_146; omega) | (have e6 := (st_eq (a := lv ja) 6 6 rfl (by omega) (by omega)).mp c_146; omega)
    · refine mg_iload_n 12 rfl rfl rfl ?_
      refine mg_if_ne 15 26 rfl rfl (by decide) (fun c_12 => ?_) (fun c_12 => absurd c_12 (by decide))
      refine mg_iload_n 27 rfl rfl rfl ?_
      refine mg_iconst (v := 1) 28 rfl (by decide) rfl ?_
      refine mg_ic_ne 31 42 rfl rfl (by decide) (fun c_28 => ?_) (fun c_28 => absurd c_28 (by decide))
      refine mg_iload_n 43 rfl rfl rfl ?_
      refine mg_bipush (v := 8) 45 rfl (by decide) rfl ?_
      refine mg_ic_ne 48 61 rfl rfl (by decide) (fun c_45 => ?_) (fun c_45 => absurd c_45 (by decide))
      refine mg_aload_n 62 rfl rfl rfl ?_
      refine mg_iload_n 63 rfl rfl rfl ?_
      refine mg_callV1 66 rfl (Nat.le_of_ble_eq_true rfl) pg_Mo_namesA rfl rfl ?_
      refine sm_namesA_3 (by omega) ?_
      show mm_Rn _ _ _ _ _ _ 66 [(0, _), (1, _), (2, _), (3, _)] [_] _
      refine mg_if_eq 69 77 rfl rfl (by decide) (fun c_66 => absurd c_66 (by decide)) (fun c_66 => ?_)
      refine mg_aload_n 70 rfl rfl rfl ?_
      refine mg_iload_n 71 rfl rfl rfl ?_
      refine mg_callV1 74 rfl (Nat.le_of_ble_eq_true rfl) pg_Mo_no rfl rfl ?_
      refine sm_no hsz hn (by omega) (fun hno => ?_) (fun j3 hj3 hx3 => ?_)
      · show mm_Rn _ _ _ _ _ _ 74 [(0, _), (1, _), (2, _), (3, _)] [_] _
        refine mg_if_ne 77 93 rfl rfl (by decide) (fun c_74 => ?_) (fun c_74 => absurd c_74 (by decide))
        refine mg_iconst (v := (-1)) 94 rfl (by decide) rfl ?_
        refine mg_iret rfl rfl ?_
        first | exact kR (fun h => hno ((st_ok_k (by omega) h).1.resolve_right (by decide))) | exact kR (fun h => hno ((st_ok_k (by omega) h).2.1 rfl))
      · show mm_Rn _ _ _ _ _ _ 74 [(0, _), (1, _), (2, _), (3, _)] [_] _
        refine mg_if_ne 77 93 rfl rfl (by decide) (fun c_74 => absurd c_74 (by decide)) (fun c_74 => ?_)
        refine mg_aload_n 78 rfl rfl rfl ?_
        refine mg_iload_n 79 rfl rfl rfl ?_
        refine mg_callV1 82 rfl (Nat.le_of_ble_eq_true rfl) pg_Mo_namesB rfl rfl ?_
        refine sm_namesB_3 (by omega) ?_
        show mm_Rn _ _ _ _ _ _ 82 [(0, _), (1, _), (2, _), (3, _)] [_] _
        refine mg_if_eq 85 95 rfl rfl (by decide) (fun c_82 => absurd c_82 (by decide)) (fun c_82 => ?_)
        refine mg_aload_n 86 rfl rfl rfl ?_
        refine mg_iload_n 87 rfl rfl rfl ?_
        refine mg_callV1 90 rfl (Nat.le_of_ble_eq_true rfl) pg_Mo_no rfl rfl ?_
        refine sm_no hsz hn (by omega) (fun hno => ?_) (fun j4 hj4 hx4 => ?_)
        · show mm_Rn _ _ _ _ _ _ 90 [(0, _), (1, _), (2, _), (3, _)] [_] _
          refine mg_if_eq 93 95 rfl rfl (by decide) (fun c_90 => absurd c_90 (by decide)) (fun c_90 => ?_)
          refine mg_iconst (v := (-1)) 94 rfl (by decide) rfl ?_
          refine mg_iret rfl rfl ?_
          first | exact kR (fun h => hno ((st_ok_k (by omega) h).1.resolve_right (by decide))) | exact kR (fun h => hno ((st_ok_k (by omega) h).2.1 rfl))
        · show mm_Rn _ _ _ _ _ _ 90 [(0, _), (1, _), (2, _), (3, _)] [_] _
          refine mg_if_eq 93 95 rfl rfl (by decide) (fun c_90 => ?_) (fun c_90 => absurd c_90 (by decide))
          have hl : st_lf n 3 p := Or.inl ⟨j3, hj3, hx3⟩
          have hr : st_rf n 3 q := fun _ => ⟨j4, hj4, hx4⟩
          obtain ⟨ja, hja, ex⟩ : st_in n p := hl.resolve_right (by decide)
          subst ex
          have lja := (hW.2.1 ja hja).2.2.1
          obtain ⟨jb, hjb, ey⟩ : st_in n q := hr rfl
          subst ey
          have ljb := (hW.2.1 jb hjb).2.2.1
          have hlev : st_lev lv 3 (nI ja) (nI jb) = max (lv ja) (lv jb) + 1 := by
            unfold st_lev st_l
            rw [nI_clamp (by omega : ja < 2 ^ 31)]
            rw [nI_clamp (by omega : jb < 2 ^ 31)]
            rfl
          refine mg_aload_n 96 rfl rfl rfl ?_
          refine mg_iload_n 97 rfl rfl rfl ?_
          refine mg_callV1 100 rfl (Nat.le_of_ble_eq_true rfl) pg_Mo_namesA rfl rfl ?_
          refine sm_namesA_3 (by omega) ?_
          show mm_Rn _ _ _ _ _ _ 100 [(0, _), (1, _), (2, _), (3, _)] [_] _
          refine mg_if_eq 103 112 rfl rfl (by decide) (fun c_100 => absurd c_100 (by decide)) (fun c_100 => ?_)
          refine mg_aload_n 104 rfl rfl rfl ?_
          refine mg_getR 107 rfl rfl rfl rfl ?_
          refine mg_iload_n 108 rfl rfl rfl ?_
          refine mg_iald (v := nI (lv ja)) 109 rfl rfl (vp_in_nI (by omega : ja < 60) (by omega)) (by rw [nI_clamp (by omega)]; exact (hG.2.1 ja hja).2.2.2) rfl ?_
          refine mg_goto 113 rfl (by decide) ?_
          refine mg_istore (L2 := [(0, _), (1, _), (2, _), (3, _), (4, _)]) 115 rfl (by decide) rfl rfl ?_
          refine mg_aload_n 116 rfl rfl rfl ?_
          refine mg_iload_n 117 rfl rfl rfl ?_
          refine mg_callV1 120 rfl (Nat.le_of_ble_eq_true rfl) pg_Mo_namesB rfl rfl ?_
          refine sm_namesB_3 (by omega) ?_
          show mm_Rn _ _ _ _ _ _ 120 [(0, _), (1, _), (2, _), (3, _), (4, _)] [_] _
          refine mg_if_eq 123 142 rfl rfl (by decide) (fun c_120 => absurd c_120 (by decide)) (fun c_120 => ?_)
          refine mg_aload_n 124 rfl rfl rfl ?_
          refine mg_getR 127 rfl rfl rfl rfl ?_
          refine mg_iload_n 128 rfl rfl rfl ?_
          refine mg_iald (v := nI (lv jb)) 129 rfl rfl (vp_in_nI (by omega : jb < 60) (by omega)) (by rw [nI_clamp (by omega)]; exact (hG.2.1 jb hjb).2.2.2) rfl ?_
          refine mg_iload 131 rfl rfl rfl ?_
          refine mg_ic_le 134 142 rfl rfl (by decide) (fun c_131 => ?_) (fun c_131 => ?_)
          · refine mg_iload 144 rfl rfl rfl ?_
            refine mg_bipush (v := 6) 146 rfl (by decide) rfl ?_
            refine mg_ic_ne 149 151 rfl rfl (by decide) (fun c_146 => ?_) (fun c_146 => ?_)
            · have h6 : max (lv ja) (lv jb) + 1 ≤ 6 := by
                first
                | (have e1 := (st_le (a := lv jb) (nI (lv ja)) (lv ja) rfl (by omega) (by omega)).mp c_131; have e6 : lv ja ≠ 6 := fun h => c_146 (by rw [h]; rfl); omega)
                | (have e6 : lv jb ≠ 6 := fun h => c_146 (by rw [h]; rfl); have e1 : ¬ lv jb ≤ lv ja := fun h => c_131 ((st_le (a := lv jb) (nI (lv ja)) (lv ja) rfl (by omega) (by omega)).mpr h); omega)
              refine mg_aload_n 152 rfl rfl rfl ?_
              refine mg_getI (v := nI n) 155 rfl rfl (Or.inl rfl) hsz rfl ?_
              refine mg_bipush (v := 60) 157 rfl (by decide) rfl ?_
              refine mg_ic_ne 160 163 rfl rfl (by decide) (fun c_157 => ?_) (fun c_157 => ?_)
              · have hn60 : n < 60 := by
                  have := st_ne 60 c_157 rfl (by omega) (by omega)
                  omega
                refine mg_aload_n 164 rfl rfl rfl ?_
                refine mg_getR 167 rfl rfl rfl rfl ?_
                refine mg_aload_n 168 rfl rfl rfl ?_
                refine mg_getI (v := nI n) 171 rfl rfl (Or.inl rfl) hsz rfl ?_
                refine mg_iload_n 172 rfl rfl rfl ?_
                refine mg_iast (j := n) 173 rfl rfl (vp_in_nI (by omega : n < 60) (by omega)) (nI_clamp (by omega)) rfl ?_
                refine mg_aload_n 174 rfl rfl rfl ?_
                refine mg_getR 177 rfl rfl rfl rfl ?_
                refine mg_aload_n 178 rfl rfl rfl ?_
                refine mg_getI (v := nI n) 181 rfl rfl (Or.inl rfl) hsz rfl ?_
                refine mg_iload_n 182 rfl rfl rfl ?_
                refine mg_iast (j := n) 183 rfl rfl (vp_in_nI (by omega : n < 60) (by omega)) (nI_clamp (by omega)) rfl ?_
                refine mg_aload_n 184 rfl rfl rfl ?_
                refine mg_getR 187 rfl rfl rfl rfl ?_
                refine mg_aload_n 188 rfl rfl rfl ?_
                refine mg_getI (v := nI n) 191 rfl rfl (Or.inl rfl) hsz rfl ?_
                refine mg_iload_n 192 rfl rfl rfl ?_
                refine mg_iast (j := n) 193 rfl rfl (vp_in_nI (by omega : n < 60) (by omega)) (nI_clamp (by omega)) rfl ?_
                refine mg_aload_n 194 rfl rfl rfl ?_
                refine mg_getR 197 rfl rfl rfl rfl ?_
                refine mg_aload_n 198 rfl rfl rfl ?_
                refine mg_getI (v := nI n) 201 rfl rfl (Or.inl rfl) hsz rfl ?_
                refine mg_iload 203 rfl rfl rfl ?_
                refine mg_iconst (v := 1) 204 rfl (by decide) rfl ?_
                refine mg_iadd (v := nI (max (lv ja) (lv jb) + 1)) 205 rfl (by first | (have e1 := (st_le (a := lv jb) (nI (lv ja)) (lv ja) rfl (by omega) (by omega)).mp c_131; rw [Nat.max_eq_left e1]; exact nI_1 _) | (have e1 : ¬ lv jb ≤ lv ja := fun h => c_131 ((st_le (a := lv jb) (nI (lv ja)) (lv ja) rfl (by omega) (by omega)).mpr h); rw [Nat.max_eq_right (by omega)]; exact nI_1 _)) rfl ?_
                refine mg_iast (j := n) 206 rfl rfl (vp_in_nI (by omega : n < 60) (by omega)) (nI_clamp (by omega)) rfl ?_
                refine mg_aload_n 207 rfl rfl rfl ?_
                refine mg_dup 208 rfl rfl ?_
                refine mg_getI (v := nI n) 211 rfl rfl (Or.inl rfl) hsz rfl ?_
                refine mg_iconst (v := 1) 212 rfl (by decide) rfl ?_
                refine mg_iadd (v := nI (n + 1)) 213 rfl (nI_1 n) rfl ?_
                refine mg_putI 216 rfl rfl rfl rfl ?_
                refine mg_aload_n 217 rfl rfl rfl ?_
                refine mg_getI (v := nI (n + 1)) 220 rfl rfl (Or.inl rfl) rfl rfl ?_
                refine mg_iconst (v := 1) 221 rfl (by decide) rfl ?_
                refine mg_isub (v := nI n) 222 rfl (nI_pred n) rfl ?_
                refine mg_iret rfl rfl ?_
                have := kN 3 _ (by omega) rfl (Or.inl ⟨ja, hja, rfl⟩) (fun _ => ⟨jb, hjb, rfl⟩) hlev.symm (by omega) hn60
                exact this
              · refine mg_bipush (v := (-2)) 162 rfl (by decide) rfl ?_
                refine mg_iret rfl rfl ?_
                exact kF ⟨3, by omega, rfl, Or.inl ⟨ja, hja, rfl⟩, (fun _ => ⟨jb, hjb, rfl⟩), by omega⟩ ((st_eq 60 60 rfl (by omega) (by omega)).mp c_157)
            · refine mg_iconst (v := (-1)) 150 rfl (by decide) rfl ?_
              refine mg_iret rfl rfl ?_
              refine kR (fun h => ?_)
              have h6 := (st_ok_k (by omega) h).2.2
              rw [hlev] at h6
              first | exact absurd c_146 (by decide) | (have e6 := (st_eq (a := lv jb) 6 6 rfl (by omega) (by omega)).mp c_146; omega) | (have e6 := (st_eq (a := lv ja) 6 6 rfl (by omega) (by omega)).mp c_146; omega)
          · refine mg_aload_n 135 rfl rfl rfl ?_
            refine mg_getR 138 rfl rfl rfl rfl ?_
            refine mg_iload_n 139 rfl rfl rfl ?_
            refine mg_iald (v := nI (lv jb)) 140 rfl rfl (vp_in_nI (by omega : jb < 60) (by omega)) (by rw [nI_clamp (by omega)]; exact (hG.2.1 jb hjb).2.2.2) rfl ?_
            refine mg_istore (L2 := [(0, _), (1, _), (2, _), (3, _), (4, _)]) 142 rfl (by decide) rfl rfl ?_
            refine mg_iload 144 rfl rfl rfl ?_
            refine mg_bipush (v := 6) 146 rfl (by decide) rfl ?_
            refine mg_ic_ne 149 151 rfl rfl (by decide) (fun c_146 => ?_) (fun c_146 => ?_)
            · have h6 : max (lv ja) (lv jb) + 1 ≤ 6 := by
                first
                | (have e1 := (st_le (a := lv jb) (nI (lv ja)) (lv ja) rfl (by omega) (by omega)).mp c_131; have e6 : lv ja ≠ 6 := fun h => c_146 (by rw [h]; rfl); omega)
                | (have e6 : lv jb ≠ 6 := fun h => c_146 (by rw [h]; rfl); have e1 : ¬ lv jb ≤ lv ja := fun h => c_131 ((st_le (a := lv jb) (nI (lv ja)) (lv ja) rfl (by omega) (by omega)).mpr h); omega)
              refine mg_aload_n 152 rfl rfl rfl ?_
              refine mg_getI (v := nI n) 155 rfl rfl (Or.inl rfl) hsz rfl ?_
              refine mg_bipush (v := 60) 157 rfl (by decide) rfl ?_
              refine mg_ic_ne 160 163 rfl rfl (by decide) (fun c_157 => ?_) (fun c_157 => ?_)
              · have hn60 : n < 60 := by
                  have := st_ne 60 c_157 rfl (by omega) (by omega)
                  omega
                refine mg_aload_n 164 rfl rfl rfl ?_
                refine mg_getR 167 rfl rfl rfl rfl ?_
                refine mg_aload_n 168 rfl rfl rfl ?_
                refine mg_getI (v := nI n) 171 rfl rfl (Or.inl rfl) hsz rfl ?_
                refine mg_iload_n 172 rfl rfl rfl ?_
                refine mg_iast (j := n) 173 rfl rfl (vp_in_nI (by omega : n < 60) (by omega)) (nI_clamp (by omega)) rfl ?_
                refine mg_aload_n 174 rfl rfl rfl ?_
                refine mg_getR 177 rfl rfl rfl rfl ?_
                refine mg_aload_n 178 rfl rfl rfl ?_
                refine mg_getI (v := nI n) 181 rfl rfl (Or.inl rfl) hsz rfl ?_
                refine mg_iload_n 182 rfl rfl rfl ?_
                refine mg_iast (j := n) 183 rfl rfl (vp_in_nI (by omega : n < 60) (by omega)) (nI_clamp (by omega)) rfl ?_
                refine mg_aload_n 184 rfl rfl rfl ?_
                refine mg_getR 187 rfl rfl rfl rfl ?_
                refine mg_aload_n 188 rfl rfl rfl ?_
                refine mg_getI (v := nI n) 191 rfl rfl (Or.inl rfl) hsz rfl ?_
                refine mg_iload_n 192 rfl rfl rfl ?_
                refine mg_iast (j := n) 193 rfl rfl (vp_in_nI (by omega : n < 60) (by omega)) (nI_clamp (by omega)) rfl ?_
                refine mg_aload_n 194 rfl rfl rfl ?_
                refine mg_getR 197 rfl rfl rfl rfl ?_
                refine mg_aload_n 198 rfl rfl rfl ?_
                refine mg_getI (v := nI n) 201 rfl rfl (Or.inl rfl) hsz rfl ?_
                refine mg_iload 203 rfl rfl rfl ?_
                refine mg_iconst (v := 1) 204 rfl (by decide) rfl ?_
                refine mg_iadd (v := nI (max (lv ja) (lv jb) + 1)) 205 rfl (by first | (have e1 := (st_le (a := lv jb) (nI (lv ja)) (lv ja) rfl (by omega) (by omega)).mp c_131; rw [Nat.max_eq_left e1]; exact nI_1 _) | (have e1 : ¬ lv jb ≤ lv ja := fun h => c_131 ((st_le (a := lv jb) (nI (lv ja)) (lv ja) rfl (by omega) (by omega)).mpr h); rw [Nat.max_eq_right (by omega)]; exact nI_1 _)) rfl ?_
                refine mg_iast (j := n) 206 rfl rfl (vp_in_nI (by omega : n < 60) (by omega)) (nI_clamp (by omega)) rfl ?_
                refine mg_aload_n 207 rfl rfl rfl ?_
                refine mg_dup 208 rfl rfl ?_
                refine mg_getI (v := nI n) 211 rfl rfl (Or.inl rfl) hsz rfl ?_
                refine mg_iconst (v := 1) 212 rfl (by decide) rfl ?_
                refine mg_iadd (v := nI (n + 1)) 213 rfl (nI_1 n) rfl ?_
                refine mg_putI 216 rfl rfl rfl rfl ?_
                refine mg_aload_n 217 rfl rfl rfl ?_
                refine mg_getI (v := nI (n + 1)) 220 rfl rfl (Or.inl rfl) rfl rfl ?_
                refine mg_iconst (v := 1) 221 rfl (by decide) rfl ?_
                refine mg_isub (v := nI n) 222 rfl (nI_pred n) rfl ?_
                refine mg_iret rfl rfl ?_
                have := kN 3 _ (by omega) rfl (Or.inl ⟨ja, hja, rfl⟩) (fun _ => ⟨jb, hjb, rfl⟩) hlev.symm (by omega) hn60
                exact this
              · refine mg_bipush (v := (-2)) 162 rfl (by decide) rfl ?_
                refine mg_iret rfl rfl ?_
                exact kF ⟨3, by omega, rfl, Or.inl ⟨ja, hja, rfl⟩, (fun _ => ⟨jb, hjb, rfl⟩), by omega⟩ ((st_eq 60 60 rfl (by omega) (by omega)).mp c_157)
            · refine mg_iconst (v := (-1)) 150 rfl (by decide) rfl ?_
              refine mg_iret rfl rfl ?_
              refine kR (fun h => ?_)
              have h6 := (st_ok_k (by omega) h).2.2
              rw [hlev] at h6
              first | exact absurd c_146 (by decide) | (have e6 := (st_eq (a := lv jb) 6 6 rfl (by omega) (by omega)).mp c_146; omega) | (have e6 := (st_eq (a := lv ja) 6 6 rfl (by omega) (by omega)).mp c_146; omega)
    · refine mg_iload_n 12 rfl rfl rfl ?_
      refine mg_if_ne 15 26 rfl rfl (by decide) (fun c_12 => ?_) (fun c_12 => absurd c_12 (by decide))
      refine mg_iload_n 27 rfl rfl rfl ?_
      refine mg_iconst (v := 1) 28 rfl (by decide) rfl ?_
      refine mg_ic_ne 31 42 rfl rfl (by decide) (fun c_28 => ?_) (fun c_28 => absurd c_28 (by decide))
      refine mg_iload_n 43 rfl rfl rfl ?_
      refine mg_bipush (v := 8) 45 rfl (by decide) rfl ?_
      refine mg_ic_ne 48 61 rfl rfl (by decide) (fun c_45 => ?_) (fun c_45 => absurd c_45 (by decide))
      refine mg_aload_n 62 rfl rfl rfl ?_
      refine mg_iload_n 63 rfl rfl rfl ?_
      refine mg_callV1 66 rfl (Nat.le_of_ble_eq_true rfl) pg_Mo_namesA rfl rfl ?_
      refine sm_namesA_4 (by omega) ?_
      show mm_Rn _ _ _ _ _ _ 66 [(0, _), (1, _), (2, _), (3, _)] [_] _
      refine mg_if_eq 69 77 rfl rfl (by decide) (fun c_66 => absurd c_66 (by decide)) (fun c_66 => ?_)
      refine mg_aload_n 70 rfl rfl rfl ?_
      refine mg_iload_n 71 rfl rfl rfl ?_
      refine mg_callV1 74 rfl (Nat.le_of_ble_eq_true rfl) pg_Mo_no rfl rfl ?_
      refine sm_no hsz hn (by omega) (fun hno => ?_) (fun j3 hj3 hx3 => ?_)
      · show mm_Rn _ _ _ _ _ _ 74 [(0, _), (1, _), (2, _), (3, _)] [_] _
        refine mg_if_ne 77 93 rfl rfl (by decide) (fun c_74 => ?_) (fun c_74 => absurd c_74 (by decide))
        refine mg_iconst (v := (-1)) 94 rfl (by decide) rfl ?_
        refine mg_iret rfl rfl ?_
        exact kR (fun h => hno ((st_ok_k (by omega) h).1.resolve_right (by decide)))
      · show mm_Rn _ _ _ _ _ _ 74 [(0, _), (1, _), (2, _), (3, _)] [_] _
        refine mg_if_ne 77 93 rfl rfl (by decide) (fun c_74 => absurd c_74 (by decide)) (fun c_74 => ?_)
        refine mg_aload_n 78 rfl rfl rfl ?_
        refine mg_iload_n 79 rfl rfl rfl ?_
        refine mg_callV1 82 rfl (Nat.le_of_ble_eq_true rfl) pg_Mo_namesB rfl rfl ?_
        refine sm_namesB_4 (by omega) ?_
        show mm_Rn _ _ _ _ _ _ 82 [(0, _), (1, _), (2, _), (3, _)] [_] _
        refine mg_if_eq 85 95 rfl rfl (by decide) (fun c_82 => ?_) (fun c_82 => absurd c_82 (by decide))
        have hl : st_lf n 4 p := Or.inl ⟨j3, hj3, hx3⟩
        have hr : st_rf n 4 q := fun h => absurd h (by decide)
        obtain ⟨ja, hja, ex⟩ : st_in n p := hl.resolve_right (by decide)
        subst ex
        have lja := (hW.2.1 ja hja).2.2.1
        have hlev : st_lev lv 4 (nI ja) q = max (lv ja) (0) + 1 := by
          unfold st_lev st_l
          rw [nI_clamp (by omega : ja < 2 ^ 31)]
          rfl
        refine mg_aload_n 96 rfl rfl rfl ?_
        refine mg_iload_n 97 rfl rfl rfl ?_
        refine mg_callV1 100 rfl (Nat.le_of_ble_eq_true rfl) pg_Mo_namesA rfl rfl ?_
        refine sm_namesA_4 (by omega) ?_
        show mm_Rn _ _ _ _ _ _ 100 [(0, _), (1, _), (2, _), (3, _)] [_] _
        refine mg_if_eq 103 112 rfl rfl (by decide) (fun c_100 => absurd c_100 (by decide)) (fun c_100 => ?_)
        refine mg_aload_n 104 rfl rfl rfl ?_
        refine mg_getR 107 rfl rfl rfl rfl ?_
        refine mg_iload_n 108 rfl rfl rfl ?_
        refine mg_iald (v := nI (lv ja)) 109 rfl rfl (vp_in_nI (by omega : ja < 60) (by omega)) (by rw [nI_clamp (by omega)]; exact (hG.2.1 ja hja).2.2.2) rfl ?_
        refine mg_goto 113 rfl (by decide) ?_
        refine mg_istore (L2 := [(0, _), (1, _), (2, _), (3, _), (4, _)]) 115 rfl (by decide) rfl rfl ?_
        refine mg_aload_n 116 rfl rfl rfl ?_
        refine mg_iload_n 117 rfl rfl rfl ?_
        refine mg_callV1 120 rfl (Nat.le_of_ble_eq_true rfl) pg_Mo_namesB rfl rfl ?_
        refine sm_namesB_4 (by omega) ?_
        show mm_Rn _ _ _ _ _ _ 120 [(0, _), (1, _), (2, _), (3, _), (4, _)] [_] _
        refine mg_if_eq 123 142 rfl rfl (by decide) (fun c_120 => ?_) (fun c_120 => absurd c_120 (by decide))
        refine mg_iload 144 rfl rfl rfl ?_
        refine mg_bipush (v := 6) 146 rfl (by decide) rfl ?_
        refine mg_ic_ne 149 151 rfl rfl (by decide) (fun c_146 => ?_) (fun c_146 => ?_)
        · have h6 : max (lv ja) 0 + 1 ≤ 6 := by
            have e6 : lv ja ≠ 6 := fun h => c_146 (by rw [h]; rfl)
            omega
          refine mg_aload_n 152 rfl rfl rfl ?_
          refine mg_getI (v := nI n) 155 rfl rfl (Or.inl rfl) hsz rfl ?_
          refine mg_bipush (v := 60) 157 rfl (by decide) rfl ?_
          refine mg_ic_ne 160 163 rfl rfl (by decide) (fun c_157 => ?_) (fun c_157 => ?_)
          · have hn60 : n < 60 := by
              have := st_ne 60 c_157 rfl (by omega) (by omega)
              omega
            refine mg_aload_n 164 rfl rfl rfl ?_
            refine mg_getR 167 rfl rfl rfl rfl ?_
            refine mg_aload_n 168 rfl rfl rfl ?_
            refine mg_getI (v := nI n) 171 rfl rfl (Or.inl rfl) hsz rfl ?_
            refine mg_iload_n 172 rfl rfl rfl ?_
            refine mg_iast (j := n) 173 rfl rfl (vp_in_nI (by omega : n < 60) (by omega)) (nI_clamp (by omega)) rfl ?_
            refine mg_aload_n 174 rfl rfl rfl ?_
            refine mg_getR 177 rfl rfl rfl rfl ?_
            refine mg_aload_n 178 rfl rfl rfl ?_
            refine mg_getI (v := nI n) 181 rfl rfl (Or.inl rfl) hsz rfl ?_
            refine mg_iload_n 182 rfl rfl rfl ?_
            refine mg_iast (j := n) 183 rfl rfl (vp_in_nI (by omega : n < 60) (by omega)) (nI_clamp (by omega)) rfl ?_
            refine mg_aload_n 184 rfl rfl rfl ?_
            refine mg_getR 187 rfl rfl rfl rfl ?_
            refine mg_aload_n 188 rfl rfl rfl ?_
            refine mg_getI (v := nI n) 191 rfl rfl (Or.inl rfl) hsz rfl ?_
            refine mg_iload_n 192 rfl rfl rfl ?_
            refine mg_iast (j := n) 193 rfl rfl (vp_in_nI (by omega : n < 60) (by omega)) (nI_clamp (by omega)) rfl ?_
            refine mg_aload_n 194 rfl rfl rfl ?_
            refine mg_getR 197 rfl rfl rfl rfl ?_
            refine mg_aload_n 198 rfl rfl rfl ?_
            refine mg_getI (v := nI n) 201 rfl rfl (Or.inl rfl) hsz rfl ?_
            refine mg_iload 203 rfl rfl rfl ?_
            refine mg_iconst (v := 1) 204 rfl (by decide) rfl ?_
            refine mg_iadd (v := nI (max (lv ja) 0 + 1)) 205 rfl (by rw [Nat.max_zero]; exact nI_1 _) rfl ?_
            refine mg_iast (j := n) 206 rfl rfl (vp_in_nI (by omega : n < 60) (by omega)) (nI_clamp (by omega)) rfl ?_
            refine mg_aload_n 207 rfl rfl rfl ?_
            refine mg_dup 208 rfl rfl ?_
            refine mg_getI (v := nI n) 211 rfl rfl (Or.inl rfl) hsz rfl ?_
            refine mg_iconst (v := 1) 212 rfl (by decide) rfl ?_
            refine mg_iadd (v := nI (n + 1)) 213 rfl (nI_1 n) rfl ?_
            refine mg_putI 216 rfl rfl rfl rfl ?_
            refine mg_aload_n 217 rfl rfl rfl ?_
            refine mg_getI (v := nI (n + 1)) 220 rfl rfl (Or.inl rfl) rfl rfl ?_
            refine mg_iconst (v := 1) 221 rfl (by decide) rfl ?_
            refine mg_isub (v := nI n) 222 rfl (nI_pred n) rfl ?_
            refine mg_iret rfl rfl ?_
            have := kN 4 _ (by omega) rfl (Or.inl ⟨ja, hja, rfl⟩) hr hlev.symm (by omega) hn60
            exact this
          · refine mg_bipush (v := (-2)) 162 rfl (by decide) rfl ?_
            refine mg_iret rfl rfl ?_
            exact kF ⟨4, by omega, rfl, Or.inl ⟨ja, hja, rfl⟩, hr, by omega⟩ ((st_eq 60 60 rfl (by omega) (by omega)).mp c_157)
        · refine mg_iconst (v := (-1)) 150 rfl (by decide) rfl ?_
          refine mg_iret rfl rfl ?_
          refine kR (fun h => ?_)
          have h6 := (st_ok_k (by omega) h).2.2
          rw [hlev] at h6
          first | exact absurd c_146 (by decide) | (have e6 := (st_eq (a := lv jb) 6 6 rfl (by omega) (by omega)).mp c_146; omega) | (have e6 := (st_eq (a := lv ja) 6 6 rfl (by omega) (by omega)).mp c_146; omega)
    · refine mg_iload_n 12 rfl rfl rfl ?_
      refine mg_if_ne 15 26 rfl rfl (by decide) (fun c_12 => ?_) (fun c_12 => absurd c_12 (by decide))
      refine mg_iload_n 27 rfl rfl rfl ?_
      refine mg_iconst (v := 1) 28 rfl (by decide) rfl ?_
      refine mg_ic_ne 31 42 rfl rfl (by decide) (fun c_28 => ?_) (fun c_28 => absurd c_28 (by decide))
      refine mg_iload_n 43 rfl rfl rfl ?_
      refine mg_bipush (v := 8) 45 rfl (by decide) rfl ?_
      refine mg_ic_ne 48 61 rfl rfl (by decide) (fun c_45 => ?_) (fun c_45 => absurd c_45 (by decide))
      refine mg_aload_n 62 rfl rfl rfl ?_
      refine mg_iload_n 63 rfl rfl rfl ?_
      refine mg_callV1 66 rfl (Nat.le_of_ble_eq_true rfl) pg_Mo_namesA rfl rfl ?_
      refine sm_namesA_5 (by omega) ?_
      show mm_Rn _ _ _ _ _ _ 66 [(0, _), (1, _), (2, _), (3, _)] [_] _
      refine mg_if_eq 69 77 rfl rfl (by decide) (fun c_66 => absurd c_66 (by decide)) (fun c_66 => ?_)
      refine mg_aload_n 70 rfl rfl rfl ?_
      refine mg_iload_n 71 rfl rfl rfl ?_
      refine mg_callV1 74 rfl (Nat.le_of_ble_eq_true rfl) pg_Mo_no rfl rfl ?_
      refine sm_no hsz hn (by omega) (fun hno => ?_) (fun j3 hj3 hx3 => ?_)
      · show mm_Rn _ _ _ _ _ _ 74 [(0, _), (1, _), (2, _), (3, _)] [_] _
        refine mg_if_ne 77 93 rfl rfl (by decide) (fun c_74 => ?_) (fun c_74 => absurd c_74 (by decide))
        refine mg_iconst (v := (-1)) 94 rfl (by decide) rfl ?_
        refine mg_iret rfl rfl ?_
        exact kR (fun h => hno ((st_ok_k (by omega) h).1.resolve_right (by decide)))
      · show mm_Rn _ _ _ _ _ _ 74 [(0, _), (1, _), (2, _), (3, _)] [_] _
        refine mg_if_ne 77 93 rfl rfl (by decide) (fun c_74 => absurd c_74 (by decide)) (fun c_74 => ?_)
        refine mg_aload_n 78 rfl rfl rfl ?_
        refine mg_iload_n 79 rfl rfl rfl ?_
        refine mg_callV1 82 rfl (Nat.le_of_ble_eq_true rfl) pg_Mo_namesB rfl rfl ?_
        refine sm_namesB_5 (by omega) ?_
        show mm_Rn _ _ _ _ _ _ 82 [(0, _), (1, _), (2, _), (3, _)] [_] _
        refine mg_if_eq 85 95 rfl rfl (by decide) (fun c_82 => ?_) (fun c_82 => absurd c_82 (by decide))
        have hl : st_lf n 5 p := Or.inl ⟨j3, hj3, hx3⟩
        have hr : st_rf n 5 q := fun h => absurd h (by decide)
        obtain ⟨ja, hja, ex⟩ : st_in n p := hl.resolve_right (by decide)
        subst ex
        have lja := (hW.2.1 ja hja).2.2.1
        have hlev : st_lev lv 5 (nI ja) q = max (lv ja) (0) + 1 := by
          unfold st_lev st_l
          rw [nI_clamp (by omega : ja < 2 ^ 31)]
          rfl
        refine mg_aload_n 96 rfl rfl rfl ?_
        refine mg_iload_n 97 rfl rfl rfl ?_
        refine mg_callV1 100 rfl (Nat.le_of_ble_eq_true rfl) pg_Mo_namesA rfl rfl ?_
        refine sm_namesA_5 (by omega) ?_
        show mm_Rn _ _ _ _ _ _ 100 [(0, _), (1, _), (2, _), (3, _)] [_] _
        refine mg_if_eq 103 112 rfl rfl (by decide) (fun c_100 => absurd c_100 (by decide)) (fun c_100 => ?_)
        refine mg_aload_n 104 rfl rfl rfl ?_
        refine mg_getR 107 rfl rfl rfl rfl ?_
        refine mg_iload_n 108 rfl rfl rfl ?_
        refine mg_iald (v := nI (lv ja)) 109 rfl rfl (vp_in_nI (by omega : ja < 60) (by omega)) (by rw [nI_clamp (by omega)]; exact (hG.2.1 ja hja).2.2.2) rfl ?_
        refine mg_goto 113 rfl (by decide) ?_
        refine mg_istore (L2 := [(0, _), (1, _), (2, _), (3, _), (4, _)]) 115 rfl (by decide) rfl rfl ?_
        refine mg_aload_n 116 rfl rfl rfl ?_
        refine mg_iload_n 117 rfl rfl rfl ?_
        refine mg_callV1 120 rfl (Nat.le_of_ble_eq_true rfl) pg_Mo_namesB rfl rfl ?_
        refine sm_namesB_5 (by omega) ?_
        show mm_Rn _ _ _ _ _ _ 120 [(0, _), (1, _), (2, _), (3, _), (4, _)] [_] _
        refine mg_if_eq 123 142 rfl rfl (by decide) (fun c_120 => ?_) (fun c_120 => absurd c_120 (by decide))
        refine mg_iload 144 rfl rfl rfl ?_
        refine mg_bipush (v := 6) 146 rfl (by decide) rfl ?_
        refine mg_ic_ne 149 151 rfl rfl (by decide) (fun c_146 => ?_) (fun c_146 => ?_)
        · have h6 : max (lv ja) 0 + 1 ≤ 6 := by
            have e6 : lv ja ≠ 6 := fun h => c_146 (by rw [h]; rfl)
            omega
          refine mg_aload_n 152 rfl rfl rfl ?_
          refine mg_getI (v := nI n) 155 rfl rfl (Or.inl rfl) hsz rfl ?_
          refine mg_bipush (v := 60) 157 rfl (by decide) rfl ?_
          refine mg_ic_ne 160 163 rfl rfl (by decide) (fun c_157 => ?_) (fun c_157 => ?_)
          · have hn60 : n < 60 := by
              have := st_ne 60 c_157 rfl (by omega) (by omega)
              omega
            refine mg_aload_n 164 rfl rfl rfl ?_
            refine mg_getR 167 rfl rfl rfl rfl ?_
            refine mg_aload_n 168 rfl rfl rfl ?_
            refine mg_getI (v := nI n) 171 rfl rfl (Or.inl rfl) hsz rfl ?_
            refine mg_iload_n 172 rfl rfl rfl ?_
            refine mg_iast (j := n) 173 rfl rfl (vp_in_nI (by omega : n < 60) (by omega)) (nI_clamp (by omega)) rfl ?_
            refine mg_aload_n 174 rfl rfl rfl ?_
            refine mg_getR 177 rfl rfl rfl rfl ?_
            refine mg_aload_n 178 rfl rfl rfl ?_
            refine mg_getI (v := nI n) 181 rfl rfl (Or.inl rfl) hsz rfl ?_
            refine mg_iload_n 182 rfl rfl rfl ?_
            refine mg_iast (j := n) 183 rfl rfl (vp_in_nI (by omega : n < 60) (by omega)) (nI_clamp (by omega)) rfl ?_
            refine mg_aload_n 184 rfl rfl rfl ?_
            refine mg_getR 187 rfl rfl rfl rfl ?_
            refine mg_aload_n 188 rfl rfl rfl ?_
            refine mg_getI (v := nI n) 191 rfl rfl (Or.inl rfl) hsz rfl ?_
            refine mg_iload_n 192 rfl rfl rfl ?_
            refine mg_iast (j := n) 193 rfl rfl (vp_in_nI (by omega : n < 60) (by omega)) (nI_clamp (by omega)) rfl ?_
            refine mg_aload_n 194 rfl rfl rfl ?_
            refine mg_getR 197 rfl rfl rfl rfl ?_
            refine mg_aload_n 198 rfl rfl rfl ?_
            refine mg_getI (v := nI n) 201 rfl rfl (Or.inl rfl) hsz rfl ?_
            refine mg_iload 203 rfl rfl rfl ?_
            refine mg_iconst (v := 1) 204 rfl (by decide) rfl ?_
            refine mg_iadd (v := nI (max (lv ja) 0 + 1)) 205 rfl (by rw [Nat.max_zero]; exact nI_1 _) rfl ?_
            refine mg_iast (j := n) 206 rfl rfl (vp_in_nI (by omega : n < 60) (by omega)) (nI_clamp (by omega)) rfl ?_
            refine mg_aload_n 207 rfl rfl rfl ?_
            refine mg_dup 208 rfl rfl ?_
            refine mg_getI (v := nI n) 211 rfl rfl (Or.inl rfl) hsz rfl ?_
            refine mg_iconst (v := 1) 212 rfl (by decide) rfl ?_
            refine mg_iadd (v := nI (n + 1)) 213 rfl (nI_1 n) rfl ?_
            refine mg_putI 216 rfl rfl rfl rfl ?_
            refine mg_aload_n 217 rfl rfl rfl ?_
            refine mg_getI (v := nI (n + 1)) 220 rfl rfl (Or.inl rfl) rfl rfl ?_
            refine mg_iconst (v := 1) 221 rfl (by decide) rfl ?_
            refine mg_isub (v := nI n) 222 rfl (nI_pred n) rfl ?_
            refine mg_iret rfl rfl ?_
            have := kN 5 _ (by omega) rfl (Or.inl ⟨ja, hja, rfl⟩) hr hlev.symm (by omega) hn60
            exact this
          · refine mg_bipush (v := (-2)) 162 rfl (by decide) rfl ?_
            refine mg_iret rfl rfl ?_
            exact kF ⟨5, by omega, rfl, Or.inl ⟨ja, hja, rfl⟩, hr, by omega⟩ ((st_eq 60 60 rfl (by omega) (by omega)).mp c_157)
        · refine mg_iconst (v := (-1)) 150 rfl (by decide) rfl ?_
          refine mg_iret rfl rfl ?_
          refine kR (fun h => ?_)
          have h6 := (st_ok_k (by omega) h).2.2
          rw [hlev] at h6
          first | exact absurd c_146 (by decide) | (have e6 := (st_eq (a := lv jb) 6 6 rfl (by omega) (by omega)).mp c_146; omega) | (have e6 := (st_eq (a := lv ja) 6 6 rfl (by omega) (by omega)).mp c_146; omega)
    · refine mg_iload_n 12 rfl rfl rfl ?_
      refine mg_if_ne 15 26 rfl rfl (by decide) (fun c_12 => ?_) (fun c_12 => absurd c_12 (by decide))
      refine mg_iload_n 27 rfl rfl rfl ?_
      refine mg_iconst (v := 1) 28 rfl (by decide) rfl ?_
      refine mg_ic_ne 31 42 rfl rfl (by decide) (fun c_28 => ?_) (fun c_28 => absurd c_28 (by decide))
      refine mg_iload_n 43 rfl rfl rfl ?_
      refine mg_bipush (v := 8) 45 rfl (by decide) rfl ?_
      refine mg_ic_ne 48 61 rfl rfl (by decide) (fun c_45 => ?_) (fun c_45 => absurd c_45 (by decide))
      have hl : st_lf n 6 p := Or.inr rfl
      refine mg_aload_n 62 rfl rfl rfl ?_
      refine mg_iload_n 63 rfl rfl rfl ?_
      refine mg_callV1 66 rfl (Nat.le_of_ble_eq_true rfl) pg_Mo_namesA rfl rfl ?_
      refine sm_namesA_6 (by omega) ?_
      show mm_Rn _ _ _ _ _ _ 66 [(0, _), (1, _), (2, _), (3, _)] [_] _
      refine mg_if_eq 69 77 rfl rfl (by decide) (fun c_66 => ?_) (fun c_66 => absurd c_66 (by decide))
      refine mg_aload_n 78 rfl rfl rfl ?_
      refine mg_iload_n 79 rfl rfl rfl ?_
      refine mg_callV1 82 rfl (Nat.le_of_ble_eq_true rfl) pg_Mo_namesB rfl rfl ?_
      refine sm_namesB_6 (by omega) ?_
      show mm_Rn _ _ _ _ _ _ 82 [(0, _), (1, _), (2, _), (3, _)] [_] _
      refine mg_if_eq 85 95 rfl rfl (by decide) (fun c_82 => ?_) (fun c_82 => absurd c_82 (by decide))
      have hr : st_rf n 6 q := fun h => absurd h (by decide)
      have hlev : st_lev lv 6 p q = max (0) (0) + 1 := by
        unfold st_lev st_l
        rfl
      refine mg_aload_n 96 rfl rfl rfl ?_
      refine mg_iload_n 97 rfl rfl rfl ?_
      refine mg_callV1 100 rfl (Nat.le_of_ble_eq_true rfl) pg_Mo_namesA rfl rfl ?_
      refine sm_namesA_6 (by omega) ?_
      show mm_Rn _ _ _ _ _ _ 100 [(0, _), (1, _), (2, _), (3, _)] [_] _
      refine mg_if_eq 103 112 rfl rfl (by decide) (fun c_100 => ?_) (fun c_100 => absurd c_100 (by decide))
      refine mg_iconst (v := 0) 113 rfl (by decide) rfl ?_
      refine mg_istore (L2 := [(0, _), (1, _), (2, _), (3, _), (4, _)]) 115 rfl (by decide) rfl rfl ?_
      refine mg_aload_n 116 rfl rfl rfl ?_
      refine mg_iload_n 117 rfl rfl rfl ?_
      refine mg_callV1 120 rfl (Nat.le_of_ble_eq_true rfl) pg_Mo_namesB rfl rfl ?_
      refine sm_namesB_6 (by omega) ?_
      show mm_Rn _ _ _ _ _ _ 120 [(0, _), (1, _), (2, _), (3, _), (4, _)] [_] _
      refine mg_if_eq 123 142 rfl rfl (by decide) (fun c_120 => ?_) (fun c_120 => absurd c_120 (by decide))
      refine mg_iload 144 rfl rfl rfl ?_
      refine mg_bipush (v := 6) 146 rfl (by decide) rfl ?_
      refine mg_ic_ne 149 151 rfl rfl (by decide) (fun c_146 => ?_) (fun c_146 => absurd c_146 (by decide))
      have h6 : max 0 0 + 1 ≤ 6 := by decide
      refine mg_aload_n 152 rfl rfl rfl ?_
      refine mg_getI (v := nI n) 155 rfl rfl (Or.inl rfl) hsz rfl ?_
      refine mg_bipush (v := 60) 157 rfl (by decide) rfl ?_
      refine mg_ic_ne 160 163 rfl rfl (by decide) (fun c_157 => ?_) (fun c_157 => ?_)
      · have hn60 : n < 60 := by
          have := st_ne 60 c_157 rfl (by omega) (by omega)
          omega
        refine mg_aload_n 164 rfl rfl rfl ?_
        refine mg_getR 167 rfl rfl rfl rfl ?_
        refine mg_aload_n 168 rfl rfl rfl ?_
        refine mg_getI (v := nI n) 171 rfl rfl (Or.inl rfl) hsz rfl ?_
        refine mg_iload_n 172 rfl rfl rfl ?_
        refine mg_iast (j := n) 173 rfl rfl (vp_in_nI (by omega : n < 60) (by omega)) (nI_clamp (by omega)) rfl ?_
        refine mg_aload_n 174 rfl rfl rfl ?_
        refine mg_getR 177 rfl rfl rfl rfl ?_
        refine mg_aload_n 178 rfl rfl rfl ?_
        refine mg_getI (v := nI n) 181 rfl rfl (Or.inl rfl) hsz rfl ?_
        refine mg_iload_n 182 rfl rfl rfl ?_
        refine mg_iast (j := n) 183 rfl rfl (vp_in_nI (by omega : n < 60) (by omega)) (nI_clamp (by omega)) rfl ?_
        refine mg_aload_n 184 rfl rfl rfl ?_
        refine mg_getR 187 rfl rfl rfl rfl ?_
        refine mg_aload_n 188 rfl rfl rfl ?_
        refine mg_getI (v := nI n) 191 rfl rfl (Or.inl rfl) hsz rfl ?_
        refine mg_iload_n 192 rfl rfl rfl ?_
        refine mg_iast (j := n) 193 rfl rfl (vp_in_nI (by omega : n < 60) (by omega)) (nI_clamp (by omega)) rfl ?_
        refine mg_aload_n 194 rfl rfl rfl ?_
        refine mg_getR 197 rfl rfl rfl rfl ?_
        refine mg_aload_n 198 rfl rfl rfl ?_
        refine mg_getI (v := nI n) 201 rfl rfl (Or.inl rfl) hsz rfl ?_
        refine mg_iload 203 rfl rfl rfl ?_
        refine mg_iconst (v := 1) 204 rfl (by decide) rfl ?_
        refine mg_iadd (v := nI (max 0 0 + 1)) 205 rfl (by decide) rfl ?_
        refine mg_iast (j := n) 206 rfl rfl (vp_in_nI (by omega : n < 60) (by omega)) (nI_clamp (by omega)) rfl ?_
        refine mg_aload_n 207 rfl rfl rfl ?_
        refine mg_dup 208 rfl rfl ?_
        refine mg_getI (v := nI n) 211 rfl rfl (Or.inl rfl) hsz rfl ?_
        refine mg_iconst (v := 1) 212 rfl (by decide) rfl ?_
        refine mg_iadd (v := nI (n + 1)) 213 rfl (nI_1 n) rfl ?_
        refine mg_putI 216 rfl rfl rfl rfl ?_
        refine mg_aload_n 217 rfl rfl rfl ?_
        refine mg_getI (v := nI (n + 1)) 220 rfl rfl (Or.inl rfl) rfl rfl ?_
        refine mg_iconst (v := 1) 221 rfl (by decide) rfl ?_
        refine mg_isub (v := nI n) 222 rfl (nI_pred n) rfl ?_
        refine mg_iret rfl rfl ?_
        have := kN 6 _ (by omega) rfl hl hr hlev.symm (by omega) hn60
        exact this
      · refine mg_bipush (v := (-2)) 162 rfl (by decide) rfl ?_
        refine mg_iret rfl rfl ?_
        exact kF ⟨6, by omega, rfl, hl, hr, by omega⟩ ((st_eq 60 60 rfl (by omega) (by omega)).mp c_157)
    · refine mg_iload_n 12 rfl rfl rfl ?_
      refine mg_if_ne 15 26 rfl rfl (by decide) (fun c_12 => ?_) (fun c_12 => absurd c_12 (by decide))
      refine mg_iload_n 27 rfl rfl rfl ?_
      refine mg_iconst (v := 1) 28 rfl (by decide) rfl ?_
      refine mg_ic_ne 31 42 rfl rfl (by decide) (fun c_28 => ?_) (fun c_28 => absurd c_28 (by decide))
      refine mg_iload_n 43 rfl rfl rfl ?_
      refine mg_bipush (v := 8) 45 rfl (by decide) rfl ?_
      refine mg_ic_ne 48 61 rfl rfl (by decide) (fun c_45 => ?_) (fun c_45 => absurd c_45 (by decide))
      refine mg_aload_n 62 rfl rfl rfl ?_
      refine mg_iload_n 63 rfl rfl rfl ?_
      refine mg_callV1 66 rfl (Nat.le_of_ble_eq_true rfl) pg_Mo_namesA rfl rfl ?_
      refine sm_namesA_7 (by omega) ?_
      show mm_Rn _ _ _ _ _ _ 66 [(0, _), (1, _), (2, _), (3, _)] [_] _
      refine mg_if_eq 69 77 rfl rfl (by decide) (fun c_66 => absurd c_66 (by decide)) (fun c_66 => ?_)
      refine mg_aload_n 70 rfl rfl rfl ?_
      refine mg_iload_n 71 rfl rfl rfl ?_
      refine mg_callV1 74 rfl (Nat.le_of_ble_eq_true rfl) pg_Mo_no rfl rfl ?_
      refine sm_no hsz hn (by omega) (fun hno => ?_) (fun j3 hj3 hx3 => ?_)
      · show mm_Rn _ _ _ _ _ _ 74 [(0, _), (1, _), (2, _), (3, _)] [_] _
        refine mg_if_ne 77 93 rfl rfl (by decide) (fun c_74 => ?_) (fun c_74 => absurd c_74 (by decide))
        refine mg_iconst (v := (-1)) 94 rfl (by decide) rfl ?_
        refine mg_iret rfl rfl ?_
        first | exact kR (fun h => hno ((st_ok_k (by omega) h).1.resolve_right (by decide))) | exact kR (fun h => hno ((st_ok_k (by omega) h).2.1 rfl))
      · show mm_Rn _ _ _ _ _ _ 74 [(0, _), (1, _), (2, _), (3, _)] [_] _
        refine mg_if_ne 77 93 rfl rfl (by decide) (fun c_74 => absurd c_74 (by decide)) (fun c_74 => ?_)
        refine mg_aload_n 78 rfl rfl rfl ?_
        refine mg_iload_n 79 rfl rfl rfl ?_
        refine mg_callV1 82 rfl (Nat.le_of_ble_eq_true rfl) pg_Mo_namesB rfl rfl ?_
        refine sm_namesB_7 (by omega) ?_
        show mm_Rn _ _ _ _ _ _ 82 [(0, _), (1, _), (2, _), (3, _)] [_] _
        refine mg_if_eq 85 95 rfl rfl (by decide) (fun c_82 => absurd c_82 (by decide)) (fun c_82 => ?_)
        refine mg_aload_n 86 rfl rfl rfl ?_
        refine mg_iload_n 87 rfl rfl rfl ?_
        refine mg_callV1 90 rfl (Nat.le_of_ble_eq_true rfl) pg_Mo_no rfl rfl ?_
        refine sm_no hsz hn (by omega) (fun hno => ?_) (fun j4 hj4 hx4 => ?_)
        · show mm_Rn _ _ _ _ _ _ 90 [(0, _), (1, _), (2, _), (3, _)] [_] _
          refine mg_if_eq 93 95 rfl rfl (by decide) (fun c_90 => absurd c_90 (by decide)) (fun c_90 => ?_)
          refine mg_iconst (v := (-1)) 94 rfl (by decide) rfl ?_
          refine mg_iret rfl rfl ?_
          first | exact kR (fun h => hno ((st_ok_k (by omega) h).1.resolve_right (by decide))) | exact kR (fun h => hno ((st_ok_k (by omega) h).2.1 rfl))
        · show mm_Rn _ _ _ _ _ _ 90 [(0, _), (1, _), (2, _), (3, _)] [_] _
          refine mg_if_eq 93 95 rfl rfl (by decide) (fun c_90 => ?_) (fun c_90 => absurd c_90 (by decide))
          have hl : st_lf n 7 p := Or.inl ⟨j3, hj3, hx3⟩
          have hr : st_rf n 7 q := fun _ => ⟨j4, hj4, hx4⟩
          obtain ⟨ja, hja, ex⟩ : st_in n p := hl.resolve_right (by decide)
          subst ex
          have lja := (hW.2.1 ja hja).2.2.1
          obtain ⟨jb, hjb, ey⟩ : st_in n q := hr rfl
          subst ey
          have ljb := (hW.2.1 jb hjb).2.2.1
          have hlev : st_lev lv 7 (nI ja) (nI jb) = max (lv ja) (lv jb) + 1 := by
            unfold st_lev st_l
            rw [nI_clamp (by omega : ja < 2 ^ 31)]
            rw [nI_clamp (by omega : jb < 2 ^ 31)]
            rfl
          refine mg_aload_n 96 rfl rfl rfl ?_
          refine mg_iload_n 97 rfl rfl rfl ?_
          refine mg_callV1 100 rfl (Nat.le_of_ble_eq_true rfl) pg_Mo_namesA rfl rfl ?_
          refine sm_namesA_7 (by omega) ?_
          show mm_Rn _ _ _ _ _ _ 100 [(0, _), (1, _), (2, _), (3, _)] [_] _
          refine mg_if_eq 103 112 rfl rfl (by decide) (fun c_100 => absurd c_100 (by decide)) (fun c_100 => ?_)
          refine mg_aload_n 104 rfl rfl rfl ?_
          refine mg_getR 107 rfl rfl rfl rfl ?_
          refine mg_iload_n 108 rfl rfl rfl ?_
          refine mg_iald (v := nI (lv ja)) 109 rfl rfl (vp_in_nI (by omega : ja < 60) (by omega)) (by rw [nI_clamp (by omega)]; exact (hG.2.1 ja hja).2.2.2) rfl ?_
          refine mg_goto 113 rfl (by decide) ?_
          refine mg_istore (L2 := [(0, _), (1, _), (2, _), (3, _), (4, _)]) 115 rfl (by decide) rfl rfl ?_
          refine mg_aload_n 116 rfl rfl rfl ?_
          refine mg_iload_n 117 rfl rfl rfl ?_
          refine mg_callV1 120 rfl (Nat.le_of_ble_eq_true rfl) pg_Mo_namesB rfl rfl ?_
          refine sm_namesB_7 (by omega) ?_
          show mm_Rn _ _ _ _ _ _ 120 [(0, _), (1, _), (2, _), (3, _), (4, _)] [_] _
          refine mg_if_eq 123 142 rfl rfl (by decide) (fun c_120 => absurd c_120 (by decide)) (fun c_120 => ?_)
          refine mg_aload_n 124 rfl rfl rfl ?_
          refine mg_getR 127 rfl rfl rfl rfl ?_
          refine mg_iload_n 128 rfl rfl rfl ?_
          refine mg_iald (v := nI (lv jb)) 129 rfl rfl (vp_in_nI (by omega : jb < 60) (by omega)) (by rw [nI_clamp (by omega)]; exact (hG.2.1 jb hjb).2.2.2) rfl ?_
          refine mg_iload 131 rfl rfl rfl ?_
          refine mg_ic_le 134 142 rfl rfl (by decide) (fun c_131 => ?_) (fun c_131 => ?_)
          · refine mg_iload 144 rfl rfl rfl ?_
            refine mg_bipush (v := 6) 146 rfl (by decide) rfl ?_
            refine mg_ic_ne 149 151 rfl rfl (by decide) (fun c_146 => ?_) (fun c_146 => ?_)
            · have h6 : max (lv ja) (lv jb) + 1 ≤ 6 := by
                first
                | (have e1 := (st_le (a := lv jb) (nI (lv ja)) (lv ja) rfl (by omega) (by omega)).mp c_131; have e6 : lv ja ≠ 6 := fun h => c_146 (by rw [h]; rfl); omega)
                | (have e6 : lv jb ≠ 6 := fun h => c_146 (by rw [h]; rfl); have e1 : ¬ lv jb ≤ lv ja := fun h => c_131 ((st_le (a := lv jb) (nI (lv ja)) (lv ja) rfl (by omega) (by omega)).mpr h); omega)
              refine mg_aload_n 152 rfl rfl rfl ?_
              refine mg_getI (v := nI n) 155 rfl rfl (Or.inl rfl) hsz rfl ?_
              refine mg_bipush (v := 60) 157 rfl (by decide) rfl ?_
              refine mg_ic_ne 160 163 rfl rfl (by decide) (fun c_157 => ?_) (fun c_157 => ?_)
              · have hn60 : n < 60 := by
                  have := st_ne 60 c_157 rfl (by omega) (by omega)
                  omega
                refine mg_aload_n 164 rfl rfl rfl ?_
                refine mg_getR 167 rfl rfl rfl rfl ?_
                refine mg_aload_n 168 rfl rfl rfl ?_
                refine mg_getI (v := nI n) 171 rfl rfl (Or.inl rfl) hsz rfl ?_
                refine mg_iload_n 172 rfl rfl rfl ?_
                refine mg_iast (j := n) 173 rfl rfl (vp_in_nI (by omega : n < 60) (by omega)) (nI_clamp (by omega)) rfl ?_
                refine mg_aload_n 174 rfl rfl rfl ?_
                refine mg_getR 177 rfl rfl rfl rfl ?_
                refine mg_aload_n 178 rfl rfl rfl ?_
                refine mg_getI (v := nI n) 181 rfl rfl (Or.inl rfl) hsz rfl ?_
                refine mg_iload_n 182 rfl rfl rfl ?_
                refine mg_iast (j := n) 183 rfl rfl (vp_in_nI (by omega : n < 60) (by omega)) (nI_clamp (by omega)) rfl ?_
                refine mg_aload_n 184 rfl rfl rfl ?_
                refine mg_getR 187 rfl rfl rfl rfl ?_
                refine mg_aload_n 188 rfl rfl rfl ?_
                refine mg_getI (v := nI n) 191 rfl rfl (Or.inl rfl) hsz rfl ?_
                refine mg_iload_n 192 rfl rfl rfl ?_
                refine mg_iast (j := n) 193 rfl rfl (vp_in_nI (by omega : n < 60) (by omega)) (nI_clamp (by omega)) rfl ?_
                refine mg_aload_n 194 rfl rfl rfl ?_
                refine mg_getR 197 rfl rfl rfl rfl ?_
                refine mg_aload_n 198 rfl rfl rfl ?_
                refine mg_getI (v := nI n) 201 rfl rfl (Or.inl rfl) hsz rfl ?_
                refine mg_iload 203 rfl rfl rfl ?_
                refine mg_iconst (v := 1) 204 rfl (by decide) rfl ?_
                refine mg_iadd (v := nI (max (lv ja) (lv jb) + 1)) 205 rfl (by first | (have e1 := (st_le (a := lv jb) (nI (lv ja)) (lv ja) rfl (by omega) (by omega)).mp c_131; rw [Nat.max_eq_left e1]; exact nI_1 _) | (have e1 : ¬ lv jb ≤ lv ja := fun h => c_131 ((st_le (a := lv jb) (nI (lv ja)) (lv ja) rfl (by omega) (by omega)).mpr h); rw [Nat.max_eq_right (by omega)]; exact nI_1 _)) rfl ?_
                refine mg_iast (j := n) 206 rfl rfl (vp_in_nI (by omega : n < 60) (by omega)) (nI_clamp (by omega)) rfl ?_
                refine mg_aload_n 207 rfl rfl rfl ?_
                refine mg_dup 208 rfl rfl ?_
                refine mg_getI (v := nI n) 211 rfl rfl (Or.inl rfl) hsz rfl ?_
                refine mg_iconst (v := 1) 212 rfl (by decide) rfl ?_
                refine mg_iadd (v := nI (n + 1)) 213 rfl (nI_1 n) rfl ?_
                refine mg_putI 216 rfl rfl rfl rfl ?_
                refine mg_aload_n 217 rfl rfl rfl ?_
                refine mg_getI (v := nI (n + 1)) 220 rfl rfl (Or.inl rfl) rfl rfl ?_
                refine mg_iconst (v := 1) 221 rfl (by decide) rfl ?_
                refine mg_isub (v := nI n) 222 rfl (nI_pred n) rfl ?_
                refine mg_iret rfl rfl ?_
                have := kN 7 _ (by omega) rfl (Or.inl ⟨ja, hja, rfl⟩) (fun _ => ⟨jb, hjb, rfl⟩) hlev.symm (by omega) hn60
                exact this
              · refine mg_bipush (v := (-2)) 162 rfl (by decide) rfl ?_
                refine mg_iret rfl rfl ?_
                exact kF ⟨7, by omega, rfl, Or.inl ⟨ja, hja, rfl⟩, (fun _ => ⟨jb, hjb, rfl⟩), by omega⟩ ((st_eq 60 60 rfl (by omega) (by omega)).mp c_157)
            · refine mg_iconst (v := (-1)) 150 rfl (by decide) rfl ?_
              refine mg_iret rfl rfl ?_
              refine kR (fun h => ?_)
              have h6 := (st_ok_k (by omega) h).2.2
              rw [hlev] at h6
              first | exact absurd c_146 (by decide) | (have e6 := (st_eq (a := lv jb) 6 6 rfl (by omega) (by omega)).mp c_146; omega) | (have e6 := (st_eq (a := lv ja) 6 6 rfl (by omega) (by omega)).mp c_146; omega)
          · refine mg_aload_n 135 rfl rfl rfl ?_
            refine mg_getR 138 rfl rfl rfl rfl ?_
            refine mg_iload_n 139 rfl rfl rfl ?_
            refine mg_iald (v := nI (lv jb)) 140 rfl rfl (vp_in_nI (by omega : jb < 60) (by omega)) (by rw [nI_clamp (by omega)]; exact (hG.2.1 jb hjb).2.2.2) rfl ?_
            refine mg_istore (L2 := [(0, _), (1, _), (2, _), (3, _), (4, _)]) 142 rfl (by decide) rfl rfl ?_
            refine mg_iload 144 rfl rfl rfl ?_
            refine mg_bipush (v := 6) 146 rfl (by decide) rfl ?_
            refine mg_ic_ne 149 151 rfl rfl (by decide) (fun c_146 => ?_) (fun c_146 => ?_)
            · have h6 : max (lv ja) (lv jb) + 1 ≤ 6 := by
                first
                | (have e1 := (st_le (a := lv jb) (nI (lv ja)) (lv ja) rfl (by omega) (by omega)).mp c_131; have e6 : lv ja ≠ 6 := fun h => c_146 (by rw [h]; rfl); omega)
                | (have e6 : lv jb ≠ 6 := fun h => c_146 (by rw [h]; rfl); have e1 : ¬ lv jb ≤ lv ja := fun h => c_131 ((st_le (a := lv jb) (nI (lv ja)) (lv ja) rfl (by omega) (by omega)).mpr h); omega)
              refine mg_aload_n 152 rfl rfl rfl ?_
              refine mg_getI (v := nI n) 155 rfl rfl (Or.inl rfl) hsz rfl ?_
              refine mg_bipush (v := 60) 157 rfl (by decide) rfl ?_
              refine mg_ic_ne 160 163 rfl rfl (by decide) (fun c_157 => ?_) (fun c_157 => ?_)
              · have hn60 : n < 60 := by
                  have := st_ne 60 c_157 rfl (by omega) (by omega)
                  omega
                refine mg_aload_n 164 rfl rfl rfl ?_
                refine mg_getR 167 rfl rfl rfl rfl ?_
                refine mg_aload_n 168 rfl rfl rfl ?_
                refine mg_getI (v := nI n) 171 rfl rfl (Or.inl rfl) hsz rfl ?_
                refine mg_iload_n 172 rfl rfl rfl ?_
                refine mg_iast (j := n) 173 rfl rfl (vp_in_nI (by omega : n < 60) (by omega)) (nI_clamp (by omega)) rfl ?_
                refine mg_aload_n 174 rfl rfl rfl ?_
                refine mg_getR 177 rfl rfl rfl rfl ?_
                refine mg_aload_n 178 rfl rfl rfl ?_
                refine mg_getI (v := nI n) 181 rfl rfl (Or.inl rfl) hsz rfl ?_
                refine mg_iload_n 182 rfl rfl rfl ?_
                refine mg_iast (j := n) 183 rfl rfl (vp_in_nI (by omega : n < 60) (by omega)) (nI_clamp (by omega)) rfl ?_
                refine mg_aload_n 184 rfl rfl rfl ?_
                refine mg_getR 187 rfl rfl rfl rfl ?_
                refine mg_aload_n 188 rfl rfl rfl ?_
                refine mg_getI (v := nI n) 191 rfl rfl (Or.inl rfl) hsz rfl ?_
                refine mg_iload_n 192 rfl rfl rfl ?_
                refine mg_iast (j := n) 193 rfl rfl (vp_in_nI (by omega : n < 60) (by omega)) (nI_clamp (by omega)) rfl ?_
                refine mg_aload_n 194 rfl rfl rfl ?_
                refine mg_getR 197 rfl rfl rfl rfl ?_
                refine mg_aload_n 198 rfl rfl rfl ?_
                refine mg_getI (v := nI n) 201 rfl rfl (Or.inl rfl) hsz rfl ?_
                refine mg_iload 203 rfl rfl rfl ?_
                refine mg_iconst (v := 1) 204 rfl (by decide) rfl ?_
                refine mg_iadd (v := nI (max (lv ja) (lv jb) + 1)) 205 rfl (by first | (have e1 := (st_le (a := lv jb) (nI (lv ja)) (lv ja) rfl (by omega) (by omega)).mp c_131; rw [Nat.max_eq_left e1]; exact nI_1 _) | (have e1 : ¬ lv jb ≤ lv ja := fun h => c_131 ((st_le (a := lv jb) (nI (lv ja)) (lv ja) rfl (by omega) (by omega)).mpr h); rw [Nat.max_eq_right (by omega)]; exact nI_1 _)) rfl ?_
                refine mg_iast (j := n) 206 rfl rfl (vp_in_nI (by omega : n < 60) (by omega)) (nI_clamp (by omega)) rfl ?_
                refine mg_aload_n 207 rfl rfl rfl ?_
                refine mg_dup 208 rfl rfl ?_
                refine mg_getI (v := nI n) 211 rfl rfl (Or.inl rfl) hsz rfl ?_
                refine mg_iconst (v := 1) 212 rfl (by decide) rfl ?_
                refine mg_iadd (v := nI (n + 1)) 213 rfl (nI_1 n) rfl ?_
                refine mg_putI 216 rfl rfl rfl rfl ?_
                refine mg_aload_n 217 rfl rfl rfl ?_
                refine mg_getI (v := nI (n + 1)) 220 rfl rfl (Or.inl rfl) rfl rfl ?_
                refine mg_iconst (v := 1) 221 rfl (by decide) rfl ?_
                refine mg_isub (v := nI n) 222 rfl (nI_pred n) rfl ?_
                refine mg_iret rfl rfl ?_
                have := kN 7 _ (by omega) rfl (Or.inl ⟨ja, hja, rfl⟩) (fun _ => ⟨jb, hjb, rfl⟩) hlev.symm (by omega) hn60
                exact this
              · refine mg_bipush (v := (-2)) 162 rfl (by decide) rfl ?_
                refine mg_iret rfl rfl ?_
                exact kF ⟨7, by omega, rfl, Or.inl ⟨ja, hja, rfl⟩, (fun _ => ⟨jb, hjb, rfl⟩), by omega⟩ ((st_eq 60 60 rfl (by omega) (by omega)).mp c_157)
            · refine mg_iconst (v := (-1)) 150 rfl (by decide) rfl ?_
              refine mg_iret rfl rfl ?_
              refine kR (fun h => ?_)
              have h6 := (st_ok_k (by omega) h).2.2
              rw [hlev] at h6
              first | exact absurd c_146 (by decide) | (have e6 := (st_eq (a := lv jb) 6 6 rfl (by omega) (by omega)).mp c_146; omega) | (have e6 := (st_eq (a := lv ja) 6 6 rfl (by omega) (by omega)).mp c_146; omega)
    · refine mg_iload_n 12 rfl rfl rfl ?_
      refine mg_if_ne 15 26 rfl rfl (by decide) (fun c_12 => ?_) (fun c_12 => absurd c_12 (by decide))
      refine mg_iload_n 27 rfl rfl rfl ?_
      refine mg_iconst (v := 1) 28 rfl (by decide) rfl ?_
      refine mg_ic_ne 31 42 rfl rfl (by decide) (fun c_28 => ?_) (fun c_28 => absurd c_28 (by decide))
      refine mg_iload_n 43 rfl rfl rfl ?_
      refine mg_bipush (v := 8) 45 rfl (by decide) rfl ?_
      refine mg_ic_ne 48 61 rfl rfl (by decide) (fun c_45 => absurd c_45 (by decide)) (fun c_45 => ?_)
      refine mg_aload_n 49 rfl rfl rfl ?_
      refine mg_iload_n 50 rfl rfl rfl ?_
      refine mg_iconst (v := 0) 51 rfl (by decide) rfl ?_
      refine mg_bipush (v := 15) 53 rfl (by decide) rfl ?_
      refine mg_callV3 56 rfl (Nat.le_of_ble_eq_true rfl) pg_Mo_out rfl rfl ?_
      refine sm_out 15 (by omega) rfl (by omega) (fun hno => ?_) (fun j2 hj2 hx2 => ?_)
      · show mm_Rn _ _ _ _ _ _ 56 [(0, _), (1, _), (2, _), (3, _)] [_] _
        refine mg_if_eq 59 61 rfl rfl (by decide) (fun c_56 => absurd c_56 (by decide)) (fun c_56 => ?_)
        refine mg_iconst (v := (-1)) 60 rfl (by decide) rfl ?_
        refine mg_iret rfl rfl ?_
        exact kR (fun h => hno ((st_ok_k (by omega) h).1.resolve_right (by decide)))
      · show mm_Rn _ _ _ _ _ _ 56 [(0, _), (1, _), (2, _), (3, _)] [_] _
        refine mg_if_eq 59 61 rfl rfl (by decide) (fun c_56 => ?_) (fun c_56 => absurd c_56 (by decide))
        have hl : st_lf n 8 p := Or.inl ⟨j2, hj2, hx2⟩
        refine mg_aload_n 62 rfl rfl rfl ?_
        refine mg_iload_n 63 rfl rfl rfl ?_
        refine mg_callV1 66 rfl (Nat.le_of_ble_eq_true rfl) pg_Mo_namesA rfl rfl ?_
        refine sm_namesA_8 (by omega) ?_
        show mm_Rn _ _ _ _ _ _ 66 [(0, _), (1, _), (2, _), (3, _)] [_] _
        refine mg_if_eq 69 77 rfl rfl (by decide) (fun c_66 => ?_) (fun c_66 => absurd c_66 (by decide))
        refine mg_aload_n 78 rfl rfl rfl ?_
        refine mg_iload_n 79 rfl rfl rfl ?_
        refine mg_callV1 82 rfl (Nat.le_of_ble_eq_true rfl) pg_Mo_namesB rfl rfl ?_
        refine sm_namesB_8 (by omega) ?_
        show mm_Rn _ _ _ _ _ _ 82 [(0, _), (1, _), (2, _), (3, _)] [_] _
        refine mg_if_eq 85 95 rfl rfl (by decide) (fun c_82 => absurd c_82 (by decide)) (fun c_82 => ?_)
        refine mg_aload_n 86 rfl rfl rfl ?_
        refine mg_iload_n 87 rfl rfl rfl ?_
        refine mg_callV1 90 rfl (Nat.le_of_ble_eq_true rfl) pg_Mo_no rfl rfl ?_
        refine sm_no hsz hn (by omega) (fun hno => ?_) (fun j4 hj4 hx4 => ?_)
        · show mm_Rn _ _ _ _ _ _ 90 [(0, _), (1, _), (2, _), (3, _)] [_] _
          refine mg_if_eq 93 95 rfl rfl (by decide) (fun c_90 => absurd c_90 (by decide)) (fun c_90 => ?_)
          refine mg_iconst (v := (-1)) 94 rfl (by decide) rfl ?_
          refine mg_iret rfl rfl ?_
          exact kR (fun h => hno ((st_ok_k (by omega) h).2.1 rfl))
        · show mm_Rn _ _ _ _ _ _ 90 [(0, _), (1, _), (2, _), (3, _)] [_] _
          refine mg_if_eq 93 95 rfl rfl (by decide) (fun c_90 => ?_) (fun c_90 => absurd c_90 (by decide))
          have hr : st_rf n 8 q := fun _ => ⟨j4, hj4, hx4⟩
          obtain ⟨jb, hjb, ey⟩ : st_in n q := hr rfl
          subst ey
          have ljb := (hW.2.1 jb hjb).2.2.1
          have hlev : st_lev lv 8 p (nI jb) = max (0) (lv jb) + 1 := by
            unfold st_lev st_l
            rw [nI_clamp (by omega : jb < 2 ^ 31)]
            rfl
          refine mg_aload_n 96 rfl rfl rfl ?_
          refine mg_iload_n 97 rfl rfl rfl ?_
          refine mg_callV1 100 rfl (Nat.le_of_ble_eq_true rfl) pg_Mo_namesA rfl rfl ?_
          refine sm_namesA_8 (by omega) ?_
          show mm_Rn _ _ _ _ _ _ 100 [(0, _), (1, _), (2, _), (3, _)] [_] _
          refine mg_if_eq 103 112 rfl rfl (by decide) (fun c_100 => ?_) (fun c_100 => absurd c_100 (by decide))
          refine mg_iconst (v := 0) 113 rfl (by decide) rfl ?_
          refine mg_istore (L2 := [(0, _), (1, _), (2, _), (3, _), (4, _)]) 115 rfl (by decide) rfl rfl ?_
          refine mg_aload_n 116 rfl rfl rfl ?_
          refine mg_iload_n 117 rfl rfl rfl ?_
          refine mg_callV1 120 rfl (Nat.le_of_ble_eq_true rfl) pg_Mo_namesB rfl rfl ?_
          refine sm_namesB_8 (by omega) ?_
          show mm_Rn _ _ _ _ _ _ 120 [(0, _), (1, _), (2, _), (3, _), (4, _)] [_] _
          refine mg_if_eq 123 142 rfl rfl (by decide) (fun c_120 => absurd c_120 (by decide)) (fun c_120 => ?_)
          refine mg_aload_n 124 rfl rfl rfl ?_
          refine mg_getR 127 rfl rfl rfl rfl ?_
          refine mg_iload_n 128 rfl rfl rfl ?_
          refine mg_iald (v := nI (lv jb)) 129 rfl rfl (vp_in_nI (by omega : jb < 60) (by omega)) (by rw [nI_clamp (by omega)]; exact (hG.2.1 jb hjb).2.2.2) rfl ?_
          refine mg_iload 131 rfl rfl rfl ?_
          refine mg_ic_le 134 142 rfl rfl (by decide) (fun c_131 => ?_) (fun c_131 => ?_)
          · refine mg_iload 144 rfl rfl rfl ?_
            refine mg_bipush (v := 6) 146 rfl (by decide) rfl ?_
            refine mg_ic_ne 149 151 rfl rfl (by decide) (fun c_146 => ?_) (fun c_146 => absurd c_146 (by decide))
            have h6 : max (0) (lv jb) + 1 ≤ 6 := by
              first
              | (have e1 := (st_le (a := lv jb) 0 (0) rfl (by omega) (by omega)).mp c_131; omega)
              | (have e6 : lv jb ≠ 6 := fun h => c_146 (by rw [h]; rfl); have e1 : ¬ lv jb ≤ 0 := fun h => c_131 ((st_le (a := lv jb) 0 (0) rfl (by omega) (by omega)).mpr h); omega)
            refine mg_aload_n 152 rfl rfl rfl ?_
            refine mg_getI (v := nI n) 155 rfl rfl (Or.inl rfl) hsz rfl ?_
            refine mg_bipush (v := 60) 157 rfl (by decide) rfl ?_
            refine mg_ic_ne 160 163 rfl rfl (by decide) (fun c_157 => ?_) (fun c_157 => ?_)
            · have hn60 : n < 60 := by
                have := st_ne 60 c_157 rfl (by omega) (by omega)
                omega
              refine mg_aload_n 164 rfl rfl rfl ?_
              refine mg_getR 167 rfl rfl rfl rfl ?_
              refine mg_aload_n 168 rfl rfl rfl ?_
              refine mg_getI (v := nI n) 171 rfl rfl (Or.inl rfl) hsz rfl ?_
              refine mg_iload_n 172 rfl rfl rfl ?_
              refine mg_iast (j := n) 173 rfl rfl (vp_in_nI (by omega : n < 60) (by omega)) (nI_clamp (by omega)) rfl ?_
              refine mg_aload_n 174 rfl rfl rfl ?_
              refine mg_getR 177 rfl rfl rfl rfl ?_
              refine mg_aload_n 178 rfl rfl rfl ?_
              refine mg_getI (v := nI n) 181 rfl rfl (Or.inl rfl) hsz rfl ?_
              refine mg_iload_n 182 rfl rfl rfl ?_
              refine mg_iast (j := n) 183 rfl rfl (vp_in_nI (by omega : n < 60) (by omega)) (nI_clamp (by omega)) rfl ?_
              refine mg_aload_n 184 rfl rfl rfl ?_
              refine mg_getR 187 rfl rfl rfl rfl ?_
              refine mg_aload_n 188 rfl rfl rfl ?_
              refine mg_getI (v := nI n) 191 rfl rfl (Or.inl rfl) hsz rfl ?_
              refine mg_iload_n 192 rfl rfl rfl ?_
              refine mg_iast (j := n) 193 rfl rfl (vp_in_nI (by omega : n < 60) (by omega)) (nI_clamp (by omega)) rfl ?_
              refine mg_aload_n 194 rfl rfl rfl ?_
              refine mg_getR 197 rfl rfl rfl rfl ?_
              refine mg_aload_n 198 rfl rfl rfl ?_
              refine mg_getI (v := nI n) 201 rfl rfl (Or.inl rfl) hsz rfl ?_
              refine mg_iload 203 rfl rfl rfl ?_
              refine mg_iconst (v := 1) 204 rfl (by decide) rfl ?_
              refine mg_iadd (v := nI (max (0) (lv jb) + 1)) 205 rfl (by first | (have e1 := (st_le (a := lv jb) 0 (0) rfl (by omega) (by omega)).mp c_131; rw [Nat.max_eq_left e1]; exact nI_1 _) | (have e1 : ¬ lv jb ≤ 0 := fun h => c_131 ((st_le (a := lv jb) 0 (0) rfl (by omega) (by omega)).mpr h); rw [Nat.max_eq_right (by omega)]; exact nI_1 _)) rfl ?_
              refine mg_iast (j := n) 206 rfl rfl (vp_in_nI (by omega : n < 60) (by omega)) (nI_clamp (by omega)) rfl ?_
              refine mg_aload_n 207 rfl rfl rfl ?_
              refine mg_dup 208 rfl rfl ?_
              refine mg_getI (v := nI n) 211 rfl rfl (Or.inl rfl) hsz rfl ?_
              refine mg_iconst (v := 1) 212 rfl (by decide) rfl ?_
              refine mg_iadd (v := nI (n + 1)) 213 rfl (nI_1 n) rfl ?_
              refine mg_putI 216 rfl rfl rfl rfl ?_
              refine mg_aload_n 217 rfl rfl rfl ?_
              refine mg_getI (v := nI (n + 1)) 220 rfl rfl (Or.inl rfl) rfl rfl ?_
              refine mg_iconst (v := 1) 221 rfl (by decide) rfl ?_
              refine mg_isub (v := nI n) 222 rfl (nI_pred n) rfl ?_
              refine mg_iret rfl rfl ?_
              have := kN 8 _ (by omega) rfl hl (fun _ => ⟨jb, hjb, rfl⟩) hlev.symm (by omega) hn60
              exact this
            · refine mg_bipush (v := (-2)) 162 rfl (by decide) rfl ?_
              refine mg_iret rfl rfl ?_
              exact kF ⟨8, by omega, rfl, hl, (fun _ => ⟨jb, hjb, rfl⟩), by omega⟩ ((st_eq 60 60 rfl (by omega) (by omega)).mp c_157)
          · refine mg_aload_n 135 rfl rfl rfl ?_
            refine mg_getR 138 rfl rfl rfl rfl ?_
            refine mg_iload_n 139 rfl rfl rfl ?_
            refine mg_iald (v := nI (lv jb)) 140 rfl rfl (vp_in_nI (by omega : jb < 60) (by omega)) (by rw [nI_clamp (by omega)]; exact (hG.2.1 jb hjb).2.2.2) rfl ?_
            refine mg_istore (L2 := [(0, _), (1, _), (2, _), (3, _), (4, _)]) 142 rfl (by decide) rfl rfl ?_
            refine mg_iload 144 rfl rfl rfl ?_
            refine mg_bipush (v := 6) 146 rfl (by decide) rfl ?_
            refine mg_ic_ne 149 151 rfl rfl (by decide) (fun c_146 => ?_) (fun c_146 => ?_)
            · have h6 : max (0) (lv jb) + 1 ≤ 6 := by
                first
                | (have e1 := (st_le (a := lv jb) 0 (0) rfl (by omega) (by omega)).mp c_131; omega)
                | (have e6 : lv jb ≠ 6 := fun h => c_146 (by rw [h]; rfl); have e1 : ¬ lv jb ≤ 0 := fun h => c_131 ((st_le (a := lv jb) 0 (0) rfl (by omega) (by omega)).mpr h); omega)
              refine mg_aload_n 152 rfl rfl rfl ?_
              refine mg_getI (v := nI n) 155 rfl rfl (Or.inl rfl) hsz rfl ?_
              refine mg_bipush (v := 60) 157 rfl (by decide) rfl ?_
              refine mg_ic_ne 160 163 rfl rfl (by decide) (fun c_157 => ?_) (fun c_157 => ?_)
              · have hn60 : n < 60 := by
                  have := st_ne 60 c_157 rfl (by omega) (by omega)
                  omega
                refine mg_aload_n 164 rfl rfl rfl ?_
                refine mg_getR 167 rfl rfl rfl rfl ?_
                refine mg_aload_n 168 rfl rfl rfl ?_
                refine mg_getI (v := nI n) 171 rfl rfl (Or.inl rfl) hsz rfl ?_
                refine mg_iload_n 172 rfl rfl rfl ?_
                refine mg_iast (j := n) 173 rfl rfl (vp_in_nI (by omega : n < 60) (by omega)) (nI_clamp (by omega)) rfl ?_
                refine mg_aload_n 174 rfl rfl rfl ?_
                refine mg_getR 177 rfl rfl rfl rfl ?_
                refine mg_aload_n 178 rfl rfl rfl ?_
                refine mg_getI (v := nI n) 181 rfl rfl (Or.inl rfl) hsz rfl ?_
                refine mg_iload_n 182 rfl rfl rfl ?_
                refine mg_iast (j := n) 183 rfl rfl (vp_in_nI (by omega : n < 60) (by omega)) (nI_clamp (by omega)) rfl ?_
                refine mg_aload_n 184 rfl rfl rfl ?_
                refine mg_getR 187 rfl rfl rfl rfl ?_
                refine mg_aload_n 188 rfl rfl rfl ?_
                refine mg_getI (v := nI n) 191 rfl rfl (Or.inl rfl) hsz rfl ?_
                refine mg_iload_n 192 rfl rfl rfl ?_
                refine mg_iast (j := n) 193 rfl rfl (vp_in_nI (by omega : n < 60) (by omega)) (nI_clamp (by omega)) rfl ?_
                refine mg_aload_n 194 rfl rfl rfl ?_
                refine mg_getR 197 rfl rfl rfl rfl ?_
                refine mg_aload_n 198 rfl rfl rfl ?_
                refine mg_getI (v := nI n) 201 rfl rfl (Or.inl rfl) hsz rfl ?_
                refine mg_iload 203 rfl rfl rfl ?_
                refine mg_iconst (v := 1) 204 rfl (by decide) rfl ?_
                refine mg_iadd (v := nI (max (0) (lv jb) + 1)) 205 rfl (by first | (have e1 := (st_le (a := lv jb) 0 (0) rfl (by omega) (by omega)).mp c_131; rw [Nat.max_eq_left e1]; exact nI_1 _) | (have e1 : ¬ lv jb ≤ 0 := fun h => c_131 ((st_le (a := lv jb) 0 (0) rfl (by omega) (by omega)).mpr h); rw [Nat.max_eq_right (by omega)]; exact nI_1 _)) rfl ?_
                refine mg_iast (j := n) 206 rfl rfl (vp_in_nI (by omega : n < 60) (by omega)) (nI_clamp (by omega)) rfl ?_
                refine mg_aload_n 207 rfl rfl rfl ?_
                refine mg_dup 208 rfl rfl ?_
                refine mg_getI (v := nI n) 211 rfl rfl (Or.inl rfl) hsz rfl ?_
                refine mg_iconst (v := 1) 212 rfl (by decide) rfl ?_
                refine mg_iadd (v := nI (n + 1)) 213 rfl (nI_1 n) rfl ?_
                refine mg_putI 216 rfl rfl rfl rfl ?_
                refine mg_aload_n 217 rfl rfl rfl ?_
                refine mg_getI (v := nI (n + 1)) 220 rfl rfl (Or.inl rfl) rfl rfl ?_
                refine mg_iconst (v := 1) 221 rfl (by decide) rfl ?_
                refine mg_isub (v := nI n) 222 rfl (nI_pred n) rfl ?_
                refine mg_iret rfl rfl ?_
                have := kN 8 _ (by omega) rfl hl (fun _ => ⟨jb, hjb, rfl⟩) hlev.symm (by omega) hn60
                exact this
              · refine mg_bipush (v := (-2)) 162 rfl (by decide) rfl ?_
                refine mg_iret rfl rfl ?_
                exact kF ⟨8, by omega, rfl, hl, (fun _ => ⟨jb, hjb, rfl⟩), by omega⟩ ((st_eq 60 60 rfl (by omega) (by omega)).mp c_157)
            · refine mg_iconst (v := (-1)) 150 rfl (by decide) rfl ?_
              refine mg_iret rfl rfl ?_
              refine kR (fun h => ?_)
              have h6 := (st_ok_k (by omega) h).2.2
              rw [hlev] at h6
              first | exact absurd c_146 (by decide) | (have e6 := (st_eq (a := lv jb) 6 6 rfl (by omega) (by omega)).mp c_146; omega) | (have e6 := (st_eq (a := lv ja) 6 6 rfl (by omega) (by omega)).mp c_146; omega)
set_option maxHeartbeats 2000000 in
set_option maxRecDepth 20000 in
theorem sm_rule {d : Nat} {M : mm_M} {Q : mm_Qt} {x p : Int32} {n : Nat} {kd lv : Nat → Nat} {a b ru : Nat → Int32} (hG : st_gM M n kd lv a b ru) (hW : st_wf n kd lv a b ru) (hd : 2 ≤ d) (kR : ¬ (st_in 8 x ∧ st_in n p) → Q (some (.inl (-1))) M) (kN : ∀ r j, r < 8 → j < n → x = nI r → p = nI j → Q (some (.inl 0)) (mm_up M 26 r (nI j))) : mm_Ev pg ly d 70 [.inr 21, .inl x, .inl p] M Q := by
  have hn : n ≤ 60 := hW.1
  have hsz : M 21 0 = nI n := hG.1
  obtain ⟨d, rfl⟩ : ∃ e, d = e + 1 := ⟨d - 1, by omega⟩
  refine mg_body yy_Mo_rule pg_Mo_rule (Nat.le_of_ble_eq_true rfl) ?_
  show mm_Rn _ _ _ _ _ _ 0 [(0, _), (1, _), (2, _)] [] _
  refine mg_aload_n 1 rfl rfl rfl ?_
  refine mg_iload_n 2 rfl rfl rfl ?_
  refine mg_iconst (v := 0) 3 rfl (by decide) rfl ?_
  refine mg_bipush (v := 7) 5 rfl (by decide) rfl ?_
  refine mg_callV3 8 rfl (Nat.le_of_ble_eq_true rfl) pg_Mo_out rfl rfl ?_
  refine sm_out 7 (by omega) rfl (by omega) (fun hno => ?_) (fun r hr hx => ?_)
  · show mm_Rn _ _ _ _ _ _ 8 [(0, _), (1, _), (2, _)] [_] _
    refine mg_if_ne 11 19 rfl rfl (by decide) (fun c_8 => ?_) (fun c_8 => absurd c_8 (by decide))
    refine mg_iconst (v := (-1)) 20 rfl (by decide) rfl ?_
    refine mg_iret rfl rfl ?_
    first | exact kR (fun h => hno h.2) | exact kR (fun h => hno h.1)
  · show mm_Rn _ _ _ _ _ _ 8 [(0, _), (1, _), (2, _)] [_] _
    refine mg_if_ne 11 19 rfl rfl (by decide) (fun c_8 => absurd c_8 (by decide)) (fun c_8 => ?_)
    refine mg_aload_n 12 rfl rfl rfl ?_
    refine mg_iload_n 13 rfl rfl rfl ?_
    refine mg_callV1 16 rfl (Nat.le_of_ble_eq_true rfl) pg_Mo_no rfl rfl ?_
    refine sm_no hsz hn (by omega) (fun hno => ?_) (fun j hj hy => ?_)
    · show mm_Rn _ _ _ _ _ _ 16 [(0, _), (1, _), (2, _)] [_] _
      refine mg_if_eq 19 21 rfl rfl (by decide) (fun c_16 => absurd c_16 (by decide)) (fun c_16 => ?_)
      refine mg_iconst (v := (-1)) 20 rfl (by decide) rfl ?_
      refine mg_iret rfl rfl ?_
      first | exact kR (fun h => hno h.2) | exact kR (fun h => hno h.1)
    · show mm_Rn _ _ _ _ _ _ 16 [(0, _), (1, _), (2, _)] [_] _
      refine mg_if_eq 19 21 rfl rfl (by decide) (fun c_16 => ?_) (fun c_16 => absurd c_16 (by decide))
      subst hx
      subst hy
      refine mg_aload_n 22 rfl rfl rfl ?_
      refine mg_getR 25 rfl rfl rfl rfl ?_
      refine mg_iload_n 26 rfl rfl rfl ?_
      refine mg_iload_n 27 rfl rfl rfl ?_
      refine mg_iast (j := r) 28 rfl rfl (vp_in_nI (by omega : r < 8) (by omega)) (nI_clamp (by omega)) rfl ?_
      refine mg_iconst (v := 0) 29 rfl (by decide) rfl ?_
      refine mg_iret rfl rfl ?_
      exact kN r j hr hj rfl rfl
set_option maxHeartbeats 2000000 in
set_option maxRecDepth 20000 in
theorem sm_feed {d : Nat} {M : mm_M} {Q : mm_Qt} {x : Int32} {z : Nat} (hz : M 21 1 = nI z) (hz40 : z ≤ 40) (hd : 2 ≤ d) (kR : ¬ st_in 10 x → Q (some (.inl (-1))) M) (kF : st_in 10 x → z = 40 → Q (some (.inl (-2))) M) (kN : ∀ j, j < 10 → x = nI j → z < 40 → Q (some (.inl (nI (z + 1)))) (mm_up (mm_up M 33 z (nI j)) 21 1 (nI (z + 1)))) : mm_Ev pg ly d 89 [.inr 21, .inl x] M Q := by
  obtain ⟨d, rfl⟩ : ∃ e, d = e + 1 := ⟨d - 1, by omega⟩
  refine mg_body yy_Mo_feed pg_Mo_feed (Nat.le_of_ble_eq_true rfl) ?_
  show mm_Rn _ _ _ _ _ _ 0 [(0, _), (1, _)] [] _
  refine mg_aload_n 1 rfl rfl rfl ?_
  refine mg_iload_n 2 rfl rfl rfl ?_
  refine mg_iconst (v := 0) 3 rfl (by decide) rfl ?_
  refine mg_bipush (v := 9) 5 rfl (by decide) rfl ?_
  refine mg_callV3 8 rfl (Nat.le_of_ble_eq_true rfl) pg_Mo_out rfl rfl ?_
  refine sm_out 9 (by omega) rfl (by omega) (fun hno => ?_) (fun j hj hx => ?_)
  · show mm_Rn _ _ _ _ _ _ 8 [(0, _), (1, _)] [_] _
    refine mg_if_eq 11 13 rfl rfl (by decide) (fun c_8 => absurd c_8 (by decide)) (fun c_8 => ?_)
    refine mg_iconst (v := (-1)) 12 rfl (by decide) rfl ?_
    refine mg_iret rfl rfl ?_
    exact kR hno
  · show mm_Rn _ _ _ _ _ _ 8 [(0, _), (1, _)] [_] _
    refine mg_if_eq 11 13 rfl rfl (by decide) (fun c_8 => ?_) (fun c_8 => absurd c_8 (by decide))
    subst hx
    refine mg_aload_n 14 rfl rfl rfl ?_
    refine mg_getI (v := nI z) 17 rfl rfl (Or.inl rfl) hz rfl ?_
    refine mg_bipush (v := 40) 19 rfl (by decide) rfl ?_
    refine mg_ic_ne 22 25 rfl rfl (by decide) (fun c_19 => ?_) (fun c_19 => ?_)
    · have hl : z < 40 := by
        have := st_ne 40 c_19 rfl (by omega) (by omega)
        omega
      refine mg_aload_n 26 rfl rfl rfl ?_
      refine mg_getR 29 rfl rfl rfl rfl ?_
      refine mg_aload_n 30 rfl rfl rfl ?_
      refine mg_getI (v := nI z) 33 rfl rfl (Or.inl rfl) hz rfl ?_
      refine mg_iload_n 34 rfl rfl rfl ?_
      refine mg_iast (j := z) 35 rfl rfl (vp_in_nI hl (by omega)) (nI_clamp (by omega)) rfl ?_
      refine mg_aload_n 36 rfl rfl rfl ?_
      refine mg_dup 37 rfl rfl ?_
      refine mg_getI (v := nI z) 40 rfl rfl (Or.inl rfl) hz rfl ?_
      refine mg_iconst (v := 1) 41 rfl (by decide) rfl ?_
      refine mg_iadd (v := nI (z + 1)) 42 rfl (nI_1 z) rfl ?_
      refine mg_putI 45 rfl rfl rfl rfl ?_
      refine mg_aload_n 46 rfl rfl rfl ?_
      refine mg_getI (v := nI (z + 1)) 49 rfl rfl (Or.inl rfl) rfl rfl ?_
      refine mg_iret rfl rfl ?_
      exact kN j hj rfl hl
    · refine mg_bipush (v := (-2)) 24 rfl (by decide) rfl ?_
      refine mg_iret rfl rfl ?_
      exact kF ⟨j, hj, rfl⟩ ((st_eq 40 40 rfl (by omega) (by omega)).mp c_19)
set_option maxHeartbeats 2000000 in
set_option maxRecDepth 20000 in
theorem sm_wipe {d : Nat} {M : mm_M} {Q : mm_Qt} (hd : 1 ≤ d) (k : Q (some (.inl (M 21 1))) (mm_up M 21 1 0)) : mm_Ev pg ly d 90 [.inr 21] M Q := by
  obtain ⟨d, rfl⟩ : ∃ e, d = e + 1 := ⟨d - 1, by omega⟩
  refine mg_body yy_Mo_wipe pg_Mo_wipe (Nat.le_of_ble_eq_true rfl) ?_
  show mm_Rn _ _ _ _ _ _ 0 [(0, _)] [] _
  refine mg_aload_n 1 rfl rfl rfl ?_
  refine mg_getI 4 rfl rfl (Or.inl rfl) rfl rfl ?_
  refine mg_istore_n (L2 := [(0, _), (1, _)]) 5 rfl (by decide) rfl rfl ?_
  refine mg_aload_n 6 rfl rfl rfl ?_
  refine mg_iconst (v := 0) 7 rfl (by decide) rfl ?_
  refine mg_putI 10 rfl rfl rfl rfl ?_
  refine mg_iload_n 11 rfl rfl rfl ?_
  refine mg_iret rfl rfl ?_
  exact k
set_option maxHeartbeats 2000000 in
set_option maxRecDepth 20000 in
theorem sm_place {d : Nat} {M : mm_M} {Q : mm_Qt} (hd : 1 ≤ d) (k : Q (some (.inl (M 21 12))) M) : mm_Ev pg ly d 103 [.inr 21] M Q := by
  obtain ⟨d, rfl⟩ : ∃ e, d = e + 1 := ⟨d - 1, by omega⟩
  refine mg_body yy_Mo_place pg_Mo_place (Nat.le_of_ble_eq_true rfl) ?_
  show mm_Rn _ _ _ _ _ _ 0 [(0, _)] [] _
  refine mg_aload_n 1 rfl rfl rfl ?_
  refine mg_getI 4 rfl rfl (Or.inl rfl) rfl rfl ?_
  refine mg_iret rfl rfl ?_
  exact k
set_option maxHeartbeats 2000000 in
set_option maxRecDepth 20000 in
theorem sm_due {d : Nat} {M : mm_M} {Q : mm_Qt} (hd : 1 ≤ d) (k : Q (some (.inl (M 21 13))) M) : mm_Ev pg ly d 104 [.inr 21] M Q := by
  obtain ⟨d, rfl⟩ : ∃ e, d = e + 1 := ⟨d - 1, by omega⟩
  refine mg_body yy_Mo_due pg_Mo_due (Nat.le_of_ble_eq_true rfl) ?_
  show mm_Rn _ _ _ _ _ _ 0 [(0, _)] [] _
  refine mg_aload_n 1 rfl rfl rfl ?_
  refine mg_getI 4 rfl rfl (Or.inl rfl) rfl rfl ?_
  refine mg_iret rfl rfl ?_
  exact k
set_option maxHeartbeats 2000000 in
set_option maxRecDepth 20000 in
theorem sm_tree {d : Nat} {M : mm_M} {Q : mm_Qt} {x p : Int32} {t : Nat} (ht : M 21 14 = nI t) (ht90 : t ≤ 90) (hd : 2 ≤ d) (kR : ¬ st_in 3 p → Q (some (.inl (-1))) M) (kN : st_in 3 p → ¬ st_in t x → Q (some (.inl (-10))) M) (k0 : ∀ j, j < t → x = nI j → p = nI 0 → Q (some (.inl (M 37 j))) M) (k1 : ∀ j, j < t → x = nI j → p = nI 1 → Q (some (.inl (M 38 j))) M) (k2 : ∀ j, j < t → x = nI j → p = nI 2 → Q (some (.inl (M 39 j))) M) : mm_Ev pg ly d 105 [.inr 21, .inl x, .inl p] M Q := by
  obtain ⟨d, rfl⟩ : ∃ e, d = e + 1 := ⟨d - 1, by omega⟩
  refine mg_body yy_Mo_tree pg_Mo_tree (Nat.le_of_ble_eq_true rfl) ?_
  show mm_Rn _ _ _ _ _ _ 0 [(0, _), (1, _), (2, _)] [] _
  refine mg_aload_n 1 rfl rfl rfl ?_
  refine mg_iload_n 2 rfl rfl rfl ?_
  refine mg_iconst (v := 0) 3 rfl (by decide) rfl ?_
  refine mg_iconst (v := 2) 4 rfl (by decide) rfl ?_
  refine mg_callV3 7 rfl (Nat.le_of_ble_eq_true rfl) pg_Mo_out rfl rfl ?_
  refine sm_out 2 (by omega) rfl (by omega) (fun hno => ?_) (fun w hw hp => ?_)
  · show mm_Rn _ _ _ _ _ _ 7 [(0, _), (1, _), (2, _)] [_] _
    refine mg_if_eq 10 12 rfl rfl (by decide) (fun c_7 => absurd c_7 (by decide)) (fun c_7 => ?_)
    refine mg_iconst (v := (-1)) 11 rfl (by decide) rfl ?_
    refine mg_iret rfl rfl ?_
    exact kR hno
  · show mm_Rn _ _ _ _ _ _ 7 [(0, _), (1, _), (2, _)] [_] _
    refine mg_if_eq 10 12 rfl rfl (by decide) (fun c_7 => ?_) (fun c_7 => absurd c_7 (by decide))
    refine mg_iload_n 13 rfl rfl rfl ?_
    refine mg_if_lt 16 24 rfl rfl (by decide) (fun c_13 => ?_) (fun c_13 => ?_)
    · refine mg_bipush (v := (-10)) 26 rfl (by decide) rfl ?_
      refine mg_iret rfl rfl ?_
      first | exact kN ⟨w, hw, hp⟩ (st_in_no (m := t) (by omega) (Or.inl c_13)) | exact kN ⟨w, hw, hp⟩ (fun h => c_21 (by obtain ⟨j, hj, e⟩ := h; rw [e]; exact nI_lt hj (by omega)))
    · refine mg_iload_n 17 rfl rfl rfl ?_
      refine mg_aload_n 18 rfl rfl rfl ?_
      refine mg_getI (v := nI t) 21 rfl rfl (Or.inl rfl) ht rfl ?_
      refine mg_ic_lt 24 27 rfl rfl (by decide) (fun c_21 => ?_) (fun c_21 => ?_)
      · obtain ⟨j, hj0, hx⟩ := nI_of c_13
        subst hx
        have hj : j < t := (nI_ltI hj0 (by omega)).mp c_21
        subst hp
        rcases (by omega : w = 0 ∨ w = 1 ∨ w = 2) with rfl | rfl | rfl
        · refine mg_iload_n 28 rfl rfl rfl ?_
          refine mg_if_ne 31 40 rfl rfl (by decide) (fun c_28 => absurd c_28 (by decide)) (fun c_28 => ?_)
          refine mg_aload_n 32 rfl rfl rfl ?_
          refine mg_getR 35 rfl rfl rfl rfl ?_
          refine mg_iload_n 36 rfl rfl rfl ?_
          refine mg_iald (v := M 37 j) 37 rfl rfl (vp_in_nI (by omega : j < 91) (by omega)) (by rw [nI_clamp (by omega)]) rfl ?_
          refine mg_goto 60 rfl (by decide) ?_
          refine mg_iret rfl rfl ?_
          first | exact k0 j hj rfl rfl | exact k1 j hj rfl rfl | exact k2 j hj rfl rfl
        · refine mg_iload_n 28 rfl rfl rfl ?_
          refine mg_if_ne 31 40 rfl rfl (by decide) (fun c_28 => ?_) (fun c_28 => absurd c_28 (by decide))
          refine mg_iload_n 41 rfl rfl rfl ?_
          refine mg_iconst (v := 1) 42 rfl (by decide) rfl ?_
          refine mg_ic_ne 45 54 rfl rfl (by decide) (fun c_42 => absurd c_42 (by decide)) (fun c_42 => ?_)
          refine mg_aload_n 46 rfl rfl rfl ?_
          refine mg_getR 49 rfl rfl rfl rfl ?_
          refine mg_iload_n 50 rfl rfl rfl ?_
          refine mg_iald (v := M 38 j) 51 rfl rfl (vp_in_nI (by omega : j < 91) (by omega)) (by rw [nI_clamp (by omega)]) rfl ?_
          refine mg_goto 60 rfl (by decide) ?_
          refine mg_iret rfl rfl ?_
          first | exact k0 j hj rfl rfl | exact k1 j hj rfl rfl | exact k2 j hj rfl rfl
        · refine mg_iload_n 28 rfl rfl rfl ?_
          refine mg_if_ne 31 40 rfl rfl (by decide) (fun c_28 => ?_) (fun c_28 => absurd c_28 (by decide))
          refine mg_iload_n 41 rfl rfl rfl ?_
          refine mg_iconst (v := 1) 42 rfl (by decide) rfl ?_
          refine mg_ic_ne 45 54 rfl rfl (by decide) (fun c_42 => ?_) (fun c_42 => absurd c_42 (by decide))
          refine mg_aload_n 55 rfl rfl rfl ?_
          refine mg_getR 58 rfl rfl rfl rfl ?_
          refine mg_iload_n 59 rfl rfl rfl ?_
          refine mg_iald (v := M 39 j) 60 rfl rfl (vp_in_nI (by omega : j < 91) (by omega)) (by rw [nI_clamp (by omega)]) rfl ?_
          refine mg_iret rfl rfl ?_
          first | exact k0 j hj rfl rfl | exact k1 j hj rfl rfl | exact k2 j hj rfl rfl
      · refine mg_bipush (v := (-10)) 26 rfl (by decide) rfl ?_
        refine mg_iret rfl rfl ?_
        first | exact kN ⟨w, hw, hp⟩ (st_in_no (m := t) (by omega) (Or.inl c_13)) | exact kN ⟨w, hw, hp⟩ (fun h => c_21 (by obtain ⟨j, hj, e⟩ := h; rw [e]; exact nI_lt hj (by omega)))
