set_option maxHeartbeats 2000000 in
set_option maxRecDepth 20000 in
theorem pm_it_scan {d : Nat} {Q : mm_Qt} {rr : mm_V} {P : pv_D} {lv : Nat → Nat} {u : Nat → Prop} {z : Nat} {em fi nx us : Nat → Int32} (hP : pv_val P lv u z) (hd : 5 ≤ d) (V : pv_V) (N : Nat) : pm_IT P u z em fi nx us true V N d 60 (fun x M => mm_Rn pg ly d (mm_Ev pg ly d) yy_Mo_scan Q 9 [(0, .inr 21), (1, rr), (2, .inl x)] [] M) (fun M => Q none M) := by
  intro w n p c M s hw hw2 hH hn hc hp hN kS kE kC
  show mm_Rn pg ly d (mm_Ev pg ly d) yy_Mo_scan Q 9 [(0, .inr 21), (1, rr), (2, .inl (nI w))] [] M
  have h34 := hH.2.2.2.2.1
  have h35 := hH.2.2.2.2.2.1
  have hR := hH.2.1
  have hS := hH.2.2.2.2.2.2
  have h9 := (hP.1 n hn).1
  have hD60 := (hH.1.2.2.2 n hn).1
  have ech : (pv_ch P V n c true s).1 = if ms_b (pv_wel P n) (pv_tk P s.1) = true then 1 else 0 := by simp [pv_ch]
  have hgo : pm_go (60 + 60) c M s (pv_ch P V n c true s).2 M := by
    have e2 : (pv_ch P V n c true s).2 = s := by simp [pv_ch]
    rw [e2]
    exact ⟨pm_fr_rf M, pm_lo_rf _ _ M, hR, hH.2.2.1, hH.2.2.2.1⟩
  refine mg_aload_n 10 rfl rfl rfl ?_
  refine mg_getI (v := 0) 13 rfl rfl (Or.inl rfl) hH.2.2.2.1 rfl ?_
  refine mg_if_ne 16 101 rfl rfl (by decide) (fun c_13 => absurd c_13 (by decide)) (fun c_13 => ?_)
  refine mg_iload_n 17 rfl rfl rfl ?_
  refine mg_bipush (v := 60) 19 rfl (by decide) rfl ?_
  refine mg_ic_lt 22 101 rfl rfl (by decide) (fun c_19 => absurd c_19 (nI_nlt (b := 60) hw (by omega))) (fun c_19 => ?_)
  refine mg_aload_n 23 rfl rfl rfl ?_
  refine mg_iload_n 24 rfl rfl rfl ?_
  refine mg_iconst (v := 1) 25 rfl (by decide) rfl ?_
  refine mg_aload_n 26 rfl rfl rfl ?_
  refine mg_iload_n 27 rfl rfl rfl ?_
  refine mg_callV1 30 rfl (Nat.le_of_ble_eq_true rfl) pg_Mo_chooses rfl rfl ?_
  refine sm_chooses (by omega) h34 h35 hD60 (hH.1.2.2.2 n hn).2.1 h9 hp (by omega) (fun hck => ?_) (fun hno => ?_)
  · have hnl : st_nl (pv_kd P n) = true := by rcases hck with h | ⟨h | h, -⟩ <;> rw [h] <;> rfl
    show mm_Rn _ _ _ _ _ _ 30 [(0, _), (1, _), (2, _)] [_, _, _, _] _
    refine mg_if_eq 33 66 rfl rfl (by decide) (fun c_30 => absurd c_30 (by decide)) (fun c_30 => ?_)
    refine mg_aload_n 34 rfl rfl rfl ?_
    refine mg_aload_n 35 rfl rfl rfl ?_
    refine mg_getR 38 rfl rfl rfl rfl ?_
    refine mg_aload_n 39 rfl rfl rfl ?_
    refine mg_getR 42 rfl rfl rfl rfl ?_
    refine mg_iload_n 43 rfl rfl rfl ?_
    refine mg_iald (v := nI n) 44 rfl rfl (vp_in_nI (by omega : w < 120) (by omega)) (by rw [nI_clamp (by omega)]; exact h34) rfl ?_
    refine mg_iald (v := nI (pv_oa P n)) 45 rfl rfl (vp_in_nI (by omega : n < 60) (by omega)) (by rw [nI_clamp (by omega)]; exact ((hH.1.2.2.2 n hn).2.2.1 hnl)) rfl ?_
    refine mg_aload_n 46 rfl rfl rfl ?_
    refine mg_getR 49 rfl rfl rfl rfl ?_
    refine mg_aload_n 50 rfl rfl rfl ?_
    refine mg_getR 53 rfl rfl rfl rfl ?_
    refine mg_iload_n 54 rfl rfl rfl ?_
    refine mg_iald (v := nI n) 55 rfl rfl (vp_in_nI (by omega : w < 120) (by omega)) (by rw [nI_clamp (by omega)]; exact h34) rfl ?_
    refine mg_iald (v := nI (pv_kd P n)) 56 rfl rfl (vp_in_nI (by omega : n < 60) (by omega)) (by rw [nI_clamp (by omega)]; exact (hH.1.2.2.2 n hn).2.1) rfl ?_
    refine mg_callV2 59 rfl (Nat.le_of_ble_eq_true rfl) pg_Mo_chosen rfl rfl ?_
    refine sm_chosen hP hH.1 hn hnl hS.1 hR.1 (by omega) ?_
    show mm_Rn _ _ _ _ _ _ 59 [(0, _), (1, _), (2, _)] [_, _, _, _] _
    refine mg_if_eq 62 66 rfl rfl (by decide) (fun c_59 => ?_) (fun c_59 => ?_)
    · have e0 : (pv_ch P V n c true s).1 = 0 := ech.trans c_59
      have hne : (pv_ch P V n c true s).1 ≠ -8 := by rw [e0]; decide
      refine mg_iconst (v := 0) 67 rfl (by decide) rfl ?_
      refine mg_callV3 70 rfl (Nat.le_of_ble_eq_true rfl) pg_Mo_step rfl rfl ?_
      refine mm_Ev_mono pg ly _ _ _ _ _ _ (fun v M2 hnx => ?_) (by have q := kC hck hne M hgo; rw [e0] at q; exact q)
      obtain ⟨v, rfl, hE, h0⟩ := hnx
      show mm_Rn _ _ _ _ _ _ 70 [(0, _), (1, _), (2, _)] [_] _
      refine mg_istore_n (L2 := [(0, _), (1, _), (2, _), (3, _)]) 71 rfl (by decide) rfl rfl ?_
      refine mg_aload_n 72 rfl rfl rfl ?_
      refine mg_getI 75 rfl rfl (Or.inl rfl) rfl rfl ?_
      refine mg_if_eq 78 79 rfl rfl (by decide) (fun c_75 => ?_) (fun c_75 => ?_)
      · refine mg_iload_n 80 rfl rfl rfl ?_
        refine mg_if_ge 83 89 rfl rfl (by decide) (fun c_80 => ?_) (fun c_80 => ?_)
        · refine mg_iinc (v := _ + 1) (L2 := [(0, _), (1, _), (2, _), (3, _)]) 92 rfl rfl (by decide) rfl rfl rfl ?_
          refine mg_aload_n 93 rfl rfl rfl ?_
          refine mg_iload_n 94 rfl rfl rfl ?_
          refine mg_iload_n 95 rfl rfl rfl ?_
          refine mg_callV2 98 rfl (Nat.le_of_ble_eq_true rfl) pg_Mo_begin rfl rfl ?_
          refine mm_Ev_mono pg ly _ _ _ _ _ _ (fun v M3 hbg => ?_) ((h0 c_75).2 (fun h => absurd c_80 (Int32.not_le.mpr h)))
          obtain ⟨rfl, hl⟩ := hbg
          show mm_Rn _ _ _ _ _ _ 98 [(0, _), (1, _), (2, _), (3, _)] [] _
          refine mg_goto 9 rfl (by decide) ?_
          exact mg_loc [(0, _), (1, _), (2, _)] ⟨rfl, rfl, rfl, trivial⟩ hl
        · refine mg_iinc (v := _ + (-1)) (L2 := [(0, _), (1, _), (2, _), (3, _)]) 86 rfl rfl (by decide) rfl rfl rfl ?_
          refine mg_goto 98 rfl (by decide) ?_
          refine mg_goto 9 rfl (by decide) ?_
          exact mg_loc [(0, _), (1, _), (2, _)] ⟨rfl, rfl, rfl, trivial⟩ ((h0 c_75).1 (Classical.not_not.mp (fun h => c_80 (Int32.not_lt.mp h))))
      · refine mg_vret rfl rfl ?_
        exact hE c_75
    · have e1 : (pv_ch P V n c true s).1 = 1 := by
        rw [ech]
        by_cases hB : ms_b (pv_wel P n) (pv_tk P s.1) = true
        · rw [if_pos hB]
        · exact absurd (if_neg hB) c_59
      have hne : (pv_ch P V n c true s).1 ≠ -8 := by rw [e1]; decide
      refine mg_iconst (v := 1) 63 rfl (by decide) rfl ?_
      refine mg_goto 67 rfl (by decide) ?_
      refine mg_callV3 70 rfl (Nat.le_of_ble_eq_true rfl) pg_Mo_step rfl rfl ?_
      refine mm_Ev_mono pg ly _ _ _ _ _ _ (fun v M2 hnx => ?_) (by have q := kC hck hne M hgo; rw [e1] at q; exact q)
      obtain ⟨v, rfl, hE, h0⟩ := hnx
      show mm_Rn _ _ _ _ _ _ 70 [(0, _), (1, _), (2, _)] [_] _
      refine mg_istore_n (L2 := [(0, _), (1, _), (2, _), (3, _)]) 71 rfl (by decide) rfl rfl ?_
      refine mg_aload_n 72 rfl rfl rfl ?_
      refine mg_getI 75 rfl rfl (Or.inl rfl) rfl rfl ?_
      refine mg_if_eq 78 79 rfl rfl (by decide) (fun c_75 => ?_) (fun c_75 => ?_)
      · refine mg_iload_n 80 rfl rfl rfl ?_
        refine mg_if_ge 83 89 rfl rfl (by decide) (fun c_80 => ?_) (fun c_80 => ?_)
        · refine mg_iinc (v := _ + 1) (L2 := [(0, _), (1, _), (2, _), (3, _)]) 92 rfl rfl (by decide) rfl rfl rfl ?_
          refine mg_aload_n 93 rfl rfl rfl ?_
          refine mg_iload_n 94 rfl rfl rfl ?_
          refine mg_iload_n 95 rfl rfl rfl ?_
          refine mg_callV2 98 rfl (Nat.le_of_ble_eq_true rfl) pg_Mo_begin rfl rfl ?_
          refine mm_Ev_mono pg ly _ _ _ _ _ _ (fun v M3 hbg => ?_) ((h0 c_75).2 (fun h => absurd c_80 (Int32.not_le.mpr h)))
          obtain ⟨rfl, hl⟩ := hbg
          show mm_Rn _ _ _ _ _ _ 98 [(0, _), (1, _), (2, _), (3, _)] [] _
          refine mg_goto 9 rfl (by decide) ?_
          exact mg_loc [(0, _), (1, _), (2, _)] ⟨rfl, rfl, rfl, trivial⟩ hl
        · refine mg_iinc (v := _ + (-1)) (L2 := [(0, _), (1, _), (2, _), (3, _)]) 86 rfl rfl (by decide) rfl rfl rfl ?_
          refine mg_goto 98 rfl (by decide) ?_
          refine mg_goto 9 rfl (by decide) ?_
          exact mg_loc [(0, _), (1, _), (2, _)] ⟨rfl, rfl, rfl, trivial⟩ ((h0 c_75).1 (Classical.not_not.mp (fun h => c_80 (Int32.not_lt.mp h))))
      · refine mg_vret rfl rfl ?_
        exact hE c_75
  · show mm_Rn _ _ _ _ _ _ 30 [(0, _), (1, _), (2, _)] [_, _, _, _] _
    refine mg_if_eq 33 66 rfl rfl (by decide) (fun c_30 => ?_) (fun c_30 => absurd c_30 (by decide))
    refine mg_iconst (v := 0) 67 rfl (by decide) rfl ?_
    refine mg_callV3 70 rfl (Nat.le_of_ble_eq_true rfl) pg_Mo_step rfl rfl ?_
    refine mm_Ev_mono pg ly _ _ _ _ _ _ (fun v M2 hnx => ?_) (kS hno)
    obtain ⟨v, rfl, hE, h0⟩ := hnx
    show mm_Rn _ _ _ _ _ _ 70 [(0, _), (1, _), (2, _)] [_] _
    refine mg_istore_n (L2 := [(0, _), (1, _), (2, _), (3, _)]) 71 rfl (by decide) rfl rfl ?_
    refine mg_aload_n 72 rfl rfl rfl ?_
    refine mg_getI 75 rfl rfl (Or.inl rfl) rfl rfl ?_
    refine mg_if_eq 78 79 rfl rfl (by decide) (fun c_75 => ?_) (fun c_75 => ?_)
    · refine mg_iload_n 80 rfl rfl rfl ?_
      refine mg_if_ge 83 89 rfl rfl (by decide) (fun c_80 => ?_) (fun c_80 => ?_)
      · refine mg_iinc (v := _ + 1) (L2 := [(0, _), (1, _), (2, _), (3, _)]) 92 rfl rfl (by decide) rfl rfl rfl ?_
        refine mg_aload_n 93 rfl rfl rfl ?_
        refine mg_iload_n 94 rfl rfl rfl ?_
        refine mg_iload_n 95 rfl rfl rfl ?_
        refine mg_callV2 98 rfl (Nat.le_of_ble_eq_true rfl) pg_Mo_begin rfl rfl ?_
        refine mm_Ev_mono pg ly _ _ _ _ _ _ (fun v M3 hbg => ?_) ((h0 c_75).2 (fun h => absurd c_80 (Int32.not_le.mpr h)))
        obtain ⟨rfl, hl⟩ := hbg
        show mm_Rn _ _ _ _ _ _ 98 [(0, _), (1, _), (2, _), (3, _)] [] _
        refine mg_goto 9 rfl (by decide) ?_
        exact mg_loc [(0, _), (1, _), (2, _)] ⟨rfl, rfl, rfl, trivial⟩ hl
      · refine mg_iinc (v := _ + (-1)) (L2 := [(0, _), (1, _), (2, _), (3, _)]) 86 rfl rfl (by decide) rfl rfl rfl ?_
        refine mg_goto 98 rfl (by decide) ?_
        refine mg_goto 9 rfl (by decide) ?_
        exact mg_loc [(0, _), (1, _), (2, _)] ⟨rfl, rfl, rfl, trivial⟩ ((h0 c_75).1 (Classical.not_not.mp (fun h => c_80 (Int32.not_lt.mp h))))
    · refine mg_vret rfl rfl ?_
      exact hE c_75
set_option maxHeartbeats 2000000 in
set_option maxRecDepth 20000 in
theorem sm_scan {d : Nat} {M : mm_M} {Q : mm_Qt} {m c N : Nat} {s : pv_S} {P : pv_D} {lv : Nat → Nat} {u : Nat → Prop} {z : Nat} {em fi nx us : Nat → Int32} (hP : pv_val P lv u z) (hm : u m) (hc : c ≤ 6) (hD : pm_D M P u z em fi nx us) (hR : pm_rep M s) (h8 : M 21 8 = nI c) (h4 : M 21 4 = 0) (hS : pv_ok z s) (hN : 1500 ≤ s.2.1 + N) (hd : 6 ≤ d) (kE : (pv_vis P N m c true s).1 ≠ 0 → ∀ M', pm_er 60 true M s (pv_vis P N m c true s) M' → Q none M') (k0 : (pv_vis P N m c true s).1 = 0 → ∀ M', pm_go 60 c M s (pv_vis P N m c true s).2.2 M' → Q none M') : mm_Ev pg ly d 96 [.inr 21, .inl (nI m)] M Q := by
  obtain ⟨d, rfl⟩ : ∃ e, d = e + 1 := ⟨d - 1, by omega⟩
  refine mg_body yy_Mo_scan pg_Mo_scan (Nat.le_of_ble_eq_true rfl) ?_
  show mm_Rn _ _ _ _ _ _ 0 [(0, _), (1, _)] [] _
  refine mg_bipush (v := 60) 2 rfl (by decide) rfl ?_
  refine mg_istore_n (L2 := [(0, _), (1, _), (2, _)]) 3 rfl (by decide) rfl rfl ?_
  refine mg_aload_n 4 rfl rfl rfl ?_
  refine mg_iload_n 5 rfl rfl rfl ?_
  refine mg_iload_n 6 rfl rfl rfl ?_
  refine mg_callV2 9 rfl (Nat.le_of_ble_eq_true rfl) pg_Mo_begin rfl rfl ?_
  refine mm_Ev_mono pg ly _ _ _ _ _ _ (fun v M3 hbg => ?_) (pm_visit (L := (fun x M => mm_Rn pg ly d (mm_Ev pg ly d) yy_Mo_scan Q 9 [(0, .inr 21), (1, .inl (nI m)), (2, .inl x)] [] M)) (F := fun M => Q none M) hP (fun N => pm_it_scan hP (by omega) _ N) ?_ (Or.inl ⟨rfl, rfl⟩) (by omega) N 60 m c M s (by omega) (by have := (hP.1 m hm).2.2.1; omega) hc hD hR h8 h4 hS hm hN kE (fun e M' g => ?_))
  · obtain ⟨rfl, hl⟩ := hbg
    exact hl
  · intro x M' h9 hF
    show mm_Rn pg ly d (mm_Ev pg ly d) yy_Mo_scan Q 9 [(0, .inr 21), (1, .inl (nI m)), (2, .inl x)] [] M'
    refine mg_aload_n 10 rfl rfl rfl ?_
    refine mg_getI 13 rfl rfl (Or.inl rfl) rfl rfl ?_
    refine mg_if_ne 16 101 rfl rfl (by decide) (fun c_13 => ?_) (fun c_13 => absurd c_13 h9)
    refine mg_vret rfl rfl ?_
    exact hF
  · show mm_Rn pg ly d (mm_Ev pg ly d) yy_Mo_scan Q 9 [(0, .inr 21), (1, .inl (nI m)), (2, .inl (nI 60 + (-1)))] [] M'
    refine mg_aload_n 10 rfl rfl rfl ?_
    refine mg_getI (v := 0) 13 rfl rfl (Or.inl rfl) g.2.2.2.2 rfl ?_
    refine mg_if_ne 16 101 rfl rfl (by decide) (fun c_13 => absurd c_13 (by decide)) (fun c_13 => ?_)
    refine mg_iload_n 17 rfl rfl rfl ?_
    refine mg_bipush (v := 60) 19 rfl (by decide) rfl ?_
    refine mg_ic_lt 22 101 rfl rfl (by decide) (fun c_19 => ?_) (fun c_19 => absurd c_19 (by decide))
    refine mg_vret rfl rfl ?_
    exact k0 e M' g
set_option maxHeartbeats 2000000 in
set_option maxRecDepth 20000 in
theorem sm_scans {d : Nat} {M : mm_M} {Q : mm_Qt} {m c N : Nat} {s : pv_S} {P : pv_D} {lv : Nat → Nat} {u : Nat → Prop} {z : Nat} {em fi nx us : Nat → Int32} (hP : pv_val P lv u z) (hm : u m) (hc : c ≤ 6) (hD : pm_D M P u z em fi nx us) (hR : pm_rep M s) (h8 : M 21 8 = nI c) (h4 : M 21 4 = 0) (hS : pv_ok z s) (hN : 1500 ≤ s.2.1 + N) (hd : 7 ≤ d) (k8 : (pv_vis P N m c true s).1 = -8 → ∀ M', pm_er 60 true M s (pv_vis P N m c true s) M' → Q (some (.inl 0)) M') (k0 : (pv_vis P N m c true s).1 ≠ -8 → ∀ M', pm_go 60 c M s (s.1, (pv_vis P N m c true s).2.2.2) M' → Q (some (.inl (if (pv_vis P N m c true s).1 = 0 then 1 else 0))) M') : mm_Ev pg ly d 97 [.inr 21, .inl (nI m)] M Q := by
  obtain ⟨d, rfl⟩ : ∃ e, d = e + 1 := ⟨d - 1, by omega⟩
  refine mg_body yy_Mo_scans pg_Mo_scans (Nat.le_of_ble_eq_true rfl) ?_
  show mm_Rn _ _ _ _ _ _ 0 [(0, _), (1, _)] [] _
  refine mg_aload_n 1 rfl rfl rfl ?_
  refine mg_getI (v := nI s.1) 4 rfl rfl (Or.inl rfl) hR.1 rfl ?_
  refine mg_istore_n (L2 := [(0, _), (1, _), (2, _)]) 5 rfl (by decide) rfl rfl ?_
  refine mg_aload_n 6 rfl rfl rfl ?_
  refine mg_getI (v := nI c) 9 rfl rfl (Or.inl rfl) h8 rfl ?_
  refine mg_istore_n (L2 := [(0, _), (1, _), (2, _), (3, _)]) 10 rfl (by decide) rfl rfl ?_
  refine mg_aload_n 11 rfl rfl rfl ?_
  refine mg_iload_n 12 rfl rfl rfl ?_
  refine mg_callV1 15 rfl (Nat.le_of_ble_eq_true rfl) pg_Mo_scan rfl rfl ?_
  refine sm_scan hP hm hc hD hR h8 h4 hS hN (by omega) (fun e M1 g => ?_) (fun e M1 g => ?_)
  · show mm_Rn _ _ _ _ _ _ 15 [(0, _), (1, _), (2, _), (3, _)] [] _
    refine mg_aload_n 16 rfl rfl rfl ?_
    refine mg_getI (v := (pv_vis P N m c true s).1) 19 rfl rfl (Or.inl rfl) g.2.2.2.2.2.1 rfl ?_
    refine mg_bipush (v := (-8)) 21 rfl (by decide) rfl ?_
    refine mg_ic_ne 24 26 rfl rfl (by decide) (fun c_21 => ?_) (fun c_21 => ?_)
    · refine mg_aload_n 27 rfl rfl rfl ?_
      refine mg_getI (v := (pv_vis P N m c true s).1) 30 rfl rfl (Or.inl rfl) g.2.2.2.2.2.1 rfl ?_
      refine mg_if_ne 33 37 rfl rfl (by decide) (fun c_30 => ?_) (fun c_30 => absurd c_30 e)
      refine mg_iconst (v := 0) 38 rfl (by decide) rfl ?_
      refine mg_istore (L2 := [(0, _), (1, _), (2, _), (3, _), (4, _)]) 40 rfl (by decide) rfl rfl ?_
      rw [if_neg e] at k0
      refine mg_aload_n 41 rfl rfl rfl ?_
      refine mg_iconst (v := 0) 42 rfl (by decide) rfl ?_
      refine mg_putI 45 rfl rfl rfl rfl ?_
      refine mg_aload_n 46 rfl rfl rfl ?_
      refine mg_iload_n 47 rfl rfl rfl ?_
      refine mg_putI 50 rfl rfl rfl rfl ?_
      refine mg_aload_n 51 rfl rfl rfl ?_
      refine mg_iload_n 52 rfl rfl rfl ?_
      refine mg_putI 55 rfl rfl rfl rfl ?_
      refine mg_iload 57 rfl rfl rfl ?_
      refine mg_zret rfl rfl (by first | exact Or.inl rfl | exact Or.inr rfl) ?_
      exact k0 c_21 (mm_up (mm_up (mm_up M1 21 4 0) 21 5 (nI s.1)) 21 8 (nI c)) ⟨pm_fr_tr g.1 (pm_fr_tr (pm_fr_up1 (by decide)) (pm_fr_tr (pm_fr_up1 (by decide)) (pm_fr_up1 (by decide)))), g.2.1, ⟨rfl, g.2.2.2.1, g.2.2.2.2.1 rfl⟩, rfl, rfl⟩
    · have e8 : (pv_vis P N m c true s).1 = -8 := c_21
      refine mg_iconst (v := 0) 25 rfl (by decide) rfl ?_
      refine mg_zret rfl rfl (by first | exact Or.inl rfl | exact Or.inr rfl) ?_
      exact k8 e8 M1 g
  · show mm_Rn _ _ _ _ _ _ 15 [(0, _), (1, _), (2, _), (3, _)] [] _
    refine mg_aload_n 16 rfl rfl rfl ?_
    refine mg_getI (v := 0) 19 rfl rfl (Or.inl rfl) g.2.2.2.2 rfl ?_
    refine mg_bipush (v := (-8)) 21 rfl (by decide) rfl ?_
    refine mg_ic_ne 24 26 rfl rfl (by decide) (fun c_21 => ?_) (fun c_21 => absurd c_21 (by decide))
    refine mg_aload_n 27 rfl rfl rfl ?_
    refine mg_getI (v := 0) 30 rfl rfl (Or.inl rfl) g.2.2.2.2 rfl ?_
    refine mg_if_ne 33 37 rfl rfl (by decide) (fun c_30 => absurd c_30 (by decide)) (fun c_30 => ?_)
    refine mg_iconst (v := 1) 34 rfl (by decide) rfl ?_
    refine mg_goto 38 rfl (by decide) ?_
    refine mg_istore (L2 := [(0, _), (1, _), (2, _), (3, _), (4, _)]) 40 rfl (by decide) rfl rfl ?_
    rw [if_pos e] at k0
    refine mg_aload_n 41 rfl rfl rfl ?_
    refine mg_iconst (v := 0) 42 rfl (by decide) rfl ?_
    refine mg_putI 45 rfl rfl rfl rfl ?_
    refine mg_aload_n 46 rfl rfl rfl ?_
    refine mg_iload_n 47 rfl rfl rfl ?_
    refine mg_putI 50 rfl rfl rfl rfl ?_
    refine mg_aload_n 51 rfl rfl rfl ?_
    refine mg_iload_n 52 rfl rfl rfl ?_
    refine mg_putI 55 rfl rfl rfl rfl ?_
    refine mg_iload 57 rfl rfl rfl ?_
    refine mg_zret rfl rfl (by first | exact Or.inl rfl | exact Or.inr rfl) ?_
    exact k0 (by rw [e]; decide) (mm_up (mm_up (mm_up M1 21 4 0) 21 5 (nI s.1)) 21 8 (nI c)) ⟨pm_fr_tr g.1 (pm_fr_tr (pm_fr_up1 (by decide)) (pm_fr_tr (pm_fr_up1 (by decide)) (pm_fr_up1 (by decide)))), g.2.1, ⟨rfl, g.2.2.1.2.1, g.2.2.1.2.2⟩, rfl, rfl⟩
set_option maxHeartbeats 2000000 in
set_option maxRecDepth 20000 in
theorem sm_picks {d : Nat} {M : mm_M} {Q : mm_Qt} {w n p c N : Nat} {s : pv_S} {P : pv_D} {lv : Nat → Nat} {u : Nat → Prop} {z : Nat} {em fi nx us : Nat → Int32} (hP : pv_val P lv u z) (hw : w < 60) (hH : pm_hd P u z em fi nx us M s c w n p) (hn : u n) (hc : c ≤ 6) (hp : p < 2000) (hN : 1500 ≤ s.2.1 + N) (hd : 8 ≤ d) (kn : ¬ pm_ck (pv_kd P n) p → Q (some (.inl 0)) M) (kE : pm_ck (pv_kd P n) p → (pv_ch P (pv_vis P N) n c false s).1 = -8 → ∀ M', pm_er 0 false M s (-8, 0, (pv_ch P (pv_vis P N) n c false s).2) M' → Q (some (.inl 0)) M') (k1 : pm_ck (pv_kd P n) p → (pv_ch P (pv_vis P N) n c false s).1 ≠ -8 → ∀ M', pm_go 60 c M s (pv_ch P (pv_vis P N) n c false s).2 M' → Q (some (.inl (pv_ch P (pv_vis P N) n c false s).1)) M') : mm_Ev pg ly d 100 [.inr 21, .inl (nI w)] M Q := by
  have h34 := hH.2.2.2.2.1
  have h35 := hH.2.2.2.2.2.1
  have hS := hH.2.2.2.2.2.2
  have h9 := (hP.1 n hn).1
  have hD60 := (hH.1.2.2.2 n hn).1
  have hkd := (hH.1.2.2.2 n hn).2.1
  obtain ⟨d, rfl⟩ : ∃ e, d = e + 1 := ⟨d - 1, by omega⟩
  refine mg_body yy_Mo_picks pg_Mo_picks (Nat.le_of_ble_eq_true rfl) ?_
  show mm_Rn _ _ _ _ _ _ 0 [(0, _), (1, _)] [] _
  refine mg_aload_n 1 rfl rfl rfl ?_
  refine mg_getR 4 rfl rfl rfl rfl ?_
  refine mg_iload_n 5 rfl rfl rfl ?_
  refine mg_iald (v := nI n) 6 rfl rfl (vp_in_nI (by omega : w < 120) (by omega)) (by rw [nI_clamp (by omega)]; exact h34) rfl ?_
  refine mg_istore_n (L2 := [(0, _), (1, _), (2, _)]) 7 rfl (by decide) rfl rfl ?_
  refine mg_aload_n 8 rfl rfl rfl ?_
  refine mg_getR 11 rfl rfl rfl rfl ?_
  refine mg_iload_n 12 rfl rfl rfl ?_
  refine mg_iald (v := M 23 n) 13 rfl rfl (vp_in_nI (by omega : n < 60) (by omega)) (by rw [nI_clamp (by omega)]) rfl ?_
  refine mg_istore_n (L2 := [(0, _), (1, _), (2, _), (3, _)]) 14 rfl (by decide) rfl rfl ?_
  refine mg_aload_n 15 rfl rfl rfl ?_
  refine mg_iload_n 16 rfl rfl rfl ?_
  refine mg_callV1 19 rfl (Nat.le_of_ble_eq_true rfl) pg_Mo_chooses rfl rfl ?_
  refine sm_chooses (by omega) h34 h35 hD60 hkd h9 hp (by omega) (fun hck => ?_) (fun hno => ?_)
  · show mm_Rn _ _ _ _ _ _ 19 [(0, _), (1, _), (2, _), (3, _)] [_] _
    refine mg_if_ne 22 24 rfl rfl (by decide) (fun c_19 => ?_) (fun c_19 => absurd c_19 (by decide))
    have hnl : st_nl (pv_kd P n) = true := by rcases hck with h | ⟨h | h, -⟩ <;> rw [h] <;> rfl
    have ha := (hP.1 n hn).2.2.2.1 hnl
    have ha60 := (hH.1.2.2.2 _ ha.1).1
    rw [(hH.1.2.2.2 n hn).2.2.1 hnl]
    refine mg_aload_n 25 rfl rfl rfl ?_
    refine mg_getR 28 rfl rfl rfl rfl ?_
    refine mg_iload_n 29 rfl rfl rfl ?_
    refine mg_iald (v := nI (pv_kd P (pv_oa P n))) 30 rfl rfl (vp_in_nI (by omega : (pv_oa P n) < 60) (by omega)) (by rw [nI_clamp (by omega)]; exact (hH.1.2.2.2 _ ha.1).2.1) rfl ?_
    refine mg_bipush (v := 7) 32 rfl (by decide) rfl ?_
    refine mg_ic_ne 35 48 rfl rfl (by decide) (fun c_32 => ?_) (fun c_32 => ?_)
    · have h7 : ¬ pv_kd P (pv_oa P n) = 7 := fun h => c_32 (by rw [h]; rfl)
      refine mg_aload_n 49 rfl rfl rfl ?_
      refine mg_iload_n 50 rfl rfl rfl ?_
      refine mg_aload_n 51 rfl rfl rfl ?_
      refine mg_getR 54 rfl rfl rfl rfl ?_
      refine mg_iload_n 55 rfl rfl rfl ?_
      refine mg_iald (v := nI (pv_kd P n)) 56 rfl rfl (vp_in_nI (by omega : n < 60) (by omega)) (by rw [nI_clamp (by omega)]; exact hkd) rfl ?_
      refine mg_callV2 59 rfl (Nat.le_of_ble_eq_true rfl) pg_Mo_chosen rfl rfl ?_
      refine sm_chosen hP hH.1 hn hnl hS.1 hH.2.1.1 (by omega) ?_
      show mm_Rn _ _ _ _ _ _ 59 [(0, _), (1, _), (2, _), (3, _)] [_] _
      refine mg_zret rfl rfl (by split; exact Or.inr rfl; exact Or.inl rfl) ?_
      have er : pv_ch P (pv_vis P N) n c false s = (if ms_b (pv_wel P n) (pv_tk P s.1) = true then 1 else 0, s) := by unfold pv_ch; rw [if_neg (fun h => h7 h.2)]
      rw [er] at k1
      exact k1 hck (by show (if ms_b (pv_wel P n) (pv_tk P s.1) = true then (1 : Int32) else 0) ≠ -8; split <;> decide) M ⟨pm_fr_rf M, pm_lo_rf _ _ M, hH.2.1, hH.2.2.1, hH.2.2.2.1⟩
    · have h7 : pv_kd P (pv_oa P n) = 7 := (st_eq 7 7 rfl (by have := (hP.1 _ ha.1).1; omega) (by omega)).mp c_32
      have haa := (hP.1 _ ha.1).2.2.2.1 (by rw [h7]; rfl)
      refine mg_aload_n 36 rfl rfl rfl ?_
      refine mg_aload_n 37 rfl rfl rfl ?_
      refine mg_getR 40 rfl rfl rfl rfl ?_
      refine mg_iload_n 41 rfl rfl rfl ?_
      refine mg_iald (v := nI (pv_oa P (pv_oa P n))) 42 rfl rfl (vp_in_nI (by omega : (pv_oa P n) < 60) (by omega)) (by rw [nI_clamp (by omega)]; exact ((hH.1.2.2.2 _ ha.1).2.2.1 (by rw [h7]; rfl))) rfl ?_
      refine mg_callV1 45 rfl (Nat.le_of_ble_eq_true rfl) pg_Mo_scans rfl rfl ?_
      refine sm_scans hP haa.1 hc hH.1 hH.2.1 hH.2.2.1 hH.2.2.2.1 hS hN (by omega) (fun e M1 g => ?_) (fun e M1 g => ?_)
      · show mm_Rn _ _ _ _ _ _ 45 [(0, _), (1, _), (2, _), (3, _)] [_] _
        refine mg_goto 59 rfl (by decide) ?_
        refine mg_zret rfl rfl (by first | exact Or.inl rfl | exact Or.inr rfl) ?_
        have er : pv_ch P (pv_vis P N) n c false s = (-8, (pv_vis P N (pv_oa P (pv_oa P n)) c true s).2.2) := by unfold pv_ch; rw [if_pos ⟨rfl, h7⟩]; exact if_pos e
        rw [er] at kE
        exact kE hck rfl M1 ⟨g.1, pm_lo_le (Nat.zero_le _) (Nat.le_refl _) g.2.1, g.2.2.1, g.2.2.2.1, fun h => absurd h (by decide), g.2.2.2.2.2.1.trans e, fun h => absurd (show (-8 : Int32) = -6 from h) (by decide)⟩
      · show mm_Rn _ _ _ _ _ _ 45 [(0, _), (1, _), (2, _), (3, _)] [_] _
        refine mg_goto 59 rfl (by decide) ?_
        refine mg_zret rfl rfl (by split; exact Or.inr rfl; exact Or.inl rfl) ?_
        have er : pv_ch P (pv_vis P N) n c false s = (if (pv_vis P N (pv_oa P (pv_oa P n)) c true s).1 = 0 then 1 else 0, (s.1, (pv_vis P N (pv_oa P (pv_oa P n)) c true s).2.2.2)) := by unfold pv_ch; rw [if_pos ⟨rfl, h7⟩]; exact if_neg e
        rw [er] at k1
        exact k1 hck (by show (if (pv_vis P N (pv_oa P (pv_oa P n)) c true s).1 = 0 then (1 : Int32) else 0) ≠ -8; split <;> decide) M1 g
  · show mm_Rn _ _ _ _ _ _ 19 [(0, _), (1, _), (2, _), (3, _)] [_] _
    refine mg_if_ne 22 24 rfl rfl (by decide) (fun c_19 => absurd c_19 (by decide)) (fun c_19 => ?_)
    refine mg_iconst (v := 0) 23 rfl (by decide) rfl ?_
    refine mg_zret rfl rfl (by first | exact Or.inl rfl | exact Or.inr rfl) ?_
    exact kn hno
set_option maxHeartbeats 2000000 in
set_option maxRecDepth 20000 in
theorem pm_it_go {d : Nat} {Q : mm_Qt} {rr : mm_V} {P : pv_D} {lv : Nat → Nat} {u : Nat → Prop} {z : Nat} {em fi nx us : Nat → Int32} (hP : pv_val P lv u z) (hd : 9 ≤ d) (N : Nat) : pm_IT P u z em fi nx us false (pv_vis P N) N d 0 (fun x M => mm_Rn pg ly d (mm_Ev pg ly d) yy_Mo_go Q 8 [(0, .inr 21), (1, rr), (2, .inl x)] [] M) (fun M => Q none M) := by
  intro w n p c M s hw hw2 hH hn hc hp hN kS kE kC
  show mm_Rn pg ly d (mm_Ev pg ly d) yy_Mo_go Q 8 [(0, .inr 21), (1, rr), (2, .inl (nI w))] [] M
  refine mg_aload_n 9 rfl rfl rfl ?_
  refine mg_getI (v := 0) 12 rfl rfl (Or.inl rfl) hH.2.2.2.1 rfl ?_
  refine mg_if_ne 15 74 rfl rfl (by decide) (fun c_12 => absurd c_12 (by decide)) (fun c_12 => ?_)
  refine mg_iload_n 16 rfl rfl rfl ?_
  refine mg_if_lt 19 74 rfl rfl (by decide) (fun c_16 => absurd c_16 (nI_pos (by omega))) (fun c_16 => ?_)
  refine mg_aload_n 20 rfl rfl rfl ?_
  refine mg_iload_n 21 rfl rfl rfl ?_
  refine mg_callV1 24 rfl (Nat.le_of_ble_eq_true rfl) pg_Mo_picks rfl rfl ?_
  refine sm_picks (N := N) hP (by omega) hH hn hc hp hN (by omega) (fun hno => ?_) (fun hck e M1 g => ?_) (fun hck e M1 g => ?_)
  · show mm_Rn _ _ _ _ _ _ 24 [(0, _), (1, _), (2, _)] [_] _
    refine mg_istore_n (L2 := [(0, _), (1, _), (2, _), (3, _)]) 25 rfl (by decide) rfl rfl ?_
    refine mg_aload_n 26 rfl rfl rfl ?_
    refine mg_getI (v := 0) 29 rfl rfl (Or.inl rfl) hH.2.2.2.1 rfl ?_
    refine mg_if_eq 32 33 rfl rfl (by decide) (fun c_29 => ?_) (fun c_29 => absurd c_29 (by decide))
    refine mg_aload_n 34 rfl rfl rfl ?_
    refine mg_iload_n 35 rfl rfl rfl ?_
    refine mg_iconst (v := 0) 36 rfl (by decide) rfl ?_
    refine mg_iload_n 37 rfl rfl rfl ?_
    refine mg_callV3 40 rfl (Nat.le_of_ble_eq_true rfl) pg_Mo_step rfl rfl ?_
    refine mm_Ev_mono pg ly _ _ _ _ _ _ (fun v M2 hnx => ?_) (kS hno)
    obtain ⟨v, rfl, hE, h0⟩ := hnx
    show mm_Rn _ _ _ _ _ _ 40 [(0, _), (1, _), (2, _), (3, _)] [_] _
    refine mg_istore (L2 := [(0, _), (1, _), (2, _), (3, _), (4, _)]) 42 rfl (by decide) rfl rfl ?_
    refine mg_aload_n 43 rfl rfl rfl ?_
    refine mg_getI 46 rfl rfl (Or.inl rfl) rfl rfl ?_
    refine mg_if_eq 49 50 rfl rfl (by decide) (fun c_46 => ?_) (fun c_46 => ?_)
    · refine mg_iload 52 rfl rfl rfl ?_
      refine mg_if_ge 55 61 rfl rfl (by decide) (fun c_52 => ?_) (fun c_52 => ?_)
      · refine mg_iinc (v := _ + 1) (L2 := [(0, _), (1, _), (2, _), (3, _), (4, _)]) 64 rfl rfl (by decide) rfl rfl rfl ?_
        refine mg_aload_n 65 rfl rfl rfl ?_
        refine mg_iload 67 rfl rfl rfl ?_
        refine mg_iload_n 68 rfl rfl rfl ?_
        refine mg_callV2 71 rfl (Nat.le_of_ble_eq_true rfl) pg_Mo_begin rfl rfl ?_
        refine mm_Ev_mono pg ly _ _ _ _ _ _ (fun v M3 hbg => ?_) ((h0 c_46).2 (fun h => absurd c_52 (Int32.not_le.mpr h)))
        obtain ⟨rfl, hl⟩ := hbg
        show mm_Rn _ _ _ _ _ _ 71 [(0, _), (1, _), (2, _), (3, _), (4, _)] [] _
        refine mg_goto 8 rfl (by decide) ?_
        exact mg_loc [(0, _), (1, _), (2, _)] ⟨rfl, rfl, rfl, trivial⟩ hl
      · refine mg_iinc (v := _ + (-1)) (L2 := [(0, _), (1, _), (2, _), (3, _), (4, _)]) 58 rfl rfl (by decide) rfl rfl rfl ?_
        refine mg_goto 71 rfl (by decide) ?_
        refine mg_goto 8 rfl (by decide) ?_
        exact mg_loc [(0, _), (1, _), (2, _)] ⟨rfl, rfl, rfl, trivial⟩ ((h0 c_46).1 (Classical.not_not.mp (fun h => c_52 (Int32.not_lt.mp h))))
    · refine mg_vret rfl rfl ?_
      exact hE c_46
  · show mm_Rn _ _ _ _ _ _ 24 [(0, _), (1, _), (2, _)] [_] _
    refine mg_istore_n (L2 := [(0, _), (1, _), (2, _), (3, _)]) 25 rfl (by decide) rfl rfl ?_
    refine mg_aload_n 26 rfl rfl rfl ?_
    refine mg_getI (v := -8) 29 rfl rfl (Or.inl rfl) g.2.2.2.2.2.1 rfl ?_
    refine mg_if_eq 32 33 rfl rfl (by decide) (fun c_29 => absurd c_29 (by decide)) (fun c_29 => ?_)
    refine mg_vret rfl rfl ?_
    exact kE hck e M1 g
  · show mm_Rn _ _ _ _ _ _ 24 [(0, _), (1, _), (2, _)] [_] _
    refine mg_istore_n (L2 := [(0, _), (1, _), (2, _), (3, _)]) 25 rfl (by decide) rfl rfl ?_
    refine mg_aload_n 26 rfl rfl rfl ?_
    refine mg_getI (v := 0) 29 rfl rfl (Or.inl rfl) g.2.2.2.2 rfl ?_
    refine mg_if_eq 32 33 rfl rfl (by decide) (fun c_29 => ?_) (fun c_29 => absurd c_29 (by decide))
    refine mg_aload_n 34 rfl rfl rfl ?_
    refine mg_iload_n 35 rfl rfl rfl ?_
    refine mg_iconst (v := 0) 36 rfl (by decide) rfl ?_
    refine mg_iload_n 37 rfl rfl rfl ?_
    refine mg_callV3 40 rfl (Nat.le_of_ble_eq_true rfl) pg_Mo_step rfl rfl ?_
    refine mm_Ev_mono pg ly _ _ _ _ _ _ (fun v M2 hnx => ?_) (kC hck e M1 g)
    obtain ⟨v, rfl, hE, h0⟩ := hnx
    show mm_Rn _ _ _ _ _ _ 40 [(0, _), (1, _), (2, _), (3, _)] [_] _
    refine mg_istore (L2 := [(0, _), (1, _), (2, _), (3, _), (4, _)]) 42 rfl (by decide) rfl rfl ?_
    refine mg_aload_n 43 rfl rfl rfl ?_
    refine mg_getI 46 rfl rfl (Or.inl rfl) rfl rfl ?_
    refine mg_if_eq 49 50 rfl rfl (by decide) (fun c_46 => ?_) (fun c_46 => ?_)
    · refine mg_iload 52 rfl rfl rfl ?_
      refine mg_if_ge 55 61 rfl rfl (by decide) (fun c_52 => ?_) (fun c_52 => ?_)
      · refine mg_iinc (v := _ + 1) (L2 := [(0, _), (1, _), (2, _), (3, _), (4, _)]) 64 rfl rfl (by decide) rfl rfl rfl ?_
        refine mg_aload_n 65 rfl rfl rfl ?_
        refine mg_iload 67 rfl rfl rfl ?_
        refine mg_iload_n 68 rfl rfl rfl ?_
        refine mg_callV2 71 rfl (Nat.le_of_ble_eq_true rfl) pg_Mo_begin rfl rfl ?_
        refine mm_Ev_mono pg ly _ _ _ _ _ _ (fun v M3 hbg => ?_) ((h0 c_46).2 (fun h => absurd c_52 (Int32.not_le.mpr h)))
        obtain ⟨rfl, hl⟩ := hbg
        show mm_Rn _ _ _ _ _ _ 71 [(0, _), (1, _), (2, _), (3, _), (4, _)] [] _
        refine mg_goto 8 rfl (by decide) ?_
        exact mg_loc [(0, _), (1, _), (2, _)] ⟨rfl, rfl, rfl, trivial⟩ hl
      · refine mg_iinc (v := _ + (-1)) (L2 := [(0, _), (1, _), (2, _), (3, _), (4, _)]) 58 rfl rfl (by decide) rfl rfl rfl ?_
        refine mg_goto 71 rfl (by decide) ?_
        refine mg_goto 8 rfl (by decide) ?_
        exact mg_loc [(0, _), (1, _), (2, _)] ⟨rfl, rfl, rfl, trivial⟩ ((h0 c_46).1 (Classical.not_not.mp (fun h => c_52 (Int32.not_lt.mp h))))
    · refine mg_vret rfl rfl ?_
      exact hE c_46
set_option maxHeartbeats 2000000 in
set_option maxRecDepth 20000 in
theorem sm_go {d : Nat} {M : mm_M} {Q : mm_Qt} {m N : Nat} {s : pv_S} {P : pv_D} {lv : Nat → Nat} {u : Nat → Prop} {z : Nat} {em fi nx us : Nat → Int32} (hP : pv_val P lv u z) (hm : u m) (hD : pm_D M P u z em fi nx us) (hR : pm_rep M s) (h8 : M 21 8 = nI 0) (h4 : M 21 4 = 0) (hS : pv_ok z s) (hN : 1500 ≤ s.2.1 + N) (hd : 10 ≤ d) (kE : (pv_vis P N m 0 false s).1 ≠ 0 → ∀ M', pm_er 0 false M s (pv_vis P N m 0 false s) M' → Q none M') (k0 : (pv_vis P N m 0 false s).1 = 0 → ∀ M', pm_go 0 0 M s (pv_vis P N m 0 false s).2.2 M' → Q none M') : mm_Ev pg ly d 101 [.inr 21, .inl (nI m)] M Q := by
  obtain ⟨d, rfl⟩ : ∃ e, d = e + 1 := ⟨d - 1, by omega⟩
  refine mg_body yy_Mo_go pg_Mo_go (Nat.le_of_ble_eq_true rfl) ?_
  show mm_Rn _ _ _ _ _ _ 0 [(0, _), (1, _)] [] _
  refine mg_iconst (v := 0) 1 rfl (by decide) rfl ?_
  refine mg_istore_n (L2 := [(0, _), (1, _), (2, _)]) 2 rfl (by decide) rfl rfl ?_
  refine mg_aload_n 3 rfl rfl rfl ?_
  refine mg_iload_n 4 rfl rfl rfl ?_
  refine mg_iload_n 5 rfl rfl rfl ?_
  refine mg_callV2 8 rfl (Nat.le_of_ble_eq_true rfl) pg_Mo_begin rfl rfl ?_
  refine mm_Ev_mono pg ly _ _ _ _ _ _ (fun v M3 hbg => ?_) (pm_visit (L := (fun x M => mm_Rn pg ly d (mm_Ev pg ly d) yy_Mo_go Q 8 [(0, .inr 21), (1, .inl (nI m)), (2, .inl x)] [] M)) (F := fun M => Q none M) hP (fun N => pm_it_go hP (by omega) N) ?_ (Or.inr ⟨rfl, rfl⟩) (by omega) N 0 m 0 M s (by omega) (by have := (hP.1 m hm).2.2.1; omega) (by omega) hD hR h8 h4 hS hm hN kE (fun e M' g => ?_))
  · obtain ⟨rfl, hl⟩ := hbg
    exact hl
  · intro x M' h9 hF
    show mm_Rn pg ly d (mm_Ev pg ly d) yy_Mo_go Q 8 [(0, .inr 21), (1, .inl (nI m)), (2, .inl x)] [] M'
    refine mg_aload_n 9 rfl rfl rfl ?_
    refine mg_getI 12 rfl rfl (Or.inl rfl) rfl rfl ?_
    refine mg_if_ne 15 74 rfl rfl (by decide) (fun c_12 => ?_) (fun c_12 => absurd c_12 h9)
    refine mg_vret rfl rfl ?_
    exact hF
  · show mm_Rn pg ly d (mm_Ev pg ly d) yy_Mo_go Q 8 [(0, .inr 21), (1, .inl (nI m)), (2, .inl (nI 0 + (-1)))] [] M'
    refine mg_aload_n 9 rfl rfl rfl ?_
    refine mg_getI (v := 0) 12 rfl rfl (Or.inl rfl) g.2.2.2.2 rfl ?_
    refine mg_if_ne 15 74 rfl rfl (by decide) (fun c_12 => absurd c_12 (by decide)) (fun c_12 => ?_)
    refine mg_iload_n 16 rfl rfl rfl ?_
    refine mg_if_lt 19 74 rfl rfl (by decide) (fun c_16 => ?_) (fun c_16 => absurd c_16 (by decide))
    refine mg_vret rfl rfl ?_
    exact k0 e M' g
