theorem an_bg_em {n : Nat} {kd : Nat → Nat} {a b kp us em em' S : Nat → Int32} {i : Nat} (h : an_ok n kd a b kp us i) (he : ∀ j, j < 60 → em' j = em j) : an_bg kd a b kp em' S i = an_bg kd a b kp em S i := by
  by_cases k : kd i = 2
  · rw [an_bg2 k, an_bg2 k, he _ (an_oa h (by rw [k]; rfl))]
  · simp only [an_bg, if_neg k]
set_option maxHeartbeats 2000000 in
set_option maxRecDepth 20000 in
theorem sp_canBeEmpty {d : Nat} {M : mm_M} {Q : mm_Qt} {i : Nat} {n : Nat} {kd lv : Nat → Nat} {a b kp us : Nat → Int32} {rt : Nat} (hW : st_wf n kd lv a b kp) (hX : an_X M n kd a b kp rt) (hU : st_us n kd a b kp us rt) (hi : i < n) (hu : us i = 1) (h01 : ∀ j, j < 60 → M 10 j = 0 ∨ M 10 j = 1) (hd : 1 ≤ d) (k1 : an_fe kd a b kp (M 10) i → Q (some (.inl 1)) M) (k0 : ¬ an_fe kd a b kp (M 10) i → Q (some (.inl 0)) M) : mm_Ev pg ly d 38 [.inr 7, .inl (nI i)] M Q := by
  have hn : n ≤ 60 := hW.1
  have hO := an_ok_of hW hU hi hu
  obtain ⟨d, rfl⟩ : ∃ e, d = e + 1 := ⟨d - 1, by omega⟩
  refine mg_body yy_An_canBeEmpty pg_An_canBeEmpty (Nat.le_of_ble_eq_true rfl) ?_
  show mm_Rn _ _ _ _ _ _ 0 [(0, _), (1, _)] [] _
  refine mg_aload_n 1 rfl rfl rfl ?_
  refine mg_getR 4 rfl rfl rfl rfl ?_
  refine mg_getR 7 rfl rfl rfl rfl ?_
  refine mg_iload_n 8 rfl rfl rfl ?_
  refine mg_iald (v := a i) 9 rfl rfl (vp_in_nI (by omega : i < 60) (by omega)) (by rw [nI_clamp (by omega)]; exact (hX.2.1 i hi).2.1) rfl ?_
  refine mg_istore_n (L2 := [(0, _), (1, _), (2, _)]) 10 rfl (by decide) rfl rfl ?_
  refine mg_aload_n 11 rfl rfl rfl ?_
  refine mg_getR 14 rfl rfl rfl rfl ?_
  refine mg_getR 17 rfl rfl rfl rfl ?_
  refine mg_iload_n 18 rfl rfl rfl ?_
  refine mg_iald (v := b i) 19 rfl rfl (vp_in_nI (by omega : i < 60) (by omega)) (by rw [nI_clamp (by omega)]; exact (hX.2.1 i hi).2.2) rfl ?_
  refine mg_istore_n (L2 := [(0, _), (1, _), (2, _), (3, _)]) 20 rfl (by decide) rfl rfl ?_
  refine mg_aload_n 21 rfl rfl rfl ?_
  refine mg_getR 24 rfl rfl rfl rfl ?_
  refine mg_getR 27 rfl rfl rfl rfl ?_
  refine mg_iload_n 28 rfl rfl rfl ?_
  refine mg_iald (v := nI (kd i)) 29 rfl rfl (vp_in_nI (by omega : i < 60) (by omega)) (by rw [nI_clamp (by omega)]; exact (hX.2.1 i hi).1) rfl ?_
  rcases st_k9 (hW.2.1 i hi).1 with hk | hk | hk | hk | hk | hk | hk | hk | hk
  · rw [hk]
    refine mg_tsOut 145 rfl (by decide) (by decide) ?_
    refine mg_iconst (v := 0) 146 rfl (by decide) rfl ?_
    refine mg_zret rfl rfl (by first | exact Or.inl rfl | exact Or.inr rfl) ?_
    exact k0 (by rw [an_fe0 hk]; exact id)
  · rw [hk]
    obtain ⟨r, jc, hr, ea, hjc, hjcn, ekp, -⟩ := hO.2.2.2 hk
    refine mg_tsIn (off := 47) 76 rfl (by decide) (by decide) (by decide +kernel) (by decide) ?_
    refine mg_aload_n 77 rfl rfl rfl ?_
    refine mg_getR 80 rfl rfl rfl rfl ?_
    refine mg_aload_n 81 rfl rfl rfl ?_
    refine mg_getR 84 rfl rfl rfl rfl ?_
    refine mg_iload_n 85 rfl rfl rfl ?_
    refine mg_iald (v := nI jc) 86 rfl rfl (by rw [ea]; exact vp_in_nI hr (by omega)) (by rw [ea, nI_clamp (by omega), ← ekp]; exact hX.2.2.1 r hr) rfl ?_
    refine mg_zald (v := M 10 jc) 87 rfl rfl (vp_in_nI (by omega : jc < 60) (by omega)) (by rw [nI_clamp (by omega)]) rfl ?_
    rcases h01 jc (by omega) with hv | hv
    · rw [hv]
      refine mg_zret rfl rfl (by first | exact Or.inl rfl | exact Or.inr rfl) ?_
      exact k0 (by rw [an_fe1 hk, ea, an_oI (by omega), ekp, an_oI (by omega), hv]; exact ms_10)
    · rw [hv]
      refine mg_zret rfl rfl (by first | exact Or.inl rfl | exact Or.inr rfl) ?_
      exact k1 (by rw [an_fe1 hk, ea, an_oI (by omega), ekp, an_oI (by omega), hv]; exact ms_rf 1)
  · rw [hk]
    obtain ⟨ja, hja, hjn, ea, -⟩ := hO.2.1 (by rw [hk]; rfl)
    obtain ⟨jb, hjb, hjbn, eb, -⟩ := hO.2.2.1 (by rw [hk]; rfl)
    refine mg_tsIn (off := 59) 88 rfl (by decide) (by decide) (by decide +kernel) (by decide) ?_
    refine mg_aload_n 89 rfl rfl rfl ?_
    refine mg_getR 92 rfl rfl rfl rfl ?_
    refine mg_iload_n 93 rfl rfl rfl ?_
    refine mg_zald (v := M 10 ja) 94 rfl rfl (by rw [ea]; exact vp_in_nI (by omega : ja < 60) (by omega)) (by rw [ea, nI_clamp (by omega)]) rfl ?_
    refine mg_if_eq 97 110 rfl rfl (by decide) (fun c_94 => ?_) (fun c_94 => ?_)
    · refine mg_iconst (v := 0) 111 rfl (by decide) rfl ?_
      refine mg_zret rfl rfl (by first | exact Or.inl rfl | exact Or.inr rfl) ?_
      exact k0 (by rw [an_fe2 hk, ea, an_oI (by omega), eb, an_oI (by omega)]; exact fun h => ms_1n0 h.1 c_94)
    · refine mg_aload_n 98 rfl rfl rfl ?_
      refine mg_getR 101 rfl rfl rfl rfl ?_
      refine mg_iload_n 102 rfl rfl rfl ?_
      refine mg_zald (v := M 10 jb) 103 rfl rfl (by rw [eb]; exact vp_in_nI (by omega : jb < 60) (by omega)) (by rw [eb, nI_clamp (by omega)]) rfl ?_
      refine mg_if_eq 106 110 rfl rfl (by decide) (fun c_103 => ?_) (fun c_103 => ?_)
      · refine mg_iconst (v := 0) 111 rfl (by decide) rfl ?_
        refine mg_zret rfl rfl (by first | exact Or.inl rfl | exact Or.inr rfl) ?_
        exact k0 (by rw [an_fe2 hk, ea, an_oI (by omega), eb, an_oI (by omega)]; exact fun h => ms_1n0 h.2 c_103)
      · refine mg_iconst (v := 1) 107 rfl (by decide) rfl ?_
        refine mg_goto 111 rfl (by decide) ?_
        refine mg_zret rfl rfl (by first | exact Or.inl rfl | exact Or.inr rfl) ?_
        exact k1 (by rw [an_fe2 hk, ea, an_oI (by omega), eb, an_oI (by omega)]; exact ⟨ms_1of (h01 ja (by omega)) c_94, ms_1of (h01 jb (by omega)) c_103⟩)
  · rw [hk]
    obtain ⟨ja, hja, hjn, ea, -⟩ := hO.2.1 (by rw [hk]; rfl)
    obtain ⟨jb, hjb, hjbn, eb, -⟩ := hO.2.2.1 (by rw [hk]; rfl)
    refine mg_tsIn (off := 83) 112 rfl (by decide) (by decide) (by decide +kernel) (by decide) ?_
    refine mg_aload_n 113 rfl rfl rfl ?_
    refine mg_getR 116 rfl rfl rfl rfl ?_
    refine mg_iload_n 117 rfl rfl rfl ?_
    refine mg_zald (v := M 10 ja) 118 rfl rfl (by rw [ea]; exact vp_in_nI (by omega : ja < 60) (by omega)) (by rw [ea, nI_clamp (by omega)]) rfl ?_
    refine mg_if_ne 121 130 rfl rfl (by decide) (fun c_118 => ?_) (fun c_118 => ?_)
    · refine mg_iconst (v := 1) 131 rfl (by decide) rfl ?_
      refine mg_goto 135 rfl (by decide) ?_
      refine mg_zret rfl rfl (by first | exact Or.inl rfl | exact Or.inr rfl) ?_
      exact k1 (by rw [an_fe3 hk, ea, an_oI (by omega), eb, an_oI (by omega)]; exact Or.inl (ms_1of (h01 ja (by omega)) c_118))
    · refine mg_aload_n 122 rfl rfl rfl ?_
      refine mg_getR 125 rfl rfl rfl rfl ?_
      refine mg_iload_n 126 rfl rfl rfl ?_
      refine mg_zald (v := M 10 jb) 127 rfl rfl (by rw [eb]; exact vp_in_nI (by omega : jb < 60) (by omega)) (by rw [eb, nI_clamp (by omega)]) rfl ?_
      refine mg_if_eq 130 134 rfl rfl (by decide) (fun c_127 => ?_) (fun c_127 => ?_)
      · refine mg_iconst (v := 0) 135 rfl (by decide) rfl ?_
        refine mg_zret rfl rfl (by first | exact Or.inl rfl | exact Or.inr rfl) ?_
        exact k0 (by rw [an_fe3 hk, ea, an_oI (by omega), eb, an_oI (by omega)]; exact fun h => h.elim (fun h => ms_1n0 h c_118) (fun h => ms_1n0 h c_127))
      · refine mg_iconst (v := 1) 131 rfl (by decide) rfl ?_
        refine mg_goto 135 rfl (by decide) ?_
        refine mg_zret rfl rfl (by first | exact Or.inl rfl | exact Or.inr rfl) ?_
        exact k1 (by rw [an_fe3 hk, ea, an_oI (by omega), eb, an_oI (by omega)]; exact Or.inr (ms_1of (h01 jb (by omega)) c_127))
  · rw [hk]
    obtain ⟨ja, hja, hjn, ea, -⟩ := hO.2.1 (by rw [hk]; rfl)
    refine mg_tsIn (off := 107) 136 rfl (by decide) (by decide) (by decide +kernel) (by decide) ?_
    refine mg_iconst (v := 1) 137 rfl (by decide) rfl ?_
    refine mg_zret rfl rfl (by first | exact Or.inl rfl | exact Or.inr rfl) ?_
    exact k1 (by rw [an_fe4 hk]; trivial)
  · rw [hk]
    obtain ⟨ja, hja, hjn, ea, -⟩ := hO.2.1 (by rw [hk]; rfl)
    refine mg_tsIn (off := 107) 136 rfl (by decide) (by decide) (by decide +kernel) (by decide) ?_
    refine mg_iconst (v := 1) 137 rfl (by decide) rfl ?_
    refine mg_zret rfl rfl (by first | exact Or.inl rfl | exact Or.inr rfl) ?_
    exact k1 (by rw [an_fe5 hk]; trivial)
  · rw [hk]
    refine mg_tsIn (off := 107) 136 rfl (by decide) (by decide) (by decide +kernel) (by decide) ?_
    refine mg_iconst (v := 1) 137 rfl (by decide) rfl ?_
    refine mg_zret rfl rfl (by first | exact Or.inl rfl | exact Or.inr rfl) ?_
    exact k1 (by rw [an_fe6 hk]; trivial)
  · rw [hk]
    obtain ⟨ja, hja, hjn, ea, -⟩ := hO.2.1 (by rw [hk]; rfl)
    obtain ⟨jb, hjb, hjbn, eb, -⟩ := hO.2.2.1 (by rw [hk]; rfl)
    refine mg_tsIn (off := 109) 138 rfl (by decide) (by decide) (by decide +kernel) (by decide) ?_
    refine mg_aload_n 139 rfl rfl rfl ?_
    refine mg_getR 142 rfl rfl rfl rfl ?_
    refine mg_iload_n 143 rfl rfl rfl ?_
    refine mg_zald (v := M 10 jb) 144 rfl rfl (by rw [eb]; exact vp_in_nI (by omega : jb < 60) (by omega)) (by rw [eb, nI_clamp (by omega)]) rfl ?_
    rcases h01 jb (by omega) with hv | hv
    · rw [hv]
      refine mg_zret rfl rfl (by first | exact Or.inl rfl | exact Or.inr rfl) ?_
      exact k0 (by rw [an_fe7 hk, eb, an_oI (by omega), hv]; exact ms_10)
    · rw [hv]
      refine mg_zret rfl rfl (by first | exact Or.inl rfl | exact Or.inr rfl) ?_
      exact k1 (by rw [an_fe7 hk, eb, an_oI (by omega), hv]; exact ms_rf 1)
  · rw [hk]
    obtain ⟨jb, hjb, hjbn, eb, -⟩ := hO.2.2.1 (by rw [hk]; rfl)
    refine mg_tsIn (off := 109) 138 rfl (by decide) (by decide) (by decide +kernel) (by decide) ?_
    refine mg_aload_n 139 rfl rfl rfl ?_
    refine mg_getR 142 rfl rfl rfl rfl ?_
    refine mg_iload_n 143 rfl rfl rfl ?_
    refine mg_zald (v := M 10 jb) 144 rfl rfl (by rw [eb]; exact vp_in_nI (by omega : jb < 60) (by omega)) (by rw [eb, nI_clamp (by omega)]) rfl ?_
    rcases h01 jb (by omega) with hv | hv
    · rw [hv]
      refine mg_zret rfl rfl (by first | exact Or.inl rfl | exact Or.inr rfl) ?_
      exact k0 (by rw [an_fe8 hk, eb, an_oI (by omega), hv]; exact ms_10)
    · rw [hv]
      refine mg_zret rfl rfl (by first | exact Or.inl rfl | exact Or.inr rfl) ?_
      exact k1 (by rw [an_fe8 hk, eb, an_oI (by omega), hv]; exact ms_rf 1)
set_option maxHeartbeats 2000000 in
set_option maxRecDepth 20000 in
theorem sp_ofBeg_9 {d : Nat} {M : mm_M} {Q : mm_Qt} {i : Nat} {n : Nat} {kd lv : Nat → Nat} {a b kp us : Nat → Int32} {rt : Nat} (hW : st_wf n kd lv a b kp) (hX : an_X M n kd a b kp rt) (hU : st_us n kd a b kp us rt) (hi : i < n) (hu : us i = 1) (hd : 1 ≤ d) (k : Q (some (.inl (an_bg kd a b kp (M 10) (M 9) i))) M) : mm_Ev pg ly d 40 [.inr 7, .inr 9, .inl (nI i)] M Q := by
  have hn : n ≤ 60 := hW.1
  have hO := an_ok_of hW hU hi hu
  obtain ⟨d, rfl⟩ : ∃ e, d = e + 1 := ⟨d - 1, by omega⟩
  refine mg_body yy_An_ofBeginnings pg_An_ofBeginnings (Nat.le_of_ble_eq_true rfl) ?_
  show mm_Rn _ _ _ _ _ _ 0 [(0, _), (1, _), (2, _)] [] _
  refine mg_aload_n 1 rfl rfl rfl ?_
  refine mg_getR 4 rfl rfl rfl rfl ?_
  refine mg_getR 7 rfl rfl rfl rfl ?_
  refine mg_iload_n 8 rfl rfl rfl ?_
  refine mg_iald (v := a i) 9 rfl rfl (vp_in_nI (by omega : i < 60) (by omega)) (by rw [nI_clamp (by omega)]; exact (hX.2.1 i hi).2.1) rfl ?_
  refine mg_istore_n (L2 := [(0, _), (1, _), (2, _), (3, _)]) 10 rfl (by decide) rfl rfl ?_
  refine mg_aload_n 11 rfl rfl rfl ?_
  refine mg_getR 14 rfl rfl rfl rfl ?_
  refine mg_getR 17 rfl rfl rfl rfl ?_
  refine mg_iload_n 18 rfl rfl rfl ?_
  refine mg_iald (v := b i) 19 rfl rfl (vp_in_nI (by omega : i < 60) (by omega)) (by rw [nI_clamp (by omega)]; exact (hX.2.1 i hi).2.2) rfl ?_
  refine mg_istore (L2 := [(0, _), (1, _), (2, _), (3, _), (4, _)]) 21 rfl (by decide) rfl rfl ?_
  refine mg_aload_n 22 rfl rfl rfl ?_
  refine mg_getR 25 rfl rfl rfl rfl ?_
  refine mg_getR 28 rfl rfl rfl rfl ?_
  refine mg_iload_n 29 rfl rfl rfl ?_
  refine mg_iald (v := nI (kd i)) 30 rfl rfl (vp_in_nI (by omega : i < 60) (by omega)) (by rw [nI_clamp (by omega)]; exact (hX.2.1 i hi).1) rfl ?_
  rcases st_k9 (hW.2.1 i hi).1 with hk | hk | hk | hk | hk | hk | hk | hk | hk
  · rw [hk]
    refine mg_tsOut 127 rfl (by decide) (by decide) ?_
    refine mg_iconst (v := 0) 128 rfl (by decide) rfl ?_
    refine mg_iret rfl rfl ?_
    rw [an_bg0 hk] at k
    exact k
  · rw [hk]
    obtain ⟨r, jc, hr, ea, hjc, hjcn, ekp, -⟩ := hO.2.2.2 hk
    refine mg_tsIn (off := 46) 76 rfl (by decide) (by decide) (by decide +kernel) (by decide) ?_
    refine mg_aload_n 77 rfl rfl rfl ?_
    refine mg_aload_n 78 rfl rfl rfl ?_
    refine mg_getR 81 rfl rfl rfl rfl ?_
    refine mg_iload_n 82 rfl rfl rfl ?_
    refine mg_iald (v := nI jc) 83 rfl rfl (by rw [ea]; exact vp_in_nI hr (by omega)) (by rw [ea, nI_clamp (by omega), ← ekp]; exact hX.2.2.1 r hr) rfl ?_
    refine mg_iald (v := M 9 jc) 84 rfl rfl (vp_in_nI (by omega : jc < 60) (by omega)) (by rw [nI_clamp (by omega)]) rfl ?_
    refine mg_iret rfl rfl ?_
    rw [an_bg1 hk, ea, an_oI (by omega), ekp, an_oI (by omega)] at k
    exact k
  · rw [hk]
    obtain ⟨ja, hja, hjn, ea, -⟩ := hO.2.1 (by rw [hk]; rfl)
    obtain ⟨jb, hjb, hjbn, eb, -⟩ := hO.2.2.1 (by rw [hk]; rfl)
    refine mg_tsIn (off := 55) 85 rfl (by decide) (by decide) (by decide +kernel) (by decide) ?_
    refine mg_aload_n 86 rfl rfl rfl ?_
    refine mg_getR 89 rfl rfl rfl rfl ?_
    refine mg_iload_n 90 rfl rfl rfl ?_
    refine mg_zald (v := M 10 ja) 91 rfl rfl (by rw [ea]; exact vp_in_nI (by omega : ja < 60) (by omega)) (by rw [ea, nI_clamp (by omega)]) rfl ?_
    refine mg_if_eq 94 105 rfl rfl (by decide) (fun c_91 => ?_) (fun c_91 => ?_)
    · refine mg_aload_n 106 rfl rfl rfl ?_
      refine mg_iload_n 107 rfl rfl rfl ?_
      refine mg_iald (v := M 9 ja) 108 rfl rfl (by rw [ea]; exact vp_in_nI (by omega : ja < 60) (by omega)) (by rw [ea, nI_clamp (by omega)]) rfl ?_
      refine mg_iret rfl rfl ?_
      rw [an_bg2 hk, ea, an_oI (by omega), eb, an_oI (by omega), if_pos c_91] at k
      exact k
    · refine mg_aload_n 95 rfl rfl rfl ?_
      refine mg_iload_n 96 rfl rfl rfl ?_
      refine mg_iald (v := M 9 ja) 97 rfl rfl (by rw [ea]; exact vp_in_nI (by omega : ja < 60) (by omega)) (by rw [ea, nI_clamp (by omega)]) rfl ?_
      refine mg_aload_n 98 rfl rfl rfl ?_
      refine mg_iload 100 rfl rfl rfl ?_
      refine mg_iald (v := M 9 jb) 101 rfl rfl (by rw [eb]; exact vp_in_nI (by omega : jb < 60) (by omega)) (by rw [eb, nI_clamp (by omega)]) rfl ?_
      refine mg_ior 102 rfl rfl rfl ?_
      refine mg_goto 108 rfl (by decide) ?_
      refine mg_iret rfl rfl ?_
      rw [an_bg2 hk, ea, an_oI (by omega), eb, an_oI (by omega), if_neg c_91] at k
      exact k
  · rw [hk]
    obtain ⟨ja, hja, hjn, ea, -⟩ := hO.2.1 (by rw [hk]; rfl)
    obtain ⟨jb, hjb, hjbn, eb, -⟩ := hO.2.2.1 (by rw [hk]; rfl)
    refine mg_tsIn (off := 79) 109 rfl (by decide) (by decide) (by decide +kernel) (by decide) ?_
    refine mg_aload_n 110 rfl rfl rfl ?_
    refine mg_iload_n 111 rfl rfl rfl ?_
    refine mg_iald (v := M 9 ja) 112 rfl rfl (by rw [ea]; exact vp_in_nI (by omega : ja < 60) (by omega)) (by rw [ea, nI_clamp (by omega)]) rfl ?_
    refine mg_aload_n 113 rfl rfl rfl ?_
    refine mg_iload 115 rfl rfl rfl ?_
    refine mg_iald (v := M 9 jb) 116 rfl rfl (by rw [eb]; exact vp_in_nI (by omega : jb < 60) (by omega)) (by rw [eb, nI_clamp (by omega)]) rfl ?_
    refine mg_ior 117 rfl rfl rfl ?_
    refine mg_iret rfl rfl ?_
    rw [an_bg3 hk, ea, an_oI (by omega), eb, an_oI (by omega)] at k
    exact k
  · rw [hk]
    obtain ⟨ja, hja, hjn, ea, -⟩ := hO.2.1 (by rw [hk]; rfl)
    refine mg_tsIn (off := 88) 118 rfl (by decide) (by decide) (by decide +kernel) (by decide) ?_
    refine mg_aload_n 119 rfl rfl rfl ?_
    refine mg_iload_n 120 rfl rfl rfl ?_
    refine mg_iald (v := M 9 ja) 121 rfl rfl (by rw [ea]; exact vp_in_nI (by omega : ja < 60) (by omega)) (by rw [ea, nI_clamp (by omega)]) rfl ?_
    refine mg_iret rfl rfl ?_
    rw [an_bg4 hk, ea, an_oI (by omega)] at k
    exact k
  · rw [hk]
    obtain ⟨ja, hja, hjn, ea, -⟩ := hO.2.1 (by rw [hk]; rfl)
    refine mg_tsIn (off := 88) 118 rfl (by decide) (by decide) (by decide +kernel) (by decide) ?_
    refine mg_aload_n 119 rfl rfl rfl ?_
    refine mg_iload_n 120 rfl rfl rfl ?_
    refine mg_iald (v := M 9 ja) 121 rfl rfl (by rw [ea]; exact vp_in_nI (by omega : ja < 60) (by omega)) (by rw [ea, nI_clamp (by omega)]) rfl ?_
    refine mg_iret rfl rfl ?_
    rw [an_bg5 hk, ea, an_oI (by omega)] at k
    exact k
  · rw [hk]
    refine mg_tsIn (off := 97) 127 rfl (by decide) (by decide) (by decide +kernel) (by decide) ?_
    refine mg_iconst (v := 0) 128 rfl (by decide) rfl ?_
    refine mg_iret rfl rfl ?_
    rw [an_bg6 hk] at k
    exact k
  · rw [hk]
    obtain ⟨ja, hja, hjn, ea, -⟩ := hO.2.1 (by rw [hk]; rfl)
    obtain ⟨jb, hjb, hjbn, eb, -⟩ := hO.2.2.1 (by rw [hk]; rfl)
    refine mg_tsIn (off := 92) 122 rfl (by decide) (by decide) (by decide +kernel) (by decide) ?_
    refine mg_aload_n 123 rfl rfl rfl ?_
    refine mg_iload 125 rfl rfl rfl ?_
    refine mg_iald (v := M 9 jb) 126 rfl rfl (by rw [eb]; exact vp_in_nI (by omega : jb < 60) (by omega)) (by rw [eb, nI_clamp (by omega)]) rfl ?_
    refine mg_iret rfl rfl ?_
    rw [an_bg7 hk, eb, an_oI (by omega)] at k
    exact k
  · rw [hk]
    obtain ⟨jb, hjb, hjbn, eb, -⟩ := hO.2.2.1 (by rw [hk]; rfl)
    refine mg_tsIn (off := 92) 122 rfl (by decide) (by decide) (by decide +kernel) (by decide) ?_
    refine mg_aload_n 123 rfl rfl rfl ?_
    refine mg_iload 125 rfl rfl rfl ?_
    refine mg_iald (v := M 9 jb) 126 rfl rfl (by rw [eb]; exact vp_in_nI (by omega : jb < 60) (by omega)) (by rw [eb, nI_clamp (by omega)]) rfl ?_
    refine mg_iret rfl rfl ?_
    rw [an_bg8 hk, eb, an_oI (by omega)] at k
    exact k
set_option maxHeartbeats 2000000 in
set_option maxRecDepth 20000 in
theorem sp_ofBeg_11 {d : Nat} {M : mm_M} {Q : mm_Qt} {i : Nat} {n : Nat} {kd lv : Nat → Nat} {a b kp us : Nat → Int32} {rt : Nat} (hW : st_wf n kd lv a b kp) (hX : an_X M n kd a b kp rt) (hU : st_us n kd a b kp us rt) (hi : i < n) (hu : us i = 1) (hd : 1 ≤ d) (k : Q (some (.inl (an_bg kd a b kp (M 10) (M 11) i))) M) : mm_Ev pg ly d 40 [.inr 7, .inr 11, .inl (nI i)] M Q := by
  have hn : n ≤ 60 := hW.1
  have hO := an_ok_of hW hU hi hu
  obtain ⟨d, rfl⟩ : ∃ e, d = e + 1 := ⟨d - 1, by omega⟩
  refine mg_body yy_An_ofBeginnings pg_An_ofBeginnings (Nat.le_of_ble_eq_true rfl) ?_
  show mm_Rn _ _ _ _ _ _ 0 [(0, _), (1, _), (2, _)] [] _
  refine mg_aload_n 1 rfl rfl rfl ?_
  refine mg_getR 4 rfl rfl rfl rfl ?_
  refine mg_getR 7 rfl rfl rfl rfl ?_
  refine mg_iload_n 8 rfl rfl rfl ?_
  refine mg_iald (v := a i) 9 rfl rfl (vp_in_nI (by omega : i < 60) (by omega)) (by rw [nI_clamp (by omega)]; exact (hX.2.1 i hi).2.1) rfl ?_
  refine mg_istore_n (L2 := [(0, _), (1, _), (2, _), (3, _)]) 10 rfl (by decide) rfl rfl ?_
  refine mg_aload_n 11 rfl rfl rfl ?_
  refine mg_getR 14 rfl rfl rfl rfl ?_
  refine mg_getR 17 rfl rfl rfl rfl ?_
  refine mg_iload_n 18 rfl rfl rfl ?_
  refine mg_iald (v := b i) 19 rfl rfl (vp_in_nI (by omega : i < 60) (by omega)) (by rw [nI_clamp (by omega)]; exact (hX.2.1 i hi).2.2) rfl ?_
  refine mg_istore (L2 := [(0, _), (1, _), (2, _), (3, _), (4, _)]) 21 rfl (by decide) rfl rfl ?_
  refine mg_aload_n 22 rfl rfl rfl ?_
  refine mg_getR 25 rfl rfl rfl rfl ?_
  refine mg_getR 28 rfl rfl rfl rfl ?_
  refine mg_iload_n 29 rfl rfl rfl ?_
  refine mg_iald (v := nI (kd i)) 30 rfl rfl (vp_in_nI (by omega : i < 60) (by omega)) (by rw [nI_clamp (by omega)]; exact (hX.2.1 i hi).1) rfl ?_
  rcases st_k9 (hW.2.1 i hi).1 with hk | hk | hk | hk | hk | hk | hk | hk | hk
  · rw [hk]
    refine mg_tsOut 127 rfl (by decide) (by decide) ?_
    refine mg_iconst (v := 0) 128 rfl (by decide) rfl ?_
    refine mg_iret rfl rfl ?_
    rw [an_bg0 hk] at k
    exact k
  · rw [hk]
    obtain ⟨r, jc, hr, ea, hjc, hjcn, ekp, -⟩ := hO.2.2.2 hk
    refine mg_tsIn (off := 46) 76 rfl (by decide) (by decide) (by decide +kernel) (by decide) ?_
    refine mg_aload_n 77 rfl rfl rfl ?_
    refine mg_aload_n 78 rfl rfl rfl ?_
    refine mg_getR 81 rfl rfl rfl rfl ?_
    refine mg_iload_n 82 rfl rfl rfl ?_
    refine mg_iald (v := nI jc) 83 rfl rfl (by rw [ea]; exact vp_in_nI hr (by omega)) (by rw [ea, nI_clamp (by omega), ← ekp]; exact hX.2.2.1 r hr) rfl ?_
    refine mg_iald (v := M 11 jc) 84 rfl rfl (vp_in_nI (by omega : jc < 60) (by omega)) (by rw [nI_clamp (by omega)]) rfl ?_
    refine mg_iret rfl rfl ?_
    rw [an_bg1 hk, ea, an_oI (by omega), ekp, an_oI (by omega)] at k
    exact k
  · rw [hk]
    obtain ⟨ja, hja, hjn, ea, -⟩ := hO.2.1 (by rw [hk]; rfl)
    obtain ⟨jb, hjb, hjbn, eb, -⟩ := hO.2.2.1 (by rw [hk]; rfl)
    refine mg_tsIn (off := 55) 85 rfl (by decide) (by decide) (by decide +kernel) (by decide) ?_
    refine mg_aload_n 86 rfl rfl rfl ?_
    refine mg_getR 89 rfl rfl rfl rfl ?_
    refine mg_iload_n 90 rfl rfl rfl ?_
    refine mg_zald (v := M 10 ja) 91 rfl rfl (by rw [ea]; exact vp_in_nI (by omega : ja < 60) (by omega)) (by rw [ea, nI_clamp (by omega)]) rfl ?_
    refine mg_if_eq 94 105 rfl rfl (by decide) (fun c_91 => ?_) (fun c_91 => ?_)
    · refine mg_aload_n 106 rfl rfl rfl ?_
      refine mg_iload_n 107 rfl rfl rfl ?_
      refine mg_iald (v := M 11 ja) 108 rfl rfl (by rw [ea]; exact vp_in_nI (by omega : ja < 60) (by omega)) (by rw [ea, nI_clamp (by omega)]) rfl ?_
      refine mg_iret rfl rfl ?_
      rw [an_bg2 hk, ea, an_oI (by omega), eb, an_oI (by omega), if_pos c_91] at k
      exact k
    · refine mg_aload_n 95 rfl rfl rfl ?_
      refine mg_iload_n 96 rfl rfl rfl ?_
      refine mg_iald (v := M 11 ja) 97 rfl rfl (by rw [ea]; exact vp_in_nI (by omega : ja < 60) (by omega)) (by rw [ea, nI_clamp (by omega)]) rfl ?_
      refine mg_aload_n 98 rfl rfl rfl ?_
      refine mg_iload 100 rfl rfl rfl ?_
      refine mg_iald (v := M 11 jb) 101 rfl rfl (by rw [eb]; exact vp_in_nI (by omega : jb < 60) (by omega)) (by rw [eb, nI_clamp (by omega)]) rfl ?_
      refine mg_ior 102 rfl rfl rfl ?_
      refine mg_goto 108 rfl (by decide) ?_
      refine mg_iret rfl rfl ?_
      rw [an_bg2 hk, ea, an_oI (by omega), eb, an_oI (by omega), if_neg c_91] at k
      exact k
  · rw [hk]
    obtain ⟨ja, hja, hjn, ea, -⟩ := hO.2.1 (by rw [hk]; rfl)
    obtain ⟨jb, hjb, hjbn, eb, -⟩ := hO.2.2.1 (by rw [hk]; rfl)
    refine mg_tsIn (off := 79) 109 rfl (by decide) (by decide) (by decide +kernel) (by decide) ?_
    refine mg_aload_n 110 rfl rfl rfl ?_
    refine mg_iload_n 111 rfl rfl rfl ?_
    refine mg_iald (v := M 11 ja) 112 rfl rfl (by rw [ea]; exact vp_in_nI (by omega : ja < 60) (by omega)) (by rw [ea, nI_clamp (by omega)]) rfl ?_
    refine mg_aload_n 113 rfl rfl rfl ?_
    refine mg_iload 115 rfl rfl rfl ?_
    refine mg_iald (v := M 11 jb) 116 rfl rfl (by rw [eb]; exact vp_in_nI (by omega : jb < 60) (by omega)) (by rw [eb, nI_clamp (by omega)]) rfl ?_
    refine mg_ior 117 rfl rfl rfl ?_
    refine mg_iret rfl rfl ?_
    rw [an_bg3 hk, ea, an_oI (by omega), eb, an_oI (by omega)] at k
    exact k
  · rw [hk]
    obtain ⟨ja, hja, hjn, ea, -⟩ := hO.2.1 (by rw [hk]; rfl)
    refine mg_tsIn (off := 88) 118 rfl (by decide) (by decide) (by decide +kernel) (by decide) ?_
    refine mg_aload_n 119 rfl rfl rfl ?_
    refine mg_iload_n 120 rfl rfl rfl ?_
    refine mg_iald (v := M 11 ja) 121 rfl rfl (by rw [ea]; exact vp_in_nI (by omega : ja < 60) (by omega)) (by rw [ea, nI_clamp (by omega)]) rfl ?_
    refine mg_iret rfl rfl ?_
    rw [an_bg4 hk, ea, an_oI (by omega)] at k
    exact k
  · rw [hk]
    obtain ⟨ja, hja, hjn, ea, -⟩ := hO.2.1 (by rw [hk]; rfl)
    refine mg_tsIn (off := 88) 118 rfl (by decide) (by decide) (by decide +kernel) (by decide) ?_
    refine mg_aload_n 119 rfl rfl rfl ?_
    refine mg_iload_n 120 rfl rfl rfl ?_
    refine mg_iald (v := M 11 ja) 121 rfl rfl (by rw [ea]; exact vp_in_nI (by omega : ja < 60) (by omega)) (by rw [ea, nI_clamp (by omega)]) rfl ?_
    refine mg_iret rfl rfl ?_
    rw [an_bg5 hk, ea, an_oI (by omega)] at k
    exact k
  · rw [hk]
    refine mg_tsIn (off := 97) 127 rfl (by decide) (by decide) (by decide +kernel) (by decide) ?_
    refine mg_iconst (v := 0) 128 rfl (by decide) rfl ?_
    refine mg_iret rfl rfl ?_
    rw [an_bg6 hk] at k
    exact k
  · rw [hk]
    obtain ⟨ja, hja, hjn, ea, -⟩ := hO.2.1 (by rw [hk]; rfl)
    obtain ⟨jb, hjb, hjbn, eb, -⟩ := hO.2.2.1 (by rw [hk]; rfl)
    refine mg_tsIn (off := 92) 122 rfl (by decide) (by decide) (by decide +kernel) (by decide) ?_
    refine mg_aload_n 123 rfl rfl rfl ?_
    refine mg_iload 125 rfl rfl rfl ?_
    refine mg_iald (v := M 11 jb) 126 rfl rfl (by rw [eb]; exact vp_in_nI (by omega : jb < 60) (by omega)) (by rw [eb, nI_clamp (by omega)]) rfl ?_
    refine mg_iret rfl rfl ?_
    rw [an_bg7 hk, eb, an_oI (by omega)] at k
    exact k
  · rw [hk]
    obtain ⟨jb, hjb, hjbn, eb, -⟩ := hO.2.2.1 (by rw [hk]; rfl)
    refine mg_tsIn (off := 92) 122 rfl (by decide) (by decide) (by decide +kernel) (by decide) ?_
    refine mg_aload_n 123 rfl rfl rfl ?_
    refine mg_iload 125 rfl rfl rfl ?_
    refine mg_iald (v := M 11 jb) 126 rfl rfl (by rw [eb]; exact vp_in_nI (by omega : jb < 60) (by omega)) (by rw [eb, nI_clamp (by omega)]) rfl ?_
    refine mg_iret rfl rfl ?_
    rw [an_bg8 hk, eb, an_oI (by omega)] at k
    exact k
set_option maxHeartbeats 2000000 in
set_option maxRecDepth 20000 in
theorem lp_fe1 {d : Nat} {M1 : mm_M} {Q : mm_Qt} {rr : mm_V} {n : Nat} {kd lv : Nat → Nat} {a b kp us : Nat → Int32} {rt : Nat} (hW : st_wf n kd lv a b kp) (hX : an_X M1 n kd a b kp rt) (hU : st_us n kd a b kp us rt) (hM8 : ∀ j, j < 60 → M1 8 j = us j) (hd : 3 ≤ d) (k : ∀ M, an_to 10 M1 M → an_low (an_ce n kd a b kp us) (M 10) → (M = M1 → ∀ i, i < n → us i = 1 → (an_fe kd a b kp (M1 10) i → ms_le 1 ((M1 10) i))) → mm_Rn pg ly d (mm_Ev pg ly d) yy_An_findEmptyable Q 83 [(0, .inr 7), (1, rr)] [] M) :
    ∀ (i : Nat) (x : Int32) (M : mm_M), i ≤ n → x = nI i → an_to 10 M1 M → an_low (an_ce n kd a b kp us) (M 10) → (M = M1 → ∀ q, q < i → us q = 1 → (an_fe kd a b kp (M1 10) q → ms_le 1 ((M1 10) q))) → mm_Rn pg ly d (mm_Ev pg ly d) yy_An_findEmptyable Q 28 [(0, .inr 7), (1, rr), (2, .inl x)] [] M := by
  have hn : n ≤ 60 := hW.1
  intro i
  induction hm : n - i using Nat.strongRecOn generalizing i with
  | _ m ih =>
    intro x M hi ex ht hl hp
    subst ex
    have hX2 := an_X_fr (by decide) ht.1 hX
    have h8 : ∀ j, j < 60 → M 8 j = us j := fun j hj => by rw [ht.1.1 8 (by decide) (by decide)]; exact hM8 j hj
    refine mg_iload_n 29 rfl rfl rfl ?_
    refine mg_aload_n 30 rfl rfl rfl ?_
    refine mg_getR 33 rfl rfl rfl rfl ?_
    refine mg_getI (v := nI n) 36 rfl rfl (Or.inl rfl) hX2.1 rfl ?_
    refine mg_ic_ge 39 83 rfl rfl (by decide) (fun c_36 => ?_) (fun c_36 => ?_)
    · have hin : i = n := by have := (nI_leI (by omega) (by omega)).mp c_36; omega
      exact mg_loc [(0, _), (1, _)] ⟨rfl, rfl, trivial⟩ (k M ht hl (fun e q hq => hp e q (by omega)))
    · have hlt : i < n := Nat.not_le.mp (fun h => c_36 (nI_le h (by omega)))
      refine mg_aload_n 40 rfl rfl rfl ?_
      refine mg_getR 43 rfl rfl rfl rfl ?_
      refine mg_iload_n 44 rfl rfl rfl ?_
      refine mg_zald (v := us i) 45 rfl rfl (vp_in_nI (by omega : i < 60) (by omega)) (by rw [nI_clamp (by omega)]; exact h8 i (by omega)) rfl ?_
      refine mg_if_eq 48 77 rfl rfl (by decide) (fun c_45 => ?_) (fun c_45 => ?_)
      · refine mg_iinc (v := _ + 1) (L2 := [(0, _), (1, _), (2, _)]) 80 rfl rfl (by decide) rfl rfl rfl ?_
        refine mg_goto 28 rfl (by decide) ?_
        exact ih _ (by omega) (i + 1) rfl _ _ (by omega) (nI_1 i) ht hl (fun e q hq hqu => by
          have e0 := e
          rcases Nat.lt_or_ge q i with h | h
          · exact hp e0 q h hqu
          · have : q = i := by omega
            subst this
            exact absurd (hqu.symm.trans c_45) (by decide))
      · have hu : us i = 1 := ((hU.2.2.1 i (by omega)).resolve_left c_45).1
        refine mg_aload_n 49 rfl rfl rfl ?_
        refine mg_getR 52 rfl rfl rfl rfl ?_
        refine mg_iload_n 53 rfl rfl rfl ?_
        refine mg_zald (v := M 10 i) 54 rfl rfl (vp_in_nI (by omega : i < 60) (by omega)) (by rw [nI_clamp (by omega)]) rfl ?_
        refine mg_if_ne 57 77 rfl rfl (by decide) (fun c_54 => ?_) (fun c_54 => ?_)
        · refine mg_iinc (v := _ + 1) (L2 := [(0, _), (1, _), (2, _)]) 80 rfl rfl (by decide) rfl rfl rfl ?_
          refine mg_goto 28 rfl (by decide) ?_
          exact ih _ (by omega) (i + 1) rfl _ _ (by omega) (nI_1 i) ht hl (fun e q hq hqu => by
            have e0 := e
            rcases Nat.lt_or_ge q i with h | h
            · exact hp e0 q h hqu
            · have : q = i := by omega
              subst this
              intro _
              rw [← e]; exact ms_1of (an_ce_01 hl (by omega)) c_54)
        · refine mg_aload_n 58 rfl rfl rfl ?_
          refine mg_iload_n 59 rfl rfl rfl ?_
          refine mg_callV1 62 rfl (Nat.le_of_ble_eq_true rfl) pg_An_canBeEmpty rfl rfl ?_
          refine sp_canBeEmpty hW hX2 hU hlt hu (fun j hj => an_ce_01 hl hj) (by omega) (fun hfe => ?_) (fun hnf => ?_)
          · show mm_Rn _ _ _ _ _ _ 62 [(0, _), (1, _), (2, _)] [_] _
            refine mg_if_eq 65 77 rfl rfl (by decide) (fun c_62 => absurd c_62 (by decide)) (fun c_62 => ?_)
            refine mg_aload_n 66 rfl rfl rfl ?_
            refine mg_getR 69 rfl rfl rfl rfl ?_
            refine mg_iload_n 70 rfl rfl rfl ?_
            refine mg_iconst (v := 1) 71 rfl (by decide) rfl ?_
            refine mg_zast (v := M 10 i ||| 1) (j := i) 72 rfl rfl (vp_in_nI (by omega : i < 60) (by omega)) (nI_clamp (by omega)) (by rw [c_54]; decide) rfl ?_
            refine mg_aload_n 73 rfl rfl rfl ?_
            refine mg_iconst (v := 1) 74 rfl (by decide) rfl ?_
            refine mg_putZ 77 rfl rfl rfl (by first | exact Or.inl rfl | exact Or.inr rfl) rfl ?_
            refine mg_iinc (v := _ + 1) (L2 := [(0, _), (1, _), (2, _)]) 80 rfl rfl (by decide) rfl rfl rfl ?_
            refine mg_goto 28 rfl (by decide) ?_
            have s2 := an_st_up (R := 10) (M := M) (v := 1) (by decide) (by omega : i < 60) (by rw [c_54]; decide)
            have hl2 := an_st_low s2 hl (fun T hT => hT i hlt hu (an_fe_mono (an_ok_of hW hU hlt hu) (fun j hj => hl T hT j hj) hfe))
            exact ih _ (by omega) (i + 1) rfl _ _ (by omega) (nI_1 i) (an_to_tr ht s2.1) hl2 (fun e q hq hqu => by
              have e0 := an_to_eq ht s2.1 e
              rcases Nat.lt_or_ge q i with h | h
              · exact hp e0 q h hqu
              · have : q = i := by omega
                subst this
                have h9 := s2.2.1
                rw [e, ← e0, c_54] at h9
                exact absurd h9 (by decide))
          · show mm_Rn _ _ _ _ _ _ 62 [(0, _), (1, _), (2, _)] [_] _
            refine mg_if_eq 65 77 rfl rfl (by decide) (fun c_62 => ?_) (fun c_62 => absurd c_62 (by decide))
            refine mg_iinc (v := _ + 1) (L2 := [(0, _), (1, _), (2, _)]) 80 rfl rfl (by decide) rfl rfl rfl ?_
            refine mg_goto 28 rfl (by decide) ?_
            exact ih _ (by omega) (i + 1) rfl _ _ (by omega) (nI_1 i) ht hl (fun e q hq hqu => by
              have e0 := e
              rcases Nat.lt_or_ge q i with h | h
              · exact hp e0 q h hqu
              · have : q = i := by omega
                subst this
                intro hfe
                rw [← e] at hfe; exact absurd hfe hnf)
set_option maxHeartbeats 2000000 in
set_option maxRecDepth 20000 in
theorem lp_fe2 {d : Nat} {Q : mm_Qt} {M0 : mm_M} {n : Nat} {kd lv : Nat → Nat} {a b kp us : Nat → Int32} {rt : Nat} (hW : st_wf n kd lv a b kp) (hX : an_X M0 n kd a b kp rt) (hU : st_us n kd a b kp us rt) (hM8 : ∀ j, j < 60 → M0 8 j = us j) (hd : 3 ≤ d) (k : ∀ M, an_fr 10 M0 M → an_lst (an_ce n kd a b kp us) (M 10) → Q none M) :
    ∀ (r : Nat) (x : Int32) (M : mm_M), r ≤ 661 → x = nI r → an_fr 10 M0 M → an_low (an_ce n kd a b kp us) (M 10) → ((M 7 9 = 1 ∧ r ≤ an_cnt (M 10) 60) ∨ (M 7 9 = 0 ∧ ∀ i, i < n → us i = 1 → (an_fe kd a b kp (M 10) i → ms_le 1 ((M 10) i)))) → mm_Rn pg ly d (mm_Ev pg ly d) yy_An_findEmptyable Q 7 [(0, .inr 7), (1, .inl x)] [] M := by
  have hn : n ≤ 60 := hW.1
  intro r
  induction hm : 661 - r using Nat.strongRecOn generalizing r with
  | _ m ih =>
    intro x M hr ex hf hl hc
    subst ex
    have hX1 := an_X_fr (by decide) hf hX
    rcases hc with ⟨hc1, hc2⟩ | ⟨hc1, hc2⟩
    · have hb := an_low_bd hl (an_ce_1 n kd a b kp us)
      have e1 : ms_c 1 32 = 1 := by decide
      rw [e1] at hb
      refine mg_aload_n 8 rfl rfl rfl ?_
      refine mg_getI (v := 1) 11 rfl rfl (Or.inr rfl) hc1 rfl ?_
      refine mg_if_eq 14 89 rfl rfl (by decide) (fun c_11 => absurd c_11 (by decide)) (fun c_11 => ?_)
      refine mg_iload_n 15 rfl rfl rfl ?_
      refine mg_sipush (v := 661) 18 rfl (by decide) rfl ?_
      refine mg_ic_ge 21 89 rfl rfl (by decide) (fun c_18 => absurd c_18 (nI_ge (b := 661) (by omega) (by omega))) (fun c_18 => ?_)
      refine mg_aload_n 22 rfl rfl rfl ?_
      refine mg_iconst (v := 0) 23 rfl (by decide) rfl ?_
      refine mg_putZ 26 rfl rfl rfl (by first | exact Or.inl rfl | exact Or.inr rfl) rfl ?_
      refine mg_iconst (v := 0) 27 rfl (by decide) rfl ?_
      refine mg_istore_n (L2 := [(0, _), (1, _), (2, _)]) 28 rfl (by decide) rfl rfl ?_
      obtain ⟨hf0, e8⟩ := an_to_set 10 M (by decide)
      refine mg_loc [(0, _), (1, _), (2, _)] ⟨rfl, rfl, rfl, trivial⟩ (lp_fe1 (M1 := mm_up M 7 9 0) hW (an_X_fr (by decide) hf0 hX1) hU (fun j hj => by rw [hf0.1 8 (by decide) (by decide), hf.1 8 (by decide) (by decide)]; exact hM8 j hj) hd (fun M2 t2 hl2 hp2 => ?_) 0 _ _ (by omega) rfl (an_to_rf 10 _) (by rw [e8]; exact hl) (fun _ q h1 => by omega))
      refine mg_iinc (v := _ + 1) (L2 := [(0, _), (1, _)]) 86 rfl rfl (by decide) rfl rfl rfl ?_
      refine mg_goto 7 rfl (by decide) ?_
      have hf2 := an_fr_tr hf (an_fr_tr hf0 t2.1)
      rcases t2.2.1 with e2 | ⟨e2, c2⟩
      · exact ih _ (by omega) (r + 1) rfl _ M2 (by omega) (nI_1 r) hf2 hl2 (Or.inr ⟨by rw [e2]; simp [mm_up, upd], by rw [e2]; exact hp2 e2⟩)
      · rw [e8] at c2
        exact ih _ (by omega) (r + 1) rfl _ M2 (by omega) (nI_1 r) hf2 hl2 (Or.inl ⟨e2, by omega⟩)
    · refine mg_aload_n 8 rfl rfl rfl ?_
      refine mg_getI (v := 0) 11 rfl rfl (Or.inr rfl) hc1 rfl ?_
      refine mg_if_eq 14 89 rfl rfl (by decide) (fun c_11 => ?_) (fun c_11 => absurd c_11 (by decide))
      refine mg_vret rfl rfl ?_
      exact k M hf ⟨hc2, hl⟩
set_option maxHeartbeats 2000000 in
set_option maxRecDepth 20000 in
theorem sp_findEmptyable {d : Nat} {M : mm_M} {Q : mm_Qt} {n : Nat} {kd lv : Nat → Nat} {a b kp us : Nat → Int32} {rt : Nat} (hW : st_wf n kd lv a b kp) (hX : an_X M n kd a b kp rt) (hU : st_us n kd a b kp us rt) (hM8 : ∀ j, j < 60 → M 8 j = us j) (h0 : ∀ i, i < 60 → M 10 i = 0) (hd : 4 ≤ d) (k : ∀ M', an_fr 10 M M' → an_lst (an_ce n kd a b kp us) (M' 10) → Q none M') : mm_Ev pg ly d 37 [.inr 7] M Q := by
  have hl0 : an_low (an_ce n kd a b kp us) (M 10) := fun T hT i hi => by rw [h0 i hi]; exact ms_0 _
  obtain ⟨d, rfl⟩ : ∃ e, d = e + 1 := ⟨d - 1, by omega⟩
  refine mg_body yy_An_findEmptyable pg_An_findEmptyable (Nat.le_of_ble_eq_true rfl) ?_
  show mm_Rn _ _ _ _ _ _ 0 [(0, _)] [] _
  refine mg_aload_n 1 rfl rfl rfl ?_
  refine mg_iconst (v := 1) 2 rfl (by decide) rfl ?_
  refine mg_putZ 5 rfl rfl rfl (by first | exact Or.inl rfl | exact Or.inr rfl) rfl ?_
  refine mg_iconst (v := 0) 6 rfl (by decide) rfl ?_
  refine mg_istore_n (L2 := [(0, _), (1, _)]) 7 rfl (by decide) rfl rfl ?_
  have hfs : an_fr 10 M (mm_up M 7 9 1) := ⟨fun k _ h => by simp [mm_up, h], fun j hj => by simp [mm_up, upd, hj]⟩
  have e8 : mm_up M 7 9 1 10 = M 10 := by simp [mm_up]
  exact lp_fe2 (M0 := M) hW hX hU hM8 (by omega) k 0 0 _ (by omega) rfl hfs (by rw [e8]; exact hl0) (Or.inl ⟨by simp [mm_up, upd], Nat.zero_le _⟩)
set_option maxHeartbeats 2000000 in
set_option maxRecDepth 20000 in
theorem lp_fb91 {d : Nat} {M1 : mm_M} {Q : mm_Qt} {rr : mm_V} {n : Nat} {kd lv : Nat → Nat} {a b kp us : Nat → Int32} {rt : Nat} (hW : st_wf n kd lv a b kp) (hX : an_X M1 n kd a b kp rt) (hU : st_us n kd a b kp us rt) (hM8 : ∀ j, j < 60 → M1 8 j = us j) {em : Nat → Int32} (hM10 : ∀ j, j < 60 → M1 10 j = em j) (hd : 3 ≤ d) (k : ∀ M, an_to 9 M1 M → an_low (an_cf 1 n kd a b kp us em) (M 9) → (M = M1 → ∀ i, i < n → us i = 1 → ms_le (an_ow 1 kd a i ||| an_bg kd a b kp em (M1 9) i) ((M1 9) i)) → mm_Rn pg ly d (mm_Ev pg ly d) yy_An_findBeginnings Q 106 [(0, .inr 7), (1, .inr 9), (2, .inl 1), (3, rr)] [] M) :
    ∀ (i : Nat) (x : Int32) (M : mm_M), i ≤ n → x = nI i → an_to 9 M1 M → an_low (an_cf 1 n kd a b kp us em) (M 9) → (M = M1 → ∀ q, q < i → us q = 1 → ms_le (an_ow 1 kd a q ||| an_bg kd a b kp em (M1 9) q) ((M1 9) q)) → mm_Rn pg ly d (mm_Ev pg ly d) yy_An_findBeginnings Q 29 [(0, .inr 7), (1, .inr 9), (2, .inl 1), (3, rr), (4, .inl x)] [] M := by
  have hn : n ≤ 60 := hW.1
  intro i
  induction hm : n - i using Nat.strongRecOn generalizing i with
  | _ m ih =>
    intro x M hi ex ht hl hp
    subst ex
    have hX2 := an_X_fr (by decide) ht.1 hX
    have h8 : ∀ j, j < 60 → M 8 j = us j := fun j hj => by rw [ht.1.1 8 (by decide) (by decide)]; exact hM8 j hj
    have h10 : ∀ j, j < 60 → M 10 j = em j := fun j hj => by rw [ht.1.1 10 (by decide) (by decide)]; exact hM10 j hj
    refine mg_iload 31 rfl rfl rfl ?_
    refine mg_aload_n 32 rfl rfl rfl ?_
    refine mg_getR 35 rfl rfl rfl rfl ?_
    refine mg_getI (v := nI n) 38 rfl rfl (Or.inl rfl) hX2.1 rfl ?_
    refine mg_ic_ge 41 106 rfl rfl (by decide) (fun c_38 => ?_) (fun c_38 => ?_)
    · have hin : i = n := by have := (nI_leI (by omega) (by omega)).mp c_38; omega
      exact mg_loc [(0, _), (1, _), (2, _), (3, _)] ⟨rfl, rfl, rfl, rfl, trivial⟩ (k M ht hl (fun e q hq => hp e q (by omega)))
    · have hlt : i < n := Nat.not_le.mp (fun h => c_38 (nI_le h (by omega)))
      refine mg_aload_n 42 rfl rfl rfl ?_
      refine mg_getR 45 rfl rfl rfl rfl ?_
      refine mg_iload 47 rfl rfl rfl ?_
      refine mg_zald (v := us i) 48 rfl rfl (vp_in_nI (by omega : i < 60) (by omega)) (by rw [nI_clamp (by omega)]; exact h8 i (by omega)) rfl ?_
      refine mg_if_eq 51 100 rfl rfl (by decide) (fun c_48 => ?_) (fun c_48 => ?_)
      · refine mg_iinc (v := _ + 1) (L2 := [(0, _), (1, _), (2, _), (3, _), (4, _)]) 103 rfl rfl (by decide) rfl rfl rfl ?_
        refine mg_goto 29 rfl (by decide) ?_
        exact mg_loc [(0, _), (1, _), (2, _), (3, _), (4, _)] ⟨rfl, rfl, rfl, rfl, rfl, trivial⟩ <| ih _ (by omega) (i + 1) rfl _ _ (by omega) (nI_1 i) ht hl (fun e q hq hqu => by
          have e0 := e
          rcases Nat.lt_or_ge q i with h | h
          · exact hp e0 q h hqu
          · have : q = i := by omega
            subst this
            exact absurd (hqu.symm.trans c_48) (by decide))
      · have hu : us i = 1 := ((hU.2.2.1 i (by omega)).resolve_left c_48).1
        refine mg_aload_n 52 rfl rfl rfl ?_
        refine mg_getR 55 rfl rfl rfl rfl ?_
        refine mg_getR 58 rfl rfl rfl rfl ?_
        refine mg_iload 60 rfl rfl rfl ?_
        refine mg_iald (v := nI (kd i)) 61 rfl rfl (vp_in_nI (by omega : i < 60) (by omega)) (by rw [nI_clamp (by omega)]; exact (hX2.2.1 i hlt).1) rfl ?_
        refine mg_iload_n 62 rfl rfl rfl ?_
        refine mg_ic_ne 65 80 rfl rfl (by decide) (fun c_62 => ?_) (fun c_62 => ?_)
        · refine mg_iconst (v := 0) 81 rfl (by decide) rfl ?_
          refine ek_v (P := fun v => mm_Rn pg ly d (mm_Ev pg ly d) yy_An_findBeginnings Q 81 [(0, .inr 7), (1, .inr 9), (2, .inl 1), (3, rr), (4, .inl (nI i))] [.inl v] M) (show (0 : Int32) = an_ow 1 kd a i from by unfold an_ow; rw [if_neg (fun h => c_62 (by rw [h]; rfl))]) ?_
          refine mg_istore (L2 := [(0, _), (1, _), (2, _), (3, _), (4, _), (5, _)]) 83 rfl (by decide) rfl rfl ?_
          refine mg_aload_n 84 rfl rfl rfl ?_
          refine mg_aload_n 85 rfl rfl rfl ?_
          refine mg_iload 87 rfl rfl rfl ?_
          refine mg_iload 89 rfl rfl rfl ?_
          refine mg_aload_n 90 rfl rfl rfl ?_
          refine mg_aload_n 91 rfl rfl rfl ?_
          refine mg_iload 93 rfl rfl rfl ?_
          refine mg_callV2 96 rfl (Nat.le_of_ble_eq_true rfl) pg_An_ofBeginnings rfl rfl ?_
          refine sp_ofBeg_9 hW hX2 hU hlt hu (by omega) ?_
          rw [show an_bg kd a b kp (M 10) (M 9) i = an_bg kd a b kp em (M 9) i from an_bg_em (an_ok_of hW hU hlt hu) h10]
          show mm_Rn _ _ _ _ _ _ 96 [(0, _), (1, _), (2, _), (3, _), (4, _), (5, _)] [_, _, _, _, _] _
          refine mg_ior 97 rfl rfl rfl ?_
          refine mg_callV3 100 rfl (Nat.le_of_ble_eq_true rfl) pg_An_grow rfl rfl ?_
          refine sp_grow_9 (by omega) (by omega) (fun M2 s2 => ?_)
          show mm_Rn _ _ _ _ _ _ 100 [(0, _), (1, _), (2, _), (3, _), (4, _), (5, _)] [] _
          refine mg_iinc (v := _ + 1) (L2 := [(0, _), (1, _), (2, _), (3, _), (4, _), (5, _)]) 103 rfl rfl (by decide) rfl rfl rfl ?_
          refine mg_goto 29 rfl (by decide) ?_
          have hl2 := an_st_low s2 hl (fun T hT => ms_tr (ms_oo (ms_rf _) (an_bg_mono (an_ok_of hW hU hlt hu) (fun j hj => hl T hT j hj))) (hT i hlt hu))
          exact mg_loc [(0, _), (1, _), (2, _), (3, _), (4, _)] ⟨rfl, rfl, rfl, rfl, rfl, trivial⟩ <| ih _ (by omega) (i + 1) rfl _ _ (by omega) (nI_1 i) (an_to_tr ht s2.1) hl2 (fun e q hq hqu => by
            have e0 := an_to_eq ht s2.1 e
            rcases Nat.lt_or_ge q i with h | h
            · exact hp e0 q h hqu
            · have : q = i := by omega
              subst this
              have := an_st_v s2
              rw [e, e0] at this
              exact this)
        · refine mg_iconst (v := 1) 66 rfl (by decide) rfl ?_
          refine mg_aload_n 67 rfl rfl rfl ?_
          refine mg_getR 70 rfl rfl rfl rfl ?_
          refine mg_getR 73 rfl rfl rfl rfl ?_
          refine mg_iload 75 rfl rfl rfl ?_
          refine mg_iald (v := a i) 76 rfl rfl (vp_in_nI (by omega : i < 60) (by omega)) (by rw [nI_clamp (by omega)]; exact (hX2.2.1 i hlt).2.1) rfl ?_
          refine mg_ishl 77 rfl rfl rfl ?_
          refine mg_goto 81 rfl (by decide) ?_
          rw [show ((1 : Int32) <<< (a i &&& 31)) = an_ow 1 kd a i from by unfold an_ow; rw [if_pos ((st_eq 1 1 rfl (by have := (hW.2.1 i hlt).1; omega) (by omega)).mp c_62)]]
          refine mg_istore (L2 := [(0, _), (1, _), (2, _), (3, _), (4, _), (5, _)]) 83 rfl (by decide) rfl rfl ?_
          refine mg_aload_n 84 rfl rfl rfl ?_
          refine mg_aload_n 85 rfl rfl rfl ?_
          refine mg_iload 87 rfl rfl rfl ?_
          refine mg_iload 89 rfl rfl rfl ?_
          refine mg_aload_n 90 rfl rfl rfl ?_
          refine mg_aload_n 91 rfl rfl rfl ?_
          refine mg_iload 93 rfl rfl rfl ?_
          refine mg_callV2 96 rfl (Nat.le_of_ble_eq_true rfl) pg_An_ofBeginnings rfl rfl ?_
          refine sp_ofBeg_9 hW hX2 hU hlt hu (by omega) ?_
          rw [show an_bg kd a b kp (M 10) (M 9) i = an_bg kd a b kp em (M 9) i from an_bg_em (an_ok_of hW hU hlt hu) h10]
          show mm_Rn _ _ _ _ _ _ 96 [(0, _), (1, _), (2, _), (3, _), (4, _), (5, _)] [_, _, _, _, _] _
          refine mg_ior 97 rfl rfl rfl ?_
          refine mg_callV3 100 rfl (Nat.le_of_ble_eq_true rfl) pg_An_grow rfl rfl ?_
          refine sp_grow_9 (by omega) (by omega) (fun M2 s2 => ?_)
          show mm_Rn _ _ _ _ _ _ 100 [(0, _), (1, _), (2, _), (3, _), (4, _), (5, _)] [] _
          refine mg_iinc (v := _ + 1) (L2 := [(0, _), (1, _), (2, _), (3, _), (4, _), (5, _)]) 103 rfl rfl (by decide) rfl rfl rfl ?_
          refine mg_goto 29 rfl (by decide) ?_
          have hl2 := an_st_low s2 hl (fun T hT => ms_tr (ms_oo (ms_rf _) (an_bg_mono (an_ok_of hW hU hlt hu) (fun j hj => hl T hT j hj))) (hT i hlt hu))
          exact mg_loc [(0, _), (1, _), (2, _), (3, _), (4, _)] ⟨rfl, rfl, rfl, rfl, rfl, trivial⟩ <| ih _ (by omega) (i + 1) rfl _ _ (by omega) (nI_1 i) (an_to_tr ht s2.1) hl2 (fun e q hq hqu => by
            have e0 := an_to_eq ht s2.1 e
            rcases Nat.lt_or_ge q i with h | h
            · exact hp e0 q h hqu
            · have : q = i := by omega
              subst this
              have := an_st_v s2
              rw [e, e0] at this
              exact this)
set_option maxHeartbeats 2000000 in
set_option maxRecDepth 20000 in
theorem lp_fb92 {d : Nat} {Q : mm_Qt} {M0 : mm_M} {n : Nat} {kd lv : Nat → Nat} {a b kp us : Nat → Int32} {rt : Nat} (hW : st_wf n kd lv a b kp) (hX : an_X M0 n kd a b kp rt) (hU : st_us n kd a b kp us rt) (hM8 : ∀ j, j < 60 → M0 8 j = us j) {em : Nat → Int32} (hM10 : ∀ j, j < 60 → M0 10 j = em j) (hd : 3 ≤ d) (k : ∀ M, an_fr 9 M0 M → an_lst (an_cf 1 n kd a b kp us em) (M 9) → Q none M) :
    ∀ (r : Nat) (x : Int32) (M : mm_M), r ≤ 661 → x = nI r → an_fr 9 M0 M → an_low (an_cf 1 n kd a b kp us em) (M 9) → ((M 7 9 = 1 ∧ r ≤ an_cnt (M 9) 60) ∨ (M 7 9 = 0 ∧ ∀ i, i < n → us i = 1 → ms_le (an_ow 1 kd a i ||| an_bg kd a b kp em (M 9) i) ((M 9) i))) → mm_Rn pg ly d (mm_Ev pg ly d) yy_An_findBeginnings Q 7 [(0, .inr 7), (1, .inr 9), (2, .inl 1), (3, .inl x)] [] M := by
  have hn : n ≤ 60 := hW.1
  intro r
  induction hm : 661 - r using Nat.strongRecOn generalizing r with
  | _ m ih =>
    intro x M hr ex hf hl hc
    subst ex
    have hX1 := an_X_fr (by decide) hf hX
    rcases hc with ⟨hc1, hc2⟩ | ⟨hc1, hc2⟩
    · have hb := an_low_bd hl (an_cf1_T (us := us) (em := em) hW)
      have e1 : ms_c 255 32 = 8 := by decide
      rw [e1] at hb
      refine mg_aload_n 8 rfl rfl rfl ?_
      refine mg_getI (v := 1) 11 rfl rfl (Or.inr rfl) hc1 rfl ?_
      refine mg_if_eq 14 112 rfl rfl (by decide) (fun c_11 => absurd c_11 (by decide)) (fun c_11 => ?_)
      refine mg_iload_n 15 rfl rfl rfl ?_
      refine mg_sipush (v := 661) 18 rfl (by decide) rfl ?_
      refine mg_ic_ge 21 112 rfl rfl (by decide) (fun c_18 => absurd c_18 (nI_ge (b := 661) (by omega) (by omega))) (fun c_18 => ?_)
      refine mg_aload_n 22 rfl rfl rfl ?_
      refine mg_iconst (v := 0) 23 rfl (by decide) rfl ?_
      refine mg_putZ 26 rfl rfl rfl (by first | exact Or.inl rfl | exact Or.inr rfl) rfl ?_
      refine mg_iconst (v := 0) 27 rfl (by decide) rfl ?_
      refine mg_istore (L2 := [(0, _), (1, _), (2, _), (3, _), (4, _)]) 29 rfl (by decide) rfl rfl ?_
      obtain ⟨hf0, e8⟩ := an_to_set 9 M (by decide)
      refine mg_loc [(0, _), (1, _), (2, _), (3, _), (4, _)] ⟨rfl, rfl, rfl, rfl, rfl, trivial⟩ (lp_fb91 (M1 := mm_up M 7 9 0) (em := em) hW (an_X_fr (by decide) hf0 hX1) hU (fun j hj => by rw [hf0.1 8 (by decide) (by decide), hf.1 8 (by decide) (by decide)]; exact hM8 j hj) (fun j hj => by rw [hf0.1 10 (by decide) (by decide), hf.1 10 (by decide) (by decide)]; exact hM10 j hj) hd (fun M2 t2 hl2 hp2 => ?_) 0 _ _ (by omega) rfl (an_to_rf 9 _) (by rw [e8]; exact hl) (fun _ q h1 => by omega))
      refine mg_iinc (v := _ + 1) (L2 := [(0, _), (1, _), (2, _), (3, _)]) 109 rfl rfl (by decide) rfl rfl rfl ?_
      refine mg_goto 7 rfl (by decide) ?_
      have hf2 := an_fr_tr hf (an_fr_tr hf0 t2.1)
      rcases t2.2.1 with e2 | ⟨e2, c2⟩
      · exact ih _ (by omega) (r + 1) rfl _ M2 (by omega) (nI_1 r) hf2 hl2 (Or.inr ⟨by rw [e2]; simp [mm_up, upd], by rw [e2]; exact hp2 e2⟩)
      · rw [e8] at c2
        exact ih _ (by omega) (r + 1) rfl _ M2 (by omega) (nI_1 r) hf2 hl2 (Or.inl ⟨e2, by omega⟩)
    · refine mg_aload_n 8 rfl rfl rfl ?_
      refine mg_getI (v := 0) 11 rfl rfl (Or.inr rfl) hc1 rfl ?_
      refine mg_if_eq 14 112 rfl rfl (by decide) (fun c_11 => ?_) (fun c_11 => absurd c_11 (by decide))
      refine mg_vret rfl rfl ?_
      exact k M hf ⟨hc2, hl⟩
set_option maxHeartbeats 2000000 in
set_option maxRecDepth 20000 in
theorem sp_findBeg_9 {d : Nat} {M : mm_M} {Q : mm_Qt} {n : Nat} {kd lv : Nat → Nat} {a b kp us : Nat → Int32} {rt : Nat} (hW : st_wf n kd lv a b kp) (hX : an_X M n kd a b kp rt) (hU : st_us n kd a b kp us rt) (hM8 : ∀ j, j < 60 → M 8 j = us j) {em : Nat → Int32} (hM10 : ∀ j, j < 60 → M 10 j = em j) (h0 : ∀ i, i < 60 → M 9 i = 0) (hd : 4 ≤ d) (k : ∀ M', an_fr 9 M M' → an_lst (an_cf 1 n kd a b kp us em) (M' 9) → Q none M') : mm_Ev pg ly d 39 [.inr 7, .inr 9, .inl 1] M Q := by
  have hl0 : an_low (an_cf 1 n kd a b kp us em) (M 9) := fun T hT i hi => by rw [h0 i hi]; exact ms_0 _
  obtain ⟨d, rfl⟩ : ∃ e, d = e + 1 := ⟨d - 1, by omega⟩
  refine mg_body yy_An_findBeginnings pg_An_findBeginnings (Nat.le_of_ble_eq_true rfl) ?_
  show mm_Rn _ _ _ _ _ _ 0 [(0, _), (1, _), (2, _)] [] _
  refine mg_aload_n 1 rfl rfl rfl ?_
  refine mg_iconst (v := 1) 2 rfl (by decide) rfl ?_
  refine mg_putZ 5 rfl rfl rfl (by first | exact Or.inl rfl | exact Or.inr rfl) rfl ?_
  refine mg_iconst (v := 0) 6 rfl (by decide) rfl ?_
  refine mg_istore_n (L2 := [(0, _), (1, _), (2, _), (3, _)]) 7 rfl (by decide) rfl rfl ?_
  have hfs : an_fr 9 M (mm_up M 7 9 1) := ⟨fun k _ h => by simp [mm_up, h], fun j hj => by simp [mm_up, upd, hj]⟩
  have e8 : mm_up M 7 9 1 9 = M 9 := by simp [mm_up]
  exact lp_fb92 (M0 := M) hW hX hU hM8 hM10 (by omega) k 0 0 _ (by omega) rfl hfs (by rw [e8]; exact hl0) (Or.inl ⟨by simp [mm_up, upd], Nat.zero_le _⟩)
set_option maxHeartbeats 2000000 in
set_option maxRecDepth 20000 in
theorem lp_fb111 {d : Nat} {M1 : mm_M} {Q : mm_Qt} {rr : mm_V} {n : Nat} {kd lv : Nat → Nat} {a b kp us : Nat → Int32} {rt : Nat} (hW : st_wf n kd lv a b kp) (hX : an_X M1 n kd a b kp rt) (hU : st_us n kd a b kp us rt) (hM8 : ∀ j, j < 60 → M1 8 j = us j) {em : Nat → Int32} (hM10 : ∀ j, j < 60 → M1 10 j = em j) (hd : 3 ≤ d) (k : ∀ M, an_to 11 M1 M → an_low (an_cf 0 n kd a b kp us em) (M 11) → (M = M1 → ∀ i, i < n → us i = 1 → ms_le (an_ow 0 kd a i ||| an_bg kd a b kp em (M1 11) i) ((M1 11) i)) → mm_Rn pg ly d (mm_Ev pg ly d) yy_An_findBeginnings Q 106 [(0, .inr 7), (1, .inr 11), (2, .inl 0), (3, rr)] [] M) :
    ∀ (i : Nat) (x : Int32) (M : mm_M), i ≤ n → x = nI i → an_to 11 M1 M → an_low (an_cf 0 n kd a b kp us em) (M 11) → (M = M1 → ∀ q, q < i → us q = 1 → ms_le (an_ow 0 kd a q ||| an_bg kd a b kp em (M1 11) q) ((M1 11) q)) → mm_Rn pg ly d (mm_Ev pg ly d) yy_An_findBeginnings Q 29 [(0, .inr 7), (1, .inr 11), (2, .inl 0), (3, rr), (4, .inl x)] [] M := by
  have hn : n ≤ 60 := hW.1
  intro i
  induction hm : n - i using Nat.strongRecOn generalizing i with
  | _ m ih =>
    intro x M hi ex ht hl hp
    subst ex
    have hX2 := an_X_fr (by decide) ht.1 hX
    have h8 : ∀ j, j < 60 → M 8 j = us j := fun j hj => by rw [ht.1.1 8 (by decide) (by decide)]; exact hM8 j hj
    have h10 : ∀ j, j < 60 → M 10 j = em j := fun j hj => by rw [ht.1.1 10 (by decide) (by decide)]; exact hM10 j hj
    refine mg_iload 31 rfl rfl rfl ?_
    refine mg_aload_n 32 rfl rfl rfl ?_
    refine mg_getR 35 rfl rfl rfl rfl ?_
    refine mg_getI (v := nI n) 38 rfl rfl (Or.inl rfl) hX2.1 rfl ?_
    refine mg_ic_ge 41 106 rfl rfl (by decide) (fun c_38 => ?_) (fun c_38 => ?_)
    · have hin : i = n := by have := (nI_leI (by omega) (by omega)).mp c_38; omega
      exact mg_loc [(0, _), (1, _), (2, _), (3, _)] ⟨rfl, rfl, rfl, rfl, trivial⟩ (k M ht hl (fun e q hq => hp e q (by omega)))
    · have hlt : i < n := Nat.not_le.mp (fun h => c_38 (nI_le h (by omega)))
      refine mg_aload_n 42 rfl rfl rfl ?_
      refine mg_getR 45 rfl rfl rfl rfl ?_
      refine mg_iload 47 rfl rfl rfl ?_
      refine mg_zald (v := us i) 48 rfl rfl (vp_in_nI (by omega : i < 60) (by omega)) (by rw [nI_clamp (by omega)]; exact h8 i (by omega)) rfl ?_
      refine mg_if_eq 51 100 rfl rfl (by decide) (fun c_48 => ?_) (fun c_48 => ?_)
      · refine mg_iinc (v := _ + 1) (L2 := [(0, _), (1, _), (2, _), (3, _), (4, _)]) 103 rfl rfl (by decide) rfl rfl rfl ?_
        refine mg_goto 29 rfl (by decide) ?_
        exact mg_loc [(0, _), (1, _), (2, _), (3, _), (4, _)] ⟨rfl, rfl, rfl, rfl, rfl, trivial⟩ <| ih _ (by omega) (i + 1) rfl _ _ (by omega) (nI_1 i) ht hl (fun e q hq hqu => by
          have e0 := e
          rcases Nat.lt_or_ge q i with h | h
          · exact hp e0 q h hqu
          · have : q = i := by omega
            subst this
            exact absurd (hqu.symm.trans c_48) (by decide))
      · have hu : us i = 1 := ((hU.2.2.1 i (by omega)).resolve_left c_48).1
        refine mg_aload_n 52 rfl rfl rfl ?_
        refine mg_getR 55 rfl rfl rfl rfl ?_
        refine mg_getR 58 rfl rfl rfl rfl ?_
        refine mg_iload 60 rfl rfl rfl ?_
        refine mg_iald (v := nI (kd i)) 61 rfl rfl (vp_in_nI (by omega : i < 60) (by omega)) (by rw [nI_clamp (by omega)]; exact (hX2.2.1 i hlt).1) rfl ?_
        refine mg_iload_n 62 rfl rfl rfl ?_
        refine mg_ic_ne 65 80 rfl rfl (by decide) (fun c_62 => ?_) (fun c_62 => ?_)
        · refine mg_iconst (v := 0) 81 rfl (by decide) rfl ?_
          refine ek_v (P := fun v => mm_Rn pg ly d (mm_Ev pg ly d) yy_An_findBeginnings Q 81 [(0, .inr 7), (1, .inr 11), (2, .inl 0), (3, rr), (4, .inl (nI i))] [.inl v] M) (show (0 : Int32) = an_ow 0 kd a i from by unfold an_ow; rw [if_neg (fun h => c_62 (by rw [h]; rfl))]) ?_
          refine mg_istore (L2 := [(0, _), (1, _), (2, _), (3, _), (4, _), (5, _)]) 83 rfl (by decide) rfl rfl ?_
          refine mg_aload_n 84 rfl rfl rfl ?_
          refine mg_aload_n 85 rfl rfl rfl ?_
          refine mg_iload 87 rfl rfl rfl ?_
          refine mg_iload 89 rfl rfl rfl ?_
          refine mg_aload_n 90 rfl rfl rfl ?_
          refine mg_aload_n 91 rfl rfl rfl ?_
          refine mg_iload 93 rfl rfl rfl ?_
          refine mg_callV2 96 rfl (Nat.le_of_ble_eq_true rfl) pg_An_ofBeginnings rfl rfl ?_
          refine sp_ofBeg_11 hW hX2 hU hlt hu (by omega) ?_
          rw [show an_bg kd a b kp (M 10) (M 11) i = an_bg kd a b kp em (M 11) i from an_bg_em (an_ok_of hW hU hlt hu) h10]
          show mm_Rn _ _ _ _ _ _ 96 [(0, _), (1, _), (2, _), (3, _), (4, _), (5, _)] [_, _, _, _, _] _
          refine mg_ior 97 rfl rfl rfl ?_
          refine mg_callV3 100 rfl (Nat.le_of_ble_eq_true rfl) pg_An_grow rfl rfl ?_
          refine sp_grow_11 (by omega) (by omega) (fun M2 s2 => ?_)
          show mm_Rn _ _ _ _ _ _ 100 [(0, _), (1, _), (2, _), (3, _), (4, _), (5, _)] [] _
          refine mg_iinc (v := _ + 1) (L2 := [(0, _), (1, _), (2, _), (3, _), (4, _), (5, _)]) 103 rfl rfl (by decide) rfl rfl rfl ?_
          refine mg_goto 29 rfl (by decide) ?_
          have hl2 := an_st_low s2 hl (fun T hT => ms_tr (ms_oo (ms_rf _) (an_bg_mono (an_ok_of hW hU hlt hu) (fun j hj => hl T hT j hj))) (hT i hlt hu))
          exact mg_loc [(0, _), (1, _), (2, _), (3, _), (4, _)] ⟨rfl, rfl, rfl, rfl, rfl, trivial⟩ <| ih _ (by omega) (i + 1) rfl _ _ (by omega) (nI_1 i) (an_to_tr ht s2.1) hl2 (fun e q hq hqu => by
            have e0 := an_to_eq ht s2.1 e
            rcases Nat.lt_or_ge q i with h | h
            · exact hp e0 q h hqu
            · have : q = i := by omega
              subst this
              have := an_st_v s2
              rw [e, e0] at this
              exact this)
        · refine mg_iconst (v := 1) 66 rfl (by decide) rfl ?_
          refine mg_aload_n 67 rfl rfl rfl ?_
          refine mg_getR 70 rfl rfl rfl rfl ?_
          refine mg_getR 73 rfl rfl rfl rfl ?_
          refine mg_iload 75 rfl rfl rfl ?_
          refine mg_iald (v := a i) 76 rfl rfl (vp_in_nI (by omega : i < 60) (by omega)) (by rw [nI_clamp (by omega)]; exact (hX2.2.1 i hlt).2.1) rfl ?_
          refine mg_ishl 77 rfl rfl rfl ?_
          refine mg_goto 81 rfl (by decide) ?_
          rw [show ((1 : Int32) <<< (a i &&& 31)) = an_ow 0 kd a i from by unfold an_ow; rw [if_pos ((st_eq 0 0 rfl (by have := (hW.2.1 i hlt).1; omega) (by omega)).mp c_62)]]
          refine mg_istore (L2 := [(0, _), (1, _), (2, _), (3, _), (4, _), (5, _)]) 83 rfl (by decide) rfl rfl ?_
          refine mg_aload_n 84 rfl rfl rfl ?_
          refine mg_aload_n 85 rfl rfl rfl ?_
          refine mg_iload 87 rfl rfl rfl ?_
          refine mg_iload 89 rfl rfl rfl ?_
          refine mg_aload_n 90 rfl rfl rfl ?_
          refine mg_aload_n 91 rfl rfl rfl ?_
          refine mg_iload 93 rfl rfl rfl ?_
          refine mg_callV2 96 rfl (Nat.le_of_ble_eq_true rfl) pg_An_ofBeginnings rfl rfl ?_
          refine sp_ofBeg_11 hW hX2 hU hlt hu (by omega) ?_
          rw [show an_bg kd a b kp (M 10) (M 11) i = an_bg kd a b kp em (M 11) i from an_bg_em (an_ok_of hW hU hlt hu) h10]
          show mm_Rn _ _ _ _ _ _ 96 [(0, _), (1, _), (2, _), (3, _), (4, _), (5, _)] [_, _, _, _, _] _
          refine mg_ior 97 rfl rfl rfl ?_
          refine mg_callV3 100 rfl (Nat.le_of_ble_eq_true rfl) pg_An_grow rfl rfl ?_
          refine sp_grow_11 (by omega) (by omega) (fun M2 s2 => ?_)
          show mm_Rn _ _ _ _ _ _ 100 [(0, _), (1, _), (2, _), (3, _), (4, _), (5, _)] [] _
          refine mg_iinc (v := _ + 1) (L2 := [(0, _), (1, _), (2, _), (3, _), (4, _), (5, _)]) 103 rfl rfl (by decide) rfl rfl rfl ?_
          refine mg_goto 29 rfl (by decide) ?_
          have hl2 := an_st_low s2 hl (fun T hT => ms_tr (ms_oo (ms_rf _) (an_bg_mono (an_ok_of hW hU hlt hu) (fun j hj => hl T hT j hj))) (hT i hlt hu))
          exact mg_loc [(0, _), (1, _), (2, _), (3, _), (4, _)] ⟨rfl, rfl, rfl, rfl, rfl, trivial⟩ <| ih _ (by omega) (i + 1) rfl _ _ (by omega) (nI_1 i) (an_to_tr ht s2.1) hl2 (fun e q hq hqu => by
            have e0 := an_to_eq ht s2.1 e
            rcases Nat.lt_or_ge q i with h | h
            · exact hp e0 q h hqu
            · have : q = i := by omega
              subst this
              have := an_st_v s2
              rw [e, e0] at this
              exact this)
set_option maxHeartbeats 2000000 in
set_option maxRecDepth 20000 in
theorem lp_fb112 {d : Nat} {Q : mm_Qt} {M0 : mm_M} {n : Nat} {kd lv : Nat → Nat} {a b kp us : Nat → Int32} {rt : Nat} (hW : st_wf n kd lv a b kp) (hX : an_X M0 n kd a b kp rt) (hU : st_us n kd a b kp us rt) (hM8 : ∀ j, j < 60 → M0 8 j = us j) {em : Nat → Int32} (hM10 : ∀ j, j < 60 → M0 10 j = em j) (hd : 3 ≤ d) (k : ∀ M, an_fr 11 M0 M → an_lst (an_cf 0 n kd a b kp us em) (M 11) → Q none M) :
    ∀ (r : Nat) (x : Int32) (M : mm_M), r ≤ 661 → x = nI r → an_fr 11 M0 M → an_low (an_cf 0 n kd a b kp us em) (M 11) → ((M 7 9 = 1 ∧ r ≤ an_cnt (M 11) 60) ∨ (M 7 9 = 0 ∧ ∀ i, i < n → us i = 1 → ms_le (an_ow 0 kd a i ||| an_bg kd a b kp em (M 11) i) ((M 11) i))) → mm_Rn pg ly d (mm_Ev pg ly d) yy_An_findBeginnings Q 7 [(0, .inr 7), (1, .inr 11), (2, .inl 0), (3, .inl x)] [] M := by
  have hn : n ≤ 60 := hW.1
  intro r
  induction hm : 661 - r using Nat.strongRecOn generalizing r with
  | _ m ih =>
    intro x M hr ex hf hl hc
    subst ex
    have hX1 := an_X_fr (by decide) hf hX
    rcases hc with ⟨hc1, hc2⟩ | ⟨hc1, hc2⟩
    · have hb := an_low_bd hl (an_cf0_T (us := us) (em := em) hW)
      have e1 : ms_c 1023 32 = 10 := by decide
      rw [e1] at hb
      refine mg_aload_n 8 rfl rfl rfl ?_
      refine mg_getI (v := 1) 11 rfl rfl (Or.inr rfl) hc1 rfl ?_
      refine mg_if_eq 14 112 rfl rfl (by decide) (fun c_11 => absurd c_11 (by decide)) (fun c_11 => ?_)
      refine mg_iload_n 15 rfl rfl rfl ?_
      refine mg_sipush (v := 661) 18 rfl (by decide) rfl ?_
      refine mg_ic_ge 21 112 rfl rfl (by decide) (fun c_18 => absurd c_18 (nI_ge (b := 661) (by omega) (by omega))) (fun c_18 => ?_)
      refine mg_aload_n 22 rfl rfl rfl ?_
      refine mg_iconst (v := 0) 23 rfl (by decide) rfl ?_
      refine mg_putZ 26 rfl rfl rfl (by first | exact Or.inl rfl | exact Or.inr rfl) rfl ?_
      refine mg_iconst (v := 0) 27 rfl (by decide) rfl ?_
      refine mg_istore (L2 := [(0, _), (1, _), (2, _), (3, _), (4, _)]) 29 rfl (by decide) rfl rfl ?_
      obtain ⟨hf0, e8⟩ := an_to_set 11 M (by decide)
      refine mg_loc [(0, _), (1, _), (2, _), (3, _), (4, _)] ⟨rfl, rfl, rfl, rfl, rfl, trivial⟩ (lp_fb111 (M1 := mm_up M 7 9 0) (em := em) hW (an_X_fr (by decide) hf0 hX1) hU (fun j hj => by rw [hf0.1 8 (by decide) (by decide), hf.1 8 (by decide) (by decide)]; exact hM8 j hj) (fun j hj => by rw [hf0.1 10 (by decide) (by decide), hf.1 10 (by decide) (by decide)]; exact hM10 j hj) hd (fun M2 t2 hl2 hp2 => ?_) 0 _ _ (by omega) rfl (an_to_rf 11 _) (by rw [e8]; exact hl) (fun _ q h1 => by omega))
      refine mg_iinc (v := _ + 1) (L2 := [(0, _), (1, _), (2, _), (3, _)]) 109 rfl rfl (by decide) rfl rfl rfl ?_
      refine mg_goto 7 rfl (by decide) ?_
      have hf2 := an_fr_tr hf (an_fr_tr hf0 t2.1)
      rcases t2.2.1 with e2 | ⟨e2, c2⟩
      · exact ih _ (by omega) (r + 1) rfl _ M2 (by omega) (nI_1 r) hf2 hl2 (Or.inr ⟨by rw [e2]; simp [mm_up, upd], by rw [e2]; exact hp2 e2⟩)
      · rw [e8] at c2
        exact ih _ (by omega) (r + 1) rfl _ M2 (by omega) (nI_1 r) hf2 hl2 (Or.inl ⟨e2, by omega⟩)
    · refine mg_aload_n 8 rfl rfl rfl ?_
      refine mg_getI (v := 0) 11 rfl rfl (Or.inr rfl) hc1 rfl ?_
      refine mg_if_eq 14 112 rfl rfl (by decide) (fun c_11 => ?_) (fun c_11 => absurd c_11 (by decide))
      refine mg_vret rfl rfl ?_
      exact k M hf ⟨hc2, hl⟩
set_option maxHeartbeats 2000000 in
set_option maxRecDepth 20000 in
theorem sp_findBeg_11 {d : Nat} {M : mm_M} {Q : mm_Qt} {n : Nat} {kd lv : Nat → Nat} {a b kp us : Nat → Int32} {rt : Nat} (hW : st_wf n kd lv a b kp) (hX : an_X M n kd a b kp rt) (hU : st_us n kd a b kp us rt) (hM8 : ∀ j, j < 60 → M 8 j = us j) {em : Nat → Int32} (hM10 : ∀ j, j < 60 → M 10 j = em j) (h0 : ∀ i, i < 60 → M 11 i = 0) (hd : 4 ≤ d) (k : ∀ M', an_fr 11 M M' → an_lst (an_cf 0 n kd a b kp us em) (M' 11) → Q none M') : mm_Ev pg ly d 39 [.inr 7, .inr 11, .inl 0] M Q := by
  have hl0 : an_low (an_cf 0 n kd a b kp us em) (M 11) := fun T hT i hi => by rw [h0 i hi]; exact ms_0 _
  obtain ⟨d, rfl⟩ : ∃ e, d = e + 1 := ⟨d - 1, by omega⟩
  refine mg_body yy_An_findBeginnings pg_An_findBeginnings (Nat.le_of_ble_eq_true rfl) ?_
  show mm_Rn _ _ _ _ _ _ 0 [(0, _), (1, _), (2, _)] [] _
  refine mg_aload_n 1 rfl rfl rfl ?_
  refine mg_iconst (v := 1) 2 rfl (by decide) rfl ?_
  refine mg_putZ 5 rfl rfl rfl (by first | exact Or.inl rfl | exact Or.inr rfl) rfl ?_
  refine mg_iconst (v := 0) 6 rfl (by decide) rfl ?_
  refine mg_istore_n (L2 := [(0, _), (1, _), (2, _), (3, _)]) 7 rfl (by decide) rfl rfl ?_
  have hfs : an_fr 11 M (mm_up M 7 9 1) := ⟨fun k _ h => by simp [mm_up, h], fun j hj => by simp [mm_up, upd, hj]⟩
  have e8 : mm_up M 7 9 1 11 = M 11 := by simp [mm_up]
  exact lp_fb112 (M0 := M) hW hX hU hM8 hM10 (by omega) k 0 0 _ (by omega) rfl hfs (by rw [e8]; exact hl0) (Or.inl ⟨by simp [mm_up, upd], Nat.zero_le _⟩)
