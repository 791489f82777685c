theorem an_cn1_0 {kd : Nat → Nat} {a b kp em fi S : Nat → Int32} {i : Nat} (k : kd i = 0) : an_cn1 kd a b kp em fi S i := ⟨fun q => absurd (k.symm.trans q) (by decide), fun q => absurd (k.symm.trans q) (by decide), fun q => absurd (k.symm.trans q) (by decide), fun q => absurd (k.symm.trans q) (by decide), fun q => absurd (k.symm.trans q) (by decide), fun q => q.elim (fun q => absurd (k.symm.trans q) (by decide)) (fun q => absurd (k.symm.trans q) (by decide))⟩
theorem an_cn1_6 {kd : Nat → Nat} {a b kp em fi S : Nat → Int32} {i : Nat} (k : kd i = 6) : an_cn1 kd a b kp em fi S i := ⟨fun q => absurd (k.symm.trans q) (by decide), fun q => absurd (k.symm.trans q) (by decide), fun q => absurd (k.symm.trans q) (by decide), fun q => absurd (k.symm.trans q) (by decide), fun q => absurd (k.symm.trans q) (by decide), fun q => q.elim (fun q => absurd (k.symm.trans q) (by decide)) (fun q => absurd (k.symm.trans q) (by decide))⟩
theorem an_cn1_1 {kd : Nat → Nat} {a b kp em fi S : Nat → Int32} {i : Nat} (k : kd i = 1) (h : ms_le (S i) (S (an_o (kp (an_o (a i)))))) : an_cn1 kd a b kp em fi S i := ⟨fun _ => h, fun q => absurd (k.symm.trans q) (by decide), fun q => absurd (k.symm.trans q) (by decide), fun q => absurd (k.symm.trans q) (by decide), fun q => absurd (k.symm.trans q) (by decide), fun q => q.elim (fun q => absurd (k.symm.trans q) (by decide)) (fun q => absurd (k.symm.trans q) (by decide))⟩
theorem an_cn1_2 {kd : Nat → Nat} {a b kp em fi S : Nat → Int32} {i : Nat} (k : kd i = 2) (h : ms_le (S i) (S (an_o (b i))) ∧ ms_le (if em (an_o (b i)) = 0 then fi (an_o (b i)) else fi (an_o (b i)) ||| S i) (S (an_o (a i)))) : an_cn1 kd a b kp em fi S i := ⟨fun q => absurd (k.symm.trans q) (by decide), fun _ => h, fun q => absurd (k.symm.trans q) (by decide), fun q => absurd (k.symm.trans q) (by decide), fun q => absurd (k.symm.trans q) (by decide), fun q => q.elim (fun q => absurd (k.symm.trans q) (by decide)) (fun q => absurd (k.symm.trans q) (by decide))⟩
theorem an_cn1_3 {kd : Nat → Nat} {a b kp em fi S : Nat → Int32} {i : Nat} (k : kd i = 3) (h : ms_le (S i) (S (an_o (a i))) ∧ ms_le (S i) (S (an_o (b i)))) : an_cn1 kd a b kp em fi S i := ⟨fun q => absurd (k.symm.trans q) (by decide), fun q => absurd (k.symm.trans q) (by decide), fun _ => h, fun q => absurd (k.symm.trans q) (by decide), fun q => absurd (k.symm.trans q) (by decide), fun q => q.elim (fun q => absurd (k.symm.trans q) (by decide)) (fun q => absurd (k.symm.trans q) (by decide))⟩
theorem an_cn1_4 {kd : Nat → Nat} {a b kp em fi S : Nat → Int32} {i : Nat} (k : kd i = 4) (h : ms_le (S i) (S (an_o (a i)))) : an_cn1 kd a b kp em fi S i := ⟨fun q => absurd (k.symm.trans q) (by decide), fun q => absurd (k.symm.trans q) (by decide), fun q => absurd (k.symm.trans q) (by decide), fun _ => h, fun q => absurd (k.symm.trans q) (by decide), fun q => q.elim (fun q => absurd (k.symm.trans q) (by decide)) (fun q => absurd (k.symm.trans q) (by decide))⟩
theorem an_cn1_5 {kd : Nat → Nat} {a b kp em fi S : Nat → Int32} {i : Nat} (k : kd i = 5) (h : ms_le (S i ||| fi (an_o (a i))) (S (an_o (a i)))) : an_cn1 kd a b kp em fi S i := ⟨fun q => absurd (k.symm.trans q) (by decide), fun q => absurd (k.symm.trans q) (by decide), fun q => absurd (k.symm.trans q) (by decide), fun q => absurd (k.symm.trans q) (by decide), fun _ => h, fun q => q.elim (fun q => absurd (k.symm.trans q) (by decide)) (fun q => absurd (k.symm.trans q) (by decide))⟩
theorem an_cn1_7 {kd : Nat → Nat} {a b kp em fi S : Nat → Int32} {i : Nat} (k : kd i = 7) (h : ms_le (S i) (S (an_o (b i)))) : an_cn1 kd a b kp em fi S i := ⟨fun q => absurd (k.symm.trans q) (by decide), fun q => absurd (k.symm.trans q) (by decide), fun q => absurd (k.symm.trans q) (by decide), fun q => absurd (k.symm.trans q) (by decide), fun q => absurd (k.symm.trans q) (by decide), fun _ => h⟩
theorem an_cn1_8 {kd : Nat → Nat} {a b kp em fi S : Nat → Int32} {i : Nat} (k : kd i = 8) (h : ms_le (S i) (S (an_o (b i)))) : an_cn1 kd a b kp em fi S i := ⟨fun q => absurd (k.symm.trans q) (by decide), fun q => absurd (k.symm.trans q) (by decide), fun q => absurd (k.symm.trans q) (by decide), fun q => absurd (k.symm.trans q) (by decide), fun q => absurd (k.symm.trans q) (by decide), fun _ => h⟩
theorem an_if_mono {e f x y : Int32} (h : ms_le x y) : ms_le (if e = 0 then f else f ||| x) (if e = 0 then f else f ||| y) := by
  by_cases q : e = 0
  · rw [if_pos q, if_pos q]; exact ms_rf _
  · rw [if_neg q, if_neg q]; exact ms_oo (ms_rf _) h
set_option maxHeartbeats 2000000 in
set_option maxRecDepth 20000 in
theorem sp_giveNext {d : Nat} {M : mm_M} {Q : mm_Qt} {i : Nat} {n : Nat} {kd lv : Nat → Nat} {a b kp us : Nat → Int32} {rt : Nat} (hW : st_wf n kd lv a b kp) (hX : an_X M n kd a b kp rt) (hU : st_us n kd a b kp us rt) {em fi : Nat → Int32} (hM10 : ∀ j, j < 60 → M 10 j = em j) (hM11 : ∀ j, j < 60 → M 11 j = fi j) (hi : i < n) (hu : us i = 1) (hl : an_low (an_cn n kd a b kp us em fi rt) (M 12)) (hd : 2 ≤ d) (k : ∀ M', an_to 12 M M' → an_low (an_cn n kd a b kp us em fi rt) (M' 12) → (M' = M → an_cn1 kd a b kp em fi (M 12) i) → Q none M') : mm_Ev pg ly d 42 [.inr 7, .inl (nI i)] M Q := by
  have hn : n ≤ 60 := hW.1
  have hO := an_ok_of hW hU hi hu
  have cT : ∀ T, an_cn n kd a b kp us em fi rt T → an_cn1 kd a b kp em fi T i := fun T hT => hT.2 i hi hu
  obtain ⟨d, rfl⟩ : ∃ e, d = e + 1 := ⟨d - 1, by omega⟩
  refine mg_body yy_An_giveNext pg_An_giveNext (Nat.le_of_ble_eq_true rfl) ?_
  show mm_Rn _ _ _ _ _ _ 0 [(0, _), (1, _)] [] _
  refine mg_aload_n 1 rfl rfl rfl ?_
  refine mg_getR 4 rfl rfl rfl rfl ?_
  refine mg_getR 7 rfl rfl rfl rfl ?_
  refine mg_iload_n 8 rfl rfl rfl ?_
  refine mg_iald (v := a i) 9 rfl rfl (vp_in_nI (by omega : i < 60) (by omega)) (by rw [nI_clamp (by omega)]; exact (hX.2.1 i hi).2.1) rfl ?_
  refine mg_istore_n (L2 := [(0, _), (1, _), (2, _)]) 10 rfl (by decide) rfl rfl ?_
  refine mg_aload_n 11 rfl rfl rfl ?_
  refine mg_getR 14 rfl rfl rfl rfl ?_
  refine mg_getR 17 rfl rfl rfl rfl ?_
  refine mg_iload_n 18 rfl rfl rfl ?_
  refine mg_iald (v := b i) 19 rfl rfl (vp_in_nI (by omega : i < 60) (by omega)) (by rw [nI_clamp (by omega)]; exact (hX.2.1 i hi).2.2) rfl ?_
  refine mg_istore_n (L2 := [(0, _), (1, _), (2, _), (3, _)]) 20 rfl (by decide) rfl rfl ?_
  refine mg_aload_n 21 rfl rfl rfl ?_
  refine mg_getR 24 rfl rfl rfl rfl ?_
  refine mg_iload_n 25 rfl rfl rfl ?_
  refine mg_iald (v := M 12 i) 26 rfl rfl (vp_in_nI (by omega : i < 60) (by omega)) (by rw [nI_clamp (by omega)]) rfl ?_
  refine mg_istore (L2 := [(0, _), (1, _), (2, _), (3, _), (4, _)]) 28 rfl (by decide) rfl rfl ?_
  refine mg_aload_n 29 rfl rfl rfl ?_
  refine mg_getR 32 rfl rfl rfl rfl ?_
  refine mg_getR 35 rfl rfl rfl rfl ?_
  refine mg_iload_n 36 rfl rfl rfl ?_
  refine mg_iald (v := nI (kd i)) 37 rfl rfl (vp_in_nI (by omega : i < 60) (by omega)) (by rw [nI_clamp (by omega)]; exact (hX.2.1 i hi).1) rfl ?_
  rcases st_k9 (hW.2.1 i hi).1 with hk | hk | hk | hk | hk | hk | hk | hk | hk
  · rw [hk]
    refine mg_tsOut 227 rfl (by decide) (by decide) ?_
    refine mg_vret rfl rfl ?_
    exact k M (an_to_rf 12 M) hl (fun _ => an_cn1_0 hk)
  · rw [hk]
    obtain ⟨r, jc, hr, ea, hjc, hjcn, ekp, -⟩ := hO.2.2.2 hk
    refine mg_tsIn (off := 47) 84 rfl (by decide) (by decide) (by decide +kernel) (by decide) ?_
    refine mg_aload_n 85 rfl rfl rfl ?_
    refine mg_aload_n 86 rfl rfl rfl ?_
    refine mg_getR 89 rfl rfl rfl rfl ?_
    refine mg_aload_n 90 rfl rfl rfl ?_
    refine mg_getR 93 rfl rfl rfl rfl ?_
    refine mg_iload_n 94 rfl rfl rfl ?_
    refine mg_iald (v := nI jc) 95 rfl rfl (by rw [ea]; exact vp_in_nI hr (by omega)) (by rw [ea, nI_clamp (by omega), ← ekp]; exact hX.2.2.1 r hr) rfl ?_
    refine mg_iload 97 rfl rfl rfl ?_
    refine mg_callV3 100 rfl (Nat.le_of_ble_eq_true rfl) pg_An_grow rfl rfl ?_
    refine sp_grow_12 (by omega) (by omega) (fun M1 s1 => ?_)
    have hl1 := an_st_low s1 hl (fun T hT => by have h := (cT T hT).1 hk; rw [ea, an_oI (by omega), ekp, an_oI (by omega)] at h; exact ms_tr (hl T hT i (by omega)) h)
    show mm_Rn _ _ _ _ _ _ 100 [(0, _), (1, _), (2, _), (3, _), (4, _)] [] _
    refine mg_goto 227 rfl (by decide) ?_
    refine mg_vret rfl rfl ?_
    exact k M1 s1.1 hl1 (fun e => an_cn1_1 hk (by rw [ea, an_oI (by omega), ekp, an_oI (by omega)]; have h := an_st_v s1; rw [e] at h; exact h))
  · rw [hk]
    obtain ⟨ja, hja, hjn, ea, -⟩ := hO.2.1 (by rw [hk]; rfl)
    obtain ⟨jb, hjb, hjbn, eb, -⟩ := hO.2.2.1 (by rw [hk]; rfl)
    refine mg_tsIn (off := 66) 103 rfl (by decide) (by decide) (by decide +kernel) (by decide) ?_
    refine mg_aload_n 104 rfl rfl rfl ?_
    refine mg_aload_n 105 rfl rfl rfl ?_
    refine mg_getR 108 rfl rfl rfl rfl ?_
    refine mg_iload_n 109 rfl rfl rfl ?_
    refine mg_iload 111 rfl rfl rfl ?_
    rw [eb]
    refine mg_callV3 114 rfl (Nat.le_of_ble_eq_true rfl) pg_An_grow rfl rfl ?_
    refine sp_grow_12 (by omega) (by omega) (fun M1 s1 => ?_)
    have hl1 := an_st_low s1 hl (fun T hT => by have h := ((cT T hT).2.1 hk).1; rw [eb, an_oI (by omega)] at h; exact ms_tr (hl T hT i (by omega)) h)
    show mm_Rn _ _ _ _ _ _ 114 [(0, _), (1, _), (2, _), (3, _), (4, _)] [] _
    refine mg_aload_n 115 rfl rfl rfl ?_
    refine mg_aload_n 116 rfl rfl rfl ?_
    refine mg_getR 119 rfl rfl rfl rfl ?_
    refine mg_iload_n 120 rfl rfl rfl ?_
    refine mg_aload_n 121 rfl rfl rfl ?_
    refine mg_getR 124 rfl rfl rfl rfl ?_
    refine mg_iload_n 125 rfl rfl rfl ?_
    refine mg_zald (v := em jb) 126 rfl rfl (vp_in_nI (by omega : jb < 60) (by omega)) (by rw [nI_clamp (by omega), s1.1.1.1 10 (by decide) (by decide)]; exact hM10 jb (by omega)) rfl ?_
    refine mg_if_eq 129 141 rfl rfl (by decide) (fun c_126 => ?_) (fun c_126 => ?_)
    · refine mg_aload_n 142 rfl rfl rfl ?_
      refine mg_getR 145 rfl rfl rfl rfl ?_
      refine mg_iload_n 146 rfl rfl rfl ?_
      refine mg_iald (v := fi jb) 147 rfl rfl (vp_in_nI (by omega : jb < 60) (by omega)) (by rw [nI_clamp (by omega), s1.1.1.1 11 (by decide) (by decide)]; exact hM11 jb (by omega)) rfl ?_
      rw [show fi jb = (if em jb = 0 then fi jb else fi jb ||| M 12 i) from by rw [if_pos c_126]]
      rw [ea]
      refine mg_callV3 150 rfl (Nat.le_of_ble_eq_true rfl) pg_An_grow rfl rfl ?_
      refine sp_grow_12 (by omega) (by omega) (fun M2 s2 => ?_)
      have hl2 := an_st_low s2 hl1 (fun T hT => by have h := ((cT T hT).2.1 hk).2; rw [ea, an_oI (by omega), eb, an_oI (by omega)] at h; exact ms_tr (an_if_mono (hl T hT i (by omega))) h)
      show mm_Rn _ _ _ _ _ _ 150 [(0, _), (1, _), (2, _), (3, _), (4, _)] [] _
      refine mg_goto 227 rfl (by decide) ?_
      refine mg_vret rfl rfl ?_
      exact k M2 (an_to_tr s1.1 s2.1) hl2 (fun e => an_cn1_2 hk (by
        have e1 := an_to_eq s1.1 s2.1 e
        have h1 := an_st_v s1
        have h2 := an_st_v s2
        rw [e1] at h1; rw [e] at h2
        rw [ea, an_oI (by omega), eb, an_oI (by omega)]; exact ⟨h1, h2⟩))
    · refine mg_aload_n 130 rfl rfl rfl ?_
      refine mg_getR 133 rfl rfl rfl rfl ?_
      refine mg_iload_n 134 rfl rfl rfl ?_
      refine mg_iald (v := fi jb) 135 rfl rfl (vp_in_nI (by omega : jb < 60) (by omega)) (by rw [nI_clamp (by omega), s1.1.1.1 11 (by decide) (by decide)]; exact hM11 jb (by omega)) rfl ?_
      refine mg_iload 137 rfl rfl rfl ?_
      refine mg_ior 138 rfl rfl rfl ?_
      refine mg_goto 147 rfl (by decide) ?_
      rw [show fi jb ||| M 12 i = (if em jb = 0 then fi jb else fi jb ||| M 12 i) from by rw [if_neg c_126]]
      rw [ea]
      refine mg_callV3 150 rfl (Nat.le_of_ble_eq_true rfl) pg_An_grow rfl rfl ?_
      refine sp_grow_12 (by omega) (by omega) (fun M2 s2 => ?_)
      have hl2 := an_st_low s2 hl1 (fun T hT => by have h := ((cT T hT).2.1 hk).2; rw [ea, an_oI (by omega), eb, an_oI (by omega)] at h; exact ms_tr (an_if_mono (hl T hT i (by omega))) h)
      show mm_Rn _ _ _ _ _ _ 150 [(0, _), (1, _), (2, _), (3, _), (4, _)] [] _
      refine mg_goto 227 rfl (by decide) ?_
      refine mg_vret rfl rfl ?_
      exact k M2 (an_to_tr s1.1 s2.1) hl2 (fun e => an_cn1_2 hk (by
        have e1 := an_to_eq s1.1 s2.1 e
        have h1 := an_st_v s1
        have h2 := an_st_v s2
        rw [e1] at h1; rw [e] at h2
        rw [ea, an_oI (by omega), eb, an_oI (by omega)]; exact ⟨h1, h2⟩))
  · rw [hk]
    obtain ⟨ja, hja, hjn, ea, -⟩ := hO.2.1 (by rw [hk]; rfl)
    obtain ⟨jb, hjb, hjbn, eb, -⟩ := hO.2.2.1 (by rw [hk]; rfl)
    refine mg_tsIn (off := 116) 153 rfl (by decide) (by decide) (by decide +kernel) (by decide) ?_
    refine mg_aload_n 154 rfl rfl rfl ?_
    refine mg_aload_n 155 rfl rfl rfl ?_
    refine mg_getR 158 rfl rfl rfl rfl ?_
    refine mg_iload_n 159 rfl rfl rfl ?_
    refine mg_iload 161 rfl rfl rfl ?_
    rw [ea]
    refine mg_callV3 164 rfl (Nat.le_of_ble_eq_true rfl) pg_An_grow rfl rfl ?_
    refine sp_grow_12 (by omega) (by omega) (fun M1 s1 => ?_)
    have hl1 := an_st_low s1 hl (fun T hT => by have h := ((cT T hT).2.2.1 hk).1; rw [ea, an_oI (by omega)] at h; exact ms_tr (hl T hT i (by omega)) h)
    show mm_Rn _ _ _ _ _ _ 164 [(0, _), (1, _), (2, _), (3, _), (4, _)] [] _
    refine mg_aload_n 165 rfl rfl rfl ?_
    refine mg_aload_n 166 rfl rfl rfl ?_
    refine mg_getR 169 rfl rfl rfl rfl ?_
    refine mg_iload_n 170 rfl rfl rfl ?_
    refine mg_iload 172 rfl rfl rfl ?_
    rw [eb]
    refine mg_callV3 175 rfl (Nat.le_of_ble_eq_true rfl) pg_An_grow rfl rfl ?_
    refine sp_grow_12 (by omega) (by omega) (fun M2 s2 => ?_)
    have hl2 := an_st_low s2 hl1 (fun T hT => by have h := ((cT T hT).2.2.1 hk).2; rw [eb, an_oI (by omega)] at h; exact ms_tr (hl T hT i (by omega)) h)
    show mm_Rn _ _ _ _ _ _ 175 [(0, _), (1, _), (2, _), (3, _), (4, _)] [] _
    refine mg_goto 227 rfl (by decide) ?_
    refine mg_vret rfl rfl ?_
    exact k M2 (an_to_tr s1.1 s2.1) hl2 (fun e => an_cn1_3 hk (by
      have e1 := an_to_eq s1.1 s2.1 e
      have h1 := an_st_v s1
      have h2 := an_st_v s2
      rw [e1] at h1; rw [e] at h2
      rw [ea, an_oI (by omega), eb, an_oI (by omega)]; exact ⟨h1, h2⟩))
  · rw [hk]
    obtain ⟨ja, hja, hjn, ea, -⟩ := hO.2.1 (by rw [hk]; rfl)
    refine mg_tsIn (off := 141) 178 rfl (by decide) (by decide) (by decide +kernel) (by decide) ?_
    refine mg_aload_n 179 rfl rfl rfl ?_
    refine mg_aload_n 180 rfl rfl rfl ?_
    refine mg_getR 183 rfl rfl rfl rfl ?_
    refine mg_iload_n 184 rfl rfl rfl ?_
    refine mg_iload 186 rfl rfl rfl ?_
    rw [ea]
    refine mg_callV3 189 rfl (Nat.le_of_ble_eq_true rfl) pg_An_grow rfl rfl ?_
    refine sp_grow_12 (by omega) (by omega) (fun M1 s1 => ?_)
    have hl1 := an_st_low s1 hl (fun T hT => by have h := (cT T hT).2.2.2.1 hk; rw [ea, an_oI (by omega)] at h; exact ms_tr (hl T hT i (by omega)) h)
    show mm_Rn _ _ _ _ _ _ 189 [(0, _), (1, _), (2, _), (3, _), (4, _)] [] _
    refine mg_goto 227 rfl (by decide) ?_
    refine mg_vret rfl rfl ?_
    exact k M1 s1.1 hl1 (fun e => an_cn1_4 hk (by rw [ea, an_oI (by omega)]; have h := an_st_v s1; rw [e] at h; exact h))
  · rw [hk]
    obtain ⟨ja, hja, hjn, ea, -⟩ := hO.2.1 (by rw [hk]; rfl)
    refine mg_tsIn (off := 155) 192 rfl (by decide) (by decide) (by decide +kernel) (by decide) ?_
    refine mg_aload_n 193 rfl rfl rfl ?_
    refine mg_aload_n 194 rfl rfl rfl ?_
    refine mg_getR 197 rfl rfl rfl rfl ?_
    refine mg_iload_n 198 rfl rfl rfl ?_
    refine mg_iload 200 rfl rfl rfl ?_
    refine mg_aload_n 201 rfl rfl rfl ?_
    refine mg_getR 204 rfl rfl rfl rfl ?_
    refine mg_iload_n 205 rfl rfl rfl ?_
    refine mg_iald (v := fi ja) 206 rfl rfl (by rw [ea]; exact vp_in_nI (by omega : ja < 60) (by omega)) (by rw [ea, nI_clamp (by omega)]; exact hM11 ja (by omega)) rfl ?_
    refine mg_ior 207 rfl rfl rfl ?_
    rw [ea]
    refine mg_callV3 210 rfl (Nat.le_of_ble_eq_true rfl) pg_An_grow rfl rfl ?_
    refine sp_grow_12 (by omega) (by omega) (fun M1 s1 => ?_)
    have hl1 := an_st_low s1 hl (fun T hT => by have h := (cT T hT).2.2.2.2.1 hk; rw [ea, an_oI (by omega)] at h; exact ms_tr (ms_oo (hl T hT i (by omega)) (ms_rf _)) h)
    show mm_Rn _ _ _ _ _ _ 210 [(0, _), (1, _), (2, _), (3, _), (4, _)] [] _
    refine mg_goto 227 rfl (by decide) ?_
    refine mg_vret rfl rfl ?_
    exact k M1 s1.1 hl1 (fun e => an_cn1_5 hk (by rw [ea, an_oI (by omega)]; have h := an_st_v s1; rw [e] at h; exact h))
  · rw [hk]
    refine mg_tsIn (off := 190) 227 rfl (by decide) (by decide) (by decide +kernel) (by decide) ?_
    refine mg_vret rfl rfl ?_
    exact k M (an_to_rf 12 M) hl (fun _ => an_cn1_6 hk)
  · rw [hk]
    obtain ⟨ja, hja, hjn, ea, -⟩ := hO.2.1 (by rw [hk]; rfl)
    obtain ⟨jb, hjb, hjbn, eb, -⟩ := hO.2.2.1 (by rw [hk]; rfl)
    refine mg_tsIn (off := 176) 213 rfl (by decide) (by decide) (by decide +kernel) (by decide) ?_
    refine mg_aload_n 214 rfl rfl rfl ?_
    refine mg_aload_n 215 rfl rfl rfl ?_
    refine mg_getR 218 rfl rfl rfl rfl ?_
    refine mg_iload_n 219 rfl rfl rfl ?_
    refine mg_iload 221 rfl rfl rfl ?_
    rw [eb]
    refine mg_callV3 224 rfl (Nat.le_of_ble_eq_true rfl) pg_An_grow rfl rfl ?_
    refine sp_grow_12 (by omega) (by omega) (fun M1 s1 => ?_)
    have hl1 := an_st_low s1 hl (fun T hT => by have h := (cT T hT).2.2.2.2.2 (Or.inl hk); rw [eb, an_oI (by omega)] at h; exact ms_tr (hl T hT i (by omega)) h)
    show mm_Rn _ _ _ _ _ _ 224 [(0, _), (1, _), (2, _), (3, _), (4, _)] [] _
    refine mg_goto 227 rfl (by decide) ?_
    refine mg_vret rfl rfl ?_
    exact k M1 s1.1 hl1 (fun e => an_cn1_7 hk (by rw [eb, an_oI (by omega)]; have h := an_st_v s1; rw [e] at h; exact h))
  · rw [hk]
    obtain ⟨jb, hjb, hjbn, eb, -⟩ := hO.2.2.1 (by rw [hk]; rfl)
    refine mg_tsIn (off := 176) 213 rfl (by decide) (by decide) (by decide +kernel) (by decide) ?_
    refine mg_aload_n 214 rfl rfl rfl ?_
    refine mg_aload_n 215 rfl rfl rfl ?_
    refine mg_getR 218 rfl rfl rfl rfl ?_
    refine mg_iload_n 219 rfl rfl rfl ?_
    refine mg_iload 221 rfl rfl rfl ?_
    rw [eb]
    refine mg_callV3 224 rfl (Nat.le_of_ble_eq_true rfl) pg_An_grow rfl rfl ?_
    refine sp_grow_12 (by omega) (by omega) (fun M1 s1 => ?_)
    have hl1 := an_st_low s1 hl (fun T hT => by have h := (cT T hT).2.2.2.2.2 (Or.inr hk); rw [eb, an_oI (by omega)] at h; exact ms_tr (hl T hT i (by omega)) h)
    show mm_Rn _ _ _ _ _ _ 224 [(0, _), (1, _), (2, _), (3, _), (4, _)] [] _
    refine mg_goto 227 rfl (by decide) ?_
    refine mg_vret rfl rfl ?_
    exact k M1 s1.1 hl1 (fun e => an_cn1_8 hk (by rw [eb, an_oI (by omega)]; have h := an_st_v s1; rw [e] at h; exact h))
set_option maxHeartbeats 2000000 in
set_option maxRecDepth 20000 in
theorem lp_fn1 {d : Nat} {M1 : mm_M} {Q : mm_Qt} {rr : mm_V} {n : Nat} {kd lv : Nat → Nat} {a b kp us : Nat → Int32} {rt : Nat} (hW : st_wf n kd lv a b kp) (hX : an_X M1 n kd a b kp rt) (hU : st_us n kd a b kp us rt) (hM8 : ∀ j, j < 60 → M1 8 j = us j) {em fi : Nat → Int32} (hM10 : ∀ j, j < 60 → M1 10 j = em j) (hM11 : ∀ j, j < 60 → M1 11 j = fi j) (hF : ∀ j, j < 60 → ms_le (fi j) 1023) (hd : 3 ≤ d) (k : ∀ M, an_to 12 M1 M → an_low (an_cn n kd a b kp us em fi rt) (M 12) → (M = M1 → ∀ i, i < n → us i = 1 → an_cn1 kd a b kp em fi (M1 12) i) → mm_Rn pg ly d (mm_Ev pg ly d) yy_An_findNext Q 75 [(0, .inr 7), (1, rr)] [] M) :
    ∀ (i : Nat) (x : Int32) (M : mm_M), i ≤ n → x = nI i - 1 → an_to 12 M1 M → an_low (an_cn n kd a b kp us em fi rt) (M 12) → (M = M1 → ∀ q, i ≤ q → q < n → us q = 1 → an_cn1 kd a b kp em fi (M1 12) q) → mm_Rn pg ly d (mm_Ev pg ly d) yy_An_findNext Q 51 [(0, .inr 7), (1, rr), (2, .inl x)] [] M := by
  have hn : n ≤ 60 := hW.1
  intro i
  induction i with
  | zero =>
    intro x M hi ex ht hl hp
    subst ex
    refine mg_iload_n 52 rfl rfl rfl ?_
    refine mg_if_lt 55 75 rfl rfl (by decide) (fun c_52 => ?_) (fun c_52 => absurd c_52 (by decide))
    exact mg_loc [(0, _), (1, _)] ⟨rfl, rfl, trivial⟩ (k M ht hl (fun e q hq => hp e q (by omega) hq))
  | succ i ih =>
    intro x M hi ex ht hl hp
    have ex2 : x = nI i := by rw [ex]; exact nI_pred i
    subst ex2
    have hX2 := an_X_fr (by decide) ht.1 hX
    have h8 : ∀ j, j < 60 → M 8 j = us j := fun j hj => by rw [ht.1.1 8 (by decide) (by decide)]; exact hM8 j hj
    have h10 : ∀ j, j < 60 → M 10 j = em j := fun j hj => by rw [ht.1.1 10 (by decide) (by decide)]; exact hM10 j hj
    have h11 : ∀ j, j < 60 → M 11 j = fi j := fun j hj => by rw [ht.1.1 11 (by decide) (by decide)]; exact hM11 j hj
    refine mg_iload_n 52 rfl rfl rfl ?_
    refine mg_if_lt 55 75 rfl rfl (by decide) (fun c_52 => absurd c_52 (nI_pos (by omega))) (fun c_52 => ?_)
    refine mg_aload_n 56 rfl rfl rfl ?_
    refine mg_getR 59 rfl rfl rfl rfl ?_
    refine mg_iload_n 60 rfl rfl rfl ?_
    refine mg_zald (v := us i) 61 rfl rfl (vp_in_nI (by omega : i < 60) (by omega)) (by rw [nI_clamp (by omega)]; exact h8 i (by omega)) rfl ?_
    refine mg_if_eq 64 69 rfl rfl (by decide) (fun c_61 => ?_) (fun c_61 => ?_)
    · refine mg_iinc (v := _ + (-1)) (L2 := [(0, _), (1, _), (2, _)]) 72 rfl rfl (by decide) rfl rfl rfl ?_
      refine mg_goto 51 rfl (by decide) ?_
      exact ih _ _ (by omega) (pk_m1' i) ht hl (fun e q h1 h2 h3 => by
        rcases Nat.lt_or_ge i q with h | h
        · exact hp e q h h2 h3
        · have : q = i := by omega
          subst this
          exact absurd (h3.symm.trans c_61) (by decide))
    · have hu : us i = 1 := ((hU.2.2.1 i (by omega)).resolve_left c_61).1
      refine mg_aload_n 65 rfl rfl rfl ?_
      refine mg_iload_n 66 rfl rfl rfl ?_
      refine mg_callV1 69 rfl (Nat.le_of_ble_eq_true rfl) pg_An_giveNext rfl rfl ?_
      refine sp_giveNext hW hX2 hU h10 h11 (by omega) hu hl (by omega) (fun M2 t2 hl2 hc => ?_)
      show mm_Rn _ _ _ _ _ _ 69 [(0, _), (1, _), (2, _)] [] _
      refine mg_iinc (v := _ + (-1)) (L2 := [(0, _), (1, _), (2, _)]) 72 rfl rfl (by decide) rfl rfl rfl ?_
      refine mg_goto 51 rfl (by decide) ?_
      exact ih _ _ (by omega) (pk_m1' i) (an_to_tr ht t2) hl2 (fun e q h1 h2 h3 => by
        have e0 := an_to_eq ht t2 e
        rcases Nat.lt_or_ge i q with h | h
        · exact hp e0 q h h2 h3
        · have : q = i := by omega
          subst this
          have h9 := hc (e.trans e0.symm)
          rw [e0] at h9
          exact h9)
set_option maxHeartbeats 2000000 in
set_option maxRecDepth 20000 in
theorem lp_fn2 {d : Nat} {Q : mm_Qt} {M0 : mm_M} {n : Nat} {kd lv : Nat → Nat} {a b kp us : Nat → Int32} {rt : Nat} (hW : st_wf n kd lv a b kp) (hX : an_X M0 n kd a b kp rt) (hU : st_us n kd a b kp us rt) (hM8 : ∀ j, j < 60 → M0 8 j = us j) {em fi : Nat → Int32} (hM10 : ∀ j, j < 60 → M0 10 j = em j) (hM11 : ∀ j, j < 60 → M0 11 j = fi j) (hF : ∀ j, j < 60 → ms_le (fi j) 1023) (hd : 3 ≤ d) (k : ∀ M, an_fr 12 M0 M → an_lst (an_cn n kd a b kp us em fi rt) (M 12) → Q none M) :
    ∀ (r : Nat) (x : Int32) (M : mm_M), r ≤ 661 → x = nI r → an_fr 12 M0 M → an_low (an_cn n kd a b kp us em fi rt) (M 12) → ms_le 1024 (M 12 rt) → ((M 7 9 = 1 ∧ r ≤ an_cnt (M 12) 60) ∨ (M 7 9 = 0 ∧ ∀ i, i < n → us i = 1 → an_cn1 kd a b kp em fi (M 12) i)) → mm_Rn pg ly d (mm_Ev pg ly d) yy_An_findNext Q 22 [(0, .inr 7), (1, .inl x)] [] M := by
  have hn : n ≤ 60 := hW.1
  intro r
  induction hm : 661 - r using Nat.strongRecOn generalizing r with
  | _ m ih =>
    intro x M hr ex hf hl hrt hc
    subst ex
    have hX1 := an_X_fr (by decide) hf hX
    rcases hc with ⟨hc1, hc2⟩ | ⟨hc1, hc2⟩
    · have hb := an_low_bd hl (an_cn_T (em := em) hW hU hF)
      have e1 : ms_c 2047 32 = 11 := by decide
      rw [e1] at hb
      refine mg_aload_n 23 rfl rfl rfl ?_
      refine mg_getI (v := 1) 26 rfl rfl (Or.inr rfl) hc1 rfl ?_
      refine mg_if_eq 29 81 rfl rfl (by decide) (fun c_26 => absurd c_26 (by decide)) (fun c_26 => ?_)
      refine mg_iload_n 30 rfl rfl rfl ?_
      refine mg_sipush (v := 661) 33 rfl (by decide) rfl ?_
      refine mg_ic_ge 36 81 rfl rfl (by decide) (fun c_33 => absurd c_33 (nI_ge (b := 661) (by omega) (by omega))) (fun c_33 => ?_)
      refine mg_aload_n 37 rfl rfl rfl ?_
      refine mg_iconst (v := 0) 38 rfl (by decide) rfl ?_
      refine mg_putZ 41 rfl rfl rfl (by first | exact Or.inl rfl | exact Or.inr rfl) rfl ?_
      refine mg_aload_n 42 rfl rfl rfl ?_
      refine mg_getR 45 rfl rfl rfl rfl ?_
      refine mg_getI (v := nI n) 48 rfl rfl (Or.inl rfl) hX1.1 rfl ?_
      refine mg_iconst (v := 1) 49 rfl (by decide) rfl ?_
      refine mg_isub (v := nI n - 1) 50 rfl rfl rfl ?_
      refine mg_istore_n (L2 := [(0, _), (1, _), (2, _)]) 51 rfl (by decide) rfl rfl ?_
      obtain ⟨hf0, e8⟩ := an_to_set 12 M (by decide)
      refine mg_loc [(0, _), (1, _), (2, _)] ⟨rfl, rfl, rfl, trivial⟩ (lp_fn1 (M1 := mm_up M 7 9 0) (em := em) (fi := fi) hW (an_X_fr (by decide) hf0 hX1) hU (fun j hj => by rw [hf0.1 8 (by decide) (by decide), hf.1 8 (by decide) (by decide)]; exact hM8 j hj) (fun j hj => by rw [hf0.1 10 (by decide) (by decide), hf.1 10 (by decide) (by decide)]; exact hM10 j hj) (fun j hj => by rw [hf0.1 11 (by decide) (by decide), hf.1 11 (by decide) (by decide)]; exact hM11 j hj) hF hd (fun M2 t2 hl2 hp2 => ?_) n _ _ (by omega) rfl (an_to_rf 12 _) (by rw [e8]; exact hl) (fun _ q h1 => by omega))
      refine mg_iinc (v := _ + 1) (L2 := [(0, _), (1, _)]) 78 rfl rfl (by decide) rfl rfl rfl ?_
      refine mg_goto 22 rfl (by decide) ?_
      have hf2 := an_fr_tr hf (an_fr_tr hf0 t2.1)
      have hrt2 : ms_le 1024 (M2 12 rt) := ms_tr (by rw [e8]; exact hrt) (t2.2.2 rt)
      rcases t2.2.1 with e2 | ⟨e2, c2⟩
      · exact ih _ (by omega) (r + 1) rfl _ M2 (by omega) (nI_1 r) hf2 hl2 hrt2 (Or.inr ⟨by rw [e2]; simp [mm_up, upd], by rw [e2]; exact hp2 e2⟩)
      · rw [e8] at c2
        exact ih _ (by omega) (r + 1) rfl _ M2 (by omega) (nI_1 r) hf2 hl2 hrt2 (Or.inl ⟨e2, by omega⟩)
    · refine mg_aload_n 23 rfl rfl rfl ?_
      refine mg_getI (v := 0) 26 rfl rfl (Or.inr rfl) hc1 rfl ?_
      refine mg_if_eq 29 81 rfl rfl (by decide) (fun c_26 => ?_) (fun c_26 => absurd c_26 (by decide))
      refine mg_vret rfl rfl ?_
      exact k M hf ⟨⟨hrt, hc2⟩, hl⟩
set_option maxHeartbeats 2000000 in
set_option maxRecDepth 20000 in
theorem sp_findNext {d : Nat} {M : mm_M} {Q : mm_Qt} {n : Nat} {kd lv : Nat → Nat} {a b kp us : Nat → Int32} {rt : Nat} (hW : st_wf n kd lv a b kp) (hX : an_X M n kd a b kp rt) (hU : st_us n kd a b kp us rt) (hM8 : ∀ j, j < 60 → M 8 j = us j) {em fi : Nat → Int32} (hM10 : ∀ j, j < 60 → M 10 j = em j) (hM11 : ∀ j, j < 60 → M 11 j = fi j) (hF : ∀ j, j < 60 → ms_le (fi j) 1023) (h0 : ∀ i, i < 60 → M 12 i = 0) (hd : 4 ≤ d) (k : ∀ M', an_fr 12 M M' → an_lst (an_cn n kd a b kp us em fi rt) (M' 12) → Q none M') : mm_Ev pg ly d 41 [.inr 7] M Q := by
  have hn : n ≤ 60 := hW.1
  have hrn := hU.1
  have hl0 : an_low (an_cn n kd a b kp us em fi rt) (M 12) := fun T hT i hi => by rw [h0 i hi]; exact ms_0 _
  obtain ⟨d, rfl⟩ : ∃ e, d = e + 1 := ⟨d - 1, by omega⟩
  refine mg_body yy_An_findNext pg_An_findNext (Nat.le_of_ble_eq_true rfl) ?_
  show mm_Rn _ _ _ _ _ _ 0 [(0, _)] [] _
  refine mg_aload_n 1 rfl rfl rfl ?_
  refine mg_aload_n 2 rfl rfl rfl ?_
  refine mg_getR 5 rfl rfl rfl rfl ?_
  refine mg_aload_n 6 rfl rfl rfl ?_
  refine mg_getI (v := nI rt) 9 rfl rfl (Or.inl rfl) hX.2.2.2 rfl ?_
  refine mg_sipush (v := 1024) 12 rfl (by decide) rfl ?_
  refine mg_callV3 15 rfl (Nat.le_of_ble_eq_true rfl) pg_An_grow rfl rfl ?_
  refine sp_grow_12 (by omega) (by omega) (fun M1 s1 => ?_)
  show mm_Rn _ _ _ _ _ _ 15 [(0, _)] [] _
  refine mg_aload_n 16 rfl rfl rfl ?_
  refine mg_iconst (v := 1) 17 rfl (by decide) rfl ?_
  refine mg_putZ 20 rfl rfl rfl (by first | exact Or.inl rfl | exact Or.inr rfl) rfl ?_
  refine mg_iconst (v := 0) 21 rfl (by decide) rfl ?_
  refine mg_istore_n (L2 := [(0, _), (1, _)]) 22 rfl (by decide) rfl rfl ?_
  have hl1 := an_st_low s1 hl0 (fun T hT => hT.1)
  have hfs : an_fr 12 M1 (mm_up M1 7 9 1) := ⟨fun k _ h => by simp [mm_up, h], fun j hj => by simp [mm_up, upd, hj]⟩
  have e8 : mm_up M1 7 9 1 12 = M1 12 := by simp [mm_up]
  exact lp_fn2 (M0 := M) hW hX hU hM8 hM10 hM11 hF (by omega) k 0 0 _ (by omega) rfl (an_fr_tr s1.1.1 hfs) (by rw [e8]; exact hl1) (by rw [e8]; exact an_st_v s1) (Or.inl ⟨by simp [mm_up, upd], Nat.zero_le _⟩)
