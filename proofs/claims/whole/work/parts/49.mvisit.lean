/-! THE REFERENCE'S VISIT: one theorem for both loops -/
def pm_way (w : Nat) (M : mm_M) (s : pv_S) (M1 : mm_M) (s1 : pv_S) : Prop := pm_fr M M1 ∧ pm_lo w s.2.2.1 M M1 ∧ s.2.2.1 ≤ s1.2.2.1
theorem pm_way_tr {w : Nat} {M M1 M2 : mm_M} {s s1 s2 : pv_S} (h1 : pm_way w M s M1 s1) (h2 : pm_way w M1 s1 M2 s2) : pm_way w M s M2 s2 := ⟨pm_fr_tr h1.1 h2.1, pm_lo_tr h1.2.1 (Nat.le_refl _) h1.2.2 h2.2.1, Nat.le_trans h1.2.2 h2.2.2⟩
theorem pm_way_er {w b0 : Nat} {sc : Bool} {M M1 M' : mm_M} {s s1 : pv_S} {r : pv_R} (hw : b0 ≤ w) (h : pm_way w M s M1 s1) (h2 : pm_er b0 sc M1 s1 r M') : pm_er b0 sc M s r M' := pm_er_tr h.1 h.2.1 hw (Nat.le_refl _) h.2.2 h2
theorem pm_way_go {w c : Nat} {M M1 M' : mm_M} {s s1 t : pv_S} (h : pm_way w M s M1 s1) (h2 : pm_go w c M1 s1 t M') : pm_go w c M s t M' := pm_go_tr h.1 h.2.1 (Nat.le_refl _) h.2.2 (Nat.le_refl _) h2
theorem pm_way_ph (w : Nat) (M : mm_M) (s : pv_S) (x : Int32) : pm_way w M s (mm_up M 35 w x) s := ⟨pm_fr_up (by decide), pm_lo_ph w _ M x, Nat.le_refl _⟩
theorem pm_way_of {w w2 c : Nat} {M M' : mm_M} {s t : pv_S} (hw : w ≤ w2) (ht : s.2.2.1 ≤ t.2.2.1) (h : pm_go w2 c M s t M') : pm_way w M s M' t := ⟨h.1, pm_lo_le hw (Nat.le_refl _) h.2.1, ht⟩
theorem pm_go_ph {P : pv_D} {u : Nat → Prop} {z : Nat} {em fi nx us : Nat → Int32} {M : mm_M} {s : pv_S} {c w n p : Nat} (x : Int32) (h : pm_hd P u z em fi nx us M s c w n p) : pm_go w c M s s (mm_up M 35 w x) := ⟨pm_fr_up (by decide), pm_lo_ph w _ M x, h.2.1, h.2.2.1, h.2.2.2.1⟩
theorem pv_ch_01 (P : pv_D) (V : pv_V) (n c : Nat) (sc : Bool) (s : pv_S) : (pv_ch P V n c sc s).1 = -8 ∨ (pv_ch P V n c sc s).1 = 0 ∨ (pv_ch P V n c sc s).1 = 1 := by
  unfold pv_ch
  split
  · unfold pv_la1
    split
    · exact Or.inl rfl
    · split
      · exact Or.inr (Or.inr rfl)
      · exact Or.inr (Or.inl rfl)
  · split
    · exact Or.inr (Or.inr rfl)
    · exact Or.inr (Or.inl rfl)
theorem pv_vis_st {P : pv_D} {lv : Nat → Nat} {u : Nat → Prop} {z : Nat} (hP : pv_val P lv u z) (N n c : Nat) (sc : Bool) (s : pv_S) (hn : u n) (hs : pv_ok z s) (h : (pv_vis P N n c sc s).1 = 0) : s.2.1 + 1 ≤ (pv_vis P N n c sc s).2.2.2.1 := by
  cases N with
  | zero => exact absurd (show (-8 : Int32) = 0 from h) (by decide)
  | succ N =>
    have e : pv_vis P (N + 1) n c sc s = if 1500 ≤ s.2.1 then ((-8 : Int32), (0 : Int32), s) else pv_body P (pv_vis P N) n c sc (pv_step s) := rfl
    by_cases h15 : 1500 ≤ s.2.1
    · rw [e, if_pos h15] at h
      exact absurd (show (-8 : Int32) = 0 from h) (by decide)
    · rw [e, if_neg h15]
      have h1 : pv_ok z (pv_step s) := ⟨hs.1, (by show s.2.1 + 1 ≤ 1500; omega), hs.2.2⟩
      exact (pv_body_kp (c := c) (sc := sc) hP (pv_vis_kp hP N) hn h1).2.1
section PmB
variable {P : pv_D} {lv : Nat → Nat} {u : Nat → Prop} {z : Nat} {em fi nx us : Nat → Int32} {sc : Bool} {V : pv_V} {N d b0 : Nat} {L : Int32 → mm_M → Prop} {F : mm_M → Prop} {w n c : Nat} {M : mm_M} {s : pv_S}
theorem pm_turn0 (hIT : pm_IT P u z em fi nx us sc V N d b0 L F) {p : Nat} (hw : b0 ≤ w) (hw2 : w < b0 + 60) (h : pm_hd P u z em fi nx us M s c w n p) (hn : u n) (hc : c ≤ 6) (hp : p < 2000) (hN : 1500 ≤ s.2.1 + N) (hck : ¬ pm_ck (pv_kd P n) p)
    (k : mm_Ev pg ly d 99 [.inr 21, .inl (nI w), .inl (px_b sc), .inl 0] M (pm_nx d L F w)) : L (nI w) M := hIT w n p c M s hw hw2 h hn hc hp hN (fun _ => k) (fun z => absurd z hck) (fun z => absurd z hck)
/-- the choosing turn -/
theorem pm_turn1 (hP : pv_val P lv u z) (hIT : pm_IT P u z em fi nx us sc V N d b0 L F) (hKp : pv_keeps z u V) {p : Nat} (hw : b0 ≤ w) (hw2 : w < b0 + 60) (h : pm_hd P u z em fi nx us M s c w n p) (hn : u n) (hc : c ≤ 6) (hp : p < 2000) (hN : 1500 ≤ s.2.1 + N) (hnl : st_nl (pv_kd P n) = true) (hck : pm_ck (pv_kd P n) p)
    (kE : (pv_ch P V n c sc s).1 = -8 → ∀ M', pm_er b0 sc M s (-8, 0, (pv_ch P V n c sc s).2) M' → F M')
    (k0 : (pv_ch P V n c sc s).1 = 0 → ∀ M', pm_way w M s M' (pv_ch P V n c sc s).2 → pm_hd P u z em fi nx us M' (pv_ch P V n c sc s).2 c w n p → mm_Ev pg ly d 99 [.inr 21, .inl (nI w), .inl (px_b sc), .inl 0] M' (pm_nx d L F w))
    (k1 : (pv_ch P V n c sc s).1 = 1 → ∀ M', pm_way w M s M' (pv_ch P V n c sc s).2 → pm_hd P u z em fi nx us M' (pv_ch P V n c sc s).2 c w n p → mm_Ev pg ly d 99 [.inr 21, .inl (nI w), .inl (px_b sc), .inl 1] M' (pm_nx d L F w)) : L (nI w) M := by
  refine hIT w n p c M s hw hw2 h hn hc hp hN (fun z => absurd hck z) (fun _ => kE) (fun _ hne M' g => ?_)
  have hkp := pv_ch_kp (c := c) (sc := sc) hP hKp hn hnl h.2.2.2.2.2.2
  have hd' : pm_hd P u z em fi nx us M' (pv_ch P V n c sc s).2 c w n p := ⟨pm_D_fr g.1 h.1, g.2.2.1, g.2.2.2.1, g.2.2.2.2, (g.2.1.1 w hw2).1.trans h.2.2.2.2.1, (g.2.1.1 w hw2).2.1.trans h.2.2.2.2.2.1, hkp.1⟩
  have hwy := pm_way_of (Nat.le_of_lt hw2) hkp.2.2.1 g
  rcases pv_ch_01 P V n c sc s with e | e | e
  · exact absurd e hne
  · rw [e]; exact k0 e M' hwy hd'
  · rw [e]; exact k1 e M' hwy hd'
/-- the loop of MANY -/
theorem pm_many (hP : pv_val P lv u z) (hIT : pm_IT P u z em fi nx us sc V N d b0 L F) (hV : pm_VV P lv u z em fi nx us sc V N d b0 L F) (hKp : pv_keeps z u V) (hSt : ∀ n c sc s, u n → pv_ok z s → (V n c sc s).1 = 0 → s.2.1 + 1 ≤ (V n c sc s).2.2.2.1) (hd3 : 3 ≤ d) (hw : b0 ≤ w) (hb0 : b0 ≤ 60) (hb : w - b0 + lv n ≤ 6 * c + 6) (hc : c ≤ 6) (hn : u n) (hk : pv_kd P n = 5) :
    ∀ (R p : Nat) (M : mm_M) (s : pv_S), 1501 ≤ R + s.2.1 → p ≤ s.2.1 → pm_hd P u z em fi nx us M s c w n p → 1500 ≤ s.2.1 + N →
      ((pv_many P V n c sc R s).1 ≠ 0 → ∀ M', pm_er b0 sc M s (pv_many P V n c sc R s) M' → F M') → ((pv_many P V n c sc R s).1 = 0 → ∀ M', pm_go w c M s (pv_many P V n c sc R s).2.2 M' → L (nI w + (-1)) M') → L (nI w) M := by
  obtain ⟨-, hlv, -, hua, -⟩ := hP.1 n hn
  have ha := hua (by rw [hk]; rfl)
  intro R
  induction R with
  | zero => intro p M s hR hp h hN kE k0; have := h.2.2.2.2.2.2.2.1; omega
  | succ R ih =>
    intro p M s hR hp h hN kE k0
    have h15 := h.2.2.2.2.2.2.2.1
    have hD1 := (h.1.2.2.2 n hn).1
    have hD2 := (h.1.2.2.2 n hn).2.1
    have em1 : pv_many P V n c sc (R + 1) s = if (pv_ch P V n c sc s).1 = -8 then (-8, 0, (pv_ch P V n c sc s).2) else if (pv_ch P V n c sc s).1 = 0 then (0, 0, (pv_ch P V n c sc s).2) else
      if (V (pv_oa P n) c sc (pv_ch P V n c sc s).2).1 = 0 then pv_many P V n c sc R (V (pv_oa P n) c sc (pv_ch P V n c sc s).2).2.2 else V (pv_oa P n) c sc (pv_ch P V n c sc s).2 := rfl
    have hkp := pv_ch_kp (c := c) (sc := sc) hP hKp hn (by rw [hk]; rfl) h.2.2.2.2.2.2
    have h22 : ∀ {M' : mm_M}, pm_fr M M' → M' 22 n = nI 5 := fun f => by rw [f.1 22 (by decide) (by decide), hD2, hk]
    have h23 : ∀ {M' : mm_M}, pm_fr M M' → M' 23 n = nI (pv_oa P n) := fun f => by rw [f.1 23 (by decide) (by decide)]; exact (h.1.2.2.2 n hn).2.2.1 (by rw [hk]; rfl)
    refine pm_turn1 hP hIT hKp hw (by omega) h hn hc (by omega) hN (by rw [hk]; rfl) (Or.inl hk) (fun e M' g => ?_) (fun e M' hwy h' => ?_) (fun e M' hwy h' => ?_)
    · have er : pv_many P V n c sc (R + 1) s = (-8, 0, (pv_ch P V n c sc s).2) := by rw [em1, if_pos e]
      rw [er] at kE
      exact kE (show (-8 : Int32) ≠ 0 by decide) M' g
    · have er : pv_many P V n c sc (R + 1) s = (0, 0, (pv_ch P V n c sc s).2) := by rw [em1, if_neg (by rw [e]; decide), if_pos e]
      rw [er] at k0
      exact ss_manyn (by omega) h'.2.2.2.2.1 h'.2.2.2.2.2.1 hD1 (h22 hwy.1) hd3 (pm_ret h'.2.2.2.1 (k0 rfl _ (pm_way_go hwy (pm_go_ph _ h'))))
    · have er : pv_many P V n c sc (R + 1) s = if (V (pv_oa P n) c sc (pv_ch P V n c sc s).2).1 = 0 then pv_many P V n c sc R (V (pv_oa P n) c sc (pv_ch P V n c sc s).2).2.2 else V (pv_oa P n) c sc (pv_ch P V n c sc s).2 := by rw [em1, if_neg (by rw [e]; decide), if_neg (by rw [e]; decide)]
      have hw1 := pm_way_tr hwy (pm_way_ph w M' (pv_ch P V n c sc s).2 (nI (p + 1)))
      refine ss_manya (by omega) h'.2.2.2.2.1 h'.2.2.2.2.2.1 hD1 (h22 hwy.1) (h23 hwy.1) hd3 (pm_child hP hV hKp hw hc (by omega) ha.1 (pm_hd_ph (p + 1) h') (by have := hkp.2.1; omega) (h.1.2.2.2 _ ha.1).1 (fun e1 M2 g => ?_) (fun e1 M2 g h2 => ?_))
      · rw [er, if_neg e1] at kE
        exact kE e1 M2 (pm_way_er hw hw1 g)
      · have k2 := hKp (pv_oa P n) c sc _ ha.1 hkp.1
        have k3 := hSt (pv_oa P n) c sc _ ha.1 hkp.1 e1
        have k1 := hkp.2.1
        have hw2 := pm_way_tr hw1 (pm_way_of (Nat.le_succ w) k2.2.2.1 g)
        rw [er, if_pos e1] at kE k0
        exact ih (p + 1) M2 _ (by omega) (by omega) h2 (by omega) (fun e M3 g3 => kE e M3 (pm_way_er hw hw2 g3)) (fun e M3 g3 => k0 e M3 (pm_way_go hw2 g3))
/-- a visit from behind begin, but for NAMED in the first loop -/
theorem pm_bd (hP : pv_val P lv u z) (hIT : pm_IT P u z em fi nx us sc V N d b0 L F) (hV : pm_VV P lv u z em fi nx us sc V N d b0 L F) (hKp : pv_keeps z u V) (hSt : ∀ n c sc s, u n → pv_ok z s → (V n c sc s).1 = 0 → s.2.1 + 1 ≤ (V n c sc s).2.2.2.1) (hd3 : 3 ≤ d) (hw : b0 ≤ w) (hb0 : b0 ≤ 60) (hb : w - b0 + lv n ≤ 6 * c + 6) (hc : c ≤ 6) (hn : u n) (h : pm_hd P u z em fi nx us M s c w n 0) (hN : 1500 ≤ s.2.1 + N) (h8 : pv_kd P n = 8 → sc = true)
    (kE : (pv_body P V n c sc s).1 ≠ 0 → ∀ M', pm_er b0 sc M s (pv_body P V n c sc s) M' → F M') (k0 : (pv_body P V n c sc s).1 = 0 → ∀ M', pm_go w c M s (pv_body P V n c sc s).2.2 M' → L (nI w + (-1)) M') : L (nI w) M := by
  obtain ⟨h9, hlv, hlv6, hua, hub, huc, -⟩ := hP.1 n hn
  have hD1 := (h.1.2.2.2 n hn).1
  have hD2 := (h.1.2.2.2 n hn).2.1
  have h15 := h.2.2.2.2.2.2.2.1
  have hw2 : w < b0 + 60 := by omega
  have h22 : ∀ {M' : mm_M}, pm_fr M M' → M' 22 n = nI (pv_kd P n) := fun f => by rw [f.1 22 (by decide) (by decide), hD2]
  have ha23 : st_nl (pv_kd P n) = true → ∀ {M' : mm_M}, pm_fr M M' → M' 23 n = nI (pv_oa P n) := fun q M' f => by rw [f.1 23 (by decide) (by decide)]; exact (h.1.2.2.2 n hn).2.2.1 q
  have hb24 : st_nr (pv_kd P n) = true → ∀ {M' : mm_M}, pm_fr M M' → M' 24 n = nI (pv_ob P n) := fun q M' f => by rw [f.1 24 (by decide) (by decide)]; exact (h.1.2.2.2 n hn).2.2.2.1 q
  have f0 := pm_fr_rf M
  rcases st_k9 h9 with hk | hk | hk | hk | hk | hk | hk | hk | hk
  · -- TOKEN
    have er : pv_body P V n c sc s = pv_token P n sc s := by simp [pv_body, hk]
    rw [er] at kE k0
    refine pm_turn0 hIT hw hw2 h hn hc (by omega) hN (by rw [hk]; intro q; rcases q with q | q <;> omega) (ss_tok hP h (by omega) hn hk hd3 (fun M' f l r e8 e4 e6 => ?_))
    by_cases e : (pv_token P n sc s).1 = 0
    · exact pm_ret (e4.trans e) (k0 e M' ⟨f, l, r, e8, e4.trans e⟩)
    · exact pm_bad (by rw [e4]; exact e) (kE e M' ⟨f, pm_lo_le hw (Nat.le_refl _) l, r.1, r.2.1, fun _ => r.2.2, e4, e6⟩)
  · -- CALL
    obtain ⟨r, hr, h23, h27⟩ := (h.1.2.2.2 n hn).2.2.2.2.2.1 hk
    have hck : ∀ p, ¬ pm_ck (pv_kd P n) p := fun p => by rw [hk]; intro q; rcases q with q | q <;> omega
    by_cases h6 : 6 ≤ c
    · have er : pv_body P V n c sc s = (-7, 0, s) := by simp [pv_body, hk, h6]
      rw [er] at kE
      have hc6 : c = 6 := by omega
      refine pm_turn0 hIT hw hw2 h hn hc (by omega) hN (hck 0) (ss_call6 (c := 6) hr h23 h27 (by rw [← hc6]; exact h.2.2.1) (by omega) h.2.2.2.2.1 h.2.2.2.2.2.1 hD1 (by rw [hD2, hk]) hd3 (pm_bad (show (-7 : Int32) ≠ 0 by decide) (kE (show (-7 : Int32) ≠ 0 by decide) _ ?_)))
      exact ⟨pm_fr_tr (pm_fr_up (by decide)) (pm_fr_tr (pm_fr_up1 (by decide)) (pm_fr_up1 (by decide))), pm_lo_le hw (Nat.le_refl _) (pm_lo_ph w s.2.2.1 M _), h.2.1.1, h.2.1.2.1, fun _ => h.2.1.2.2, rfl, fun q => absurd (show (-7 : Int32) = -6 from q) (by decide)⟩
    · have er : pv_body P V n c sc s = V (pv_oc P n) (c + 1) sc s := by simp [pv_body, hk, h6]
      rw [er] at kE k0
      have hoc := huc hk
      have hlc := (hP.1 _ hoc).2.2.1
      have hh : pm_hd P u z em fi nx us (mm_up (mm_up M 35 w (nI (0 + 1))) 21 8 (nI (c + 1))) s (c + 1) w n 1 := by
        obtain ⟨a1, a2, a3, a4, a5, a6, a7⟩ := pm_hd_ph 1 h
        exact ⟨pm_D_fr (pm_fr_up1 (by decide)) a1, a2, rfl, a4, a5, a6, a7⟩
      have hwy : pm_way w M s (mm_up (mm_up M 35 w (nI (0 + 1))) 21 8 (nI (c + 1))) s := ⟨pm_fr_tr (pm_fr_up (by decide)) (pm_fr_up1 (by decide)), pm_lo_ph w _ M _, Nat.le_refl _⟩
      refine pm_turn0 hIT hw hw2 h hn hc (by omega) hN (hck 0) (ss_call0 hr h23 h27 (by omega) h.2.2.1 (by omega) h.2.2.2.2.1 h.2.2.2.2.2.1 hD1 (by rw [hD2, hk]) hd3 (pm_child hP hV hKp hw (by omega) (by omega) hoc hh hN (h.1.2.2.2 _ hoc).1 (fun e1 M2 g => kE e1 M2 (pm_way_er hw hwy g)) (fun e1 M2 g h2 => ?_)))
      have k2 := hKp (pv_oc P n) (c + 1) sc _ hoc h.2.2.2.2.2.2
      have hw3 := pm_way_tr hwy (pm_way_of (Nat.le_succ w) k2.2.2.1 g)
      refine pm_turn0 hIT hw hw2 h2 hn (by omega) (by omega) (by have := k2.2.1; omega) (hck 1) (ss_call1 h2.2.2.1 (by omega) h2.2.2.2.2.1 h2.2.2.2.2.2.1 hD1 (by rw [h22 hw3.1, hk]) hd3 (pm_ret h2.2.2.2.1 (k0 e1 _ (pm_way_go hw3 ?_))))
      exact ⟨pm_fr_tr (pm_fr_up (by decide)) (pm_fr_up1 (by decide)), pm_lo_ph w _ M2 _, h2.2.1, rfl, h2.2.2.2.1⟩
  · -- THEN
    have hck : ∀ p, ¬ pm_ck (pv_kd P n) p := fun p => by rw [hk]; intro q; rcases q with q | q <;> omega
    have er : pv_body P V n c sc s = pv_then P V n c sc s := by simp [pv_body, hk]
    rw [er] at kE k0
    have ha := hua (by rw [hk]; rfl)
    have hb' := hub (by rw [hk]; rfl)
    have k1 := hKp (pv_oa P n) c sc _ ha.1 h.2.2.2.2.2.2
    have k2 := hKp (pv_ob P n) c sc _ hb'.1 k1.1
    have w1 := pm_way_ph w M s (nI (0 + 1))
    refine pm_turn0 hIT hw hw2 h hn hc (by omega) hN (hck 0) (ss_then0 (by omega) h.2.2.2.2.1 h.2.2.2.2.2.1 hD1 (by rw [hD2, hk]) (ha23 (by rw [hk]; rfl) f0) hd3 (pm_child hP hV hKp hw hc (by omega) ha.1 (pm_hd_ph 1 h) hN (h.1.2.2.2 _ ha.1).1 (fun e1 M2 g => ?_) (fun e1 M2 g h2 => ?_)))
    · have er2 : pv_then P V n c sc s = V (pv_oa P n) c sc s := if_neg e1
      rw [er2] at kE
      exact kE e1 M2 (pm_way_er hw w1 g)
    have er2 : pv_then P V n c sc s = V (pv_ob P n) c sc (V (pv_oa P n) c sc s).2.2 := if_pos e1
    rw [er2] at kE k0
    have w2 := pm_way_tr w1 (pm_way_of (Nat.le_succ w) k1.2.2.1 g)
    have w3 := pm_way_tr w2 (pm_way_ph w M2 (V (pv_oa P n) c sc s).2.2 (nI (1 + 1)))
    refine pm_turn0 hIT hw hw2 h2 hn hc (by omega) (by have := k1.2.1; omega) (hck 1) (ss_then1 (by omega) h2.2.2.2.2.1 h2.2.2.2.2.2.1 hD1 (by rw [h22 w2.1, hk]) (hb24 (by rw [hk]; rfl) w2.1) hd3 (pm_child hP hV hKp hw hc (by omega) hb'.1 (pm_hd_ph 2 h2) (by have := k1.2.1; omega) (h.1.2.2.2 _ hb'.1).1 (fun e2 M3 g3 => kE e2 M3 (pm_way_er hw w3 g3)) (fun e2 M3 g3 h3 => ?_)))
    have w4 := pm_way_tr w3 (pm_way_of (Nat.le_succ w) k2.2.2.1 g3)
    exact pm_turn0 hIT hw hw2 h3 hn hc (by omega) (by have := k1.2.1; have := k2.2.1; omega) (hck 2) (ss_then2 (by omega) h3.2.2.2.2.1 h3.2.2.2.2.2.1 hD1 (by rw [h22 w4.1, hk]) hd3 (pm_ret h3.2.2.2.1 (k0 e2 _ (pm_way_go w4 (pm_go_ph _ h3)))))
  · -- OR
    have er : pv_body P V n c sc s = pv_or P V n c sc s := by simp [pv_body, hk]
    rw [er] at kE k0
    have ha := hua (by rw [hk]; rfl)
    have hb' := hub (by rw [hk]; rfl)
    have hck : ¬ pm_ck (pv_kd P n) 1 := by rw [hk]; intro q; rcases q with q | q <;> omega
    have hkp := pv_ch_kp (c := c) (sc := sc) hP hKp hn (by rw [hk]; rfl) h.2.2.2.2.2.2
    have hk1 := hkp.2.1
    refine pm_turn1 hP hIT hKp hw hw2 h hn hc (by omega) hN (by rw [hk]; rfl) (Or.inr ⟨Or.inl hk, rfl⟩) (fun e M' g => ?_) (fun e M' hwy h' => ?_) (fun e M' hwy h' => ?_)
    · have er2 : pv_or P V n c sc s = (-8, 0, (pv_ch P V n c sc s).2) := if_pos e
      rw [er2] at kE
      exact kE (show (-8 : Int32) ≠ 0 by decide) M' g
    · have er2 : pv_or P V n c sc s = V (pv_ob P n) c sc (pv_ch P V n c sc s).2 := by unfold pv_or; rw [if_neg (by rw [e]; decide), if_neg (by rw [e]; decide)]
      rw [er2] at kE k0
      have w1 := pm_way_tr hwy (pm_way_ph w M' (pv_ch P V n c sc s).2 (nI (0 + 1)))
      have k2 := hKp (pv_ob P n) c sc _ hb'.1 hkp.1
      refine ss_or0b (by omega) h'.2.2.2.2.1 h'.2.2.2.2.2.1 hD1 (by rw [h22 hwy.1, hk]) (hb24 (by rw [hk]; rfl) hwy.1) hd3 (pm_child hP hV hKp hw hc (by omega) hb'.1 (pm_hd_ph 1 h') (by omega) (h.1.2.2.2 _ hb'.1).1 (fun e1 M2 g => kE e1 M2 (pm_way_er hw w1 g)) (fun e1 M2 g h2 => ?_))
      have w2 := pm_way_tr w1 (pm_way_of (Nat.le_succ w) k2.2.2.1 g)
      exact pm_turn0 hIT hw hw2 h2 hn hc (by omega) (by have := k2.2.1; omega) hck (ss_or1 (by omega) h2.2.2.2.2.1 h2.2.2.2.2.2.1 hD1 (by rw [h22 w2.1, hk]) hd3 (pm_ret h2.2.2.2.1 (k0 e1 _ (pm_way_go w2 (pm_go_ph _ h2)))))
    · have er2 : pv_or P V n c sc s = V (pv_oa P n) c sc (pv_ch P V n c sc s).2 := by unfold pv_or; rw [if_neg (by rw [e]; decide), if_pos e]
      rw [er2] at kE k0
      have w1 := pm_way_tr hwy (pm_way_ph w M' (pv_ch P V n c sc s).2 (nI (0 + 1)))
      have k2 := hKp (pv_oa P n) c sc _ ha.1 hkp.1
      refine ss_or0a (by omega) h'.2.2.2.2.1 h'.2.2.2.2.2.1 hD1 (by rw [h22 hwy.1, hk]) (ha23 (by rw [hk]; rfl) hwy.1) hd3 (pm_child hP hV hKp hw hc (by omega) ha.1 (pm_hd_ph 1 h') (by omega) (h.1.2.2.2 _ ha.1).1 (fun e1 M2 g => kE e1 M2 (pm_way_er hw w1 g)) (fun e1 M2 g h2 => ?_))
      have w2 := pm_way_tr w1 (pm_way_of (Nat.le_succ w) k2.2.2.1 g)
      exact pm_turn0 hIT hw hw2 h2 hn hc (by omega) (by have := k2.2.1; omega) hck (ss_or1 (by omega) h2.2.2.2.2.1 h2.2.2.2.2.2.1 hD1 (by rw [h22 w2.1, hk]) hd3 (pm_ret h2.2.2.2.1 (k0 e1 _ (pm_way_go w2 (pm_go_ph _ h2)))))
  · -- MAYBE
    have er : pv_body P V n c sc s = pv_maybe P V n c sc s := by simp [pv_body, hk]
    rw [er] at kE k0
    have ha := hua (by rw [hk]; rfl)
    have hck : ¬ pm_ck (pv_kd P n) 1 := by rw [hk]; intro q; rcases q with q | q <;> omega
    have hkp := pv_ch_kp (c := c) (sc := sc) hP hKp hn (by rw [hk]; rfl) h.2.2.2.2.2.2
    have hk1 := hkp.2.1
    refine pm_turn1 hP hIT hKp hw hw2 h hn hc (by omega) hN (by rw [hk]; rfl) (Or.inr ⟨Or.inr hk, rfl⟩) (fun e M' g => ?_) (fun e M' hwy h' => ?_) (fun e M' hwy h' => ?_)
    · have er2 : pv_maybe P V n c sc s = (-8, 0, (pv_ch P V n c sc s).2) := if_pos e
      rw [er2] at kE
      exact kE (show (-8 : Int32) ≠ 0 by decide) M' g
    · have er2 : pv_maybe P V n c sc s = (0, 0, (pv_ch P V n c sc s).2) := by unfold pv_maybe; rw [if_neg (by rw [e]; decide), if_neg (by rw [e]; decide)]
      rw [er2] at k0
      exact ss_may0n (by omega) h'.2.2.2.2.1 h'.2.2.2.2.2.1 hD1 (by rw [h22 hwy.1, hk]) hd3 (pm_ret h'.2.2.2.1 (k0 rfl _ (pm_way_go hwy (pm_go_ph _ h'))))
    · have er2 : pv_maybe P V n c sc s = V (pv_oa P n) c sc (pv_ch P V n c sc s).2 := by unfold pv_maybe; rw [if_neg (by rw [e]; decide), if_pos e]
      rw [er2] at kE k0
      have w1 := pm_way_tr hwy (pm_way_ph w M' (pv_ch P V n c sc s).2 (nI (0 + 1)))
      have k2 := hKp (pv_oa P n) c sc _ ha.1 hkp.1
      refine ss_may0a (by omega) h'.2.2.2.2.1 h'.2.2.2.2.2.1 hD1 (by rw [h22 hwy.1, hk]) (ha23 (by rw [hk]; rfl) hwy.1) hd3 (pm_child hP hV hKp hw hc (by omega) ha.1 (pm_hd_ph 1 h') (by omega) (h.1.2.2.2 _ ha.1).1 (fun e1 M2 g => kE e1 M2 (pm_way_er hw w1 g)) (fun e1 M2 g h2 => ?_))
      have w2 := pm_way_tr w1 (pm_way_of (Nat.le_succ w) k2.2.2.1 g)
      exact pm_turn0 hIT hw hw2 h2 hn hc (by omega) (by have := k2.2.1; omega) hck (ss_may1 (by omega) h2.2.2.2.2.1 h2.2.2.2.2.2.1 hD1 (by rw [h22 w2.1, hk]) hd3 (pm_ret h2.2.2.2.1 (k0 e1 _ (pm_way_go w2 (pm_go_ph _ h2)))))
  · -- MANY
    have er : pv_body P V n c sc s = pv_many P V n c sc 1501 s := by simp [pv_body, hk]
    rw [er] at kE k0
    exact pm_many hP hIT hV hKp hSt hd3 hw hb0 hb hc hn hk 1501 0 M s (by omega) (Nat.zero_le _) h hN kE k0
  · -- EMPTY
    have er : pv_body P V n c sc s = (0, 0, s) := by simp [pv_body, hk]
    rw [er] at k0
    exact pm_turn0 hIT hw hw2 h hn hc (by omega) hN (by rw [hk]; intro q; rcases q with q | q <;> omega) (ss_emp (by omega) h.2.2.2.2.1 h.2.2.2.2.2.1 hD1 (by rw [hD2, hk]) hd3 (pm_ret h.2.2.2.1 (k0 rfl _ (pm_go_ph _ h))))
  · -- AHEAD
    have er : pv_body P V n c sc s = V (pv_ob P n) c sc s := by simp [pv_body, hk]
    rw [er] at kE k0
    have hb' := hub (by rw [hk]; rfl)
    have hck : ∀ p, ¬ pm_ck (pv_kd P n) p := fun p => by rw [hk]; intro q; rcases q with q | q <;> omega
    have k2 := hKp (pv_ob P n) c sc _ hb'.1 h.2.2.2.2.2.2
    have w1 := pm_way_ph w M s (nI (0 + 1))
    refine pm_turn0 hIT hw hw2 h hn hc (by omega) hN (hck 0) (ss_ah0 (by omega) h.2.2.2.2.1 h.2.2.2.2.2.1 hD1 (by rw [hD2, hk]) (hb24 (by rw [hk]; rfl) f0) hd3 (pm_child hP hV hKp hw hc (by omega) hb'.1 (pm_hd_ph 1 h) hN (h.1.2.2.2 _ hb'.1).1 (fun e1 M2 g => kE e1 M2 (pm_way_er hw w1 g)) (fun e1 M2 g h2 => ?_)))
    have w2 := pm_way_tr w1 (pm_way_of (Nat.le_succ w) k2.2.2.1 g)
    exact pm_turn0 hIT hw hw2 h2 hn hc (by omega) (by have := k2.2.1; omega) (hck 1) (ss_ah1 (by omega) h2.2.2.2.2.1 h2.2.2.2.2.2.1 hD1 (by rw [h22 w2.1, hk]) hd3 (pm_ret h2.2.2.2.1 (k0 e1 _ (pm_way_go w2 (pm_go_ph _ h2)))))
  · -- NAMED, ahead
    have hsc := h8 hk
    subst hsc
    have er : pv_body P V n c true s = V (pv_ob P n) c true s := by simp [pv_body, hk, pv_named]
    rw [er] at kE k0
    have hb' := hub (by rw [hk]; rfl)
    have hck : ∀ p, ¬ pm_ck (pv_kd P n) p := fun p => by rw [hk]; intro q; rcases q with q | q <;> omega
    have k2 := hKp (pv_ob P n) c true _ hb'.1 h.2.2.2.2.2.2
    have w1 := pm_way_ph w M s (nI (0 + 1))
    refine pm_turn0 hIT hw hw2 h hn hc (by omega) hN (hck 0) (ss_nm0 (by omega) h.2.2.2.2.1 h.2.2.2.2.2.1 hD1 (by rw [hD2, hk]) (hb24 (by rw [hk]; rfl) f0) hd3 (pm_child hP hV hKp hw hc (by omega) hb'.1 (pm_hd_ph 1 h) hN (h.1.2.2.2 _ hb'.1).1 (fun e1 M2 g => kE e1 M2 (pm_way_er hw w1 g)) (fun e1 M2 g h2 => ?_)))
    have w2 := pm_way_tr w1 (pm_way_of (Nat.le_succ w) k2.2.2.1 g)
    exact pm_turn0 hIT hw hw2 h2 hn hc (by omega) (by have := k2.2.1; omega) (hck 1) (ss_nm1s (by omega) h2.2.2.2.2.1 h2.2.2.2.2.2.1 hD1 (by rw [h22 w2.1, hk]) hd3 (pm_ret h2.2.2.2.1 (k0 e1 _ (pm_way_go w2 (pm_go_ph _ h2)))))
/-- NAMED in the first loop: M, s are those behind its begin, s0 that ahead of the tree -/
theorem pm_nm {s0 : pv_S} (hP : pv_val P lv u z) (hIT : pm_IT P u z em fi nx us false V N d b0 L F) (hV : pm_VV P lv u z em fi nx us false V N d b0 L F) (hKp : pv_keeps z u V) (hd3 : 3 ≤ d) (hw : b0 ≤ w) (hb0 : b0 ≤ 60) (hb : w - b0 + lv n ≤ 6 * c + 6) (hc : c ≤ 6) (hn : u n) (hk : pv_kd P n = 8) (h90 : s0.2.2.1 < 90) (h : pm_hd P u z em fi nx us M (pv_opened P n s0) c w n 0) (hN : 1500 ≤ s0.2.1 + N) (h36 : M 36 w = nI s0.2.2.1) (h40 : M 40 s0.2.2.1 = pv_op s0)
    (kE : (pv_named P V n c false s0).1 ≠ 0 → ∀ M', pm_er b0 false M s0 (pv_named P V n c false s0) M' → F M') (k0 : (pv_named P V n c false s0).1 = 0 → ∀ M', pm_go w c M s0 (pv_named P V n c false s0).2.2 M' → L (nI w + (-1)) M') : L (nI w) M := by
  obtain ⟨h9, hlv, hlv6, hua, hub, huc, -⟩ := hP.1 n hn
  have hD1 := (h.1.2.2.2 n hn).1
  have hD2 := (h.1.2.2.2 n hn).2.1
  have hw2 : w < b0 + 60 := by omega
  have er : pv_named P V n c false s0 = ((V (pv_ob P n) c false (pv_opened P n s0)).1, (V (pv_ob P n) c false (pv_opened P n s0)).2.1, pv_setop (V (pv_ob P n) c false (pv_opened P n s0)).2.2 (pv_op s0)) := by unfold pv_named; rw [if_neg (by decide), if_neg (by omega)]
  rw [er] at kE k0
  have hb' := hub (by rw [hk]; rfl)
  have hck : ∀ p, ¬ pm_ck (pv_kd P n) p := fun p => by rw [hk]; intro q; rcases q with q | q <;> omega
  have k2 := hKp (pv_ob P n) c false _ hb'.1 h.2.2.2.2.2.2
  have hto : (pv_opened P n s0).2.2.1 = s0.2.2.1 + 1 := rfl
  have w0 : pm_way w M s0 M (pv_opened P n s0) := ⟨pm_fr_rf M, pm_lo_rf _ _ M, by omega⟩
  have w1 := pm_way_tr w0 (pm_way_ph w M (pv_opened P n s0) (nI (0 + 1)))
  refine pm_turn0 hIT hw hw2 h hn hc (by omega) hN (hck 0) (ss_nm0 (by omega) h.2.2.2.2.1 h.2.2.2.2.2.1 hD1 (by rw [hD2, hk]) ((h.1.2.2.2 n hn).2.2.2.1 (by rw [hk]; rfl)) hd3 (pm_child hP hV hKp hw hc (by omega) hb'.1 (pm_hd_ph 1 h) hN (h.1.2.2.2 _ hb'.1).1 (fun e1 M2 g => ?_) (fun e1 M2 g h2 => ?_)))
  · obtain ⟨g1, g2, g3, g4, -, g6, g7⟩ := pm_way_er hw w1 g
    exact kE e1 M2 ⟨g1, g2, g3, g4, fun q => absurd q (by decide), g6, g7⟩
  have w2 := pm_way_tr w1 (pm_way_of (Nat.le_succ w) k2.2.2.1 g)
  have e36 : M2 36 w = nI s0.2.2.1 := (g.2.1.1 w (by omega)).2.2.trans h36
  have e40 : M2 40 s0.2.2.1 = pv_op s0 := (g.2.1.2 s0.2.2.1 (by omega)).trans h40
  refine pm_turn0 hIT hw hw2 h2 hn hc (by omega) (by have := k2.2.1; have : (pv_opened P n s0).2.1 = s0.2.1 := rfl; omega) (hck 1) (ss_nm1g (by omega) e36 e40 (by omega) h2.2.2.2.2.1 h2.2.2.2.2.2.1 hD1 (by rw [w2.1.1 22 (by decide) (by decide), hD2, hk]) hd3 (pm_ret h2.2.2.2.1 (k0 e1 _ (pm_way_go (s1 := s0) ⟨w2.1, w2.2.1, Nat.le_refl _⟩ ?_))))
  exact ⟨pm_fr_tr (pm_fr_up (by decide)) (pm_fr_up1 (by decide)), pm_lo_ph w _ M2 _, ⟨h2.2.1.1, h2.2.1.2.1, h2.2.1.2.2.1, rfl, h2.2.1.2.2.2.2⟩, h2.2.2.1, h2.2.2.2.1⟩
end PmB
/-- every visit -/
theorem pm_visit {P : pv_D} {lv : Nat → Nat} {u : Nat → Prop} {z : Nat} {em fi nx us : Nat → Int32} {sc : Bool} {d b0 : Nat} {L : Int32 → mm_M → Prop} {F : mm_M → Prop} (hP : pv_val P lv u z) (hIT : ∀ N, pm_IT P u z em fi nx us sc (pv_vis P N) N d b0 L F) (hLe : ∀ x M, M 21 4 ≠ 0 → F M → L x M) (hb0 : (sc = true ∧ b0 = 60) ∨ (sc = false ∧ b0 = 0)) (hd3 : 3 ≤ d) : ∀ N, pm_VV P lv u z em fi nx us sc (pv_vis P N) N d b0 L F := by
  have hb60 : b0 ≤ 60 := by rcases hb0 with h | h <;> omega
  intro N
  induction N with
  | zero =>
    intro w n c M s hw hb hc hD hR h8 h4 hS hn hN kE k0
    have hlv := (hP.1 n hn).2.1
    refine sm_begin hP hD hR hS hn (by omega) h4 (by omega) (fun e => ⟨rfl, ?_⟩) (fun h => absurd h (by omega)) (fun h => absurd h (by omega)) (fun h => absurd h (by omega))
    exact hLe _ _ (show (-8 : Int32) ≠ 0 by decide) (kE (show (-8 : Int32) ≠ 0 by decide) _ ⟨pm_fr_up1 (by decide), pm_lo_rf _ _ M, hR.1, hR.2.1, fun _ => hR.2.2, rfl, fun q => absurd (show (-8 : Int32) = -6 from q) (by decide)⟩)
  | succ N ih =>
    intro w n c M s hw hb hc hD hR h8 h4 hS hn hN kE k0
    have hlv := (hP.1 n hn).2.1
    have hKp := pv_vis_kp hP N
    have hSt := fun n c sc s => pv_vis_st hP N n c sc s
    have est : s.2.1 < 1500 → pv_vis P (N + 1) n c sc s = pv_body P (pv_vis P N) n c sc (pv_step s) := fun q => if_neg (by omega)
    have hok : s.2.1 < 1500 → pv_ok z (pv_step s) := fun q => ⟨hS.1, (by show s.2.1 + 1 ≤ 1500; omega), hS.2.2⟩
    have hN1 : 1500 ≤ (pv_step s).2.1 + N := by show 1500 ≤ s.2.1 + 1 + N; omega
    refine sm_begin hP hD hR hS hn (by omega) h4 (by omega) (fun e => ⟨rfl, ?_⟩) (fun hst hno M' f l e34 e35 r e8 e4 => ⟨rfl, ?_⟩) (fun hst hk hw60 h90 M' f l r e4 => ⟨rfl, ?_⟩) (fun hst hk hw60 h90 M' f l e34 e35 r e36 e40 e8 e4 => ⟨rfl, ?_⟩)
    · have er : pv_vis P (N + 1) n c sc s = (-8, 0, s) := if_pos (by omega)
      rw [er] at kE
      exact hLe _ _ (show (-8 : Int32) ≠ 0 by decide) (kE (show (-8 : Int32) ≠ 0 by decide) _ ⟨pm_fr_up1 (by decide), pm_lo_rf _ _ M, hR.1, hR.2.1, fun _ => hR.2.2, rfl, fun q => absurd (show (-8 : Int32) = -6 from q) (by decide)⟩)
    · rw [est hst] at kE k0
      have wy : pm_way w M s M' (pv_step s) := ⟨f, l, Nat.le_refl _⟩
      refine pm_bd hP (hIT N) ih hKp hSt hd3 hw hb60 hb hc hn ⟨pm_D_fr f hD, r, e8.trans h8, e4, e34, e35, hok hst⟩ hN1 (fun hk => ?_) (fun e M2 g => kE e M2 (pm_way_er hw wy g)) (fun e M2 g => k0 e M2 (pm_way_go wy g))
      rcases hb0 with ⟨h, -⟩ | ⟨-, h⟩
      · exact h
      · exact absurd ⟨hk, by omega⟩ hno
    · have hsc : sc = false := by
        rcases hb0 with ⟨-, h⟩ | ⟨h, -⟩
        · omega
        · exact h
      subst hsc
      have er : pv_vis P (N + 1) n c false s = (-9, 0, pv_step s) := by
        rw [est hst]
        have : (pv_step s).2.2.1 = 90 := h90
        simp [pv_body, hk, pv_named, this]
      rw [er] at kE
      exact hLe _ _ (by rw [e4]; decide) (kE (show (-9 : Int32) ≠ 0 by decide) _ ⟨f, pm_lo_le hw (Nat.le_refl _) l, r.1, r.2.1, fun _ => r.2.2, e4, fun q => absurd (show (-9 : Int32) = -6 from q) (by decide)⟩)
    · have hsc : sc = false := by
        rcases hb0 with ⟨-, h⟩ | ⟨h, -⟩
        · omega
        · exact h
      subst hsc
      have er : pv_vis P (N + 1) n c false s = pv_named P (pv_vis P N) n c false (pv_step s) := by
        rw [est hst]
        simp [pv_body, hk]
      rw [er] at kE k0
      have wy : pm_way w M s M' (pv_step s) := ⟨f, l, Nat.le_refl _⟩
      have ho : pv_ok z (pv_opened P n (pv_step s)) := by
        obtain ⟨g1, g2, g3, -⟩ := pv_ok_add (L := pv_la P n) (hok hst) (by show s.2.2.1 ≠ 90; omega)
        exact ⟨g1, g2, g3, Or.inr ⟨s.2.2.1, Nat.lt_succ_self _, rfl⟩⟩
      exact pm_nm (s0 := pv_step s) hP (hIT N) ih hKp hd3 hw hb60 hb hc hn hk h90 ⟨pm_D_fr f hD, r, e8.trans h8, e4, e34, e35, ho⟩ hN1 e36 e40 (fun e M2 g => kE e M2 (pm_way_er hw wy g)) (fun e M2 g => k0 e M2 (pm_way_go wy g))
