/-! THE REFERENCE'S PARSER: its memory and the state of pv_. w: the place of a frame on its stack (under 34, phase 35, tree 36) -/
def pm_tr (M : mm_M) (s : pv_S) : Prop := M 21 9 = nI s.2.2.1 ∧ M 21 10 = pv_op s ∧ ∀ i, i < s.2.2.1 → M 37 i = s.2.2.2.1 i ∧ M 38 i = s.2.2.2.2.1 i ∧ M 39 i = s.2.2.2.2.2.1 i
def pm_rep (M : mm_M) (s : pv_S) : Prop := M 21 5 = nI s.1 ∧ M 21 7 = nI s.2.1 ∧ pm_tr M s
def pm_fr (M M' : mm_M) : Prop := (∀ k, k < 34 → k ≠ 21 → M' k = M k) ∧ ∀ j, j < 4 ∨ 10 < j → M' 21 j = M 21 j
def pm_lo (w t : Nat) (M M' : mm_M) : Prop := (∀ i, i < w → M' 34 i = M 34 i ∧ M' 35 i = M 35 i ∧ M' 36 i = M 36 i) ∧ ∀ j, j < t → M' 40 j = M 40 j
def pm_D (M : mm_M) (P : pv_D) (u : Nat → Prop) (z : Nat) (em fi nx us : Nat → Int32) : Prop :=
  M 21 1 = nI z ∧ (∀ q, q < z → M 33 q = nI (pv_tk P q)) ∧ (∀ i, i < 60 → M 28 i = us i ∧ M 29 i = em i ∧ M 30 i = fi i ∧ M 31 i = nx i) ∧
  ∀ n, u n → n < 60 ∧ M 22 n = nI (pv_kd P n) ∧ (st_nl (pv_kd P n) = true → M 23 n = nI (pv_oa P n)) ∧ (st_nr (pv_kd P n) = true → M 24 n = nI (pv_ob P n)) ∧ (pv_kd P n = 0 → M 23 n = nI (pv_oa P n)) ∧ (pv_kd P n = 1 → ∃ r, r < 8 ∧ M 23 n = nI r ∧ M 27 r = nI (pv_oc P n)) ∧ (pv_kd P n = 8 → M 23 n = pv_la P n) ∧ pv_s3 P n = st_sta em fi nx n ∧ pv_s4 P n = fi n
theorem pm_fr_rf (M : mm_M) : pm_fr M M := ⟨fun _ _ _ => rfl, fun _ _ => rfl⟩
theorem pm_fr_tr {M M' M'' : mm_M} (h1 : pm_fr M M') (h2 : pm_fr M' M'') : pm_fr M M'' := ⟨fun k a b => (h2.1 k a b).trans (h1.1 k a b), fun j a => (h2.2 j a).trans (h1.2 j a)⟩
theorem pm_fr_up {M : mm_M} {q j : Nat} {x : Int32} (hq : 34 ≤ q) : pm_fr M (mm_up M q j x) := by
  refine ⟨fun k a b => ?_, fun i _ => ?_⟩
  · have : k ≠ q := by omega
    simp [mm_up, this]
  · have : 21 ≠ q := by omega
    simp [mm_up, this]
theorem pm_fr_up1 {M : mm_M} {j : Nat} {x : Int32} (hj : 4 ≤ j ∧ j ≤ 10) : pm_fr M (mm_up M 21 j x) := by
  refine ⟨fun k a b => by simp [mm_up, b], fun i hi => ?_⟩
  have : i ≠ j := by omega
  simp [mm_up, upd, this]
theorem pm_lo_rf (w t : Nat) (M : mm_M) : pm_lo w t M M := ⟨fun _ _ => ⟨rfl, rfl, rfl⟩, fun _ _ => rfl⟩
theorem pm_lo_tr {w t w2 t2 : Nat} {M M' M'' : mm_M} (h1 : pm_lo w t M M') (hw : w ≤ w2) (ht : t ≤ t2) (h2 : pm_lo w2 t2 M' M'') : pm_lo w t M M'' := ⟨fun i hi => ⟨(h2.1 i (by omega)).1.trans (h1.1 i hi).1, (h2.1 i (by omega)).2.1.trans (h1.1 i hi).2.1, (h2.1 i (by omega)).2.2.trans (h1.1 i hi).2.2⟩, fun j hj => (h2.2 j (by omega)).trans (h1.2 j hj)⟩
theorem pm_lo_le {w t w2 t2 : Nat} {M M' : mm_M} (hw : w ≤ w2) (ht : t ≤ t2) (h2 : pm_lo w2 t2 M M') : pm_lo w t M M' := pm_lo_tr (pm_lo_rf w t M) hw ht h2
theorem pm_lo_same {w t : Nat} {M M' : mm_M} (h : ∀ k, k = 34 ∨ k = 35 ∨ k = 36 ∨ k = 40 → M' k = M k) : pm_lo w t M M' := ⟨fun i _ => by rw [h 34 (by omega), h 35 (by omega), h 36 (by omega)]; exact ⟨rfl, rfl, rfl⟩, fun j _ => by rw [h 40 (by omega)]⟩
theorem pm_D_fr {M M' : mm_M} {P : pv_D} {u : Nat → Prop} {z : Nat} {em fi nx us : Nat → Int32} (hf : pm_fr M M') (h : pm_D M P u z em fi nx us) : pm_D M' P u z em fi nx us := by
  unfold pm_D at h ⊢
  rw [hf.2 1 (by omega), hf.1 33 (by omega) (by omega), hf.1 28 (by omega) (by omega), hf.1 29 (by omega) (by omega), hf.1 30 (by omega) (by omega), hf.1 31 (by omega) (by omega), hf.1 22 (by omega) (by omega), hf.1 23 (by omega) (by omega), hf.1 24 (by omega) (by omega), hf.1 27 (by omega) (by omega)]
  exact h
/-- the memory behind a new tree -/
def pm_mm (M : mm_M) (t : Nat) (L : Int32) (p : Nat) (o : Int32) : mm_M := mm_up (mm_up (mm_up (mm_up M 37 t L) 38 t 0) 39 t (nI p)) 40 t o
/-- what a new tree leaves -/
def pm_gf (t : Nat) (M M' : mm_M) : Prop := (∀ k, k ≠ 21 → k ≠ 37 → k ≠ 38 → k ≠ 39 → k ≠ 40 → M' k = M k) ∧ (∀ j, j ≠ 9 → M' 21 j = M 21 j) ∧ ∀ j, j < t → M' 40 j = M 40 j
theorem pm_gf_fr {t : Nat} {M M' : mm_M} (h : pm_gf t M M') : pm_fr M M' := ⟨fun k a b => h.1 k b (by omega) (by omega) (by omega) (by omega), fun j a => h.2.1 j (by omega)⟩
theorem pm_gf_lo {w t : Nat} {M M' : mm_M} (h : pm_gf t M M') : pm_lo w t M M' := ⟨fun i _ => by rw [h.1 34 (by decide) (by decide) (by decide) (by decide) (by decide), h.1 35 (by decide) (by decide) (by decide) (by decide) (by decide), h.1 36 (by decide) (by decide) (by decide) (by decide) (by decide)]; exact ⟨rfl, rfl, rfl⟩, h.2.2⟩
theorem pm_mm37 (M : mm_M) (t : Nat) (L : Int32) (p : Nat) (o : Int32) (i : Nat) : pm_mm M t L p o 37 i = if i = t then L else M 37 i := by simp [pm_mm, mm_up, upd]
theorem pm_mm38 (M : mm_M) (t : Nat) (L : Int32) (p : Nat) (o : Int32) (i : Nat) : pm_mm M t L p o 38 i = if i = t then 0 else M 38 i := by simp [pm_mm, mm_up, upd]
theorem pm_mm39 (M : mm_M) (t : Nat) (L : Int32) (p : Nat) (o : Int32) (i : Nat) : pm_mm M t L p o 39 i = if i = t then nI p else M 39 i := by simp [pm_mm, mm_up, upd]
theorem pm_mm40 (M : mm_M) (t : Nat) (L : Int32) (p : Nat) (o : Int32) (i : Nat) : pm_mm M t L p o 40 i = if i = t then o else M 40 i := by simp [pm_mm, mm_up, upd]
theorem pm_mmk (M : mm_M) (t : Nat) (L : Int32) (p : Nat) (o : Int32) (k : Nat) (h1 : k ≠ 37) (h2 : k ≠ 38) (h3 : k ≠ 39) (h4 : k ≠ 40) : pm_mm M t L p o k = M k := by simp [pm_mm, mm_up, h1, h2, h3, h4]
theorem pm_add0 {M : mm_M} {s : pv_S} {L : Int32} (h : pm_tr M s) (ho : pv_op s = -1) : pm_gf s.2.2.1 M (mm_up (pm_mm M s.2.2.1 L s.1 (pv_op s)) 21 9 (nI (s.2.2.1 + 1))) ∧ pm_tr (mm_up (pm_mm M s.2.2.1 L s.1 (pv_op s)) 21 9 (nI (s.2.2.1 + 1))) (pv_add L s) ∧ mm_up (pm_mm M s.2.2.1 L s.1 (pv_op s)) 21 9 (nI (s.2.2.1 + 1)) 40 s.2.2.1 = pv_op s := by
  obtain ⟨h3, h4, h5⟩ := h
  have v : ∀ k, k ≠ 21 → mm_up (pm_mm M s.2.2.1 L s.1 (pv_op s)) 21 9 (nI (s.2.2.1 + 1)) k = pm_mm M s.2.2.1 L s.1 (pv_op s) k := mm_up_ne
  have v21 : ∀ i, mm_up (pm_mm M s.2.2.1 L s.1 (pv_op s)) 21 9 (nI (s.2.2.1 + 1)) 21 i = if i = 9 then nI (s.2.2.1 + 1) else M 21 i := fun i => by rw [mm_up_at, pm_mmk _ _ _ _ _ 21 (by decide) (by decide) (by decide) (by decide)]; rfl
  refine ⟨⟨fun k a1 a2 a3 a4 a5 => by rw [v k a1, pm_mmk _ _ _ _ _ k a2 a3 a4 a5], fun j hj => by rw [v21, if_neg hj], fun j hj => by rw [v 40 (by decide), pm_mm40, if_neg (by omega)]⟩, ⟨by rw [v21, if_pos rfl]; rfl, by rw [v21, if_neg (by decide)]; exact h4, fun i hi => ?_⟩, by rw [v 40 (by decide), pm_mm40, if_pos rfl]⟩
  have hi' : i < s.2.2.1 + 1 := hi
  rw [v 37 (by decide), v 38 (by decide), v 39 (by decide), pm_mm37, pm_mm38, pm_mm39]
  show _ = upd s.2.2.2.1 s.2.2.1 L i ∧ _ = pv_pa s i ∧ _ = upd s.2.2.2.2.2.1 s.2.2.1 (nI s.1) i
  unfold pv_pa
  rw [if_pos ho]
  by_cases e : i = s.2.2.1
  · simp [upd, e]
  · obtain ⟨q1, q2, q3⟩ := h5 i (by omega)
    simp [upd, e, q1, q2, q3]
theorem pm_add1 {M : mm_M} {s : pv_S} {L : Int32} {j : Nat} (h : pm_tr M s) (hj : j < s.2.2.1) (hn : s.2.2.1 ≤ 90) (ho : pv_op s = nI j) (M' : mm_M) (hM : M' = mm_up (mm_up (pm_mm M s.2.2.1 L s.1 (pv_op s)) 38 j (pm_mm M s.2.2.1 L s.1 (pv_op s) 38 j + 1)) 21 9 (nI (s.2.2.1 + 1))) : pm_gf s.2.2.1 M M' ∧ pm_tr M' (pv_add L s) ∧ M' 40 s.2.2.1 = pv_op s := by
  obtain ⟨h3, h4, h5⟩ := h
  have hne : pv_op s ≠ -1 := by rw [ho]; exact fun e => absurd (by rw [e]; decide : nI j < 0) (nI_pos (by omega))
  have v : ∀ k, k ≠ 21 → k ≠ 38 → M' k = pm_mm M s.2.2.1 L s.1 (pv_op s) k := fun k a b => by rw [hM, mm_up_ne k a, mm_up_ne k b]
  have v38 : ∀ i, M' 38 i = if i = j then pm_mm M s.2.2.1 L s.1 (pv_op s) 38 j + 1 else pm_mm M s.2.2.1 L s.1 (pv_op s) 38 i := fun i => by rw [hM, mm_up_ne 38 (by decide), mm_up_at]; rfl
  have v21 : ∀ i, M' 21 i = if i = 9 then nI (s.2.2.1 + 1) else M 21 i := fun i => by rw [hM, mm_up_at, mm_up_ne 21 (by decide), pm_mmk _ _ _ _ _ 21 (by decide) (by decide) (by decide) (by decide)]; rfl
  refine ⟨⟨fun k a1 a2 a3 a4 a5 => by rw [v k a1 a3, pm_mmk _ _ _ _ _ k a2 a3 a4 a5], fun j hj => by rw [v21, if_neg hj], fun j hj => by rw [v 40 (by decide) (by decide), pm_mm40, if_neg (by omega)]⟩, ⟨by rw [v21, if_pos rfl]; rfl, by rw [v21, if_neg (by decide)]; exact h4, fun i hi => ?_⟩, by rw [v 40 (by decide) (by decide), pm_mm40, if_pos rfl]⟩
  have hi' : i < s.2.2.1 + 1 := hi
  rw [v 37 (by decide) (by decide), v38, v 39 (by decide) (by decide), pm_mm37, pm_mm38, pm_mm38, pm_mm39]
  show _ = upd s.2.2.2.1 s.2.2.1 L i ∧ _ = pv_pa s i ∧ _ = upd s.2.2.2.2.2.1 s.2.2.1 (nI s.1) i
  unfold pv_pa
  rw [if_neg hne, ho, an_oI (by omega)]
  have hjt : ¬ j = s.2.2.1 := by omega
  obtain ⟨-, p2, -⟩ := h5 j hj
  by_cases e : i = s.2.2.1
  · subst e
    have : ¬ s.2.2.1 = j := by omega
    simp [upd, this]
  · obtain ⟨q1, q2, q3⟩ := h5 i (by omega)
    by_cases ej : i = j
    · subst ej
      simp [upd, e, q1, p2, q3]
    · simp [upd, e, ej, q1, q2, q3]
/-- a memory in which other fields of 21, or the frames, have changed -/
theorem pm_tr_eq {M M' : mm_M} {s : pv_S} (h9 : M' 21 9 = M 21 9) (h10 : M' 21 10 = M 21 10) (h37 : M' 37 = M 37) (h38 : M' 38 = M 38) (h39 : M' 39 = M 39) (h : pm_tr M s) : pm_tr M' s := by
  unfold pm_tr at h ⊢
  rw [h9, h10, h37, h38, h39]; exact h
theorem nI_m1 (n : Nat) : nI (n + 1) + (-1) = nI n := by rw [← nI_pred n, Int32.sub_eq_add_neg]
/-! the two loops: L is the run from its head, F its end -/
def pm_ck (k p : Nat) : Prop := k = 5 ∨ ((k = 3 ∨ k = 4) ∧ p = 0)
def pm_nx (d : Nat) (L : Int32 → mm_M → Prop) (F : mm_M → Prop) (w : Nat) : mm_Qt := fun r M2 => ∃ v, r = some (.inl v) ∧ (M2 21 4 ≠ 0 → F M2) ∧ (M2 21 4 = 0 → (v < 0 → L (nI w + (-1)) M2) ∧ (¬ v < 0 → mm_Ev pg ly d 93 [.inr 21, .inl v, .inl (nI w + 1)] M2 (fun r M3 => r = none ∧ L (nI w + 1) M3)))
def pm_er (b0 : Nat) (sc : Bool) (M : mm_M) (s : pv_S) (r : pv_R) (M' : mm_M) : Prop := pm_fr M M' ∧ pm_lo b0 s.2.2.1 M M' ∧ M' 21 5 = nI r.2.2.1 ∧ M' 21 7 = nI r.2.2.2.1 ∧ (sc = true → pm_tr M' r.2.2) ∧ M' 21 4 = r.1 ∧ (r.1 = -6 → M' 21 6 = r.2.1)
def pm_go (w c : Nat) (M : mm_M) (s : pv_S) (t : pv_S) (M' : mm_M) : Prop := pm_fr M M' ∧ pm_lo w s.2.2.1 M M' ∧ pm_rep M' t ∧ M' 21 8 = nI c ∧ M' 21 4 = 0
def pm_hd (P : pv_D) (u : Nat → Prop) (z : Nat) (em fi nx us : Nat → Int32) (M : mm_M) (s : pv_S) (c w n p : Nat) : Prop := pm_D M P u z em fi nx us ∧ pm_rep M s ∧ M 21 8 = nI c ∧ M 21 4 = 0 ∧ M 34 w = nI n ∧ M 35 w = nI p ∧ pv_ok z s
/-- one turn of a loop, down to the call of step -/
def pm_IT (P : pv_D) (u : Nat → Prop) (z : Nat) (em fi nx us : Nat → Int32) (sc : Bool) (V : pv_V) (N d b0 : Nat) (L : Int32 → mm_M → Prop) (F : mm_M → Prop) : Prop := ∀ (w n p c : Nat) (M : mm_M) (s : pv_S), b0 ≤ w → w < b0 + 60 → pm_hd P u z em fi nx us M s c w n p → u n → c ≤ 6 → p < 2000 → 1500 ≤ s.2.1 + N →
  (¬ pm_ck (pv_kd P n) p → mm_Ev pg ly d 99 [.inr 21, .inl (nI w), .inl (px_b sc), .inl 0] M (pm_nx d L F w)) →
  (pm_ck (pv_kd P n) p → (pv_ch P V n c sc s).1 = -8 → ∀ M', pm_er b0 sc M s (-8, 0, (pv_ch P V n c sc s).2) M' → F M') →
  (pm_ck (pv_kd P n) p → (pv_ch P V n c sc s).1 ≠ -8 → ∀ M', pm_go (b0 + 60) c M s (pv_ch P V n c sc s).2 M' → mm_Ev pg ly d 99 [.inr 21, .inl (nI w), .inl (px_b sc), .inl (pv_ch P V n c sc s).1] M' (pm_nx d L F w)) → L (nI w) M
/-- a visit, from the call of begin -/
def pm_VV (P : pv_D) (lv : Nat → Nat) (u : Nat → Prop) (z : Nat) (em fi nx us : Nat → Int32) (sc : Bool) (V : pv_V) (N d b0 : Nat) (L : Int32 → mm_M → Prop) (F : mm_M → Prop) : Prop := ∀ (w n c : Nat) (M : mm_M) (s : pv_S), b0 ≤ w → w - b0 + lv n ≤ 6 * c + 6 → c ≤ 6 → pm_D M P u z em fi nx us → pm_rep M s → M 21 8 = nI c → M 21 4 = 0 → pv_ok z s → u n → 1500 ≤ s.2.1 + N →
  ((V n c sc s).1 ≠ 0 → ∀ M', pm_er b0 sc M s (V n c sc s) M' → F M') → ((V n c sc s).1 = 0 → ∀ M', pm_go w c M s (V n c sc s).2.2 M' → L (nI w + (-1)) M') → mm_Ev pg ly d 93 [.inr 21, .inl (nI n), .inl (nI w)] M (fun r M3 => r = none ∧ L (nI w) M3)
theorem pm_er_tr {b0 w t : Nat} {sc : Bool} {M M1 M' : mm_M} {s s1 : pv_S} {r : pv_R} (hf : pm_fr M M1) (hl : pm_lo w t M M1) (hw : b0 ≤ w) (ht : s.2.2.1 ≤ t) (h1 : s.2.2.1 ≤ s1.2.2.1) (h : pm_er b0 sc M1 s1 r M') : pm_er b0 sc M s r M' := ⟨pm_fr_tr hf h.1, pm_lo_tr (pm_lo_le hw ht hl) (Nat.le_refl _) h1 h.2.1, h.2.2⟩
theorem pm_go_tr {w w2 t c : Nat} {M M1 M' : mm_M} {s s1 r : pv_S} (hf : pm_fr M M1) (hl : pm_lo w t M M1) (ht : s.2.2.1 ≤ t) (h1 : s.2.2.1 ≤ s1.2.2.1) (hw : w ≤ w2) (h : pm_go w2 c M1 s1 r M') : pm_go w c M s r M' := ⟨pm_fr_tr hf h.1, pm_lo_tr (pm_lo_le (Nat.le_refl _) ht hl) hw h1 h.2.1, h.2.2⟩
theorem pm_ret {d w : Nat} {L : Int32 → mm_M → Prop} {F : mm_M → Prop} {M0 : mm_M} (h4 : M0 21 4 = 0) (h : L (nI w + (-1)) M0) : pm_nx d L F w (some (.inl (-1))) M0 := ⟨-1, rfl, fun z => absurd h4 z, fun _ => ⟨fun _ => h, fun z => absurd (by decide) z⟩⟩
theorem pm_bad {d w : Nat} {L : Int32 → mm_M → Prop} {F : mm_M → Prop} {M0 : mm_M} {v : Int32} (h4 : M0 21 4 ≠ 0) (h : F M0) : pm_nx d L F w (some (.inl v)) M0 := ⟨v, rfl, fun _ => h, fun z => absurd z h4⟩
section PmC
variable {P : pv_D} {lv : Nat → Nat} {u : Nat → Prop} {z : Nat} {em fi nx us : Nat → Int32} {sc : Bool} {V : pv_V} {N d b0 : Nat} {L : Int32 → mm_M → Prop} {F : mm_M → Prop}
/-- a node below is visited; back at the frame -/
theorem pm_child (hP : pv_val P lv u z) (hV : pm_VV P lv u z em fi nx us sc V N d b0 L F) (hKp : pv_keeps z u V) {w n m p c : Nat} {M0 : mm_M} {s : pv_S} (hw : b0 ≤ w) (hc : c ≤ 6) (hb : w + 1 - b0 + lv m ≤ 6 * c + 6) (hm : u m) (h0 : pm_hd P u z em fi nx us M0 s c w n p) (hN : 1500 ≤ s.2.1 + N) (hm60 : m < 60)
    (kE : (V m c sc s).1 ≠ 0 → ∀ M', pm_er b0 sc M0 s (V m c sc s) M' → F M') (k0 : (V m c sc s).1 = 0 → ∀ M1, pm_go (w + 1) c M0 s (V m c sc s).2.2 M1 → pm_hd P u z em fi nx us M1 (V m c sc s).2.2 c w n p → L (nI w) M1) : pm_nx d L F w (some (.inl (nI m))) M0 := by
  obtain ⟨a1, a2, a3, a4, a5, a6, a7⟩ := h0
  refine ⟨nI m, rfl, fun z => absurd a4 z, fun _ => ⟨fun z => absurd z (nI_pos (by omega)), fun _ => ?_⟩⟩
  rw [nI_1]
  refine hV (w + 1) m c M0 s (by omega) hb hc a1 a2 a3 a4 a7 hm hN kE (fun e M1 g => ?_)
  rw [nI_m1]
  exact k0 e M1 g ⟨pm_D_fr g.1 a1, g.2.2.1, g.2.2.2.1, g.2.2.2.2, (g.2.1.1 w (by omega)).1.trans a5, (g.2.1.1 w (by omega)).2.1.trans a6, (hKp m c sc s hm a7).1⟩
end PmC
