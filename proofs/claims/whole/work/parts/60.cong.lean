/-! THE TWO ANALYSES ARE ONE: what is said of arrays that agree below 60 -/
section LwC
variable {n : Nat} {kd lv : Nat → Nat} {a b kp us us' em em' fi fi' cm cm' : Nat → Int32} {rt r : Nat}
theorem lw_U (hn : n ≤ 60) (hu : ∀ i, i < 60 → us' i = us i) : an_U n kd a kp us' = an_U n kd a kp us := by
  refine propext ⟨?_, ?_⟩
  · rintro ⟨i, h1, h2, h3⟩
    exact ⟨i, h1, (hu i (by omega)) ▸ h2, h3⟩
  · rintro ⟨i, h1, h2, h3⟩
    exact ⟨i, h1, (hu i (by omega)).trans h2, h3⟩
theorem lw_ce (hn : n ≤ 60) (hu : ∀ i, i < 60 → us' i = us i) : an_ce n kd a b kp us' = an_ce n kd a b kp us := by
  funext S
  refine propext ⟨fun h i hi h1 => h i hi ((hu i (by omega)).trans h1), fun h i hi h1 => h i hi ((hu i (by omega)) ▸ h1)⟩
theorem lw_bg {S : Nat → Int32} {i : Nat} (hO : an_ok n kd a b kp us i) (he : ∀ i, i < 60 → em' i = em i) : an_bg kd a b kp em' S i = an_bg kd a b kp em S i := by
  by_cases k : kd i = 2
  · rw [an_bg2 k, an_bg2 k, he _ (an_oa hO (by rw [k]; rfl))]
  · simp only [an_bg, if_neg k]
theorem lw_cf {w : Nat} (hn : n ≤ 60) (hO : ∀ i, i < n → us i = 1 → an_ok n kd a b kp us i) (hu : ∀ i, i < 60 → us' i = us i) (he : ∀ i, i < 60 → em' i = em i) : an_cf w n kd a b kp us' em' = an_cf w n kd a b kp us em := by
  funext S
  refine propext ⟨fun h i hi h1 => ?_, fun h i hi h1 => ?_⟩
  · rw [← lw_bg (hO i hi h1) he]; exact h i hi ((hu i (by omega)).trans h1)
  · have h2 : us i = 1 := (hu i (by omega)) ▸ h1
    rw [lw_bg (hO i hi h2) he]; exact h i hi h2
theorem lw_cn1 {S : Nat → Int32} {i : Nat} (hO : an_ok n kd a b kp us i) (he : ∀ i, i < 60 → em' i = em i) (hf : ∀ i, i < 60 → fi' i = fi i) : an_cn1 kd a b kp em' fi' S i = an_cn1 kd a b kp em fi S i := by
  have e2 : kd i = 2 → em' (an_o (b i)) = em (an_o (b i)) ∧ fi' (an_o (b i)) = fi (an_o (b i)) := fun k => ⟨he _ (an_ob hO (by rw [k]; rfl)), hf _ (an_ob hO (by rw [k]; rfl))⟩
  have e5 : kd i = 5 → fi' (an_o (a i)) = fi (an_o (a i)) := fun k => hf _ (an_oa hO (by rw [k]; rfl))
  unfold an_cn1
  refine propext ⟨fun ⟨h1, h2, h3, h4, h5, h6⟩ => ⟨h1, fun k => ?_, h3, h4, fun k => ?_, h6⟩, fun ⟨h1, h2, h3, h4, h5, h6⟩ => ⟨h1, fun k => ?_, h3, h4, fun k => ?_, h6⟩⟩
  · have := h2 k; rw [(e2 k).1, (e2 k).2] at this; exact this
  · have := h5 k; rw [e5 k] at this; exact this
  · rw [(e2 k).1, (e2 k).2]; exact h2 k
  · rw [e5 k]; exact h5 k
theorem lw_cn (hn : n ≤ 60) (hO : ∀ i, i < n → us i = 1 → an_ok n kd a b kp us i) (hu : ∀ i, i < 60 → us' i = us i) (he : ∀ i, i < 60 → em' i = em i) (hf : ∀ i, i < 60 → fi' i = fi i) : an_cn n kd a b kp us' em' fi' rt = an_cn n kd a b kp us em fi rt := by
  funext S
  unfold an_cn
  refine propext ⟨fun h => ⟨h.1, fun i hi h1 => ?_⟩, fun h => ⟨h.1, fun i hi h1 => ?_⟩⟩
  · rw [← lw_cn1 (hO i hi h1) he hf]; exact h.2 i hi ((hu i (by omega)).trans h1)
  · have h2 : us i = 1 := (hu i (by omega)) ▸ h1
    rw [lw_cn1 (hO i hi h2) he hf]; exact h.2 i hi h2
theorem lw_R (hn : n ≤ 60) (hO : ∀ i, i < n → us i = 1 → an_ok n kd a b kp us i) (hr : an_o (kp r) < 60) (hu : ∀ i, i < 60 → us' i = us i) (hc : ∀ i, i < 60 → cm' i = cm i) : an_R n kd a kp us' cm' r = an_R n kd a kp us cm r := by
  unfold an_R an_rc
  rw [hc _ hr]
  refine propext (or_congr Iff.rfl ⟨?_, ?_⟩)
  · rintro ⟨i, h1, h2, h3, h4⟩
    have h2' : us i = 1 := (hu i (by omega)) ▸ h2
    rw [hc _ (an_oc (hO i h1 h2') h3)] at h4
    exact ⟨i, h1, h2', h3, h4⟩
  · rintro ⟨i, h1, h2, h3, h4⟩
    refine ⟨i, h1, (hu i (by omega)).trans h2, h3, ?_⟩
    rw [hc _ (an_oc (hO i h1 h2) h3)]
    exact h4
theorem lw_E (hn : n ≤ 60) (hO : ∀ i, i < n → us i = 1 → an_ok n kd a b kp us i) (hu : ∀ i, i < 60 → us' i = us i) (he : ∀ i, i < 60 → em' i = em i) : an_E n kd a us' em' = an_E n kd a us em := by
  unfold an_E
  refine propext ⟨?_, ?_⟩
  · rintro ⟨i, h1, h2, h3, h4⟩
    have h2' : us i = 1 := (hu i (by omega)) ▸ h2
    rw [he _ (an_oa (hO i h1 h2') (by rw [h3]; rfl))] at h4
    exact ⟨i, h1, h2', h3, h4⟩
  · rintro ⟨i, h1, h2, h3, h4⟩
    refine ⟨i, h1, (hu i (by omega)).trans h2, h3, ?_⟩
    rw [he _ (an_oa (hO i h1 h2) (by rw [h3]; rfl))]
    exact h4
theorem st_num_cg {p q : Nat → Bool} : ∀ m, (∀ i, i < m → p i = q i) → st_num p m = st_num q m := by
  intro m
  induction m with
  | zero => intro _; rfl
  | succ m ih => intro h; simp only [st_num]; rw [ih (fun i hi => h i (by omega)), h m (by omega)]
end LwC
/-! THE LAW'S INVARIANT -/
def lw_in (M : mm_M) (z : Nat) : Prop := z ≤ 40 ∧ M 14 1 = nI z ∧ M 21 1 = nI z ∧ ∀ q, q < z → ∃ j, j < 10 ∧ M 15 q = nI j ∧ M 33 q = nI j
def lw_rs (M : mm_M) (t : Nat) : Prop := t ≤ 90 ∧ M 16 4 = nI t ∧ M 21 14 = nI t ∧ M 20 4 = M 21 12 ∧ M 20 5 = M 21 13 ∧ M 20 6 = M 21 11 ∧ ∀ i, i < t → M 17 i = M 37 i ∧ M 18 i = M 38 i ∧ M 19 i = M 39 i
def lw_a (M : mm_M) (n : Nat) (kd lv : Nat → Nat) (a b ru : Nat → Int32) (c : Bool) (us em fi nx kp : Nat → Int32) (rt z t : Nat) : Prop := st_gX M n kd lv a b ru ∧ st_gM M n kd lv a b ru ∧ st_wf n kd lv a b ru ∧ st_CX M c us em fi nx kp rt ∧ st_CM M c n us em fi nx kp rt ∧ st_cok c n kd a b kp us em rt ∧ lw_in M z ∧ lw_rs M t
def lw_inv (M : mm_M) : Prop := ∃ (n : Nat) (kd lv : Nat → Nat) (a b ru : Nat → Int32) (c : Bool) (us em fi nx kp : Nat → Int32) (rt z t : Nat), lw_a M n kd lv a b ru c us em fi nx kp rt z t
theorem st_gX_eq {M M' : mm_M} {n : Nat} {kd lv : Nat → Nat} {a b ru : Nat → Int32} (h1 : M' 1 5 = M 1 5) (h : ∀ k, 2 ≤ k → k ≤ 6 → M' k = M k) (g : st_gX M n kd lv a b ru) : st_gX M' n kd lv a b ru := by
  unfold st_gX at g ⊢
  rw [h1, h 2 (by omega) (by omega), h 3 (by omega) (by omega), h 4 (by omega) (by omega), h 5 (by omega) (by omega), h 6 (by omega) (by omega)]; exact g
theorem st_gM_eq {M M' : mm_M} {n : Nat} {kd lv : Nat → Nat} {a b ru : Nat → Int32} (h1 : M' 21 0 = M 21 0) (h : ∀ k, 22 ≤ k → k ≤ 26 → M' k = M k) (g : st_gM M n kd lv a b ru) : st_gM M' n kd lv a b ru := by
  unfold st_gM at g ⊢
  rw [h1, h 22 (by omega) (by omega), h 23 (by omega) (by omega), h 24 (by omega) (by omega), h 25 (by omega) (by omega), h 26 (by omega) (by omega)]; exact g
theorem st_CX_eq {M M' : mm_M} {c : Bool} {us em fi nx kp : Nat → Int32} {rt : Nat} (h1 : M' 7 7 = M 7 7) (h2 : M' 7 8 = M 7 8) (h : ∀ k, 8 ≤ k → k ≤ 13 → M' k = M k) (g : st_CX M c us em fi nx kp rt) : st_CX M' c us em fi nx kp rt := by
  unfold st_CX at g ⊢
  rw [h1, h2, h 8 (by omega) (by omega), h 10 (by omega) (by omega), h 11 (by omega) (by omega), h 12 (by omega) (by omega), h 13 (by omega) (by omega)]; exact g
theorem st_CM_eq {M M' : mm_M} {c : Bool} {n : Nat} {us em fi nx kp : Nat → Int32} {rt : Nat} (h1 : M' 21 2 = M 21 2) (h2 : M' 21 3 = M 21 3) (h : ∀ k, 27 ≤ k → k ≤ 31 → M' k = M k) (g : st_CM M c n us em fi nx kp rt) : st_CM M' c n us em fi nx kp rt := by
  unfold st_CM at g ⊢
  rw [h1, h2, h 27 (by omega) (by omega), h 28 (by omega) (by omega), h 29 (by omega) (by omega), h 30 (by omega) (by omega), h 31 (by omega) (by omega)]; exact g
theorem lw_in_eq {M M' : mm_M} {z : Nat} (h1 : M' 14 1 = M 14 1) (h2 : M' 21 1 = M 21 1) (h3 : M' 15 = M 15) (h4 : M' 33 = M 33) (g : lw_in M z) : lw_in M' z := by
  unfold lw_in at g ⊢
  rw [h1, h2, h3, h4]; exact g
theorem lw_rs_eq {M M' : mm_M} {t : Nat} (h1 : M' 16 4 = M 16 4) (h : ∀ k, 17 ≤ k → k ≤ 20 → M' k = M k) (h2 : ∀ j, 11 ≤ j → j ≤ 14 → M' 21 j = M 21 j) (h3 : ∀ k, 37 ≤ k → k ≤ 39 → M' k = M k) (g : lw_rs M t) : lw_rs M' t := by
  unfold lw_rs at g ⊢
  rw [h1, h 17 (by omega) (by omega), h 18 (by omega) (by omega), h 19 (by omega) (by omega), h 20 (by omega) (by omega), h2 11 (by omega) (by omega), h2 12 (by omega) (by omega), h2 13 (by omega) (by omega), h2 14 (by omega) (by omega), h3 37 (by omega) (by omega), h3 38 (by omega) (by omega), h3 39 (by omega) (by omega)]; exact g
/-- both calls, one behind the other: the same answer, and the invariant again -/
def lw_two (d j1 j2 : Nat) (args : List mm_V) (M : mm_M) : Prop := mm_Ev pg ly d j1 (.inr 0 :: args) M (fun r M1 => ∃ v, r = some (.inl v) ∧ mm_Ev pg ly d j2 (.inr 21 :: args) M1 (fun r2 M2 => r2 = some (.inl v) ∧ lw_inv M2))
theorem lw_place {d : Nat} {M : mm_M} (hd : 300 ≤ d) (h : lw_inv M) : lw_two d 10 103 [] M := by
  have h0 := h
  obtain ⟨n, kd, lv, a, b, ru, c, us, em, fi, nx, kp, rt, z, t, gX, gM, wf, cX, cM, ck, hin, hrs⟩ := h
  refine sp_PG_place (by omega) ⟨_, rfl, sm_place (by omega) ⟨?_, h0⟩⟩
  rw [hrs.2.2.2.1]
theorem lw_due {d : Nat} {M : mm_M} (hd : 300 ≤ d) (h : lw_inv M) : lw_two d 11 104 [] M := by
  have h0 := h
  obtain ⟨n, kd, lv, a, b, ru, c, us, em, fi, nx, kp, rt, z, t, gX, gM, wf, cX, cM, ck, hin, hrs⟩ := h
  refine sp_PG_due (by omega) ⟨_, rfl, sm_due (by omega) ⟨?_, h0⟩⟩
  rw [hrs.2.2.2.2.1]
theorem lw_tree {d : Nat} {M : mm_M} {x p : Int32} (hd : 300 ≤ d) (h : lw_inv M) : lw_two d 12 105 [.inl x, .inl p] M := by
  have h0 := h
  obtain ⟨n, kd, lv, a, b, ru, c, us, em, fi, nx, kp, rt, z, t, gX, gM, wf, cX, cM, ck, hin, hrs⟩ := h
  have h90 := hrs.1
  have e : ∀ {i j : Nat}, i < t → j < t → x = nI i → x = nI j → i = j := fun hi hj e1 e2 => st_nIe (by omega) (by omega) (e1.symm.trans e2)
  have no : ∀ {i j : Nat}, i < 3 → j < 3 → p = nI i → p = nI j → i = j := fun hi hj e1 e2 => st_nIe (by omega) (by omega) (e1.symm.trans e2)
  refine sp_PG_tree hrs.2.1 hrs.1 (by omega) (fun hR => ⟨_, rfl, ?_⟩) (fun hp hx => ⟨_, rfl, ?_⟩) (fun j hj ex ep => ⟨_, rfl, ?_⟩) (fun j hj ex ep => ⟨_, rfl, ?_⟩) (fun j hj ex ep => ⟨_, rfl, ?_⟩)
  · exact sm_tree hrs.2.2.1 hrs.1 (by omega) (fun _ => ⟨rfl, h0⟩) (fun q => absurd q hR) (fun i _ _ q => absurd ⟨0, by omega, q⟩ hR) (fun i _ _ q => absurd ⟨1, by omega, q⟩ hR) (fun i _ _ q => absurd ⟨2, by omega, q⟩ hR)
  · exact sm_tree hrs.2.2.1 hrs.1 (by omega) (fun q => absurd hp q) (fun _ _ => ⟨rfl, h0⟩) (fun i hi ei _ => absurd ⟨i, hi, ei⟩ hx) (fun i hi ei _ => absurd ⟨i, hi, ei⟩ hx) (fun i hi ei _ => absurd ⟨i, hi, ei⟩ hx)
  · refine sm_tree hrs.2.2.1 hrs.1 (by omega) (fun q => absurd ⟨0, by omega, ep⟩ q) (fun _ q => absurd ⟨j, hj, ex⟩ q) (fun i hi ei _ => ?_) (fun i _ _ q => absurd (no (by omega) (by omega) ep q) (by decide)) (fun i _ _ q => absurd (no (by omega) (by omega) ep q) (by decide))
    rw [e hi hj ei ex]
    exact ⟨by rw [(hrs.2.2.2.2.2.2 j hj).1], h0⟩
  · refine sm_tree hrs.2.2.1 hrs.1 (by omega) (fun q => absurd ⟨1, by omega, ep⟩ q) (fun _ q => absurd ⟨j, hj, ex⟩ q) (fun i _ _ q => absurd (no (by omega) (by omega) ep q) (by decide)) (fun i hi ei _ => ?_) (fun i _ _ q => absurd (no (by omega) (by omega) ep q) (by decide))
    rw [e hi hj ei ex]
    exact ⟨by rw [(hrs.2.2.2.2.2.2 j hj).2.1], h0⟩
  · refine sm_tree hrs.2.2.1 hrs.1 (by omega) (fun q => absurd ⟨2, by omega, ep⟩ q) (fun _ q => absurd ⟨j, hj, ex⟩ q) (fun i _ _ q => absurd (no (by omega) (by omega) ep q) (by decide)) (fun i _ _ q => absurd (no (by omega) (by omega) ep q) (by decide)) (fun i hi ei _ => ?_)
    rw [e hi hj ei ex]
    exact ⟨by rw [(hrs.2.2.2.2.2.2 j hj).2.2], h0⟩
theorem lw_rd {c : Bool} {n : Nat} {us g : Nat → Int32} {x : Int32} {d j1 j2 : Nat} {M : mm_M} (hn : n ≤ 60) (h0 : lw_inv M)
    (h1 : ∀ Q : mm_Qt, (¬ st_cv c n us x → Q (some (.inl (-1))) M) → (∀ j, j < n → x = nI j → us j = 1 → c = true → Q (some (.inl (g j))) M) → mm_Ev pg ly d j1 [.inr 0, .inl x] M Q)
    (h2 : ∀ Q : mm_Qt, (¬ st_cv c n us x → Q (some (.inl (-1))) M) → (∀ j, j < n → x = nI j → us j = 1 → c = true → Q (some (.inl (g j))) M) → mm_Ev pg ly d j2 [.inr 21, .inl x] M Q) : lw_two d j1 j2 [.inl x] M := by
  refine h1 _ (fun hno => ⟨_, rfl, h2 _ (fun _ => ⟨rfl, h0⟩) (fun j hj ex hu hc => absurd ⟨hc, j, hj, ex, hu⟩ hno)⟩) (fun j hj ex hu hc => ⟨_, rfl, h2 _ (fun q => absurd ⟨hc, j, hj, ex, hu⟩ q) (fun i hi ei _ _ => ?_)⟩)
  rw [st_nIe (by omega) (by omega) (ei.symm.trans ex)]
  exact ⟨rfl, h0⟩
theorem lw_empty {d : Nat} {M : mm_M} {x : Int32} (hd : 300 ≤ d) (h : lw_inv M) : lw_two d 3 85 [.inl x] M := by
  have h0 := h
  obtain ⟨n, kd, lv, a, b, ru, c, us, em, fi, nx, kp, rt, z, t, gX, gM, wf, cX, cM, ck, hin, hrs⟩ := h
  exact lw_rd wf.1 h0 (fun Q k1 k2 => sp_PG_empty gX wf cX ck (by omega) k1 k2) (fun Q k1 k2 => sm_empty gM wf cM ck (by omega) k1 k2)
theorem lw_first {d : Nat} {M : mm_M} {x : Int32} (hd : 300 ≤ d) (h : lw_inv M) : lw_two d 4 86 [.inl x] M := by
  have h0 := h
  obtain ⟨n, kd, lv, a, b, ru, c, us, em, fi, nx, kp, rt, z, t, gX, gM, wf, cX, cM, ck, hin, hrs⟩ := h
  exact lw_rd wf.1 h0 (fun Q k1 k2 => sp_PG_first gX wf cX ck (by omega) k1 k2) (fun Q k1 k2 => sm_first gM wf cM ck (by omega) k1 k2)
theorem lw_next {d : Nat} {M : mm_M} {x : Int32} (hd : 300 ≤ d) (h : lw_inv M) : lw_two d 5 87 [.inl x] M := by
  have h0 := h
  obtain ⟨n, kd, lv, a, b, ru, c, us, em, fi, nx, kp, rt, z, t, gX, gM, wf, cX, cM, ck, hin, hrs⟩ := h
  exact lw_rd wf.1 h0 (fun Q k1 k2 => sp_PG_next gX wf cX ck (by omega) k1 k2) (fun Q k1 k2 => sm_next gM wf cM ck (by omega) k1 k2)
theorem lw_clash {d : Nat} {M : mm_M} {x : Int32} (hd : 300 ≤ d) (h : lw_inv M) : lw_two d 6 88 [.inl x] M := by
  have h0 := h
  obtain ⟨n, kd, lv, a, b, ru, c, us, em, fi, nx, kp, rt, z, t, gX, gM, wf, cX, cM, ck, hin, hrs⟩ := h
  exact lw_rd wf.1 h0 (fun Q k1 k2 => sp_PG_clash gX wf cX ck (by omega) k1 k2) (fun Q k1 k2 => sm_clash gM wf cM ck (by omega) k1 k2)
theorem lw_count {d : Nat} {M : mm_M} {x : Int32} (hd : 300 ≤ d) (h : lw_inv M) : lw_two d 13 106 [.inl x] M := by
  have h0 := h
  obtain ⟨n, kd, lv, a, b, ru, c, us, em, fi, nx, kp, rt, z, t, gX, gM, wf, cX, cM, ck, hin, hrs⟩ := h
  have no : ∀ {i j : Nat}, i < 6 → j < 6 → x = nI i → x = nI j → i = j := fun hi hj e1 e2 => st_nIe (by omega) (by omega) (e1.symm.trans e2)
  have ref : ∀ (v : Int32), (¬ st_in 6 x → -1 = v) → (x = nI 0 → nI n = v) → (x = nI 1 → M 21 1 = v) → (x = nI 2 → M 21 14 = v) → (x = nI 3 → M 21 11 = v) → (x = nI 4 → nI (st_num (st_cq c kd a b us em fi nx) n) = v) → (x = nI 5 → nI (st_num (st_uq c us) n) = v) → mm_Ev pg ly d 106 [.inr 21, .inl x] M (fun r2 M2 => r2 = some (.inl v) ∧ lw_inv M2) :=
    fun v eR e0 e1 e2 e3 e4 e5 => sm_count gM wf cM ck (by omega) (fun q => ⟨by rw [eR q], h0⟩) (fun q => ⟨by rw [e0 q], h0⟩) (fun q => ⟨by rw [e1 q], h0⟩) (fun q => ⟨by rw [e2 q], h0⟩) (fun q => ⟨by rw [e3 q], h0⟩) (fun q => ⟨by rw [e4 q], h0⟩) (fun q => ⟨by rw [e5 q], h0⟩)
  refine sp_PG_count gX wf cX ck (by omega) (fun q => ⟨_, rfl, ?_⟩) (fun q => ⟨_, rfl, ?_⟩) (fun q => ⟨_, rfl, ?_⟩) (fun q => ⟨_, rfl, ?_⟩) (fun q => ⟨_, rfl, ?_⟩) (fun q => ⟨_, rfl, ?_⟩) (fun q => ⟨_, rfl, ?_⟩)
  · exact ref _ (fun _ => rfl) (fun w => absurd ⟨0, by omega, w⟩ q) (fun w => absurd ⟨1, by omega, w⟩ q) (fun w => absurd ⟨2, by omega, w⟩ q) (fun w => absurd ⟨3, by omega, w⟩ q) (fun w => absurd ⟨4, by omega, w⟩ q) (fun w => absurd ⟨5, by omega, w⟩ q)
  · exact ref _ (fun w => absurd ⟨0, by omega, q⟩ w) (fun w => rfl) (fun w => absurd (no (by omega) (by omega) q w) (by decide)) (fun w => absurd (no (by omega) (by omega) q w) (by decide)) (fun w => absurd (no (by omega) (by omega) q w) (by decide)) (fun w => absurd (no (by omega) (by omega) q w) (by decide)) (fun w => absurd (no (by omega) (by omega) q w) (by decide))
  · exact ref _ (fun w => absurd ⟨1, by omega, q⟩ w) (fun w => absurd (no (by omega) (by omega) q w) (by decide)) (fun w => hin.2.2.1.trans hin.2.1.symm) (fun w => absurd (no (by omega) (by omega) q w) (by decide)) (fun w => absurd (no (by omega) (by omega) q w) (by decide)) (fun w => absurd (no (by omega) (by omega) q w) (by decide)) (fun w => absurd (no (by omega) (by omega) q w) (by decide))
  · exact ref _ (fun w => absurd ⟨2, by omega, q⟩ w) (fun w => absurd (no (by omega) (by omega) q w) (by decide)) (fun w => absurd (no (by omega) (by omega) q w) (by decide)) (fun w => hrs.2.2.1.trans hrs.2.1.symm) (fun w => absurd (no (by omega) (by omega) q w) (by decide)) (fun w => absurd (no (by omega) (by omega) q w) (by decide)) (fun w => absurd (no (by omega) (by omega) q w) (by decide))
  · exact ref _ (fun w => absurd ⟨3, by omega, q⟩ w) (fun w => absurd (no (by omega) (by omega) q w) (by decide)) (fun w => absurd (no (by omega) (by omega) q w) (by decide)) (fun w => absurd (no (by omega) (by omega) q w) (by decide)) (fun w => hrs.2.2.2.2.2.1.symm) (fun w => absurd (no (by omega) (by omega) q w) (by decide)) (fun w => absurd (no (by omega) (by omega) q w) (by decide))
  · exact ref _ (fun w => absurd ⟨4, by omega, q⟩ w) (fun w => absurd (no (by omega) (by omega) q w) (by decide)) (fun w => absurd (no (by omega) (by omega) q w) (by decide)) (fun w => absurd (no (by omega) (by omega) q w) (by decide)) (fun w => absurd (no (by omega) (by omega) q w) (by decide)) (fun w => rfl) (fun w => absurd (no (by omega) (by omega) q w) (by decide))
  · exact ref _ (fun w => absurd ⟨5, by omega, q⟩ w) (fun w => absurd (no (by omega) (by omega) q w) (by decide)) (fun w => absurd (no (by omega) (by omega) q w) (by decide)) (fun w => absurd (no (by omega) (by omega) q w) (by decide)) (fun w => absurd (no (by omega) (by omega) q w) (by decide)) (fun w => absurd (no (by omega) (by omega) q w) (by decide)) (fun w => rfl)
