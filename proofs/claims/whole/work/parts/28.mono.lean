theorem ms_10 : ¬ ms_le 1 0 := fun h => absurd (ms_le0 h) (by decide)
section AnK
variable {kd : Nat → Nat} {a b kp em S T : Nat → Int32} {i : Nat}
theorem an_fe0 (h : kd i = 0) : an_fe kd a b kp S i = False := by simp [an_fe, h]
theorem an_fe1 (h : kd i = 1) : an_fe kd a b kp S i = ms_le 1 (S (an_o (kp (an_o (a i))))) := by simp [an_fe, h]
theorem an_fe2 (h : kd i = 2) : an_fe kd a b kp S i = (ms_le 1 (S (an_o (a i))) ∧ ms_le 1 (S (an_o (b i)))) := by simp [an_fe, h]
theorem an_fe3 (h : kd i = 3) : an_fe kd a b kp S i = (ms_le 1 (S (an_o (a i))) ∨ ms_le 1 (S (an_o (b i)))) := by simp [an_fe, h]
theorem an_fe4 (h : kd i = 4) : an_fe kd a b kp S i = True := by simp [an_fe, h]
theorem an_fe5 (h : kd i = 5) : an_fe kd a b kp S i = True := by simp [an_fe, h]
theorem an_fe6 (h : kd i = 6) : an_fe kd a b kp S i = True := by simp [an_fe, h]
theorem an_fe7 (h : kd i = 7) : an_fe kd a b kp S i = ms_le 1 (S (an_o (b i))) := by simp [an_fe, h]
theorem an_fe8 (h : kd i = 8) : an_fe kd a b kp S i = ms_le 1 (S (an_o (b i))) := by simp [an_fe, h]
theorem an_bg0 (h : kd i = 0) : an_bg kd a b kp em S i = 0 := by simp [an_bg, h]
theorem an_bg1 (h : kd i = 1) : an_bg kd a b kp em S i = S (an_o (kp (an_o (a i)))) := by simp [an_bg, h]
theorem an_bg2 (h : kd i = 2) : an_bg kd a b kp em S i = (if em (an_o (a i)) = 0 then S (an_o (a i)) else S (an_o (a i)) ||| S (an_o (b i))) := by simp [an_bg, h]
theorem an_bg3 (h : kd i = 3) : an_bg kd a b kp em S i = S (an_o (a i)) ||| S (an_o (b i)) := by simp [an_bg, h]
theorem an_bg4 (h : kd i = 4) : an_bg kd a b kp em S i = S (an_o (a i)) := by simp [an_bg, h]
theorem an_bg5 (h : kd i = 5) : an_bg kd a b kp em S i = S (an_o (a i)) := by simp [an_bg, h]
theorem an_bg6 (h : kd i = 6) : an_bg kd a b kp em S i = 0 := by simp [an_bg, h]
theorem an_bg7 (h : kd i = 7) : an_bg kd a b kp em S i = S (an_o (b i)) := by simp [an_bg, h]
theorem an_bg8 (h : kd i = 8) : an_bg kd a b kp em S i = S (an_o (b i)) := by simp [an_bg, h]
end AnK
/-- what is known of a used node's operands -/
def an_ok (n : Nat) (kd : Nat → Nat) (a b kp us : Nat → Int32) (i : Nat) : Prop :=
  kd i < 9 ∧ (st_nl (kd i) = true → ∃ j, j < 60 ∧ j < n ∧ a i = nI j ∧ us j = 1) ∧ (st_nr (kd i) = true → ∃ j, j < 60 ∧ j < n ∧ b i = nI j ∧ us j = 1) ∧ (kd i = 1 → ∃ r j, r < 8 ∧ a i = nI r ∧ j < 60 ∧ j < n ∧ kp r = nI j ∧ us j = 1)
theorem an_ok_of {n : Nat} {kd lv : Nat → Nat} {a b kp us : Nat → Int32} {rt : Nat} (hW : st_wf n kd lv a b kp) (hU : st_us n kd a b kp us rt) {i : Nat} (hi : i < n) (hu : us i = 1) : an_ok n kd a b kp us i := by
  have hn := hW.1
  obtain ⟨h1, h2, h3⟩ := hU.2.2.2 i hi hu
  refine ⟨(hW.2.1 i hi).1, fun h => ?_, fun h => ?_, fun h => ?_⟩
  · obtain ⟨j, q1, q2, q3⟩ := h1 h; exact ⟨j, by omega, by omega, q2, q3⟩
  · obtain ⟨j, q1, q2, q3⟩ := h2 h; exact ⟨j, by omega, by omega, q2, q3⟩
  · obtain ⟨r, j, q1, q2, q3, q4, q5⟩ := h3 h; exact ⟨r, j, q1, q2, by omega, q3, q4, q5⟩
section AnM
variable {n : Nat} {kd : Nat → Nat} {a b kp us em S T : Nat → Int32} {i : Nat}
theorem an_oa (h : an_ok n kd a b kp us i) (k : st_nl (kd i) = true) : an_o (a i) < 60 := by
  obtain ⟨j, h1, -, h2, -⟩ := h.2.1 k
  rw [h2, an_oI (by omega)]; exact h1
theorem an_ob (h : an_ok n kd a b kp us i) (k : st_nr (kd i) = true) : an_o (b i) < 60 := by
  obtain ⟨j, h1, -, h2, -⟩ := h.2.2.1 k
  rw [h2, an_oI (by omega)]; exact h1
theorem an_oc (h : an_ok n kd a b kp us i) (k : kd i = 1) : an_o (kp (an_o (a i))) < 60 := by
  obtain ⟨r, j, h0, h1, h2, -, h3, -⟩ := h.2.2.2 k
  rw [h1, an_oI (by omega), h3, an_oI (by omega)]; exact h2
theorem an_fe_mono (h : an_ok n kd a b kp us i) (hl : ∀ j, j < 60 → ms_le (S j) (T j)) (hf : an_fe kd a b kp S i) : an_fe kd a b kp T i := by
  rcases st_k9 h.1 with k | k | k | k | k | k | k | k | k
  · rw [an_fe0 k] at hf; exact hf.elim
  · rw [an_fe1 k] at hf ⊢; exact ms_tr hf (hl _ (an_oc h k))
  · rw [an_fe2 k] at hf ⊢; exact ⟨ms_tr hf.1 (hl _ (an_oa h (by rw [k]; rfl))), ms_tr hf.2 (hl _ (an_ob h (by rw [k]; rfl)))⟩
  · rw [an_fe3 k] at hf ⊢
    rcases hf with hf | hf
    · exact Or.inl (ms_tr hf (hl _ (an_oa h (by rw [k]; rfl))))
    · exact Or.inr (ms_tr hf (hl _ (an_ob h (by rw [k]; rfl))))
  · rw [an_fe4 k]; trivial
  · rw [an_fe5 k]; trivial
  · rw [an_fe6 k]; trivial
  · rw [an_fe7 k] at hf ⊢; exact ms_tr hf (hl _ (an_ob h (by rw [k]; rfl)))
  · rw [an_fe8 k] at hf ⊢; exact ms_tr hf (hl _ (an_ob h (by rw [k]; rfl)))
theorem an_bg_mono (h : an_ok n kd a b kp us i) (hl : ∀ j, j < 60 → ms_le (S j) (T j)) : ms_le (an_bg kd a b kp em S i) (an_bg kd a b kp em T i) := by
  rcases st_k9 h.1 with k | k | k | k | k | k | k | k | k
  · rw [an_bg0 k]; exact ms_0 _
  · rw [an_bg1 k, an_bg1 k]; exact hl _ (an_oc h k)
  · rw [an_bg2 k, an_bg2 k]
    have h1 := hl _ (an_oa h (by rw [k]; rfl))
    have h2 := hl _ (an_ob h (by rw [k]; rfl))
    by_cases e : em (an_o (a i)) = 0
    · rw [if_pos e, if_pos e]; exact h1
    · rw [if_neg e, if_neg e]; exact ms_oo h1 h2
  · rw [an_bg3 k, an_bg3 k]; exact ms_oo (hl _ (an_oa h (by rw [k]; rfl))) (hl _ (an_ob h (by rw [k]; rfl)))
  · rw [an_bg4 k, an_bg4 k]; exact hl _ (an_oa h (by rw [k]; rfl))
  · rw [an_bg5 k, an_bg5 k]; exact hl _ (an_oa h (by rw [k]; rfl))
  · rw [an_bg6 k]; exact ms_0 _
  · rw [an_bg7 k, an_bg7 k]; exact hl _ (an_ob h (by rw [k]; rfl))
  · rw [an_bg8 k, an_bg8 k]; exact hl _ (an_ob h (by rw [k]; rfl))
theorem an_bg_T (h : kd i < 9) (x : Int32) : ms_le (an_bg kd a b kp em (fun _ => x) i) x := by
  rcases st_k9 h with k | k | k | k | k | k | k | k | k
  · rw [an_bg0 k]; exact ms_0 _
  · rw [an_bg1 k]; exact ms_rf _
  · rw [an_bg2 k]
    by_cases e : em (an_o (a i)) = 0
    · rw [if_pos e]; exact ms_rf _
    · rw [if_neg e]; exact ms_or (ms_rf _) (ms_rf _)
  · rw [an_bg3 k]; exact ms_or (ms_rf _) (ms_rf _)
  · rw [an_bg4 k]; exact ms_rf _
  · rw [an_bg5 k]; exact ms_rf _
  · rw [an_bg6 k]; exact ms_0 _
  · rw [an_bg7 k]; exact ms_rf _
  · rw [an_bg8 k]; exact ms_rf _
end AnM
theorem an_sh10 : ∀ j, j < 10 → ms_le ((1 : Int32) <<< (nI j &&& 31)) 1023 := by unfold ms_le; decide
theorem an_sh8 : ∀ j, j < 8 → ms_le ((1 : Int32) <<< (nI j &&& 31)) 255 := by unfold ms_le; decide
theorem an_cf0_T {n : Nat} {kd lv : Nat → Nat} {a b kp us em : Nat → Int32} (hW : st_wf n kd lv a b kp) : an_cf 0 n kd a b kp us em (fun _ => 1023) := by
  intro i hi _
  refine ms_or ?_ (an_bg_T (hW.2.1 i hi).1 _)
  unfold an_ow
  by_cases h : kd i = 0
  · rw [if_pos h]
    obtain ⟨j, hj, e⟩ := (hW.2.1 i hi).2.2.2.2.2.1 h
    rw [e]; exact an_sh10 j hj
  · rw [if_neg h]; exact ms_0 _
theorem an_cf1_T {n : Nat} {kd lv : Nat → Nat} {a b kp us em : Nat → Int32} (hW : st_wf n kd lv a b kp) : an_cf 1 n kd a b kp us em (fun _ => 255) := by
  intro i hi _
  refine ms_or ?_ (an_bg_T (hW.2.1 i hi).1 _)
  unfold an_ow
  by_cases h : kd i = 1
  · rw [if_pos h]
    obtain ⟨j, hj, e⟩ := (hW.2.1 i hi).2.2.2.2.2.2.1 h
    rw [e]; exact an_sh8 j hj
  · rw [if_neg h]; exact ms_0 _
theorem an_cn_T {n : Nat} {kd lv : Nat → Nat} {a b kp us em fi : Nat → Int32} {rt : Nat} (hW : st_wf n kd lv a b kp) (hU : st_us n kd a b kp us rt) (hF : ∀ j, j < 60 → ms_le (fi j) 1023) : an_cn n kd a b kp us em fi rt (fun _ => 2047) := by
  have h1 : ms_le (1023 : Int32) 2047 := by unfold ms_le; decide
  have h24 : ms_le (1024 : Int32) 2047 := by unfold ms_le; decide
  refine ⟨h24, fun i hi hu => ?_⟩
  have hk := an_ok_of hW hU hi hu
  refine ⟨fun _ => ms_rf _, fun k => ⟨ms_rf _, ?_⟩, fun _ => ⟨ms_rf _, ms_rf _⟩, fun _ => ms_rf _, fun k => ms_or (ms_rf _) (ms_tr (hF _ (an_oa hk (by rw [k]; rfl))) h1), fun _ => ms_rf _⟩
  have h2 := ms_tr (hF _ (an_ob hk (by rw [k]; rfl))) h1
  by_cases e : em (an_o (b i)) = 0
  · rw [if_pos e]; exact h2
  · rw [if_neg e]; exact ms_or h2 (ms_rf _)
