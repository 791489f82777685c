/-! LEAST SOLUTIONS BY GROWING: masks of 60 nodes -/
def an_cnt (f : Nat → Int32) : Nat → Nat
  | 0 => 0
  | m + 1 => an_cnt f m + ms_c (f m) 32
theorem an_cnt_mono {f g : Nat → Int32} : ∀ m, (∀ i, i < m → ms_le (f i) (g i)) → an_cnt f m ≤ an_cnt g m := by
  intro m
  induction m with
  | zero => intro _; exact Nat.le_refl _
  | succ m ih =>
    intro h
    have h1 := ih (fun i hi => h i (by omega))
    have h2 := ms_c_mono (h m (by omega)) 32
    simp only [an_cnt]; omega
theorem an_cnt_lt {f g : Nat → Int32} : ∀ m, (∀ i, i < m → ms_le (f i) (g i)) → ∀ j, j < m → f j ≠ g j → an_cnt f m < an_cnt g m := by
  intro m
  induction m with
  | zero => intro _ j hj; omega
  | succ m ih =>
    intro h j hj hne
    have h2 := ms_c_mono (h m (by omega)) 32
    rcases Nat.lt_or_ge j m with q | q
    · have h1 := ih (fun i hi => h i (by omega)) j q hne
      simp only [an_cnt]; omega
    · have : j = m := by omega
      subst this
      have h1 := an_cnt_mono j (fun i hi => h i (by omega))
      have h3 := ms_c_lt (h j (by omega)) hne
      simp only [an_cnt]; omega
theorem an_cnt_bd {f : Nat → Int32} {B : Nat} : ∀ m, (∀ i, i < m → ms_c (f i) 32 ≤ B) → an_cnt f m ≤ m * B := by
  intro m
  induction m with
  | zero => intro _; exact Nat.zero_le _
  | succ m ih =>
    intro h
    have h1 := ih (fun i hi => h i (by omega))
    have h2 := h m (by omega)
    have h3 : (m + 1) * B = m * B + B := Nat.succ_mul m B
    simp only [an_cnt]; omega
/-- below every solution -/
def an_low (Cl : (Nat → Int32) → Prop) (f : Nat → Int32) : Prop := ∀ T, Cl T → ∀ i, i < 60 → ms_le (f i) (T i)
/-- the least solution -/
def an_lst (Cl : (Nat → Int32) → Prop) (f : Nat → Int32) : Prop := Cl f ∧ an_low Cl f
theorem an_lst_eq {Cl : (Nat → Int32) → Prop} {f g : Nat → Int32} (hf : an_lst Cl f) (hg : an_lst Cl g) : ∀ i, i < 60 → f i = g i := fun i hi => ms_an (hf.2 g hg.1 i hi) (hg.2 f hf.1 i hi)
theorem an_low_bd {Cl : (Nat → Int32) → Prop} {f : Nat → Int32} (h : an_low Cl f) {T : Int32} (hT : Cl (fun _ => T)) : an_cnt f 60 ≤ 60 * ms_c T 32 := an_cnt_bd 60 (fun i hi => ms_c_mono (h _ hT i hi) 32)
theorem ms_1 {x : Int32} (h : ms_le x 1) : x = 0 ∨ x = 1 := by
  have hb : ∀ i, i < 32 → ms_b x i = true → i = 0 := by
    intro i hi hx
    have h1 : ms_b 1 i = true := by
      have : ms_b (x ||| 1) i = ms_b 1 i := by rw [h]
      rw [ms_bor, hx] at this
      simpa using this.symm
    have : ∀ i, i < 32 → ms_b 1 i = true → i = 0 := by decide
    exact this i hi h1
  by_cases h0 : ms_b x 0 = true
  · right
    apply ms_ext
    intro i hi
    by_cases hi0 : i = 0
    · subst hi0; rw [h0]; decide
    · have h1 : ms_b x i = false := by
        cases hx : ms_b x i
        · rfl
        · exact absurd (hb i hi hx) hi0
      have h2 : ∀ i, i < 32 → i ≠ 0 → ms_b 1 i = false := by decide
      rw [h1, h2 i hi hi0]
  · left
    apply ms_ext
    intro i hi
    have h1 : ms_b x i = false := by
      cases hx : ms_b x i
      · rfl
      · have := hb i hi hx
        subst this
        exact absurd hx h0
    have h2 : ∀ i, i < 32 → ms_b 0 i = false := by decide
    rw [h1, h2 i hi]
theorem ms_le0 {x : Int32} (h : ms_le x 0) : x = 0 := by
  unfold ms_le at h
  rwa [Int32.or_zero] at h
theorem ms_1n0 {x : Int32} (h : ms_le 1 x) : x ≠ 0 := by
  intro e
  subst e
  exact absurd (ms_le0 h) (by decide)
theorem ms_1of {x : Int32} (h : x = 0 ∨ x = 1) (h0 : x ≠ 0) : ms_le 1 x := by
  rcases h with h | h
  · exact absurd h h0
  · rw [h]; exact ms_rf 1
/-! the class's way: a mask array R of the memory, the flag 'changed' at 7, 9 -/
def an_fr (R : Nat) (M M' : mm_M) : Prop := (∀ k, k ≠ R → k ≠ 7 → M' k = M k) ∧ ∀ j, j ≠ 9 → M' 7 j = M 7 j
def an_gr (R : Nat) (M M' : mm_M) : Prop := M' = M ∨ (M' 7 9 = 1 ∧ an_cnt (M R) 60 < an_cnt (M' R) 60)
def an_to (R : Nat) (M M' : mm_M) : Prop := an_fr R M M' ∧ an_gr R M M' ∧ ∀ i, ms_le (M R i) (M' R i)
def an_st (R j : Nat) (v : Int32) (M M' : mm_M) : Prop := an_to R M M' ∧ M' R j = M R j ||| v ∧ ∀ i, i ≠ j → M' R i = M R i
theorem an_to_rf (R : Nat) (M : mm_M) : an_to R M M := ⟨⟨fun _ _ _ => rfl, fun _ _ => rfl⟩, Or.inl rfl, fun _ => ms_rf _⟩
theorem an_to_tr {R : Nat} {M M' M'' : mm_M} (h1 : an_to R M M') (h2 : an_to R M' M'') : an_to R M M'' := by
  obtain ⟨⟨f1, g1⟩, r1, l1⟩ := h1
  obtain ⟨⟨f2, g2⟩, r2, l2⟩ := h2
  refine ⟨⟨fun k a b => (f2 k a b).trans (f1 k a b), fun j a => (g2 j a).trans (g1 j a)⟩, ?_, fun i => ms_tr (l1 i) (l2 i)⟩
  rcases r2 with rfl | ⟨r2, c2⟩
  · exact r1
  · refine Or.inr ⟨r2, ?_⟩
    rcases r1 with rfl | ⟨-, c1⟩
    · exact c2
    · omega
theorem an_to_eq {R : Nat} {M M' M'' : mm_M} (h1 : an_to R M M') (h2 : an_to R M' M'') (e : M'' = M) : M' = M := by
  rcases h1.2.1 with h | ⟨-, h⟩
  · exact h
  · have := an_cnt_mono 60 (fun i _ => h2.2.2 i)
    rw [e] at this
    omega
theorem an_to_set (R : Nat) (M : mm_M) (hR : R ≠ 7) : an_fr R M (mm_up M 7 9 0) ∧ mm_up M 7 9 0 R = M R := by
  refine ⟨⟨fun k _ h => by simp [mm_up, h], fun j hj => by simp [mm_up, upd, hj]⟩, by simp [mm_up, hR]⟩
theorem an_st_up {R j : Nat} {v : Int32} {M : mm_M} (hR : R ≠ 7) (hj : j < 60) (hne : M R j ||| v ≠ M R j) : an_st R j v M (mm_up (mm_up M R j (M R j ||| v)) 7 9 1) := by
  have e1 : ∀ i, mm_up (mm_up M R j (M R j ||| v)) 7 9 1 R i = if i = j then M R j ||| v else M R i := by
    intro i
    simp [mm_up, hR, upd]
  have hl : ∀ i, ms_le (M R i) (mm_up (mm_up M R j (M R j ||| v)) 7 9 1 R i) := by
    intro i
    rw [e1]
    by_cases h : i = j
    · rw [if_pos h, h]; exact ms_oL _ _
    · rw [if_neg h]; exact ms_rf _
  refine ⟨⟨⟨fun k a b => by simp [mm_up, a, b], fun i hi => by simp [mm_up, upd, hi, Ne.symm hR]⟩, Or.inr ⟨by simp [mm_up, upd], ?_⟩, hl⟩, ?_, fun i hi => ?_⟩
  · refine an_cnt_lt 60 (fun i _ => hl i) j hj ?_
    rw [e1, if_pos rfl]
    exact Ne.symm hne
  · rw [e1, if_pos rfl]
  · rw [e1, if_neg hi]
theorem an_st_no {R j : Nat} {v : Int32} {M : mm_M} (he : M R j ||| v = M R j) : an_st R j v M M := ⟨an_to_rf R M, he.symm, fun _ _ => rfl⟩
theorem an_st_low {Cl : (Nat → Int32) → Prop} {R j : Nat} {v : Int32} {M M' : mm_M} (h : an_st R j v M M') (hl : an_low Cl (M R)) (hv : ∀ T, Cl T → ms_le v (T j)) : an_low Cl (M' R) := by
  intro T hT i hi
  by_cases hij : i = j
  · subst hij
    rw [h.2.1]
    exact ms_or (hl T hT i hi) (hv T hT)
  · rw [h.2.2 i hij]
    exact hl T hT i hi
theorem an_st_v {R j : Nat} {v : Int32} {M M' : mm_M} (h : an_st R j v M M') : ms_le v (M' R j) := by
  rw [h.2.1]; exact ms_oR _ _
/-! the constraints -/
def an_o (x : Int32) : Nat := x.toNatClampNeg
theorem an_oI {j : Nat} (h : j < 2 ^ 31) : an_o (nI j) = j := nI_clamp h
def an_cu1 (kd : Nat → Nat) (a b kp S : Nat → Int32) (i : Nat) : Prop := (st_nl (kd i) = true → ms_le 1 (S (an_o (a i)))) ∧ (st_nr (kd i) = true → ms_le 1 (S (an_o (b i)))) ∧ (kd i = 1 → kp (an_o (a i)) ≠ -1 → ms_le 1 (S (an_o (kp (an_o (a i))))))
def an_cu (n : Nat) (kd : Nat → Nat) (a b kp : Nat → Int32) (rt : Nat) (S : Nat → Int32) : Prop := ms_le 1 (S rt) ∧ ∀ i, i < n → ms_le 1 (S i) → an_cu1 kd a b kp S i
def an_fe (kd : Nat → Nat) (a b kp S : Nat → Int32) (i : Nat) : Prop :=
  if kd i = 1 then ms_le 1 (S (an_o (kp (an_o (a i))))) else if kd i = 2 then ms_le 1 (S (an_o (a i))) ∧ ms_le 1 (S (an_o (b i))) else if kd i = 3 then ms_le 1 (S (an_o (a i))) ∨ ms_le 1 (S (an_o (b i))) else if kd i = 0 then False else if kd i < 7 then True else ms_le 1 (S (an_o (b i)))
def an_ce (n : Nat) (kd : Nat → Nat) (a b kp us S : Nat → Int32) : Prop := ∀ i, i < n → us i = 1 → an_fe kd a b kp S i → ms_le 1 (S i)
def an_bg (kd : Nat → Nat) (a b kp em S : Nat → Int32) (i : Nat) : Int32 :=
  if kd i = 1 then S (an_o (kp (an_o (a i)))) else if kd i = 2 then (if em (an_o (a i)) = 0 then S (an_o (a i)) else S (an_o (a i)) ||| S (an_o (b i))) else if kd i = 3 then S (an_o (a i)) ||| S (an_o (b i)) else if kd i = 4 ∨ kd i = 5 then S (an_o (a i)) else if kd i = 7 ∨ kd i = 8 then S (an_o (b i)) else 0
def an_ow (w : Nat) (kd : Nat → Nat) (a : Nat → Int32) (i : Nat) : Int32 := if kd i = w then 1 <<< (a i &&& 31) else 0
def an_cf (w n : Nat) (kd : Nat → Nat) (a b kp us em S : Nat → Int32) : Prop := ∀ i, i < n → us i = 1 → ms_le (an_ow w kd a i ||| an_bg kd a b kp em S i) (S i)
def an_cn1 (kd : Nat → Nat) (a b kp em fi S : Nat → Int32) (i : Nat) : Prop :=
  (kd i = 1 → ms_le (S i) (S (an_o (kp (an_o (a i)))))) ∧ (kd i = 2 → ms_le (S i) (S (an_o (b i))) ∧ ms_le (if em (an_o (b i)) = 0 then fi (an_o (b i)) else fi (an_o (b i)) ||| S i) (S (an_o (a i)))) ∧ (kd i = 3 → ms_le (S i) (S (an_o (a i))) ∧ ms_le (S i) (S (an_o (b i)))) ∧
  (kd i = 4 → ms_le (S i) (S (an_o (a i)))) ∧ (kd i = 5 → ms_le (S i ||| fi (an_o (a i))) (S (an_o (a i)))) ∧ (kd i = 7 ∨ kd i = 8 → ms_le (S i) (S (an_o (b i))))
def an_cn (n : Nat) (kd : Nat → Nat) (a b kp us em fi : Nat → Int32) (rt : Nat) (S : Nat → Int32) : Prop := ms_le 1024 (S rt) ∧ ∀ i, i < n → us i = 1 → an_cn1 kd a b kp em fi S i
/-- the fixed part of the class's memory while it compiles -/
def an_X (M : mm_M) (n : Nat) (kd : Nat → Nat) (a b kp : Nat → Int32) (rt : Nat) : Prop := M 1 5 = nI n ∧ (∀ i, i < n → M 2 i = nI (kd i) ∧ M 3 i = a i ∧ M 4 i = b i) ∧ (∀ r, r < 8 → M 13 r = kp r) ∧ M 7 7 = nI rt
theorem an_X_fr {R : Nat} (hR : R ≠ 1 ∧ R ≠ 2 ∧ R ≠ 3 ∧ R ≠ 4 ∧ R ≠ 13) {M M' : mm_M} {n : Nat} {kd : Nat → Nat} {a b kp : Nat → Int32} {rt : Nat} (hf : an_fr R M M') (h : an_X M n kd a b kp rt) : an_X M' n kd a b kp rt := by
  obtain ⟨h1, h2, h3, h4, h5⟩ := hR
  obtain ⟨q1, q2, q3, q4⟩ := h
  refine ⟨by rw [hf.1 1 (Ne.symm h1) (by decide)]; exact q1, fun i hi => ?_, fun r hr => by rw [hf.1 13 (Ne.symm h5) (by decide)]; exact q3 r hr, by rw [hf.2 7 (by decide)]; exact q4⟩
  rw [hf.1 2 (Ne.symm h2) (by decide), hf.1 3 (Ne.symm h3) (by decide), hf.1 4 (Ne.symm h4) (by decide)]
  exact q2 i hi
theorem an_fr_tr {R : Nat} {M M' M'' : mm_M} (h1 : an_fr R M M') (h2 : an_fr R M' M'') : an_fr R M M'' := ⟨fun k a b => (h2.1 k a b).trans (h1.1 k a b), fun j a => (h2.2 j a).trans (h1.2 j a)⟩
