/-! THE CLASS'S PARSER: its memory and the state of pv_ -/
def px_rep (M : mm_M) (s : pv_S) : Prop := M 20 4 = nI s.1 ∧ M 20 6 = nI s.2.1 ∧ M 16 4 = nI s.2.2.1 ∧ M 16 3 = pv_op s ∧ ∀ i, i < s.2.2.1 → M 17 i = s.2.2.2.1 i ∧ M 18 i = s.2.2.2.2.1 i ∧ M 19 i = s.2.2.2.2.2.1 i
def px_fr (M M' : mm_M) : Prop := ∀ k, k < 16 ∨ 20 < k → M' k = M k
def px_D (M : mm_M) (P : pv_D) (u : Nat → Prop) (z : Nat) (em fi nx us : Nat → Int32) : Prop :=
  M 14 1 = nI z ∧ (∀ q, q < z → M 15 q = nI (pv_tk P q)) ∧ (∀ i, i < 60 → M 8 i = us i ∧ M 10 i = em i ∧ M 11 i = fi i ∧ M 12 i = nx i) ∧
  ∀ n, u n → n < 60 ∧ M 2 n = nI (pv_kd P n) ∧ (st_nl (pv_kd P n) = true → M 3 n = nI (pv_oa P n)) ∧ (st_nr (pv_kd P n) = true → M 4 n = nI (pv_ob P n)) ∧ (pv_kd P n = 0 → M 3 n = nI (pv_oa P n)) ∧ (pv_kd P n = 1 → ∃ r, r < 8 ∧ M 3 n = nI r ∧ M 13 r = nI (pv_oc P n)) ∧ (pv_kd P n = 8 → M 3 n = pv_la P n) ∧ pv_s3 P n = st_sta em fi nx n ∧ pv_s4 P n = fi n
theorem px_D_fr {M M' : mm_M} {P : pv_D} {u : Nat → Prop} {z : Nat} {em fi nx us : Nat → Int32} (hf : px_fr M M') (h : px_D M P u z em fi nx us) : px_D M' P u z em fi nx us := by
  unfold px_D at h ⊢
  rw [hf 14 (by omega), hf 15 (by omega), hf 8 (by omega), hf 10 (by omega), hf 11 (by omega), hf 12 (by omega), hf 2 (by omega), hf 3 (by omega), hf 4 (by omega), hf 13 (by omega)]
  exact h
theorem px_fr_rf (M : mm_M) : px_fr M M := fun _ _ => rfl
theorem px_fr_tr {M M' M'' : mm_M} (h1 : px_fr M M') (h2 : px_fr M' M'') : px_fr M M'' := fun k h => (h2 k h).trans (h1 k h)
theorem px_fr_up {M : mm_M} {q j : Nat} {x : Int32} (hq : 16 ≤ q ∧ q ≤ 20) : px_fr M (mm_up M q j x) := fun k hk => by
  have : k ≠ q := by omega
  simp [mm_up, this]
def px_ff (M M' : mm_M) : Prop := ∀ k, k ≠ 16 → k ≠ 17 → k ≠ 18 → k ≠ 19 → M' k = M k
theorem px_ff_fr {M M' : mm_M} (h : px_ff M M') : px_fr M M' := fun k hk => h k (by omega) (by omega) (by omega) (by omega)
def px_mm (M : mm_M) (t : Nat) (L : Int32) (p : Nat) : mm_M := mm_up (mm_up (mm_up (mm_up M 17 t L) 18 t 0) 19 t (nI p)) 16 4 (nI (t + 1))
theorem px_mm_ff (M : mm_M) (t : Nat) (L : Int32) (p : Nat) : px_ff M (px_mm M t L p) := fun k h1 h2 h3 h4 => by simp [px_mm, mm_up, h1, h2, h3, h4]
theorem px_mm17 (M : mm_M) (t : Nat) (L : Int32) (p i : Nat) : px_mm M t L p 17 i = if i = t then L else M 17 i := by simp [px_mm, mm_up, upd]
theorem px_mm18 (M : mm_M) (t : Nat) (L : Int32) (p i : Nat) : px_mm M t L p 18 i = if i = t then 0 else M 18 i := by simp [px_mm, mm_up, upd]
theorem px_mm19 (M : mm_M) (t : Nat) (L : Int32) (p i : Nat) : px_mm M t L p 19 i = if i = t then nI p else M 19 i := by simp [px_mm, mm_up, upd]
theorem px_mm16 (M : mm_M) (t : Nat) (L : Int32) (p i : Nat) : px_mm M t L p 16 i = if i = 4 then nI (t + 1) else M 16 i := by simp [px_mm, mm_up, upd]
theorem px_mm20 (M : mm_M) (t : Nat) (L : Int32) (p i : Nat) : px_mm M t L p 20 i = M 20 i := by simp [px_mm, mm_up]
theorem px_add0 {M : mm_M} {s : pv_S} {L : Int32} (h : px_rep M s) (ho : pv_op s = -1) : px_rep (px_mm M s.2.2.1 L s.1) (pv_add L s) := by
  obtain ⟨h1, h2, h3, h4, h5⟩ := h
  refine ⟨by rw [px_mm20]; exact h1, by rw [px_mm20]; exact h2, by rw [px_mm16, if_pos rfl]; rfl, by rw [px_mm16, if_neg (by decide)]; exact h4, fun i hi => ?_⟩
  have hi' : i < s.2.2.1 + 1 := hi
  rw [px_mm17, px_mm18, px_mm19]
  show _ = upd s.2.2.2.1 s.2.2.1 L i ∧ _ = pv_pa s i ∧ _ = upd s.2.2.2.2.2.1 s.2.2.1 (nI s.1) i
  unfold pv_pa
  rw [if_pos ho]
  by_cases e : i = s.2.2.1
  · simp [upd, e]
  · obtain ⟨q1, q2, q3⟩ := h5 i (by omega)
    simp [upd, e, q1, q2, q3]
theorem px_add1 {M : mm_M} {s : pv_S} {L : Int32} {j : Nat} (h : px_rep M s) (hj : j < s.2.2.1) (hn : s.2.2.1 ≤ 90) (ho : pv_op s = nI j) : px_rep (mm_up (px_mm M s.2.2.1 L s.1) 18 j (px_mm M s.2.2.1 L s.1 18 j + 1)) (pv_add L s) := by
  obtain ⟨h1, h2, h3, h4, h5⟩ := h
  have hne : pv_op s ≠ -1 := by rw [ho]; exact fun e => absurd (by rw [e]; decide : nI j < 0) (nI_pos (by omega))
  have u : ∀ k, k ≠ 18 → mm_up (px_mm M s.2.2.1 L s.1) 18 j (px_mm M s.2.2.1 L s.1 18 j + 1) k = px_mm M s.2.2.1 L s.1 k := mm_up_ne
  have u18 : ∀ i, mm_up (px_mm M s.2.2.1 L s.1) 18 j (px_mm M s.2.2.1 L s.1 18 j + 1) 18 i = if i = j then px_mm M s.2.2.1 L s.1 18 j + 1 else px_mm M s.2.2.1 L s.1 18 i := fun i => by rw [mm_up_at]; rfl
  refine ⟨by rw [u 20 (by decide), px_mm20]; exact h1, by rw [u 20 (by decide), px_mm20]; exact h2, by rw [u 16 (by decide), px_mm16, if_pos rfl]; rfl, by rw [u 16 (by decide), px_mm16, if_neg (by decide)]; exact h4, fun i hi => ?_⟩
  have hi' : i < s.2.2.1 + 1 := hi
  rw [u 17 (by decide), u 19 (by decide), u18, px_mm17, px_mm18, px_mm18, px_mm19]
  show _ = upd s.2.2.2.1 s.2.2.1 L i ∧ _ = pv_pa s i ∧ _ = upd s.2.2.2.2.2.1 s.2.2.1 (nI s.1) i
  unfold pv_pa
  rw [if_neg hne, ho, an_oI (by omega)]
  have hjt : ¬ j = s.2.2.1 := by omega
  obtain ⟨-, p2, -⟩ := h5 j hj
  by_cases e : i = s.2.2.1
  · subst e
    have : ¬ s.2.2.1 = j := by omega
    simp [upd, this]
  · obtain ⟨q1, q2, q3⟩ := h5 i (by omega)
    by_cases ej : i = j
    · subst ej
      simp [upd, e, q1, p2, q3]
    · simp [upd, e, ej, q1, q2, q3]
def px_b (sc : Bool) : Int32 := match sc with
  | true => 1
  | false => 0
/-- the contract of visit, with fuel N -/
def px_VC (P : pv_D) (lv : Nat → Nat) (u : Nat → Prop) (z : Nat) (em fi nx us : Nat → Int32) (V : pv_V) (N : Nat) : Prop := ∀ (d n c : Nat) (sc : Bool) (M : mm_M) (s : pv_S) (Q : mm_Qt), px_D M P u z em fi nx us → px_rep M s → pv_ok z s → u n → c ≤ 6 → 1500 ≤ s.2.1 + N → 4 * lv n + 24 * (6 - c) + 4 ≤ d →
  (∀ M', px_fr M M' → px_rep M' (V n c sc s).2.2 → M' 20 5 = (if (V n c sc s).1 = -6 ∧ sc = false then (V n c sc s).2.1 else M 20 5) → Q (some (.inl (V n c sc s).1)) M') → mm_Ev pg ly d 54 [.inr 20, .inl (nI n), .inl (nI c), .inl (px_b sc)] M Q
def px_post (Q : mm_Qt) (M : mm_M) (sc : Bool) (r : pv_R) : Prop := ∀ M', px_fr M M' → px_rep M' r.2.2 → M' 20 5 = (if r.1 = -6 ∧ sc = false then r.2.1 else M 20 5) → Q (some (.inl r.1)) M'
def px_post2 (Q : mm_Qt) (M : mm_M) (r : Int32 × pv_S) : Prop := ∀ M', px_fr M M' → px_rep M' r.2 → M' 20 5 = M 20 5 → Q (some (.inl r.1)) M'
def px_try (V : pv_V) (m c : Nat) (s : pv_S) : Int32 × pv_S := if (V m c true s).1 = -8 then (-8, (V m c true s).2.2) else (if (V m c true s).1 = 0 then 1 else 0, (s.1, (V m c true s).2.2.2))
