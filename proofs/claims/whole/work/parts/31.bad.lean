/-! WHAT COMPILING ANSWERS -/
def an_rc (kp cm : Nat → Int32) (r : Nat) : Prop := ¬ cm (an_o (kp r)) &&& ((1 : Int32) <<< (nI r &&& 31)) = 0
def an_U (n : Nat) (kd : Nat → Nat) (a kp us : Nat → Int32) : Prop := ∃ i, i < n ∧ us i = 1 ∧ kd i = 1 ∧ kp (an_o (a i)) = -1
def an_R (n : Nat) (kd : Nat → Nat) (a kp us cm : Nat → Int32) (r : Nat) : Prop := an_rc kp cm r ∨ ∃ i, i < n ∧ us i = 1 ∧ kd i = 1 ∧ an_rc kp cm (an_o (a i))
def an_E (n : Nat) (kd : Nat → Nat) (a us em : Nat → Int32) : Prop := ∃ i, i < n ∧ us i = 1 ∧ kd i = 5 ∧ ¬ em (an_o (a i)) = 0
/-- the regions that compiling may change stay apart -/
def an_cfr (M M' : mm_M) : Prop := ∀ k, k < 7 ∨ 13 < k → M' k = M k
theorem an_cfr_rf (M : mm_M) : an_cfr M M := fun _ _ => rfl
theorem an_cfr_tr {M M' M'' : mm_M} (h1 : an_cfr M M') (h2 : an_cfr M' M'') : an_cfr M M'' := fun k h => (h2 k h).trans (h1 k h)
theorem an_cfr_fr {R : Nat} (hR : 7 ≤ R ∧ R ≤ 13) {M M' : mm_M} (h : an_fr R M M') : an_cfr M M' := fun k hk => h.1 k (by omega) (by omega)
theorem an_cfr_up {M : mm_M} {q j : Nat} {x : Int32} (hq : 7 ≤ q ∧ q ≤ 13) : an_cfr M (mm_up M q j x) := fun k hk => by
  have : k ≠ q := by omega
  simp [mm_up, this]
/-- used nodes of a least set, with no undefined call, are closed -/
theorem an_us_of {n : Nat} {kd lv : Nat → Nat} {a b kp us : Nat → Int32} {rt : Nat} (hW : st_wf n kd lv a b kp) (hr : rt < n) (h : an_lst (an_cu n kd a b kp rt) us) (hU : ¬ an_U n kd a kp us) : st_us n kd a b kp us rt := by
  have hn := hW.1
  have h1 : ∀ j, j < 60 → ms_le 1 (us j) → us j = 1 := fun j hj q => (an_cu_01 h.2 hj).resolve_left (ms_1n0 q)
  refine ⟨hr, h1 rt (by omega) h.1.1, fun i hi => an_cu_n hW hr h.2 hi, fun i hi hu => ?_⟩
  obtain ⟨c1, c2, c3⟩ := h.1.2 i hi (by rw [hu]; exact ms_rf 1)
  obtain ⟨-, -, -, w1, w2, -, w3, -⟩ := hW.2.1 i hi
  refine ⟨fun q => ?_, fun q => ?_, fun q => ?_⟩
  · obtain ⟨j, hj, e, -⟩ := w1 q
    have := c1 q
    rw [e, an_oI (by omega)] at this
    exact ⟨j, hj, e, h1 j (by omega) this⟩
  · obtain ⟨j, hj, e, -⟩ := w2 q
    have := c2 q
    rw [e, an_oI (by omega)] at this
    exact ⟨j, hj, e, h1 j (by omega) this⟩
  · obtain ⟨r, hr, e⟩ := w3 q
    have hne : kp r ≠ -1 := fun z => hU ⟨i, hi, hu, q, by rw [e, an_oI (by omega)]; exact z⟩
    obtain ⟨j, hj, ej⟩ := (hW.2.2 r hr).resolve_left hne
    have := c3 q (by rw [e, an_oI (by omega)]; exact hne)
    rw [e, an_oI (by omega), ej, an_oI (by omega)] at this
    exact ⟨r, j, hr, e, hj, ej, h1 j (by omega) this⟩
