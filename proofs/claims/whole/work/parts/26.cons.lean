theorem an_cu_1 (n : Nat) (kd : Nat → Nat) (a b kp : Nat → Int32) (rt : Nat) : an_cu n kd a b kp rt (fun _ => 1) := ⟨ms_rf 1, fun _ _ _ => ⟨fun _ => ms_rf 1, fun _ => ms_rf 1, fun _ _ => ms_rf 1⟩⟩
theorem an_cu_01 {n : Nat} {kd : Nat → Nat} {a b kp : Nat → Int32} {rt : Nat} {f : Nat → Int32} (h : an_low (an_cu n kd a b kp rt) f) {j : Nat} (hj : j < 60) : f j = 0 ∨ f j = 1 := ms_1 (h _ (an_cu_1 n kd a b kp rt) j hj)
theorem an_ce_1 (n : Nat) (kd : Nat → Nat) (a b kp us : Nat → Int32) : an_ce n kd a b kp us (fun _ => 1) := fun _ _ _ _ => ms_rf 1
theorem an_ce_01 {n : Nat} {kd : Nat → Nat} {a b kp us : Nat → Int32} {f : Nat → Int32} (h : an_low (an_ce n kd a b kp us) f) {j : Nat} (hj : j < 60) : f j = 0 ∨ f j = 1 := ms_1 (h _ (an_ce_1 n kd a b kp us) j hj)
/-- used nodes below n only -/
theorem an_cu_n {n : Nat} {kd lv : Nat → Nat} {a b kp : Nat → Int32} {rt : Nat} {f : Nat → Int32} (hW : st_wf n kd lv a b kp) (hr : rt < n) (h : an_low (an_cu n kd a b kp rt) f) {j : Nat} (hj : j < 60) : f j = 0 ∨ (f j = 1 ∧ j < n) := by
  have hn := hW.1
  have hc : an_cu n kd a b kp rt (fun i => if i < n then 1 else 0) := by
    have hp : ∀ q, q < n → ms_le 1 ((fun i : Nat => if i < n then (1 : Int32) else 0) q) := fun q hq => by simp only [if_pos hq]; exact ms_rf 1
    refine ⟨hp rt hr, fun i hi _ => ?_⟩
    obtain ⟨-, -, -, h1, h2, -, h3, -⟩ := hW.2.1 i hi
    refine ⟨fun q => ?_, fun q => ?_, fun q q2 => ?_⟩
    · obtain ⟨j, hj, e, -⟩ := h1 q
      rw [e, an_oI (by omega)]; exact hp _ (by omega)
    · obtain ⟨j, hj, e, -⟩ := h2 q
      rw [e, an_oI (by omega)]; exact hp _ (by omega)
    · obtain ⟨r, hr, e⟩ := h3 q
      rw [e, an_oI (by omega)] at q2 ⊢
      rcases hW.2.2 r hr with h | ⟨j, hj, e⟩
      · exact absurd h q2
      · rw [e, an_oI (by omega)]; exact hp _ hj
  have h1 := h _ hc j hj
  by_cases hjn : j < n
  · simp only [if_pos hjn] at h1
    rcases ms_1 h1 with h | h
    · exact Or.inl h
    · exact Or.inr ⟨h, hjn⟩
  · simp only [if_neg hjn] at h1
    exact Or.inl (ms_le0 h1)
