/-! A PARSE, whole -/
def pv_s0 : pv_S := (0, 0, 0, fun _ => 0, fun _ => 0, fun _ => 0, -1)
def pv_run (P : pv_D) (rt : Nat) : pv_R := pv_vis P 1500 rt 0 false pv_s0
def pv_err (P : pv_D) (rt : Nat) : Int32 := if (pv_run P rt).1 = 0 then (if pv_tk P (pv_run P rt).2.2.1 = 10 then 0 else -6) else (pv_run P rt).1
def pv_due (P : pv_D) (rt : Nat) : Int32 := if (pv_run P rt).1 = 0 then (if pv_tk P (pv_run P rt).2.2.1 = 10 then -10 else 10) else if (pv_run P rt).1 = -6 then (pv_run P rt).2.1 else -10
def pv_tn (P : pv_D) (rt : Nat) : Nat := if pv_err P rt = 0 then (pv_run P rt).2.2.2.2.1 else 0
theorem pv_s0_ok (z : Nat) : pv_ok z pv_s0 := ⟨Nat.zero_le _, Nat.zero_le _, Nat.zero_le _, Or.inl rfl⟩
/-- what the class holds behind a parse -/
def px_res (M : mm_M) (P : pv_D) (rt : Nat) : Prop := M 20 4 = nI (pv_run P rt).2.2.1 ∧ M 20 5 = pv_due P rt ∧ M 20 6 = nI (pv_run P rt).2.2.2.1 ∧ M 16 4 = nI (pv_tn P rt) ∧ ∀ i, i < pv_tn P rt → M 17 i = (pv_run P rt).2.2.2.2.2.1 i ∧ M 18 i = (pv_run P rt).2.2.2.2.2.2.1 i ∧ M 19 i = (pv_run P rt).2.2.2.2.2.2.2.1 i
