/-! WHAT IS COMPILED: c whether; the root's node, used nodes, emptyable ones, FIRST, NEXT, the rules kept -/
/-- used nodes are closed -/
def st_us (n : Nat) (kd : Nat → Nat) (a b kp us : Nat → Int32) (rt : Nat) : Prop :=
  rt < n ∧ us rt = 1 ∧ (∀ i, i < 60 → us i = 0 ∨ (us i = 1 ∧ i < n)) ∧ ∀ i, i < n → us i = 1 →
    (st_nl (kd i) = true → ∃ j, j < i ∧ a i = nI j ∧ us j = 1) ∧ (st_nr (kd i) = true → ∃ j, j < i ∧ b i = nI j ∧ us j = 1) ∧ (kd i = 1 → ∃ r j, r < 8 ∧ a i = nI r ∧ j < n ∧ kp r = nI j ∧ us j = 1)
def st_01 (em : Nat → Int32) : Prop := ∀ i, i < 60 → em i = 0 ∨ em i = 1
def st_num (p : Nat → Bool) : Nat → Nat
  | 0 => 0
  | m + 1 => st_num p m + (if p m then 1 else 0)
theorem st_num_le (p : Nat → Bool) : ∀ m, st_num p m ≤ m := by
  intro m
  induction m with
  | zero => exact Nat.le_refl _
  | succ m ih => simp only [st_num]; split <;> omega
theorem st_num_y {p : Nat → Bool} {m : Nat} (h : p m = true) : st_num p (m + 1) = st_num p m + 1 := by simp [st_num, h]
theorem st_num_n {p : Nat → Bool} {m : Nat} (h : p m = false) : st_num p (m + 1) = st_num p m := by simp [st_num, h]
/-- START of a node -/
def st_sta (em fi nx : Nat → Int32) (j : Nat) : Int32 := if em j = 0 then fi j else fi j ||| nx j
def st_cla (kd : Nat → Nat) (a b em fi nx : Nat → Int32) (i : Nat) : Int32 :=
  if kd i = 3 then st_sta em fi nx (a i).toNatClampNeg &&& st_sta em fi nx (b i).toNatClampNeg else if kd i = 4 ∨ kd i = 5 then fi (a i).toNatClampNeg &&& nx i else 0
def st_uq (c : Bool) (us : Nat → Int32) (i : Nat) : Bool := c && decide (us i = 1)
def st_cq (c : Bool) (kd : Nat → Nat) (a b us em fi nx : Nat → Int32) (i : Nat) : Bool := c && decide (us i = 1) && !decide (st_cla kd a b em fi nx i = 0)
/-- what the class holds of it -/
def st_CX (M : mm_M) (c : Bool) (us em fi nx kp : Nat → Int32) (rt : Nat) : Prop := M 7 8 = (if c then 1 else 0) ∧ (c = true → M 7 7 = nI rt ∧ (∀ i, i < 60 → M 8 i = us i ∧ M 10 i = em i ∧ M 11 i = fi i ∧ M 12 i = nx i) ∧ ∀ r, r < 8 → M 13 r = kp r)
/-- what the reference holds of it -/
def st_CM (M : mm_M) (c : Bool) (n : Nat) (us em fi nx kp : Nat → Int32) (rt : Nat) : Prop := (c = false → M 21 2 = -1) ∧ M 21 3 = nI (st_num (st_uq c us) n) ∧ (c = true → M 21 2 = nI rt ∧ (∀ i, i < 60 → M 28 i = us i ∧ M 29 i = em i ∧ M 30 i = fi i ∧ M 31 i = nx i) ∧ ∀ r, r < 8 → M 27 r = kp r)
/-- it is as it must be -/
def st_cok (c : Bool) (n : Nat) (kd : Nat → Nat) (a b kp us em : Nat → Int32) (rt : Nat) : Prop := c = true → st_us n kd a b kp us rt ∧ st_01 em
def st_cv (c : Bool) (n : Nat) (us : Nat → Int32) (x : Int32) : Prop := c = true ∧ ∃ j, j < n ∧ x = nI j ∧ us j = 1
theorem st_cv_i {c : Bool} {n : Nat} {us : Nat → Int32} {i : Nat} (hn : n ≤ 60) (hi : i < n) (h : st_cv c n us (nI i)) : us i = 1 := by
  obtain ⟨-, j, hj, e, hu⟩ := h
  have := st_nIe (by omega) (by omega) e
  subst this
  exact hu
