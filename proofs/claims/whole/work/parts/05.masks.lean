/-! masks: sets of small numbers as ints -/
def ms_le (x y : Int32) : Prop := x ||| y = y
theorem ms_rf (x : Int32) : ms_le x x := Int32.or_self
theorem ms_tr {x y z : Int32} (h1 : ms_le x y) (h2 : ms_le y z) : ms_le x z := by
  unfold ms_le at *
  rw [← h2, ← Int32.or_assoc, h1]
theorem ms_an {x y : Int32} (h1 : ms_le x y) (h2 : ms_le y x) : x = y := by
  unfold ms_le at *
  rw [← h1, Int32.or_comm, h2]
theorem ms_or {x y z : Int32} (h1 : ms_le x z) (h2 : ms_le y z) : ms_le (x ||| y) z := by
  unfold ms_le at *
  rw [Int32.or_assoc, h2, h1]
theorem ms_oL (x y : Int32) : ms_le x (x ||| y) := by
  unfold ms_le
  rw [← Int32.or_assoc, Int32.or_self]
theorem ms_oR (x y : Int32) : ms_le y (x ||| y) := by
  rw [Int32.or_comm]; exact ms_oL y x
theorem ms_0 (x : Int32) : ms_le 0 x := by
  unfold ms_le
  rw [Int32.or_comm, Int32.or_zero]
theorem ms_oo {x x' y y' : Int32} (h1 : ms_le x x') (h2 : ms_le y y') : ms_le (x ||| y) (x' ||| y') := ms_or (ms_tr h1 (ms_oL _ _)) (ms_tr h2 (ms_oR _ _))
theorem ms_orE {x y z : Int32} (h : ms_le (x ||| y) z) : ms_le x z ∧ ms_le y z := ⟨ms_tr (ms_oL _ _) h, ms_tr (ms_oR _ _) h⟩
/-- the bits below 32 of a mask -/
def ms_b (x : Int32) (i : Nat) : Bool := x.toBitVec.getLsbD i
theorem ms_bor (x y : Int32) (i : Nat) : ms_b (x ||| y) i = (ms_b x i || ms_b y i) := by simp [ms_b]
theorem ms_ext {x y : Int32} (h : ∀ i, i < 32 → ms_b x i = ms_b y i) : x = y := by
  apply Int32.toBitVec_inj.mp
  exact BitVec.eq_of_getLsbD_eq (fun i hi => h i hi)
/-- how many of the bits below n are set -/
def ms_c (x : Int32) : Nat → Nat
  | 0 => 0
  | n + 1 => ms_c x n + (ms_b x n).toNat
theorem ms_c_le (x : Int32) : ∀ n, ms_c x n ≤ n := by
  intro n
  induction n with
  | zero => exact Nat.le_refl _
  | succ n ih =>
    have := Bool.toNat_le (ms_b x n)
    simp only [ms_c]; omega
theorem ms_c_mono {x y : Int32} (h : ms_le x y) : ∀ n, ms_c x n ≤ ms_c y n := by
  intro n
  induction n with
  | zero => exact Nat.le_refl _
  | succ n ih =>
    have h1 : ms_b y n = (ms_b x n || ms_b y n) := by rw [← ms_bor, h]
    have h2 : (ms_b x n).toNat ≤ (ms_b y n).toNat := by
      cases hx : ms_b x n
      · simp
      · rw [hx] at h1; simp at h1; rw [h1]; exact Nat.le_refl _
    simp only [ms_c]; omega
theorem ms_c_lt {x y : Int32} (h : ms_le x y) (hne : x ≠ y) : ms_c x 32 < ms_c y 32 := by
  have key : ∀ n, ms_c x n < ms_c y n ∨ ∀ i, i < n → ms_b x i = ms_b y i := by
    intro n
    induction n with
    | zero => exact Or.inr (fun i hi => absurd hi (Nat.not_lt_zero _))
    | succ n ih =>
      have h1 : ms_b y n = (ms_b x n || ms_b y n) := by rw [← ms_bor, h]
      have h2 : (ms_b x n).toNat ≤ (ms_b y n).toNat := by
        cases hx : ms_b x n
        · simp
        · rw [hx] at h1; simp at h1; rw [h1]; exact Nat.le_refl _
      rcases ih with ih | ih
      · left; simp only [ms_c]; omega
      · by_cases hb : ms_b x n = ms_b y n
        · right
          intro i hi
          rcases Nat.lt_or_ge i n with q | q
          · exact ih i q
          · have : i = n := by omega
            subst this; exact hb
        · left
          have hm := ms_c_mono h n
          have h3 : (ms_b x n).toNat < (ms_b y n).toNat := by
            cases hx : ms_b x n <;> cases hy : ms_b y n <;> simp_all
          simp only [ms_c]; omega
  rcases key 32 with h1 | h1
  · exact h1
  · exact absurd (ms_ext h1) hne
