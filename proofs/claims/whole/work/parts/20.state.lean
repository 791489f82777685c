/-! THE STATE. Class: region 1 Grammar (5 size), 2 kind, 3 left, 4 right, 5 rules, 6 level; 7 Analysis (7 rootNode, 8 compiled, 9 changed), 8 used, 9 comesTo, 10 emptyable, 11 first, 12 next, 13 rules kept; 14 Input (1 length), 15 tokens; 16 Forest (3 open, 4 size), 17 labels, 18 parts, 19 places; 20 Parser (4 place, 5 due, 6 steps).
Reference: 21 (0 nodes, 1 size, 2 root, 3 usedNodes, 4 error, 5 place, 6 due, 7 steps, 8 calls, 9 trees, 10 inner, 11 lastSteps, 12 lastPlace, 13 lastDue, 14 lastTrees), 22 kind, 23 opA, 24 opB, 25 level, 26 ruleOf, 27 kept, 28 used, 29 empty, 30 first, 31 next, 32 comes, 33 input, 34 under, 35 phase, 36 tree, 37 label, 38 parts, 39 begins, 40 around. -/
def st_nl (k : Nat) : Bool := k == 2 || k == 3 || k == 4 || k == 5 || k == 7
def st_nr (k : Nat) : Bool := k == 2 || k == 3 || k == 7 || k == 8
/-- a grammar of n nodes: kinds, levels, operands; the rules -/
def st_wf (n : Nat) (kd lv : Nat → Nat) (a b ru : Nat → Int32) : Prop :=
  n ≤ 60 ∧ (∀ i, i < n → kd i < 9 ∧ 1 ≤ lv i ∧ lv i ≤ 6 ∧ (st_nl (kd i) = true → ∃ j, j < i ∧ a i = nI j ∧ lv j < lv i) ∧ (st_nr (kd i) = true → ∃ j, j < i ∧ b i = nI j ∧ lv j < lv i) ∧
    (kd i = 0 → ∃ j, j < 10 ∧ a i = nI j) ∧ (kd i = 1 → ∃ j, j < 8 ∧ a i = nI j) ∧ (kd i = 8 → ∃ j, j < 16 ∧ a i = nI j)) ∧
  ∀ r, r < 8 → ru r = -1 ∨ ∃ j, j < n ∧ ru r = nI j
/-- the class holds it -/
def st_gX (M : mm_M) (n : Nat) (kd lv : Nat → Nat) (a b ru : Nat → Int32) : Prop := M 1 5 = nI n ∧ (∀ i, i < n → M 2 i = nI (kd i) ∧ M 3 i = a i ∧ M 4 i = b i ∧ M 6 i = nI (lv i)) ∧ ∀ r, r < 8 → M 5 r = ru r
/-- the reference holds it -/
def st_gM (M : mm_M) (n : Nat) (kd lv : Nat → Nat) (a b ru : Nat → Int32) : Prop := M 21 0 = nI n ∧ (∀ i, i < n → M 22 i = nI (kd i) ∧ M 23 i = a i ∧ M 24 i = b i ∧ M 25 i = nI (lv i)) ∧ ∀ r, r < 8 → M 26 r = ru r
def st_in (m : Nat) (x : Int32) : Prop := ∃ j, j < m ∧ x = nI j
/-- the left operand fits the kind -/
def st_lf (n k : Nat) (a : Int32) : Prop := st_in (if k = 0 then 10 else if k = 1 then 8 else if k = 8 then 16 else n) a ∨ k = 6
def st_rf (n k : Nat) (b : Int32) : Prop := st_nr k = true → st_in n b
def st_l (lv : Nat → Nat) (u : Bool) (x : Int32) : Nat := if u then lv x.toNatClampNeg else 0
/-- the level that such a node would have -/
def st_lev (lv : Nat → Nat) (k : Nat) (a b : Int32) : Nat := max (st_l lv (st_nl k) a) (st_l lv (st_nr k) b) + 1
/-- such a node may be made -/
def st_ok (n : Nat) (lv : Nat → Nat) (x a b : Int32) : Prop := ∃ k, k < 9 ∧ x = nI k ∧ st_lf n k a ∧ st_rf n k b ∧ st_lev lv k a b ≤ 6
theorem st_in_of {m : Nat} {x : Int32} (hm : m < 2 ^ 31) (h1 : ¬ x < 0) (h2 : ¬ nI m ≤ x) : ∃ j, j < m ∧ x = nI j := by
  rcases pk_ix x hm with h | h | h
  · exact absurd h h1
  · exact absurd h h2
  · exact h
theorem st_in_no {m : Nat} {x : Int32} (hm : m < 2 ^ 31) (h : x < 0 ∨ nI m ≤ x) : ¬ st_in m x := by
  rintro ⟨j, hj, rfl⟩
  rcases h with h | h
  · exact nI_pos (by omega) h
  · exact nI_ge hj hm h
theorem st_k9 {k : Nat} (h : k < 9) : k = 0 ∨ k = 1 ∨ k = 2 ∨ k = 3 ∨ k = 4 ∨ k = 5 ∨ k = 6 ∨ k = 7 ∨ k = 8 := by omega
theorem st_ix {m : Nat} {x : Int32} (hm : m < 2 ^ 31) (h : st_in m x) : vp_in x m := by
  obtain ⟨j, hj, rfl⟩ := h
  exact vp_in_nI hj hm
theorem st_cl {j : Nat} (h : j < 2 ^ 31) : (nI j).toNatClampNeg = j := nI_clamp h
theorem st_nIe {a b : Nat} (ha : a < 2 ^ 31) (hb : b < 2 ^ 31) (h : nI a = nI b) : a = b := (nI_eq ha hb).mp h
theorem st_mx {p q : Nat} (hp : p < 100) (hq : q < 100) : (if nI p < nI q then nI q else nI p) + 1 = nI (max p q + 1) := by
  by_cases h : p < q
  · rw [if_pos (nI_lt h (by omega)), nI_1, Nat.max_eq_right (by omega)]
  · rw [if_neg (nI_nlt (by omega) (by omega)), nI_1, Nat.max_eq_left (by omega)]
theorem st_ok_k {n : Nat} {lv : Nat → Nat} {k : Nat} {a b : Int32} (hk : k < 9) (h : st_ok n lv (nI k) a b) : st_lf n k a ∧ st_rf n k b ∧ st_lev lv k a b ≤ 6 := by
  obtain ⟨k', hk', e, h⟩ := h
  have := st_nIe (by omega) (by omega) e
  subst this
  exact h
theorem st_le {a : Nat} (c : Int32) (b : Nat) (hc : c = nI b) (ha : a < 2 ^ 31) (hb : b < 2 ^ 31) : nI a ≤ c ↔ a ≤ b := by subst hc; exact nI_leI ha hb
theorem st_lt {a : Nat} (c : Int32) (b : Nat) (hc : c = nI b) (ha : a < 2 ^ 31) (hb : b < 2 ^ 31) : nI a < c ↔ a < b := by subst hc; exact nI_ltI ha hb
theorem st_eq {a : Nat} (c : Int32) (b : Nat) (hc : c = nI b) (ha : a < 2 ^ 31) (hb : b < 2 ^ 31) : nI a = c ↔ a = b := by subst hc; exact nI_eq ha hb
def st_mkX (M : mm_M) (n : Nat) (x a b : Int32) (l : Nat) : mm_M := mm_up (mm_up (mm_up (mm_up (mm_up M 2 n x) 3 n a) 4 n b) 6 n (nI l)) 1 5 (nI (n + 1))
def st_mkM (M : mm_M) (n : Nat) (x a b : Int32) (l : Nat) : mm_M := mm_up (mm_up (mm_up (mm_up (mm_up M 22 n x) 23 n a) 24 n b) 25 n (nI l)) 21 0 (nI (n + 1))
theorem st_nlt {a : Nat} {c : Int32} (b : Nat) (h : ¬ nI a < c) (hc : c = nI b) (ha : a < 2 ^ 31) (hb : b < 2 ^ 31) : b ≤ a := Nat.not_lt.mp (fun z => h ((st_lt c b hc ha hb).mpr z))
theorem st_nle {a : Nat} {c : Int32} (b : Nat) (h : ¬ nI a ≤ c) (hc : c = nI b) (ha : a < 2 ^ 31) (hb : b < 2 ^ 31) : b < a := Nat.not_le.mp (fun z => h ((st_le c b hc ha hb).mpr z))
theorem st_ne {a : Nat} {c : Int32} (b : Nat) (h : ¬ nI a = c) (hc : c = nI b) (ha : a < 2 ^ 31) (hb : b < 2 ^ 31) : a ≠ b := fun z => h ((st_eq c b hc ha hb).mpr z)
