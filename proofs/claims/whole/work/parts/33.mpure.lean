/-! THE REFERENCE'S WAY: the flag is an answer -/
theorem mm_up_same (M : mm_M) (k j : Nat) : mm_up M k j (M k j) = M := by
  funext q p
  by_cases h : q = k
  · subst h
    by_cases e : p = j
    · subst e; simp [mm_up, upd]
    · simp [mm_up, upd, e]
  · simp [mm_up, h]
def an_mfr (R : Nat) (M M' : mm_M) : Prop := ∀ k, k ≠ R → M' k = M k
def an_mg (R : Nat) (fl : Int32) (M M' : mm_M) : Prop := (fl = 0 ∧ M' = M) ∨ (fl = 1 ∧ an_cnt (M R) 60 < an_cnt (M' R) 60)
def an_mt (R : Nat) (fl : Int32) (M M' : mm_M) : Prop := an_mfr R M M' ∧ an_mg R fl M M' ∧ ∀ i, ms_le (M R i) (M' R i)
def an_ms (R j : Nat) (v fl : Int32) (M M' : mm_M) : Prop := an_mt R fl M M' ∧ M' R j = M R j ||| v ∧ ∀ i, i ≠ j → M' R i = M R i
theorem an_mt_01 {R : Nat} {fl : Int32} {M M' : mm_M} (h : an_mt R fl M M') : fl = 0 ∨ fl = 1 := by
  rcases h.2.1 with h | h
  · exact Or.inl h.1
  · exact Or.inr h.1
theorem an_mt_rf (R : Nat) (M : mm_M) : an_mt R 0 M M := ⟨fun _ _ => rfl, Or.inl ⟨rfl, rfl⟩, fun _ => ms_rf _⟩
theorem an_mt_tr {R : Nat} {f1 f2 : Int32} {M M' M'' : mm_M} (h1 : an_mt R f1 M M') (h2 : an_mt R f2 M' M'') : an_mt R (f1 ||| f2) M M'' := by
  obtain ⟨a1, r1, l1⟩ := h1
  obtain ⟨a2, r2, l2⟩ := h2
  refine ⟨fun k h => (a2 k h).trans (a1 k h), ?_, fun i => ms_tr (l1 i) (l2 i)⟩
  rcases r1 with ⟨rfl, rfl⟩ | ⟨rfl, c1⟩ <;> rcases r2 with ⟨rfl, rfl⟩ | ⟨rfl, c2⟩
  · exact Or.inl ⟨by decide, rfl⟩
  · exact Or.inr ⟨by decide, c2⟩
  · exact Or.inr ⟨by decide, c1⟩
  · exact Or.inr ⟨by decide, by omega⟩
theorem an_mt_eq {R : Nat} {f1 f2 : Int32} {M M' M'' : mm_M} (h1 : an_mt R f1 M M') (h2 : an_mt R f2 M' M'') (e : M'' = M) : M' = M := by
  rcases h1.2.1 with h | ⟨-, h⟩
  · exact h.2
  · have := an_cnt_mono 60 (fun i _ => h2.2.2 i)
    rw [e] at this
    omega
theorem an_ms_up {R j : Nat} {v : Int32} {M : mm_M} (hj : j < 60) (hne : M R j ||| v ≠ M R j) : an_ms R j v 1 M (mm_up M R j (M R j ||| v)) := by
  have e1 : ∀ i, mm_up M R j (M R j ||| v) R i = if i = j then M R j ||| v else M R i := by
    intro i
    simp [mm_up, upd]
  have hl : ∀ i, ms_le (M R i) (mm_up M R j (M R j ||| v) R i) := by
    intro i
    rw [e1]
    by_cases h : i = j
    · rw [if_pos h, h]; exact ms_oL _ _
    · rw [if_neg h]; exact ms_rf _
  refine ⟨⟨fun k a => by simp [mm_up, a], Or.inr ⟨rfl, an_cnt_lt 60 (fun i _ => hl i) j hj (by rw [e1, if_pos rfl]; exact Ne.symm hne)⟩, hl⟩, by rw [e1, if_pos rfl], fun i hi => by rw [e1, if_neg hi]⟩
theorem an_ms_no {R j : Nat} {v : Int32} {M : mm_M} (he : M R j ||| v = M R j) : an_ms R j v 0 M (mm_up M R j (M R j ||| v)) := by
  rw [he, mm_up_same]
  exact ⟨an_mt_rf R M, he.symm, fun _ _ => rfl⟩
theorem an_ms_low {Cl : (Nat → Int32) → Prop} {R j : Nat} {v fl : Int32} {M M' : mm_M} (h : an_ms R j v fl M M') (hl : an_low Cl (M R)) (hv : ∀ T, Cl T → ms_le v (T j)) : an_low Cl (M' R) := by
  intro T hT i hi
  by_cases hij : i = j
  · subst hij
    rw [h.2.1]
    exact ms_or (hl T hT i hi) (hv T hT)
  · rw [h.2.2 i hij]
    exact hl T hT i hi
theorem an_ms_v {R j : Nat} {v fl : Int32} {M M' : mm_M} (h : an_ms R j v fl M M') : ms_le v (M' R j) := by
  rw [h.2.1]; exact ms_oR _ _
/-- the fixed part of the reference's memory while it compiles -/
def an_M (M : mm_M) (n : Nat) (kd : Nat → Nat) (a b kp : Nat → Int32) : Prop := M 21 0 = nI n ∧ (∀ i, i < n → M 22 i = nI (kd i) ∧ M 23 i = a i ∧ M 24 i = b i) ∧ ∀ r, r < 8 → M 27 r = kp r
theorem an_M_fr {M M' : mm_M} {n : Nat} {kd : Nat → Nat} {a b kp : Nat → Int32} (h0 : M' 21 0 = M 21 0) (h1 : M' 22 = M 22) (h2 : M' 23 = M 23) (h3 : M' 24 = M 24) (h4 : M' 27 = M 27) (h : an_M M n kd a b kp) : an_M M' n kd a b kp := by
  obtain ⟨q1, q2, q3⟩ := h
  refine ⟨by rw [h0]; exact q1, fun i hi => ?_, fun r hr => by rw [h4]; exact q3 r hr⟩
  rw [h1, h2, h3]; exact q2 i hi
theorem an_M_mt {R : Nat} (hR : 28 ≤ R) {fl : Int32} {M M' : mm_M} {n : Nat} {kd : Nat → Nat} {a b kp : Nat → Int32} (ht : an_mt R fl M M') (h : an_M M n kd a b kp) : an_M M' n kd a b kp :=
  an_M_fr (by rw [ht.1 21 (by omega)]) (ht.1 22 (by omega)) (ht.1 23 (by omega)) (ht.1 24 (by omega)) (ht.1 27 (by omega)) h
theorem an_bg_mono2 {n : Nat} {kd : Nat → Nat} {a b kp us em em' S T : Nat → Int32} {i : Nat} (h : an_ok n kd a b kp us i) (hl : ∀ j, j < 60 → ms_le (S j) (T j)) (he : ∀ j, j < 60 → ms_le (em j) (em' j)) : ms_le (an_bg kd a b kp em S i) (an_bg kd a b kp em' T i) := by
  by_cases k : kd i = 2
  · rw [an_bg2 k, an_bg2 k]
    have h1 := hl _ (an_oa h (by rw [k]; rfl))
    have h2 := hl _ (an_ob h (by rw [k]; rfl))
    have h3 := he _ (an_oa h (by rw [k]; rfl))
    by_cases e : em (an_o (a i)) = 0
    · rw [if_pos e]
      by_cases e' : em' (an_o (a i)) = 0
      · rw [if_pos e']; exact h1
      · rw [if_neg e']; exact ms_tr h1 (ms_oL _ _)
    · rw [if_neg e, if_neg (fun z => e (ms_le0 (by rw [← z]; exact h3)))]
      exact ms_oo h1 h2
  · have e1 : an_bg kd a b kp em S i = an_bg kd a b kp em' S i := by simp only [an_bg, if_neg k]
    rw [e1]
    exact an_bg_mono h hl
/-- looking into all nodes at once: empty (29), first (30), comes (32) -/
def an_c3 (M : mm_M) : Nat := an_cnt (M 29) 60 + an_cnt (M 30) 60 + an_cnt (M 32) 60
/-- each value is below what it would become -/
def an_up (n : Nat) (kd : Nat → Nat) (a b kp us : Nat → Int32) (M : mm_M) : Prop := ∀ i, i < n → us i = 1 → (ms_le 1 (M 29 i) → an_fe kd a b kp (M 29) i) ∧ ms_le (M 30 i) (an_ow 0 kd a i ||| an_bg kd a b kp (M 29) (M 30) i) ∧ ms_le (M 32 i) (an_ow 1 kd a i ||| an_bg kd a b kp (M 29) (M 32) i)
/-- each value is below every solution -/
def an_l3 (n : Nat) (kd : Nat → Nat) (a b kp us : Nat → Int32) (M : mm_M) : Prop := an_low (an_ce n kd a b kp us) (M 29) ∧ ∀ E, an_ce n kd a b kp us E → an_low (an_cf 0 n kd a b kp us E) (M 30) ∧ an_low (an_cf 1 n kd a b kp us E) (M 32)
def an_f3 (M M' : mm_M) : Prop := ∀ k, k ≠ 29 → k ≠ 30 → k ≠ 32 → M' k = M k
/-- one node looked into -/
def an_lk1 (M : mm_M) (i : Nat) (e f c : Int32) : mm_M := mm_up (mm_up (mm_up M 29 i e) 30 i f) 32 i c
section AnL
variable {n : Nat} {kd lv : Nat → Nat} {a b kp us : Nat → Int32} {rt : Nat} {M : mm_M} {i : Nat} {e f c : Int32}
theorem an_lk1_29 (j : Nat) : an_lk1 M i e f c 29 j = if j = i then e else M 29 j := by simp [an_lk1, mm_up, upd]
theorem an_lk1_30 (j : Nat) : an_lk1 M i e f c 30 j = if j = i then f else M 30 j := by simp [an_lk1, mm_up, upd]
theorem an_lk1_32 (j : Nat) : an_lk1 M i e f c 32 j = if j = i then c else M 32 j := by simp [an_lk1, mm_up, upd]
theorem an_lk1_f : an_f3 M (an_lk1 M i e f c) := fun k h1 h2 h3 => by simp [an_lk1, mm_up, h1, h2, h3]
theorem an_lk1_same (h1 : e = M 29 i) (h2 : f = M 30 i) (h3 : c = M 32 i) : an_lk1 M i e f c = M := by
  subst h1; subst h2; subst h3
  unfold an_lk1
  rw [mm_up_same]
  have : mm_up M 30 i (M 30 i) = M := mm_up_same M 30 i
  rw [this, mm_up_same]
theorem an_lk1_ok (hW : st_wf n kd lv a b kp) (hU : st_us n kd a b kp us rt) (hi : i < n) (hu : us i = 1) (hup : an_up n kd a b kp us M) (hl : an_l3 n kd a b kp us M)
    (he : (e = 1 ∧ an_fe kd a b kp (M 29) i) ∨ (e = 0 ∧ ¬ an_fe kd a b kp (M 29) i)) (hf : f = an_ow 0 kd a i ||| an_bg kd a b kp (M 29) (M 30) i) (hc : c = an_ow 1 kd a i ||| an_bg kd a b kp (M 29) (M 32) i) :
    (∀ j, ms_le (M 29 j) (an_lk1 M i e f c 29 j)) ∧ (∀ j, ms_le (M 30 j) (an_lk1 M i e f c 30 j)) ∧ (∀ j, ms_le (M 32 j) (an_lk1 M i e f c 32 j)) ∧ an_up n kd a b kp us (an_lk1 M i e f c) ∧ an_l3 n kd a b kp us (an_lk1 M i e f c) := by
  have hn := hW.1
  have hO := an_ok_of hW hU hi hu
  obtain ⟨u1, u2, u3⟩ := hup i hi hu
  have m1 : ∀ j, ms_le (M 29 j) (an_lk1 M i e f c 29 j) := by
    intro j
    rw [an_lk1_29]
    by_cases h : j = i
    · rw [if_pos h, h]
      rcases he with ⟨h1, -⟩ | ⟨-, h2⟩
      · rw [h1]
        rcases an_ce_01 hl.1 (by omega : i < 60) with z | z
        · rw [z]; exact ms_0 _
        · rw [z]; exact ms_rf _
      · rcases an_ce_01 hl.1 (by omega : i < 60) with z | z
        · rw [z]; exact ms_0 _
        · exact absurd (u1 (by rw [z]; exact ms_rf 1)) h2
    · rw [if_neg h]; exact ms_rf _
  have m2 : ∀ j, ms_le (M 30 j) (an_lk1 M i e f c 30 j) := by
    intro j
    rw [an_lk1_30]
    by_cases h : j = i
    · rw [if_pos h, h, hf]; exact u2
    · rw [if_neg h]; exact ms_rf _
  have m3 : ∀ j, ms_le (M 32 j) (an_lk1 M i e f c 32 j) := by
    intro j
    rw [an_lk1_32]
    by_cases h : j = i
    · rw [if_pos h, h, hc]; exact u3
    · rw [if_neg h]; exact ms_rf _
  refine ⟨m1, m2, m3, fun q hq hqu => ?_, fun T hT j hj => ?_, fun E hE => ⟨fun T hT j hj => ?_, fun T hT j hj => ?_⟩⟩
  · have hOq := an_ok_of hW hU hq hqu
    obtain ⟨v1, v2, v3⟩ := hup q hq hqu
    have g1 : an_fe kd a b kp (M 29) q → an_fe kd a b kp (an_lk1 M i e f c 29) q := an_fe_mono hOq (fun j _ => m1 j)
    have g2 := ms_oo (ms_rf (an_ow 0 kd a q)) (an_bg_mono2 hOq (fun j _ => m2 j) (fun j _ => m1 j))
    have g3 := ms_oo (ms_rf (an_ow 1 kd a q)) (an_bg_mono2 hOq (fun j _ => m3 j) (fun j _ => m1 j))
    refine ⟨fun h => ?_, ?_, ?_⟩
    · rw [an_lk1_29] at h
      by_cases hqi : q = i
      · subst hqi
        rw [if_pos rfl] at h
        rcases he with ⟨-, h2⟩ | ⟨h1, -⟩
        · exact g1 h2
        · rw [h1] at h; exact absurd h ms_10
      · rw [if_neg hqi] at h; exact g1 (v1 h)
    · rw [an_lk1_30 q]
      by_cases hqi : q = i
      · subst hqi; rw [if_pos rfl, hf]; rw [hf] at g2; exact g2
      · rw [if_neg hqi]; exact ms_tr v2 g2
    · rw [an_lk1_32 q]
      by_cases hqi : q = i
      · subst hqi; rw [if_pos rfl, hc]; rw [hc] at g3; exact g3
      · rw [if_neg hqi]; exact ms_tr v3 g3
  · rw [an_lk1_29]
    by_cases h : j = i
    · rw [if_pos h, h]
      rcases he with ⟨h1, h2⟩ | ⟨h1, -⟩
      · rw [h1]; exact hT i hi hu (an_fe_mono hO (fun q hq => hl.1 T hT q hq) h2)
      · rw [h1]; exact ms_0 _
    · rw [if_neg h]; exact hl.1 T hT j hj
  · rw [an_lk1_30]
    by_cases h : j = i
    · rw [if_pos h, h, hf]
      exact ms_tr (ms_oo (ms_rf _) (an_bg_mono2 hO (fun q hq => (hl.2 E hE).1 T hT q hq) (fun q hq => hl.1 E hE q hq))) (hT i hi hu)
    · rw [if_neg h]; exact (hl.2 E hE).1 T hT j hj
  · rw [an_lk1_32]
    by_cases h : j = i
    · rw [if_pos h, h, hc]
      exact ms_tr (ms_oo (ms_rf _) (an_bg_mono2 hO (fun q hq => (hl.2 E hE).2 T hT q hq) (fun q hq => hl.1 E hE q hq))) (hT i hi hu)
    · rw [if_neg h]; exact (hl.2 E hE).2 T hT j hj
end AnL
theorem an_c3_lt {M M' : mm_M} {i : Nat} (hi : i < 60) (m1 : ∀ j, ms_le (M 29 j) (M' 29 j)) (m2 : ∀ j, ms_le (M 30 j) (M' 30 j)) (m3 : ∀ j, ms_le (M 32 j) (M' 32 j)) (h : M' 29 i ≠ M 29 i ∨ M' 30 i ≠ M 30 i ∨ M' 32 i ≠ M 32 i) : an_c3 M < an_c3 M' := by
  have a1 := an_cnt_mono 60 (fun i _ => m1 i)
  have a2 := an_cnt_mono 60 (fun i _ => m2 i)
  have a3 := an_cnt_mono 60 (fun i _ => m3 i)
  unfold an_c3
  rcases h with h | h | h
  · have := an_cnt_lt 60 (fun i _ => m1 i) i hi (Ne.symm h); omega
  · have := an_cnt_lt 60 (fun i _ => m2 i) i hi (Ne.symm h); omega
  · have := an_cnt_lt 60 (fun i _ => m3 i) i hi (Ne.symm h); omega
theorem an_cnt_all (f : Nat → Int32) : an_cnt f 60 ≤ 60 * 32 := an_cnt_bd 60 (fun i _ => ms_c_le (f i) 32)
/-- a bit asked by a shift, or by a mask -/
theorem ms_sl : ∀ n, n < 32 → ((nI n &&& 31).toBitVec.smod 32).toNat = n := by decide +kernel
theorem ms_shl (n : Nat) (hn : n < 32) (x : Int32) {i : Nat} (hi : i < 32) : ms_b (x <<< (nI n &&& 31)) i = (decide (n ≤ i) && ms_b x (i - n)) := by
  unfold ms_b
  rw [Int32.toBitVec_shiftLeft]
  show (x.toBitVec <<< ((nI n &&& 31).toBitVec.smod 32).toNat).getLsbD i = _
  rw [ms_sl n hn, BitVec.getLsbD_shiftLeft]
  rcases Nat.lt_or_ge i n with h | h
  · simp [h, Nat.not_le.mpr h]
  · simp [hi, h, Nat.not_lt.mpr h]
theorem ms_shr (n : Nat) (hn : n < 32) (x : Int32) {i : Nat} (hi : i < 32) : ms_b (x >>> (nI n &&& 31)) i = if n + i < 32 then ms_b x (n + i) else ms_b x 31 := by
  unfold ms_b
  rw [Int32.toBitVec_shiftRight]
  show (x.toBitVec.sshiftRight ((nI n &&& 31).toBitVec.smod 32).toNat).getLsbD i = _
  rw [ms_sl n hn, BitVec.getLsbD_sshiftRight, BitVec.msb_eq_getLsbD_last]
  simp [hi]
theorem ms_band (x y : Int32) (i : Nat) : ms_b (x &&& y) i = (ms_b x i && ms_b y i) := by unfold ms_b; rw [Int32.toBitVec_and, BitVec.getLsbD_and]
theorem ms_b1 : ∀ i, i < 32 → ms_b 1 i = decide (i = 0) := by decide +kernel
theorem ms_b0 (i : Nat) : ms_b 0 i = false := BitVec.getLsbD_zero
theorem an_bit1 (x : Int32) {r : Nat} (hr : r < 32) : (x >>> (nI r &&& 31)) &&& 1 = 1 ↔ ms_b x r = true := by
  have hb : ∀ i, i < 32 → ms_b ((x >>> (nI r &&& 31)) &&& 1) i = (decide (i = 0) && ms_b x r) := by
    intro i hi
    rw [ms_band, ms_b1 i hi]
    by_cases h : i = 0
    · subst h
      rw [ms_shr r hr x (by omega), if_pos (by omega)]
      simp
    · simp [h]
  constructor
  · intro h
    have := hb 0 (by omega)
    rw [h, ms_b1 0 (by omega)] at this
    simpa using this.symm
  · intro h
    apply ms_ext
    intro i hi
    rw [hb i hi, ms_b1 i hi, h, Bool.and_true]
theorem an_bit2 (x : Int32) {r : Nat} (hr : r < 32) : x &&& ((1 : Int32) <<< (nI r &&& 31)) = 0 ↔ ms_b x r = false := by
  have hb : ∀ i, i < 32 → ms_b (x &&& ((1 : Int32) <<< (nI r &&& 31))) i = (ms_b x i && decide (i = r)) := by
    intro i hi
    rw [ms_band, ms_shl r hr 1 hi, ms_b1 (i - r) (by omega)]
    by_cases h : i = r
    · subst h; simp
    · rcases Nat.lt_or_ge i r with q | q
      · simp [h, Nat.not_le.mpr q]
      · have : ¬ i - r = 0 := by omega
        simp [h, this]
  constructor
  · intro h
    have := hb r hr
    rw [h, ms_b0] at this
    simpa using this.symm
  · intro h
    apply ms_ext
    intro i hi
    rw [hb i hi, ms_b0]
    by_cases e : i = r
    · subst e; rw [h]; rfl
    · simp [e]
theorem an_bit (x : Int32) {r : Nat} (hr : r < 32) : (x >>> (nI r &&& 31)) &&& 1 = 1 ↔ ¬ x &&& ((1 : Int32) <<< (nI r &&& 31)) = 0 := by
  rw [an_bit1 x hr, an_bit2 x hr]
  cases ms_b x r <;> simp
