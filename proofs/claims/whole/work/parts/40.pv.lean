/-! PARSING, as one function. Data: kinds, a, b, the called rule's node (numbers of nodes, or of a token), START and FIRST, labels, the token at a place (10 behind the last).
State: place, steps, trees, their labels, parts, places, the open tree (-1: none). Answer: error, the token that was due, state. -/
abbrev pv_D : Type := (Nat → Nat) × (Nat → Nat) × (Nat → Nat) × (Nat → Nat) × (Nat → Int32) × (Nat → Int32) × (Nat → Int32) × (Nat → Nat)
abbrev pv_S : Type := Nat × Nat × Nat × (Nat → Int32) × (Nat → Int32) × (Nat → Int32) × Int32
abbrev pv_R : Type := Int32 × Int32 × pv_S
abbrev pv_V : Type := Nat → Nat → Bool → pv_S → pv_R
abbrev pv_kd (P : pv_D) : Nat → Nat := P.1
abbrev pv_oa (P : pv_D) : Nat → Nat := P.2.1
abbrev pv_ob (P : pv_D) : Nat → Nat := P.2.2.1
abbrev pv_oc (P : pv_D) : Nat → Nat := P.2.2.2.1
abbrev pv_s3 (P : pv_D) : Nat → Int32 := P.2.2.2.2.1
abbrev pv_s4 (P : pv_D) : Nat → Int32 := P.2.2.2.2.2.1
abbrev pv_la (P : pv_D) : Nat → Int32 := P.2.2.2.2.2.2.1
abbrev pv_tk (P : pv_D) : Nat → Nat := P.2.2.2.2.2.2.2
def pv_step (s : pv_S) : pv_S := (s.1, s.2.1 + 1, s.2.2)
def pv_adv (s : pv_S) : pv_S := (s.1 + 1, s.2)
def pv_op (s : pv_S) : Int32 := s.2.2.2.2.2.2
def pv_setop (s : pv_S) (o : Int32) : pv_S := (s.1, s.2.1, s.2.2.1, s.2.2.2.1, s.2.2.2.2.1, s.2.2.2.2.2.1, o)
def pv_pa (s : pv_S) : Nat → Int32 := if pv_op s = -1 then upd s.2.2.2.2.1 s.2.2.1 0 else upd (upd s.2.2.2.2.1 s.2.2.1 0) (an_o (pv_op s)) (upd s.2.2.2.2.1 s.2.2.1 0 (an_o (pv_op s)) + 1)
def pv_add (L : Int32) (s : pv_S) : pv_S := (s.1, s.2.1, s.2.2.1 + 1, upd s.2.2.2.1 s.2.2.1 L, pv_pa s, upd s.2.2.2.2.2.1 s.2.2.1 (nI s.1), pv_op s)
def pv_beh (P : pv_D) : Nat → Nat → Nat
  | 0, m => m
  | f + 1, m => if pv_kd P m = 7 then pv_beh P f (pv_ob P m) else m
def pv_wel (P : pv_D) (n : Nat) : Int32 := if pv_kd P n = 3 then pv_s3 P (pv_beh P 6 (pv_oa P n)) else pv_s4 P (pv_beh P 6 (pv_oa P n))
def pv_la1 (P : pv_D) (V : pv_V) (n c : Nat) (s : pv_S) : Int32 × pv_S := if (V (pv_oa P (pv_oa P n)) c true s).1 = -8 then (-8, (V (pv_oa P (pv_oa P n)) c true s).2.2) else (if (V (pv_oa P (pv_oa P n)) c true s).1 = 0 then 1 else 0, (s.1, (V (pv_oa P (pv_oa P n)) c true s).2.2.2))
def pv_ch (P : pv_D) (V : pv_V) (n c : Nat) (sc : Bool) (s : pv_S) : Int32 × pv_S := if sc = false ∧ pv_kd P (pv_oa P n) = 7 then pv_la1 P V n c s else (if ms_b (pv_wel P n) (pv_tk P s.1) = true then 1 else 0, s)
def pv_many (P : pv_D) (V : pv_V) (n c : Nat) (sc : Bool) : Nat → pv_S → pv_R
  | 0, s => (-8, 0, s)
  | R + 1, s => if (pv_ch P V n c sc s).1 = -8 then (-8, 0, (pv_ch P V n c sc s).2) else if (pv_ch P V n c sc s).1 = 0 then (0, 0, (pv_ch P V n c sc s).2) else
      if (V (pv_oa P n) c sc (pv_ch P V n c sc s).2).1 = 0 then pv_many P V n c sc R (V (pv_oa P n) c sc (pv_ch P V n c sc s).2).2.2 else V (pv_oa P n) c sc (pv_ch P V n c sc s).2
def pv_token (P : pv_D) (n : Nat) (sc : Bool) (s : pv_S) : pv_R := if pv_tk P s.1 = pv_oa P n then (if sc = true then (0, 0, pv_adv s) else if s.2.2.1 = 90 then (-9, 0, s) else (0, 0, pv_adv (pv_add (nI (16 + pv_oa P n)) s))) else (-6, nI (pv_oa P n), s)
def pv_then (P : pv_D) (V : pv_V) (n c : Nat) (sc : Bool) (s : pv_S) : pv_R := if (V (pv_oa P n) c sc s).1 = 0 then V (pv_ob P n) c sc (V (pv_oa P n) c sc s).2.2 else V (pv_oa P n) c sc s
def pv_or (P : pv_D) (V : pv_V) (n c : Nat) (sc : Bool) (s : pv_S) : pv_R := if (pv_ch P V n c sc s).1 = -8 then (-8, 0, (pv_ch P V n c sc s).2) else if (pv_ch P V n c sc s).1 = 1 then V (pv_oa P n) c sc (pv_ch P V n c sc s).2 else V (pv_ob P n) c sc (pv_ch P V n c sc s).2
def pv_maybe (P : pv_D) (V : pv_V) (n c : Nat) (sc : Bool) (s : pv_S) : pv_R := if (pv_ch P V n c sc s).1 = -8 then (-8, 0, (pv_ch P V n c sc s).2) else if (pv_ch P V n c sc s).1 = 1 then V (pv_oa P n) c sc (pv_ch P V n c sc s).2 else (0, 0, (pv_ch P V n c sc s).2)
def pv_opened (P : pv_D) (n : Nat) (s : pv_S) : pv_S := pv_setop (pv_add (pv_la P n) s) (nI s.2.2.1)
def pv_named (P : pv_D) (V : pv_V) (n c : Nat) (sc : Bool) (s : pv_S) : pv_R := if sc = true then V (pv_ob P n) c true s else if s.2.2.1 = 90 then (-9, 0, s) else
  ((V (pv_ob P n) c false (pv_opened P n s)).1, (V (pv_ob P n) c false (pv_opened P n s)).2.1, pv_setop (V (pv_ob P n) c false (pv_opened P n s)).2.2 (pv_op s))
def pv_body (P : pv_D) (V : pv_V) (n c : Nat) (sc : Bool) (s : pv_S) : pv_R :=
  if pv_kd P n = 0 then pv_token P n sc s else if pv_kd P n = 1 then (if 6 ≤ c then (-7, 0, s) else V (pv_oc P n) (c + 1) sc s) else if pv_kd P n = 2 then pv_then P V n c sc s else if pv_kd P n = 3 then pv_or P V n c sc s else if pv_kd P n = 4 then pv_maybe P V n c sc s else
  if pv_kd P n = 5 then pv_many P V n c sc 1501 s else if pv_kd P n = 7 then V (pv_ob P n) c sc s else if pv_kd P n = 8 then pv_named P V n c sc s else (0, 0, s)
def pv_vis (P : pv_D) : Nat → pv_V
  | 0 => fun _ _ _ s => (-8, 0, s)
  | N + 1 => fun n c sc s => if 1500 ≤ s.2.1 then (-8, 0, s) else pv_body P (pv_vis P N) n c sc (pv_step s)
/-- the data are as they must be, on the used nodes -/
def pv_val (P : pv_D) (lv : Nat → Nat) (u : Nat → Prop) (z : Nat) : Prop := (∀ n, u n → pv_kd P n < 9 ∧ 1 ≤ lv n ∧ lv n ≤ 6 ∧ (st_nl (pv_kd P n) = true → u (pv_oa P n) ∧ lv (pv_oa P n) < lv n) ∧ (st_nr (pv_kd P n) = true → u (pv_ob P n) ∧ lv (pv_ob P n) < lv n) ∧ (pv_kd P n = 1 → u (pv_oc P n)) ∧ (pv_kd P n = 0 → pv_oa P n < 10)) ∧ z ≤ 40 ∧ (∀ q, z ≤ q → pv_tk P q = 10) ∧ ∀ q, pv_tk P q ≤ 10
/-- a state that may be -/
def pv_ok (z : Nat) (s : pv_S) : Prop := s.1 ≤ z ∧ s.2.1 ≤ 1500 ∧ s.2.2.1 ≤ 90 ∧ (pv_op s = -1 ∨ ∃ j, j < s.2.2.1 ∧ pv_op s = nI j)
/-- what every way from s to t keeps -/
def pv_kp (z : Nat) (s t : pv_S) : Prop := pv_ok z t ∧ s.2.1 ≤ t.2.1 ∧ s.2.2.1 ≤ t.2.2.1 ∧ pv_op t = pv_op s
theorem pv_kp_rf {z : Nat} {s : pv_S} (h : pv_ok z s) : pv_kp z s s := ⟨h, Nat.le_refl _, Nat.le_refl _, rfl⟩
theorem pv_kp_tr {z : Nat} {s t r : pv_S} (h1 : pv_kp z s t) (h2 : pv_kp z t r) : pv_kp z s r := ⟨h2.1, Nat.le_trans h1.2.1 h2.2.1, Nat.le_trans h1.2.2.1 h2.2.2.1, h2.2.2.2.trans h1.2.2.2⟩
theorem pv_ok_add {z : Nat} {s : pv_S} {L : Int32} (h : pv_ok z s) (ht : s.2.2.1 ≠ 90) : pv_ok z (pv_add L s) := by
  obtain ⟨h1, h2, h3, h4⟩ := h
  refine ⟨h1, h2, (by show s.2.2.1 + 1 ≤ 90; omega), ?_⟩
  rcases h4 with h4 | ⟨j, hj, e⟩
  · exact Or.inl h4
  · exact Or.inr ⟨j, (by show j < s.2.2.1 + 1; omega), e⟩
def pv_keeps (z : Nat) (u : Nat → Prop) (V : pv_V) : Prop := ∀ n c sc s, u n → pv_ok z s → pv_kp z s (V n c sc s).2.2
section PvK
variable {P : pv_D} {lv : Nat → Nat} {u : Nat → Prop} {z : Nat} {V : pv_V} {n c : Nat} {sc : Bool} {s : pv_S}
theorem pv_ch_kp (hP : pv_val P lv u z) (hV : pv_keeps z u V) (hn : u n) (hk : st_nl (pv_kd P n) = true) (hs : pv_ok z s) : pv_kp z s (pv_ch P V n c sc s).2 := by
  unfold pv_ch
  by_cases h : sc = false ∧ pv_kd P (pv_oa P n) = 7
  · rw [if_pos h]
    have ha := ((hP.1 n hn).2.2.2.1 hk).1
    have haa := ((hP.1 _ ha).2.2.2.1 (by rw [h.2]; rfl)).1
    have hk2 := hV (pv_oa P (pv_oa P n)) c true s haa hs
    unfold pv_la1
    by_cases e : (V (pv_oa P (pv_oa P n)) c true s).1 = -8
    · rw [if_pos e]; exact hk2
    · rw [if_neg e]
      exact ⟨⟨hs.1, hk2.1.2.1, hk2.1.2.2.1, hk2.1.2.2.2⟩, hk2.2.1, hk2.2.2.1, hk2.2.2.2⟩
  · rw [if_neg h]; exact pv_kp_rf hs
theorem pv_many_kp (hP : pv_val P lv u z) (hV : pv_keeps z u V) (hn : u n) (hk : st_nl (pv_kd P n) = true) : ∀ R s, pv_ok z s → pv_kp z s (pv_many P V n c sc R s).2.2 := by
  intro R
  induction R with
  | zero => intro s hs; exact pv_kp_rf hs
  | succ R ih =>
    intro s hs
    have h1 := pv_ch_kp (c := c) (sc := sc) hP hV hn hk hs
    have h2 := hV (pv_oa P n) c sc _ ((hP.1 n hn).2.2.2.1 hk).1 h1.1
    unfold pv_many
    by_cases e : (pv_ch P V n c sc s).1 = -8
    · rw [if_pos e]; exact h1
    · rw [if_neg e]
      by_cases e0 : (pv_ch P V n c sc s).1 = 0
      · rw [if_pos e0]; exact h1
      · rw [if_neg e0]
        by_cases e1 : (V (pv_oa P n) c sc (pv_ch P V n c sc s).2).1 = 0
        · rw [if_pos e1]; exact pv_kp_tr (pv_kp_tr h1 h2) (ih _ h2.1)
        · rw [if_neg e1]; exact pv_kp_tr h1 h2
theorem pv_named_kp (hP : pv_val P lv u z) (hV : pv_keeps z u V) (hn : u n) (hk : pv_kd P n = 8) (hs : pv_ok z s) : pv_kp z s (pv_named P V n c sc s).2.2 := by
  have hb := ((hP.1 n hn).2.2.2.2.1 (by rw [hk]; rfl)).1
  unfold pv_named
  by_cases h : sc = true
  · rw [if_pos h]; exact hV _ _ _ _ hb hs
  · rw [if_neg h]
    by_cases h90 : s.2.2.1 = 90
    · rw [if_pos h90]; exact pv_kp_rf hs
    · rw [if_neg h90]
      have ho : pv_ok z (pv_opened P n s) := by
        obtain ⟨h1, h2, h3, -⟩ := pv_ok_add (L := pv_la P n) hs h90
        exact ⟨h1, h2, h3, Or.inr ⟨s.2.2.1, Nat.lt_succ_self _, rfl⟩⟩
      obtain ⟨⟨g1, g2, g3, g4⟩, k2, k3, k4⟩ := hV (pv_ob P n) c false _ hb ho
      have k3' : s.2.2.1 + 1 ≤ (V (pv_ob P n) c false (pv_opened P n s)).2.2.2.2.1 := k3
      refine ⟨⟨g1, g2, g3, ?_⟩, k2, (by show s.2.2.1 ≤ (V (pv_ob P n) c false (pv_opened P n s)).2.2.2.2.1; omega), rfl⟩
      rcases hs.2.2.2 with h4 | ⟨j, hj, e⟩
      · exact Or.inl h4
      · exact Or.inr ⟨j, (by show j < (V (pv_ob P n) c false (pv_opened P n s)).2.2.2.2.1; omega), e⟩
theorem pv_token_kp (hP : pv_val P lv u z) (hn : u n) (hk : pv_kd P n = 0) (hs : pv_ok z s) : pv_kp z s (pv_token P n sc s).2.2 := by
  have h10 := (hP.1 n hn).2.2.2.2.2.2 hk
  unfold pv_token
  by_cases h : pv_tk P s.1 = pv_oa P n
  · rw [if_pos h]
    have hlt : s.1 < z := Nat.not_le.mp (fun q => by have := hP.2.2.1 s.1 q; omega)
    by_cases hsc : sc = true
    · rw [if_pos hsc]; exact ⟨⟨hlt, hs.2⟩, Nat.le_refl _, Nat.le_refl _, rfl⟩
    · rw [if_neg hsc]
      by_cases h90 : s.2.2.1 = 90
      · rw [if_pos h90]; exact pv_kp_rf hs
      · rw [if_neg h90]
        have := pv_ok_add (L := nI (16 + pv_oa P n)) hs h90
        exact ⟨⟨hlt, this.2⟩, Nat.le_refl _, Nat.le_succ _, rfl⟩
  · rw [if_neg h]; exact pv_kp_rf hs
theorem pv_body_kp (hP : pv_val P lv u z) (hV : pv_keeps z u V) (hn : u n) (hs : pv_ok z s) : pv_kp z s (pv_body P V n c sc s).2.2 := by
  obtain ⟨h9, -, -, hl, hr, hc, -⟩ := hP.1 n hn
  unfold pv_body
  by_cases h0 : pv_kd P n = 0
  · rw [if_pos h0]; exact pv_token_kp hP hn h0 hs
  rw [if_neg h0]
  by_cases h1 : pv_kd P n = 1
  · rw [if_pos h1]
    by_cases h6 : 6 ≤ c
    · rw [if_pos h6]; exact pv_kp_rf hs
    · rw [if_neg h6]; exact hV _ _ _ _ (hc h1) hs
  rw [if_neg h1]
  by_cases h2 : pv_kd P n = 2
  · rw [if_pos h2]
    have a1 := hV _ c sc _ (hl (by rw [h2]; rfl)).1 hs
    unfold pv_then
    by_cases e : (V (pv_oa P n) c sc s).1 = 0
    · rw [if_pos e]; exact pv_kp_tr a1 (hV _ _ _ _ (hr (by rw [h2]; rfl)).1 a1.1)
    · rw [if_neg e]; exact a1
  rw [if_neg h2]
  by_cases h3 : pv_kd P n = 3
  · rw [if_pos h3]
    have a1 := pv_ch_kp (c := c) (sc := sc) hP hV hn (by rw [h3]; rfl) hs
    unfold pv_or
    by_cases e : (pv_ch P V n c sc s).1 = -8
    · rw [if_pos e]; exact a1
    · rw [if_neg e]
      by_cases e1 : (pv_ch P V n c sc s).1 = 1
      · rw [if_pos e1]; exact pv_kp_tr a1 (hV _ _ _ _ (hl (by rw [h3]; rfl)).1 a1.1)
      · rw [if_neg e1]; exact pv_kp_tr a1 (hV _ _ _ _ (hr (by rw [h3]; rfl)).1 a1.1)
  rw [if_neg h3]
  by_cases h4 : pv_kd P n = 4
  · rw [if_pos h4]
    have a1 := pv_ch_kp (c := c) (sc := sc) hP hV hn (by rw [h4]; rfl) hs
    unfold pv_maybe
    by_cases e : (pv_ch P V n c sc s).1 = -8
    · rw [if_pos e]; exact a1
    · rw [if_neg e]
      by_cases e1 : (pv_ch P V n c sc s).1 = 1
      · rw [if_pos e1]; exact pv_kp_tr a1 (hV _ _ _ _ (hl (by rw [h4]; rfl)).1 a1.1)
      · rw [if_neg e1]; exact a1
  rw [if_neg h4]
  by_cases h5 : pv_kd P n = 5
  · rw [if_pos h5]; exact pv_many_kp hP hV hn (by rw [h5]; rfl) _ _ hs
  rw [if_neg h5]
  by_cases h7 : pv_kd P n = 7
  · rw [if_pos h7]; exact hV _ _ _ _ (hr (by rw [h7]; rfl)).1 hs
  rw [if_neg h7]
  by_cases h8 : pv_kd P n = 8
  · rw [if_pos h8]; exact pv_named_kp hP hV hn h8 hs
  rw [if_neg h8]
  exact pv_kp_rf hs
end PvK
theorem pv_vis_kp {P : pv_D} {lv : Nat → Nat} {u : Nat → Prop} {z : Nat} (hP : pv_val P lv u z) : ∀ N, pv_keeps z u (pv_vis P N) := by
  intro N
  induction N with
  | zero => intro n c sc s _ hs; exact pv_kp_rf hs
  | succ N ih =>
    intro n c sc s hn hs
    show pv_kp z s (if 1500 ≤ s.2.1 then ((-8 : Int32), (0 : Int32), s) else pv_body P (pv_vis P N) n c sc (pv_step s)).2.2
    by_cases h : 1500 ≤ s.2.1
    · rw [if_pos h]; exact pv_kp_rf hs
    · rw [if_neg h]
      have h1 : pv_ok z (pv_step s) := ⟨hs.1, (by show s.2.1 + 1 ≤ 1500; omega), hs.2.2⟩
      have h2 := pv_body_kp (c := c) (sc := sc) hP ih hn h1
      exact ⟨h2.1, Nat.le_trans (Nat.le_succ _) h2.2.1, h2.2.2.1, h2.2.2.2⟩
