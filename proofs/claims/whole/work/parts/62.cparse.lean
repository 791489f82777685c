/-! COMPILE AND PARSE, both -/
/-- a compile that failed -/
theorem lw_cfail {M M1 M2 : mm_M} {n : Nat} {kd lv : Nat → Nat} {a b ru : Nat → Int32} {z t : Nat} (gX : st_gX M n kd lv a b ru) (gM : st_gM M n kd lv a b ru) (wf : st_wf n kd lv a b ru) (hin : lw_in M z) (hrs : lw_rs M t) (f1 : an_cfr M M1) (e1 : M1 7 8 = 0) (f2 : an_cfm M1 M2) (e2 : M2 21 2 = -1) (e3 : M2 21 3 = 0) : lw_inv M2 := by
  have r : ∀ k, k ≠ 21 → (k < 7 ∨ (13 < k ∧ k < 27) ∨ 32 < k) → M2 k = M k := fun k h h' => by rw [f2.1 k h (by omega), f1 k (by omega)]
  have r21 : ∀ j, j ≠ 2 → j ≠ 3 → M2 21 j = M 21 j := fun j h h' => by rw [f2.2 j h h', f1 21 (by omega)]
  refine ⟨n, kd, lv, a, b, ru, false, fun _ => 0, fun _ => 0, fun _ => 0, fun _ => 0, fun _ => 0, 0, z, t, ?_, ?_, wf, ?_, ?_, ?_, ?_, ?_⟩
  · exact st_gX_eq (by rw [r 1 (by decide) (by omega)]) (fun k _ _ => r k (by omega) (by omega)) gX
  · exact st_gM_eq (r21 0 (by decide) (by decide)) (fun k _ _ => r k (by omega) (by omega)) gM
  · exact ⟨by rw [f2.1 7 (by decide) (by omega)]; exact e1, fun h => absurd h (by decide)⟩
  · refine ⟨fun _ => e2, ?_, fun h => absurd h (by decide)⟩
    have : ∀ m, st_num (st_uq false (fun _ => 0)) m = 0 := by
      intro m
      induction m with
      | zero => rfl
      | succ m ih => rw [st_num_n rfl, ih]
    rw [e3, this]; rfl
  · exact fun h => absurd h (by decide)
  · exact lw_in_eq (by rw [r 14 (by decide) (by omega)]) (r21 1 (by decide) (by decide)) (r 15 (by decide) (by omega)) (r 33 (by decide) (by omega)) hin
  · exact lw_rs_eq (by rw [r 16 (by decide) (by omega)]) (fun k _ _ => r k (by omega) (by omega)) (fun j _ _ => r21 j (by omega) (by omega)) (fun k _ _ => r k (by omega) (by omega)) hrs
theorem lw_compile {d : Nat} {M : mm_M} {x : Int32} (hd : 300 ≤ d) (h : lw_inv M) : lw_two d 2 82 [.inl x] M := by
  have h0 := h
  obtain ⟨n, kd, lv, a, b, ru, c, us0, em0, fi0, nx0, kp0, rt0, z, t, gX, gM, wf, cX, cM, ck, hin, hrs⟩ := h
  have hn := wf.1
  have gM1 : ∀ {M1 : mm_M}, an_cfr M M1 → st_gM M1 n kd lv a b ru := fun f => st_gM_eq (by rw [f 21 (by omega)]) (fun k _ _ => f k (by omega)) gM
  have rr : ∀ {r r' : Nat}, r < 8 → r' < 8 → x = nI r → x = nI r' → r' = r := fun h1 h2 e1 e2 => st_nIe (by omega) (by omega) (e2.symm.trans e1)
  have rtt : ∀ {r rt rt' : Nat}, rt < n → rt' < n → ru r = nI rt → ru r = nI rt' → rt' = rt := fun h1 h2 e1 e2 => st_nIe (by omega) (by omega) (e2.symm.trans e1)
  have nm1 : ∀ {r rt : Nat}, rt < n → ru r = nI rt → ru r = -1 → False := fun h1 e1 e2 => absurd (by rw [← e1, e2]; decide : nI _ < 0) (nI_pos (by omega))
  have oks : ∀ {rt : Nat} {us : Nat → Int32}, rt < n → an_lst (an_cu n kd a b ru rt) us → ¬ an_U n kd a ru us → ∀ i, i < n → us i = 1 → an_ok n kd a b ru us i := fun hrt hu hU i hi h1 => an_ok_of wf (an_us_of wf hrt hu hU) hi h1
  have hro : ∀ {r rt : Nat}, rt < n → ru r = nI rt → an_o (ru r) < 60 := fun h1 e1 => by rw [e1, an_oI (by omega)]; omega
  refine sp_PG_compile gX wf (by omega) (fun hno => ⟨_, rfl, ?_⟩) (fun r hr ex hu => ⟨_, rfl, ?_⟩) (fun r hr ex M1 rt us hrt ert f1 e1 lu hU => ⟨_, rfl, ?_⟩) (fun r hr ex M1 rt us em cm hrt ert f1 e1 lu hU le lc hR => ⟨_, rfl, ?_⟩) (fun r hr ex M1 rt us em cm hrt ert f1 e1 lu hU le lc hR hE => ⟨_, rfl, ?_⟩) (fun r hr ex M1 rt us em cm fi nx hrt ert f1 cX1 lu hU le lc hR hE lf ln => ⟨_, rfl, ?_⟩)
  · exact sm_compile gM wf (by omega) (fun _ => ⟨rfl, h0⟩) (fun r M' h1 h2 => absurd ⟨r, h1, h2⟩ hno) (fun r h1 h2 => absurd ⟨r, h1, h2⟩ hno) (fun r h1 h2 => absurd ⟨r, h1, h2⟩ hno) (fun r h1 h2 => absurd ⟨r, h1, h2⟩ hno) (fun r h1 h2 => absurd ⟨r, h1, h2⟩ hno)
  · have f1 : an_cfr M (mm_up M 7 8 0) := fun k hk => by rw [mm_up_ne k (by omega)]
    have nr : ∀ {r' rt' : Nat}, r' < 8 → x = nI r' → rt' < n → ru r' = nI rt' → False := fun h1 h2 h3 h4 => by
      rw [rr hr h1 ex h2] at h4
      exact nm1 h3 h4 hu
    exact sm_compile (gM1 f1) wf (by omega) (fun w => absurd ⟨r, hr, ex⟩ w) (fun r' M2 _ _ _ f2 e2 e3 => ⟨rfl, lw_cfail gX gM wf hin hrs f1 (by simp [mm_up, upd]) f2 e2 e3⟩) (fun r' h1 h2 M2 rt' us' h3 h4 => (nr h1 h2 h3 h4).elim) (fun r' h1 h2 M2 rt' us' em' cm' h3 h4 => (nr h1 h2 h3 h4).elim) (fun r' h1 h2 M2 rt' us' em' cm' h3 h4 => (nr h1 h2 h3 h4).elim) (fun r' h1 h2 M2 rt' us' em' cm' fi' nx' h3 h4 => (nr h1 h2 h3 h4).elim)
  all_goals
    have ne1 : ∀ {r' : Nat}, r' < 8 → x = nI r' → ru r' = -1 → False := fun h1 h2 h3 => by
      rw [rr hr h1 ex h2] at h3
      exact nm1 hrt ert h3
    have one : ∀ {r' rt' : Nat} {us' : Nat → Int32}, r' < 8 → x = nI r' → rt' < n → ru r' = nI rt' → an_lst (an_cu n kd a b ru rt') us' → r' = r ∧ rt' = rt ∧ ∀ i, i < 60 → us' i = us i := fun h1 h2 h3 h4 h5 => by
      have e := rr hr h1 ex h2
      subst e
      have e' := rtt hrt h3 ert h4
      subst e'
      exact ⟨rfl, rfl, an_lst_eq h5 lu⟩
  · refine sm_compile (gM1 f1) wf (by omega) (fun w => absurd ⟨r, hr, ex⟩ w) (fun r' M2 h1 h2 h3 => (ne1 h1 h2 h3).elim) (fun r' h1 h2 M2 rt' us' h3 h4 f2 e2 e3 lu' hU' => ⟨rfl, lw_cfail gX gM wf hin hrs f1 e1 f2 e2 e3⟩) (fun r' h1 h2 M2 rt' us' em' cm' h3 h4 f2 e2 e3 lu' hU' => ?_) (fun r' h1 h2 M2 rt' us' em' cm' h3 h4 f2 e2 e3 lu' hU' => ?_) (fun r' h1 h2 M2 rt' us' em' cm' fi' nx' h3 h4 f2 cM' lu' hU' => ?_)
    all_goals
      obtain ⟨-, -, eu⟩ := one h1 h2 h3 h4 lu'
      rw [lw_U hn eu] at hU'
      exact absurd hU hU'
  all_goals
    have hO := oks hrt lu hU
    have emq : ∀ {us' em' : Nat → Int32}, (∀ i, i < 60 → us' i = us i) → an_lst (an_ce n kd a b ru us') em' → ∀ i, i < 60 → em' i = em i := fun eu h => by
      rw [lw_ce hn eu] at h
      exact an_lst_eq h le
    have cmq : ∀ {us' em' cm' : Nat → Int32}, (∀ i, i < 60 → us' i = us i) → (∀ i, i < 60 → em' i = em i) → an_lst (an_cf 1 n kd a b ru us' em') cm' → ∀ i, i < 60 → cm' i = cm i := fun eu ee h => by
      rw [lw_cf hn hO eu ee] at h
      exact an_lst_eq h lc
  · refine sm_compile (gM1 f1) wf (by omega) (fun w => absurd ⟨r, hr, ex⟩ w) (fun r' M2 h1 h2 h3 => (ne1 h1 h2 h3).elim) (fun r' h1 h2 M2 rt' us' h3 h4 f2 e2 e3 lu' hU' => ?_) (fun r' h1 h2 M2 rt' us' em' cm' h3 h4 f2 e2 e3 lu' hU' le' lc' hR' => ⟨rfl, lw_cfail gX gM wf hin hrs f1 e1 f2 e2 e3⟩) (fun r' h1 h2 M2 rt' us' em' cm' h3 h4 f2 e2 e3 lu' hU' le' lc' hR' => ?_) (fun r' h1 h2 M2 rt' us' em' cm' fi' nx' h3 h4 f2 cM' lu' hU' le' lc' hR' => ?_)
    · obtain ⟨-, -, eu⟩ := one h1 h2 h3 h4 lu'
      rw [lw_U hn eu] at hU'
      exact absurd hU' hU
    all_goals
      obtain ⟨er, -, eu⟩ := one h1 h2 h3 h4 lu'
      subst er
      have ee := emq eu le'
      rw [lw_R hn hO (hro hrt ert) eu (cmq eu ee lc')] at hR'
      exact absurd hR hR'
  · refine sm_compile (gM1 f1) wf (by omega) (fun w => absurd ⟨r, hr, ex⟩ w) (fun r' M2 h1 h2 h3 => (ne1 h1 h2 h3).elim) (fun r' h1 h2 M2 rt' us' h3 h4 f2 e2 e3 lu' hU' => ?_) (fun r' h1 h2 M2 rt' us' em' cm' h3 h4 f2 e2 e3 lu' hU' le' lc' hR' => ?_) (fun r' h1 h2 M2 rt' us' em' cm' h3 h4 f2 e2 e3 lu' hU' le' lc' hR' hE' => ⟨rfl, lw_cfail gX gM wf hin hrs f1 e1 f2 e2 e3⟩) (fun r' h1 h2 M2 rt' us' em' cm' fi' nx' h3 h4 f2 cM' lu' hU' le' lc' hR' hE' => ?_)
    · obtain ⟨-, -, eu⟩ := one h1 h2 h3 h4 lu'
      rw [lw_U hn eu] at hU'
      exact absurd hU' hU
    · obtain ⟨er, -, eu⟩ := one h1 h2 h3 h4 lu'
      subst er
      have ee := emq eu le'
      rw [lw_R hn hO (hro hrt ert) eu (cmq eu ee lc')] at hR'
      exact absurd hR' hR
    · obtain ⟨er, -, eu⟩ := one h1 h2 h3 h4 lu'
      rw [lw_E hn hO eu (emq eu le')] at hE'
      exact absurd hE hE'
  · refine sm_compile (gM1 f1) wf (by omega) (fun w => absurd ⟨r, hr, ex⟩ w) (fun r' M2 h1 h2 h3 => (ne1 h1 h2 h3).elim) (fun r' h1 h2 M2 rt' us' h3 h4 f2 e2 e3 lu' hU' => ?_) (fun r' h1 h2 M2 rt' us' em' cm' h3 h4 f2 e2 e3 lu' hU' le' lc' hR' => ?_) (fun r' h1 h2 M2 rt' us' em' cm' h3 h4 f2 e2 e3 lu' hU' le' lc' hR' hE' => ?_) (fun r' h1 h2 M2 rt' us' em' cm' fi' nx' h3 h4 f2 cM' lu' hU' le' lc' hR' hE' lf' ln' => ?_)
    · obtain ⟨-, -, eu⟩ := one h1 h2 h3 h4 lu'
      rw [lw_U hn eu] at hU'
      exact absurd hU' hU
    · obtain ⟨er, -, eu⟩ := one h1 h2 h3 h4 lu'
      subst er
      have ee := emq eu le'
      rw [lw_R hn hO (hro hrt ert) eu (cmq eu ee lc')] at hR'
      exact absurd hR' hR
    · obtain ⟨er, -, eu⟩ := one h1 h2 h3 h4 lu'
      rw [lw_E hn hO eu (emq eu le')] at hE'
      exact absurd hE' hE
    · obtain ⟨er, ert', eu⟩ := one h1 h2 h3 h4 lu'
      subst er
      subst ert'
      have ee := emq eu le'
      rw [lw_cf hn hO eu ee] at lf'
      have ef : ∀ i, i < 60 → fi' i = fi i := an_lst_eq lf' lf
      rw [lw_cn hn hO eu ee ef] at ln'
      have en : ∀ i, i < 60 → nx' i = nx i := an_lst_eq ln' ln
      have enum : st_num (st_uq true us') n = st_num (st_uq true us) n := st_num_cg n (fun i hi => by simp only [st_uq]; rw [eu i (by omega)])
      have r1 : ∀ k, k ≠ 21 → (k < 7 ∨ (13 < k ∧ k < 27) ∨ 32 < k) → M2 k = M k := fun k h h' => by rw [f2.1 k h (by omega), f1 k (by omega)]
      have r21 : ∀ j, j ≠ 2 → j ≠ 3 → M2 21 j = M 21 j := fun j h h' => by rw [f2.2 j h h', f1 21 (by omega)]
      refine ⟨by rw [enum], n, kd, lv, a, b, ru, true, us, em, fi, nx, ru, rt', z, t, ?_, ?_, wf, ?_, ?_, ?_, ?_, ?_⟩
      · exact st_gX_eq (by rw [r1 1 (by decide) (by omega)]) (fun k _ _ => r1 k (by omega) (by omega)) gX
      · exact st_gM_eq (r21 0 (by decide) (by decide)) (fun k _ _ => r1 k (by omega) (by omega)) gM
      · exact st_CX_eq (by rw [f2.1 7 (by decide) (by omega)]) (by rw [f2.1 7 (by decide) (by omega)]) (fun k _ _ => f2.1 k (by omega) (by omega)) cX1
      · refine ⟨fun h => absurd h (by decide), by rw [cM'.2.1, enum], fun _ => ?_⟩
        obtain ⟨q1, q2, q3⟩ := cM'.2.2 rfl
        refine ⟨q1, fun i hi => ?_, q3⟩
        obtain ⟨s1, s2, s3, s4⟩ := q2 i hi
        exact ⟨s1.trans (eu i hi), s2.trans (ee i hi), s3.trans (ef i hi), s4.trans (en i hi)⟩
      · exact fun _ => ⟨an_us_of wf hrt lu hU, fun i hi => an_ce_01 le.2 hi⟩
      · exact lw_in_eq (by rw [r1 14 (by decide) (by omega)]) (r21 1 (by decide) (by decide)) (r1 15 (by decide) (by omega)) (r1 33 (by decide) (by omega)) hin
      · exact lw_rs_eq (by rw [r1 16 (by decide) (by omega)]) (fun k _ _ => r1 k (by omega) (by omega)) (fun j _ _ => r21 j (by omega) (by omega)) (fun k _ _ => r1 k (by omega) (by omega)) hrs
/-- the data of a parse -/
def lw_dat (M : mm_M) (kd : Nat → Nat) (a b kp em fi nx : Nat → Int32) (z : Nat) : pv_D := (kd, fun i => an_o (a i), fun i => an_o (b i), fun i => an_o (kp (an_o (a i))), st_sta em fi nx, fi, a, fun q => if q < z then an_o (M 15 q) else 10)
def lw_u (n : Nat) (us : Nat → Int32) (i : Nat) : Prop := i < n ∧ us i = 1
theorem lw_val {M : mm_M} {n : Nat} {kd lv : Nat → Nat} {a b ru us em fi nx kp : Nat → Int32} {rt z : Nat} (wf : st_wf n kd lv a b ru) (hU : st_us n kd a b kp us rt) (hin : lw_in M z) : pv_val (lw_dat M kd a b kp em fi nx z) lv (lw_u n us) z := by
  have hn := wf.1
  have htk : ∀ q, q < z → an_o (M 15 q) < 10 := fun q hq => by
    obtain ⟨j, hj, e, -⟩ := hin.2.2.2 q hq
    rw [e, an_oI (by omega)]; exact hj
  refine ⟨fun i hi => ?_, hin.1, fun q hq => ?_, fun q => ?_⟩
  · obtain ⟨w1, w2, w3, w4, w5, w6, w7, w8⟩ := wf.2.1 i hi.1
    obtain ⟨u1, u2, u3⟩ := hU.2.2.2 i hi.1 hi.2
    refine ⟨w1, w2, w3, fun h => ?_, fun h => ?_, fun h => ?_, fun h => ?_⟩
    · obtain ⟨j, hj, e, hl⟩ := w4 h
      obtain ⟨j', hj', e', hu⟩ := u1 h
      have : j' = j := st_nIe (by have := hi.1; omega) (by have := hi.1; omega) (e'.symm.trans e)
      subst this
      show lw_u n us (an_o (a i)) ∧ lv (an_o (a i)) < lv i
      rw [e, an_oI (by have := hi.1; omega)]
      exact ⟨⟨by have := hi.1; omega, hu⟩, hl⟩
    · obtain ⟨j, hj, e, hl⟩ := w5 h
      obtain ⟨j', hj', e', hu⟩ := u2 h
      have : j' = j := st_nIe (by have := hi.1; omega) (by have := hi.1; omega) (e'.symm.trans e)
      subst this
      show lw_u n us (an_o (b i)) ∧ lv (an_o (b i)) < lv i
      rw [e, an_oI (by have := hi.1; omega)]
      exact ⟨⟨by have := hi.1; omega, hu⟩, hl⟩
    · obtain ⟨r, j, hr, er, hj, ek, hu⟩ := u3 h
      show lw_u n us (an_o (kp (an_o (a i))))
      rw [er, an_oI (by omega), ek, an_oI (by omega)]
      exact ⟨hj, hu⟩
    · obtain ⟨j, hj, e⟩ := w6 h
      show an_o (a i) < 10
      rw [e, an_oI (by omega)]; exact hj
  · show (if q < z then an_o (M 15 q) else 10) = 10
    rw [if_neg (by omega)]
  · show (if q < z then an_o (M 15 q) else 10) ≤ 10
    by_cases h : q < z
    · rw [if_pos h]; have := htk q h; omega
    · rw [if_neg h]; omega
theorem lw_tk {M : mm_M} {kd : Nat → Nat} {a b kp em fi nx : Nat → Int32} {z : Nat} (hin : lw_in M z) (q : Nat) (hq : q < z) : pv_tk (lw_dat M kd a b kp em fi nx z) q < 10 ∧ M 15 q = nI (pv_tk (lw_dat M kd a b kp em fi nx z) q) ∧ M 33 q = nI (pv_tk (lw_dat M kd a b kp em fi nx z) q) := by
  obtain ⟨j, hj, e, e'⟩ := hin.2.2.2 q hq
  have : pv_tk (lw_dat M kd a b kp em fi nx z) q = j := by
    show (if q < z then an_o (M 15 q) else 10) = j
    rw [if_pos hq, e, an_oI (by omega)]
  rw [this]
  exact ⟨hj, e, e'⟩
theorem lw_D {M : mm_M} {n : Nat} {kd lv : Nat → Nat} {a b ru us em fi nx kp : Nat → Int32} {rt z : Nat} (wf : st_wf n kd lv a b ru) (hU : st_us n kd a b kp us rt) (P : pv_D) (hPd : P = lw_dat M kd a b kp em fi nx z) (i : Nat) (hi : lw_u n us i) :
    i < 60 ∧ pv_kd P i = kd i ∧ (st_nl (pv_kd P i) = true → a i = nI (pv_oa P i)) ∧ (st_nr (pv_kd P i) = true → b i = nI (pv_ob P i)) ∧ (pv_kd P i = 0 → a i = nI (pv_oa P i)) ∧ (pv_kd P i = 1 → ∃ r, r < 8 ∧ a i = nI r ∧ kp r = nI (pv_oc P i)) ∧ pv_la P i = a i ∧ pv_s3 P i = st_sta em fi nx i ∧ pv_s4 P i = fi i := by
  subst hPd
  have hn := wf.1
  have hi1 := hi.1
  obtain ⟨w1, w2, w3, w4, w5, w6, w7, w8⟩ := wf.2.1 i hi.1
  refine ⟨by omega, rfl, fun h => ?_, fun h => ?_, fun h => ?_, fun h => ?_, rfl, rfl, rfl⟩
  · obtain ⟨j, hj, e, hl⟩ := w4 h
    show a i = nI (an_o (a i))
    rw [e, an_oI (by omega)]
  · obtain ⟨j, hj, e, hl⟩ := w5 h
    show b i = nI (an_o (b i))
    rw [e, an_oI (by omega)]
  · obtain ⟨j, hj, e⟩ := w6 h
    show a i = nI (an_o (a i))
    rw [e, an_oI (by omega)]
  · obtain ⟨r, j, hr, er, hj, ek, hu⟩ := (hU.2.2.2 i hi.1 hi.2).2.2 h
    refine ⟨r, hr, er, ?_⟩
    show kp r = nI (an_o (kp (an_o (a i))))
    rw [er, an_oI (by omega), ek, an_oI (by omega)]
theorem lw_parse {d : Nat} {M : mm_M} (hd : 300 ≤ d) (h : lw_inv M) : lw_two d 9 102 [] M := by
  have h0 := h
  obtain ⟨n, kd, lv, a, b, ru, c, us, em, fi, nx, kp, rt, z, t, gX, gM, wf, cX, cM, ck, hin, hrs⟩ := h
  cases c with
  | false => exact sp_PG_parseR cX.1 (by omega) ⟨_, rfl, sm_parseR (cM.1 rfl) (by omega) ⟨rfl, h0⟩⟩
  | true =>
    obtain ⟨hU, h01⟩ := ck rfl
    obtain ⟨x1, x2, x3⟩ := cX.2 rfl
    obtain ⟨m1, m2, m3⟩ := cM.2.2 rfl
    generalize hPd : lw_dat M kd a b kp em fi nx z = P
    have hP : pv_val P lv (lw_u n us) z := by rw [← hPd]; exact lw_val wf hU hin
    have hT : ∀ q, q < z → pv_tk P q < 10 ∧ M 15 q = nI (pv_tk P q) ∧ M 33 q = nI (pv_tk P q) := fun q hq => by rw [← hPd]; exact lw_tk hin q hq
    have hDD := lw_D (lv := lv) (ru := ru) wf hU P hPd.symm
    have hrt : lw_u n us rt := ⟨hU.1, hU.2.1⟩
    have hD1 : px_D M P (lw_u n us) z em fi nx us := by
      refine ⟨hin.2.1, fun q hq => (hT q hq).2.1, x2, fun i hi => ?_⟩
      obtain ⟨q1, q2, q3, q4, q5, q6, q7, q8, q9⟩ := hDD i hi
      obtain ⟨g1, g2, g3, -⟩ := gX.2.1 i hi.1
      refine ⟨q1, by rw [q2]; exact g1, fun h => by rw [g2]; exact q3 h, fun h => by rw [g3]; exact q4 h, fun h => by rw [g2]; exact q5 h, fun h => ?_, fun _ => by rw [g2, q7], q8, q9⟩
      obtain ⟨r, hr, e1, e2⟩ := q6 h
      exact ⟨r, hr, by rw [g2]; exact e1, by rw [x3 r hr]; exact e2⟩
    refine sp_PG_parse hP hD1 cX.1 hrt x1 (by omega) (fun M1 f1 r1 => ⟨_, rfl, ?_⟩)
    have hD2 : pm_D M1 P (lw_u n us) z em fi nx us := by
      refine ⟨by rw [f1 21 (by omega)]; exact hin.2.2.1, fun q hq => by rw [f1 33 (by omega)]; exact (hT q hq).2.2, fun i hi => by rw [f1 28 (by omega), f1 29 (by omega), f1 30 (by omega), f1 31 (by omega)]; exact m2 i hi, fun i hi => ?_⟩
      rw [f1 22 (by omega), f1 23 (by omega), f1 24 (by omega), f1 27 (by omega)]
      obtain ⟨q1, q2, q3, q4, q5, q6, q7, q8, q9⟩ := hDD i hi
      obtain ⟨g1, g2, g3, -⟩ := gM.2.1 i hi.1
      refine ⟨q1, by rw [q2]; exact g1, fun h => by rw [g2]; exact q3 h, fun h => by rw [g3]; exact q4 h, fun h => by rw [g2]; exact q5 h, fun h => ?_, fun _ => by rw [g2, q7], q8, q9⟩
      obtain ⟨r, hr, e1, e2⟩ := q6 h
      exact ⟨r, hr, by rw [g2]; exact e1, by rw [m3 r hr]; exact e2⟩
    refine sm_parse hP hD2 (fun q hq => (hT q hq).1) hrt (by rw [f1 21 (by omega)]; exact m1) (by omega) (fun M2 f2 r2 => ⟨rfl, ?_⟩)
    have ra : ∀ k, k < 16 ∨ (21 < k ∧ k < 34) → M2 k = M k := fun k hk => by rw [f2.1 k (by omega) (by omega), f1 k (by omega)]
    have rb : ∀ k, 16 ≤ k → k ≤ 20 → M2 k = M1 k := fun k h1 h2 => f2.1 k (by omega) (by omega)
    have rc : ∀ j, j < 4 → M2 21 j = M 21 j := fun j hj => by rw [f2.2 j hj, f1 21 (by omega)]
    refine ⟨n, kd, lv, a, b, ru, true, us, em, fi, nx, kp, rt, z, pv_tn P rt, ?_, ?_, wf, ?_, ?_, ck, ?_, ?_⟩
    · exact st_gX_eq (by rw [ra 1 (by omega)]) (fun k _ _ => ra k (by omega)) gX
    · exact st_gM_eq (rc 0 (by omega)) (fun k _ _ => ra k (by omega)) gM
    · exact st_CX_eq (by rw [ra 7 (by omega)]) (by rw [ra 7 (by omega)]) (fun k _ _ => ra k (by omega)) cX
    · exact st_CM_eq (rc 2 (by omega)) (rc 3 (by omega)) (fun k _ _ => ra k (by omega)) cM
    · exact lw_in_eq (by rw [ra 14 (by omega)]) (rc 1 (by omega)) (ra 15 (by omega)) (ra 33 (by omega)) hin
    · have hk := (pv_vis_kp hP 1500 rt 0 false pv_s0 hrt (pv_s0_ok z)).1.2.2.1
      have hk' : (pv_run P rt).2.2.2.2.1 ≤ 90 := hk
      have ht : pv_tn P rt ≤ 90 := by unfold pv_tn; split <;> omega
      obtain ⟨a1, a2, a3, a4, a5⟩ := r1
      obtain ⟨b1, b2, b3, b4, b5⟩ := r2
      refine ⟨ht, by rw [rb 16 (by omega) (by omega)]; exact a4, b4, by rw [rb 20 (by omega) (by omega), a1, b2], by rw [rb 20 (by omega) (by omega), a2, b3], by rw [rb 20 (by omega) (by omega), a3, b1], fun i hi => ?_⟩
      rw [rb 17 (by omega) (by omega), rb 18 (by omega) (by omega), rb 19 (by omega) (by omega)]
      obtain ⟨p1, p2, p3⟩ := a5 i hi
      obtain ⟨q1, q2, q3⟩ := b5 i hi
      exact ⟨p1.trans q1.symm, p2.trans q2.symm, p3.trans q3.symm⟩
