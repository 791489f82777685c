/-! THE CALLS THAT CHANGE THE STATE -/
theorem lw_node {d : Nat} {M : mm_M} {x p q : Int32} (hd : 300 ≤ d) (h : lw_inv M) : lw_two d 0 69 [.inl x, .inl p, .inl q] M := by
  have h0 := h
  obtain ⟨n, kd, lv, a, b, ru, c, us, em, fi, nx, kp, rt, z, t, gX, gM, wf, cX, cM, ck, hin, hrs⟩ := h
  have hn60 := wf.1
  refine sp_PG_node gX wf (by omega) (fun hno => ⟨_, rfl, ?_⟩) (fun hok hn => ⟨_, rfl, ?_⟩) (fun k l hk ex hl hr el hl6 hn => ⟨_, rfl, ?_⟩)
  · exact sm_node gM wf (by omega) (fun _ => ⟨rfl, h0⟩) (fun q _ => absurd q hno) (fun k l h1 h2 h3 h4 h5 h6 _ => absurd ⟨k, h1, h2, h3, h4, h5 ▸ h6⟩ hno)
  · exact sm_node gM wf (by omega) (fun q => absurd hok q) (fun _ _ => ⟨rfl, h0⟩) (fun k l h1 h2 h3 h4 h5 h6 h7 => absurd h7 (by omega))
  have gM1 : st_gM (st_mkX M n x p q l) n kd lv a b ru := st_gM_eq rfl (fun k h1 h2 => by unfold st_mkX; rw [mm_up_ne k (by omega), mm_up_ne k (by omega), mm_up_ne k (by omega), mm_up_ne k (by omega), mm_up_ne k (by omega)]) gM
  refine sm_node gM1 wf (by omega) (fun w => absurd ⟨k, hk, ex, hl, hr, el ▸ hl6⟩ w) (fun _ w => absurd w (by omega)) (fun k' l' hk' ex' _ _ el' _ _ => ⟨rfl, ?_⟩)
  have ek : k' = k := st_nIe (by omega) (by omega) (ex'.symm.trans ex)
  subst ek
  have ell : l' = l := el'.trans el.symm
  subst ell
  subst ex
  -- the memory, read
  generalize hM2 : st_mkM (st_mkX M n (nI k') p q l') n (nI k') p q l' = M2
  have r1 : ∀ k, k ≠ 1 → k ≠ 2 → k ≠ 3 → k ≠ 4 → k ≠ 6 → k ≠ 21 → k ≠ 22 → k ≠ 23 → k ≠ 24 → k ≠ 25 → M2 k = M k := by
    intro k a1 a2 a3 a4 a5 a6 a7 a8 a9 a10
    rw [← hM2]; unfold st_mkM st_mkX
    rw [mm_up_ne k a6, mm_up_ne k a10, mm_up_ne k a9, mm_up_ne k a8, mm_up_ne k a7, mm_up_ne k a1, mm_up_ne k a5, mm_up_ne k a4, mm_up_ne k a3, mm_up_ne k a2]
  have r21 : ∀ j, j ≠ 0 → M2 21 j = M 21 j := by
    intro j hj
    rw [← hM2]; simp [st_mkM, st_mkX, mm_up, upd, hj]
  have v1 : M2 1 5 = nI (n + 1) := by rw [← hM2]; simp [st_mkM, st_mkX, mm_up, upd]
  have v21 : M2 21 0 = nI (n + 1) := by rw [← hM2]; simp [st_mkM, st_mkX, mm_up, upd]
  have v2 : ∀ i, M2 2 i = if i = n then nI k' else M 2 i := fun i => by rw [← hM2]; simp [st_mkM, st_mkX, mm_up, upd]
  have v3 : ∀ i, M2 3 i = if i = n then p else M 3 i := fun i => by rw [← hM2]; simp [st_mkM, st_mkX, mm_up, upd]
  have v4 : ∀ i, M2 4 i = if i = n then q else M 4 i := fun i => by rw [← hM2]; simp [st_mkM, st_mkX, mm_up, upd]
  have v6 : ∀ i, M2 6 i = if i = n then nI l' else M 6 i := fun i => by rw [← hM2]; simp [st_mkM, st_mkX, mm_up, upd]
  have v22 : ∀ i, M2 22 i = if i = n then nI k' else M 22 i := fun i => by rw [← hM2]; simp [st_mkM, st_mkX, mm_up, upd]
  have v23 : ∀ i, M2 23 i = if i = n then p else M 23 i := fun i => by rw [← hM2]; simp [st_mkM, st_mkX, mm_up, upd]
  have v24 : ∀ i, M2 24 i = if i = n then q else M 24 i := fun i => by rw [← hM2]; simp [st_mkM, st_mkX, mm_up, upd]
  have v25 : ∀ i, M2 25 i = if i = n then nI l' else M 25 i := fun i => by rw [← hM2]; simp [st_mkM, st_mkX, mm_up, upd]
  have hus : c = true → us n = 0 := by
    intro hc
    rcases (ck hc).1.2.2.1 n hn with w | w
    · exact w
    · omega
  refine ⟨n + 1, fun i => if i = n then k' else kd i, fun i => if i = n then l' else lv i, fun i => if i = n then p else a i, fun i => if i = n then q else b i, ru, c, us, em, fi, nx, kp, rt, z, t, ?_, ?_, ?_, ?_, ?_, ?_, ?_, ?_⟩
  · refine ⟨v1, fun i hi => ?_, fun r hr => ?_⟩
    · rw [v2, v3, v4, v6]
      by_cases e : i = n
      · simp [e]
      · simp only [if_neg e]; exact gX.2.1 i (by omega)
    · rw [r1 5 (by decide) (by decide) (by decide) (by decide) (by decide) (by decide) (by decide) (by decide) (by decide) (by decide)]; exact gX.2.2 r hr
  · refine ⟨v21, fun i hi => ?_, fun r hr => ?_⟩
    · rw [v22, v23, v24, v25]
      by_cases e : i = n
      · simp [e]
      · simp only [if_neg e]; exact gM.2.1 i (by omega)
    · rw [r1 26 (by decide) (by decide) (by decide) (by decide) (by decide) (by decide) (by decide) (by decide) (by decide) (by decide)]; exact gM.2.2 r hr
  · refine ⟨by omega, fun i hi => ?_, fun r hr => ?_⟩
    · by_cases e : i = n
      · subst e
        simp only [if_true]
        have hll : l' = max (st_l lv (st_nl k') p) (st_l lv (st_nr k') q) + 1 := el
        refine ⟨hk, by omega, hl6, fun w => ?_, fun w => ?_, fun w => ?_, fun w => ?_, fun w => ?_⟩
        · have hlf : st_in i p := by
            rcases hl with h | h
            · have : (if k' = 0 then 10 else if k' = 1 then 8 else if k' = 8 then 16 else i) = i := by
                rcases st_k9 hk with e | e | e | e | e | e | e | e | e <;> subst e <;> simp [st_nl] at w ⊢
              rw [this] at h; exact h
            · subst h; simp [st_nl] at w
          obtain ⟨j, hj, ej⟩ := hlf
          refine ⟨j, hj, ej, ?_⟩
          have e1 : st_l lv (st_nl k') p = lv j := by rw [w, ej]; simp only [st_l, if_true]; rw [nI_clamp (by omega)]
          rw [if_neg (by omega), hll, e1]; omega
        · obtain ⟨j, hj, ej⟩ := hr w
          refine ⟨j, hj, ej, ?_⟩
          have e1 : st_l lv (st_nr k') q = lv j := by rw [w, ej]; simp only [st_l, if_true]; rw [nI_clamp (by omega)]
          rw [if_neg (by omega), hll, e1]; omega
        · subst w; exact hl.elim (fun h => h) (fun h => absurd h (by decide))
        · subst w; exact hl.elim (fun h => h) (fun h => absurd h (by decide))
        · subst w; exact hl.elim (fun h => h) (fun h => absurd h (by decide))
      · simp only [if_neg e]
        obtain ⟨w1, w2, w3, w4, w5, w6, w7, w8⟩ := wf.2.1 i (by omega)
        refine ⟨w1, w2, w3, fun w => ?_, fun w => ?_, w6, w7, w8⟩
        · obtain ⟨j, hj, ej, hl⟩ := w4 w
          exact ⟨j, hj, ej, by rw [if_neg (by omega)]; exact hl⟩
        · obtain ⟨j, hj, ej, hl⟩ := w5 w
          exact ⟨j, hj, ej, by rw [if_neg (by omega)]; exact hl⟩
    · rcases wf.2.2 r hr with w | ⟨j, hj, e⟩
      · exact Or.inl w
      · exact Or.inr ⟨j, by omega, e⟩
  · exact st_CX_eq (by rw [r1 7 (by decide) (by decide) (by decide) (by decide) (by decide) (by decide) (by decide) (by decide) (by decide) (by decide)]) (by rw [r1 7 (by decide) (by decide) (by decide) (by decide) (by decide) (by decide) (by decide) (by decide) (by decide) (by decide)]) (fun k _ _ => r1 k (by omega) (by omega) (by omega) (by omega) (by omega) (by omega) (by omega) (by omega) (by omega) (by omega)) cX
  · have cM' : st_CM M2 c n us em fi nx kp rt := st_CM_eq (r21 2 (by decide)) (r21 3 (by decide)) (fun k _ _ => r1 k (by omega) (by omega) (by omega) (by omega) (by omega) (by omega) (by omega) (by omega) (by omega) (by omega)) cM
    refine ⟨cM'.1, ?_, cM'.2.2⟩
    have e : st_uq c us n = false := by
      cases hc : c with
      | false => rfl
      | true => simp [st_uq, hus hc]
    rw [st_num_n e]; exact cM'.2.1
  · intro hc
    obtain ⟨⟨u1, u2, u3, u4⟩, u5⟩ := ck hc
    refine ⟨⟨by omega, u2, fun i hi => ?_, fun i hi hu => ?_⟩, u5⟩
    · rcases u3 i hi with w | ⟨w, w2⟩
      · exact Or.inl w
      · exact Or.inr ⟨w, by omega⟩
    · have hin : i < n := by
        rcases u3 i (by omega) with w | ⟨_, w2⟩
        · exact absurd (hu.symm.trans w) (by decide)
        · exact w2
      have e : i ≠ n := by omega
      simp only [if_neg e]
      obtain ⟨w1, w2, w3⟩ := u4 i hin hu
      refine ⟨w1, w2, fun w => ?_⟩
      obtain ⟨r, j, x1, x2, x3, x4, x5⟩ := w3 w
      exact ⟨r, j, x1, x2, by omega, x4, x5⟩
  · exact lw_in_eq (by rw [r1 14 (by decide) (by decide) (by decide) (by decide) (by decide) (by decide) (by decide) (by decide) (by decide) (by decide)]) (r21 1 (by decide)) (r1 15 (by decide) (by decide) (by decide) (by decide) (by decide) (by decide) (by decide) (by decide) (by decide) (by decide)) (r1 33 (by decide) (by decide) (by decide) (by decide) (by decide) (by decide) (by decide) (by decide) (by decide) (by decide)) hin
  · exact lw_rs_eq (by rw [r1 16 (by decide) (by decide) (by decide) (by decide) (by decide) (by decide) (by decide) (by decide) (by decide) (by decide)]) (fun k _ _ => r1 k (by omega) (by omega) (by omega) (by omega) (by omega) (by omega) (by omega) (by omega) (by omega) (by omega)) (fun j _ _ => r21 j (by omega)) (fun k _ _ => r1 k (by omega) (by omega) (by omega) (by omega) (by omega) (by omega) (by omega) (by omega) (by omega) (by omega)) hrs
theorem lw_rule {d : Nat} {M : mm_M} {x p : Int32} (hd : 300 ≤ d) (h : lw_inv M) : lw_two d 1 70 [.inl x, .inl p] M := by
  have h0 := h
  obtain ⟨n, kd, lv, a, b, ru, c, us, em, fi, nx, kp, rt, z, t, gX, gM, wf, cX, cM, ck, hin, hrs⟩ := h
  have hn60 := wf.1
  refine sp_PG_rule gX wf (by omega) (fun hno => ⟨_, rfl, ?_⟩) (fun r j hr hj ex ep => ⟨_, rfl, ?_⟩)
  · exact sm_rule gM wf (by omega) (fun _ => ⟨rfl, h0⟩) (fun r j h1 h2 h3 h4 => absurd ⟨⟨r, h1, h3⟩, ⟨j, h2, h4⟩⟩ hno)
  have gM1 : st_gM (mm_up M 5 r (nI j)) n kd lv a b ru := st_gM_eq rfl (fun k h1 h2 => by rw [mm_up_ne k (by omega)]) gM
  refine sm_rule gM1 wf (by omega) (fun w => absurd ⟨⟨r, hr, ex⟩, ⟨j, hj, ep⟩⟩ w) (fun r' j' hr' hj' ex' ep' => ⟨rfl, ?_⟩)
  have er : r' = r := st_nIe (by omega) (by omega) (ex'.symm.trans ex)
  have ej : j' = j := st_nIe (by omega) (by omega) (ep'.symm.trans ep)
  subst er; subst ej
  generalize hM2 : mm_up (mm_up M 5 r' (nI j')) 26 r' (nI j') = M2
  have r1 : ∀ k, k ≠ 5 → k ≠ 26 → M2 k = M k := fun k a1 a2 => by rw [← hM2, mm_up_ne k a2, mm_up_ne k a1]
  have v5 : ∀ i, M2 5 i = if i = r' then nI j' else M 5 i := fun i => by rw [← hM2]; simp [mm_up, upd]
  have v26 : ∀ i, M2 26 i = if i = r' then nI j' else M 26 i := fun i => by rw [← hM2]; simp [mm_up, upd]
  refine ⟨n, kd, lv, a, b, fun i => if i = r' then nI j' else ru i, c, us, em, fi, nx, kp, rt, z, t, ?_, ?_, ?_, ?_, ?_, ck, ?_, ?_⟩
  · refine ⟨by rw [r1 1 (by decide) (by decide)]; exact gX.1, fun i hi => ?_, fun i hi => ?_⟩
    · rw [r1 2 (by decide) (by decide), r1 3 (by decide) (by decide), r1 4 (by decide) (by decide), r1 6 (by decide) (by decide)]; exact gX.2.1 i hi
    · rw [v5, gX.2.2 i hi]
  · refine ⟨by rw [r1 21 (by decide) (by decide)]; exact gM.1, fun i hi => ?_, fun i hi => ?_⟩
    · rw [r1 22 (by decide) (by decide), r1 23 (by decide) (by decide), r1 24 (by decide) (by decide), r1 25 (by decide) (by decide)]; exact gM.2.1 i hi
    · rw [v26, gM.2.2 i hi]
  · refine ⟨wf.1, wf.2.1, fun i hi => ?_⟩
    by_cases e : i = r'
    · exact Or.inr ⟨j', hj, by simp [e]⟩
    · simp only [if_neg e]; exact wf.2.2 i hi
  · exact st_CX_eq (by rw [r1 7 (by decide) (by decide)]) (by rw [r1 7 (by decide) (by decide)]) (fun k _ _ => r1 k (by omega) (by omega)) cX
  · exact st_CM_eq (by rw [r1 21 (by decide) (by decide)]) (by rw [r1 21 (by decide) (by decide)]) (fun k _ _ => r1 k (by omega) (by omega)) cM
  · exact lw_in_eq (by rw [r1 14 (by decide) (by decide)]) (by rw [r1 21 (by decide) (by decide)]) (r1 15 (by decide) (by decide)) (r1 33 (by decide) (by decide)) hin
  · exact lw_rs_eq (by rw [r1 16 (by decide) (by decide)]) (fun k _ _ => r1 k (by omega) (by omega)) (fun j _ _ => by rw [r1 21 (by decide) (by decide)]) (fun k _ _ => r1 k (by omega) (by omega)) hrs
theorem lw_feed {d : Nat} {M : mm_M} {x : Int32} (hd : 300 ≤ d) (h : lw_inv M) : lw_two d 7 89 [.inl x] M := by
  have h0 := h
  obtain ⟨n, kd, lv, a, b, ru, c, us, em, fi, nx, kp, rt, z, t, gX, gM, wf, cX, cM, ck, hin, hrs⟩ := h
  refine sp_PG_feed hin.2.1 hin.1 (by omega) (fun hno => ⟨_, rfl, ?_⟩) (fun hi hz => ⟨_, rfl, ?_⟩) (fun j hj ex hz => ⟨_, rfl, ?_⟩)
  · exact sm_feed hin.2.2.1 hin.1 (by omega) (fun _ => ⟨rfl, h0⟩) (fun w => absurd w hno) (fun j h1 h2 => absurd ⟨j, h1, h2⟩ hno)
  · exact sm_feed hin.2.2.1 hin.1 (by omega) (fun w => absurd hi w) (fun _ _ => ⟨rfl, h0⟩) (fun j h1 h2 h3 => absurd h3 (by omega))
  refine sm_feed (z := z) (M := mm_up (mm_up M 15 z (nI j)) 14 1 (nI (z + 1))) hin.2.2.1 hin.1 (by omega) (fun w => absurd ⟨j, hj, ex⟩ w) (fun _ w => absurd w (by omega)) (fun j' hj' ex' _ => ⟨rfl, ?_⟩)
  have ej : j' = j := st_nIe (by omega) (by omega) (ex'.symm.trans ex)
  subst ej
  generalize hM2 : mm_up (mm_up (mm_up (mm_up M 15 z (nI j')) 14 1 (nI (z + 1))) 33 z (nI j')) 21 1 (nI (z + 1)) = M2
  have r1 : ∀ k, k ≠ 14 → k ≠ 15 → k ≠ 33 → k ≠ 21 → M2 k = M k := fun k a1 a2 a3 a4 => by rw [← hM2, mm_up_ne k a4, mm_up_ne k a3, mm_up_ne k a1, mm_up_ne k a2]
  have r21 : ∀ i, i ≠ 1 → M2 21 i = M 21 i := fun i hi => by rw [← hM2]; simp [mm_up, upd, hi]
  have v14 : M2 14 1 = nI (z + 1) := by rw [← hM2]; simp [mm_up, upd]
  have v21 : M2 21 1 = nI (z + 1) := by rw [← hM2]; simp [mm_up, upd]
  have v15 : ∀ i, M2 15 i = if i = z then nI j' else M 15 i := fun i => by rw [← hM2]; simp [mm_up, upd]
  have v33 : ∀ i, M2 33 i = if i = z then nI j' else M 33 i := fun i => by rw [← hM2]; simp [mm_up, upd]
  refine ⟨n, kd, lv, a, b, ru, c, us, em, fi, nx, kp, rt, z + 1, t, ?_, ?_, wf, ?_, ?_, ck, ?_, ?_⟩
  · exact st_gX_eq (by rw [r1 1 (by decide) (by decide) (by decide) (by decide)]) (fun k _ _ => r1 k (by omega) (by omega) (by omega) (by omega)) gX
  · exact st_gM_eq (r21 0 (by decide)) (fun k _ _ => r1 k (by omega) (by omega) (by omega) (by omega)) gM
  · exact st_CX_eq (by rw [r1 7 (by decide) (by decide) (by decide) (by decide)]) (by rw [r1 7 (by decide) (by decide) (by decide) (by decide)]) (fun k _ _ => r1 k (by omega) (by omega) (by omega) (by omega)) cX
  · exact st_CM_eq (r21 2 (by decide)) (r21 3 (by decide)) (fun k _ _ => r1 k (by omega) (by omega) (by omega) (by omega)) cM
  · refine ⟨by omega, v14, v21, fun i hi => ?_⟩
    rw [v15, v33]
    by_cases e : i = z
    · exact ⟨j', hj, by simp [e], by simp [e]⟩
    · simp only [if_neg e]; exact hin.2.2.2 i (by omega)
  · exact lw_rs_eq (by rw [r1 16 (by decide) (by decide) (by decide) (by decide)]) (fun k _ _ => r1 k (by omega) (by omega) (by omega) (by omega)) (fun j _ _ => r21 j (by omega)) (fun k _ _ => r1 k (by omega) (by omega) (by omega) (by omega)) hrs
theorem lw_wipe {d : Nat} {M : mm_M} (hd : 300 ≤ d) (h : lw_inv M) : lw_two d 8 90 [] M := by
  obtain ⟨n, kd, lv, a, b, ru, c, us, em, fi, nx, kp, rt, z, t, gX, gM, wf, cX, cM, ck, hin, hrs⟩ := h
  refine sp_PG_wipe (by omega) ⟨_, rfl, sm_wipe (by omega) ⟨?_, ?_⟩⟩
  · rw [mm_up_ne 21 (by decide), hin.2.1, hin.2.2.1]
  generalize hM2 : mm_up (mm_up M 14 1 0) 21 1 0 = M2
  have r1 : ∀ k, k ≠ 14 → k ≠ 21 → M2 k = M k := fun k a1 a2 => by rw [← hM2, mm_up_ne k a2, mm_up_ne k a1]
  have r21 : ∀ i, i ≠ 1 → M2 21 i = M 21 i := fun i hi => by rw [← hM2]; simp [mm_up, upd, hi]
  refine ⟨n, kd, lv, a, b, ru, c, us, em, fi, nx, kp, rt, 0, t, ?_, ?_, wf, ?_, ?_, ck, ?_, ?_⟩
  · exact st_gX_eq (by rw [r1 1 (by decide) (by decide)]) (fun k _ _ => r1 k (by omega) (by omega)) gX
  · exact st_gM_eq (r21 0 (by decide)) (fun k _ _ => r1 k (by omega) (by omega)) gM
  · exact st_CX_eq (by rw [r1 7 (by decide) (by decide)]) (by rw [r1 7 (by decide) (by decide)]) (fun k _ _ => r1 k (by omega) (by omega)) cX
  · exact st_CM_eq (r21 2 (by decide)) (r21 3 (by decide)) (fun k _ _ => r1 k (by omega) (by omega)) cM
  · exact ⟨by omega, by rw [← hM2]; simp [mm_up, upd]; rfl, by rw [← hM2]; simp [mm_up, upd]; rfl, fun i hi => absurd hi (Nat.not_lt_zero _)⟩
  · exact lw_rs_eq (by rw [r1 16 (by decide) (by decide)]) (fun k _ _ => r1 k (by omega) (by omega)) (fun j _ _ => r21 j (by omega)) (fun k _ _ => r1 k (by omega) (by omega)) hrs
