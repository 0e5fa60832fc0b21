/-! acts that change one number -/
set_option maxRecDepth 100000 in
set_option maxHeartbeats 4000000 in
theorem IC_bk {lf st : Int32} {rs rl it : Nat → Int32} {tp : Nat} {tape f f' : Nat → Int32} {k k' : Nat} {acts acts' : Nat → Nat → Int32} {t : Nat} {trc g0 g1 : Nat → Int32} {h h' : sx_H} (H : IC lf st rs rl it tp tape f k acts t trc g0 g1 h) (e : ∀ j, (j < 15 ∨ (46 ≤ j ∧ j < 57) ∨ 61 ≤ j) → j ≠ 53 → h' j = h j) (hb : XB f' h') (ha : XA k' acts' h') (hm : MO st k' tp lf t h') (hmb : MB f' h') (hma : MA k' acts' h') (hw : WB 999 f') (hk : k' ≤ 24) (hwa : ∀ j, j < k' → WB 999 (acts' j)) : IC lf st rs rl it tp tape f' k' acts' t trc g0 g1 h' := by
  obtain ⟨h0, hXR, hXT, hXB, hXA, hXK, hXI, hMO, hMR, hMB, hMA, hMT, hMI, hMK, hWR, htp, -, -, -, hz⟩ := H
  exact ⟨(e 0 (by omega) (by omega)).trans h0, XR_ag hXR (fun j _ _ => e j (by omega) (by omega)), XT_ag hXT (fun j _ _ => e j (by omega) (by omega)), hb, ha, XK_ag hXK (fun j _ _ => e j (by omega) (by omega)), XI_ag hXI (fun j _ _ => e j (by omega) (by omega)), hm, MR_ag hMR (fun j _ _ => e j (by omega) (by omega)), hmb, hma, (e 61 (by omega) (by omega)).trans hMT, MI_ag hMI (e 62 (by omega) (by omega)) (e 63 (by omega) (by omega)), (e 64 (by omega) (by omega)).trans hMK, hWR, htp, hw, hk, hwa, hz⟩
set_option maxRecDepth 100000 in
set_option maxHeartbeats 4000000 in
theorem XB_f {f f' : Nat → Int32} {h h' : sx_H} (H : XB f h) (e : ∀ k, 15 ≤ k → k < 19 → k ≠ 16 → h' k = h k) (e2 : h' 45 = h 45) (e3 : h' 16 = sx_ai 62 f') : XB f' h' := by
  obtain ⟨h1, h2, h3, ⟨g, h4, h5⟩, h6⟩ := H
  exact ⟨(e 15 (by omega) (by omega) (by omega)).trans h1, e3, (e 17 (by omega) (by omega) (by omega)).trans h3, ⟨g, (e 18 (by omega) (by omega) (by omega)).trans h4, h5⟩, e2.trans h6⟩
set_option maxRecDepth 100000 in
set_option maxHeartbeats 4000000 in
theorem WA_keep {k : Nat} {acts : Nat → Nat → Int32} {f : Nat → Int32} (hA : ∀ j, j < k → WB 999 (acts j)) (hB : WB 999 f) (hk : k ≤ 24) : ∀ j, j < min (k + 1) 24 → WB 999 (p_keep k acts f j) := by
  intro j hj
  rw [p_keep]
  by_cases h : k < 24
  · rw [if_pos h]
    by_cases q : j = k
    · rw [if_pos q]; exact hB
    · rw [if_neg q]; exact hA j (by omega)
  · rw [if_neg h]
    by_cases q : j = 23
    · rw [if_pos q]; exact hB
    · rw [if_neg q]; exact hA (j + 1) (by omega)
set_option maxRecDepth 100000 in
set_option maxHeartbeats 4000000 in
theorem WB_z {W : Nat} {f : Nat → Int32} (h : WB W f) : ∀ j, 62 ≤ j → f j = 0 := h.1
set_option maxRecDepth 100000 in
set_option maxHeartbeats 4000000 in
theorem WB_stop {W e : Nat} {f : Nat → Int32} {v : Int32} (H : WB W f) (he : e < 6) (hv : 0 ≤ v.toInt ∧ v.toInt ≤ 99) : WB W (upd f (18 + e) v) := by
  obtain ⟨hz, c, w, hc, hw, h58, h61, hd, hs⟩ := H
  refine ⟨fun j hj => by rw [q_upd_n (by omega)]; exact hz j hj, c, w, hc, hw, by rw [q_upd_n (by omega)]; exact h58, by rw [q_upd_n (by omega)]; exact h61, fun d hd6 => ?_, ?_⟩
  · obtain ⟨a1, a2, a3, a4, a5, a6, a7, a8⟩ := hd d hd6
    rw [q_upd_n (show d ≠ 18 + e by omega), q_upd_n (show 6 + d ≠ 18 + e by omega), q_upd_n (show 12 + d ≠ 18 + e by omega), q_upd_n (show 24 + d ≠ 18 + e by omega), q_upd_n (show 30 + d ≠ 18 + e by omega), q_upd_n (show 48 + d ≠ 18 + e by omega)]
    refine ⟨a1, a2, a3, ?_, a5, a6, a7, a8⟩
    by_cases q : d = e
    · rw [q, q_upd_s]; exact hv
    · rw [q_upd_n (by omega)]; exact a4
  · simp (disch := omega) only [q_upd_n]; exact hs
set_option maxRecDepth 100000 in
set_option maxHeartbeats 4000000 in
theorem WB_sc {W p : Nat} {f : Nat → Int32} {v : Int32} (H : WB W f) (hp : p = 56 ∨ p = 59) (hv : 0 ≤ v.toInt ∧ v.toInt ≤ 20) : WB W (upd f p v) := by
  obtain ⟨hz, c, w, hc, hw, h58, h61, hd, hs⟩ := H
  refine ⟨fun j hj => by rw [q_upd_n (by omega)]; exact hz j hj, c, w, hc, hw, by rw [q_upd_n (by omega)]; exact h58, by rw [q_upd_n (by omega)]; exact h61, fun d hd6 => ?_, ?_⟩
  · have := hd d hd6
    rw [q_upd_n (show d ≠ p by omega), q_upd_n (show 6 + d ≠ p by omega), q_upd_n (show 12 + d ≠ p by omega), q_upd_n (show 18 + d ≠ p by omega), q_upd_n (show 24 + d ≠ p by omega), q_upd_n (show 30 + d ≠ p by omega), q_upd_n (show 48 + d ≠ p by omega)]
    exact this
  · obtain ⟨b1, b2, b3, b4, b5, b6, b7, b8⟩ := hs
    rcases hp with q | q <;> subst q
    · rw [q_upd_s]
      simp (disch := omega) only [q_upd_n]
      exact ⟨b1, b2, b3, hv, b5, b6, b7, b8⟩
    · rw [q_upd_s]
      simp (disch := omega) only [q_upd_n]
      exact ⟨b1, b2, b3, b4, b5, b6, hv, b8⟩
set_option maxRecDepth 100000 in
set_option maxHeartbeats 4000000 in
theorem WB_crs {W e c : Nat} {f : Nat → Int32} {v x : Int32} (H : WB W f) (h58 : f 58 = nI c) (hc6 : c ≤ 6) (he : e < c) (hv : v = 0 ∨ v = 1) (hx : x = f e ∨ x = 0) : WB W (upd (upd f (30 + e) v) e x) := by
  obtain ⟨hz, c', w, hc, hw, h58', h61, hd, hs⟩ := H
  have hcc : c' = c := by
    have e1 := nI_toInt (show c < 2147483648 by omega)
    have e2 := nI_toInt (show c' < 2147483648 by omega)
    rw [← h58] at e1; rw [← h58'] at e2; omega
  subst hcc
  refine ⟨fun j hj => by rw [q_upd_n (by omega), q_upd_n (by omega)]; exact hz j hj, c', w, hc, hw, by rw [q_upd_n (by omega), q_upd_n (by omega)]; exact h58, by rw [q_upd_n (by omega), q_upd_n (by omega)]; exact h61, fun d hd6 => ?_, ?_⟩
  · obtain ⟨a1, a2, a3, a4, a5, a6, a7, a8⟩ := hd d hd6
    by_cases q : d = e
    · subst q
      rw [q_upd_s, q_upd_n (show 30 + d ≠ d by omega), q_upd_s]
      simp (disch := omega) only [q_upd_n]
      refine ⟨?_, a2, a3, a4, a5, hv, a7, fun z => absurd z (by omega)⟩
      rcases hx with hx | hx <;> rw [hx]
      · exact a1
      · rw [q_ti0]; omega
    · simp (disch := omega) only [q_upd_n]
      exact ⟨a1, a2, a3, a4, a5, a6, a7, a8⟩
  · simp (disch := omega) only [q_upd_n]; exact hs
set_option maxRecDepth 100000 in
set_option maxHeartbeats 4000000 in
theorem s_change {h : sx_H} {Q : sx_Q} {lf : Int32} {f : Nat → Int32} {k : Nat} {acts : Nat → Nat → Int32} (h0 : h 0 = g_x lf) (hA : XA k acts h) (hk : k ≤ 24) (hB : XB f h) (hf : ∀ j, 62 ≤ j → f j = 0) {p : Nat} (hp : p < 62) (v : Int32) (hQ : ∀ h', XA (min (k + 1) 24) (p_keep k acts f) h' → (∀ j, j ≠ 16 → ¬ (19 ≤ j ∧ j < 45) → h' j = h j) → h' 16 = sx_ai 62 (upd f p v) → Q (some (sx_i (f p))) 65 h') : sx_Cal 122 [sx_r (some 0), sx_i (nI p), sx_i v] 65 h Q := by
  obtain ⟨hB1, hB2, -⟩ := hB
  simp (disch := omega) only [e_const, e_lconst, e_il, e_ll, e_al, e_is, e_as, e_ls, e_inc, e_bin, e_div, e_un, e_lbin, e_ldiv, e_lcmp, e_i2l, e_l2i, e_if1, e_if2, e_go, e_sw, e_dupi, e_dupr, e_dup2, e_popi, e_popr, e_get, e_put, e_iald, e_iast, e_zald, e_zast, e_aald, e_aast, e_sld, e_slen, e_newa, e_newq, e_mna, e_new, e_oi, e_cs, e_cv, e_ci, e_min, e_max, e_copy, e_rv, e_ri, e_rz, e_rl, e_run, sx_en, sx_cat, sx_tk, sx_ps, sx_set, sx_setl, sx_dl, sx_m, sx_sw, sx_ft, List.map_cons, List.map_nil, List.getElem?_cons_zero, List.getElem?_cons_succ, List.replicate_succ, List.replicate_zero, List.set_cons_zero, List.set_cons_succ, List.length_cons, List.length_nil, Nat.reduceAdd, Nat.reduceSub, Nat.reduceLeDiff, Nat.reduceLT, Nat.reduceMul, Nat.zero_le, Nat.le_refl, Nat.add_zero, Nat.zero_add, true_and, and_true, true_or, cX7_change_c, tX7_change_0, bX7_change_0, h0, hB1, hB2, hp, q_up_s, q_up_n, q_up_up, q_upd_s, q_upd_n, q_upd_upd, q_in, q_in0, q_in1, q_cl, q_cl0, q_cl1, q_add, q_add1, q_1add, q_add0, q_0add, q_mul, q_ite0, q_ite01, q_10, or_true, not_false_eq_true, not_true_eq_false, q_n0, ne_eq, false_implies, true_implies, true_and, and_true, not_true_eq_false, not_false_eq_true, Bool.false_eq_true, sx_o, Sum.inr.injEq, Prod.mk.injEq, exists_eq', Nat.reduceLT]
  obtain ⟨nx, hnx, hA1, hA'⟩ := id hA
  refine ⟨⟨_, hA1⟩, s_keep hA hk hB1 hB2 hf fun h' a1 a2 => ?_⟩
  have c0 := (a2 0 (by omega)).trans h0
  have c1 := (a2 15 (by omega)).trans hB1
  have c2 := (a2 16 (by omega)).trans hB2
  simp (disch := omega) only [e_const, e_lconst, e_il, e_ll, e_al, e_is, e_as, e_ls, e_inc, e_bin, e_div, e_un, e_lbin, e_ldiv, e_lcmp, e_i2l, e_l2i, e_if1, e_if2, e_go, e_sw, e_dupi, e_dupr, e_dup2, e_popi, e_popr, e_get, e_put, e_iald, e_iast, e_zald, e_zast, e_aald, e_aast, e_sld, e_slen, e_newa, e_newq, e_mna, e_new, e_oi, e_cs, e_cv, e_ci, e_min, e_max, e_copy, e_rv, e_ri, e_rz, e_rl, e_run, sx_en, sx_cat, sx_tk, sx_ps, sx_set, sx_setl, sx_dl, sx_m, sx_sw, sx_ft, List.map_cons, List.map_nil, List.getElem?_cons_zero, List.getElem?_cons_succ, List.replicate_succ, List.replicate_zero, List.set_cons_zero, List.set_cons_succ, List.length_cons, List.length_nil, Nat.reduceAdd, Nat.reduceSub, Nat.reduceLeDiff, Nat.reduceLT, Nat.reduceMul, Nat.zero_le, Nat.le_refl, Nat.add_zero, Nat.zero_add, true_and, and_true, true_or, c0, c1, c2, hp, q_up_s, q_up_n, q_up_up, q_upd_s, q_upd_n, q_upd_upd, q_in, q_in0, q_in1, q_cl, q_cl0, q_cl1, q_add, q_add1, q_1add, q_add0, q_0add, q_mul, q_ite0, q_ite01, q_10, or_true, not_false_eq_true, not_true_eq_false, q_n0, ne_eq, false_implies, true_implies, true_and, and_true, not_true_eq_false, not_false_eq_true, Bool.false_eq_true, sx_o, Sum.inr.injEq, Prod.mk.injEq, exists_eq', Nat.reduceLT]
  refine hQ _ (XA_ag a1 fun j h1 h2 => q_up_n (by omega)) (fun j h1 h2 => (q_up_n h1).trans (a2 j h2)) (q_up_s _ _ _)
