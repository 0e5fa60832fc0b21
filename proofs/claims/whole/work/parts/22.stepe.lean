/-! the tape grows; a row goes -/
set_option maxRecDepth 100000 in
set_option maxHeartbeats 4000000 in
theorem IC_tape {lf st : Int32} {rs rl it : Nat → Int32} {tp tp' : Nat} {tape tape' f : Nat → Int32} {k : Nat} {acts : Nat → Nat → Int32} {t : Nat} {trc g0 g1 : Nat → Int32} {h h' : sx_H} (H : IC lf st rs rl it tp tape f k acts t trc g0 g1 h) (e : ∀ j, j ≠ 13 → j ≠ 14 → j ≠ 53 → j ≠ 61 → h' j = h j) (hx : XT tp' tape' h') (hm : MO st k tp' lf t h') (hr : MT tape' h') (hw : tp' ≤ 120) : IC lf st rs rl it tp' tape' f k acts t trc g0 g1 h' := by
  obtain ⟨h0, hXR, hXT, hXB, hXA, hXK, hXI, hMO, hMR, hMB, hMA, hMT, hMI, hMK, hWR, -, hz⟩ := H
  exact ⟨(e 0 (by omega) (by omega) (by omega) (by omega)).trans h0, XR_ag hXR (fun j _ _ => e j (by omega) (by omega) (by omega) (by omega)), hx, XB_ag hXB (fun j _ _ => e j (by omega) (by omega) (by omega) (by omega)) (e 45 (by omega) (by omega) (by omega) (by omega)), XA_ag hXA (fun j _ _ => e j (by omega) (by omega) (by omega) (by omega)), XK_ag hXK (fun j _ _ => e j (by omega) (by omega) (by omega) (by omega)), XI_ag hXI (fun j _ _ => e j (by omega) (by omega) (by omega) (by omega)), hm, MR_ag hMR (fun j _ _ => e j (by omega) (by omega) (by omega) (by omega)), MB_ag hMB (fun j _ _ => e j (by omega) (by omega) (by omega) (by omega)), MA_ag hMA (e 60 (by omega) (by omega) (by omega) (by omega)), hr, MI_ag hMI (e 62 (by omega) (by omega) (by omega) (by omega)) (e 63 (by omega) (by omega) (by omega) (by omega)), (e 64 (by omega) (by omega) (by omega) (by omega)).trans hMK, hWR, hw, hz⟩
set_option maxRecDepth 100000 in
set_option maxHeartbeats 4000000 in
theorem st_feed {h : sx_H} (H : IV h) (u : Int32) : sx_Cal 90 [sx_r (some 0), sx_i u] 65 h (IQ 131 [sx_r (some 53), sx_i u]) := by
  obtain ⟨lf, st, rs, rl, it, tp, tape, f, k, acts, t, trc, g0, g1, H⟩ := H
  obtain ⟨h0, hXR, hXT, hXB, hXA, hXK, hXI, hMO, hMR, hMB, hMA, hMT, hMI, hMK, hWR, htp, hWB, hk24, hWA, ht16, hWg0, hWg1⟩ := id H
  obtain ⟨th, cu, sa, tk, va, fa, fp, hm⟩ := id hMO
  obtain ⟨c, w, hw, hc, he⟩ := WB_iff.mp hWB
  have hc6 := hc.1
  obtain ⟨⟨cm0, hq⟩, -⟩ := id hMB
  have hq2 : sx_up h 53 (g_m 0 st (nI k) (nI tp) cu sa tk va fa fp lf (nI t)) 57 = sx_ai 64 (toM f cm0) := (q_up_n (by decide)).trans hq
  obtain ⟨h2, eh2⟩ : ∃ z, z = sx_up h 53 (g_m 0 st (nI k) (nI tp) cu sa tk va fa fp lf (nI t)) := ⟨_, rfl⟩
  have hmm : sx_up h 53 (g_m 0 st (nI k) (nI tp) cu sa tk va fa fp lf (nI t)) = h2 := eh2.symm
  have hIC : IC lf st rs rl it tp tape f k acts t trc g0 g1 h2 := by rw [eh2]; exact IC_53 H (fun j hj => q_up_n hj) ⟨_, _, _, _, _, _, _, q_up_s _ _ _⟩
  have hm3 : h2 53 = g_m 0 st (nI k) (nI tp) cu sa tk va fa fp lf (nI t) := by rw [eh2]; exact q_up_s _ _ _
  have hm4 : ∃ x1 x2 x3 x4 x5 x6 x7 x8 x9 y1 y2 y3, h2 53 = g_m x1 x2 x3 x4 x5 x6 x7 x8 x9 y1 y2 y3 := ⟨_, _, _, _, _, _, _, _, _, _, _, _, hm3⟩
  have hq3 : h2 57 = sx_ai 64 (toM f cm0) := by rw [eh2]; exact hq2
  obtain ⟨⟨tpp, tps, tpt, hT1⟩, hT2⟩ := id hXT
  simp (disch := omega) only [e_const, e_lconst, e_il, e_ll, e_al, e_is, e_as, e_ls, e_inc, e_bin, e_div, e_un, e_lbin, e_ldiv, e_lcmp, e_i2l, e_l2i, e_if1, e_if2, e_go, e_sw, e_dupi, e_dupr, e_dup2, e_popi, e_popr, e_get, e_put, e_iald, e_iast, e_zald, e_zast, e_aald, e_aast, e_sld, e_slen, e_newa, e_newq, e_mna, e_new, e_oi, e_cs, e_cv, e_ci, e_min, e_max, e_copy, e_rv, e_ri, e_rz, e_rl, e_run, sx_en, sx_cat, sx_tk, sx_ps, sx_set, sx_setl, sx_dl, sx_m, sx_sw, sx_ft, List.map_cons, List.map_nil, List.getElem?_cons_zero, List.getElem?_cons_succ, List.replicate_succ, List.replicate_zero, List.set_cons_zero, List.set_cons_succ, List.length_cons, List.length_nil, Nat.reduceAdd, Nat.reduceSub, Nat.reduceLeDiff, Nat.reduceLT, Nat.reduceMul, Nat.zero_le, Nat.le_refl, Nat.add_zero, Nat.zero_add, true_and, and_true, true_or, cX7_feed_c, tX7_feed_0, bX7_feed_0, tX7_feed_14, bX7_feed_14, cX6_add_c, tX6_add_0, bX6_add_0, tX6_add_12, bX6_add_12, h0, s_within, hT1, hT2, q_up_s, q_up_n, q_up_up, q_upd_s, q_upd_n, q_upd_upd, q_in, q_in0, q_in1, q_cl, q_cl0, q_cl1, q_add, q_add1, q_1add, q_add0, q_0add, q_mul, q_ite0, q_ite01, q_10, or_true, not_false_eq_true, not_true_eq_false, q_n0, ne_eq, false_implies, true_implies, true_and, and_true, not_true_eq_false, not_false_eq_true, Bool.false_eq_true, sx_o, Sum.inr.injEq, Prod.mk.injEq, exists_eq', Nat.reduceLT, q_ti0, q_ti, q_lt]
  by_cases hu : 0 ≤ u.toInt ∧ u.toInt ≤ ((255 : Nat) : Int)
  · by_cases ht : tp = 120
    · subst ht
      simp (disch := omega) only [hu, q_up_s, q_up_n, q_up_up, q_upd_s, q_upd_n, q_upd_upd, q_in, q_in0, q_in1, q_cl, q_cl0, q_cl1, q_add, q_add1, q_1add, q_add0, q_0add, q_mul, q_ite0, q_ite01, q_10, or_true, not_false_eq_true, not_true_eq_false, q_n0, ne_eq, false_implies, true_implies, true_and, and_true, not_true_eq_false, not_false_eq_true, Bool.false_eq_true, Int.lt_irrefl]
      refine iq_in ?_
      simp (disch := omega) only [e_const, e_lconst, e_il, e_ll, e_al, e_is, e_as, e_ls, e_inc, e_bin, e_div, e_un, e_lbin, e_ldiv, e_lcmp, e_i2l, e_l2i, e_if1, e_if2, e_go, e_sw, e_dupi, e_dupr, e_dup2, e_popi, e_popr, e_get, e_put, e_iald, e_iast, e_zald, e_zast, e_aald, e_aast, e_sld, e_slen, e_newa, e_newq, e_mna, e_new, e_oi, e_cs, e_cv, e_ci, e_min, e_max, e_copy, e_rv, e_ri, e_rz, e_rl, e_run, sx_en, sx_cat, sx_tk, sx_ps, sx_set, sx_setl, sx_dl, sx_m, sx_sw, sx_ft, List.map_cons, List.map_nil, List.getElem?_cons_zero, List.getElem?_cons_succ, List.replicate_succ, List.replicate_zero, List.set_cons_zero, List.set_cons_succ, List.length_cons, List.length_nil, Nat.reduceAdd, Nat.reduceSub, Nat.reduceLeDiff, Nat.reduceLT, Nat.reduceMul, Nat.zero_le, Nat.le_refl, Nat.add_zero, Nat.zero_add, true_and, and_true, true_or, cX8_feed_c, tX8_feed_0, bX8_feed_0, tX8_feed_20, bX8_feed_20, tX8_feed_32, bX8_feed_32, hm, hmm, hm3, s_in, q_wide, q_lti0, q_lti, hu, q_up_s, q_up_n, q_up_up, q_upd_s, q_upd_n, q_upd_upd, q_in, q_in0, q_in1, q_cl, q_cl0, q_cl1, q_add, q_add1, q_1add, q_add0, q_0add, q_mul, q_ite0, q_ite01, q_10, or_true, not_false_eq_true, not_true_eq_false, q_n0, ne_eq, sx_o, Sum.inr.injEq, Prod.mk.injEq, exists_eq', Nat.reduceLT, false_implies, true_implies, true_and, and_true, not_true_eq_false, not_false_eq_true, Bool.false_eq_true]
      first | exact IV_of hIC | exact ⟨rfl, rfl, IV_of hIC⟩ | (simp; done) | (simp; intros; exact IV_of hIC)
    · have ht' : ((tp : Int) < ((120 : Nat) : Int)) = True := eq_true (by omega)
      have ht2 : tp < 120 := by omega
      have hT3 : sx_up h 14 (sx_ai 120 (upd tape tp u)) 13 = sx_o 5 [sx_r (some 14), sx_i (nI tp), sx_i tpp, sx_i tps, sx_i tpt] := (q_up_n (by decide)).trans hT1
      simp (disch := omega) only [hu, ht', hT1, hT2, hT3, e_const, e_lconst, e_il, e_ll, e_al, e_is, e_as, e_ls, e_inc, e_bin, e_div, e_un, e_lbin, e_ldiv, e_lcmp, e_i2l, e_l2i, e_if1, e_if2, e_go, e_sw, e_dupi, e_dupr, e_dup2, e_popi, e_popr, e_get, e_put, e_iald, e_iast, e_zald, e_zast, e_aald, e_aast, e_sld, e_slen, e_newa, e_newq, e_mna, e_new, e_oi, e_cs, e_cv, e_ci, e_min, e_max, e_copy, e_rv, e_ri, e_rz, e_rl, e_run, sx_en, sx_cat, sx_tk, sx_ps, sx_set, sx_setl, sx_dl, sx_m, sx_sw, sx_ft, List.map_cons, List.map_nil, List.getElem?_cons_zero, List.getElem?_cons_succ, List.replicate_succ, List.replicate_zero, List.set_cons_zero, List.set_cons_succ, List.length_cons, List.length_nil, Nat.reduceAdd, Nat.reduceSub, Nat.reduceLeDiff, Nat.reduceLT, Nat.reduceMul, Nat.zero_le, Nat.le_refl, Nat.add_zero, Nat.zero_add, true_and, and_true, true_or, q_up_s, q_up_n, q_up_up, q_upd_s, q_upd_n, q_upd_upd, q_in, q_in0, q_in1, q_cl, q_cl0, q_cl1, q_add, q_add1, q_1add, q_add0, q_0add, q_mul, q_ite0, q_ite01, q_10, or_true, not_false_eq_true, not_true_eq_false, q_n0, ne_eq, false_implies, true_implies, true_and, and_true, not_true_eq_false, not_false_eq_true, Bool.false_eq_true]
      refine iq_ab ?_
      intro hA ehA
      have rm : hA 53 = g_m th st (nI k) (nI tp) cu sa tk va fa fp lf (nI t) := by rw [ehA]; simp (disch := omega) only [q_up_n]; exact hm
      have rt : hA 61 = sx_ai 120 tape := by rw [ehA]; simp (disch := omega) only [q_up_n]; exact hMT
      have rt2 : ∀ E, sx_up hA 53 E 61 = sx_ai 120 tape := fun E => (q_up_n (by decide)).trans rt
      simp (disch := omega) only [e_const, e_lconst, e_il, e_ll, e_al, e_is, e_as, e_ls, e_inc, e_bin, e_div, e_un, e_lbin, e_ldiv, e_lcmp, e_i2l, e_l2i, e_if1, e_if2, e_go, e_sw, e_dupi, e_dupr, e_dup2, e_popi, e_popr, e_get, e_put, e_iald, e_iast, e_zald, e_zast, e_aald, e_aast, e_sld, e_slen, e_newa, e_newq, e_mna, e_new, e_oi, e_cs, e_cv, e_ci, e_min, e_max, e_copy, e_rv, e_ri, e_rz, e_rl, e_run, sx_en, sx_cat, sx_tk, sx_ps, sx_set, sx_setl, sx_dl, sx_m, sx_sw, sx_ft, List.map_cons, List.map_nil, List.getElem?_cons_zero, List.getElem?_cons_succ, List.replicate_succ, List.replicate_zero, List.set_cons_zero, List.set_cons_succ, List.length_cons, List.length_nil, Nat.reduceAdd, Nat.reduceSub, Nat.reduceLeDiff, Nat.reduceLT, Nat.reduceMul, Nat.zero_le, Nat.le_refl, Nat.add_zero, Nat.zero_add, true_and, and_true, true_or, cX8_feed_c, tX8_feed_0, bX8_feed_0, tX8_feed_20, bX8_feed_20, tX8_feed_32, bX8_feed_32, rm, rt2, s_in, q_wide, q_lti0, q_lti, nI_eq, ht, hu, q_up_s, q_up_n, q_up_up, q_upd_s, q_upd_n, q_upd_upd, q_in, q_in0, q_in1, q_cl, q_cl0, q_cl1, q_add, q_add1, q_1add, q_add0, q_0add, q_mul, q_ite0, q_ite01, q_10, or_true, not_false_eq_true, not_true_eq_false, q_n0, ne_eq, sx_o, Sum.inr.injEq, Prod.mk.injEq, exists_eq', Nat.reduceLT, false_implies, true_implies, true_and, and_true, not_true_eq_false, not_false_eq_true, Bool.false_eq_true]
      refine IV_of (IC_tape (tp' := tp + 1) (tape' := upd tape tp u) H (fun j h1 h2 h3 h4 => ?_) ⟨⟨tpp, tps, tpt, ?_⟩, ?_⟩ ⟨0, cu, sa, tk, va, fa, fp, ?_⟩ ?_ (by omega))
      · rw [ehA]; simp (disch := omega) only [q_up_n]
      · rw [ehA]; simp (disch := omega) only [q_up_n, q_up_s]
      · rw [ehA]; simp (disch := omega) only [q_up_n, q_up_s]
      · rw [ehA]; simp (disch := omega) only [q_up_n, q_up_s]
      · rw [ehA]; simp (disch := omega) only [MT, q_up_n, q_up_s]
  · simp (disch := omega) only [hu, q_up_s, q_up_n, q_up_up, q_upd_s, q_upd_n, q_upd_upd, q_in, q_in0, q_in1, q_cl, q_cl0, q_cl1, q_add, q_add1, q_1add, q_add0, q_0add, q_mul, q_ite0, q_ite01, q_10, or_true, not_false_eq_true, not_true_eq_false, q_n0, ne_eq, false_implies, true_implies, true_and, and_true, not_true_eq_false, not_false_eq_true, Bool.false_eq_true]
    refine iq_in ?_
    simp (disch := omega) only [e_const, e_lconst, e_il, e_ll, e_al, e_is, e_as, e_ls, e_inc, e_bin, e_div, e_un, e_lbin, e_ldiv, e_lcmp, e_i2l, e_l2i, e_if1, e_if2, e_go, e_sw, e_dupi, e_dupr, e_dup2, e_popi, e_popr, e_get, e_put, e_iald, e_iast, e_zald, e_zast, e_aald, e_aast, e_sld, e_slen, e_newa, e_newq, e_mna, e_new, e_oi, e_cs, e_cv, e_ci, e_min, e_max, e_copy, e_rv, e_ri, e_rz, e_rl, e_run, sx_en, sx_cat, sx_tk, sx_ps, sx_set, sx_setl, sx_dl, sx_m, sx_sw, sx_ft, List.map_cons, List.map_nil, List.getElem?_cons_zero, List.getElem?_cons_succ, List.replicate_succ, List.replicate_zero, List.set_cons_zero, List.set_cons_succ, List.length_cons, List.length_nil, Nat.reduceAdd, Nat.reduceSub, Nat.reduceLeDiff, Nat.reduceLT, Nat.reduceMul, Nat.zero_le, Nat.le_refl, Nat.add_zero, Nat.zero_add, true_and, and_true, true_or, cX8_feed_c, tX8_feed_0, bX8_feed_0, tX8_feed_20, bX8_feed_20, tX8_feed_32, bX8_feed_32, hm, hmm, hm3, s_in, q_wide, q_lti0, q_lti, hu, q_up_s, q_up_n, q_up_up, q_upd_s, q_upd_n, q_upd_upd, q_in, q_in0, q_in1, q_cl, q_cl0, q_cl1, q_add, q_add1, q_1add, q_add0, q_0add, q_mul, q_ite0, q_ite01, q_10, or_true, not_false_eq_true, not_true_eq_false, q_n0, ne_eq, sx_o, Sum.inr.injEq, Prod.mk.injEq, exists_eq', Nat.reduceLT, false_implies, true_implies, true_and, and_true, not_true_eq_false, not_false_eq_true, Bool.false_eq_true]
    first | exact IV_of hIC | exact ⟨rfl, rfl, IV_of hIC⟩ | (simp; done) | (simp; intros; exact IV_of hIC)

set_option maxRecDepth 100000 in
set_option maxHeartbeats 4000000 in
theorem st_drop {h : sx_H} (H : IV h) (u : Int32) : sx_Cal 89 [sx_r (some 0), sx_i u] 65 h (IQ 130 [sx_r (some 53), sx_i u]) := by
  obtain ⟨lf, st, rs, rl, it, tp, tape, f, k, acts, t, trc, g0, g1, H⟩ := H
  obtain ⟨h0, hXR, hXT, hXB, hXA, hXK, hXI, hMO, hMR, hMB, hMA, hMT, hMI, hMK, hWR, htp, hWB, hk24, hWA, ht16, hWg0, hWg1⟩ := id H
  obtain ⟨th, cu, sa, tk, va, fa, fp, hm⟩ := id hMO
  obtain ⟨c, w, hw, hc, he⟩ := WB_iff.mp hWB
  have hc6 := hc.1
  obtain ⟨⟨cm0, hq⟩, -⟩ := id hMB
  have hq2 : sx_up h 53 (g_m 0 st (nI k) (nI tp) cu sa tk va fa fp lf (nI t)) 57 = sx_ai 64 (toM f cm0) := (q_up_n (by decide)).trans hq
  obtain ⟨h2, eh2⟩ : ∃ z, z = sx_up h 53 (g_m 0 st (nI k) (nI tp) cu sa tk va fa fp lf (nI t)) := ⟨_, rfl⟩
  have hmm : sx_up h 53 (g_m 0 st (nI k) (nI tp) cu sa tk va fa fp lf (nI t)) = h2 := eh2.symm
  have hIC : IC lf st rs rl it tp tape f k acts t trc g0 g1 h2 := by rw [eh2]; exact IC_53 H (fun j hj => q_up_n hj) ⟨_, _, _, _, _, _, _, q_up_s _ _ _⟩
  have hm3 : h2 53 = g_m 0 st (nI k) (nI tp) cu sa tk va fa fp lf (nI t) := by rw [eh2]; exact q_up_s _ _ _
  have hm4 : ∃ x1 x2 x3 x4 x5 x6 x7 x8 x9 y1 y2 y3, h2 53 = g_m x1 x2 x3 x4 x5 x6 x7 x8 x9 y1 y2 y3 := ⟨_, _, _, _, _, _, _, _, _, _, _, _, hm3⟩
  have hq3 : h2 57 = sx_ai 64 (toM f cm0) := by rw [eh2]; exact hq2
  obtain ⟨hR1, hR2, hR3, ⟨l, hR4, hl⟩, hR5⟩ := id hXR
  obtain ⟨⟨ml, hM1, hml⟩, ⟨mm, hM2, hm7⟩, hM3⟩ := id hMR
  have e7 : ((7 : Nat) : Int) = 7 := rfl
  simp (disch := omega) only [e_const, e_lconst, e_il, e_ll, e_al, e_is, e_as, e_ls, e_inc, e_bin, e_div, e_un, e_lbin, e_ldiv, e_lcmp, e_i2l, e_l2i, e_if1, e_if2, e_go, e_sw, e_dupi, e_dupr, e_dup2, e_popi, e_popr, e_get, e_put, e_iald, e_iast, e_zald, e_zast, e_aald, e_aast, e_sld, e_slen, e_newa, e_newq, e_mna, e_new, e_oi, e_cs, e_cv, e_ci, e_min, e_max, e_copy, e_rv, e_ri, e_rz, e_rl, e_run, sx_en, sx_cat, sx_tk, sx_ps, sx_set, sx_setl, sx_dl, sx_m, sx_sw, sx_ft, List.map_cons, List.map_nil, List.getElem?_cons_zero, List.getElem?_cons_succ, List.replicate_succ, List.replicate_zero, List.set_cons_zero, List.set_cons_succ, List.length_cons, List.length_nil, Nat.reduceAdd, Nat.reduceSub, Nat.reduceLeDiff, Nat.reduceLT, Nat.reduceMul, Nat.zero_le, Nat.le_refl, Nat.add_zero, Nat.zero_add, true_and, and_true, true_or, cX7_drop_c, tX7_drop_0, bX7_drop_0, tX7_drop_10, bX7_drop_10, h0, s_isRow, hR1, q_up_s, q_up_n, q_up_up, q_upd_s, q_upd_n, q_upd_upd, q_in, q_in0, q_in1, q_cl, q_cl0, q_cl1, q_add, q_add1, q_1add, q_add0, q_0add, q_mul, q_ite0, q_ite01, q_10, or_true, not_false_eq_true, not_true_eq_false, q_n0, ne_eq, false_implies, true_implies, true_and, and_true, not_true_eq_false, not_false_eq_true, Bool.false_eq_true, sx_o, Sum.inr.injEq, Prod.mk.injEq, exists_eq', Nat.reduceLT, q_ti0, q_ti, q_lt]
  by_cases hu : 0 ≤ u.toInt ∧ u.toInt ≤ 7
  · obtain ⟨e, he, rfl⟩ := t2n (m := 7) (x := u) (by omega) (by omega)
    simp (disch := omega) only [hu, e_const, e_lconst, e_il, e_ll, e_al, e_is, e_as, e_ls, e_inc, e_bin, e_div, e_un, e_lbin, e_ldiv, e_lcmp, e_i2l, e_l2i, e_if1, e_if2, e_go, e_sw, e_dupi, e_dupr, e_dup2, e_popi, e_popr, e_get, e_put, e_iald, e_iast, e_zald, e_zast, e_aald, e_aast, e_sld, e_slen, e_newa, e_newq, e_mna, e_new, e_oi, e_cs, e_cv, e_ci, e_min, e_max, e_copy, e_rv, e_ri, e_rz, e_rl, e_run, sx_en, sx_cat, sx_tk, sx_ps, sx_set, sx_setl, sx_dl, sx_m, sx_sw, sx_ft, List.map_cons, List.map_nil, List.getElem?_cons_zero, List.getElem?_cons_succ, List.replicate_succ, List.replicate_zero, List.set_cons_zero, List.set_cons_succ, List.length_cons, List.length_nil, Nat.reduceAdd, Nat.reduceSub, Nat.reduceLeDiff, Nat.reduceLT, Nat.reduceMul, Nat.zero_le, Nat.le_refl, Nat.add_zero, Nat.zero_add, true_and, and_true, true_or, cX5_lose_c, tX5_lose_0, bX5_lose_0, tX5_lose_16, bX5_lose_16, cX5_find_c, tX5_find_0, bX5_find_0, hR1, hR5, q_up_s, q_up_n, q_up_up, q_upd_s, q_upd_n, q_upd_upd, q_in, q_in0, q_in1, q_cl, q_cl0, q_cl1, q_add, q_add1, q_1add, q_add0, q_0add, q_mul, q_ite0, q_ite01, q_10, or_true, not_false_eq_true, not_true_eq_false, q_n0, ne_eq, false_implies, true_implies, true_and, and_true, not_true_eq_false, not_false_eq_true, Bool.false_eq_true, sx_o, Sum.inr.injEq, Prod.mk.injEq, exists_eq', Nat.reduceLT]
    have hu' : 0 ≤ (e : Int) ∧ (e : Int) ≤ 7 := by omega
    have he8 : e < 8 := by omega
    by_cases hz : rs e = -1
    · simp (disch := omega) only [hz, q_up_s, q_up_n, q_up_up, q_upd_s, q_upd_n, q_upd_upd, q_in, q_in0, q_in1, q_cl, q_cl0, q_cl1, q_add, q_add1, q_1add, q_add0, q_0add, q_mul, q_ite0, q_ite01, q_10, or_true, not_false_eq_true, not_true_eq_false, q_n0, ne_eq, false_implies, true_implies, true_and, and_true, not_true_eq_false, not_false_eq_true, Bool.false_eq_true]
      refine iq_ab ?_
      intro hA ehA
      have rm : hA 53 = g_m th st (nI k) (nI tp) cu sa tk va fa fp lf (nI t) := by rw [ehA]; simp (disch := omega) only [q_up_n]; exact hm
      obtain ⟨hB, ehB⟩ : ∃ z, z = sx_up hA 53 (g_m 0 st (nI k) (nI tp) cu sa tk va fa fp lf (nI t)) := ⟨_, rfl⟩
      have rmm : sx_up hA 53 (g_m 0 st (nI k) (nI tp) cu sa tk va fa fp lf (nI t)) = hB := ehB.symm
      have rm3 : hB 53 = g_m 0 st (nI k) (nI tp) cu sa tk va fa fp lf (nI t) := by rw [ehB]; exact q_up_s _ _ _
      have rm4 : ∃ x1 x2 x3 x4 x5 x6 x7 x8 x9 y1 y2 y3, hB 53 = g_m x1 x2 x3 x4 x5 x6 x7 x8 x9 y1 y2 y3 := ⟨_, _, _, _, _, _, _, _, _, _, _, _, rm3⟩
      have rA54 := (show hA 54 = h 54 by rw [ehA]; simp (disch := omega) only [q_up_n]).trans hM1
      have rB54 := (show hB 54 = hA 54 by rw [ehB]; exact q_up_n (by decide)).trans rA54
      have rE54 := fun (E : sx_E) => (show sx_up hB 53 E 54 = hB 54 from q_up_n (by decide)).trans rB54
      have rA55 := (show hA 55 = h 55 by rw [ehA]; simp (disch := omega) only [q_up_n]).trans hM2
      have rB55 := (show hB 55 = hA 55 by rw [ehB]; exact q_up_n (by decide)).trans rA55
      have rE55 := fun (E : sx_E) => (show sx_up hB 53 E 55 = hB 55 from q_up_n (by decide)).trans rB55
      have hq1 : (0 ≤ (-1 : Int32)) = False := eq_false (by decide +kernel)
      simp (disch := omega) only [e_const, e_lconst, e_il, e_ll, e_al, e_is, e_as, e_ls, e_inc, e_bin, e_div, e_un, e_lbin, e_ldiv, e_lcmp, e_i2l, e_l2i, e_if1, e_if2, e_go, e_sw, e_dupi, e_dupr, e_dup2, e_popi, e_popr, e_get, e_put, e_iald, e_iast, e_zald, e_zast, e_aald, e_aast, e_sld, e_slen, e_newa, e_newq, e_mna, e_new, e_oi, e_cs, e_cv, e_ci, e_min, e_max, e_copy, e_rv, e_ri, e_rz, e_rl, e_run, sx_en, sx_cat, sx_tk, sx_ps, sx_set, sx_setl, sx_dl, sx_m, sx_sw, sx_ft, List.map_cons, List.map_nil, List.getElem?_cons_zero, List.getElem?_cons_succ, List.replicate_succ, List.replicate_zero, List.set_cons_zero, List.set_cons_succ, List.length_cons, List.length_nil, Nat.reduceAdd, Nat.reduceSub, Nat.reduceLeDiff, Nat.reduceLT, Nat.reduceMul, Nat.zero_le, Nat.le_refl, Nat.add_zero, Nat.zero_add, true_and, and_true, true_or, cX8_drop_c, tX8_drop_0, bX8_drop_0, tX8_drop_15, bX8_drop_15, tX8_drop_35, bX8_drop_35, cX8_finding_c, tX8_finding_0, bX8_finding_0, rm, rmm, rm3, rB54, rE54, rE55, s_isRowM, q_ti, hu', (hml e (by omega)).1 hz, hq1, q_up_s, q_up_n, q_up_up, q_upd_s, q_upd_n, q_upd_upd, q_in, q_in0, q_in1, q_cl, q_cl0, q_cl1, q_add, q_add1, q_1add, q_add0, q_0add, q_mul, q_ite0, q_ite01, q_10, or_true, not_false_eq_true, not_true_eq_false, q_n0, ne_eq, sx_o, Sum.inr.injEq, Prod.mk.injEq, exists_eq', Nat.reduceLT, false_implies, true_implies, true_and, and_true, not_true_eq_false, not_false_eq_true, Bool.false_eq_true]
      subst ehB; subst ehA
      simp only [q_up_up]
      exact IV_of (IC_st H)
    · simp (disch := omega) only [hz, q_up_s, q_up_n, q_up_up, q_upd_s, q_upd_n, q_upd_upd, q_in, q_in0, q_in1, q_cl, q_cl0, q_cl1, q_add, q_add1, q_1add, q_add0, q_0add, q_mul, q_ite0, q_ite01, q_10, or_true, not_false_eq_true, not_true_eq_false, q_n0, ne_eq, false_implies, true_implies, true_and, and_true, not_true_eq_false, not_false_eq_true, Bool.false_eq_true]
      refine iq_ab ?_
      intro hA ehA
      have rm : hA 53 = g_m th st (nI k) (nI tp) cu sa tk va fa fp lf (nI t) := by rw [ehA]; simp (disch := omega) only [q_up_n]; exact hm
      obtain ⟨hB, ehB⟩ : ∃ z, z = sx_up hA 53 (g_m 0 st (nI k) (nI tp) cu sa tk va fa fp lf (nI t)) := ⟨_, rfl⟩
      have rmm : sx_up hA 53 (g_m 0 st (nI k) (nI tp) cu sa tk va fa fp lf (nI t)) = hB := ehB.symm
      have rm3 : hB 53 = g_m 0 st (nI k) (nI tp) cu sa tk va fa fp lf (nI t) := by rw [ehB]; exact q_up_s _ _ _
      have rm4 : ∃ x1 x2 x3 x4 x5 x6 x7 x8 x9 y1 y2 y3, hB 53 = g_m x1 x2 x3 x4 x5 x6 x7 x8 x9 y1 y2 y3 := ⟨_, _, _, _, _, _, _, _, _, _, _, _, rm3⟩
      have rA54 := (show hA 54 = h 54 by rw [ehA]; simp (disch := omega) only [q_up_n]).trans hM1
      have rB54 := (show hB 54 = hA 54 by rw [ehB]; exact q_up_n (by decide)).trans rA54
      have rE54 := fun (E : sx_E) => (show sx_up hB 53 E 54 = hB 54 from q_up_n (by decide)).trans rB54
      have rA55 := (show hA 55 = h 55 by rw [ehA]; simp (disch := omega) only [q_up_n]).trans hM2
      have rB55 := (show hB 55 = hA 55 by rw [ehB]; exact q_up_n (by decide)).trans rA55
      have rE55 := fun (E : sx_E) => (show sx_up hB 53 E 55 = hB 55 from q_up_n (by decide)).trans rB55
      have hq1 : (0 ≤ ml e) = True := by
        rw [(hml e (by omega)).2 hz]
        rcases hWR e (by omega) with w | ⟨-, w⟩
        · exact absurd w hz
        · rcases w with w | w | w <;> rw [w] <;> exact eq_true (by decide +kernel)
      have rn : hA 54 = sx_ai 8 ml := rA54
      simp (disch := omega) only [e_const, e_lconst, e_il, e_ll, e_al, e_is, e_as, e_ls, e_inc, e_bin, e_div, e_un, e_lbin, e_ldiv, e_lcmp, e_i2l, e_l2i, e_if1, e_if2, e_go, e_sw, e_dupi, e_dupr, e_dup2, e_popi, e_popr, e_get, e_put, e_iald, e_iast, e_zald, e_zast, e_aald, e_aast, e_sld, e_slen, e_newa, e_newq, e_mna, e_new, e_oi, e_cs, e_cv, e_ci, e_min, e_max, e_copy, e_rv, e_ri, e_rz, e_rl, e_run, sx_en, sx_cat, sx_tk, sx_ps, sx_set, sx_setl, sx_dl, sx_m, sx_sw, sx_ft, List.map_cons, List.map_nil, List.getElem?_cons_zero, List.getElem?_cons_succ, List.replicate_succ, List.replicate_zero, List.set_cons_zero, List.set_cons_succ, List.length_cons, List.length_nil, Nat.reduceAdd, Nat.reduceSub, Nat.reduceLeDiff, Nat.reduceLT, Nat.reduceMul, Nat.zero_le, Nat.le_refl, Nat.add_zero, Nat.zero_add, true_and, and_true, true_or, cX8_drop_c, tX8_drop_0, bX8_drop_0, tX8_drop_15, bX8_drop_15, tX8_drop_35, bX8_drop_35, cX8_finding_c, tX8_finding_0, bX8_finding_0, rm, rmm, rm3, rB54, rE54, rE55, s_isRowM, q_ti, hu', hq1, hm7 e (by omega) hz, q_up_s, q_up_n, q_up_up, q_upd_s, q_upd_n, q_upd_upd, q_in, q_in0, q_in1, q_cl, q_cl0, q_cl1, q_add, q_add1, q_1add, q_add0, q_0add, q_mul, q_ite0, q_ite01, q_10, or_true, not_false_eq_true, not_true_eq_false, q_n0, ne_eq, sx_o, Sum.inr.injEq, Prod.mk.injEq, exists_eq', Nat.reduceLT, false_implies, true_implies, true_and, and_true, not_true_eq_false, not_false_eq_true, Bool.false_eq_true]
      refine IV_of (IC_rows (st' := 0) (rs' := upd rs e (-1)) (rl' := rl) (it' := it) H (fun j h1 h2 h3 => ?_) ⟨?_, ?_, fun r hr => ?_, ⟨l, ?_, fun r hr hz => ?_⟩, ?_⟩ ⟨0, cu, sa, tk, va, fa, fp, ?_⟩ ⟨⟨_, q_up_s _ _ _, fun r hr => ⟨fun hz => ?_, fun hz => ?_⟩⟩, ⟨mm, ?_, fun r hr hz => ?_⟩, ?_⟩ (fun r hr => ?_))
      · simp (disch := omega) only [ehA, ehB, q_up_n, q_up_s, q_up_up]
      · simp (disch := omega) only [ehA, ehB, q_up_n, q_up_s, q_up_up]
      · simp (disch := omega) only [ehA, ehB, q_up_n, q_up_s, q_up_up]; exact hR2
      · simp (disch := omega) only [ehA, ehB, q_up_n, q_up_s, q_up_up]; exact hR3 r hr
      · simp (disch := omega) only [ehA, ehB, q_up_n, q_up_s, q_up_up]; exact hR4
      · exact hl r hr (fun z => hz (by by_cases q : r = e; rw [q, q_upd_s]; rw [q_upd_n q]; exact z))
      · simp (disch := omega) only [ehA, ehB, q_up_n, q_up_s, q_up_up]
      · simp (disch := omega) only [ehA, ehB, q_up_n, q_up_s, q_up_up]
      · by_cases q : r = e
        · rw [q, q_upd_s]
        · rw [q_upd_n q] at hz ⊢; exact (hml r hr).1 hz
      · have q : r ≠ e := fun q => hz (by rw [q, q_upd_s])
        rw [q_upd_n q] at hz ⊢; exact (hml r hr).2 hz
      · simp (disch := omega) only [ehA, ehB, q_up_n, q_up_s, q_up_up]; exact hM2
      · have q : r ≠ e := fun q => hz (by rw [q, q_upd_s])
        rw [q_upd_n q] at hz ⊢; exact hm7 r hr hz
      · simp (disch := omega) only [ehA, ehB, q_up_n, q_up_s, q_up_up]; exact hM3
      · by_cases q : r = e
        · rw [q, q_upd_s]; exact Or.inl rfl
        · rw [q_upd_n q]; exact hWR r hr
  · simp (disch := omega) only [hu, q_up_s, q_up_n, q_up_up, q_upd_s, q_upd_n, q_upd_upd, q_in, q_in0, q_in1, q_cl, q_cl0, q_cl1, q_add, q_add1, q_1add, q_add0, q_0add, q_mul, q_ite0, q_ite01, q_10, or_true, not_false_eq_true, not_true_eq_false, q_n0, ne_eq, false_implies, true_implies, true_and, and_true, not_true_eq_false, not_false_eq_true, Bool.false_eq_true]
    refine iq_in ?_
    simp (disch := omega) only [e_const, e_lconst, e_il, e_ll, e_al, e_is, e_as, e_ls, e_inc, e_bin, e_div, e_un, e_lbin, e_ldiv, e_lcmp, e_i2l, e_l2i, e_if1, e_if2, e_go, e_sw, e_dupi, e_dupr, e_dup2, e_popi, e_popr, e_get, e_put, e_iald, e_iast, e_zald, e_zast, e_aald, e_aast, e_sld, e_slen, e_newa, e_newq, e_mna, e_new, e_oi, e_cs, e_cv, e_ci, e_min, e_max, e_copy, e_rv, e_ri, e_rz, e_rl, e_run, sx_en, sx_cat, sx_tk, sx_ps, sx_set, sx_setl, sx_dl, sx_m, sx_sw, sx_ft, List.map_cons, List.map_nil, List.getElem?_cons_zero, List.getElem?_cons_succ, List.replicate_succ, List.replicate_zero, List.set_cons_zero, List.set_cons_succ, List.length_cons, List.length_nil, Nat.reduceAdd, Nat.reduceSub, Nat.reduceLeDiff, Nat.reduceLT, Nat.reduceMul, Nat.zero_le, Nat.le_refl, Nat.add_zero, Nat.zero_add, true_and, and_true, true_or, cX8_drop_c, tX8_drop_0, bX8_drop_0, tX8_drop_15, bX8_drop_15, tX8_drop_35, bX8_drop_35, hm, hmm, hm3, s_isRowM, q_wide, q_lti0, q_lti, hu, q_up_s, q_up_n, q_up_up, q_upd_s, q_upd_n, q_upd_upd, q_in, q_in0, q_in1, q_cl, q_cl0, q_cl1, q_add, q_add1, q_1add, q_add0, q_0add, q_mul, q_ite0, q_ite01, q_10, or_true, not_false_eq_true, not_true_eq_false, q_n0, ne_eq, sx_o, Sum.inr.injEq, Prod.mk.injEq, exists_eq', Nat.reduceLT, false_implies, true_implies, true_and, and_true, not_true_eq_false, not_false_eq_true, Bool.false_eq_true]
    first | exact IV_of hIC | exact ⟨rfl, rfl, IV_of hIC⟩ | (simp; done) | (simp; intros; exact IV_of hIC)
