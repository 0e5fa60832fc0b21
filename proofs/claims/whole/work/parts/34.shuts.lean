/-! weeks until it shuts -/
def p_sh (f : Nat → Int32) : Nat → Nat → Int32
  | 0, _ => -1000000
  | k + 1, i => if p_wks f i 57 = 1 then nI i else p_sh f k (i + 1)
section SH
variable {n : Nat} {f : Nat → Int32}
set_option maxRecDepth 100000 in
set_option maxHeartbeats 4000000 in
theorem s_shutsB_lp (hn : 45 < n) (Rt : sx_R) : ∀ (k i : Nat) (h : sx_H), i + k = 61 → h 45 = sx_o 3 [sx_r (some 15), sx_r (some 17)] → h 17 = sx_o 2 [sx_r (some 18)] → h 18 = sx_ai 62 (p_wks f i) → (∀ j, j ≤ 61 → Rt (some (sx_i (p_sh f k i))) n (sx_up h 18 (sx_ai 62 (p_wks f j))) 0 0) → sx_T BX4_weeksUntilShut sx_Cal Rt 13 [some (sx_r (some 45)), some (sx_i (nI 60)), some (sx_i (nI i))] [] n h 0 0 := by
  have hn2 : 17 < n := by omega
  have hn3 : 18 < n := by omega
  intro k
  induction k with
  | zero =>
    intro i h hi h1 h2 h3 hR
    have : i = 61 := by omega
    subst this
    have hR := hR 61 (by omega)
    rw [q_up_id h3] at hR
    have hlt : (nI 60 < nI 61) = True := eq_true (by decide +kernel)
    rw [tX4_weeksUntilShut_13]
    simp (disch := omega) only [e_const, e_lconst, e_il, e_ll, e_al, e_is, e_as, e_ls, e_inc, e_bin, e_div, e_un, e_lbin, e_ldiv, e_lcmp, e_i2l, e_l2i, e_if1, e_if2, e_go, e_sw, e_dupi, e_dupr, e_dup2, e_popi, e_popr, e_get, e_put, e_iald, e_iast, e_zald, e_zast, e_aald, e_aast, e_sld, e_slen, e_newa, e_newq, e_mna, e_new, e_oi, e_cs, e_cv, e_ci, e_min, e_max, e_copy, e_rv, e_ri, e_rz, e_rl, e_run, sx_en, sx_cat, sx_tk, sx_ps, sx_set, sx_setl, sx_dl, sx_m, sx_sw, sx_ft, List.map_cons, List.map_nil, List.getElem?_cons_zero, List.getElem?_cons_succ, List.replicate_succ, List.replicate_zero, List.set_cons_zero, List.set_cons_succ, List.length_cons, List.length_nil, Nat.reduceAdd, Nat.reduceSub, Nat.reduceLeDiff, Nat.reduceLT, Nat.reduceMul, Nat.zero_le, Nat.le_refl, Nat.add_zero, Nat.zero_add, true_and, and_true, true_or, bX4_weeksUntilShut_13, tX4_weeksUntilShut_48, bX4_weeksUntilShut_48, hlt, q_up_s, q_up_n, q_up_up, q_upd_s, q_upd_n, q_upd_upd, q_in, q_in0, q_in1, q_cl, q_cl0, q_cl1, q_add, q_add1, q_1add, q_add0, q_0add, q_mul, q_ite0, q_ite01, q_10, or_true, not_false_eq_true, not_true_eq_false, q_n0, ne_eq, false_implies, true_implies, true_and, and_true, not_true_eq_false, not_false_eq_true, Bool.false_eq_true]
    exact hR
  | succ k ih =>
    intro i h hi h1 h2 h3 hR
    have hle : (nI 60 < nI i) = False := eq_false (by rw [q_lt, q_ti (by omega), q_ti (by omega)]; omega)
    rw [tX4_weeksUntilShut_13]
    simp (disch := omega) only [e_const, e_lconst, e_il, e_ll, e_al, e_is, e_as, e_ls, e_inc, e_bin, e_div, e_un, e_lbin, e_ldiv, e_lcmp, e_i2l, e_l2i, e_if1, e_if2, e_go, e_sw, e_dupi, e_dupr, e_dup2, e_popi, e_popr, e_get, e_put, e_iald, e_iast, e_zald, e_zast, e_aald, e_aast, e_sld, e_slen, e_newa, e_newq, e_mna, e_new, e_oi, e_cs, e_cv, e_ci, e_min, e_max, e_copy, e_rv, e_ri, e_rz, e_rl, e_run, sx_en, sx_cat, sx_tk, sx_ps, sx_set, sx_setl, sx_dl, sx_m, sx_sw, sx_ft, List.map_cons, List.map_nil, List.getElem?_cons_zero, List.getElem?_cons_succ, List.replicate_succ, List.replicate_zero, List.set_cons_zero, List.set_cons_succ, List.length_cons, List.length_nil, Nat.reduceAdd, Nat.reduceSub, Nat.reduceLeDiff, Nat.reduceLT, Nat.reduceMul, Nat.zero_le, Nat.le_refl, Nat.add_zero, Nat.zero_add, true_and, and_true, true_or, bX4_weeksUntilShut_13, tX4_weeksUntilShut_34, bX4_weeksUntilShut_34, h1, h2, h3, hn, hn2, hn3, hle, q_up_s, q_up_n, q_up_up, q_upd_s, q_upd_n, q_upd_upd, q_in, q_in0, q_in1, q_cl, q_cl0, q_cl1, q_add, q_add1, q_1add, q_add0, q_0add, q_mul, q_ite0, q_ite01, q_10, or_true, not_false_eq_true, not_true_eq_false, q_n0, ne_eq, false_implies, true_implies, true_and, and_true, not_true_eq_false, not_false_eq_true, Bool.false_eq_true, sx_o, Sum.inr.injEq, Prod.mk.injEq, exists_eq', Nat.reduceLT]
    refine ⟨fun z => ?_, fun z => ?_⟩
    · have := ih (i + 1) (sx_up h 18 (sx_ai 62 (p_wks f (i + 1)))) (by omega) ((q_up_n (by omega)).trans h1) ((q_up_n (by omega)).trans h2) (q_up_s _ _ _) (fun j hj => by rw [q_up_up]; have := hR j hj; rw [p_sh, if_neg z] at this; exact this)
      refine s_passWeek h2 h3 (by decide) hn2 hn3 ?_
      simp (disch := omega) only [e_const, e_lconst, e_il, e_ll, e_al, e_is, e_as, e_ls, e_inc, e_bin, e_div, e_un, e_lbin, e_ldiv, e_lcmp, e_i2l, e_l2i, e_if1, e_if2, e_go, e_sw, e_dupi, e_dupr, e_dup2, e_popi, e_popr, e_get, e_put, e_iald, e_iast, e_zald, e_zast, e_aald, e_aast, e_sld, e_slen, e_newa, e_newq, e_mna, e_new, e_oi, e_cs, e_cv, e_ci, e_min, e_max, e_copy, e_rv, e_ri, e_rz, e_rl, e_run, sx_en, sx_cat, sx_tk, sx_ps, sx_set, sx_setl, sx_dl, sx_m, sx_sw, sx_ft, List.map_cons, List.map_nil, List.getElem?_cons_zero, List.getElem?_cons_succ, List.replicate_succ, List.replicate_zero, List.set_cons_zero, List.set_cons_succ, List.length_cons, List.length_nil, Nat.reduceAdd, Nat.reduceSub, Nat.reduceLeDiff, Nat.reduceLT, Nat.reduceMul, Nat.zero_le, Nat.le_refl, Nat.add_zero, Nat.zero_add, true_and, and_true, true_or, hn, q_up_s, q_up_n, q_up_up, q_upd_s, q_upd_n, q_upd_upd, q_in, q_in0, q_in1, q_cl, q_cl0, q_cl1, q_add, q_add1, q_1add, q_add0, q_0add, q_mul, q_ite0, q_ite01, q_10, or_true, not_false_eq_true, not_true_eq_false, q_n0, ne_eq, false_implies, true_implies, true_and, and_true, not_true_eq_false, not_false_eq_true, Bool.false_eq_true]
      exact this
    · have := hR i (by omega)
      rw [q_up_id h3, p_sh, if_pos (Classical.not_not.mp z)] at this
      exact this
set_option maxRecDepth 100000 in
set_option maxHeartbeats 4000000 in
theorem s_shutsM_lp {W : Nat} {th st ac tp cu sa tk va fa fp la tr : Int32} (hn : 59 < n) (hB : WB W f) (hW : W + 61 ≤ 3000) (h58 : ¬ f 58 = 0) (Rt : sx_R) : ∀ (k i : Nat) (h : sx_H) (c : Int32), i + k = 61 → h 53 = g_m th st ac tp cu sa tk va fa fp la tr → h 59 = sx_ai 64 (toM (p_wks f i) c) → (∀ j c', Rt (some (sx_i (p_sh f k i))) n (sx_up h 59 (sx_ai 64 (toM (p_wks f j) c'))) 0 0) → sx_T BX8_shuts sx_Cal Rt 21 [some (sx_r (some 53)), some (sx_i (nI i))] [] n h 0 0 := by
  have hn2 : 53 < n := by omega
  intro k
  induction k with
  | zero =>
    intro i h c hi h1 h3 hR
    have : i = 61 := by omega
    subst this
    have hR := hR 61 c
    rw [q_up_id h3] at hR
    rw [tX8_shuts_21]
    simp (disch := omega) only [e_const, e_lconst, e_il, e_ll, e_al, e_is, e_as, e_ls, e_inc, e_bin, e_div, e_un, e_lbin, e_ldiv, e_lcmp, e_i2l, e_l2i, e_if1, e_if2, e_go, e_sw, e_dupi, e_dupr, e_dup2, e_popi, e_popr, e_get, e_put, e_iald, e_iast, e_zald, e_zast, e_aald, e_aast, e_sld, e_slen, e_newa, e_newq, e_mna, e_new, e_oi, e_cs, e_cv, e_ci, e_min, e_max, e_copy, e_rv, e_ri, e_rz, e_rl, e_run, sx_en, sx_cat, sx_tk, sx_ps, sx_set, sx_setl, sx_dl, sx_m, sx_sw, sx_ft, List.map_cons, List.map_nil, List.getElem?_cons_zero, List.getElem?_cons_succ, List.replicate_succ, List.replicate_zero, List.set_cons_zero, List.set_cons_succ, List.length_cons, List.length_nil, Nat.reduceAdd, Nat.reduceSub, Nat.reduceLeDiff, Nat.reduceLT, Nat.reduceMul, Nat.zero_le, Nat.le_refl, Nat.add_zero, Nat.zero_add, true_and, and_true, true_or, bX8_shuts_21, tX8_shuts_53, bX8_shuts_53, q_le, q_ti, Int.le_refl, q_up_s, q_up_n, q_up_up, q_upd_s, q_upd_n, q_upd_upd, q_in, q_in0, q_in1, q_cl, q_cl0, q_cl1, q_add, q_add1, q_1add, q_add0, q_0add, q_mul, q_ite0, q_ite01, q_10, or_true, not_false_eq_true, not_true_eq_false, q_n0, ne_eq, false_implies, true_implies, true_and, and_true, not_true_eq_false, not_false_eq_true, Bool.false_eq_true]
    exact hR
  | succ k ih =>
    intro i h c hi h1 h3 hR
    obtain ⟨b1, b2⟩ := wks_all hB i (by omega)
    have hle : (((61 : Nat) : Int) ≤ (i : Int)) = False := eq_false (by omega)
    rw [tX8_shuts_21]
    simp (disch := omega) only [e_const, e_lconst, e_il, e_ll, e_al, e_is, e_as, e_ls, e_inc, e_bin, e_div, e_un, e_lbin, e_ldiv, e_lcmp, e_i2l, e_l2i, e_if1, e_if2, e_go, e_sw, e_dupi, e_dupr, e_dup2, e_popi, e_popr, e_get, e_put, e_iald, e_iast, e_zald, e_zast, e_aald, e_aast, e_sld, e_slen, e_newa, e_newq, e_mna, e_new, e_oi, e_cs, e_cv, e_ci, e_min, e_max, e_copy, e_rv, e_ri, e_rz, e_rl, e_run, sx_en, sx_cat, sx_tk, sx_ps, sx_set, sx_setl, sx_dl, sx_m, sx_sw, sx_ft, List.map_cons, List.map_nil, List.getElem?_cons_zero, List.getElem?_cons_succ, List.replicate_succ, List.replicate_zero, List.set_cons_zero, List.set_cons_succ, List.length_cons, List.length_nil, Nat.reduceAdd, Nat.reduceSub, Nat.reduceLeDiff, Nat.reduceLT, Nat.reduceMul, Nat.zero_le, Nat.le_refl, Nat.add_zero, Nat.zero_add, true_and, and_true, true_or, bX8_shuts_21, tX8_shuts_40, bX8_shuts_40, h1, h3, hn, hn2, hle, q_le, q_ti, q_up_s, q_up_n, q_up_up, q_upd_s, q_upd_n, q_upd_upd, q_in, q_in0, q_in1, q_cl, q_cl0, q_cl1, q_add, q_add1, q_1add, q_add0, q_0add, q_mul, q_ite0, q_ite01, q_10, or_true, not_false_eq_true, not_true_eq_false, q_n0, ne_eq, m_r0, m_r1, m_r2, m_r3, m_r4, m_r5, m_r6, m_r7, m_r8, m_u0, m_u1, m_u2, m_u3, m_u4, m_u5, m_u6, m_u7, m_u8, m_s1, m_s2, m_s3, m_s4, m_s5, m_s6, m_s7, m_s8, m_s9, m_w1, m_w2, m_w3, m_w5, m_w6, m_w7, m_w8, m_w9, false_implies, true_implies, true_and, and_true, not_true_eq_false, not_false_eq_true, Bool.false_eq_true, sx_o, Sum.inr.injEq, Prod.mk.injEq, exists_eq', Nat.reduceLT]
    refine ⟨fun z => ?_, fun z => ?_⟩
    · have := ih (i + 1) (sx_up h 59 (sx_ai 64 (toM (p_wks f (i + 1)) (p_wk (p_wks f i)).2))) (p_wk (p_wks f i)).2 (by omega) ((q_up_n (by omega)).trans h1) (q_up_s _ _ _) (fun j c' => by rw [q_up_up]; have := hR j c'; rw [p_sh, if_neg z] at this; exact this)
      refine s_weekM b1 (by omega) (by rw [b2]; exact h58) h3 hn ?_
      simp (disch := omega) only [e_const, e_lconst, e_il, e_ll, e_al, e_is, e_as, e_ls, e_inc, e_bin, e_div, e_un, e_lbin, e_ldiv, e_lcmp, e_i2l, e_l2i, e_if1, e_if2, e_go, e_sw, e_dupi, e_dupr, e_dup2, e_popi, e_popr, e_get, e_put, e_iald, e_iast, e_zald, e_zast, e_aald, e_aast, e_sld, e_slen, e_newa, e_newq, e_mna, e_new, e_oi, e_cs, e_cv, e_ci, e_min, e_max, e_copy, e_rv, e_ri, e_rz, e_rl, e_run, sx_en, sx_cat, sx_tk, sx_ps, sx_set, sx_setl, sx_dl, sx_m, sx_sw, sx_ft, List.map_cons, List.map_nil, List.getElem?_cons_zero, List.getElem?_cons_succ, List.replicate_succ, List.replicate_zero, List.set_cons_zero, List.set_cons_succ, List.length_cons, List.length_nil, Nat.reduceAdd, Nat.reduceSub, Nat.reduceLeDiff, Nat.reduceLT, Nat.reduceMul, Nat.zero_le, Nat.le_refl, Nat.add_zero, Nat.zero_add, true_and, and_true, true_or, q_up_s, q_up_n, q_up_up, q_upd_s, q_upd_n, q_upd_upd, q_in, q_in0, q_in1, q_cl, q_cl0, q_cl1, q_add, q_add1, q_1add, q_add0, q_0add, q_mul, q_ite0, q_ite01, q_10, or_true, not_false_eq_true, not_true_eq_false, q_n0, ne_eq, false_implies, true_implies, true_and, and_true, not_true_eq_false, not_false_eq_true, Bool.false_eq_true]
      exact this
    · have := hR i c
      rw [q_up_id h3, p_sh, if_pos (Classical.not_not.mp z)] at this
      exact this
end SH
set_option maxRecDepth 100000 in
set_option maxHeartbeats 4000000 in
theorem st_shuts {h : sx_H} (H : IV h) : sx_Cal 103 [sx_r (some 0)] 65 h (IQ 169 [sx_r (some 53)]) := by
  obtain ⟨lf, st, rs, rl, it, tp, tape, f, k, acts, t, trc, g0, g1, H⟩ := H
  obtain ⟨h0, hXR, hXT, hXB, hXA, hXK, hXI, hMO, hMR, hMB, hMA, hMT, hMI, hMK, hWR, htp, hWB, hk24, hWA, ht16, hWg0, hWg1⟩ := id H
  obtain ⟨th, cu, sa, tk, va, fa, fp, hm⟩ := id hMO
  obtain ⟨c, w, hw, hc, he⟩ := WB_iff.mp hWB
  have hc6 := hc.1
  obtain ⟨⟨cm0, hq⟩, -⟩ := id hMB
  have hq2 : sx_up h 53 (g_m 0 st (nI k) (nI tp) cu sa tk va fa fp lf (nI t)) 57 = sx_ai 64 (toM f cm0) := (q_up_n (by decide)).trans hq
  obtain ⟨h2, eh2⟩ : ∃ z, z = sx_up h 53 (g_m 0 st (nI k) (nI tp) cu sa tk va fa fp lf (nI t)) := ⟨_, rfl⟩
  have hmm : sx_up h 53 (g_m 0 st (nI k) (nI tp) cu sa tk va fa fp lf (nI t)) = h2 := eh2.symm
  have hIC : IC lf st rs rl it tp tape f k acts t trc g0 g1 h2 := by rw [eh2]; exact IC_53 H (fun j hj => q_up_n hj) ⟨_, _, _, _, _, _, _, q_up_s _ _ _⟩
  have hm3 : h2 53 = g_m 0 st (nI k) (nI tp) cu sa tk va fa fp lf (nI t) := by rw [eh2]; exact q_up_s _ _ _
  have hm4 : ∃ x1 x2 x3 x4 x5 x6 x7 x8 x9 y1 y2 y3, h2 53 = g_m x1 x2 x3 x4 x5 x6 x7 x8 x9 y1 y2 y3 := ⟨_, _, _, _, _, _, _, _, _, _, _, _, hm3⟩
  have hq3 : h2 57 = sx_ai 64 (toM f cm0) := by rw [eh2]; exact hq2
  obtain ⟨hB1, hB2, hB3, ⟨g, hB4, hB5⟩, hB6⟩ := id hXB
  obtain ⟨-, ⟨g58, hg58, hz58⟩, ⟨g59, hg59, hz59⟩⟩ := id hMB
  simp (disch := omega) only [e_const, e_lconst, e_il, e_ll, e_al, e_is, e_as, e_ls, e_inc, e_bin, e_div, e_un, e_lbin, e_ldiv, e_lcmp, e_i2l, e_l2i, e_if1, e_if2, e_go, e_sw, e_dupi, e_dupr, e_dup2, e_popi, e_popr, e_get, e_put, e_iald, e_iast, e_zald, e_zast, e_aald, e_aast, e_sld, e_slen, e_newa, e_newq, e_mna, e_new, e_oi, e_cs, e_cv, e_ci, e_min, e_max, e_copy, e_rv, e_ri, e_rz, e_rl, e_run, sx_en, sx_cat, sx_tk, sx_ps, sx_set, sx_setl, sx_dl, sx_m, sx_sw, sx_ft, List.map_cons, List.map_nil, List.getElem?_cons_zero, List.getElem?_cons_succ, List.replicate_succ, List.replicate_zero, List.set_cons_zero, List.set_cons_succ, List.length_cons, List.length_nil, Nat.reduceAdd, Nat.reduceSub, Nat.reduceLeDiff, Nat.reduceLT, Nat.reduceMul, Nat.zero_le, Nat.le_refl, Nat.add_zero, Nat.zero_add, true_and, and_true, true_or, cX7_shuts_c, tX7_shuts_0, bX7_shuts_0, tX7_shuts_13, bX7_shuts_13, h0, s_isThere hWB hB1 hB2, hB1, hB2, q_up_s, q_up_n, q_up_up, q_upd_s, q_upd_n, q_upd_upd, q_in, q_in0, q_in1, q_cl, q_cl0, q_cl1, q_add, q_add1, q_1add, q_add0, q_0add, q_mul, q_ite0, q_ite01, q_10, or_true, not_false_eq_true, not_true_eq_false, q_n0, ne_eq, sx_o, Sum.inr.injEq, Prod.mk.injEq, exists_eq', Nat.reduceLT, q_ti0, q_ti]
  by_cases h58 : f 58 = 0
  · simp (disch := omega) only [h58, q_up_s, q_up_n, q_up_up, q_upd_s, q_upd_n, q_upd_upd, q_in, q_in0, q_in1, q_cl, q_cl0, q_cl1, q_add, q_add1, q_1add, q_add0, q_0add, q_mul, q_ite0, q_ite01, q_10, or_true, not_false_eq_true, not_true_eq_false, q_n0, ne_eq, false_implies, true_implies, true_and, and_true, not_true_eq_false, not_false_eq_true, Bool.false_eq_true, if_true]
    refine iq_in ?_
    simp (disch := omega) only [e_const, e_lconst, e_il, e_ll, e_al, e_is, e_as, e_ls, e_inc, e_bin, e_div, e_un, e_lbin, e_ldiv, e_lcmp, e_i2l, e_l2i, e_if1, e_if2, e_go, e_sw, e_dupi, e_dupr, e_dup2, e_popi, e_popr, e_get, e_put, e_iald, e_iast, e_zald, e_zast, e_aald, e_aast, e_sld, e_slen, e_newa, e_newq, e_mna, e_new, e_oi, e_cs, e_cv, e_ci, e_min, e_max, e_copy, e_rv, e_ri, e_rz, e_rl, e_run, sx_en, sx_cat, sx_tk, sx_ps, sx_set, sx_setl, sx_dl, sx_m, sx_sw, sx_ft, List.map_cons, List.map_nil, List.getElem?_cons_zero, List.getElem?_cons_succ, List.replicate_succ, List.replicate_zero, List.set_cons_zero, List.set_cons_succ, List.length_cons, List.length_nil, Nat.reduceAdd, Nat.reduceSub, Nat.reduceLeDiff, Nat.reduceLT, Nat.reduceMul, Nat.zero_le, Nat.le_refl, Nat.add_zero, Nat.zero_add, true_and, and_true, true_or, cX8_shuts_c, tX8_shuts_0, bX8_shuts_0, tX8_shuts_15, bX8_shuts_15, tX8_shuts_40, bX8_shuts_40, tX8_shuts_53, bX8_shuts_53, hm, hmm, hm3, hq3, s_isThereM hm4 hq3 (show 57 < 65 by decide), h58, q_up_s, q_up_n, q_up_up, q_upd_s, q_upd_n, q_upd_upd, q_in, q_in0, q_in1, q_cl, q_cl0, q_cl1, q_add, q_add1, q_1add, q_add0, q_0add, q_mul, q_ite0, q_ite01, q_10, or_true, not_false_eq_true, not_true_eq_false, q_n0, ne_eq, sx_o, Sum.inr.injEq, Prod.mk.injEq, exists_eq', Nat.reduceLT, false_implies, true_implies, true_and, and_true, not_true_eq_false, not_false_eq_true, Bool.false_eq_true, if_true]
    first | exact IV_of hIC | exact ⟨rfl, rfl, IV_of hIC⟩ | (simp; done) | (simp; intros; exact IV_of hIC)
  · simp (disch := omega) only [h58, hB6, tX4_weeksUntilShut_0, bX4_weeksUntilShut_0, cX4_weeksUntilShut_c, e_const, e_lconst, e_il, e_ll, e_al, e_is, e_as, e_ls, e_inc, e_bin, e_div, e_un, e_lbin, e_ldiv, e_lcmp, e_i2l, e_l2i, e_if1, e_if2, e_go, e_sw, e_dupi, e_dupr, e_dup2, e_popi, e_popr, e_get, e_put, e_iald, e_iast, e_zald, e_zast, e_aald, e_aast, e_sld, e_slen, e_newa, e_newq, e_mna, e_new, e_oi, e_cs, e_cv, e_ci, e_min, e_max, e_copy, e_rv, e_ri, e_rz, e_rl, e_run, sx_en, sx_cat, sx_tk, sx_ps, sx_set, sx_setl, sx_dl, sx_m, sx_sw, sx_ft, List.map_cons, List.map_nil, List.getElem?_cons_zero, List.getElem?_cons_succ, List.replicate_succ, List.replicate_zero, List.set_cons_zero, List.set_cons_succ, List.length_cons, List.length_nil, Nat.reduceAdd, Nat.reduceSub, Nat.reduceLeDiff, Nat.reduceLT, Nat.reduceMul, Nat.zero_le, Nat.le_refl, Nat.add_zero, Nat.zero_add, true_and, and_true, true_or, q_up_s, q_up_n, q_up_up, q_upd_s, q_upd_n, q_upd_upd, q_in, q_in0, q_in1, q_cl, q_cl0, q_cl1, q_add, q_add1, q_1add, q_add0, q_0add, q_mul, q_ite0, q_ite01, q_10, or_true, not_false_eq_true, not_true_eq_false, q_n0, ne_eq, false_implies, true_implies, true_and, and_true, not_true_eq_false, not_false_eq_true, Bool.false_eq_true, sx_o, Sum.inr.injEq, Prod.mk.injEq, exists_eq', Nat.reduceLT, if_false]
    refine ⟨⟨_, hB3⟩, ?_⟩
    refine s_becomes (n := 65) hB3 hB4 hB1 hB2 hB5 hWB.1 (by decide) (by decide) (by decide) (by decide) ?_
    simp (disch := omega) only [e_const, e_lconst, e_il, e_ll, e_al, e_is, e_as, e_ls, e_inc, e_bin, e_div, e_un, e_lbin, e_ldiv, e_lcmp, e_i2l, e_l2i, e_if1, e_if2, e_go, e_sw, e_dupi, e_dupr, e_dup2, e_popi, e_popr, e_get, e_put, e_iald, e_iast, e_zald, e_zast, e_aald, e_aast, e_sld, e_slen, e_newa, e_newq, e_mna, e_new, e_oi, e_cs, e_cv, e_ci, e_min, e_max, e_copy, e_rv, e_ri, e_rz, e_rl, e_run, sx_en, sx_cat, sx_tk, sx_ps, sx_set, sx_setl, sx_dl, sx_m, sx_sw, sx_ft, List.map_cons, List.map_nil, List.getElem?_cons_zero, List.getElem?_cons_succ, List.replicate_succ, List.replicate_zero, List.set_cons_zero, List.set_cons_succ, List.length_cons, List.length_nil, Nat.reduceAdd, Nat.reduceSub, Nat.reduceLeDiff, Nat.reduceLT, Nat.reduceMul, Nat.zero_le, Nat.le_refl, Nat.add_zero, Nat.zero_add, true_and, and_true, true_or, q_up_s, q_up_n, q_up_up, q_upd_s, q_upd_n, q_upd_upd, q_in, q_in0, q_in1, q_cl, q_cl0, q_cl1, q_add, q_add1, q_1add, q_add0, q_0add, q_mul, q_ite0, q_ite01, q_10, or_true, not_false_eq_true, not_true_eq_false, q_n0, ne_eq, false_implies, true_implies, true_and, and_true, not_true_eq_false, not_false_eq_true, Bool.false_eq_true, sx_o, Sum.inr.injEq, Prod.mk.injEq, exists_eq', Nat.reduceLT]
    have key := fun Rt hR => s_shutsB_lp (n := 65) (f := f) (by decide) Rt 61 0 (sx_up h 18 (sx_ai 62 f)) (by omega) ((q_up_n (by decide)).trans hB6) ((q_up_n (by decide)).trans hB3) (q_up_s _ _ _) hR
    rw [nI_0] at key
    refine key _ fun j hj => ?_
    obtain ⟨wb1, wb2⟩ := wks_all hWB j (by omega)
    simp (disch := omega) only [e_const, e_lconst, e_il, e_ll, e_al, e_is, e_as, e_ls, e_inc, e_bin, e_div, e_un, e_lbin, e_ldiv, e_lcmp, e_i2l, e_l2i, e_if1, e_if2, e_go, e_sw, e_dupi, e_dupr, e_dup2, e_popi, e_popr, e_get, e_put, e_iald, e_iast, e_zald, e_zast, e_aald, e_aast, e_sld, e_slen, e_newa, e_newq, e_mna, e_new, e_oi, e_cs, e_cv, e_ci, e_min, e_max, e_copy, e_rv, e_ri, e_rz, e_rl, e_run, sx_en, sx_cat, sx_tk, sx_ps, sx_set, sx_setl, sx_dl, sx_m, sx_sw, sx_ft, List.map_cons, List.map_nil, List.getElem?_cons_zero, List.getElem?_cons_succ, List.replicate_succ, List.replicate_zero, List.set_cons_zero, List.set_cons_succ, List.length_cons, List.length_nil, Nat.reduceAdd, Nat.reduceSub, Nat.reduceLeDiff, Nat.reduceLT, Nat.reduceMul, Nat.zero_le, Nat.le_refl, Nat.add_zero, Nat.zero_add, true_and, and_true, true_or, q_up_s, q_up_n, q_up_up, q_upd_s, q_upd_n, q_upd_upd, q_in, q_in0, q_in1, q_cl, q_cl0, q_cl1, q_add, q_add1, q_1add, q_add0, q_0add, q_mul, q_ite0, q_ite01, q_10, or_true, not_false_eq_true, not_true_eq_false, q_n0, ne_eq, false_implies, true_implies, true_and, and_true, not_true_eq_false, not_false_eq_true, Bool.false_eq_true, sx_o, Sum.inr.injEq, Prod.mk.injEq, exists_eq', Nat.reduceLT]
    refine iq_ab ?_
    intro hA ehA
    have rm : hA 53 = g_m th st (nI k) (nI tp) cu sa tk va fa fp lf (nI t) := by subst ehA; first | exact hm | (simp (disch := omega) only [q_up_n]; exact hm)
    obtain ⟨hB, ehB⟩ : ∃ z, z = sx_up hA 53 (g_m 0 st (nI k) (nI tp) cu sa tk va fa fp lf (nI t)) := ⟨_, rfl⟩
    have rmm : sx_up hA 53 (g_m 0 st (nI k) (nI tp) cu sa tk va fa fp lf (nI t)) = hB := ehB.symm
    have rm3 : hB 53 = g_m 0 st (nI k) (nI tp) cu sa tk va fa fp lf (nI t) := by rw [ehB]; exact q_up_s _ _ _
    have rm4 : ∃ x1 x2 x3 x4 x5 x6 x7 x8 x9 y1 y2 y3, hB 53 = g_m x1 x2 x3 x4 x5 x6 x7 x8 x9 y1 y2 y3 := ⟨_, _, _, _, _, _, _, _, _, _, _, _, rm3⟩
    have rA57 := (show hA 57 = h 57 by subst ehA; first | rfl | simp (disch := omega) only [q_up_n]).trans hq
    have rB57 := (show hB 57 = hA 57 by rw [ehB]; exact q_up_n (by decide)).trans rA57
    have rE57 := fun (E : sx_E) => (show sx_up hB 53 E 57 = hB 57 from q_up_n (by decide)).trans rB57
    have rA58 := (show hA 58 = h 58 by subst ehA; first | rfl | simp (disch := omega) only [q_up_n]).trans hg58
    have rB58 := (show hB 58 = hA 58 by rw [ehB]; exact q_up_n (by decide)).trans rA58
    have rE58 := fun (E : sx_E) => (show sx_up hB 53 E 58 = hB 58 from q_up_n (by decide)).trans rB58
    have rA59 := (show hA 59 = h 59 by subst ehA; first | rfl | simp (disch := omega) only [q_up_n]).trans hg59
    have rB59 := (show hB 59 = hA 59 by rw [ehB]; exact q_up_n (by decide)).trans rA59
    have rE59 := fun (E : sx_E) => (show sx_up hB 53 E 59 = hB 59 from q_up_n (by decide)).trans rB59
    have hX : ∀ i c', IV (sx_up hB 59 (sx_ai 64 (toM (p_wks f i) c'))) := fun i c' => IV_of (IC_ah H (fun j q1 q2 q3 q4 => by rw [q_up_n q4, ehB, q_up_n q2, ehA, q_up_n q1]) ⟨p_wks f j, by simp (disch := omega) only [ehA, ehB, q_up_n, q_up_s, q_up_up], wb1.1⟩ ⟨g58, by simp (disch := omega) only [ehA, ehB, q_up_n, q_up_s, q_up_up]; exact hg58, hz58⟩ ⟨_, q_up_s _ _ _, fun j hj => toM_z _ _ hj⟩ ⟨0, cu, sa, tk, va, fa, fp, by simp (disch := omega) only [ehA, ehB, q_up_n, q_up_s, q_up_up]⟩)
    simp (disch := omega) only [e_const, e_lconst, e_il, e_ll, e_al, e_is, e_as, e_ls, e_inc, e_bin, e_div, e_un, e_lbin, e_ldiv, e_lcmp, e_i2l, e_l2i, e_if1, e_if2, e_go, e_sw, e_dupi, e_dupr, e_dup2, e_popi, e_popr, e_get, e_put, e_iald, e_iast, e_zald, e_zast, e_aald, e_aast, e_sld, e_slen, e_newa, e_newq, e_mna, e_new, e_oi, e_cs, e_cv, e_ci, e_min, e_max, e_copy, e_rv, e_ri, e_rz, e_rl, e_run, sx_en, sx_cat, sx_tk, sx_ps, sx_set, sx_setl, sx_dl, sx_m, sx_sw, sx_ft, List.map_cons, List.map_nil, List.getElem?_cons_zero, List.getElem?_cons_succ, List.replicate_succ, List.replicate_zero, List.set_cons_zero, List.set_cons_succ, List.length_cons, List.length_nil, Nat.reduceAdd, Nat.reduceSub, Nat.reduceLeDiff, Nat.reduceLT, Nat.reduceMul, Nat.zero_le, Nat.le_refl, Nat.add_zero, Nat.zero_add, true_and, and_true, true_or, cX8_shuts_c, tX8_shuts_0, bX8_shuts_0, tX8_shuts_15, bX8_shuts_15, tX8_shuts_40, bX8_shuts_40, rm, rmm, rm3, rB57, s_isThereM rm4 rB57 (show 57 < 65 by decide), h58, q_up_s, q_up_n, q_up_up, q_upd_s, q_upd_n, q_upd_upd, q_in, q_in0, q_in1, q_cl, q_cl0, q_cl1, q_add, q_add1, q_1add, q_add0, q_0add, q_mul, q_ite0, q_ite01, q_10, or_true, not_false_eq_true, not_true_eq_false, q_n0, ne_eq, sx_o, Sum.inr.injEq, Prod.mk.injEq, exists_eq', Nat.reduceLT, false_implies, true_implies, true_and, and_true, not_true_eq_false, not_false_eq_true, Bool.false_eq_true, if_false]
    refine s_layThen (show 63 < 65 by decide) rm3 rB57 rB59 (fun j hj => toM_z _ _ hj) hz59 ?_
    simp (disch := omega) only [e_const, e_lconst, e_il, e_ll, e_al, e_is, e_as, e_ls, e_inc, e_bin, e_div, e_un, e_lbin, e_ldiv, e_lcmp, e_i2l, e_l2i, e_if1, e_if2, e_go, e_sw, e_dupi, e_dupr, e_dup2, e_popi, e_popr, e_get, e_put, e_iald, e_iast, e_zald, e_zast, e_aald, e_aast, e_sld, e_slen, e_newa, e_newq, e_mna, e_new, e_oi, e_cs, e_cv, e_ci, e_min, e_max, e_copy, e_rv, e_ri, e_rz, e_rl, e_run, sx_en, sx_cat, sx_tk, sx_ps, sx_set, sx_setl, sx_dl, sx_m, sx_sw, sx_ft, List.map_cons, List.map_nil, List.getElem?_cons_zero, List.getElem?_cons_succ, List.replicate_succ, List.replicate_zero, List.set_cons_zero, List.set_cons_succ, List.length_cons, List.length_nil, Nat.reduceAdd, Nat.reduceSub, Nat.reduceLeDiff, Nat.reduceLT, Nat.reduceMul, Nat.zero_le, Nat.le_refl, Nat.add_zero, Nat.zero_add, true_and, and_true, true_or, rm3, q_up_s, q_up_n, q_up_up, q_upd_s, q_upd_n, q_upd_upd, q_in, q_in0, q_in1, q_cl, q_cl0, q_cl1, q_add, q_add1, q_1add, q_add0, q_0add, q_mul, q_ite0, q_ite01, q_10, or_true, not_false_eq_true, not_true_eq_false, q_n0, ne_eq, sx_o, Sum.inr.injEq, Prod.mk.injEq, exists_eq', Nat.reduceLT, false_implies, true_implies, true_and, and_true, not_true_eq_false, not_false_eq_true, Bool.false_eq_true]
    have key2 := fun Rt hR => s_shutsM_lp (n := 65) (f := f) (by decide) hWB (by omega) h58 Rt 61 0 (sx_up hB 59 (sx_ai 64 (toM f cm0))) cm0 (by omega) ((q_up_n (by decide)).trans rm3) (q_up_s _ _ _) hR
    rw [nI_0] at key2
    refine key2 _ fun j c' => ?_
    simp only [q_up_up]
    exact ⟨⟨trivial, trivial, hX j c'⟩, Nat.le_refl _, Nat.le_refl _⟩
