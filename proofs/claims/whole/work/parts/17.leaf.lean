/-! LEAVES of both sides over one shop's row -/
def p_debts (f : Nat → Int32) : Nat → Int32
  | 0 => 0
  | d + 1 => if f (30 + d) = 0 then p_debts f d + f d else p_debts f d
def p_lost (f : Nat → Int32) : Nat → Int32
  | 0 => 0
  | d + 1 => if ¬ (f 58).toInt ≤ (d : Int) ∧ ¬ cmb f d = true then p_lost f d + f d else p_lost f d
def p_bits (f : Nat → Int32) (col : Nat) : Nat → Int32
  | 0 => 0
  | d + 1 => if f (col + d) = 0 then p_bits f col d else p_bits f col d ||| ((1 : Int32) <<< (nI d &&& 31))
section LEAF
variable {b q a n : Nat} {h : sx_H} {f : Nat → Int32} {c : Int32} {Q : sx_Q}
set_option maxRecDepth 100000 in
set_option maxHeartbeats 4000000 in
theorem s_isThere {W : Nat} (hB : WB W f) (hb : h b = sx_o 2 [sx_r (some q)]) (hq : h q = sx_ai 62 f) (hbn : b < n) (hqn : q < n) : sx_Cal 23 [sx_r (some b)] n h Q = Q (some (sx_i (if f 58 = 0 then 0 else 1))) n h := by
  obtain ⟨c, w, hw, hc, he⟩ := WB_iff.mp hB
  have hc6 := hc.1
  simp (disch := omega) only [e_const, e_lconst, e_il, e_ll, e_al, e_is, e_as, e_ls, e_inc, e_bin, e_div, e_un, e_lbin, e_ldiv, e_lcmp, e_i2l, e_l2i, e_if1, e_if2, e_go, e_sw, e_dupi, e_dupr, e_dup2, e_popi, e_popr, e_get, e_put, e_iald, e_iast, e_zald, e_zast, e_aald, e_aast, e_sld, e_slen, e_newa, e_newq, e_mna, e_new, e_oi, e_cs, e_cv, e_ci, e_min, e_max, e_copy, e_rv, e_ri, e_rz, e_rl, e_run, sx_en, sx_cat, sx_tk, sx_ps, sx_set, sx_setl, sx_dl, sx_m, sx_sw, sx_ft, List.map_cons, List.map_nil, List.getElem?_cons_zero, List.getElem?_cons_succ, List.replicate_succ, List.replicate_zero, List.set_cons_zero, List.set_cons_succ, List.length_cons, List.length_nil, Nat.reduceAdd, Nat.reduceSub, Nat.reduceLeDiff, Nat.reduceLT, Nat.reduceMul, Nat.zero_le, Nat.le_refl, Nat.add_zero, Nat.zero_add, true_and, and_true, true_or, cX2_isThere_c, tX2_isThere_0, bX2_isThere_0, tX2_isThere_14, bX2_isThere_14, tX2_isThere_15, bX2_isThere_15, hb, hq, q_up_s, q_up_n, q_up_up, q_upd_s, q_upd_n, q_upd_upd, q_in, q_in0, q_in1, q_cl, q_cl0, q_cl1, q_add, q_add1, q_1add, q_add0, q_0add, q_mul, q_ite0, q_ite01, q_10, or_true, not_false_eq_true, not_true_eq_false, q_n0, ne_eq, hbn, hqn, q_le, q_ti0]
  rw [hc.2.1]
  by_cases h1 : c = 0
  · subst h1
    simp (disch := omega) only [nI_0, q_ti0, Int.le_refl, true_implies, not_true_eq_false, false_implies, and_true, if_true]
  · have e : (nI c = 0) = False := q_n0 (by omega) (by omega)
    have e2 : ((nI c).toInt ≤ 0) = False := eq_false (by rw [nI_toInt (by omega)]; omega)
    simp only [e, e2, if_false, false_implies, not_false_eq_true, true_implies, true_and]
set_option maxRecDepth 100000 in
set_option maxHeartbeats 4000000 in
theorem s_isThereM (hm : ∃ th st ac tp cu sa tk va fa fp la tr, h 53 = g_m th st ac tp cu sa tk va fa fp la tr) (hq : h 57 = sx_ai 64 (toM f c)) (hn : 57 < n) : sx_Cal 145 [sx_r (some 53)] n h Q = Q (some (sx_i (if f 58 = 0 then 0 else 1))) n h := by
  obtain ⟨th, st, ac, tp, cu, sa, tk, va, fa, fp, la, tr, hm⟩ := hm
  have e : toM f c 0 = if f 58 = 0 then 0 else 1 := rfl
  have hn2 : 53 < n := by omega
  simp (disch := omega) only [e_const, e_lconst, e_il, e_ll, e_al, e_is, e_as, e_ls, e_inc, e_bin, e_div, e_un, e_lbin, e_ldiv, e_lcmp, e_i2l, e_l2i, e_if1, e_if2, e_go, e_sw, e_dupi, e_dupr, e_dup2, e_popi, e_popr, e_get, e_put, e_iald, e_iast, e_zald, e_zast, e_aald, e_aast, e_sld, e_slen, e_newa, e_newq, e_mna, e_new, e_oi, e_cs, e_cv, e_ci, e_min, e_max, e_copy, e_rv, e_ri, e_rz, e_rl, e_run, sx_en, sx_cat, sx_tk, sx_ps, sx_set, sx_setl, sx_dl, sx_m, sx_sw, sx_ft, List.map_cons, List.map_nil, List.getElem?_cons_zero, List.getElem?_cons_succ, List.replicate_succ, List.replicate_zero, List.set_cons_zero, List.set_cons_succ, List.length_cons, List.length_nil, Nat.reduceAdd, Nat.reduceSub, Nat.reduceLeDiff, Nat.reduceLT, Nat.reduceMul, Nat.zero_le, Nat.le_refl, Nat.add_zero, Nat.zero_add, true_and, and_true, true_or, cX8_isThere_c, tX8_isThere_0, bX8_isThere_0, tX8_isThere_14, bX8_isThere_14, tX8_isThere_15, bX8_isThere_15, hm, hq, q_up_s, q_up_n, q_up_up, q_upd_s, q_upd_n, q_upd_upd, q_in, q_in0, q_in1, q_cl, q_cl0, q_cl1, q_add, q_add1, q_1add, q_add0, q_0add, q_mul, q_ite0, q_ite01, q_10, or_true, not_false_eq_true, not_true_eq_false, q_n0, ne_eq, hn, hn2, e]
  by_cases h1 : f 58 = 0
  · have e2 : ((0 : Int32) = 1) = False := eq_false (by decide +kernel)
    simp only [h1, if_true, e2, not_false_eq_true, true_implies, not_true_eq_false, false_implies, and_true, true_or, true_and]
  · simp only [h1, if_false, not_true_eq_false, false_implies, not_false_eq_true, true_implies, true_and, or_true]
/-! a debtor's number -/
set_option maxRecDepth 100000 in
set_option maxHeartbeats 4000000 in
theorem s_hasB {W c0 : Nat} (hB : WB W f) (h58 : f 58 = nI c0) (hc0 : c0 ≤ 6) (hb : h b = sx_o 2 [sx_r (some q)]) (hq : h q = sx_ai 62 f) (hbn : b < n) (hqn : q < n) (one : Int32) : sx_Cal 24 [sx_r (some b), sx_i one] n h Q = Q (some (sx_i (if 0 ≤ one.toInt ∧ one.toInt < (c0 : Int) then 1 else 0))) n h := by
  rw [s_has hb hq hbn hqn one, h58, nI_toInt (by omega)]
  have e : (0 ≤ one.toInt ∧ one.toInt ≤ 5 ∧ ¬ (c0 : Int) ≤ one.toInt) ↔ (0 ≤ one.toInt ∧ one.toInt < (c0 : Int)) := by omega
  simp only [e]
set_option maxRecDepth 100000 in
set_option maxHeartbeats 4000000 in
theorem s_isDebtor {c0 : Nat} (h58 : f 58 = nI c0) (hc0 : c0 ≤ 6) (hm : ∃ th st ac tp cu sa tk va fa fp la tr, h 53 = g_m th st ac tp cu sa tk va fa fp la tr) (hq : h 57 = sx_ai 64 (toM f c)) (hn : 57 < n) (one : Int32) : sx_Cal 146 [sx_r (some 53), sx_i one] n h Q = Q (some (sx_i (if 0 ≤ one.toInt ∧ one.toInt < (c0 : Int) then 1 else 0))) n h := by
  obtain ⟨th, st, ac, tp, cu, sa, tk, va, fa, fp, la, tr, hm⟩ := hm
  have hn2 : 53 < n := by omega
  have e1 : (nI c0 - 1).toInt = (c0 : Int) - 1 := by rw [i_sub (by rw [nI_toInt (by omega), q_ti1]; omega) (by rw [nI_toInt (by omega), q_ti1]; omega), nI_toInt (by omega), q_ti1]
  simp (disch := omega) only [e_const, e_lconst, e_il, e_ll, e_al, e_is, e_as, e_ls, e_inc, e_bin, e_div, e_un, e_lbin, e_ldiv, e_lcmp, e_i2l, e_l2i, e_if1, e_if2, e_go, e_sw, e_dupi, e_dupr, e_dup2, e_popi, e_popr, e_get, e_put, e_iald, e_iast, e_zald, e_zast, e_aald, e_aast, e_sld, e_slen, e_newa, e_newq, e_mna, e_new, e_oi, e_cs, e_cv, e_ci, e_min, e_max, e_copy, e_rv, e_ri, e_rz, e_rl, e_run, sx_en, sx_cat, sx_tk, sx_ps, sx_set, sx_setl, sx_dl, sx_m, sx_sw, sx_ft, List.map_cons, List.map_nil, List.getElem?_cons_zero, List.getElem?_cons_succ, List.replicate_succ, List.replicate_zero, List.set_cons_zero, List.set_cons_succ, List.length_cons, List.length_nil, Nat.reduceAdd, Nat.reduceSub, Nat.reduceLeDiff, Nat.reduceLT, Nat.reduceMul, Nat.zero_le, Nat.le_refl, Nat.add_zero, Nat.zero_add, true_and, and_true, true_or, cX8_isDebtor_c, tX8_isDebtor_0, bX8_isDebtor_0, s_in, hm, hq, q_up_s, q_up_n, q_up_up, q_upd_s, q_upd_n, q_upd_upd, q_in, q_in0, q_in1, q_cl, q_cl0, q_cl1, q_add, q_add1, q_1add, q_add0, q_0add, q_mul, q_ite0, q_ite01, q_10, or_true, not_false_eq_true, not_true_eq_false, q_n0, ne_eq, m_r0, m_r1, m_r2, m_r3, m_r4, m_r5, m_r6, m_r7, m_r8, m_u0, m_u1, m_u2, m_u3, m_u4, m_u5, m_u6, m_u7, m_u8, m_s1, m_s2, m_s3, m_s4, m_s5, m_s6, m_s7, m_s8, m_s9, m_w1, m_w2, m_w3, m_w5, m_w6, m_w7, m_w8, m_w9, hn, hn2, h58, q_wide, e1, q_lti0]
  have e : (0 ≤ one.toInt ∧ one.toInt ≤ (c0 : Int) - 1) ↔ (0 ≤ one.toInt ∧ one.toInt < (c0 : Int)) := by omega
  simp only [e]
  by_cases hh : 0 ≤ one.toInt ∧ one.toInt < (c0 : Int) <;> simp [hh]
/-! sums -/
set_option maxRecDepth 100000 in
set_option maxHeartbeats 4000000 in
theorem s_allDebts_lp (hb : h b = sx_o 2 [sx_r (some q)]) (hq : h q = sx_ai 62 f) (hbn : b < n) (hqn : q < n) (Rt : sx_R) : ∀ (k i : Nat), i + k = 6 → Rt (some (sx_i (p_debts f 6))) n h 0 0 → sx_T BX2_allDebts sx_Cal Rt 4 [some (sx_r (some b)), some (sx_i (p_debts f i)), some (sx_i (nI i))] [] n h 0 0 := by
  intro k
  induction k with
  | zero =>
    intro i hi hR
    have : i = 6 := by omega
    subst this
    rw [tX2_allDebts_4]
    simp (disch := omega) only [e_const, e_lconst, e_il, e_ll, e_al, e_is, e_as, e_ls, e_inc, e_bin, e_div, e_un, e_lbin, e_ldiv, e_lcmp, e_i2l, e_l2i, e_if1, e_if2, e_go, e_sw, e_dupi, e_dupr, e_dup2, e_popi, e_popr, e_get, e_put, e_iald, e_iast, e_zald, e_zast, e_aald, e_aast, e_sld, e_slen, e_newa, e_newq, e_mna, e_new, e_oi, e_cs, e_cv, e_ci, e_min, e_max, e_copy, e_rv, e_ri, e_rz, e_rl, e_run, sx_en, sx_cat, sx_tk, sx_ps, sx_set, sx_setl, sx_dl, sx_m, sx_sw, sx_ft, List.map_cons, List.map_nil, List.getElem?_cons_zero, List.getElem?_cons_succ, List.replicate_succ, List.replicate_zero, List.set_cons_zero, List.set_cons_succ, List.length_cons, List.length_nil, Nat.reduceAdd, Nat.reduceSub, Nat.reduceLeDiff, Nat.reduceLT, Nat.reduceMul, Nat.zero_le, Nat.le_refl, Nat.add_zero, Nat.zero_add, true_and, and_true, true_or, bX2_allDebts_4, tX2_allDebts_39, bX2_allDebts_39, q_up_s, q_up_n, q_up_up, q_upd_s, q_upd_n, q_upd_upd, q_in, q_in0, q_in1, q_cl, q_cl0, q_cl1, q_add, q_add1, q_1add, q_add0, q_0add, q_mul, q_ite0, q_ite01, q_10, or_true, not_false_eq_true, not_true_eq_false, q_n0, ne_eq, q_le, q_ti]
    exact ⟨fun _ => hR, fun z => absurd (Int.le_refl _) z⟩
  | succ k ih =>
    intro i hi hR
    have hi6 : i < 6 := by omega
    have := ih (i + 1) (by omega) hR
    rw [tX2_allDebts_4]
    simp (disch := omega) only [e_const, e_lconst, e_il, e_ll, e_al, e_is, e_as, e_ls, e_inc, e_bin, e_div, e_un, e_lbin, e_ldiv, e_lcmp, e_i2l, e_l2i, e_if1, e_if2, e_go, e_sw, e_dupi, e_dupr, e_dup2, e_popi, e_popr, e_get, e_put, e_iald, e_iast, e_zald, e_zast, e_aald, e_aast, e_sld, e_slen, e_newa, e_newq, e_mna, e_new, e_oi, e_cs, e_cv, e_ci, e_min, e_max, e_copy, e_rv, e_ri, e_rz, e_rl, e_run, sx_en, sx_cat, sx_tk, sx_ps, sx_set, sx_setl, sx_dl, sx_m, sx_sw, sx_ft, List.map_cons, List.map_nil, List.getElem?_cons_zero, List.getElem?_cons_succ, List.replicate_succ, List.replicate_zero, List.set_cons_zero, List.set_cons_succ, List.length_cons, List.length_nil, Nat.reduceAdd, Nat.reduceSub, Nat.reduceLeDiff, Nat.reduceLT, Nat.reduceMul, Nat.zero_le, Nat.le_refl, Nat.add_zero, Nat.zero_add, true_and, and_true, true_or, bX2_allDebts_4, tX2_allDebts_33, bX2_allDebts_33, hb, hq, hbn, hqn, q_up_s, q_up_n, q_up_up, q_upd_s, q_upd_n, q_upd_upd, q_in, q_in0, q_in1, q_cl, q_cl0, q_cl1, q_add, q_add1, q_1add, q_add0, q_0add, q_mul, q_ite0, q_ite01, q_10, or_true, not_false_eq_true, not_true_eq_false, q_n0, ne_eq, q_le, q_ti]
    refine ⟨fun z => absurd z (by omega), fun _ => ⟨fun z => ?_, fun z => ?_⟩⟩
    · rw [p_debts, if_neg z] at this; exact this
    · rw [p_debts, if_pos (Classical.not_not.mp z)] at this; exact this
set_option maxRecDepth 100000 in
set_option maxHeartbeats 4000000 in
theorem s_allDebts (hb : h b = sx_o 2 [sx_r (some q)]) (hq : h q = sx_ai 62 f) (hbn : b < n) (hqn : q < n) (hQ : Q (some (sx_i (p_debts f 6))) n h) : sx_Cal 36 [sx_r (some b)] n h Q := by
  simp (disch := omega) only [e_const, e_lconst, e_il, e_ll, e_al, e_is, e_as, e_ls, e_inc, e_bin, e_div, e_un, e_lbin, e_ldiv, e_lcmp, e_i2l, e_l2i, e_if1, e_if2, e_go, e_sw, e_dupi, e_dupr, e_dup2, e_popi, e_popr, e_get, e_put, e_iald, e_iast, e_zald, e_zast, e_aald, e_aast, e_sld, e_slen, e_newa, e_newq, e_mna, e_new, e_oi, e_cs, e_cv, e_ci, e_min, e_max, e_copy, e_rv, e_ri, e_rz, e_rl, e_run, sx_en, sx_cat, sx_tk, sx_ps, sx_set, sx_setl, sx_dl, sx_m, sx_sw, sx_ft, List.map_cons, List.map_nil, List.getElem?_cons_zero, List.getElem?_cons_succ, List.replicate_succ, List.replicate_zero, List.set_cons_zero, List.set_cons_succ, List.length_cons, List.length_nil, Nat.reduceAdd, Nat.reduceSub, Nat.reduceLeDiff, Nat.reduceLT, Nat.reduceMul, Nat.zero_le, Nat.le_refl, Nat.add_zero, Nat.zero_add, true_and, and_true, true_or, cX2_allDebts_c, tX2_allDebts_0, bX2_allDebts_0, q_up_s, q_up_n, q_up_up, q_upd_s, q_upd_n, q_upd_upd, q_in, q_in0, q_in1, q_cl, q_cl0, q_cl1, q_add, q_add1, q_1add, q_add0, q_0add, q_mul, q_ite0, q_ite01, q_10, or_true, not_false_eq_true, not_true_eq_false, q_n0, ne_eq]
  have := s_allDebts_lp hb hq hbn hqn (fun r n' h' kc ks => Q r n' h' ∧ kc ≤ 0 ∧ ks ≤ 0) 6 0 (by omega) ⟨hQ, Nat.le_refl _, Nat.le_refl _⟩
  rw [nI_0] at this
  exact this
set_option maxRecDepth 100000 in
set_option maxHeartbeats 4000000 in
theorem s_lost_lp (hb : h b = sx_o 2 [sx_r (some q)]) (hq : h q = sx_ai 62 f) (hbn : b < n) (hqn : q < n) (Rt : sx_R) : ∀ (k i : Nat), i + k = 6 → Rt (some (sx_i (p_lost f 6))) n h 0 0 → sx_T BX2_lost sx_Cal Rt 4 [some (sx_r (some b)), some (sx_i (p_lost f i)), some (sx_i (nI i))] [] n h 0 0 := by
  intro k
  induction k with
  | zero =>
    intro i hi hR
    have : i = 6 := by omega
    subst this
    rw [tX2_lost_4]
    simp (disch := omega) only [e_const, e_lconst, e_il, e_ll, e_al, e_is, e_as, e_ls, e_inc, e_bin, e_div, e_un, e_lbin, e_ldiv, e_lcmp, e_i2l, e_l2i, e_if1, e_if2, e_go, e_sw, e_dupi, e_dupr, e_dup2, e_popi, e_popr, e_get, e_put, e_iald, e_iast, e_zald, e_zast, e_aald, e_aast, e_sld, e_slen, e_newa, e_newq, e_mna, e_new, e_oi, e_cs, e_cv, e_ci, e_min, e_max, e_copy, e_rv, e_ri, e_rz, e_rl, e_run, sx_en, sx_cat, sx_tk, sx_ps, sx_set, sx_setl, sx_dl, sx_m, sx_sw, sx_ft, List.map_cons, List.map_nil, List.getElem?_cons_zero, List.getElem?_cons_succ, List.replicate_succ, List.replicate_zero, List.set_cons_zero, List.set_cons_succ, List.length_cons, List.length_nil, Nat.reduceAdd, Nat.reduceSub, Nat.reduceLeDiff, Nat.reduceLT, Nat.reduceMul, Nat.zero_le, Nat.le_refl, Nat.add_zero, Nat.zero_add, true_and, and_true, true_or, bX2_lost_4, tX2_lost_43, bX2_lost_43, q_up_s, q_up_n, q_up_up, q_upd_s, q_upd_n, q_upd_upd, q_in, q_in0, q_in1, q_cl, q_cl0, q_cl1, q_add, q_add1, q_1add, q_add0, q_0add, q_mul, q_ite0, q_ite01, q_10, or_true, not_false_eq_true, not_true_eq_false, q_n0, ne_eq, q_le, q_ti]
    exact ⟨fun _ => hR, fun z => absurd (Int.le_refl _) z⟩
  | succ k ih =>
    intro i hi hR
    have hi6 : i < 6 := by omega
    have := ih (i + 1) (by omega) hR
    rw [tX2_lost_4]
    simp (disch := omega) only [e_const, e_lconst, e_il, e_ll, e_al, e_is, e_as, e_ls, e_inc, e_bin, e_div, e_un, e_lbin, e_ldiv, e_lcmp, e_i2l, e_l2i, e_if1, e_if2, e_go, e_sw, e_dupi, e_dupr, e_dup2, e_popi, e_popr, e_get, e_put, e_iald, e_iast, e_zald, e_zast, e_aald, e_aast, e_sld, e_slen, e_newa, e_newq, e_mna, e_new, e_oi, e_cs, e_cv, e_ci, e_min, e_max, e_copy, e_rv, e_ri, e_rz, e_rl, e_run, sx_en, sx_cat, sx_tk, sx_ps, sx_set, sx_setl, sx_dl, sx_m, sx_sw, sx_ft, List.map_cons, List.map_nil, List.getElem?_cons_zero, List.getElem?_cons_succ, List.replicate_succ, List.replicate_zero, List.set_cons_zero, List.set_cons_succ, List.length_cons, List.length_nil, Nat.reduceAdd, Nat.reduceSub, Nat.reduceLeDiff, Nat.reduceLT, Nat.reduceMul, Nat.zero_le, Nat.le_refl, Nat.add_zero, Nat.zero_add, true_and, and_true, true_or, bX2_lost_4, tX2_lost_37, bX2_lost_37, s_has hb hq hbn hqn, s_comes hb hq hbn hqn hi6, hb, hq, hbn, hqn, q_up_s, q_up_n, q_up_up, q_upd_s, q_upd_n, q_upd_upd, q_in, q_in0, q_in1, q_cl, q_cl0, q_cl1, q_add, q_add1, q_1add, q_add0, q_0add, q_mul, q_ite0, q_ite01, q_10, or_true, not_false_eq_true, not_true_eq_false, q_n0, ne_eq, q_le, q_ti, sx_o, Sum.inr.injEq, Prod.mk.injEq, exists_eq']
    refine ⟨fun z => absurd z (by omega), fun _ => ⟨fun z => ?_, fun z => ⟨fun y => ?_, fun y => ?_⟩⟩⟩
    · rw [p_lost, if_neg (fun q => z ⟨by omega, by omega, q.1⟩)] at this; exact this
    · rw [p_lost, if_neg (fun q => q.2 (Classical.not_not.mp y))] at this; exact this
    · rw [p_lost, if_pos ⟨(Classical.not_not.mp z).2.2, fun q => y (fun z => z q)⟩] at this; exact this
set_option maxRecDepth 100000 in
set_option maxHeartbeats 4000000 in
theorem s_lost (hb : h b = sx_o 2 [sx_r (some q)]) (hq : h q = sx_ai 62 f) (hbn : b < n) (hqn : q < n) (hQ : Q (some (sx_i (p_lost f 6))) n h) : sx_Cal 37 [sx_r (some b)] n h Q := by
  simp (disch := omega) only [e_const, e_lconst, e_il, e_ll, e_al, e_is, e_as, e_ls, e_inc, e_bin, e_div, e_un, e_lbin, e_ldiv, e_lcmp, e_i2l, e_l2i, e_if1, e_if2, e_go, e_sw, e_dupi, e_dupr, e_dup2, e_popi, e_popr, e_get, e_put, e_iald, e_iast, e_zald, e_zast, e_aald, e_aast, e_sld, e_slen, e_newa, e_newq, e_mna, e_new, e_oi, e_cs, e_cv, e_ci, e_min, e_max, e_copy, e_rv, e_ri, e_rz, e_rl, e_run, sx_en, sx_cat, sx_tk, sx_ps, sx_set, sx_setl, sx_dl, sx_m, sx_sw, sx_ft, List.map_cons, List.map_nil, List.getElem?_cons_zero, List.getElem?_cons_succ, List.replicate_succ, List.replicate_zero, List.set_cons_zero, List.set_cons_succ, List.length_cons, List.length_nil, Nat.reduceAdd, Nat.reduceSub, Nat.reduceLeDiff, Nat.reduceLT, Nat.reduceMul, Nat.zero_le, Nat.le_refl, Nat.add_zero, Nat.zero_add, true_and, and_true, true_or, cX2_lost_c, tX2_lost_0, bX2_lost_0, q_up_s, q_up_n, q_up_up, q_upd_s, q_upd_n, q_upd_upd, q_in, q_in0, q_in1, q_cl, q_cl0, q_cl1, q_add, q_add1, q_1add, q_add0, q_0add, q_mul, q_ite0, q_ite01, q_10, or_true, not_false_eq_true, not_true_eq_false, q_n0, ne_eq]
  have := s_lost_lp hb hq hbn hqn (fun r n' h' kc ks => Q r n' h' ∧ kc ≤ 0 ∧ ks ≤ 0) 6 0 (by omega) ⟨hQ, Nat.le_refl _, Nat.le_refl _⟩
  rw [nI_0] at this
  exact this
set_option maxRecDepth 100000 in
set_option maxHeartbeats 4000000 in
theorem debts_stop {c0 : Nat} (hc : WC c0 f) : ∀ k, c0 + k ≤ 6 → p_debts f (c0 + k) = p_debts f c0 := by
  intro k
  induction k with
  | zero => intro _; rfl
  | succ k ih =>
    intro hk
    obtain ⟨-, -, -, -, -, -, -, k8⟩ := hc.2.2.1 (c0 + k) (by omega)
    rw [show c0 + (k + 1) = (c0 + k) + 1 by omega, p_debts, (k8 (by omega)).1, q_add0]
    rw [ih (by omega)]; split <;> rfl
set_option maxRecDepth 100000 in
set_option maxHeartbeats 4000000 in
theorem lost_stop {c0 : Nat} (hc : WC c0 f) : ∀ k, c0 + k ≤ 6 → p_lost f (c0 + k) = p_lost f c0 := by
  intro k
  induction k with
  | zero => intro _; rfl
  | succ k ih =>
    intro hk
    rw [show c0 + (k + 1) = (c0 + k) + 1 by omega, p_lost, if_neg (fun q => q.1 (by rw [hc.2.1, nI_toInt (by omega)]; omega))]
    exact ih (by omega)
set_option maxRecDepth 100000 in
set_option maxHeartbeats 4000000 in
theorem s_debtsOf_lp {c0 : Nat} (hc : WC c0 f) (hq : h a = sx_ai 64 (toM f c)) (han : a < n) (Rt : sx_R) : ∀ (k i : Nat), i + k = c0 → Rt (some (sx_i (p_debts f 6))) n h 0 0 → sx_T BX8_debtsOf sx_Cal Rt 4 [some (sx_r (some a)), some (sx_i (p_debts f i)), some (sx_i (nI i))] [] n h 0 0 := by
  have hc6 := hc.1
  intro k
  induction k with
  | zero =>
    intro i hi hR
    have hi : i = c0 := by omega
    subst hi
    have e := debts_stop hc (6 - i) (by omega)
    rw [show i + (6 - i) = 6 by omega] at e
    rw [e] at hR
    rw [tX8_debtsOf_4]
    simp (disch := omega) only [e_const, e_lconst, e_il, e_ll, e_al, e_is, e_as, e_ls, e_inc, e_bin, e_div, e_un, e_lbin, e_ldiv, e_lcmp, e_i2l, e_l2i, e_if1, e_if2, e_go, e_sw, e_dupi, e_dupr, e_dup2, e_popi, e_popr, e_get, e_put, e_iald, e_iast, e_zald, e_zast, e_aald, e_aast, e_sld, e_slen, e_newa, e_newq, e_mna, e_new, e_oi, e_cs, e_cv, e_ci, e_min, e_max, e_copy, e_rv, e_ri, e_rz, e_rl, e_run, sx_en, sx_cat, sx_tk, sx_ps, sx_set, sx_setl, sx_dl, sx_m, sx_sw, sx_ft, List.map_cons, List.map_nil, List.getElem?_cons_zero, List.getElem?_cons_succ, List.replicate_succ, List.replicate_zero, List.set_cons_zero, List.set_cons_succ, List.length_cons, List.length_nil, Nat.reduceAdd, Nat.reduceSub, Nat.reduceLeDiff, Nat.reduceLT, Nat.reduceMul, Nat.zero_le, Nat.le_refl, Nat.add_zero, Nat.zero_add, true_and, and_true, true_or, bX8_debtsOf_4, tX8_debtsOf_41, bX8_debtsOf_41, hq, han, q_up_s, q_up_n, q_up_up, q_upd_s, q_upd_n, q_upd_upd, q_in, q_in0, q_in1, q_cl, q_cl0, q_cl1, q_add, q_add1, q_1add, q_add0, q_0add, q_mul, q_ite0, q_ite01, q_10, or_true, not_false_eq_true, not_true_eq_false, q_n0, ne_eq, m_r0, m_r1, m_r2, m_r3, m_r4, m_r5, m_r6, m_r7, m_r8, m_u0, m_u1, m_u2, m_u3, m_u4, m_u5, m_u6, m_u7, m_u8, m_s1, m_s2, m_s3, m_s4, m_s5, m_s6, m_s7, m_s8, m_s9, m_w1, m_w2, m_w3, m_w5, m_w6, m_w7, m_w8, m_w9, hc.2.1, q_le, q_ti]
    exact ⟨fun _ => hR, fun z => absurd (Int.le_refl _) z⟩
  | succ k ih =>
    intro i hi hR
    have hi6 : i < 6 := by omega
    have := ih (i + 1) (by omega) hR
    obtain ⟨-, -, -, -, -, k6, -, -⟩ := hc.2.2.1 i hi6
    rw [tX8_debtsOf_4]
    simp (disch := omega) only [e_const, e_lconst, e_il, e_ll, e_al, e_is, e_as, e_ls, e_inc, e_bin, e_div, e_un, e_lbin, e_ldiv, e_lcmp, e_i2l, e_l2i, e_if1, e_if2, e_go, e_sw, e_dupi, e_dupr, e_dup2, e_popi, e_popr, e_get, e_put, e_iald, e_iast, e_zald, e_zast, e_aald, e_aast, e_sld, e_slen, e_newa, e_newq, e_mna, e_new, e_oi, e_cs, e_cv, e_ci, e_min, e_max, e_copy, e_rv, e_ri, e_rz, e_rl, e_run, sx_en, sx_cat, sx_tk, sx_ps, sx_set, sx_setl, sx_dl, sx_m, sx_sw, sx_ft, List.map_cons, List.map_nil, List.getElem?_cons_zero, List.getElem?_cons_succ, List.replicate_succ, List.replicate_zero, List.set_cons_zero, List.set_cons_succ, List.length_cons, List.length_nil, Nat.reduceAdd, Nat.reduceSub, Nat.reduceLeDiff, Nat.reduceLT, Nat.reduceMul, Nat.zero_le, Nat.le_refl, Nat.add_zero, Nat.zero_add, true_and, and_true, true_or, bX8_debtsOf_4, tX8_debtsOf_27, bX8_debtsOf_27, tX8_debtsOf_33, bX8_debtsOf_33, s_ofk hq han hi6, hq, han, q_up_s, q_up_n, q_up_up, q_upd_s, q_upd_n, q_upd_upd, q_in, q_in0, q_in1, q_cl, q_cl0, q_cl1, q_add, q_add1, q_1add, q_add0, q_0add, q_mul, q_ite0, q_ite01, q_10, or_true, not_false_eq_true, not_true_eq_false, q_n0, ne_eq, m_r0, m_r1, m_r2, m_r3, m_r4, m_r5, m_r6, m_r7, m_r8, m_u0, m_u1, m_u2, m_u3, m_u4, m_u5, m_u6, m_u7, m_u8, m_s1, m_s2, m_s3, m_s4, m_s5, m_s6, m_s7, m_s8, m_s9, m_w1, m_w2, m_w3, m_w5, m_w6, m_w7, m_w8, m_w9, hc.2.1, q_le, q_ti]
    refine ⟨fun z => absurd z (by omega), fun _ => ⟨fun z => ?_, fun z => ?_⟩⟩
    · rw [p_debts, if_pos (by rcases k6 with k6 | k6; exact k6; exact absurd k6 z)] at this; exact this
    · rw [p_debts, if_neg (by rw [Classical.not_not.mp z]; decide +kernel)] at this; exact this
set_option maxRecDepth 100000 in
set_option maxHeartbeats 4000000 in
theorem s_debtsOf {c0 : Nat} (hc : WC c0 f) (hq : h a = sx_ai 64 (toM f c)) (han : a < n) (hQ : Q (some (sx_i (p_debts f 6))) n h) : sx_Cal 157 [sx_r (some a)] n h Q := by
  simp (disch := omega) only [e_const, e_lconst, e_il, e_ll, e_al, e_is, e_as, e_ls, e_inc, e_bin, e_div, e_un, e_lbin, e_ldiv, e_lcmp, e_i2l, e_l2i, e_if1, e_if2, e_go, e_sw, e_dupi, e_dupr, e_dup2, e_popi, e_popr, e_get, e_put, e_iald, e_iast, e_zald, e_zast, e_aald, e_aast, e_sld, e_slen, e_newa, e_newq, e_mna, e_new, e_oi, e_cs, e_cv, e_ci, e_min, e_max, e_copy, e_rv, e_ri, e_rz, e_rl, e_run, sx_en, sx_cat, sx_tk, sx_ps, sx_set, sx_setl, sx_dl, sx_m, sx_sw, sx_ft, List.map_cons, List.map_nil, List.getElem?_cons_zero, List.getElem?_cons_succ, List.replicate_succ, List.replicate_zero, List.set_cons_zero, List.set_cons_succ, List.length_cons, List.length_nil, Nat.reduceAdd, Nat.reduceSub, Nat.reduceLeDiff, Nat.reduceLT, Nat.reduceMul, Nat.zero_le, Nat.le_refl, Nat.add_zero, Nat.zero_add, true_and, and_true, true_or, cX8_debtsOf_c, tX8_debtsOf_0, bX8_debtsOf_0, q_up_s, q_up_n, q_up_up, q_upd_s, q_upd_n, q_upd_upd, q_in, q_in0, q_in1, q_cl, q_cl0, q_cl1, q_add, q_add1, q_1add, q_add0, q_0add, q_mul, q_ite0, q_ite01, q_10, or_true, not_false_eq_true, not_true_eq_false, q_n0, ne_eq]
  have := s_debtsOf_lp hc hq han (fun r n' h' kc ks => Q r n' h' ∧ kc ≤ 0 ∧ ks ≤ 0) c0 0 (by omega) ⟨hQ, Nat.le_refl _, Nat.le_refl _⟩
  rw [nI_0] at this
  exact this
set_option maxRecDepth 100000 in
set_option maxHeartbeats 4000000 in
theorem s_lostOf_lp {c0 : Nat} (hc : WC c0 f) (hq : h a = sx_ai 64 (toM f c)) (han : a < n) (Rt : sx_R) : ∀ (k i : Nat), i + k = c0 → Rt (some (sx_i (p_lost f 6))) n h 0 0 → sx_T BX8_lostOf sx_Cal Rt 4 [some (sx_r (some a)), some (sx_i (p_lost f i)), some (sx_i (nI i))] [] n h 0 0 := by
  have hc6 := hc.1
  intro k
  induction k with
  | zero =>
    intro i hi hR
    have hi : i = c0 := by omega
    subst hi
    have e := lost_stop hc (6 - i) (by omega)
    rw [show i + (6 - i) = 6 by omega] at e
    rw [e] at hR
    rw [tX8_lostOf_4]
    simp (disch := omega) only [e_const, e_lconst, e_il, e_ll, e_al, e_is, e_as, e_ls, e_inc, e_bin, e_div, e_un, e_lbin, e_ldiv, e_lcmp, e_i2l, e_l2i, e_if1, e_if2, e_go, e_sw, e_dupi, e_dupr, e_dup2, e_popi, e_popr, e_get, e_put, e_iald, e_iast, e_zald, e_zast, e_aald, e_aast, e_sld, e_slen, e_newa, e_newq, e_mna, e_new, e_oi, e_cs, e_cv, e_ci, e_min, e_max, e_copy, e_rv, e_ri, e_rz, e_rl, e_run, sx_en, sx_cat, sx_tk, sx_ps, sx_set, sx_setl, sx_dl, sx_m, sx_sw, sx_ft, List.map_cons, List.map_nil, List.getElem?_cons_zero, List.getElem?_cons_succ, List.replicate_succ, List.replicate_zero, List.set_cons_zero, List.set_cons_succ, List.length_cons, List.length_nil, Nat.reduceAdd, Nat.reduceSub, Nat.reduceLeDiff, Nat.reduceLT, Nat.reduceMul, Nat.zero_le, Nat.le_refl, Nat.add_zero, Nat.zero_add, true_and, and_true, true_or, bX8_lostOf_4, tX8_lostOf_38, bX8_lostOf_38, hq, han, q_up_s, q_up_n, q_up_up, q_upd_s, q_upd_n, q_upd_upd, q_in, q_in0, q_in1, q_cl, q_cl0, q_cl1, q_add, q_add1, q_1add, q_add0, q_0add, q_mul, q_ite0, q_ite01, q_10, or_true, not_false_eq_true, not_true_eq_false, q_n0, ne_eq, m_r0, m_r1, m_r2, m_r3, m_r4, m_r5, m_r6, m_r7, m_r8, m_u0, m_u1, m_u2, m_u3, m_u4, m_u5, m_u6, m_u7, m_u8, m_s1, m_s2, m_s3, m_s4, m_s5, m_s6, m_s7, m_s8, m_s9, m_w1, m_w2, m_w3, m_w5, m_w6, m_w7, m_w8, m_w9, hc.2.1, q_le, q_ti]
    exact ⟨fun _ => hR, fun z => absurd (Int.le_refl _) z⟩
  | succ k ih =>
    intro i hi hR
    have hi6 : i < 6 := by omega
    have := ih (i + 1) (by omega) hR
    have ho := out_cmb hc (d := i) (by omega)
    rw [tX8_lostOf_4]
    simp (disch := omega) only [e_const, e_lconst, e_il, e_ll, e_al, e_is, e_as, e_ls, e_inc, e_bin, e_div, e_un, e_lbin, e_ldiv, e_lcmp, e_i2l, e_l2i, e_if1, e_if2, e_go, e_sw, e_dupi, e_dupr, e_dup2, e_popi, e_popr, e_get, e_put, e_iald, e_iast, e_zald, e_zast, e_aald, e_aast, e_sld, e_slen, e_newa, e_newq, e_mna, e_new, e_oi, e_cs, e_cv, e_ci, e_min, e_max, e_copy, e_rv, e_ri, e_rz, e_rl, e_run, sx_en, sx_cat, sx_tk, sx_ps, sx_set, sx_setl, sx_dl, sx_m, sx_sw, sx_ft, List.map_cons, List.map_nil, List.getElem?_cons_zero, List.getElem?_cons_succ, List.replicate_succ, List.replicate_zero, List.set_cons_zero, List.set_cons_succ, List.length_cons, List.length_nil, Nat.reduceAdd, Nat.reduceSub, Nat.reduceLeDiff, Nat.reduceLT, Nat.reduceMul, Nat.zero_le, Nat.le_refl, Nat.add_zero, Nat.zero_add, true_and, and_true, true_or, bX8_lostOf_4, tX8_lostOf_29, bX8_lostOf_29, tX8_lostOf_30, bX8_lostOf_30, s_isOut hq han hi6, s_ofk hq han hi6, hq, han, q_up_s, q_up_n, q_up_up, q_upd_s, q_upd_n, q_upd_upd, q_in, q_in0, q_in1, q_cl, q_cl0, q_cl1, q_add, q_add1, q_1add, q_add0, q_0add, q_mul, q_ite0, q_ite01, q_10, or_true, not_false_eq_true, not_true_eq_false, q_n0, ne_eq, m_r0, m_r1, m_r2, m_r3, m_r4, m_r5, m_r6, m_r7, m_r8, m_u0, m_u1, m_u2, m_u3, m_u4, m_u5, m_u6, m_u7, m_u8, m_s1, m_s2, m_s3, m_s4, m_s5, m_s6, m_s7, m_s8, m_s9, m_w1, m_w2, m_w3, m_w5, m_w6, m_w7, m_w8, m_w9, hc.2.1, q_le, q_ti]
    refine ⟨fun z => absurd z (by omega), fun _ => ⟨fun z => ?_, fun z => ?_⟩⟩
    · rw [p_lost, if_neg (fun q => z (ho.mpr q.2))] at this; exact this
    · rw [p_lost, if_pos ⟨by rw [hc.2.1, nI_toInt (by omega)]; omega, ho.mp (Classical.not_not.mp z)⟩] at this; exact this
set_option maxRecDepth 100000 in
set_option maxHeartbeats 4000000 in
theorem s_lostOf {c0 : Nat} (hc : WC c0 f) (hq : h a = sx_ai 64 (toM f c)) (han : a < n) (hQ : Q (some (sx_i (p_lost f 6))) n h) : sx_Cal 156 [sx_r (some a)] n h Q := by
  simp (disch := omega) only [e_const, e_lconst, e_il, e_ll, e_al, e_is, e_as, e_ls, e_inc, e_bin, e_div, e_un, e_lbin, e_ldiv, e_lcmp, e_i2l, e_l2i, e_if1, e_if2, e_go, e_sw, e_dupi, e_dupr, e_dup2, e_popi, e_popr, e_get, e_put, e_iald, e_iast, e_zald, e_zast, e_aald, e_aast, e_sld, e_slen, e_newa, e_newq, e_mna, e_new, e_oi, e_cs, e_cv, e_ci, e_min, e_max, e_copy, e_rv, e_ri, e_rz, e_rl, e_run, sx_en, sx_cat, sx_tk, sx_ps, sx_set, sx_setl, sx_dl, sx_m, sx_sw, sx_ft, List.map_cons, List.map_nil, List.getElem?_cons_zero, List.getElem?_cons_succ, List.replicate_succ, List.replicate_zero, List.set_cons_zero, List.set_cons_succ, List.length_cons, List.length_nil, Nat.reduceAdd, Nat.reduceSub, Nat.reduceLeDiff, Nat.reduceLT, Nat.reduceMul, Nat.zero_le, Nat.le_refl, Nat.add_zero, Nat.zero_add, true_and, and_true, true_or, cX8_lostOf_c, tX8_lostOf_0, bX8_lostOf_0, q_up_s, q_up_n, q_up_up, q_upd_s, q_upd_n, q_upd_upd, q_in, q_in0, q_in1, q_cl, q_cl0, q_cl1, q_add, q_add1, q_1add, q_add0, q_0add, q_mul, q_ite0, q_ite01, q_10, or_true, not_false_eq_true, not_true_eq_false, q_n0, ne_eq]
  have := s_lostOf_lp hc hq han (fun r n' h' kc ks => Q r n' h' ∧ kc ≤ 0 ∧ ks ≤ 0) c0 0 (by omega) ⟨hQ, Nat.le_refl _, Nat.le_refl _⟩
  rw [nI_0] at this
  exact this
end LEAF
