/-! the class reads a token -/
abbrev g_t (tp pl s pt : Nat) : sx_E := sx_o 5 [sx_r (some 14), sx_i (nI tp), sx_i (nI pl), sx_i (nI s), sx_i (nI pt)]
set_option maxRecDepth 100000 in
set_option maxHeartbeats 4000000 in
theorem nI_eqn {a b : Nat} (ha : a < 2147483648) (hb : b < 2147483648) : (nI a = nI b) = (a = b) := by
  apply propext
  constructor
  · intro e
    have e2 := congrArg Int32.toInt e
    rw [q_ti ha, q_ti hb] at e2
    omega
  · intro e; rw [e]
set_option maxRecDepth 100000 in
set_option maxHeartbeats 4000000 in
theorem nI_eq0 {a : Nat} (ha : a < 2147483648) : (nI a = 0) = (a = 0) := by rw [← nI_0]; exact nI_eqn ha (by omega)
set_option maxRecDepth 100000 in
set_option maxHeartbeats 4000000 in
theorem nI_eq1 {a : Nat} (ha : a < 2147483648) : (nI a = 1) = (a = 1) := by rw [← nI_e1]; exact nI_eqn ha (by omega)
section TB
variable {T : Nat → Int32} {tp n q s pt : Nat} {h : sx_H} {Q : sx_Q}
set_option maxRecDepth 100000 in
set_option maxHeartbeats 4000000 in
theorem s_isFigure (x : Int32) : sx_Cal 81 [sx_i x] n h Q = Q (some (sx_i (if p_isd x = true then 1 else 0))) n h := by
  have e1 : (x < nI 48) = ¬ ((48 : Int) ≤ x.toInt) := by rw [q_ltn, q_ti (by omega)]; rfl
  have e2 : (nI 57 < x) = ¬ (x.toInt ≤ (57 : Int)) := by rw [q_ltn, q_ti (by omega)]; rfl
  have e3 : p_isd x = decide (48 ≤ x.toInt ∧ x.toInt ≤ 57) := rfl
  simp (disch := omega) only [e_const, e_lconst, e_il, e_ll, e_al, z_is, z_as, z_ls, z_inc, e_bin, e_div, e_un, e_lbin, e_ldiv, e_lcmp, e_i2l, e_l2i, e_if1, e_if2, z_go, e_sw, e_dupi, e_dupr, e_dup2, e_popi, e_popr, e_get, e_put, e_iald, e_iast, e_zald, e_zast, e_aald, e_aast, e_sld, e_slen, e_newa, e_newq, e_mna, e_new, e_oi, e_cs, e_cv, e_ci, e_min, e_max, e_copy, e_rv, e_ri, e_rz, e_rl, z_run, sx_en, sx_cat, sx_tk, sx_ps, sx_set, sx_setl, sx_dl, sx_m, sx_sw, sx_ft, List.map_cons, List.map_nil, List.getElem?_cons_zero, List.getElem?_cons_succ, List.replicate_succ, List.replicate_zero, List.set_cons_zero, List.set_cons_succ, List.length_cons, List.length_nil, Nat.reduceAdd, Nat.reduceSub, Nat.reduceLeDiff, Nat.reduceLT, Nat.reduceMul, Nat.zero_le, Nat.le_refl, Nat.add_zero, Nat.zero_add, true_and, and_true, true_or, cX6_isFigure_c, tX6_isFigure_0, bX6_isFigure_0, tX6_isFigure_16, bX6_isFigure_16, tX6_isFigure_17, bX6_isFigure_17, e1, e2, q_10, q_up_s, q_up_n, q_up_up, q_upd_s, q_upd_n, q_upd_upd, q_in, q_in0, q_in1, q_cl, q_cl0, q_cl1, q_add, q_add1, q_1add, q_add0, q_0add, q_mul, q_ite0, q_ite01, q_10, or_true, not_false_eq_true, not_true_eq_false, q_n0, ne_eq, false_implies, true_implies, true_and, and_true, not_true_eq_false, not_false_eq_true, Bool.false_eq_true]
  by_cases a : (48 : Int) ≤ x.toInt <;> by_cases b : x.toInt ≤ (57 : Int) <;> simp [a, b, e3]
set_option maxRecDepth 100000 in
set_option maxHeartbeats 4000000 in
theorem s_num_lp {r : Nat} (hn : 17 < n) (htp : tp ≤ 120) (h1 : h 13 = g_t tp q s pt) (h2 : h 14 = sx_ai 120 T) (Rt : sx_R) : ∀ (k i : Nat), q + i + k = tp → p_rn T k (q + i) + i = r → sx_T BX6_readNumber sx_Cal Rt 48 [some (sx_r (some 13)), some (sx_r (some 17)), some (sx_i (p_vl T q r)), some (sx_i (nI (q + r))), none] [] n h 0 0 → sx_T BX6_readNumber sx_Cal Rt 7 [some (sx_r (some 13)), some (sx_r (some 17)), some (sx_i (p_vl T q i)), some (sx_i (nI (q + i))), none] [] n h 0 0 := by
  have a1 : 13 < n := by omega
  have a2 : 14 < n := by omega
  intro k
  induction k with
  | zero =>
    intro i hi hr hR
    have : i = r := by rw [p_rn] at hr; omega
    subst this
    have hle : ((tp : Int) ≤ ((q + i : Nat) : Int)) = True := eq_true (by omega)
    rw [tX6_readNumber_7]
    simp (disch := omega) only [e_const, e_lconst, e_il, e_ll, e_al, z_is, z_as, z_ls, z_inc, e_bin, e_div, e_un, e_lbin, e_ldiv, e_lcmp, e_i2l, e_l2i, e_if1, e_if2, z_go, e_sw, e_dupi, e_dupr, e_dup2, e_popi, e_popr, e_get, e_put, e_iald, e_iast, e_zald, e_zast, e_aald, e_aast, e_sld, e_slen, e_newa, e_newq, e_mna, e_new, e_oi, e_cs, e_cv, e_ci, e_min, e_max, e_copy, e_rv, e_ri, e_rz, e_rl, z_run, sx_en, sx_cat, sx_tk, sx_ps, sx_set, sx_setl, sx_dl, sx_m, sx_sw, sx_ft, List.map_cons, List.map_nil, List.getElem?_cons_zero, List.getElem?_cons_succ, List.replicate_succ, List.replicate_zero, List.set_cons_zero, List.set_cons_succ, List.length_cons, List.length_nil, Nat.reduceAdd, Nat.reduceSub, Nat.reduceLeDiff, Nat.reduceLT, Nat.reduceMul, Nat.zero_le, Nat.le_refl, Nat.add_zero, Nat.zero_add, true_and, and_true, true_or, bX6_readNumber_7, h1, a1, q_le (nI tp) (nI (q + i)), q_ti, hle, q_up_s, q_up_n, q_up_up, q_upd_s, q_upd_n, q_upd_upd, q_in, q_in0, q_in1, q_cl, q_cl0, q_cl1, q_add, q_add1, q_1add, q_add0, q_0add, q_mul, q_ite0, q_ite01, q_10, or_true, not_false_eq_true, not_true_eq_false, q_n0, ne_eq, false_implies, true_implies, true_and, and_true, not_true_eq_false, not_false_eq_true, Bool.false_eq_true, sx_o, Sum.inr.injEq, Prod.mk.injEq, exists_eq', Nat.reduceLT]
    exact hR
  | succ k ih =>
    intro i hi hr hR
    have hle : ((tp : Int) ≤ ((q + i : Nat) : Int)) = False := eq_false (by omega)
    have hx : q + i < 120 := by omega
    rw [p_rn] at hr
    rw [tX6_readNumber_7]
    simp (disch := omega) only [e_const, e_lconst, e_il, e_ll, e_al, z_is, z_as, z_ls, z_inc, e_bin, e_div, e_un, e_lbin, e_ldiv, e_lcmp, e_i2l, e_l2i, e_if1, e_if2, z_go, e_sw, e_dupi, e_dupr, e_dup2, e_popi, e_popr, e_get, e_put, e_iald, e_iast, e_zald, e_zast, e_aald, e_aast, e_sld, e_slen, e_newa, e_newq, e_mna, e_new, e_oi, e_cs, e_cv, e_ci, e_min, e_max, e_copy, e_rv, e_ri, e_rz, e_rl, z_run, sx_en, sx_cat, sx_tk, sx_ps, sx_set, sx_setl, sx_dl, sx_m, sx_sw, sx_ft, List.map_cons, List.map_nil, List.getElem?_cons_zero, List.getElem?_cons_succ, List.replicate_succ, List.replicate_zero, List.set_cons_zero, List.set_cons_succ, List.length_cons, List.length_nil, Nat.reduceAdd, Nat.reduceSub, Nat.reduceLeDiff, Nat.reduceLT, Nat.reduceMul, Nat.zero_le, Nat.le_refl, Nat.add_zero, Nat.zero_add, true_and, and_true, true_or, bX6_readNumber_7, h1, h2, a1, a2, hx, s_isFigure, q_le (nI tp) (nI (q + i)), q_ti, hle, q_up_s, q_up_n, q_up_up, q_upd_s, q_upd_n, q_upd_upd, q_in, q_in0, q_in1, q_cl, q_cl0, q_cl1, q_add, q_add1, q_1add, q_add0, q_0add, q_mul, q_ite0, q_ite01, q_10, or_true, not_false_eq_true, not_true_eq_false, q_n0, ne_eq, false_implies, true_implies, true_and, and_true, not_true_eq_false, not_false_eq_true, Bool.false_eq_true, sx_o, Sum.inr.injEq, Prod.mk.injEq, exists_eq', Nat.reduceLT]
    refine ⟨fun z => ?_, fun z => ?_⟩
    · rw [if_neg z] at hr
      have : i = r := by omega
      subst this
      exact hR
    · rw [if_pos (Classical.not_not.mp z)] at hr
      exact ih (i + 1) (by omega) (by rw [show q + (i + 1) = q + i + 1 by omega]; omega) hR
set_option maxRecDepth 100000 in
set_option maxHeartbeats 4000000 in
theorem s_lstT (hn : 17 < n) (h1 : h 13 = g_t tp q s pt) (hs : s < 7) (hp : pt < 1000) : sx_Cal 82 [sx_r (some 13)] n h Q = Q (some (sx_i (p_lo s pt))) n h := by
  have a1 : 13 < n := by omega
  simp (disch := omega) only [e_const, e_lconst, e_il, e_ll, e_al, z_is, z_as, z_ls, z_inc, e_bin, e_div, e_un, e_lbin, e_ldiv, e_lcmp, e_i2l, e_l2i, e_if1, e_if2, z_go, e_sw, e_dupi, e_dupr, e_dup2, e_popi, e_popr, e_get, e_put, e_iald, e_iast, e_zald, e_zast, e_aald, e_aast, e_sld, e_slen, e_newa, e_newq, e_mna, e_new, e_oi, e_cs, e_cv, e_ci, e_min, e_max, e_copy, e_rv, e_ri, e_rz, e_rl, z_run, sx_en, sx_cat, sx_tk, sx_ps, sx_set, sx_setl, sx_dl, sx_m, sx_sw, sx_ft, List.map_cons, List.map_nil, List.getElem?_cons_zero, List.getElem?_cons_succ, List.replicate_succ, List.replicate_zero, List.set_cons_zero, List.set_cons_succ, List.length_cons, List.length_nil, Nat.reduceAdd, Nat.reduceSub, Nat.reduceLeDiff, Nat.reduceLT, Nat.reduceMul, Nat.zero_le, Nat.le_refl, Nat.add_zero, Nat.zero_add, true_and, and_true, true_or, cX6_leastTold_c, tX6_leastTold_0, bX6_leastTold_0, tX6_leastTold_19, bX6_leastTold_19, tX6_leastTold_20, bX6_leastTold_20, h1, a1, nI_eq0, nI_eqn, q_up_s, q_up_n, q_up_up, q_upd_s, q_upd_n, q_upd_upd, q_in, q_in0, q_in1, q_cl, q_cl0, q_cl1, q_add, q_add1, q_1add, q_add0, q_0add, q_mul, q_ite0, q_ite01, q_10, or_true, not_false_eq_true, not_true_eq_false, q_n0, ne_eq, false_implies, true_implies, true_and, and_true, not_true_eq_false, not_false_eq_true, Bool.false_eq_true, sx_o, Sum.inr.injEq, Prod.mk.injEq, exists_eq', Nat.reduceLT]
  unfold p_lo
  by_cases a : pt = 0 <;> by_cases b : s = 5 <;> simp [a, b]
set_option maxRecDepth 100000 in
set_option maxHeartbeats 4000000 in
theorem s_mstT (hn : 17 < n) (h1 : h 13 = g_t tp q s pt) (hs : s < 7) (hp : pt < 1000) : sx_Cal 83 [sx_r (some 13)] n h Q = Q (some (sx_i (p_hi s pt))) n h := by
  have a1 : 13 < n := by omega
  simp (disch := omega) only [e_const, e_lconst, e_il, e_ll, e_al, z_is, z_as, z_ls, z_inc, e_bin, e_div, e_un, e_lbin, e_ldiv, e_lcmp, e_i2l, e_l2i, e_if1, e_if2, z_go, e_sw, e_dupi, e_dupr, e_dup2, e_popi, e_popr, e_get, e_put, e_iald, e_iast, e_zald, e_zast, e_aald, e_aast, e_sld, e_slen, e_newa, e_newq, e_mna, e_new, e_oi, e_cs, e_cv, e_ci, e_min, e_max, e_copy, e_rv, e_ri, e_rz, e_rl, z_run, sx_en, sx_cat, sx_tk, sx_ps, sx_set, sx_setl, sx_dl, sx_m, sx_sw, sx_ft, List.map_cons, List.map_nil, List.getElem?_cons_zero, List.getElem?_cons_succ, List.replicate_succ, List.replicate_zero, List.set_cons_zero, List.set_cons_succ, List.length_cons, List.length_nil, Nat.reduceAdd, Nat.reduceSub, Nat.reduceLeDiff, Nat.reduceLT, Nat.reduceMul, Nat.zero_le, Nat.le_refl, Nat.add_zero, Nat.zero_add, true_and, and_true, true_or, cX6_mostTold_c, tX6_mostTold_0, bX6_mostTold_0, tX6_mostTold_20, bX6_mostTold_20, tX6_mostTold_33, bX6_mostTold_33, tX6_mostTold_35, bX6_mostTold_35, tX6_mostTold_36, bX6_mostTold_36, tX6_mostTold_49, bX6_mostTold_49, tX6_mostTold_62, bX6_mostTold_62, tX6_mostTold_64, bX6_mostTold_64, h1, a1, nI_eq0, nI_eq1, nI_eqn, q_up_s, q_up_n, q_up_up, q_upd_s, q_upd_n, q_upd_upd, q_in, q_in0, q_in1, q_cl, q_cl0, q_cl1, q_add, q_add1, q_1add, q_add0, q_0add, q_mul, q_ite0, q_ite01, q_10, or_true, not_false_eq_true, not_true_eq_false, q_n0, ne_eq, false_implies, true_implies, true_and, and_true, not_true_eq_false, not_false_eq_true, Bool.false_eq_true, sx_o, Sum.inr.injEq, Prod.mk.injEq, exists_eq', Nat.reduceLT]
  unfold p_hi
  by_cases a : pt = 0 <;> by_cases b : s = 1 <;> by_cases c : s = 3 <;> simp [a, b, c]
set_option maxRecDepth 100000 in
set_option maxHeartbeats 4000000 in
theorem s_plcT (hn : 17 < n) (h1 : h 13 = g_t tp q s pt) (hs : s < 7) (hp : pt < 1000) : sx_Cal 84 [sx_r (some 13)] n h Q = Q (some (sx_i (nI (p_pl s pt)))) n h := by
  have a1 : 13 < n := by omega
  have e : ∀ x : Nat, ¬ pt = 0 → nI (x + pt) - 1 = nI (x + (pt - 1)) := fun x hx => by rw [nI_sub1 (by omega)]; congr 1; omega
  by_cases a : pt = 0
  · simp (disch := omega) only [e_const, e_lconst, e_il, e_ll, e_al, z_is, z_as, z_ls, z_inc, e_bin, e_div, e_un, e_lbin, e_ldiv, e_lcmp, e_i2l, e_l2i, e_if1, e_if2, z_go, e_sw, e_dupi, e_dupr, e_dup2, e_popi, e_popr, e_get, e_put, e_iald, e_iast, e_zald, e_zast, e_aald, e_aast, e_sld, e_slen, e_newa, e_newq, e_mna, e_new, e_oi, e_cs, e_cv, e_ci, e_min, e_max, e_copy, e_rv, e_ri, e_rz, e_rl, z_run, sx_en, sx_cat, sx_tk, sx_ps, sx_set, sx_setl, sx_dl, sx_m, sx_sw, sx_ft, List.map_cons, List.map_nil, List.getElem?_cons_zero, List.getElem?_cons_succ, List.replicate_succ, List.replicate_zero, List.set_cons_zero, List.set_cons_succ, List.length_cons, List.length_nil, Nat.reduceAdd, Nat.reduceSub, Nat.reduceLeDiff, Nat.reduceLT, Nat.reduceMul, Nat.zero_le, Nat.le_refl, Nat.add_zero, Nat.zero_add, true_and, and_true, true_or, cX6_placeTold_c, tX6_placeTold_0, bX6_placeTold_0, tX6_placeTold_20, bX6_placeTold_20, tX6_placeTold_33, bX6_placeTold_33, tX6_placeTold_35, bX6_placeTold_35, tX6_placeTold_36, bX6_placeTold_36, tX6_placeTold_49, bX6_placeTold_49, tX6_placeTold_62, bX6_placeTold_62, tX6_placeTold_64, bX6_placeTold_64, h1, a1, nI_eq0, nI_eq1, nI_eqn, a, q_up_s, q_up_n, q_up_up, q_upd_s, q_upd_n, q_upd_upd, q_in, q_in0, q_in1, q_cl, q_cl0, q_cl1, q_add, q_add1, q_1add, q_add0, q_0add, q_mul, q_ite0, q_ite01, q_10, or_true, not_false_eq_true, not_true_eq_false, q_n0, ne_eq, false_implies, true_implies, true_and, and_true, not_true_eq_false, not_false_eq_true, Bool.false_eq_true, sx_o, Sum.inr.injEq, Prod.mk.injEq, exists_eq', Nat.reduceLT]
    unfold p_pl
    by_cases b : s = 1 <;> by_cases c : s = 3 <;> simp [a, b, c]
  · simp (disch := omega) only [e_const, e_lconst, e_il, e_ll, e_al, z_is, z_as, z_ls, z_inc, e_bin, e_div, e_un, e_lbin, e_ldiv, e_lcmp, e_i2l, e_l2i, e_if1, e_if2, z_go, e_sw, e_dupi, e_dupr, e_dup2, e_popi, e_popr, e_get, e_put, e_iald, e_iast, e_zald, e_zast, e_aald, e_aast, e_sld, e_slen, e_newa, e_newq, e_mna, e_new, e_oi, e_cs, e_cv, e_ci, e_min, e_max, e_copy, e_rv, e_ri, e_rz, e_rl, z_run, sx_en, sx_cat, sx_tk, sx_ps, sx_set, sx_setl, sx_dl, sx_m, sx_sw, sx_ft, List.map_cons, List.map_nil, List.getElem?_cons_zero, List.getElem?_cons_succ, List.replicate_succ, List.replicate_zero, List.set_cons_zero, List.set_cons_succ, List.length_cons, List.length_nil, Nat.reduceAdd, Nat.reduceSub, Nat.reduceLeDiff, Nat.reduceLT, Nat.reduceMul, Nat.zero_le, Nat.le_refl, Nat.add_zero, Nat.zero_add, true_and, and_true, true_or, cX6_placeTold_c, tX6_placeTold_0, bX6_placeTold_0, tX6_placeTold_20, bX6_placeTold_20, tX6_placeTold_33, bX6_placeTold_33, tX6_placeTold_35, bX6_placeTold_35, tX6_placeTold_36, bX6_placeTold_36, tX6_placeTold_49, bX6_placeTold_49, tX6_placeTold_62, bX6_placeTold_62, tX6_placeTold_64, bX6_placeTold_64, h1, a1, nI_eq0, nI_eq1, nI_eqn, a, e, q_up_s, q_up_n, q_up_up, q_upd_s, q_upd_n, q_upd_upd, q_in, q_in0, q_in1, q_cl, q_cl0, q_cl1, q_add, q_add1, q_1add, q_add0, q_0add, q_mul, q_ite0, q_ite01, q_10, or_true, not_false_eq_true, not_true_eq_false, q_n0, ne_eq, false_implies, true_implies, true_and, and_true, not_true_eq_false, not_false_eq_true, Bool.false_eq_true, sx_o, Sum.inr.injEq, Prod.mk.injEq, exists_eq', Nat.reduceLT]
    unfold p_pl
    by_cases b : s = 1 <;> by_cases c : s = 3 <;> simp [a, b, c]
end TB
