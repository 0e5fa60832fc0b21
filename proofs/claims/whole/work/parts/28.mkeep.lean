/-! the reference keeps an act, lays a shop aside -/
set_option maxRecDepth 100000 in
set_option maxHeartbeats 4000000 in
theorem cpf_full {g b : Nat → Int32} {N : Nat} (hb : ∀ j, N ≤ j → b j = 0) (hg : ∀ j, N ≤ j → g j = 0) : cpf g 0 b N = b := by
  funext j
  rw [cpf]
  by_cases h : 0 ≤ j ∧ j < 0 + N
  · rw [if_pos h, Nat.sub_zero]
  · rw [if_neg h, hb j (by omega), hg j (by omega)]
section MKP
variable {th st tp cu sa tk va fa fp la tr : Int32} {n : Nat} {h : sx_H} {Q : sx_Q}
set_option maxRecDepth 100000 in
set_option maxHeartbeats 4000000 in
theorem s_layThen {ac : Nat} {b g : Nat → Int32} (hn : 63 < n) (hm : h 53 = g_m th st (nI ac) tp cu sa tk va fa fp la tr) (hq : h 57 = sx_ai 64 b) (hg : h 59 = sx_ai 64 g) (hb0 : ∀ j, 64 ≤ j → b j = 0) (hg0 : ∀ j, 64 ≤ j → g j = 0) (hQ : Q none n (sx_up h 59 (sx_ai 64 b))) : sx_Cal 155 [sx_r (some 53)] n h Q := by
  simp (disch := omega) only [e_const, e_lconst, e_il, e_ll, e_al, e_is, e_as, e_ls, e_inc, e_bin, e_div, e_un, e_lbin, e_ldiv, e_lcmp, e_i2l, e_l2i, e_if1, e_if2, e_go, e_sw, e_dupi, e_dupr, e_dup2, e_popi, e_popr, e_get, e_put, e_iald, e_iast, e_zald, e_zast, e_aald, e_aast, e_sld, e_slen, e_newa, e_newq, e_mna, e_new, e_oi, e_cs, e_cv, e_ci, e_min, e_max, e_copy, e_rv, e_ri, e_rz, e_rl, e_run, sx_en, sx_cat, sx_tk, sx_ps, sx_set, sx_setl, sx_dl, sx_m, sx_sw, sx_ft, List.map_cons, List.map_nil, List.getElem?_cons_zero, List.getElem?_cons_succ, List.replicate_succ, List.replicate_zero, List.set_cons_zero, List.set_cons_succ, List.length_cons, List.length_nil, Nat.reduceAdd, Nat.reduceSub, Nat.reduceLeDiff, Nat.reduceLT, Nat.reduceMul, Nat.zero_le, Nat.le_refl, Nat.add_zero, Nat.zero_add, true_and, and_true, true_or, cX8_layThen_c, tX8_layThen_0, bX8_layThen_0, q_up_s, q_up_n, q_up_up, q_upd_s, q_upd_n, q_upd_upd, q_in, q_in0, q_in1, q_cl, q_cl0, q_cl1, q_add, q_add1, q_1add, q_add0, q_0add, q_mul, q_ite0, q_ite01, q_10, or_true, not_false_eq_true, not_true_eq_false, q_n0, ne_eq]
  have key := fun Rt hR => s_layThen_lp hn g Rt 64 0 h rfl hm hq (by rw [cpf_0]; exact hg) hR
  rw [nI_0] at key
  refine key _ ?_
  simp (disch := omega) only [e_const, e_lconst, e_il, e_ll, e_al, e_is, e_as, e_ls, e_inc, e_bin, e_div, e_un, e_lbin, e_ldiv, e_lcmp, e_i2l, e_l2i, e_if1, e_if2, e_go, e_sw, e_dupi, e_dupr, e_dup2, e_popi, e_popr, e_get, e_put, e_iald, e_iast, e_zald, e_zast, e_aald, e_aast, e_sld, e_slen, e_newa, e_newq, e_mna, e_new, e_oi, e_cs, e_cv, e_ci, e_min, e_max, e_copy, e_rv, e_ri, e_rz, e_rl, e_run, sx_en, sx_cat, sx_tk, sx_ps, sx_set, sx_setl, sx_dl, sx_m, sx_sw, sx_ft, List.map_cons, List.map_nil, List.getElem?_cons_zero, List.getElem?_cons_succ, List.replicate_succ, List.replicate_zero, List.set_cons_zero, List.set_cons_succ, List.length_cons, List.length_nil, Nat.reduceAdd, Nat.reduceSub, Nat.reduceLeDiff, Nat.reduceLT, Nat.reduceMul, Nat.zero_le, Nat.le_refl, Nat.add_zero, Nat.zero_add, true_and, and_true, true_or, tX8_layThen_26, bX8_layThen_26, cpf_full hb0 hg0, false_implies, true_implies, true_and, and_true, not_true_eq_false, not_false_eq_true, Bool.false_eq_true]
  exact hQ
set_option maxRecDepth 100000 in
set_option maxHeartbeats 4000000 in
theorem s_keepM {k : Nat} {acts : Nat → Nat → Int32} {f : Nat → Int32} {c : Int32} (hn : 63 < n) (hk : k ≤ 24) (hm : h 53 = g_m th st (nI k) tp cu sa tk va fa fp la tr) (hq : h 57 = sx_ai 64 (toM f c)) (hA : MA k acts h) (hQ : ∀ h', h' 53 = g_m th st (nI (min (k + 1) 24)) tp cu sa tk va fa fp la tr → MA (min (k + 1) 24) (p_keep k acts f) h' → (∀ j, j ≠ 53 → j ≠ 60 → h' j = h j) → Q none n h') : sx_Cal 158 [sx_r (some 53)] n h Q := by
  obtain ⟨wf, hw, hA2⟩ := hA
  have hn2 : 53 < n := by omega
  by_cases hk24 : k = 24
  · subst hk24
    simp (disch := omega) only [e_const, e_lconst, e_il, e_ll, e_al, e_is, e_as, e_ls, e_inc, e_bin, e_div, e_un, e_lbin, e_ldiv, e_lcmp, e_i2l, e_l2i, e_if1, e_if2, e_go, e_sw, e_dupi, e_dupr, e_dup2, e_popi, e_popr, e_get, e_put, e_iald, e_iast, e_zald, e_zast, e_aald, e_aast, e_sld, e_slen, e_newa, e_newq, e_mna, e_new, e_oi, e_cs, e_cv, e_ci, e_min, e_max, e_copy, e_rv, e_ri, e_rz, e_rl, e_run, sx_en, sx_cat, sx_tk, sx_ps, sx_set, sx_setl, sx_dl, sx_m, sx_sw, sx_ft, List.map_cons, List.map_nil, List.getElem?_cons_zero, List.getElem?_cons_succ, List.replicate_succ, List.replicate_zero, List.set_cons_zero, List.set_cons_succ, List.length_cons, List.length_nil, Nat.reduceAdd, Nat.reduceSub, Nat.reduceLeDiff, Nat.reduceLT, Nat.reduceMul, Nat.zero_le, Nat.le_refl, Nat.add_zero, Nat.zero_add, true_and, and_true, true_or, cX8_keep_c, tX8_keep_0, bX8_keep_0, hm, hn2, q_up_s, q_up_n, q_up_up, q_upd_s, q_upd_n, q_upd_upd, q_in, q_in0, q_in1, q_cl, q_cl0, q_cl1, q_add, q_add1, q_1add, q_add0, q_0add, q_mul, q_ite0, q_ite01, q_10, or_true, not_false_eq_true, not_true_eq_false, q_n0, ne_eq, false_implies, true_implies, true_and, and_true, not_true_eq_false, not_false_eq_true, Bool.false_eq_true]
    have key := fun Rt hR => s_keep1_lp hn wf Rt 1472 0 h rfl hm (by rw [cpf_0]; exact hw) hR
    rw [nI_0] at key
    refine key _ ?_
    simp (disch := omega) only [e_const, e_lconst, e_il, e_ll, e_al, e_is, e_as, e_ls, e_inc, e_bin, e_div, e_un, e_lbin, e_ldiv, e_lcmp, e_i2l, e_l2i, e_if1, e_if2, e_go, e_sw, e_dupi, e_dupr, e_dup2, e_popi, e_popr, e_get, e_put, e_iald, e_iast, e_zald, e_zast, e_aald, e_aast, e_sld, e_slen, e_newa, e_newq, e_mna, e_new, e_oi, e_cs, e_cv, e_ci, e_min, e_max, e_copy, e_rv, e_ri, e_rz, e_rl, e_run, sx_en, sx_cat, sx_tk, sx_ps, sx_set, sx_setl, sx_dl, sx_m, sx_sw, sx_ft, List.map_cons, List.map_nil, List.getElem?_cons_zero, List.getElem?_cons_succ, List.replicate_succ, List.replicate_zero, List.set_cons_zero, List.set_cons_succ, List.length_cons, List.length_nil, Nat.reduceAdd, Nat.reduceSub, Nat.reduceLeDiff, Nat.reduceLT, Nat.reduceMul, Nat.zero_le, Nat.le_refl, Nat.add_zero, Nat.zero_add, true_and, and_true, true_or, tX8_keep_39, bX8_keep_39, tX8_keep_49, bX8_keep_49, hm, hn2, nI_sub1, q_up_s, q_up_n, q_up_up, q_upd_s, q_upd_n, q_upd_upd, q_in, q_in0, q_in1, q_cl, q_cl0, q_cl1, q_add, q_add1, q_1add, q_add0, q_0add, q_mul, q_ite0, q_ite01, q_10, or_true, not_false_eq_true, not_true_eq_false, q_n0, ne_eq, false_implies, true_implies, true_and, and_true, not_true_eq_false, not_false_eq_true, Bool.false_eq_true]
    have key2 := fun Rt hh hm hq hw hR => s_keep2_lp (th := th) (st := st) (tp := tp) (cu := cu) (sa := sa) (tk := tk) (va := va) (fa := fa) (fp := fp) (la := la) (tr := tr) hn (show 23 < 24 by decide) (b := toM f c) (cpf wf 0 (fun j => wf (j + 64)) 1472) Rt 64 0 hh rfl hm hq hw hR
    rw [nI_0] at key2
    refine key2 _ _ (by rw [q_up_s]) ?_ ?_ ?_
    · simp (disch := omega) only [q_up_n]; exact hq
    · rw [cpf_0]; simp (disch := omega) only [q_up_n, q_up_s]
    simp (disch := omega) only [e_const, e_lconst, e_il, e_ll, e_al, e_is, e_as, e_ls, e_inc, e_bin, e_div, e_un, e_lbin, e_ldiv, e_lcmp, e_i2l, e_l2i, e_if1, e_if2, e_go, e_sw, e_dupi, e_dupr, e_dup2, e_popi, e_popr, e_get, e_put, e_iald, e_iast, e_zald, e_zast, e_aald, e_aast, e_sld, e_slen, e_newa, e_newq, e_mna, e_new, e_oi, e_cs, e_cv, e_ci, e_min, e_max, e_copy, e_rv, e_ri, e_rz, e_rl, e_run, sx_en, sx_cat, sx_tk, sx_ps, sx_set, sx_setl, sx_dl, sx_m, sx_sw, sx_ft, List.map_cons, List.map_nil, List.getElem?_cons_zero, List.getElem?_cons_succ, List.replicate_succ, List.replicate_zero, List.set_cons_zero, List.set_cons_succ, List.length_cons, List.length_nil, Nat.reduceAdd, Nat.reduceSub, Nat.reduceLeDiff, Nat.reduceLT, Nat.reduceMul, Nat.zero_le, Nat.le_refl, Nat.add_zero, Nat.zero_add, true_and, and_true, true_or, tX8_keep_83, bX8_keep_83, hm, hn2, q_up_s, q_up_n, q_up_up, q_upd_s, q_upd_n, q_upd_upd, q_in, q_in0, q_in1, q_cl, q_cl0, q_cl1, q_add, q_add1, q_1add, q_add0, q_0add, q_mul, q_ite0, q_ite01, q_10, or_true, not_false_eq_true, not_true_eq_false, q_n0, ne_eq, false_implies, true_implies, true_and, and_true, not_true_eq_false, not_false_eq_true, Bool.false_eq_true]
    refine hQ _ (by simp (disch := omega) only [q_up_s, q_up_n]; rfl) ⟨cpf (cpf wf 0 (fun j => wf (j + 64)) 1472) (64 * 23) (toM f c) 64, by simp (disch := omega) only [q_up_s, q_up_n], fun j hj => ?_⟩ (fun j h1 h2 => by simp (disch := omega) only [q_up_s, q_up_n])
    have e : min (24 + 1) 24 = 24 := rfl
    rw [e] at hj
    rw [p_keep, if_neg (by omega)]
    by_cases q : j = 23
    · rw [if_pos q]
      refine ⟨c, fun i hi => ?_⟩
      rw [cpf, if_pos (by omega)]
      congr 1; omega
    · rw [if_neg q]
      obtain ⟨c', hc'⟩ := hA2 (j + 1) (by omega)
      refine ⟨c', fun i hi => ?_⟩
      rw [cpf_o (by omega), cpf, if_pos (by omega), ← hc' i hi]
      congr 1; omega
  · have hk2 : k < 24 := by omega
    simp (disch := omega) only [e_const, e_lconst, e_il, e_ll, e_al, e_is, e_as, e_ls, e_inc, e_bin, e_div, e_un, e_lbin, e_ldiv, e_lcmp, e_i2l, e_l2i, e_if1, e_if2, e_go, e_sw, e_dupi, e_dupr, e_dup2, e_popi, e_popr, e_get, e_put, e_iald, e_iast, e_zald, e_zast, e_aald, e_aast, e_sld, e_slen, e_newa, e_newq, e_mna, e_new, e_oi, e_cs, e_cv, e_ci, e_min, e_max, e_copy, e_rv, e_ri, e_rz, e_rl, e_run, sx_en, sx_cat, sx_tk, sx_ps, sx_set, sx_setl, sx_dl, sx_m, sx_sw, sx_ft, List.map_cons, List.map_nil, List.getElem?_cons_zero, List.getElem?_cons_succ, List.replicate_succ, List.replicate_zero, List.set_cons_zero, List.set_cons_succ, List.length_cons, List.length_nil, Nat.reduceAdd, Nat.reduceSub, Nat.reduceLeDiff, Nat.reduceLT, Nat.reduceMul, Nat.zero_le, Nat.le_refl, Nat.add_zero, Nat.zero_add, true_and, and_true, true_or, cX8_keep_c, tX8_keep_0, bX8_keep_0, tX8_keep_49, bX8_keep_49, hm, hn2, nI_eq, hk24, q_up_s, q_up_n, q_up_up, q_upd_s, q_upd_n, q_upd_upd, q_in, q_in0, q_in1, q_cl, q_cl0, q_cl1, q_add, q_add1, q_1add, q_add0, q_0add, q_mul, q_ite0, q_ite01, q_10, or_true, not_false_eq_true, not_true_eq_false, q_n0, ne_eq, false_implies, true_implies, true_and, and_true, not_true_eq_false, not_false_eq_true, Bool.false_eq_true]
    have key2 := fun Rt hR => s_keep2_lp hn hk2 (b := toM f c) wf Rt 64 0 h rfl hm hq (by rw [cpf_0]; exact hw) hR
    rw [nI_0] at key2
    refine key2 _ ?_
    simp (disch := omega) only [e_const, e_lconst, e_il, e_ll, e_al, e_is, e_as, e_ls, e_inc, e_bin, e_div, e_un, e_lbin, e_ldiv, e_lcmp, e_i2l, e_l2i, e_if1, e_if2, e_go, e_sw, e_dupi, e_dupr, e_dup2, e_popi, e_popr, e_get, e_put, e_iald, e_iast, e_zald, e_zast, e_aald, e_aast, e_sld, e_slen, e_newa, e_newq, e_mna, e_new, e_oi, e_cs, e_cv, e_ci, e_min, e_max, e_copy, e_rv, e_ri, e_rz, e_rl, e_run, sx_en, sx_cat, sx_tk, sx_ps, sx_set, sx_setl, sx_dl, sx_m, sx_sw, sx_ft, List.map_cons, List.map_nil, List.getElem?_cons_zero, List.getElem?_cons_succ, List.replicate_succ, List.replicate_zero, List.set_cons_zero, List.set_cons_succ, List.length_cons, List.length_nil, Nat.reduceAdd, Nat.reduceSub, Nat.reduceLeDiff, Nat.reduceLT, Nat.reduceMul, Nat.zero_le, Nat.le_refl, Nat.add_zero, Nat.zero_add, true_and, and_true, true_or, tX8_keep_83, bX8_keep_83, hm, hn2, q_up_s, q_up_n, q_up_up, q_upd_s, q_upd_n, q_upd_upd, q_in, q_in0, q_in1, q_cl, q_cl0, q_cl1, q_add, q_add1, q_1add, q_add0, q_0add, q_mul, q_ite0, q_ite01, q_10, or_true, not_false_eq_true, not_true_eq_false, q_n0, ne_eq, false_implies, true_implies, true_and, and_true, not_true_eq_false, not_false_eq_true, Bool.false_eq_true]
    have e : min (k + 1) 24 = k + 1 := by omega
    rw [e] at hQ
    refine hQ _ (by simp (disch := omega) only [q_up_s, q_up_n]) ⟨cpf wf (64 * k) (toM f c) 64, by simp (disch := omega) only [q_up_s, q_up_n], fun j hj => ?_⟩ (fun j h1 h2 => by simp (disch := omega) only [q_up_s, q_up_n])
    rw [p_keep, if_pos hk2]
    by_cases q : j = k
    · rw [if_pos q]
      refine ⟨c, fun i hi => ?_⟩
      rw [cpf, if_pos (by omega)]
      congr 1; rw [q]; omega
    · rw [if_neg q]
      obtain ⟨c', hc'⟩ := hA2 j (by omega)
      refine ⟨c', fun i hi => ?_⟩
      rw [cpf_o (by omega), ← hc' i hi]
end MKP
