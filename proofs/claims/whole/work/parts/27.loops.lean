/-! LOOPS OF THE REFERENCE THAT COPY -/
set_option maxRecDepth 100000 in
set_option maxHeartbeats 4000000 in
theorem s_layThen_lp {th st tp cu sa tk va fa fp la tr : Int32} {ac : Nat} {n : Nat} (hn : 63 < n) {b : Nat → Int32} (g : Nat → Int32) (Rt : sx_R) : ∀ (k i : Nat) (h : sx_H), i + k = 64 → h 53 = g_m th st (nI ac) tp cu sa tk va fa fp la tr → h 57 = sx_ai 64 b → h 59 = sx_ai 64 (cpf g (0) b i) → sx_T BX8_layThen sx_Cal Rt 26 [none, none] [] n (sx_up h 59 (sx_ai 64 (cpf g (0) b 64))) 0 0 → sx_T BX8_layThen sx_Cal Rt 2 [some (sx_r (some 53)), some (sx_i (nI i))] [] n h 0 0 := by
  have hn2 : 53 < n := by omega
  have hnc : 59 < n := by omega
  have hn57 : 57 < n := by omega
  have hn60 : 60 < n := by omega
  have hn63 : 63 < n := by omega
  intro k
  induction k with
  | zero =>
    intro i h hi f0 f1 hcc hR
    have : i = 64 := by omega
    subst this
    rw [q_up_id hcc] at hR
    rw [tX8_layThen_2]
    simp (disch := omega) only [e_const, e_lconst, e_il, e_ll, e_al, e_is, e_as, e_ls, e_inc, e_bin, e_div, e_un, e_lbin, e_ldiv, e_lcmp, e_i2l, e_l2i, e_if1, e_if2, e_go, e_sw, e_dupi, e_dupr, e_dup2, e_popi, e_popr, e_get, e_put, e_iald, e_iast, e_zald, e_zast, e_aald, e_aast, e_sld, e_slen, e_newa, e_newq, e_mna, e_new, e_oi, e_cs, e_cv, e_ci, e_min, e_max, e_copy, e_rv, e_ri, e_rz, e_rl, e_run, sx_en, sx_cat, sx_tk, sx_ps, sx_set, sx_setl, sx_dl, sx_m, sx_sw, sx_ft, List.map_cons, List.map_nil, List.getElem?_cons_zero, List.getElem?_cons_succ, List.replicate_succ, List.replicate_zero, List.set_cons_zero, List.set_cons_succ, List.length_cons, List.length_nil, Nat.reduceAdd, Nat.reduceSub, Nat.reduceLeDiff, Nat.reduceLT, Nat.reduceMul, Nat.zero_le, Nat.le_refl, Nat.add_zero, Nat.zero_add, true_and, and_true, true_or, bX8_layThen_2, f0, f1, hn2, hnc, hn57, hn60, hn63, q_up_s, q_up_n, q_up_up, q_upd_s, q_upd_n, q_upd_upd, q_in, q_in0, q_in1, q_cl, q_cl0, q_cl1, q_add, q_add1, q_1add, q_add0, q_0add, q_mul, q_ite0, q_ite01, q_10, or_true, not_false_eq_true, not_true_eq_false, q_n0, ne_eq, q_le, q_ti, Int.le_refl, false_implies, true_implies, true_and, and_true, not_true_eq_false, not_false_eq_true, Bool.false_eq_true]
    exact hR
  | succ k ih =>
    intro i h hi f0 f1 hcc hR
    have hi6 : i < 64 := by omega
    have := ih (i + 1) (sx_up h 59 (sx_ai 64 (cpf g (0) b (i + 1)))) (by omega) ((q_up_n (by omega)).trans f0) ((q_up_n (by omega)).trans f1) (q_up_s _ _ _) (by rw [q_up_up]; exact hR)
    have hs := cpf_s0 g b i
    have hle : (((64 : Nat) : Int) ≤ (i : Int)) = False := eq_false (by omega)
    have hr : (0 : Int32) = 0 := rfl
    rw [tX8_layThen_2]
    simp (disch := omega) only [e_const, e_lconst, e_il, e_ll, e_al, e_is, e_as, e_ls, e_inc, e_bin, e_div, e_un, e_lbin, e_ldiv, e_lcmp, e_i2l, e_l2i, e_if1, e_if2, e_go, e_sw, e_dupi, e_dupr, e_dup2, e_popi, e_popr, e_get, e_put, e_iald, e_iast, e_zald, e_zast, e_aald, e_aast, e_sld, e_slen, e_newa, e_newq, e_mna, e_new, e_oi, e_cs, e_cv, e_ci, e_min, e_max, e_copy, e_rv, e_ri, e_rz, e_rl, e_run, sx_en, sx_cat, sx_tk, sx_ps, sx_set, sx_setl, sx_dl, sx_m, sx_sw, sx_ft, List.map_cons, List.map_nil, List.getElem?_cons_zero, List.getElem?_cons_succ, List.replicate_succ, List.replicate_zero, List.set_cons_zero, List.set_cons_succ, List.length_cons, List.length_nil, Nat.reduceAdd, Nat.reduceSub, Nat.reduceLeDiff, Nat.reduceLT, Nat.reduceMul, Nat.zero_le, Nat.le_refl, Nat.add_zero, Nat.zero_add, true_and, and_true, true_or, bX8_layThen_2, f0, f1, hcc, hn2, hnc, hn57, hn60, hn63, hs, hle, hr, q_up_s, q_up_n, q_up_up, q_upd_s, q_upd_n, q_upd_upd, q_in, q_in0, q_in1, q_cl, q_cl0, q_cl1, q_add, q_add1, q_1add, q_add0, q_0add, q_mul, q_ite0, q_ite01, q_10, or_true, not_false_eq_true, not_true_eq_false, q_n0, ne_eq, q_le, q_ti, false_implies, true_implies, true_and, and_true, not_true_eq_false, not_false_eq_true, Bool.false_eq_true]
    exact this

set_option maxRecDepth 100000 in
set_option maxHeartbeats 4000000 in
theorem s_keep1_lp {th st tp cu sa tk va fa fp la tr : Int32} {ac : Nat} {n : Nat} (hn : 63 < n) (g : Nat → Int32) (Rt : sx_R) : ∀ (k i : Nat) (h : sx_H), i + k = 1472 → h 53 = g_m th st (nI ac) tp cu sa tk va fa fp la tr → h 60 = sx_ai 1536 (cpf g (0) (fun j => g (j + 64)) i) → sx_T BX8_keep sx_Cal Rt 39 [some (sx_r (some 53)), none] [] n (sx_up h 60 (sx_ai 1536 (cpf g (0) (fun j => g (j + 64)) 1472))) 0 0 → sx_T BX8_keep sx_Cal Rt 11 [some (sx_r (some 53)), some (sx_i (nI i))] [] n h 0 0 := by
  have hn2 : 53 < n := by omega
  have hnc : 60 < n := by omega
  have hn57 : 57 < n := by omega
  have hn60 : 60 < n := by omega
  have hn63 : 63 < n := by omega
  intro k
  induction k with
  | zero =>
    intro i h hi f0 hcc hR
    have : i = 1472 := by omega
    subst this
    rw [q_up_id hcc] at hR
    rw [tX8_keep_11]
    simp (disch := omega) only [e_const, e_lconst, e_il, e_ll, e_al, e_is, e_as, e_ls, e_inc, e_bin, e_div, e_un, e_lbin, e_ldiv, e_lcmp, e_i2l, e_l2i, e_if1, e_if2, e_go, e_sw, e_dupi, e_dupr, e_dup2, e_popi, e_popr, e_get, e_put, e_iald, e_iast, e_zald, e_zast, e_aald, e_aast, e_sld, e_slen, e_newa, e_newq, e_mna, e_new, e_oi, e_cs, e_cv, e_ci, e_min, e_max, e_copy, e_rv, e_ri, e_rz, e_rl, e_run, sx_en, sx_cat, sx_tk, sx_ps, sx_set, sx_setl, sx_dl, sx_m, sx_sw, sx_ft, List.map_cons, List.map_nil, List.getElem?_cons_zero, List.getElem?_cons_succ, List.replicate_succ, List.replicate_zero, List.set_cons_zero, List.set_cons_succ, List.length_cons, List.length_nil, Nat.reduceAdd, Nat.reduceSub, Nat.reduceLeDiff, Nat.reduceLT, Nat.reduceMul, Nat.zero_le, Nat.le_refl, Nat.add_zero, Nat.zero_add, true_and, and_true, true_or, bX8_keep_11, f0, hn2, hnc, hn57, hn60, hn63, q_up_s, q_up_n, q_up_up, q_upd_s, q_upd_n, q_upd_upd, q_in, q_in0, q_in1, q_cl, q_cl0, q_cl1, q_add, q_add1, q_1add, q_add0, q_0add, q_mul, q_ite0, q_ite01, q_10, or_true, not_false_eq_true, not_true_eq_false, q_n0, ne_eq, q_le, q_ti, Int.le_refl, false_implies, true_implies, true_and, and_true, not_true_eq_false, not_false_eq_true, Bool.false_eq_true]
    exact hR
  | succ k ih =>
    intro i h hi f0 hcc hR
    have hi6 : i < 1472 := by omega
    have := ih (i + 1) (sx_up h 60 (sx_ai 1536 (cpf g (0) (fun j => g (j + 64)) (i + 1)))) (by omega) ((q_up_n (by omega)).trans f0) (q_up_s _ _ _) (by rw [q_up_up]; exact hR)
    have hs := cpf_s0 g (fun j => g (j + 64)) i
    have hle : (((1472 : Nat) : Int) ≤ (i : Int)) = False := eq_false (by omega)
    have hr : cpf g 0 (fun j => g (j + 64)) i (i + 64) = g (i + 64) := cpf_o (by omega)
    rw [tX8_keep_11]
    simp (disch := omega) only [e_const, e_lconst, e_il, e_ll, e_al, e_is, e_as, e_ls, e_inc, e_bin, e_div, e_un, e_lbin, e_ldiv, e_lcmp, e_i2l, e_l2i, e_if1, e_if2, e_go, e_sw, e_dupi, e_dupr, e_dup2, e_popi, e_popr, e_get, e_put, e_iald, e_iast, e_zald, e_zast, e_aald, e_aast, e_sld, e_slen, e_newa, e_newq, e_mna, e_new, e_oi, e_cs, e_cv, e_ci, e_min, e_max, e_copy, e_rv, e_ri, e_rz, e_rl, e_run, sx_en, sx_cat, sx_tk, sx_ps, sx_set, sx_setl, sx_dl, sx_m, sx_sw, sx_ft, List.map_cons, List.map_nil, List.getElem?_cons_zero, List.getElem?_cons_succ, List.replicate_succ, List.replicate_zero, List.set_cons_zero, List.set_cons_succ, List.length_cons, List.length_nil, Nat.reduceAdd, Nat.reduceSub, Nat.reduceLeDiff, Nat.reduceLT, Nat.reduceMul, Nat.zero_le, Nat.le_refl, Nat.add_zero, Nat.zero_add, true_and, and_true, true_or, bX8_keep_11, f0, hcc, hn2, hnc, hn57, hn60, hn63, hs, hle, hr, q_up_s, q_up_n, q_up_up, q_upd_s, q_upd_n, q_upd_upd, q_in, q_in0, q_in1, q_cl, q_cl0, q_cl1, q_add, q_add1, q_1add, q_add0, q_0add, q_mul, q_ite0, q_ite01, q_10, or_true, not_false_eq_true, not_true_eq_false, q_n0, ne_eq, q_le, q_ti, false_implies, true_implies, true_and, and_true, not_true_eq_false, not_false_eq_true, Bool.false_eq_true]
    exact this

set_option maxRecDepth 100000 in
set_option maxHeartbeats 4000000 in
theorem s_keep2_lp {th st tp cu sa tk va fa fp la tr : Int32} {ac : Nat} {n : Nat} (hn : 63 < n) (hac : ac < 24) {b : Nat → Int32} (g : Nat → Int32) (Rt : sx_R) : ∀ (k i : Nat) (h : sx_H), i + k = 64 → h 53 = g_m th st (nI ac) tp cu sa tk va fa fp la tr → h 57 = sx_ai 64 b → h 60 = sx_ai 1536 (cpf g (64 * ac) b i) → sx_T BX8_keep sx_Cal Rt 83 [some (sx_r (some 53)), none] [] n (sx_up h 60 (sx_ai 1536 (cpf g (64 * ac) b 64))) 0 0 → sx_T BX8_keep sx_Cal Rt 51 [some (sx_r (some 53)), some (sx_i (nI i))] [] n h 0 0 := by
  have hn2 : 53 < n := by omega
  have hnc : 60 < n := by omega
  have hn57 : 57 < n := by omega
  have hn60 : 60 < n := by omega
  have hn63 : 63 < n := by omega
  intro k
  induction k with
  | zero =>
    intro i h hi f0 f1 hcc hR
    have : i = 64 := by omega
    subst this
    rw [q_up_id hcc] at hR
    rw [tX8_keep_51]
    simp (disch := omega) only [e_const, e_lconst, e_il, e_ll, e_al, e_is, e_as, e_ls, e_inc, e_bin, e_div, e_un, e_lbin, e_ldiv, e_lcmp, e_i2l, e_l2i, e_if1, e_if2, e_go, e_sw, e_dupi, e_dupr, e_dup2, e_popi, e_popr, e_get, e_put, e_iald, e_iast, e_zald, e_zast, e_aald, e_aast, e_sld, e_slen, e_newa, e_newq, e_mna, e_new, e_oi, e_cs, e_cv, e_ci, e_min, e_max, e_copy, e_rv, e_ri, e_rz, e_rl, e_run, sx_en, sx_cat, sx_tk, sx_ps, sx_set, sx_setl, sx_dl, sx_m, sx_sw, sx_ft, List.map_cons, List.map_nil, List.getElem?_cons_zero, List.getElem?_cons_succ, List.replicate_succ, List.replicate_zero, List.set_cons_zero, List.set_cons_succ, List.length_cons, List.length_nil, Nat.reduceAdd, Nat.reduceSub, Nat.reduceLeDiff, Nat.reduceLT, Nat.reduceMul, Nat.zero_le, Nat.le_refl, Nat.add_zero, Nat.zero_add, true_and, and_true, true_or, bX8_keep_51, f0, f1, hn2, hnc, hn57, hn60, hn63, q_up_s, q_up_n, q_up_up, q_upd_s, q_upd_n, q_upd_upd, q_in, q_in0, q_in1, q_cl, q_cl0, q_cl1, q_add, q_add1, q_1add, q_add0, q_0add, q_mul, q_ite0, q_ite01, q_10, or_true, not_false_eq_true, not_true_eq_false, q_n0, ne_eq, q_le, q_ti, Int.le_refl, false_implies, true_implies, true_and, and_true, not_true_eq_false, not_false_eq_true, Bool.false_eq_true]
    exact hR
  | succ k ih =>
    intro i h hi f0 f1 hcc hR
    have hi6 : i < 64 := by omega
    have := ih (i + 1) (sx_up h 60 (sx_ai 1536 (cpf g (64 * ac) b (i + 1)))) (by omega) ((q_up_n (by omega)).trans f0) ((q_up_n (by omega)).trans f1) (q_up_s _ _ _) (by rw [q_up_up]; exact hR)
    have hs := cpf_s g (64 * ac) b i
    have hle : (((64 : Nat) : Int) ≤ (i : Int)) = False := eq_false (by omega)
    have hr : (0 : Int32) = 0 := rfl
    have hix : 64 * ac + i < 1536 := by omega
    rw [tX8_keep_51]
    simp (disch := omega) only [e_const, e_lconst, e_il, e_ll, e_al, e_is, e_as, e_ls, e_inc, e_bin, e_div, e_un, e_lbin, e_ldiv, e_lcmp, e_i2l, e_l2i, e_if1, e_if2, e_go, e_sw, e_dupi, e_dupr, e_dup2, e_popi, e_popr, e_get, e_put, e_iald, e_iast, e_zald, e_zast, e_aald, e_aast, e_sld, e_slen, e_newa, e_newq, e_mna, e_new, e_oi, e_cs, e_cv, e_ci, e_min, e_max, e_copy, e_rv, e_ri, e_rz, e_rl, e_run, sx_en, sx_cat, sx_tk, sx_ps, sx_set, sx_setl, sx_dl, sx_m, sx_sw, sx_ft, List.map_cons, List.map_nil, List.getElem?_cons_zero, List.getElem?_cons_succ, List.replicate_succ, List.replicate_zero, List.set_cons_zero, List.set_cons_succ, List.length_cons, List.length_nil, Nat.reduceAdd, Nat.reduceSub, Nat.reduceLeDiff, Nat.reduceLT, Nat.reduceMul, Nat.zero_le, Nat.le_refl, Nat.add_zero, Nat.zero_add, true_and, and_true, true_or, bX8_keep_51, f0, f1, hcc, hn2, hnc, hn57, hn60, hn63, hs, hle, hr, q_up_s, q_up_n, q_up_up, q_upd_s, q_upd_n, q_upd_upd, q_in, q_in0, q_in1, q_cl, q_cl0, q_cl1, q_add, q_add1, q_1add, q_add0, q_0add, q_mul, q_ite0, q_ite01, q_10, or_true, not_false_eq_true, not_true_eq_false, q_n0, ne_eq, q_le, q_ti, false_implies, true_implies, true_and, and_true, not_true_eq_false, not_false_eq_true, Bool.false_eq_true]
    exact this

set_option maxRecDepth 100000 in
set_option maxHeartbeats 4000000 in
theorem s_undo_lp {th st tp cu sa tk va fa fp la tr : Int32} {ac : Nat} {n : Nat} (hn : 63 < n) (hac : ac < 24) {wf : Nat → Int32} (g : Nat → Int32) (Rt : sx_R) : ∀ (k i : Nat) (h : sx_H), i + k = 64 → h 53 = g_m th st (nI ac) tp cu sa tk va fa fp la tr → h 60 = sx_ai 1536 wf → h 57 = sx_ai 64 (cpf g (0) (fun j => wf (64 * ac + j)) i) → sx_T BX8_undo sx_Cal Rt 59 [some (sx_r (some 53)), none] [] n (sx_up h 57 (sx_ai 64 (cpf g (0) (fun j => wf (64 * ac + j)) 64))) 0 0 → sx_T BX8_undo sx_Cal Rt 27 [some (sx_r (some 53)), some (sx_i (nI i))] [] n h 0 0 := by
  have hn2 : 53 < n := by omega
  have hnc : 57 < n := by omega
  have hn57 : 57 < n := by omega
  have hn60 : 60 < n := by omega
  have hn63 : 63 < n := by omega
  intro k
  induction k with
  | zero =>
    intro i h hi f0 f1 hcc hR
    have : i = 64 := by omega
    subst this
    rw [q_up_id hcc] at hR
    rw [tX8_undo_27]
    simp (disch := omega) only [e_const, e_lconst, e_il, e_ll, e_al, e_is, e_as, e_ls, e_inc, e_bin, e_div, e_un, e_lbin, e_ldiv, e_lcmp, e_i2l, e_l2i, e_if1, e_if2, e_go, e_sw, e_dupi, e_dupr, e_dup2, e_popi, e_popr, e_get, e_put, e_iald, e_iast, e_zald, e_zast, e_aald, e_aast, e_sld, e_slen, e_newa, e_newq, e_mna, e_new, e_oi, e_cs, e_cv, e_ci, e_min, e_max, e_copy, e_rv, e_ri, e_rz, e_rl, e_run, sx_en, sx_cat, sx_tk, sx_ps, sx_set, sx_setl, sx_dl, sx_m, sx_sw, sx_ft, List.map_cons, List.map_nil, List.getElem?_cons_zero, List.getElem?_cons_succ, List.replicate_succ, List.replicate_zero, List.set_cons_zero, List.set_cons_succ, List.length_cons, List.length_nil, Nat.reduceAdd, Nat.reduceSub, Nat.reduceLeDiff, Nat.reduceLT, Nat.reduceMul, Nat.zero_le, Nat.le_refl, Nat.add_zero, Nat.zero_add, true_and, and_true, true_or, bX8_undo_27, f0, f1, hn2, hnc, hn57, hn60, hn63, q_up_s, q_up_n, q_up_up, q_upd_s, q_upd_n, q_upd_upd, q_in, q_in0, q_in1, q_cl, q_cl0, q_cl1, q_add, q_add1, q_1add, q_add0, q_0add, q_mul, q_ite0, q_ite01, q_10, or_true, not_false_eq_true, not_true_eq_false, q_n0, ne_eq, q_le, q_ti, Int.le_refl, false_implies, true_implies, true_and, and_true, not_true_eq_false, not_false_eq_true, Bool.false_eq_true]
    exact hR
  | succ k ih =>
    intro i h hi f0 f1 hcc hR
    have hi6 : i < 64 := by omega
    have := ih (i + 1) (sx_up h 57 (sx_ai 64 (cpf g (0) (fun j => wf (64 * ac + j)) (i + 1)))) (by omega) ((q_up_n (by omega)).trans f0) ((q_up_n (by omega)).trans f1) (q_up_s _ _ _) (by rw [q_up_up]; exact hR)
    have hs := cpf_s0 g (fun j => wf (64 * ac + j)) i
    have hle : (((64 : Nat) : Int) ≤ (i : Int)) = False := eq_false (by omega)
    have hr : (0 : Int32) = 0 := rfl
    have hix : 64 * ac + i < 1536 := by omega
    rw [tX8_undo_27]
    simp (disch := omega) only [e_const, e_lconst, e_il, e_ll, e_al, e_is, e_as, e_ls, e_inc, e_bin, e_div, e_un, e_lbin, e_ldiv, e_lcmp, e_i2l, e_l2i, e_if1, e_if2, e_go, e_sw, e_dupi, e_dupr, e_dup2, e_popi, e_popr, e_get, e_put, e_iald, e_iast, e_zald, e_zast, e_aald, e_aast, e_sld, e_slen, e_newa, e_newq, e_mna, e_new, e_oi, e_cs, e_cv, e_ci, e_min, e_max, e_copy, e_rv, e_ri, e_rz, e_rl, e_run, sx_en, sx_cat, sx_tk, sx_ps, sx_set, sx_setl, sx_dl, sx_m, sx_sw, sx_ft, List.map_cons, List.map_nil, List.getElem?_cons_zero, List.getElem?_cons_succ, List.replicate_succ, List.replicate_zero, List.set_cons_zero, List.set_cons_succ, List.length_cons, List.length_nil, Nat.reduceAdd, Nat.reduceSub, Nat.reduceLeDiff, Nat.reduceLT, Nat.reduceMul, Nat.zero_le, Nat.le_refl, Nat.add_zero, Nat.zero_add, true_and, and_true, true_or, bX8_undo_27, f0, f1, hcc, hn2, hnc, hn57, hn60, hn63, hs, hle, hr, q_up_s, q_up_n, q_up_up, q_upd_s, q_upd_n, q_upd_upd, q_in, q_in0, q_in1, q_cl, q_cl0, q_cl1, q_add, q_add1, q_1add, q_add0, q_0add, q_mul, q_ite0, q_ite01, q_10, or_true, not_false_eq_true, not_true_eq_false, q_n0, ne_eq, q_le, q_ti, false_implies, true_implies, true_and, and_true, not_true_eq_false, not_false_eq_true, Bool.false_eq_true]
    exact this

set_option maxRecDepth 100000 in
set_option maxHeartbeats 4000000 in
theorem s_image_lp {th st tp cu sa tk va fa fp la tr : Int32} {ac : Nat} {n : Nat} (hn : 63 < n) {kk : Nat} (hkk : kk < 2) {b : Nat → Int32} (g : Nat → Int32) (Rt : sx_R) : ∀ (k i : Nat) (h : sx_H), i + k = 64 → h 53 = g_m th st (nI ac) tp cu sa tk va fa fp la tr → h 57 = sx_ai 64 b → h 63 = sx_ai 128 (cpf g (64 * kk) b i) → sx_T BX8_image sx_Cal Rt 59 [some (sx_r (some 53)), some (sx_i (nI kk)), none] [] n (sx_up h 63 (sx_ai 128 (cpf g (64 * kk) b 64))) 0 0 → sx_T BX8_image sx_Cal Rt 30 [some (sx_r (some 53)), some (sx_i (nI kk)), some (sx_i (nI i))] [] n h 0 0 := by
  have hn2 : 53 < n := by omega
  have hnc : 63 < n := by omega
  have hn57 : 57 < n := by omega
  have hn60 : 60 < n := by omega
  have hn63 : 63 < n := by omega
  intro k
  induction k with
  | zero =>
    intro i h hi f0 f1 hcc hR
    have : i = 64 := by omega
    subst this
    rw [q_up_id hcc] at hR
    rw [tX8_image_30]
    simp (disch := omega) only [e_const, e_lconst, e_il, e_ll, e_al, e_is, e_as, e_ls, e_inc, e_bin, e_div, e_un, e_lbin, e_ldiv, e_lcmp, e_i2l, e_l2i, e_if1, e_if2, e_go, e_sw, e_dupi, e_dupr, e_dup2, e_popi, e_popr, e_get, e_put, e_iald, e_iast, e_zald, e_zast, e_aald, e_aast, e_sld, e_slen, e_newa, e_newq, e_mna, e_new, e_oi, e_cs, e_cv, e_ci, e_min, e_max, e_copy, e_rv, e_ri, e_rz, e_rl, e_run, sx_en, sx_cat, sx_tk, sx_ps, sx_set, sx_setl, sx_dl, sx_m, sx_sw, sx_ft, List.map_cons, List.map_nil, List.getElem?_cons_zero, List.getElem?_cons_succ, List.replicate_succ, List.replicate_zero, List.set_cons_zero, List.set_cons_succ, List.length_cons, List.length_nil, Nat.reduceAdd, Nat.reduceSub, Nat.reduceLeDiff, Nat.reduceLT, Nat.reduceMul, Nat.zero_le, Nat.le_refl, Nat.add_zero, Nat.zero_add, true_and, and_true, true_or, bX8_image_30, f0, f1, hn2, hnc, hn57, hn60, hn63, q_up_s, q_up_n, q_up_up, q_upd_s, q_upd_n, q_upd_upd, q_in, q_in0, q_in1, q_cl, q_cl0, q_cl1, q_add, q_add1, q_1add, q_add0, q_0add, q_mul, q_ite0, q_ite01, q_10, or_true, not_false_eq_true, not_true_eq_false, q_n0, ne_eq, q_le, q_ti, Int.le_refl, false_implies, true_implies, true_and, and_true, not_true_eq_false, not_false_eq_true, Bool.false_eq_true]
    exact hR
  | succ k ih =>
    intro i h hi f0 f1 hcc hR
    have hi6 : i < 64 := by omega
    have := ih (i + 1) (sx_up h 63 (sx_ai 128 (cpf g (64 * kk) b (i + 1)))) (by omega) ((q_up_n (by omega)).trans f0) ((q_up_n (by omega)).trans f1) (q_up_s _ _ _) (by rw [q_up_up]; exact hR)
    have hs := cpf_s g (64 * kk) b i
    have hle : (((64 : Nat) : Int) ≤ (i : Int)) = False := eq_false (by omega)
    have hr : (0 : Int32) = 0 := rfl
    have hix : 64 * kk + i < 128 := by omega
    rw [tX8_image_30]
    simp (disch := omega) only [e_const, e_lconst, e_il, e_ll, e_al, e_is, e_as, e_ls, e_inc, e_bin, e_div, e_un, e_lbin, e_ldiv, e_lcmp, e_i2l, e_l2i, e_if1, e_if2, e_go, e_sw, e_dupi, e_dupr, e_dup2, e_popi, e_popr, e_get, e_put, e_iald, e_iast, e_zald, e_zast, e_aald, e_aast, e_sld, e_slen, e_newa, e_newq, e_mna, e_new, e_oi, e_cs, e_cv, e_ci, e_min, e_max, e_copy, e_rv, e_ri, e_rz, e_rl, e_run, sx_en, sx_cat, sx_tk, sx_ps, sx_set, sx_setl, sx_dl, sx_m, sx_sw, sx_ft, List.map_cons, List.map_nil, List.getElem?_cons_zero, List.getElem?_cons_succ, List.replicate_succ, List.replicate_zero, List.set_cons_zero, List.set_cons_succ, List.length_cons, List.length_nil, Nat.reduceAdd, Nat.reduceSub, Nat.reduceLeDiff, Nat.reduceLT, Nat.reduceMul, Nat.zero_le, Nat.le_refl, Nat.add_zero, Nat.zero_add, true_and, and_true, true_or, bX8_image_30, f0, f1, hcc, hn2, hnc, hn57, hn60, hn63, hs, hle, hr, q_up_s, q_up_n, q_up_up, q_upd_s, q_upd_n, q_upd_upd, q_in, q_in0, q_in1, q_cl, q_cl0, q_cl1, q_add, q_add1, q_1add, q_add0, q_0add, q_mul, q_ite0, q_ite01, q_10, or_true, not_false_eq_true, not_true_eq_false, q_n0, ne_eq, q_le, q_ti, false_implies, true_implies, true_and, and_true, not_true_eq_false, not_false_eq_true, Bool.false_eq_true]
    exact this

set_option maxRecDepth 100000 in
set_option maxHeartbeats 4000000 in
theorem s_restore_lp {th st tp cu sa tk va fa fp la tr : Int32} {ac : Nat} {n : Nat} (hn : 63 < n) {kk : Nat} (hkk : kk < 2) {kf : Nat → Int32} (g : Nat → Int32) (Rt : sx_R) : ∀ (k i : Nat) (h : sx_H), i + k = 64 → h 53 = g_m th st (nI ac) tp cu sa tk va fa fp la tr → h 63 = sx_ai 128 kf → h 57 = sx_ai 64 (cpf g (0) (fun j => kf (64 * kk + j)) i) → sx_T BX8_restore sx_Cal Rt 61 [some (sx_r (some 53)), none, none] [] n (sx_up h 57 (sx_ai 64 (cpf g (0) (fun j => kf (64 * kk + j)) 64))) 0 0 → sx_T BX8_restore sx_Cal Rt 32 [some (sx_r (some 53)), some (sx_i (nI kk)), some (sx_i (nI i))] [] n h 0 0 := by
  have hn2 : 53 < n := by omega
  have hnc : 57 < n := by omega
  have hn57 : 57 < n := by omega
  have hn60 : 60 < n := by omega
  have hn63 : 63 < n := by omega
  intro k
  induction k with
  | zero =>
    intro i h hi f0 f1 hcc hR
    have : i = 64 := by omega
    subst this
    rw [q_up_id hcc] at hR
    rw [tX8_restore_32]
    simp (disch := omega) only [e_const, e_lconst, e_il, e_ll, e_al, e_is, e_as, e_ls, e_inc, e_bin, e_div, e_un, e_lbin, e_ldiv, e_lcmp, e_i2l, e_l2i, e_if1, e_if2, e_go, e_sw, e_dupi, e_dupr, e_dup2, e_popi, e_popr, e_get, e_put, e_iald, e_iast, e_zald, e_zast, e_aald, e_aast, e_sld, e_slen, e_newa, e_newq, e_mna, e_new, e_oi, e_cs, e_cv, e_ci, e_min, e_max, e_copy, e_rv, e_ri, e_rz, e_rl, e_run, sx_en, sx_cat, sx_tk, sx_ps, sx_set, sx_setl, sx_dl, sx_m, sx_sw, sx_ft, List.map_cons, List.map_nil, List.getElem?_cons_zero, List.getElem?_cons_succ, List.replicate_succ, List.replicate_zero, List.set_cons_zero, List.set_cons_succ, List.length_cons, List.length_nil, Nat.reduceAdd, Nat.reduceSub, Nat.reduceLeDiff, Nat.reduceLT, Nat.reduceMul, Nat.zero_le, Nat.le_refl, Nat.add_zero, Nat.zero_add, true_and, and_true, true_or, bX8_restore_32, f0, f1, hn2, hnc, hn57, hn60, hn63, q_up_s, q_up_n, q_up_up, q_upd_s, q_upd_n, q_upd_upd, q_in, q_in0, q_in1, q_cl, q_cl0, q_cl1, q_add, q_add1, q_1add, q_add0, q_0add, q_mul, q_ite0, q_ite01, q_10, or_true, not_false_eq_true, not_true_eq_false, q_n0, ne_eq, q_le, q_ti, Int.le_refl, false_implies, true_implies, true_and, and_true, not_true_eq_false, not_false_eq_true, Bool.false_eq_true]
    exact hR
  | succ k ih =>
    intro i h hi f0 f1 hcc hR
    have hi6 : i < 64 := by omega
    have := ih (i + 1) (sx_up h 57 (sx_ai 64 (cpf g (0) (fun j => kf (64 * kk + j)) (i + 1)))) (by omega) ((q_up_n (by omega)).trans f0) ((q_up_n (by omega)).trans f1) (q_up_s _ _ _) (by rw [q_up_up]; exact hR)
    have hs := cpf_s0 g (fun j => kf (64 * kk + j)) i
    have hle : (((64 : Nat) : Int) ≤ (i : Int)) = False := eq_false (by omega)
    have hr : (0 : Int32) = 0 := rfl
    have hix : 64 * kk + i < 128 := by omega
    rw [tX8_restore_32]
    simp (disch := omega) only [e_const, e_lconst, e_il, e_ll, e_al, e_is, e_as, e_ls, e_inc, e_bin, e_div, e_un, e_lbin, e_ldiv, e_lcmp, e_i2l, e_l2i, e_if1, e_if2, e_go, e_sw, e_dupi, e_dupr, e_dup2, e_popi, e_popr, e_get, e_put, e_iald, e_iast, e_zald, e_zast, e_aald, e_aast, e_sld, e_slen, e_newa, e_newq, e_mna, e_new, e_oi, e_cs, e_cv, e_ci, e_min, e_max, e_copy, e_rv, e_ri, e_rz, e_rl, e_run, sx_en, sx_cat, sx_tk, sx_ps, sx_set, sx_setl, sx_dl, sx_m, sx_sw, sx_ft, List.map_cons, List.map_nil, List.getElem?_cons_zero, List.getElem?_cons_succ, List.replicate_succ, List.replicate_zero, List.set_cons_zero, List.set_cons_succ, List.length_cons, List.length_nil, Nat.reduceAdd, Nat.reduceSub, Nat.reduceLeDiff, Nat.reduceLT, Nat.reduceMul, Nat.zero_le, Nat.le_refl, Nat.add_zero, Nat.zero_add, true_and, and_true, true_or, bX8_restore_32, f0, f1, hcc, hn2, hnc, hn57, hn60, hn63, hs, hle, hr, q_up_s, q_up_n, q_up_up, q_upd_s, q_upd_n, q_upd_upd, q_in, q_in0, q_in1, q_cl, q_cl0, q_cl1, q_add, q_add1, q_1add, q_add0, q_0add, q_mul, q_ite0, q_ite01, q_10, or_true, not_false_eq_true, not_true_eq_false, q_n0, ne_eq, q_le, q_ti, false_implies, true_implies, true_and, and_true, not_true_eq_false, not_false_eq_true, Bool.false_eq_true]
    exact this
