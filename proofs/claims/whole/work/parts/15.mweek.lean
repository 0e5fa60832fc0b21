/-! THE REFERENCE'S WEEK is the class's -/
set_option maxRecDepth 100000 in
set_option maxHeartbeats 4000000 in
theorem s_least (x y : Int32) (n : Nat) (h : sx_H) (Q : sx_Q) : sx_Cal 149 [sx_i x, sx_i y] n h Q = Q (some (sx_i (sx_mn x y))) n h := by
  simp only [e_const, e_lconst, e_il, e_ll, e_al, e_is, e_as, e_ls, e_inc, e_bin, e_div, e_un, e_lbin, e_ldiv, e_lcmp, e_i2l, e_l2i, e_if1, e_if2, e_go, e_sw, e_dupi, e_dupr, e_dup2, e_popi, e_popr, e_get, e_put, e_iald, e_iast, e_zald, e_zast, e_aald, e_aast, e_sld, e_slen, e_newa, e_newq, e_mna, e_new, e_oi, e_cs, e_cv, e_ci, e_min, e_max, e_copy, e_rv, e_ri, e_rz, e_rl, e_run, sx_en, sx_cat, sx_tk, sx_ps, sx_set, sx_setl, sx_dl, sx_m, sx_sw, sx_ft, List.map_cons, List.map_nil, List.getElem?_cons_zero, List.getElem?_cons_succ, List.replicate_succ, List.replicate_zero, List.set_cons_zero, List.set_cons_succ, List.length_cons, List.length_nil, Nat.reduceAdd, Nat.reduceSub, Nat.reduceLeDiff, Nat.reduceLT, Nat.reduceMul, Nat.zero_le, Nat.le_refl, Nat.add_zero, Nat.zero_add, true_and, and_true, true_or, cX8_least_c, tX8_least_0, bX8_least_0, tX8_least_9, bX8_least_9, tX8_least_10, bX8_least_10, q_le]
  unfold sx_mn
  by_cases h1 : y.toInt ≤ x.toInt
  · by_cases h2 : y < x
    · simp [h1, h2]
    · have e : x = y := Int32.toInt_inj.mp (by rw [q_lt] at h2; omega)
      simp [e]
  · have h2 : ¬ y < x := by rw [q_lt]; omega
    simp [h1, h2]
set_option maxRecDepth 100000 in
set_option maxHeartbeats 4000000 in
theorem q_k12 : ((1 : Int32) = nI 2) = False := eq_false (by decide +kernel)
set_option maxRecDepth 100000 in
set_option maxHeartbeats 4000000 in
theorem q_k13 : ((1 : Int32) = nI 3) = False := eq_false (by decide +kernel)
set_option maxRecDepth 100000 in
set_option maxHeartbeats 4000000 in
theorem q_k14 : ((1 : Int32) = nI 4) = False := eq_false (by decide +kernel)
set_option maxRecDepth 100000 in
set_option maxHeartbeats 4000000 in
theorem q_k15 : ((1 : Int32) = nI 5) = False := eq_false (by decide +kernel)
set_option maxRecDepth 100000 in
set_option maxHeartbeats 4000000 in
theorem q_k21 : ((nI 2 : Int32) = 1) = False := eq_false (by decide +kernel)
set_option maxRecDepth 100000 in
set_option maxHeartbeats 4000000 in
theorem q_k23 : ((nI 2 : Int32) = nI 3) = False := eq_false (by decide +kernel)
set_option maxRecDepth 100000 in
set_option maxHeartbeats 4000000 in
theorem q_k24 : ((nI 2 : Int32) = nI 4) = False := eq_false (by decide +kernel)
set_option maxRecDepth 100000 in
set_option maxHeartbeats 4000000 in
theorem q_k25 : ((nI 2 : Int32) = nI 5) = False := eq_false (by decide +kernel)
set_option maxRecDepth 100000 in
set_option maxHeartbeats 4000000 in
theorem q_k31 : ((nI 3 : Int32) = 1) = False := eq_false (by decide +kernel)
set_option maxRecDepth 100000 in
set_option maxHeartbeats 4000000 in
theorem q_k32 : ((nI 3 : Int32) = nI 2) = False := eq_false (by decide +kernel)
set_option maxRecDepth 100000 in
set_option maxHeartbeats 4000000 in
theorem q_k34 : ((nI 3 : Int32) = nI 4) = False := eq_false (by decide +kernel)
set_option maxRecDepth 100000 in
set_option maxHeartbeats 4000000 in
theorem q_k35 : ((nI 3 : Int32) = nI 5) = False := eq_false (by decide +kernel)
set_option maxRecDepth 100000 in
set_option maxHeartbeats 4000000 in
theorem q_k41 : ((nI 4 : Int32) = 1) = False := eq_false (by decide +kernel)
set_option maxRecDepth 100000 in
set_option maxHeartbeats 4000000 in
theorem q_k42 : ((nI 4 : Int32) = nI 2) = False := eq_false (by decide +kernel)
set_option maxRecDepth 100000 in
set_option maxHeartbeats 4000000 in
theorem q_k43 : ((nI 4 : Int32) = nI 3) = False := eq_false (by decide +kernel)
set_option maxRecDepth 100000 in
set_option maxHeartbeats 4000000 in
theorem q_k45 : ((nI 4 : Int32) = nI 5) = False := eq_false (by decide +kernel)
set_option maxRecDepth 100000 in
set_option maxHeartbeats 4000000 in
theorem q_k51 : ((nI 5 : Int32) = 1) = False := eq_false (by decide +kernel)
set_option maxRecDepth 100000 in
set_option maxHeartbeats 4000000 in
theorem q_k52 : ((nI 5 : Int32) = nI 2) = False := eq_false (by decide +kernel)
set_option maxRecDepth 100000 in
set_option maxHeartbeats 4000000 in
theorem q_k53 : ((nI 5 : Int32) = nI 3) = False := eq_false (by decide +kernel)
set_option maxRecDepth 100000 in
set_option maxHeartbeats 4000000 in
theorem q_k54 : ((nI 5 : Int32) = nI 4) = False := eq_false (by decide +kernel)
set_option maxRecDepth 100000 in
set_option maxHeartbeats 4000000 in
theorem kind5 {x : Int32} (h : 1 ≤ x.toInt ∧ x.toInt ≤ 5) : x = 1 ∨ x = nI 2 ∨ x = nI 3 ∨ x = nI 4 ∨ x = nI 5 := by
  have : x.toInt = 1 ∨ x.toInt = 2 ∨ x.toInt = 3 ∨ x.toInt = 4 ∨ x.toInt = 5 := by omega
  rcases this with q | q | q | q | q
  · exact Or.inl (Int32.toInt_inj.mp (by rw [q]; decide +kernel))
  · exact Or.inr (Or.inl (Int32.toInt_inj.mp (by rw [q]; decide +kernel)))
  · exact Or.inr (Or.inr (Or.inl (Int32.toInt_inj.mp (by rw [q]; decide +kernel))))
  · exact Or.inr (Or.inr (Or.inr (Or.inl (Int32.toInt_inj.mp (by rw [q]; decide +kernel)))))
  · exact Or.inr (Or.inr (Or.inr (Or.inr (Int32.toInt_inj.mp (by rw [q]; decide +kernel)))))
set_option maxRecDepth 100000 in
set_option maxHeartbeats 4000000 in
theorem mn_0 {x : Int32} (h : 0 ≤ x.toInt) : sx_mn 0 x = 0 := by
  unfold sx_mn
  rw [if_neg (by rw [q_lt, q_ti0]; omega)]
set_option maxRecDepth 100000 in
set_option maxHeartbeats 4000000 in
theorem q_sub0 (x : Int32) : x - 0 = x := by apply Int32.toInt_inj.mp; simp
section MWEEK
variable {a n : Nat} {h : sx_H} {f g : Nat → Int32} {c : Int32} {Q : sx_Q}
set_option maxRecDepth 100000 in
set_option maxHeartbeats 4000000 in
theorem s_ofk (hq : h a = sx_ai 64 g) (han : a < n) {d k : Nat} (hd : d < 6) (hk : k < 9) : sx_Cal 147 [sx_r (some a), sx_i (nI d), sx_i (nI k)] n h Q = Q (some (sx_i (g (10 + 9 * d + k)))) n h := by
  simp (disch := omega) only [e_const, e_lconst, e_il, e_ll, e_al, e_is, e_as, e_ls, e_inc, e_bin, e_div, e_un, e_lbin, e_ldiv, e_lcmp, e_i2l, e_l2i, e_if1, e_if2, e_go, e_sw, e_dupi, e_dupr, e_dup2, e_popi, e_popr, e_get, e_put, e_iald, e_iast, e_zald, e_zast, e_aald, e_aast, e_sld, e_slen, e_newa, e_newq, e_mna, e_new, e_oi, e_cs, e_cv, e_ci, e_min, e_max, e_copy, e_rv, e_ri, e_rz, e_rl, e_run, sx_en, sx_cat, sx_tk, sx_ps, sx_set, sx_setl, sx_dl, sx_m, sx_sw, sx_ft, List.map_cons, List.map_nil, List.getElem?_cons_zero, List.getElem?_cons_succ, List.replicate_succ, List.replicate_zero, List.set_cons_zero, List.set_cons_succ, List.length_cons, List.length_nil, Nat.reduceAdd, Nat.reduceSub, Nat.reduceLeDiff, Nat.reduceLT, Nat.reduceMul, Nat.zero_le, Nat.le_refl, Nat.add_zero, Nat.zero_add, true_and, and_true, true_or, cX8_of_c, tX8_of_0, bX8_of_0, hq, q_up_s, q_up_n, q_up_up, q_upd_s, q_upd_n, q_upd_upd, q_in, q_in0, q_in1, q_cl, q_cl0, q_cl1, q_add, q_add1, q_1add, q_add0, q_0add, q_mul, q_ite0, q_ite01, q_10, or_true, not_false_eq_true, not_true_eq_false, q_n0, ne_eq, han]
set_option maxRecDepth 100000 in
set_option maxHeartbeats 4000000 in
theorem s_of0 (hq : h a = sx_ai 64 g) (han : a < n) {d : Nat} (hd : d < 6) : sx_Cal 147 [sx_r (some a), sx_i (nI d), sx_i 0] n h Q = Q (some (sx_i (g (10 + 9 * d)))) n h := by
  simp (disch := omega) only [e_const, e_lconst, e_il, e_ll, e_al, e_is, e_as, e_ls, e_inc, e_bin, e_div, e_un, e_lbin, e_ldiv, e_lcmp, e_i2l, e_l2i, e_if1, e_if2, e_go, e_sw, e_dupi, e_dupr, e_dup2, e_popi, e_popr, e_get, e_put, e_iald, e_iast, e_zald, e_zast, e_aald, e_aast, e_sld, e_slen, e_newa, e_newq, e_mna, e_new, e_oi, e_cs, e_cv, e_ci, e_min, e_max, e_copy, e_rv, e_ri, e_rz, e_rl, e_run, sx_en, sx_cat, sx_tk, sx_ps, sx_set, sx_setl, sx_dl, sx_m, sx_sw, sx_ft, List.map_cons, List.map_nil, List.getElem?_cons_zero, List.getElem?_cons_succ, List.replicate_succ, List.replicate_zero, List.set_cons_zero, List.set_cons_succ, List.length_cons, List.length_nil, Nat.reduceAdd, Nat.reduceSub, Nat.reduceLeDiff, Nat.reduceLT, Nat.reduceMul, Nat.zero_le, Nat.le_refl, Nat.add_zero, Nat.zero_add, true_and, and_true, true_or, cX8_of_c, tX8_of_0, bX8_of_0, hq, q_up_s, q_up_n, q_up_up, q_upd_s, q_upd_n, q_upd_upd, q_in, q_in0, q_in1, q_cl, q_cl0, q_cl1, q_add, q_add1, q_1add, q_add0, q_0add, q_mul, q_ite0, q_ite01, q_10, or_true, not_false_eq_true, not_true_eq_false, q_n0, ne_eq, han]
set_option maxRecDepth 100000 in
set_option maxHeartbeats 4000000 in
theorem s_of1 (hq : h a = sx_ai 64 g) (han : a < n) {d : Nat} (hd : d < 6) : sx_Cal 147 [sx_r (some a), sx_i (nI d), sx_i 1] n h Q = Q (some (sx_i (g (10 + 9 * d + 1)))) n h := by
  simp (disch := omega) only [e_const, e_lconst, e_il, e_ll, e_al, e_is, e_as, e_ls, e_inc, e_bin, e_div, e_un, e_lbin, e_ldiv, e_lcmp, e_i2l, e_l2i, e_if1, e_if2, e_go, e_sw, e_dupi, e_dupr, e_dup2, e_popi, e_popr, e_get, e_put, e_iald, e_iast, e_zald, e_zast, e_aald, e_aast, e_sld, e_slen, e_newa, e_newq, e_mna, e_new, e_oi, e_cs, e_cv, e_ci, e_min, e_max, e_copy, e_rv, e_ri, e_rz, e_rl, e_run, sx_en, sx_cat, sx_tk, sx_ps, sx_set, sx_setl, sx_dl, sx_m, sx_sw, sx_ft, List.map_cons, List.map_nil, List.getElem?_cons_zero, List.getElem?_cons_succ, List.replicate_succ, List.replicate_zero, List.set_cons_zero, List.set_cons_succ, List.length_cons, List.length_nil, Nat.reduceAdd, Nat.reduceSub, Nat.reduceLeDiff, Nat.reduceLT, Nat.reduceMul, Nat.zero_le, Nat.le_refl, Nat.add_zero, Nat.zero_add, true_and, and_true, true_or, cX8_of_c, tX8_of_0, bX8_of_0, hq, q_up_s, q_up_n, q_up_up, q_upd_s, q_upd_n, q_upd_upd, q_in, q_in0, q_in1, q_cl, q_cl0, q_cl1, q_add, q_add1, q_1add, q_add0, q_0add, q_mul, q_ite0, q_ite01, q_10, or_true, not_false_eq_true, not_true_eq_false, q_n0, ne_eq, han]
set_option maxRecDepth 100000 in
set_option maxHeartbeats 4000000 in
theorem s_isOut (hq : h a = sx_ai 64 (toM f c)) (han : a < n) {d : Nat} (hd : d < 6) : sx_Cal 148 [sx_r (some a), sx_i (nI d)] n h Q = Q (some (sx_i (if f (24 + d) = 1 ∨ f (30 + d) = 1 then 1 else 0))) n h := by
  simp (disch := omega) only [e_const, e_lconst, e_il, e_ll, e_al, e_is, e_as, e_ls, e_inc, e_bin, e_div, e_un, e_lbin, e_ldiv, e_lcmp, e_i2l, e_l2i, e_if1, e_if2, e_go, e_sw, e_dupi, e_dupr, e_dup2, e_popi, e_popr, e_get, e_put, e_iald, e_iast, e_zald, e_zast, e_aald, e_aast, e_sld, e_slen, e_newa, e_newq, e_mna, e_new, e_oi, e_cs, e_cv, e_ci, e_min, e_max, e_copy, e_rv, e_ri, e_rz, e_rl, e_run, sx_en, sx_cat, sx_tk, sx_ps, sx_set, sx_setl, sx_dl, sx_m, sx_sw, sx_ft, List.map_cons, List.map_nil, List.getElem?_cons_zero, List.getElem?_cons_succ, List.replicate_succ, List.replicate_zero, List.set_cons_zero, List.set_cons_succ, List.length_cons, List.length_nil, Nat.reduceAdd, Nat.reduceSub, Nat.reduceLeDiff, Nat.reduceLT, Nat.reduceMul, Nat.zero_le, Nat.le_refl, Nat.add_zero, Nat.zero_add, true_and, and_true, true_or, cX8_isOut_c, tX8_isOut_0, bX8_isOut_0, tX8_isOut_21, bX8_isOut_21, tX8_isOut_25, bX8_isOut_25, tX8_isOut_26, bX8_isOut_26, s_ofk hq han hd, hq, q_up_s, q_up_n, q_up_up, q_upd_s, q_upd_n, q_upd_upd, q_in, q_in0, q_in1, q_cl, q_cl0, q_cl1, q_add, q_add1, q_1add, q_add0, q_0add, q_mul, q_ite0, q_ite01, q_10, or_true, not_false_eq_true, not_true_eq_false, q_n0, ne_eq, m_r0, m_r1, m_r2, m_r3, m_r4, m_r5, m_r6, m_r7, m_r8, m_u0, m_u1, m_u2, m_u3, m_u4, m_u5, m_u6, m_u7, m_u8, m_s1, m_s2, m_s3, m_s4, m_s5, m_s6, m_s7, m_s8, m_s9, m_w1, m_w2, m_w3, m_w5, m_w6, m_w7, m_w8, m_w9, han]
  by_cases h1 : f (24 + d) = 1 <;> by_cases h2 : f (30 + d) = 1 <;> simp [h1, h2]
set_option maxRecDepth 100000 in
set_option maxHeartbeats 4000000 in
theorem s_takesM (hq : h a = sx_ai 64 (toM f c)) (han : a < n) {d : Nat} (hd : d < 6) : sx_Cal 150 [sx_r (some a), sx_i (nI d)] n h Q = Q none n (sx_up h a (sx_ai 64 (toM (p_take f d) c))) := by
  simp (disch := omega) only [e_const, e_lconst, e_il, e_ll, e_al, e_is, e_as, e_ls, e_inc, e_bin, e_div, e_un, e_lbin, e_ldiv, e_lcmp, e_i2l, e_l2i, e_if1, e_if2, e_go, e_sw, e_dupi, e_dupr, e_dup2, e_popi, e_popr, e_get, e_put, e_iald, e_iast, e_zald, e_zast, e_aald, e_aast, e_sld, e_slen, e_newa, e_newq, e_mna, e_new, e_oi, e_cs, e_cv, e_ci, e_min, e_max, e_copy, e_rv, e_ri, e_rz, e_rl, e_run, sx_en, sx_cat, sx_tk, sx_ps, sx_set, sx_setl, sx_dl, sx_m, sx_sw, sx_ft, List.map_cons, List.map_nil, List.getElem?_cons_zero, List.getElem?_cons_succ, List.replicate_succ, List.replicate_zero, List.set_cons_zero, List.set_cons_succ, List.length_cons, List.length_nil, Nat.reduceAdd, Nat.reduceSub, Nat.reduceLeDiff, Nat.reduceLT, Nat.reduceMul, Nat.zero_le, Nat.le_refl, Nat.add_zero, Nat.zero_add, true_and, and_true, true_or, cX8_takes_c, tX8_takes_0, bX8_takes_0, tX8_takes_33, bX8_takes_33, tX8_takes_34, bX8_takes_34, s_least, hq, q_up_s, q_up_n, q_up_up, q_upd_s, q_upd_n, q_upd_upd, q_in, q_in0, q_in1, q_cl, q_cl0, q_cl1, q_add, q_add1, q_1add, q_add0, q_0add, q_mul, q_ite0, q_ite01, q_10, or_true, not_false_eq_true, not_true_eq_false, q_n0, ne_eq, m_r0, m_r1, m_r2, m_r3, m_r4, m_r5, m_r6, m_r7, m_r8, m_u0, m_u1, m_u2, m_u3, m_u4, m_u5, m_u6, m_u7, m_u8, m_s1, m_s2, m_s3, m_s4, m_s5, m_s6, m_s7, m_s8, m_s9, m_w1, m_w2, m_w3, m_w5, m_w6, m_w7, m_w8, m_w9, han, q_le, q_ti0, p_take, p_by]
  by_cases h1 : 0 ≤ (f (18 + d) - f d).toInt
  · simp only [h1, mx_p h1, true_implies, not_true_eq_false, false_implies, and_true]
  · simp only [h1, mx_0 h1, false_implies, not_false_eq_true, true_implies, true_and]
set_option maxRecDepth 100000 in
set_option maxHeartbeats 4000000 in
theorem s_payByM (hq : h a = sx_ai 64 (toM f c)) (han : a < n) {d : Nat} (hd : d < 6) (hk : 1 ≤ (f (48 + d)).toInt ∧ (f (48 + d)).toInt ≤ 5) (hdb : 0 ≤ (f d).toInt) : sx_Cal 151 [sx_r (some a), sx_i (nI d)] n h Q = Q (some (sx_i (p_pb f d))) n h := by
  simp (disch := omega) only [e_const, e_lconst, e_il, e_ll, e_al, e_is, e_as, e_ls, e_inc, e_bin, e_div, e_un, e_lbin, e_ldiv, e_lcmp, e_i2l, e_l2i, e_if1, e_if2, e_go, e_sw, e_dupi, e_dupr, e_dup2, e_popi, e_popr, e_get, e_put, e_iald, e_iast, e_zald, e_zast, e_aald, e_aast, e_sld, e_slen, e_newa, e_newq, e_mna, e_new, e_oi, e_cs, e_cv, e_ci, e_min, e_max, e_copy, e_rv, e_ri, e_rz, e_rl, e_run, sx_en, sx_cat, sx_tk, sx_ps, sx_set, sx_setl, sx_dl, sx_m, sx_sw, sx_ft, List.map_cons, List.map_nil, List.getElem?_cons_zero, List.getElem?_cons_succ, List.replicate_succ, List.replicate_zero, List.set_cons_zero, List.set_cons_succ, List.length_cons, List.length_nil, Nat.reduceAdd, Nat.reduceSub, Nat.reduceLeDiff, Nat.reduceLT, Nat.reduceMul, Nat.zero_le, Nat.le_refl, Nat.add_zero, Nat.zero_add, true_and, and_true, true_or, cX8_payBy_c, tX8_payBy_0, bX8_payBy_0, tX8_payBy_48, bX8_payBy_48, tX8_payBy_54, bX8_payBy_54, tX8_payBy_62, bX8_payBy_62, tX8_payBy_79, bX8_payBy_79, tX8_payBy_80, bX8_payBy_80, tX8_payBy_81, bX8_payBy_81, s_least, s_ofk hq han hd, s_of0 hq han hd, s_of1 hq han hd, hq, q_up_s, q_up_n, q_up_up, q_upd_s, q_upd_n, q_upd_upd, q_in, q_in0, q_in1, q_cl, q_cl0, q_cl1, q_add, q_add1, q_1add, q_add0, q_0add, q_mul, q_ite0, q_ite01, q_10, or_true, not_false_eq_true, not_true_eq_false, q_n0, ne_eq, m_r0, m_r1, m_r2, m_r3, m_r4, m_r5, m_r6, m_r7, m_r8, m_u0, m_u1, m_u2, m_u3, m_u4, m_u5, m_u6, m_u7, m_u8, m_s1, m_s2, m_s3, m_s4, m_s5, m_s6, m_s7, m_s8, m_s9, m_w1, m_w2, m_w3, m_w5, m_w6, m_w7, m_w8, m_w9, han]
  rcases kind5 hk with e | e | e | e | e <;> simp only [e, p_pb, p_sp, p_due, q_k12, q_k13, q_k14, q_k15, q_k21, q_k23, q_k24, q_k25, q_k31, q_k32, q_k34, q_k35, q_k41, q_k42, q_k43, q_k45, q_k51, q_k52, q_k53, q_k54, reduceIte, or_self, or_true, true_or, or_false, false_or, true_implies, false_implies, not_true_eq_false, not_false_eq_true, and_true, true_and, mn_comm (f (6 + d) / nI 2), mn_comm (f d / nI 2)]
  · by_cases h2 : f 61 - f 61 / nI 4 * nI 4 = nI 3
    · simp only [h2, not_true_eq_false, false_implies, not_false_eq_true, true_implies, true_and, reduceIte, if_true]
    · simp only [h2, not_true_eq_false, false_implies, not_false_eq_true, true_implies, and_true, reduceIte, if_false, mn_0 hdb]
set_option maxRecDepth 100000 in
set_option maxHeartbeats 4000000 in
theorem s_payOneM (hq : h a = sx_ai 64 (toM f c)) (han : a < n) {d : Nat} (hd : d < 6) (hk : 1 ≤ (f (48 + d)).toInt ∧ (f (48 + d)).toInt ≤ 5) (hdb : 0 ≤ (f d).toInt) : sx_Cal 152 [sx_r (some a), sx_i (nI d)] n h Q = Q none n (sx_up h a (sx_ai 64 (if p_off f d then toM (upd f (24 + d) 1) c else toM (p_pay f d) (c + p_pb f d)))) := by
  simp (disch := omega) only [e_const, e_lconst, e_il, e_ll, e_al, e_is, e_as, e_ls, e_inc, e_bin, e_div, e_un, e_lbin, e_ldiv, e_lcmp, e_i2l, e_l2i, e_if1, e_if2, e_go, e_sw, e_dupi, e_dupr, e_dup2, e_popi, e_popr, e_get, e_put, e_iald, e_iast, e_zald, e_zast, e_aald, e_aast, e_sld, e_slen, e_newa, e_newq, e_mna, e_new, e_oi, e_cs, e_cv, e_ci, e_min, e_max, e_copy, e_rv, e_ri, e_rz, e_rl, e_run, sx_en, sx_cat, sx_tk, sx_ps, sx_set, sx_setl, sx_dl, sx_m, sx_sw, sx_ft, List.map_cons, List.map_nil, List.getElem?_cons_zero, List.getElem?_cons_succ, List.replicate_succ, List.replicate_zero, List.set_cons_zero, List.set_cons_succ, List.length_cons, List.length_nil, Nat.reduceAdd, Nat.reduceSub, Nat.reduceLeDiff, Nat.reduceLT, Nat.reduceMul, Nat.zero_le, Nat.le_refl, Nat.add_zero, Nat.zero_add, true_and, and_true, true_or, cX8_payOne_c, tX8_payOne_0, bX8_payOne_0, tX8_payOne_43, bX8_payOne_43, s_payByM hq han hd hk hdb, hq, q_up_s, q_up_n, q_up_up, q_upd_s, q_upd_n, q_upd_upd, q_in, q_in0, q_in1, q_cl, q_cl0, q_cl1, q_add, q_add1, q_1add, q_add0, q_0add, q_mul, q_ite0, q_ite01, q_10, or_true, not_false_eq_true, not_true_eq_false, q_n0, ne_eq, m_r0, m_r1, m_r2, m_r3, m_r4, m_r5, m_r6, m_r7, m_r8, m_u0, m_u1, m_u2, m_u3, m_u4, m_u5, m_u6, m_u7, m_u8, m_s1, m_s2, m_s3, m_s4, m_s5, m_s6, m_s7, m_s8, m_s9, m_w1, m_w2, m_w3, m_w5, m_w6, m_w7, m_w8, m_w9, han, q_le, q_ltn, q_ti0]
  unfold p_off
  by_cases h1 : f (48 + d) = nI 5 <;> by_cases h2 : (f d).toInt ≤ 0 <;> by_cases h3 : (f (18 + d)).toInt ≤ (f d).toInt <;> simp [h1, h2, h3, p_pay]
end MWEEK
