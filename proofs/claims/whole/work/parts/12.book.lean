/-! ONE BOOK: the class's weeks, as functions of its row -/
def cnt (f : Nat → Int32) : Nat := (f 58).toInt.toNat
def cmb (f : Nat → Int32) (d : Nat) : Bool := decide (¬ (f 58).toInt ≤ (d : Int) ∧ f (30 + d) = 0 ∧ f (24 + d) = 0)
def p_by (f : Nat → Int32) (d : Nat) : Int32 := sx_mn (f (12 + d)) (sx_mx 0 (f (18 + d) - f d))
def p_take (f : Nat → Int32) (d : Nat) : Nat → Int32 := upd (upd (upd f d (f d + (p_by f d + p_by f d * f 59 / nI 20))) (42 + d) (f (42 + d) + p_by f d)) 55 (f 55 + p_by f d)
def p_takes (f : Nat → Int32) : Nat → Nat → Int32
  | 0 => f
  | d + 1 => if cmb (p_takes f d) d then p_take (p_takes f d) d else p_takes f d
def p_off (f : Nat → Int32) (d : Nat) : Bool := decide (f (48 + d) = nI 5 ∧ ¬ (f d).toInt ≤ 0 ∧ (f (18 + d)).toInt ≤ (f d).toInt)
def p_due (f : Nat → Int32) (d : Nat) : Int32 := if f (48 + d) = nI 2 then f d / nI 2 else f d
def p_sp (f : Nat → Int32) (k w : Int32) : Int32 := if k = nI 3 then (if f 61 - f 61 / nI 4 * nI 4 = nI 3 then w else 0) else if k = nI 4 ∨ k = nI 5 then w / nI 2 else w
def p_pb (f : Nat → Int32) (d : Nat) : Int32 := sx_mn (p_sp f (f (48 + d)) (f (6 + d))) (p_due f d)
def p_pay (f : Nat → Int32) (d : Nat) : Nat → Int32 := upd (upd (upd f d (f d - p_pb f d)) (36 + d) (f (36 + d) + p_pb f d)) 54 (f 54 + p_pb f d)
def p_pays (f : Nat → Int32) : Nat → (Nat → Int32) × Int32
  | 0 => (f, 0)
  | d + 1 => if cmb (p_pays f d).1 d then (if p_off (p_pays f d).1 d then (upd (p_pays f d).1 (24 + d) 1, (p_pays f d).2) else (p_pay (p_pays f d).1 d, (p_pays f d).2 + p_pb (p_pays f d).1 d)) else p_pays f d
def p_w1 (f : Nat → Int32) : Nat → Int32 := if f 57 = 0 then p_takes f 6 else f
def p_w2 (f : Nat → Int32) : (Nat → Int32) × Int32 := if (f 56).toInt ≤ 0 then p_pays f 6 else (upd f 56 (f 56 - 1), 0)
def p_w3 (f : Nat → Int32) : Nat → Int32 := if ¬ (f 60).toInt ≤ 0 ∧ f 61 - f 61 / f 60 * f 60 = 0 then upd (upd f 54 (f 54 - f 55)) 55 0 else f
def p_w4 (f : Nat → Int32) : Nat → Int32 := if 0 ≤ (f 54).toInt then f else upd f 57 1
/-- a week: the row behind it, and what came in -/
def p_wk (f : Nat → Int32) : (Nat → Int32) × Int32 := (p_w4 (p_w3 (upd (p_w2 (p_w1 f)).1 61 ((p_w2 (p_w1 f)).1 61 + 1))), (p_w2 (p_w1 f)).2)
section BOOK
variable {b q n : Nat} {h : sx_H} {f : Nat → Int32} {Q : sx_Q}
set_option maxRecDepth 100000 in
set_option maxHeartbeats 4000000 in
theorem s_has (hb : h b = sx_o 2 [sx_r (some q)]) (hq : h q = sx_ai 62 f) (hbn : b < n) (hqn : q < n) (one : Int32) : sx_Cal 24 [sx_r (some b), sx_i one] n h Q = Q (some (sx_i (if 0 ≤ one.toInt ∧ one.toInt ≤ 5 ∧ ¬ (f 58).toInt ≤ one.toInt then 1 else 0))) n h := by
  have e : (6 : Int) ≤ one.toInt ↔ ¬ one.toInt ≤ 5 := by omega
  simp (disch := omega) only [e_const, e_lconst, e_il, e_ll, e_al, e_is, e_as, e_ls, e_inc, e_bin, e_div, e_un, e_lbin, e_ldiv, e_lcmp, e_i2l, e_l2i, e_if1, e_if2, e_go, e_sw, e_dupi, e_dupr, e_dup2, e_popi, e_popr, e_get, e_put, e_iald, e_iast, e_zald, e_zast, e_aald, e_aast, e_sld, e_slen, e_newa, e_newq, e_mna, e_new, e_oi, e_cs, e_cv, e_ci, e_min, e_max, e_copy, e_rv, e_ri, e_rz, e_rl, e_run, sx_en, sx_cat, sx_tk, sx_ps, sx_set, sx_setl, sx_dl, sx_m, sx_sw, sx_ft, List.map_cons, List.map_nil, List.getElem?_cons_zero, List.getElem?_cons_succ, List.replicate_succ, List.replicate_zero, List.set_cons_zero, List.set_cons_succ, List.length_cons, List.length_nil, Nat.reduceAdd, Nat.reduceSub, Nat.reduceLeDiff, Nat.reduceLT, Nat.reduceMul, Nat.zero_le, Nat.le_refl, Nat.add_zero, Nat.zero_add, true_and, and_true, true_or, cX2_has_c, tX2_has_0, bX2_has_0, tX2_has_25, bX2_has_25, tX2_has_26, bX2_has_26, hb, hq, q_up_s, q_up_n, q_up_up, q_upd_s, q_upd_n, q_upd_upd, q_in, q_in0, q_in1, q_cl, q_cl0, q_cl1, q_add, q_add1, q_1add, q_add0, q_0add, q_mul, q_ite0, q_ite01, q_10, or_true, not_false_eq_true, not_true_eq_false, q_n0, ne_eq, q_ltn, q_le, q_ti0, q_ti, hbn, hqn]
  by_cases h1 : 0 ≤ one.toInt <;> by_cases h2 : one.toInt ≤ 5 <;> by_cases h3 : (f 58).toInt ≤ one.toInt <;> simp [h1, h2, h3, e]
set_option maxRecDepth 100000 in
set_option maxHeartbeats 4000000 in
theorem s_comes (hb : h b = sx_o 2 [sx_r (some q)]) (hq : h q = sx_ai 62 f) (hbn : b < n) (hqn : q < n) {d : Nat} (hd : d < 6) : sx_Cal 25 [sx_r (some b), sx_i (nI d)] n h Q = Q (some (sx_i (if cmb f d then 1 else 0))) n h := by
  have e1 : (0 : Int) ≤ (d : Int) := by omega
  have e2 : (d : Int) ≤ 5 := by omega
  simp (disch := omega) only [e_const, e_lconst, e_il, e_ll, e_al, e_is, e_as, e_ls, e_inc, e_bin, e_div, e_un, e_lbin, e_ldiv, e_lcmp, e_i2l, e_l2i, e_if1, e_if2, e_go, e_sw, e_dupi, e_dupr, e_dup2, e_popi, e_popr, e_get, e_put, e_iald, e_iast, e_zald, e_zast, e_aald, e_aast, e_sld, e_slen, e_newa, e_newq, e_mna, e_new, e_oi, e_cs, e_cv, e_ci, e_min, e_max, e_copy, e_rv, e_ri, e_rz, e_rl, e_run, sx_en, sx_cat, sx_tk, sx_ps, sx_set, sx_setl, sx_dl, sx_m, sx_sw, sx_ft, List.map_cons, List.map_nil, List.getElem?_cons_zero, List.getElem?_cons_succ, List.replicate_succ, List.replicate_zero, List.set_cons_zero, List.set_cons_succ, List.length_cons, List.length_nil, Nat.reduceAdd, Nat.reduceSub, Nat.reduceLeDiff, Nat.reduceLT, Nat.reduceMul, Nat.zero_le, Nat.le_refl, Nat.add_zero, Nat.zero_add, true_and, and_true, true_or, cX2_comes_c, tX2_comes_0, bX2_comes_0, tX2_comes_36, bX2_comes_36, tX2_comes_37, bX2_comes_37, s_has hb hq hbn hqn, hb, hq, q_up_s, q_up_n, q_up_up, q_upd_s, q_upd_n, q_upd_upd, q_in, q_in0, q_in1, q_cl, q_cl0, q_cl1, q_add, q_add1, q_1add, q_add0, q_0add, q_mul, q_ite0, q_ite01, q_10, or_true, not_false_eq_true, not_true_eq_false, q_n0, ne_eq, q_ti, hbn, hqn, e1, e2, sx_o, Sum.inr.injEq, Prod.mk.injEq, exists_eq', true_and]
  unfold cmb
  by_cases h1 : (f 58).toInt ≤ (d : Int) <;> by_cases h2 : f (30 + d) = 0 <;> by_cases h3 : f (24 + d) = 0 <;> simp [h1, h2, h3]
set_option maxRecDepth 100000 in
set_option maxHeartbeats 4000000 in
theorem s_take (hb : h b = sx_o 2 [sx_r (some q)]) (hq : h q = sx_ai 62 f) (hbq : b ≠ q) (hbn : b < n) (hqn : q < n) {d : Nat} (hd : d < 6) : sx_Cal 30 [sx_r (some b), sx_i (nI d)] n h Q = Q none n (sx_up h q (sx_ai 62 (p_take f d))) := by
  simp (disch := omega) only [e_const, e_lconst, e_il, e_ll, e_al, e_is, e_as, e_ls, e_inc, e_bin, e_div, e_un, e_lbin, e_ldiv, e_lcmp, e_i2l, e_l2i, e_if1, e_if2, e_go, e_sw, e_dupi, e_dupr, e_dup2, e_popi, e_popr, e_get, e_put, e_iald, e_iast, e_zald, e_zast, e_aald, e_aast, e_sld, e_slen, e_newa, e_newq, e_mna, e_new, e_oi, e_cs, e_cv, e_ci, e_min, e_max, e_copy, e_rv, e_ri, e_rz, e_rl, e_run, sx_en, sx_cat, sx_tk, sx_ps, sx_set, sx_setl, sx_dl, sx_m, sx_sw, sx_ft, List.map_cons, List.map_nil, List.getElem?_cons_zero, List.getElem?_cons_succ, List.replicate_succ, List.replicate_zero, List.set_cons_zero, List.set_cons_succ, List.length_cons, List.length_nil, Nat.reduceAdd, Nat.reduceSub, Nat.reduceLeDiff, Nat.reduceLT, Nat.reduceMul, Nat.zero_le, Nat.le_refl, Nat.add_zero, Nat.zero_add, true_and, and_true, true_or, cX2_take_c, tX2_take_0, bX2_take_0, hb, hq, q_up_s, q_up_n, q_up_up, q_upd_s, q_upd_n, q_upd_upd, q_in, q_in0, q_in1, q_cl, q_cl0, q_cl1, q_add, q_add1, q_1add, q_add0, q_0add, q_mul, q_ite0, q_ite01, q_10, or_true, not_false_eq_true, not_true_eq_false, q_n0, ne_eq, hbn, hqn, p_take, p_by]
set_option maxRecDepth 100000 in
set_option maxHeartbeats 4000000 in
theorem s_takeAll_lp (Rt : sx_R) : ∀ (k i : Nat) (h : sx_H) (f0 : Nat → Int32), i + k = 6 → h b = sx_o 2 [sx_r (some q)] → h q = sx_ai 62 (p_takes f0 i) → b ≠ q → b < n → q < n → Rt none n (sx_up h q (sx_ai 62 (p_takes f0 6))) 0 0 → sx_T BX2_takeAll sx_Cal Rt 2 [some (sx_r (some b)), some (sx_i (nI i))] [] n h 0 0 := by
  intro k
  induction k with
  | zero =>
    intro i h f0 hi hb hq hbq hbn hqn hR
    have : i = 6 := by omega
    subst this
    rw [tX2_takeAll_2]
    simp (disch := omega) only [e_const, e_lconst, e_il, e_ll, e_al, e_is, e_as, e_ls, e_inc, e_bin, e_div, e_un, e_lbin, e_ldiv, e_lcmp, e_i2l, e_l2i, e_if1, e_if2, e_go, e_sw, e_dupi, e_dupr, e_dup2, e_popi, e_popr, e_get, e_put, e_iald, e_iast, e_zald, e_zast, e_aald, e_aast, e_sld, e_slen, e_newa, e_newq, e_mna, e_new, e_oi, e_cs, e_cv, e_ci, e_min, e_max, e_copy, e_rv, e_ri, e_rz, e_rl, e_run, sx_en, sx_cat, sx_tk, sx_ps, sx_set, sx_setl, sx_dl, sx_m, sx_sw, sx_ft, List.map_cons, List.map_nil, List.getElem?_cons_zero, List.getElem?_cons_succ, List.replicate_succ, List.replicate_zero, List.set_cons_zero, List.set_cons_succ, List.length_cons, List.length_nil, Nat.reduceAdd, Nat.reduceSub, Nat.reduceLeDiff, Nat.reduceLT, Nat.reduceMul, Nat.zero_le, Nat.le_refl, Nat.add_zero, Nat.zero_add, true_and, and_true, true_or, bX2_takeAll_2, tX2_takeAll_27, bX2_takeAll_27, q_up_s, q_up_n, q_up_up, q_upd_s, q_upd_n, q_upd_upd, q_in, q_in0, q_in1, q_cl, q_cl0, q_cl1, q_add, q_add1, q_1add, q_add0, q_0add, q_mul, q_ite0, q_ite01, q_10, or_true, not_false_eq_true, not_true_eq_false, q_n0, ne_eq, q_le, q_ti]
    rw [q_up_id hq] at hR
    simpa using hR
  | succ k ih =>
    intro i h f0 hi hb hq hbq hbn hqn hR
    have hi6 : i < 6 := by omega
    rw [tX2_takeAll_2]
    simp (disch := omega) only [e_const, e_lconst, e_il, e_ll, e_al, e_is, e_as, e_ls, e_inc, e_bin, e_div, e_un, e_lbin, e_ldiv, e_lcmp, e_i2l, e_l2i, e_if1, e_if2, e_go, e_sw, e_dupi, e_dupr, e_dup2, e_popi, e_popr, e_get, e_put, e_iald, e_iast, e_zald, e_zast, e_aald, e_aast, e_sld, e_slen, e_newa, e_newq, e_mna, e_new, e_oi, e_cs, e_cv, e_ci, e_min, e_max, e_copy, e_rv, e_ri, e_rz, e_rl, e_run, sx_en, sx_cat, sx_tk, sx_ps, sx_set, sx_setl, sx_dl, sx_m, sx_sw, sx_ft, List.map_cons, List.map_nil, List.getElem?_cons_zero, List.getElem?_cons_succ, List.replicate_succ, List.replicate_zero, List.set_cons_zero, List.set_cons_succ, List.length_cons, List.length_nil, Nat.reduceAdd, Nat.reduceSub, Nat.reduceLeDiff, Nat.reduceLT, Nat.reduceMul, Nat.zero_le, Nat.le_refl, Nat.add_zero, Nat.zero_add, true_and, and_true, true_or, bX2_takeAll_2, tX2_takeAll_21, bX2_takeAll_21, s_comes hb hq hbn hqn hi6, s_take hb hq hbq hbn hqn hi6, q_up_s, q_up_n, q_up_up, q_upd_s, q_upd_n, q_upd_upd, q_in, q_in0, q_in1, q_cl, q_cl0, q_cl1, q_add, q_add1, q_1add, q_add0, q_0add, q_mul, q_ite0, q_ite01, q_10, or_true, not_false_eq_true, not_true_eq_false, q_n0, ne_eq, q_le, q_ti, hb, hbn, sx_o, Sum.inr.injEq, Prod.mk.injEq, exists_eq']
    refine ⟨fun z => absurd z (by omega), fun _ => ⟨fun z => ?_, fun z => ?_⟩⟩
    · refine ih (i + 1) h f0 (by omega) hb ?_ hbq hbn hqn hR
      rw [hq]; simp only [p_takes]; rw [if_neg (by simpa using z)]
    · refine ih (i + 1) _ f0 (by omega) (by rw [q_up_n hbq]; exact hb) ?_ hbq hbn hqn (by rw [q_up_up]; exact hR)
      rw [q_up_s]; simp only [p_takes]; rw [if_pos (by simpa using z)]
set_option maxRecDepth 100000 in
set_option maxHeartbeats 4000000 in
theorem s_takeAll (hb : h b = sx_o 2 [sx_r (some q)]) (hq : h q = sx_ai 62 f) (hbq : b ≠ q) (hbn : b < n) (hqn : q < n) (hQ : Q none n (sx_up h q (sx_ai 62 (p_takes f 6)))) : sx_Cal 29 [sx_r (some b)] n h Q := by
  simp (disch := omega) only [e_const, e_lconst, e_il, e_ll, e_al, e_is, e_as, e_ls, e_inc, e_bin, e_div, e_un, e_lbin, e_ldiv, e_lcmp, e_i2l, e_l2i, e_if1, e_if2, e_go, e_sw, e_dupi, e_dupr, e_dup2, e_popi, e_popr, e_get, e_put, e_iald, e_iast, e_zald, e_zast, e_aald, e_aast, e_sld, e_slen, e_newa, e_newq, e_mna, e_new, e_oi, e_cs, e_cv, e_ci, e_min, e_max, e_copy, e_rv, e_ri, e_rz, e_rl, e_run, sx_en, sx_cat, sx_tk, sx_ps, sx_set, sx_setl, sx_dl, sx_m, sx_sw, sx_ft, List.map_cons, List.map_nil, List.getElem?_cons_zero, List.getElem?_cons_succ, List.replicate_succ, List.replicate_zero, List.set_cons_zero, List.set_cons_succ, List.length_cons, List.length_nil, Nat.reduceAdd, Nat.reduceSub, Nat.reduceLeDiff, Nat.reduceLT, Nat.reduceMul, Nat.zero_le, Nat.le_refl, Nat.add_zero, Nat.zero_add, true_and, and_true, true_or, cX2_takeAll_c, tX2_takeAll_0, bX2_takeAll_0, q_up_s, q_up_n, q_up_up, q_upd_s, q_upd_n, q_upd_upd, q_in, q_in0, q_in1, q_cl, q_cl0, q_cl1, q_add, q_add1, q_1add, q_add0, q_0add, q_mul, q_ite0, q_ite01, q_10, or_true, not_false_eq_true, not_true_eq_false, q_n0, ne_eq]
  have := s_takeAll_lp (Rt := fun r n' h' kc ks => Q r n' h' ∧ kc ≤ 0 ∧ ks ≤ 0) 6 0 h f (by omega) hb hq hbq hbn hqn ⟨hQ, Nat.le_refl _, Nat.le_refl _⟩
  rw [nI_0] at this
  simpa using this
set_option maxRecDepth 100000 in
set_option maxHeartbeats 4000000 in
theorem s_makesOff (hb : h b = sx_o 2 [sx_r (some q)]) (hq : h q = sx_ai 62 f) (hbn : b < n) (hqn : q < n) {d : Nat} (hd : d < 6) : sx_Cal 32 [sx_r (some b), sx_i (nI d)] n h Q = Q (some (sx_i (if p_off f d then 1 else 0))) n h := by
  simp (disch := omega) only [e_const, e_lconst, e_il, e_ll, e_al, e_is, e_as, e_ls, e_inc, e_bin, e_div, e_un, e_lbin, e_ldiv, e_lcmp, e_i2l, e_l2i, e_if1, e_if2, e_go, e_sw, e_dupi, e_dupr, e_dup2, e_popi, e_popr, e_get, e_put, e_iald, e_iast, e_zald, e_zast, e_aald, e_aast, e_sld, e_slen, e_newa, e_newq, e_mna, e_new, e_oi, e_cs, e_cv, e_ci, e_min, e_max, e_copy, e_rv, e_ri, e_rz, e_rl, e_run, sx_en, sx_cat, sx_tk, sx_ps, sx_set, sx_setl, sx_dl, sx_m, sx_sw, sx_ft, List.map_cons, List.map_nil, List.getElem?_cons_zero, List.getElem?_cons_succ, List.replicate_succ, List.replicate_zero, List.set_cons_zero, List.set_cons_succ, List.length_cons, List.length_nil, Nat.reduceAdd, Nat.reduceSub, Nat.reduceLeDiff, Nat.reduceLT, Nat.reduceMul, Nat.zero_le, Nat.le_refl, Nat.add_zero, Nat.zero_add, true_and, and_true, true_or, cX2_makesOff_c, tX2_makesOff_0, bX2_makesOff_0, tX2_makesOff_43, bX2_makesOff_43, tX2_makesOff_44, bX2_makesOff_44, hb, hq, q_up_s, q_up_n, q_up_up, q_upd_s, q_upd_n, q_upd_upd, q_in, q_in0, q_in1, q_cl, q_cl0, q_cl1, q_add, q_add1, q_1add, q_add0, q_0add, q_mul, q_ite0, q_ite01, q_10, or_true, not_false_eq_true, not_true_eq_false, q_n0, ne_eq, hbn, hqn, q_ltn, q_le, q_ti0]
  unfold p_off
  by_cases h1 : f (48 + d) = nI 5 <;> by_cases h2 : (f d).toInt ≤ 0 <;> by_cases h3 : (f (18 + d)).toInt ≤ (f d).toInt <;> simp [h1, h2, h3]
set_option maxRecDepth 100000 in
set_option maxHeartbeats 4000000 in
theorem q_n34 : ((nI 4 : Int32) = nI 3) = False := eq_false (by decide +kernel)
set_option maxRecDepth 100000 in
set_option maxHeartbeats 4000000 in
theorem q_n53 : ((nI 5 : Int32) = nI 3) = False := eq_false (by decide +kernel)
set_option maxRecDepth 100000 in
set_option maxHeartbeats 4000000 in
theorem s_spared (hb : h b = sx_o 2 [sx_r (some q)]) (hq : h q = sx_ai 62 f) (hbn : b < n) (hqn : q < n) (k w : Int32) : sx_Cal 34 [sx_r (some b), sx_i k, sx_i w] n h Q = Q (some (sx_i (p_sp f k w))) n h := by
  simp (disch := omega) only [e_const, e_lconst, e_il, e_ll, e_al, e_is, e_as, e_ls, e_inc, e_bin, e_div, e_un, e_lbin, e_ldiv, e_lcmp, e_i2l, e_l2i, e_if1, e_if2, e_go, e_sw, e_dupi, e_dupr, e_dup2, e_popi, e_popr, e_get, e_put, e_iald, e_iast, e_zald, e_zast, e_aald, e_aast, e_sld, e_slen, e_newa, e_newq, e_mna, e_new, e_oi, e_cs, e_cv, e_ci, e_min, e_max, e_copy, e_rv, e_ri, e_rz, e_rl, e_run, sx_en, sx_cat, sx_tk, sx_ps, sx_set, sx_setl, sx_dl, sx_m, sx_sw, sx_ft, List.map_cons, List.map_nil, List.getElem?_cons_zero, List.getElem?_cons_succ, List.replicate_succ, List.replicate_zero, List.set_cons_zero, List.set_cons_succ, List.length_cons, List.length_nil, Nat.reduceAdd, Nat.reduceSub, Nat.reduceLeDiff, Nat.reduceLT, Nat.reduceMul, Nat.zero_le, Nat.le_refl, Nat.add_zero, Nat.zero_add, true_and, and_true, true_or, cX2_spared_c, tX2_spared_0, bX2_spared_0, tX2_spared_28, bX2_spared_28, tX2_spared_45, bX2_spared_45, tX2_spared_46, bX2_spared_46, tX2_spared_47, bX2_spared_47, tX2_spared_51, bX2_spared_51, hb, hq, q_up_s, q_up_n, q_up_up, q_upd_s, q_upd_n, q_upd_upd, q_in, q_in0, q_in1, q_cl, q_cl0, q_cl1, q_add, q_add1, q_1add, q_add0, q_0add, q_mul, q_ite0, q_ite01, q_10, or_true, not_false_eq_true, not_true_eq_false, q_n0, ne_eq, hbn, hqn]
  unfold p_sp
  by_cases h1 : k = nI 3
  · by_cases h2 : f 61 - f 61 / nI 4 * nI 4 = nI 3 <;> simp [h1, h2]
  · by_cases h3 : k = nI 4
    · simp [h3, q_n34]
    · by_cases h4 : k = nI 5 <;> simp [h1, h3, h4, q_n53]
set_option maxRecDepth 100000 in
set_option maxHeartbeats 4000000 in
theorem s_pay (hb : h b = sx_o 2 [sx_r (some q)]) (hq : h q = sx_ai 62 f) (hbq : b ≠ q) (hbn : b < n) (hqn : q < n) {d : Nat} (hd : d < 6) : sx_Cal 33 [sx_r (some b), sx_i (nI d)] n h Q = Q (some (sx_i (p_pb f d))) n (sx_up h q (sx_ai 62 (p_pay f d))) := by
  simp (disch := omega) only [e_const, e_lconst, e_il, e_ll, e_al, e_is, e_as, e_ls, e_inc, e_bin, e_div, e_un, e_lbin, e_ldiv, e_lcmp, e_i2l, e_l2i, e_if1, e_if2, e_go, e_sw, e_dupi, e_dupr, e_dup2, e_popi, e_popr, e_get, e_put, e_iald, e_iast, e_zald, e_zast, e_aald, e_aast, e_sld, e_slen, e_newa, e_newq, e_mna, e_new, e_oi, e_cs, e_cv, e_ci, e_min, e_max, e_copy, e_rv, e_ri, e_rz, e_rl, e_run, sx_en, sx_cat, sx_tk, sx_ps, sx_set, sx_setl, sx_dl, sx_m, sx_sw, sx_ft, List.map_cons, List.map_nil, List.getElem?_cons_zero, List.getElem?_cons_succ, List.replicate_succ, List.replicate_zero, List.set_cons_zero, List.set_cons_succ, List.length_cons, List.length_nil, Nat.reduceAdd, Nat.reduceSub, Nat.reduceLeDiff, Nat.reduceLT, Nat.reduceMul, Nat.zero_le, Nat.le_refl, Nat.add_zero, Nat.zero_add, true_and, and_true, true_or, cX2_pay_c, tX2_pay_0, bX2_pay_0, tX2_pay_28, bX2_pay_28, tX2_pay_29, bX2_pay_29, s_spared hb hq hbn hqn, hb, hq, q_up_s, q_up_n, q_up_up, q_upd_s, q_upd_n, q_upd_upd, q_in, q_in0, q_in1, q_cl, q_cl0, q_cl1, q_add, q_add1, q_1add, q_add0, q_0add, q_mul, q_ite0, q_ite01, q_10, or_true, not_false_eq_true, not_true_eq_false, q_n0, ne_eq, hbn, hqn, sx_o, Sum.inr.injEq, Prod.mk.injEq, exists_eq']
  by_cases h1 : f (48 + d) = nI 2
  · have e : p_due f d = f d / nI 2 := by simp [p_due, h1]
    simp only [h1, not_true_eq_false, false_implies, true_and, not_false_eq_true, true_implies, p_pay, p_pb, e]
  · have e : p_due f d = f d := by simp [p_due, h1]
    simp only [h1, not_true_eq_false, false_implies, and_true, true_and, not_false_eq_true, true_implies, p_pay, p_pb, e]
set_option maxRecDepth 100000 in
set_option maxHeartbeats 4000000 in
theorem s_payAll_lp (Rt : sx_R) : ∀ (k i : Nat) (h : sx_H) (f0 : Nat → Int32), i + k = 6 → h b = sx_o 2 [sx_r (some q)] → h q = sx_ai 62 (p_pays f0 i).1 → b ≠ q → b < n → q < n → Rt (some (sx_i (p_pays f0 6).2)) n (sx_up h q (sx_ai 62 (p_pays f0 6).1)) 0 0 → sx_T BX2_payAll sx_Cal Rt 4 [some (sx_r (some b)), some (sx_i (p_pays f0 i).2), some (sx_i (nI i))] [] n h 0 0 := by
  intro k
  induction k with
  | zero =>
    intro i h f0 hi hb hq hbq hbn hqn hR
    have : i = 6 := by omega
    subst this
    rw [tX2_payAll_4]
    simp (disch := omega) only [e_const, e_lconst, e_il, e_ll, e_al, e_is, e_as, e_ls, e_inc, e_bin, e_div, e_un, e_lbin, e_ldiv, e_lcmp, e_i2l, e_l2i, e_if1, e_if2, e_go, e_sw, e_dupi, e_dupr, e_dup2, e_popi, e_popr, e_get, e_put, e_iald, e_iast, e_zald, e_zast, e_aald, e_aast, e_sld, e_slen, e_newa, e_newq, e_mna, e_new, e_oi, e_cs, e_cv, e_ci, e_min, e_max, e_copy, e_rv, e_ri, e_rz, e_rl, e_run, sx_en, sx_cat, sx_tk, sx_ps, sx_set, sx_setl, sx_dl, sx_m, sx_sw, sx_ft, List.map_cons, List.map_nil, List.getElem?_cons_zero, List.getElem?_cons_succ, List.replicate_succ, List.replicate_zero, List.set_cons_zero, List.set_cons_succ, List.length_cons, List.length_nil, Nat.reduceAdd, Nat.reduceSub, Nat.reduceLeDiff, Nat.reduceLT, Nat.reduceMul, Nat.zero_le, Nat.le_refl, Nat.add_zero, Nat.zero_add, true_and, and_true, true_or, bX2_payAll_4, tX2_payAll_56, bX2_payAll_56, q_up_s, q_up_n, q_up_up, q_upd_s, q_upd_n, q_upd_upd, q_in, q_in0, q_in1, q_cl, q_cl0, q_cl1, q_add, q_add1, q_1add, q_add0, q_0add, q_mul, q_ite0, q_ite01, q_10, or_true, not_false_eq_true, not_true_eq_false, q_n0, ne_eq, q_le, q_ti]
    rw [q_up_id hq] at hR
    simpa using hR
  | succ k ih =>
    intro i h f0 hi hb hq hbq hbn hqn hR
    have hi6 : i < 6 := by omega
    rw [tX2_payAll_4]
    simp (disch := omega) only [e_const, e_lconst, e_il, e_ll, e_al, e_is, e_as, e_ls, e_inc, e_bin, e_div, e_un, e_lbin, e_ldiv, e_lcmp, e_i2l, e_l2i, e_if1, e_if2, e_go, e_sw, e_dupi, e_dupr, e_dup2, e_popi, e_popr, e_get, e_put, e_iald, e_iast, e_zald, e_zast, e_aald, e_aast, e_sld, e_slen, e_newa, e_newq, e_mna, e_new, e_oi, e_cs, e_cv, e_ci, e_min, e_max, e_copy, e_rv, e_ri, e_rz, e_rl, e_run, sx_en, sx_cat, sx_tk, sx_ps, sx_set, sx_setl, sx_dl, sx_m, sx_sw, sx_ft, List.map_cons, List.map_nil, List.getElem?_cons_zero, List.getElem?_cons_succ, List.replicate_succ, List.replicate_zero, List.set_cons_zero, List.set_cons_succ, List.length_cons, List.length_nil, Nat.reduceAdd, Nat.reduceSub, Nat.reduceLeDiff, Nat.reduceLT, Nat.reduceMul, Nat.zero_le, Nat.le_refl, Nat.add_zero, Nat.zero_add, true_and, and_true, true_or, bX2_payAll_4, tX2_payAll_21, bX2_payAll_21, tX2_payAll_42, bX2_payAll_42, tX2_payAll_50, bX2_payAll_50, s_comes hb hq hbn hqn hi6, s_makesOff hb hq hbn hqn hi6, s_pay hb hq hbq hbn hqn hi6, q_up_s, q_up_n, q_up_up, q_upd_s, q_upd_n, q_upd_upd, q_in, q_in0, q_in1, q_cl, q_cl0, q_cl1, q_add, q_add1, q_1add, q_add0, q_0add, q_mul, q_ite0, q_ite01, q_10, or_true, not_false_eq_true, not_true_eq_false, q_n0, ne_eq, q_le, q_ti, hb, hq, hbn, hqn, sx_o, Sum.inr.injEq, Prod.mk.injEq, exists_eq']
    refine ⟨fun z => absurd z (by omega), fun _ => ⟨fun z => ⟨fun y => ?_, fun y => ?_⟩, fun z => ?_⟩⟩
    · have e : p_pays f0 (i + 1) = (p_pay (p_pays f0 i).1 i, (p_pays f0 i).2 + p_pb (p_pays f0 i).1 i) := by
        simp only [p_pays]; rw [if_pos (by simpa using z), if_neg (by simpa using y)]
      have := ih (i + 1) (sx_up h q (sx_ai 62 (p_pay (p_pays f0 i).1 i))) f0 (by omega) (by rw [q_up_n hbq]; exact hb) (by rw [q_up_s, e]) hbq hbn hqn (by rw [q_up_up]; exact hR)
      rw [e] at this
      exact this
    · have e : p_pays f0 (i + 1) = (upd (p_pays f0 i).1 (24 + i) 1, (p_pays f0 i).2) := by
        simp only [p_pays]; rw [if_pos (by simpa using z), if_pos (by simpa using y)]
      have := ih (i + 1) (sx_up h q (sx_ai 62 (upd (p_pays f0 i).1 (24 + i) 1))) f0 (by omega) (by rw [q_up_n hbq]; exact hb) (by rw [q_up_s, e]) hbq hbn hqn (by rw [q_up_up]; exact hR)
      rw [e] at this
      exact this
    · have e : p_pays f0 (i + 1) = p_pays f0 i := by
        rw [p_pays, if_neg (by simpa using z)]
      have := ih (i + 1) h f0 (by omega) hb (by rw [e]; exact hq) hbq hbn hqn hR
      rw [e] at this
      exact this
set_option maxRecDepth 100000 in
set_option maxHeartbeats 4000000 in
theorem s_payAll (hb : h b = sx_o 2 [sx_r (some q)]) (hq : h q = sx_ai 62 f) (hbq : b ≠ q) (hbn : b < n) (hqn : q < n) (hQ : Q (some (sx_i (p_pays f 6).2)) n (sx_up h q (sx_ai 62 (p_pays f 6).1))) : sx_Cal 31 [sx_r (some b)] n h Q := by
  simp (disch := omega) only [e_const, e_lconst, e_il, e_ll, e_al, e_is, e_as, e_ls, e_inc, e_bin, e_div, e_un, e_lbin, e_ldiv, e_lcmp, e_i2l, e_l2i, e_if1, e_if2, e_go, e_sw, e_dupi, e_dupr, e_dup2, e_popi, e_popr, e_get, e_put, e_iald, e_iast, e_zald, e_zast, e_aald, e_aast, e_sld, e_slen, e_newa, e_newq, e_mna, e_new, e_oi, e_cs, e_cv, e_ci, e_min, e_max, e_copy, e_rv, e_ri, e_rz, e_rl, e_run, sx_en, sx_cat, sx_tk, sx_ps, sx_set, sx_setl, sx_dl, sx_m, sx_sw, sx_ft, List.map_cons, List.map_nil, List.getElem?_cons_zero, List.getElem?_cons_succ, List.replicate_succ, List.replicate_zero, List.set_cons_zero, List.set_cons_succ, List.length_cons, List.length_nil, Nat.reduceAdd, Nat.reduceSub, Nat.reduceLeDiff, Nat.reduceLT, Nat.reduceMul, Nat.zero_le, Nat.le_refl, Nat.add_zero, Nat.zero_add, true_and, and_true, true_or, cX2_payAll_c, tX2_payAll_0, bX2_payAll_0, q_up_s, q_up_n, q_up_up, q_upd_s, q_upd_n, q_upd_upd, q_in, q_in0, q_in1, q_cl, q_cl0, q_cl1, q_add, q_add1, q_1add, q_add0, q_0add, q_mul, q_ite0, q_ite01, q_10, or_true, not_false_eq_true, not_true_eq_false, q_n0, ne_eq]
  have := s_payAll_lp (Rt := fun r n' h' kc ks => Q r n' h' ∧ kc ≤ 0 ∧ ks ≤ 0) 6 0 h f (by omega) hb hq hbq hbn hqn ⟨hQ, Nat.le_refl _, Nat.le_refl _⟩
  rw [nI_0] at this
  exact this
set_option maxRecDepth 100000 in
set_option maxHeartbeats 4000000 in
theorem s_passWeek (hb : h b = sx_o 2 [sx_r (some q)]) (hq : h q = sx_ai 62 f) (hbq : b ≠ q) (hbn : b < n) (hqn : q < n) (hQ : Q (some (sx_i (p_wk f).2)) n (sx_up h q (sx_ai 62 (p_wk f).1))) : sx_Cal 28 [sx_r (some b)] n h Q := by
  simp (disch := omega) only [e_const, e_lconst, e_il, e_ll, e_al, e_is, e_as, e_ls, e_inc, e_bin, e_div, e_un, e_lbin, e_ldiv, e_lcmp, e_i2l, e_l2i, e_if1, e_if2, e_go, e_sw, e_dupi, e_dupr, e_dup2, e_popi, e_popr, e_get, e_put, e_iald, e_iast, e_zald, e_zast, e_aald, e_aast, e_sld, e_slen, e_newa, e_newq, e_mna, e_new, e_oi, e_cs, e_cv, e_ci, e_min, e_max, e_copy, e_rv, e_ri, e_rz, e_rl, e_run, sx_en, sx_cat, sx_tk, sx_ps, sx_set, sx_setl, sx_dl, sx_m, sx_sw, sx_ft, List.map_cons, List.map_nil, List.getElem?_cons_zero, List.getElem?_cons_succ, List.replicate_succ, List.replicate_zero, List.set_cons_zero, List.set_cons_succ, List.length_cons, List.length_nil, Nat.reduceAdd, Nat.reduceSub, Nat.reduceLeDiff, Nat.reduceLT, Nat.reduceMul, Nat.zero_le, Nat.le_refl, Nat.add_zero, Nat.zero_add, true_and, and_true, true_or, cX2_passWeek_c, tX2_passWeek_0, bX2_passWeek_0, q_up_s, q_up_n, q_up_up, q_upd_s, q_upd_n, q_upd_upd, q_in, q_in0, q_in1, q_cl, q_cl0, q_cl1, q_add, q_add1, q_1add, q_add0, q_0add, q_mul, q_ite0, q_ite01, q_10, or_true, not_false_eq_true, not_true_eq_false, q_n0, ne_eq, hb, hq, hbn, hqn, sx_o, Sum.inr.injEq, Prod.mk.injEq, exists_eq']
  -- the first half, behind which the row is p_w1 f
  have k14 : ∀ h1 : sx_H, h1 b = sx_o 2 [sx_r (some q)] → h1 q = sx_ai 62 (p_w1 f) → (∀ e, sx_up h1 q e = sx_up h q e) → sx_T BX2_passWeek sx_Cal (fun r n' h' kc ks => Q r n' h' ∧ kc ≤ 0 ∧ ks ≤ 0) 14 [some (sx_r (some b)), none] [] n h1 0 0 := by
    intro h1 hb1 hq1 hu1
    have k45 : ∀ h2 : sx_H, h2 b = sx_o 2 [sx_r (some q)] → h2 q = sx_ai 62 (p_w2 (p_w1 f)).1 → (∀ e, sx_up h2 q e = sx_up h q e) → sx_T BX2_passWeek sx_Cal (fun r n' h' kc ks => Q r n' h' ∧ kc ≤ 0 ∧ ks ≤ 0) 45 [some (sx_r (some b)), some (sx_i (p_w2 (p_w1 f)).2)] [] n h2 0 0 := by
      intro h2 hb2 hq2 hu2
      have k109 : ∀ h3 : sx_H, h3 b = sx_o 2 [sx_r (some q)] → h3 q = sx_ai 62 (p_w3 (upd (p_w2 (p_w1 f)).1 61 ((p_w2 (p_w1 f)).1 61 + 1))) → (∀ e, sx_up h3 q e = sx_up h q e) → sx_T BX2_passWeek sx_Cal (fun r n' h' kc ks => Q r n' h' ∧ kc ≤ 0 ∧ ks ≤ 0) 109 [some (sx_r (some b)), some (sx_i (p_w2 (p_w1 f)).2)] [] n h3 0 0 := by
        intro h3 hb3 hq3 hu3
        simp (disch := omega) only [e_const, e_lconst, e_il, e_ll, e_al, e_is, e_as, e_ls, e_inc, e_bin, e_div, e_un, e_lbin, e_ldiv, e_lcmp, e_i2l, e_l2i, e_if1, e_if2, e_go, e_sw, e_dupi, e_dupr, e_dup2, e_popi, e_popr, e_get, e_put, e_iald, e_iast, e_zald, e_zast, e_aald, e_aast, e_sld, e_slen, e_newa, e_newq, e_mna, e_new, e_oi, e_cs, e_cv, e_ci, e_min, e_max, e_copy, e_rv, e_ri, e_rz, e_rl, e_run, sx_en, sx_cat, sx_tk, sx_ps, sx_set, sx_setl, sx_dl, sx_m, sx_sw, sx_ft, List.map_cons, List.map_nil, List.getElem?_cons_zero, List.getElem?_cons_succ, List.replicate_succ, List.replicate_zero, List.set_cons_zero, List.set_cons_succ, List.length_cons, List.length_nil, Nat.reduceAdd, Nat.reduceSub, Nat.reduceLeDiff, Nat.reduceLT, Nat.reduceMul, Nat.zero_le, Nat.le_refl, Nat.add_zero, Nat.zero_add, true_and, and_true, true_or, tX2_passWeek_109, bX2_passWeek_109, tX2_passWeek_127, bX2_passWeek_127, q_up_s, q_up_n, q_up_up, q_upd_s, q_upd_n, q_upd_upd, q_in, q_in0, q_in1, q_cl, q_cl0, q_cl1, q_add, q_add1, q_1add, q_add0, q_0add, q_mul, q_ite0, q_ite01, q_10, or_true, not_false_eq_true, not_true_eq_false, q_n0, ne_eq, hb3, hq3, hbn, hqn, q_le, q_ti0]
        refine ⟨fun z => ?_, fun z => ?_⟩
        · have e : (p_wk f).1 = p_w3 (upd (p_w2 (p_w1 f)).1 61 ((p_w2 (p_w1 f)).1 61 + 1)) := by
            show p_w4 _ = _
            simp only [p_w4]; rw [if_pos z]
          rw [e, ← hu3, q_up_id hq3] at hQ
          exact hQ
        · have e : (p_wk f).1 = upd (p_w3 (upd (p_w2 (p_w1 f)).1 61 ((p_w2 (p_w1 f)).1 61 + 1))) 57 1 := by
            show p_w4 _ = _
            simp only [p_w4]; rw [if_neg z]
          rw [e, ← hu3] at hQ
          exact hQ
      simp (disch := omega) only [e_const, e_lconst, e_il, e_ll, e_al, e_is, e_as, e_ls, e_inc, e_bin, e_div, e_un, e_lbin, e_ldiv, e_lcmp, e_i2l, e_l2i, e_if1, e_if2, e_go, e_sw, e_dupi, e_dupr, e_dup2, e_popi, e_popr, e_get, e_put, e_iald, e_iast, e_zald, e_zast, e_aald, e_aast, e_sld, e_slen, e_newa, e_newq, e_mna, e_new, e_oi, e_cs, e_cv, e_ci, e_min, e_max, e_copy, e_rv, e_ri, e_rz, e_rl, e_run, sx_en, sx_cat, sx_tk, sx_ps, sx_set, sx_setl, sx_dl, sx_m, sx_sw, sx_ft, List.map_cons, List.map_nil, List.getElem?_cons_zero, List.getElem?_cons_succ, List.replicate_succ, List.replicate_zero, List.set_cons_zero, List.set_cons_succ, List.length_cons, List.length_nil, Nat.reduceAdd, Nat.reduceSub, Nat.reduceLeDiff, Nat.reduceLT, Nat.reduceMul, Nat.zero_le, Nat.le_refl, Nat.add_zero, Nat.zero_add, true_and, and_true, true_or, tX2_passWeek_45, bX2_passWeek_45, q_up_s, q_up_n, q_up_up, q_upd_s, q_upd_n, q_upd_upd, q_in, q_in0, q_in1, q_cl, q_cl0, q_cl1, q_add, q_add1, q_1add, q_add0, q_0add, q_mul, q_ite0, q_ite01, q_10, or_true, not_false_eq_true, not_true_eq_false, q_n0, ne_eq, hb2, hq2, hbn, hqn, q_le, q_ti0]
      generalize hg : (p_w2 (p_w1 f)).1 = g at hq2 k109 ⊢
      have e60 : upd g 61 (g 61 + 1) 60 = g 60 := q_upd_n (by decide)
      have e61 : upd g 61 (g 61 + 1) 61 = g 61 + 1 := q_upd_s _ _ _
      have e54 : upd g 61 (g 61 + 1) 54 = g 54 := q_upd_n (by decide)
      have e55 : upd g 61 (g 61 + 1) 55 = g 55 := q_upd_n (by decide)
      have kk : ∀ (g' : Nat → Int32), p_w3 (upd g 61 (g 61 + 1)) = g' → sx_T BX2_passWeek sx_Cal (fun r n' h' kc ks => Q r n' h' ∧ kc ≤ 0 ∧ ks ≤ 0) 109 [some (sx_r (some b)), some (sx_i (p_w2 (p_w1 f)).2)] [] n (sx_up h2 q (sx_ai 62 g')) 0 0 := fun g' e => k109 _ (by rw [q_up_n hbq]; exact hb2) (by rw [q_up_s, e]) (fun e => by rw [q_up_up, hu2])
      refine ⟨fun z => kk _ ?_, fun z => ⟨?_, fun y => kk _ ?_, fun y => kk _ ?_⟩⟩
      · simp only [p_w3, e60]; rw [if_neg (fun q => q.1 z)]
      · intro q; rw [q] at z; exact z (by decide +kernel)
      · simp only [p_w3, e60, e61]; rw [if_neg (fun q => y q.2)]
      · simp only [p_w3, e60, e61, e54, e55]; rw [if_pos ⟨z, by simpa using y⟩]
    simp (disch := omega) only [e_const, e_lconst, e_il, e_ll, e_al, e_is, e_as, e_ls, e_inc, e_bin, e_div, e_un, e_lbin, e_ldiv, e_lcmp, e_i2l, e_l2i, e_if1, e_if2, e_go, e_sw, e_dupi, e_dupr, e_dup2, e_popi, e_popr, e_get, e_put, e_iald, e_iast, e_zald, e_zast, e_aald, e_aast, e_sld, e_slen, e_newa, e_newq, e_mna, e_new, e_oi, e_cs, e_cv, e_ci, e_min, e_max, e_copy, e_rv, e_ri, e_rz, e_rl, e_run, sx_en, sx_cat, sx_tk, sx_ps, sx_set, sx_setl, sx_dl, sx_m, sx_sw, sx_ft, List.map_cons, List.map_nil, List.getElem?_cons_zero, List.getElem?_cons_succ, List.replicate_succ, List.replicate_zero, List.set_cons_zero, List.set_cons_succ, List.length_cons, List.length_nil, Nat.reduceAdd, Nat.reduceSub, Nat.reduceLeDiff, Nat.reduceLT, Nat.reduceMul, Nat.zero_le, Nat.le_refl, Nat.add_zero, Nat.zero_add, true_and, and_true, true_or, tX2_passWeek_14, bX2_passWeek_14, tX2_passWeek_40, bX2_passWeek_40, q_up_s, q_up_n, q_up_up, q_upd_s, q_upd_n, q_upd_upd, q_in, q_in0, q_in1, q_cl, q_cl0, q_cl1, q_add, q_add1, q_1add, q_add0, q_0add, q_mul, q_ite0, q_ite01, q_10, or_true, not_false_eq_true, not_true_eq_false, q_n0, ne_eq, hb1, hq1, hbn, hqn, q_le, q_ti0, sx_o, Sum.inr.injEq, Prod.mk.injEq, exists_eq']
    refine ⟨fun z => ?_, fun z => ?_⟩
    · have e : p_w2 (p_w1 f) = p_pays (p_w1 f) 6 := by simp only [p_w2]; rw [if_pos z]
      refine s_payAll hb1 hq1 hbq hbn hqn ?_
      simp only [true_or, true_and]
      rw [← e]
      exact k45 _ (by rw [q_up_n hbq]; exact hb1) (q_up_s _ _ _) (fun e => by rw [q_up_up, hu1])
    · have e : p_w2 (p_w1 f) = (upd (p_w1 f) 56 (p_w1 f 56 - 1), 0) := by simp only [p_w2]; rw [if_neg z]
      have := k45 (sx_up h1 q (sx_ai 62 (upd (p_w1 f) 56 (p_w1 f 56 - 1)))) (by rw [q_up_n hbq]; exact hb1) (by rw [q_up_s, e]) (fun e => by rw [q_up_up, hu1])
      rw [e] at this
      exact this
  refine ⟨fun z => ?_, fun z => ?_⟩
  · exact k14 h hb (by rw [hq]; simp only [p_w1]; rw [if_neg z]) (fun _ => rfl)
  · refine s_takeAll hb hq hbq hbn hqn ?_
    simp only [true_or, true_and]
    exact k14 _ (by rw [q_up_n hbq]; exact hb) (by rw [q_up_s]; simp only [p_w1]; rw [if_pos (by simpa using z)]) (fun e => by rw [q_up_up])
end BOOK
