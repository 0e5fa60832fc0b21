/-! at the door: loops -/
section DO
variable {n : Nat} {f : Nat → Int32}
set_option maxRecDepth 100000 in
set_option maxHeartbeats 4000000 in
theorem s_ahead_lp {b q d : Nat} {h : sx_H} (hd : d < 6) (hb : h b = sx_o 2 [sx_r (some q)]) (hq : h q = sx_ai 62 f) (hbn : b < n) (hqn : q < n) (hF : ∀ d, d < 6 → 0 ≤ (f d).toInt ∧ (f d).toInt ≤ 200) (Rt : sx_R) : ∀ (k i : Nat), i + k = 6 → Rt (some (sx_i (nI (p_rk f d 6)))) n h 0 0 → sx_T BX2_aheadOf sx_Cal Rt 4 [some (sx_r (some b)), some (sx_i (nI d)), some (sx_i (nI (p_rk f d i))), some (sx_i (nI i)), none] [] n h 0 0 := by
  intro k
  induction k with
  | zero =>
    intro i hi hR
    have : i = 6 := by omega
    subst this
    have hle : (((6 : Nat) : Int) ≤ ((6 : Nat) : Int)) = True := eq_true (by omega)
    rw [tX2_aheadOf_4]
    simp (disch := omega) only [e_const, e_lconst, e_il, e_ll, e_al, e_is, e_as, e_ls, e_inc, e_bin, e_div, e_un, e_lbin, e_ldiv, e_lcmp, e_i2l, e_l2i, e_if1, e_if2, e_go, e_sw, e_dupi, e_dupr, e_dup2, e_popi, e_popr, e_get, e_put, e_iald, e_iast, e_zald, e_zast, e_aald, e_aast, e_sld, e_slen, e_newa, e_newq, e_mna, e_new, e_oi, e_cs, e_cv, e_ci, e_min, e_max, e_copy, e_rv, e_ri, e_rz, e_rl, e_run, sx_en, sx_cat, sx_tk, sx_ps, sx_set, sx_setl, sx_dl, sx_m, sx_sw, sx_ft, List.map_cons, List.map_nil, List.getElem?_cons_zero, List.getElem?_cons_succ, List.replicate_succ, List.replicate_zero, List.set_cons_zero, List.set_cons_succ, List.length_cons, List.length_nil, Nat.reduceAdd, Nat.reduceSub, Nat.reduceLeDiff, Nat.reduceLT, Nat.reduceMul, Nat.zero_le, Nat.le_refl, Nat.add_zero, Nat.zero_add, true_and, and_true, true_or, bX2_aheadOf_4, tX2_aheadOf_61, bX2_aheadOf_61, q_le (nI 6) (nI 6), q_ti, hle, q_up_s, q_up_n, q_up_up, q_upd_s, q_upd_n, q_upd_upd, q_in, q_in0, q_in1, q_cl, q_cl0, q_cl1, q_add, q_add1, q_1add, q_add0, q_0add, q_mul, q_ite0, q_ite01, q_10, or_true, not_false_eq_true, not_true_eq_false, q_n0, ne_eq, false_implies, true_implies, true_and, and_true, not_true_eq_false, not_false_eq_true, Bool.false_eq_true]
    exact hR
  | succ k ih =>
    intro i hi hR
    have hle : (((6 : Nat) : Int) ≤ (i : Int)) = False := eq_false (by omega)
    have hi6 : i < 6 := by omega
    have hi62 : i < 62 := by omega
    have hd62 : d < 62 := by omega
    have := ih (i + 1) (by omega) hR
    rw [p_rk] at this
    have e1 := hF i hi6
    have e2 := hF d hd
    have es : (f i - f d).toInt = (f i).toInt - (f d).toInt := i_sub (by omega) (by omega)
    have ez : f i - f d = 0 ↔ (f i).toInt = (f d).toInt := by rw [← Int32.toInt_inj, es, q_ti0]; omega
    rw [tX2_aheadOf_4]
    simp (disch := omega) only [e_const, e_lconst, e_il, e_ll, e_al, e_is, e_as, e_ls, e_inc, e_bin, e_div, e_un, e_lbin, e_ldiv, e_lcmp, e_i2l, e_l2i, e_if1, e_if2, e_go, e_sw, e_dupi, e_dupr, e_dup2, e_popi, e_popr, e_get, e_put, e_iald, e_iast, e_zald, e_zast, e_aald, e_aast, e_sld, e_slen, e_newa, e_newq, e_mna, e_new, e_oi, e_cs, e_cv, e_ci, e_min, e_max, e_copy, e_rv, e_ri, e_rz, e_rl, e_run, sx_en, sx_cat, sx_tk, sx_ps, sx_set, sx_setl, sx_dl, sx_m, sx_sw, sx_ft, List.map_cons, List.map_nil, List.getElem?_cons_zero, List.getElem?_cons_succ, List.replicate_succ, List.replicate_zero, List.set_cons_zero, List.set_cons_succ, List.length_cons, List.length_nil, Nat.reduceAdd, Nat.reduceSub, Nat.reduceLeDiff, Nat.reduceLT, Nat.reduceMul, Nat.zero_le, Nat.le_refl, Nat.add_zero, Nat.zero_add, true_and, and_true, true_or, bX2_aheadOf_4, tX2_aheadOf_52, bX2_aheadOf_52, tX2_aheadOf_55, bX2_aheadOf_55, hb, hq, hbn, hqn, s_comes hb hq hbn hqn hi6, q_le (nI 6) (nI i), q_le (nI d) (nI i), q_lt 0 (f i - f d), q_ti0, q_ti, es, hle, hi62, hd62, q_up_s, q_up_n, q_up_up, q_upd_s, q_upd_n, q_upd_upd, q_in, q_in0, q_in1, q_cl, q_cl0, q_cl1, q_add, q_add1, q_1add, q_add0, q_0add, q_mul, q_ite0, q_ite01, q_10, or_true, not_false_eq_true, not_true_eq_false, q_n0, ne_eq, false_implies, true_implies, true_and, and_true, not_true_eq_false, not_false_eq_true, Bool.false_eq_true, sx_o, Sum.inr.injEq, Prod.mk.injEq, exists_eq', Nat.reduceLT]
    have G1 := fun (z : cmb f i = true ∧ p_bef f i d = true) => (show sx_T BX2_aheadOf sx_Cal Rt 4 [some (sx_r (some b)), some (sx_i (nI d)), some (sx_i (nI (p_rk f d i + 1))), some (sx_i (nI (i + 1))), none] [] n h 0 0 by rw [if_pos z] at this; exact this)
    have G2 := fun (z : ¬ (cmb f i = true ∧ p_bef f i d = true)) => (show sx_T BX2_aheadOf sx_Cal Rt 4 [some (sx_r (some b)), some (sx_i (nI d)), some (sx_i (nI (p_rk f d i))), some (sx_i (nI (i + 1))), none] [] n h 0 0 by rw [if_neg z] at this; exact this)
    refine ⟨fun a => G2 (fun z => a z.1), fun a => ⟨fun b => G1 ⟨Classical.not_not.mp a, ?_⟩, fun b => ⟨fun c => G2 (fun z => ?_), fun c => ⟨fun d => G2 (fun z => ?_), fun d => G1 ⟨Classical.not_not.mp a, ?_⟩⟩⟩⟩⟩
    · rw [bef_iff]; omega
    · have := z.2; rw [bef_iff] at this; exact c (ez.mpr (by omega))
    · have := z.2; rw [bef_iff] at this; have := ez.mp (Classical.not_not.mp c); omega
    · have := ez.mp (Classical.not_not.mp c); rw [bef_iff]; omega
set_option maxRecDepth 100000 in
set_option maxHeartbeats 4000000 in
theorem s_ahead {b q d : Nat} {h : sx_H} {Q : sx_Q} (hd : d < 6) (hb : h b = sx_o 2 [sx_r (some q)]) (hq : h q = sx_ai 62 f) (hbn : b < n) (hqn : q < n) (hF : ∀ d, d < 6 → 0 ≤ (f d).toInt ∧ (f d).toInt ≤ 200) (hQ : Q (some (sx_i (nI (p_rk f d 6)))) n h) : sx_Cal 41 [sx_r (some b), sx_i (nI d)] n h Q := by
  simp (disch := omega) only [e_const, e_lconst, e_il, e_ll, e_al, e_is, e_as, e_ls, e_inc, e_bin, e_div, e_un, e_lbin, e_ldiv, e_lcmp, e_i2l, e_l2i, e_if1, e_if2, e_go, e_sw, e_dupi, e_dupr, e_dup2, e_popi, e_popr, e_get, e_put, e_iald, e_iast, e_zald, e_zast, e_aald, e_aast, e_sld, e_slen, e_newa, e_newq, e_mna, e_new, e_oi, e_cs, e_cv, e_ci, e_min, e_max, e_copy, e_rv, e_ri, e_rz, e_rl, e_run, sx_en, sx_cat, sx_tk, sx_ps, sx_set, sx_setl, sx_dl, sx_m, sx_sw, sx_ft, List.map_cons, List.map_nil, List.getElem?_cons_zero, List.getElem?_cons_succ, List.replicate_succ, List.replicate_zero, List.set_cons_zero, List.set_cons_succ, List.length_cons, List.length_nil, Nat.reduceAdd, Nat.reduceSub, Nat.reduceLeDiff, Nat.reduceLT, Nat.reduceMul, Nat.zero_le, Nat.le_refl, Nat.add_zero, Nat.zero_add, true_and, and_true, true_or, cX2_aheadOf_c, tX2_aheadOf_0, bX2_aheadOf_0, q_up_s, q_up_n, q_up_up, q_upd_s, q_upd_n, q_upd_upd, q_in, q_in0, q_in1, q_cl, q_cl0, q_cl1, q_add, q_add1, q_1add, q_add0, q_0add, q_mul, q_ite0, q_ite01, q_10, or_true, not_false_eq_true, not_true_eq_false, q_n0, ne_eq]
  have key := s_ahead_lp (n := n) (Rt := fun r n' h' kc ks => Q r n' h' ∧ kc ≤ 0 ∧ ks ≤ 0) hd hb hq hbn hqn hF 6 0 (by omega) ⟨hQ, Nat.le_refl _, Nat.le_refl _⟩
  rw [show p_rk f d 0 = 0 from rfl, nI_0] at key
  exact key
set_option maxRecDepth 100000 in
set_option maxHeartbeats 4000000 in
theorem s_owing_lp {b q k0 : Nat} {h : sx_H} (hb : h b = sx_o 2 [sx_r (some q)]) (hq : h q = sx_ai 62 f) (hbn : b < n) (hqn : q < n) (hF : ∀ d, d < 6 → 0 ≤ (f d).toInt ∧ (f d).toInt ≤ 200) (hk : k0 < 6) (Rt : sx_R) : ∀ (k i : Nat), i + k = 6 → (∀ d, d < i → cmb f d = true → ¬ p_rk f d 6 = k0) → (∀ v, p_own f k0 v → Rt (some (sx_i v)) n h 0 0) → sx_T BX2_owingMost sx_Cal Rt 2 [some (sx_r (some b)), some (sx_i (nI k0)), some (sx_i (nI i))] [] n h 0 0 := by
  intro k
  induction k with
  | zero =>
    intro i hi hno hR
    have : i = 6 := by omega
    subst this
    have hle : (((6 : Nat) : Int) ≤ ((6 : Nat) : Int)) = True := eq_true (by omega)
    rw [tX2_owingMost_2]
    simp (disch := omega) only [e_const, e_lconst, e_il, e_ll, e_al, e_is, e_as, e_ls, e_inc, e_bin, e_div, e_un, e_lbin, e_ldiv, e_lcmp, e_i2l, e_l2i, e_if1, e_if2, e_go, e_sw, e_dupi, e_dupr, e_dup2, e_popi, e_popr, e_get, e_put, e_iald, e_iast, e_zald, e_zast, e_aald, e_aast, e_sld, e_slen, e_newa, e_newq, e_mna, e_new, e_oi, e_cs, e_cv, e_ci, e_min, e_max, e_copy, e_rv, e_ri, e_rz, e_rl, e_run, sx_en, sx_cat, sx_tk, sx_ps, sx_set, sx_setl, sx_dl, sx_m, sx_sw, sx_ft, List.map_cons, List.map_nil, List.getElem?_cons_zero, List.getElem?_cons_succ, List.replicate_succ, List.replicate_zero, List.set_cons_zero, List.set_cons_succ, List.length_cons, List.length_nil, Nat.reduceAdd, Nat.reduceSub, Nat.reduceLeDiff, Nat.reduceLT, Nat.reduceMul, Nat.zero_le, Nat.le_refl, Nat.add_zero, Nat.zero_add, true_and, and_true, true_or, bX2_owingMost_2, tX2_owingMost_33, bX2_owingMost_33, q_le (nI 6) (nI 6), q_ti, hle, q_up_s, q_up_n, q_up_up, q_upd_s, q_upd_n, q_upd_upd, q_in, q_in0, q_in1, q_cl, q_cl0, q_cl1, q_add, q_add1, q_1add, q_add0, q_0add, q_mul, q_ite0, q_ite01, q_10, or_true, not_false_eq_true, not_true_eq_false, q_n0, ne_eq, false_implies, true_implies, true_and, and_true, not_true_eq_false, not_false_eq_true, Bool.false_eq_true]
    exact hR _ (Or.inr ⟨hno, rfl⟩)
  | succ k ih =>
    intro i hi hno hR
    have hle : (((6 : Nat) : Int) ≤ (i : Int)) = False := eq_false (by omega)
    have hi6 : i < 6 := by omega
    rw [tX2_owingMost_2]
    simp (disch := omega) only [e_const, e_lconst, e_il, e_ll, e_al, e_is, e_as, e_ls, e_inc, e_bin, e_div, e_un, e_lbin, e_ldiv, e_lcmp, e_i2l, e_l2i, e_if1, e_if2, e_go, e_sw, e_dupi, e_dupr, e_dup2, e_popi, e_popr, e_get, e_put, e_iald, e_iast, e_zald, e_zast, e_aald, e_aast, e_sld, e_slen, e_newa, e_newq, e_mna, e_new, e_oi, e_cs, e_cv, e_ci, e_min, e_max, e_copy, e_rv, e_ri, e_rz, e_rl, e_run, sx_en, sx_cat, sx_tk, sx_ps, sx_set, sx_setl, sx_dl, sx_m, sx_sw, sx_ft, List.map_cons, List.map_nil, List.getElem?_cons_zero, List.getElem?_cons_succ, List.replicate_succ, List.replicate_zero, List.set_cons_zero, List.set_cons_succ, List.length_cons, List.length_nil, Nat.reduceAdd, Nat.reduceSub, Nat.reduceLeDiff, Nat.reduceLT, Nat.reduceMul, Nat.zero_le, Nat.le_refl, Nat.add_zero, Nat.zero_add, true_and, and_true, true_or, bX2_owingMost_2, tX2_owingMost_27, bX2_owingMost_27, hb, hbn, s_comes hb hq hbn hqn hi6, q_le (nI 6) (nI i), q_ti, hle, q_up_s, q_up_n, q_up_up, q_upd_s, q_upd_n, q_upd_upd, q_in, q_in0, q_in1, q_cl, q_cl0, q_cl1, q_add, q_add1, q_1add, q_add0, q_0add, q_mul, q_ite0, q_ite01, q_10, or_true, not_false_eq_true, not_true_eq_false, q_n0, ne_eq, false_implies, true_implies, true_and, and_true, not_true_eq_false, not_false_eq_true, Bool.false_eq_true, sx_o, Sum.inr.injEq, Prod.mk.injEq, exists_eq', Nat.reduceLT]
    refine ⟨fun z => ?_, fun z => ?_⟩
    · exact ih (i + 1) (by omega) (fun d hd hc => by
        by_cases q : d = i
        · rw [q] at hc; exact absurd hc z
        · exact hno d (by omega) hc) hR
    · have hr6 : p_rk f i 6 ≤ 6 := by
        have : ∀ m, p_rk f i m ≤ m := by
          intro m
          induction m with
          | zero => exact Nat.le_refl _
          | succ m ihm => rw [p_rk]; split <;> omega
        exact this 6
      refine s_ahead hi6 hb hq hbn hqn hF ?_
      have e : (nI (p_rk f i 6) = nI k0) = (p_rk f i 6 = k0) := by
        apply propext
        constructor
        · intro e
          have e2 := congrArg Int32.toInt e
          rw [q_ti (by omega), q_ti (by omega)] at e2
          omega
        · intro e; rw [e]
      simp (disch := omega) only [e_const, e_lconst, e_il, e_ll, e_al, e_is, e_as, e_ls, e_inc, e_bin, e_div, e_un, e_lbin, e_ldiv, e_lcmp, e_i2l, e_l2i, e_if1, e_if2, e_go, e_sw, e_dupi, e_dupr, e_dup2, e_popi, e_popr, e_get, e_put, e_iald, e_iast, e_zald, e_zast, e_aald, e_aast, e_sld, e_slen, e_newa, e_newq, e_mna, e_new, e_oi, e_cs, e_cv, e_ci, e_min, e_max, e_copy, e_rv, e_ri, e_rz, e_rl, e_run, sx_en, sx_cat, sx_tk, sx_ps, sx_set, sx_setl, sx_dl, sx_m, sx_sw, sx_ft, List.map_cons, List.map_nil, List.getElem?_cons_zero, List.getElem?_cons_succ, List.replicate_succ, List.replicate_zero, List.set_cons_zero, List.set_cons_succ, List.length_cons, List.length_nil, Nat.reduceAdd, Nat.reduceSub, Nat.reduceLeDiff, Nat.reduceLT, Nat.reduceMul, Nat.zero_le, Nat.le_refl, Nat.add_zero, Nat.zero_add, true_and, and_true, true_or, tX2_owingMost_27, bX2_owingMost_27, e, q_up_s, q_up_n, q_up_up, q_upd_s, q_upd_n, q_upd_upd, q_in, q_in0, q_in1, q_cl, q_cl0, q_cl1, q_add, q_add1, q_1add, q_add0, q_0add, q_mul, q_ite0, q_ite01, q_10, or_true, not_false_eq_true, not_true_eq_false, q_n0, ne_eq, false_implies, true_implies, true_and, and_true, not_true_eq_false, not_false_eq_true, Bool.false_eq_true, sx_o, Sum.inr.injEq, Prod.mk.injEq, exists_eq', Nat.reduceLT]
      refine ⟨fun y => ?_, fun y => ?_⟩
      · exact ih (i + 1) (by omega) (fun d hd hc => by
          by_cases q : d = i
          · rw [q]; exact y
          · exact hno d (by omega) hc) hR
      · exact hR _ (Or.inl ⟨i, hi6, Classical.not_not.mp z, Classical.not_not.mp y, rfl⟩)
set_option maxRecDepth 100000 in
set_option maxHeartbeats 4000000 in
theorem s_owing {b q k0 : Nat} {h : sx_H} {Q : sx_Q} (hb : h b = sx_o 2 [sx_r (some q)]) (hq : h q = sx_ai 62 f) (hbn : b < n) (hqn : q < n) (hF : ∀ d, d < 6 → 0 ≤ (f d).toInt ∧ (f d).toInt ≤ 200) (hk : k0 < 6) (hQ : ∀ v, p_own f k0 v → Q (some (sx_i v)) n h) : sx_Cal 40 [sx_r (some b), sx_i (nI k0)] n h Q := by
  simp (disch := omega) only [e_const, e_lconst, e_il, e_ll, e_al, e_is, e_as, e_ls, e_inc, e_bin, e_div, e_un, e_lbin, e_ldiv, e_lcmp, e_i2l, e_l2i, e_if1, e_if2, e_go, e_sw, e_dupi, e_dupr, e_dup2, e_popi, e_popr, e_get, e_put, e_iald, e_iast, e_zald, e_zast, e_aald, e_aast, e_sld, e_slen, e_newa, e_newq, e_mna, e_new, e_oi, e_cs, e_cv, e_ci, e_min, e_max, e_copy, e_rv, e_ri, e_rz, e_rl, e_run, sx_en, sx_cat, sx_tk, sx_ps, sx_set, sx_setl, sx_dl, sx_m, sx_sw, sx_ft, List.map_cons, List.map_nil, List.getElem?_cons_zero, List.getElem?_cons_succ, List.replicate_succ, List.replicate_zero, List.set_cons_zero, List.set_cons_succ, List.length_cons, List.length_nil, Nat.reduceAdd, Nat.reduceSub, Nat.reduceLeDiff, Nat.reduceLT, Nat.reduceMul, Nat.zero_le, Nat.le_refl, Nat.add_zero, Nat.zero_add, true_and, and_true, true_or, cX2_owingMost_c, tX2_owingMost_0, bX2_owingMost_0, q_up_s, q_up_n, q_up_up, q_upd_s, q_upd_n, q_upd_upd, q_in, q_in0, q_in1, q_cl, q_cl0, q_cl1, q_add, q_add1, q_1add, q_add0, q_0add, q_mul, q_ite0, q_ite01, q_10, or_true, not_false_eq_true, not_true_eq_false, q_n0, ne_eq]
  have key := s_owing_lp (n := n) (k0 := k0) (Rt := fun r n' h' kc ks => Q r n' h' ∧ kc ≤ 0 ∧ ks ≤ 0) hb hq hbn hqn hF hk 6 0 (by omega) (fun d hd => by omega) (fun v hv => ⟨hQ v hv, Nat.le_refl _, Nat.le_refl _⟩)
  rw [nI_0] at key
  exact key
end DO
