/-! the class reads the tape: all of it -/
def p_zr (g : Nat → Int32) (i : Nat) : Nat → Int32 := fun j => if j < i then 0 else g j
set_option maxRecDepth 100000 in
set_option maxHeartbeats 4000000 in
theorem zr_s (g : Nat → Int32) (i : Nat) : upd (p_zr g i) i 0 = p_zr g (i + 1) := by
  funext j
  by_cases h : j = i
  · rw [h, q_upd_s, p_zr, if_pos (by omega)]
  · rw [q_upd_n h, p_zr, p_zr]
    by_cases h2 : j < i
    · rw [if_pos h2, if_pos (by omega)]
    · rw [if_neg h2, if_neg (by omega)]
set_option maxRecDepth 100000 in
set_option maxHeartbeats 4000000 in
theorem zr_all {g : Nat → Int32} {N : Nat} (h : ∀ j, N ≤ j → g j = 0) : p_zr g N = fun _ => 0 := by
  funext j
  rw [p_zr]
  by_cases z : j < N
  · rw [if_pos z]
  · rw [if_neg z]; exact h j (by omega)
set_option maxRecDepth 100000 in
set_option maxHeartbeats 4000000 in
theorem zr_0 (g : Nat → Int32) : p_zr g 0 = g := by
  funext j
  rw [p_zr, if_neg (by omega)]
section TG
variable {n : Nat} {Q : sx_Q}
set_option maxRecDepth 100000 in
set_option maxHeartbeats 4000000 in
theorem s_clear_lp {b q : Nat} {g : Nat → Int32} (hbq : b ≠ q) (hbn : b < n) (hqn : q < n) (Rt : sx_R) : ∀ (k i : Nat) (h : sx_H), i + k = 62 → h b = sx_o 2 [sx_r (some q)] → h q = sx_ai 62 (p_zr g i) → Rt none n (sx_up h q (sx_ai 62 (p_zr g 62))) 0 0 → sx_T BX2_clear sx_Cal Rt 2 [some (sx_r (some b)), some (sx_i (nI i))] [] n h 0 0 := by
  intro k
  induction k with
  | zero =>
    intro i h hi h1 h2 hR
    have : i = 62 := by omega
    subst this
    rw [q_up_id h2] at hR
    have hle : (((62 : Nat) : Int) ≤ ((62 : Nat) : Int)) = True := eq_true (by omega)
    rw [tX2_clear_2]
    simp (disch := omega) only [e_const, e_lconst, e_il, e_ll, e_al, z_is, z_as, z_ls, z_inc, e_bin, e_div, e_un, e_lbin, e_ldiv, e_lcmp, e_i2l, e_l2i, e_if1, e_if2, z_go, e_sw, e_dupi, e_dupr, e_dup2, e_popi, e_popr, e_get, e_put, e_iald, e_iast, e_zald, e_zast, e_aald, e_aast, e_sld, e_slen, e_newa, e_newq, e_mna, e_new, e_oi, e_cs, e_cv, e_ci, e_min, e_max, e_copy, e_rv, e_ri, e_rz, e_rl, z_run, sx_en, sx_cat, sx_tk, sx_ps, sx_set, sx_setl, sx_dl, sx_m, sx_sw, sx_ft, List.map_cons, List.map_nil, List.getElem?_cons_zero, List.getElem?_cons_succ, List.replicate_succ, List.replicate_zero, List.set_cons_zero, List.set_cons_succ, List.length_cons, List.length_nil, Nat.reduceAdd, Nat.reduceSub, Nat.reduceLeDiff, Nat.reduceLT, Nat.reduceMul, Nat.zero_le, Nat.le_refl, Nat.add_zero, Nat.zero_add, true_and, and_true, true_or, bX2_clear_2, tX2_clear_21, bX2_clear_21, q_le (nI 62) (nI 62), q_ti, hle, q_up_s, q_up_n, q_up_up, q_upd_s, q_upd_n, q_upd_upd, q_in, q_in0, q_in1, q_cl, q_cl0, q_cl1, q_add, q_add1, q_1add, q_add0, q_0add, q_mul, q_ite0, q_ite01, q_10, or_true, not_false_eq_true, not_true_eq_false, q_n0, ne_eq, false_implies, true_implies, true_and, and_true, not_true_eq_false, not_false_eq_true, Bool.false_eq_true]
    exact hR
  | succ k ih =>
    intro i h hi h1 h2 hR
    have hle : (((62 : Nat) : Int) ≤ (i : Int)) = False := eq_false (by omega)
    have hi6 : i < 62 := by omega
    rw [tX2_clear_2]
    simp (disch := omega) only [e_const, e_lconst, e_il, e_ll, e_al, z_is, z_as, z_ls, z_inc, e_bin, e_div, e_un, e_lbin, e_ldiv, e_lcmp, e_i2l, e_l2i, e_if1, e_if2, z_go, e_sw, e_dupi, e_dupr, e_dup2, e_popi, e_popr, e_get, e_put, e_iald, e_iast, e_zald, e_zast, e_aald, e_aast, e_sld, e_slen, e_newa, e_newq, e_mna, e_new, e_oi, e_cs, e_cv, e_ci, e_min, e_max, e_copy, e_rv, e_ri, e_rz, e_rl, z_run, sx_en, sx_cat, sx_tk, sx_ps, sx_set, sx_setl, sx_dl, sx_m, sx_sw, sx_ft, List.map_cons, List.map_nil, List.getElem?_cons_zero, List.getElem?_cons_succ, List.replicate_succ, List.replicate_zero, List.set_cons_zero, List.set_cons_succ, List.length_cons, List.length_nil, Nat.reduceAdd, Nat.reduceSub, Nat.reduceLeDiff, Nat.reduceLT, Nat.reduceMul, Nat.zero_le, Nat.le_refl, Nat.add_zero, Nat.zero_add, true_and, and_true, true_or, bX2_clear_2, h1, h2, hbn, hqn, hi6, zr_s, q_le (nI 62) (nI i), q_ti, hle, q_up_s, q_up_n, q_up_up, q_upd_s, q_upd_n, q_upd_upd, q_in, q_in0, q_in1, q_cl, q_cl0, q_cl1, q_add, q_add1, q_1add, q_add0, q_0add, q_mul, q_ite0, q_ite01, q_10, or_true, not_false_eq_true, not_true_eq_false, q_n0, ne_eq, false_implies, true_implies, true_and, and_true, not_true_eq_false, not_false_eq_true, Bool.false_eq_true, sx_o, Sum.inr.injEq, Prod.mk.injEq, exists_eq', Nat.reduceLT]
    exact ih (i + 1) _ (by omega) ((q_up_n hbq).trans h1) (q_up_s _ _ _) (by rw [q_up_up]; exact hR)
set_option maxRecDepth 100000 in
set_option maxHeartbeats 4000000 in
theorem s_clear {b q : Nat} {g : Nat → Int32} {h : sx_H} (hbq : b ≠ q) (hbn : b < n) (hqn : q < n) (h1 : h b = sx_o 2 [sx_r (some q)]) (h2 : h q = sx_ai 62 g) (hg : ∀ j, 62 ≤ j → g j = 0) (hQ : Q none n (sx_up h q (sx_ai 62 (fun _ => 0)))) : sx_Cal 21 [sx_r (some b)] n h Q := by
  simp (disch := omega) only [e_const, e_lconst, e_il, e_ll, e_al, z_is, z_as, z_ls, z_inc, e_bin, e_div, e_un, e_lbin, e_ldiv, e_lcmp, e_i2l, e_l2i, e_if1, e_if2, z_go, e_sw, e_dupi, e_dupr, e_dup2, e_popi, e_popr, e_get, e_put, e_iald, e_iast, e_zald, e_zast, e_aald, e_aast, e_sld, e_slen, e_newa, e_newq, e_mna, e_new, e_oi, e_cs, e_cv, e_ci, e_min, e_max, e_copy, e_rv, e_ri, e_rz, e_rl, z_run, sx_en, sx_cat, sx_tk, sx_ps, sx_set, sx_setl, sx_dl, sx_m, sx_sw, sx_ft, List.map_cons, List.map_nil, List.getElem?_cons_zero, List.getElem?_cons_succ, List.replicate_succ, List.replicate_zero, List.set_cons_zero, List.set_cons_succ, List.length_cons, List.length_nil, Nat.reduceAdd, Nat.reduceSub, Nat.reduceLeDiff, Nat.reduceLT, Nat.reduceMul, Nat.zero_le, Nat.le_refl, Nat.add_zero, Nat.zero_add, true_and, and_true, true_or, cX2_clear_c, tX2_clear_0, bX2_clear_0, q_up_s, q_up_n, q_up_up, q_upd_s, q_upd_n, q_upd_upd, q_in, q_in0, q_in1, q_cl, q_cl0, q_cl1, q_add, q_add1, q_1add, q_add0, q_0add, q_mul, q_ite0, q_ite01, q_10, or_true, not_false_eq_true, not_true_eq_false, q_n0, ne_eq]
  have key := s_clear_lp (n := n) (g := g) (Rt := fun r n' h' kc ks => Q r n' h' ∧ kc ≤ 0 ∧ ks ≤ 0) hbq hbn hqn 62 0 h (by omega) h1 (by rw [zr_0]; exact h2) ⟨by rw [zr_all hg]; exact hQ, Nat.le_refl _, Nat.le_refl _⟩
  rw [nI_0] at key
  exact key
set_option maxRecDepth 100000 in
set_option maxHeartbeats 4000000 in
theorem s_readB {T g : Nat → Int32} {tp : Nat} {p s t : Int32} {h : sx_H} (hn : 18 < n) (htp : tp ≤ 120) (h1 : h 13 = sx_o 5 [sx_r (some 14), sx_i (nI tp), sx_i p, sx_i s, sx_i t]) (h2 : h 14 = sx_ai 120 T) (h3 : h 17 = sx_o 2 [sx_r (some 18)]) (h4 : h 18 = sx_ai 62 g) (hg : ∀ j, 62 ≤ j → g j = 0) (hQ : ∀ h' s' pt', h' 13 = g_t tp (p_M T tp 121 0 0 0 (fun _ => 0)).1.1 s' pt' → (∃ g, h' 18 = sx_ai 62 g ∧ (∀ j, 62 ≤ j → g j = 0) ∧ ((p_M T tp 121 0 0 0 (fun _ => 0)).1.2 = 0 → g = (p_M T tp 121 0 0 0 (fun _ => 0)).2)) → (∀ j, j ≠ 13 → j ≠ 18 → h' j = h j) → Q (some (sx_i (nI (p_M T tp 121 0 0 0 (fun _ => 0)).1.2))) n h') : sx_Cal 75 [sx_r (some 13), sx_r (some 17)] n h Q := by
  have a1 : 13 < n := by omega
  have a2 : 17 < n := by omega
  simp (disch := omega) only [e_const, e_lconst, e_il, e_ll, e_al, z_is, z_as, z_ls, z_inc, e_bin, e_div, e_un, e_lbin, e_ldiv, e_lcmp, e_i2l, e_l2i, e_if1, e_if2, z_go, e_sw, e_dupi, e_dupr, e_dup2, e_popi, e_popr, e_get, e_put, e_iald, e_iast, e_zald, e_zast, e_aald, e_aast, e_sld, e_slen, e_newa, e_newq, e_mna, e_new, e_oi, e_cs, e_cv, e_ci, e_min, e_max, e_copy, e_rv, e_ri, e_rz, e_rl, z_run, sx_en, sx_cat, sx_tk, sx_ps, sx_set, sx_setl, sx_dl, sx_m, sx_sw, sx_ft, List.map_cons, List.map_nil, List.getElem?_cons_zero, List.getElem?_cons_succ, List.replicate_succ, List.replicate_zero, List.set_cons_zero, List.set_cons_succ, List.length_cons, List.length_nil, Nat.reduceAdd, Nat.reduceSub, Nat.reduceLeDiff, Nat.reduceLT, Nat.reduceMul, Nat.zero_le, Nat.le_refl, Nat.add_zero, Nat.zero_add, true_and, and_true, true_or, cX6_read_c, tX6_read_0, bX6_read_0, h3, a2, q_up_s, q_up_n, q_up_up, q_upd_s, q_upd_n, q_upd_upd, q_in, q_in0, q_in1, q_cl, q_cl0, q_cl1, q_add, q_add1, q_1add, q_add0, q_0add, q_mul, q_ite0, q_ite01, q_10, or_true, not_false_eq_true, not_true_eq_false, q_n0, ne_eq, false_implies, true_implies, true_and, and_true, not_true_eq_false, not_false_eq_true, Bool.false_eq_true, sx_o, Sum.inr.injEq, Prod.mk.injEq, exists_eq', Nat.reduceLT]
  refine s_clear (by decide) a2 hn h3 h4 hg ?_
  simp (disch := omega) only [e_const, e_lconst, e_il, e_ll, e_al, z_is, z_as, z_ls, z_inc, e_bin, e_div, e_un, e_lbin, e_ldiv, e_lcmp, e_i2l, e_l2i, e_if1, e_if2, z_go, e_sw, e_dupi, e_dupr, e_dup2, e_popi, e_popr, e_get, e_put, e_iald, e_iast, e_zald, e_zast, e_aald, e_aast, e_sld, e_slen, e_newa, e_newq, e_mna, e_new, e_oi, e_cs, e_cv, e_ci, e_min, e_max, e_copy, e_rv, e_ri, e_rz, e_rl, z_run, sx_en, sx_cat, sx_tk, sx_ps, sx_set, sx_setl, sx_dl, sx_m, sx_sw, sx_ft, List.map_cons, List.map_nil, List.getElem?_cons_zero, List.getElem?_cons_succ, List.replicate_succ, List.replicate_zero, List.set_cons_zero, List.set_cons_succ, List.length_cons, List.length_nil, Nat.reduceAdd, Nat.reduceSub, Nat.reduceLeDiff, Nat.reduceLT, Nat.reduceMul, Nat.zero_le, Nat.le_refl, Nat.add_zero, Nat.zero_add, true_and, and_true, true_or, h1, a1, q_up_s, q_up_n, q_up_up, q_upd_s, q_upd_n, q_upd_upd, q_in, q_in0, q_in1, q_cl, q_cl0, q_cl1, q_add, q_add1, q_1add, q_add0, q_0add, q_mul, q_ite0, q_ite01, q_10, or_true, not_false_eq_true, not_true_eq_false, q_n0, ne_eq, false_implies, true_implies, true_and, and_true, not_true_eq_false, not_false_eq_true, Bool.false_eq_true, sx_o, Sum.inr.injEq, Prod.mk.injEq, exists_eq', Nat.reduceLT]
  have key := fun Rt h hh1 hh2 hh3 hh4 hR => s_read_lp (T := T) (n := n) hn htp Rt 120 0 0 0 0 (fun _ => 0) h (by omega) (by omega) (by omega) (by omega) (by omega) (Or.inl rfl) (fun _ _ => rfl) hh1 hh2 hh3 hh4 hR
  rw [nI_0] at key
  refine key _ _ ?_ ?_ ?_ ?_ (fun h' s' pt' u1 u2 u3 => ⟨hQ h' s' pt' u1 u2 (fun j j1 j2 => (u3 j j1 j2).trans ?_), Nat.le_refl _, Nat.le_refl _⟩)
  · rw [show g_t tp 0 0 0 = sx_o 5 [sx_r (some 14), sx_i (nI tp), sx_i 0, sx_i 0, sx_i 0] by show sx_o 5 [sx_r (some 14), sx_i (nI tp), sx_i (nI 0), sx_i (nI 0), sx_i (nI 0)] = _; rw [nI_0]]
    simp (disch := omega) only [q_up_s]
  · simp (disch := omega) only [q_up_n, h2]
  · simp (disch := omega) only [q_up_n, h3]
  · simp (disch := omega) only [q_up_s, q_up_n]
  · simp (disch := omega) only [q_up_n]
end TG
