/-! shop -/
section SS
variable {n tp : Nat} {T : Nat → Int32} {Q : sx_Q} {st la tr fp : Int32}
set_option maxRecDepth 100000 in
set_option maxHeartbeats 4000000 in
theorem s_copyM_lp {g fr : Nat → Int32} {th ac tpp cu sa tk va fa fpp : Int32} (hn : 61 < n) (Rt : sx_R) : ∀ (k i : Nat) (h : sx_H), i + k = 64 → h 53 = g_m th st ac tpp cu sa tk va fa fpp la tr → h 58 = sx_ai 64 fr → h 57 = sx_ai 64 (cpf g 0 fr i) → sx_T BX8_shop sx_Cal Rt 176 [some (sx_r (some 53)), none] [] n (sx_up h 57 (sx_ai 64 (cpf g 0 fr 64))) 0 0 → sx_T BX8_shop sx_Cal Rt 152 [some (sx_r (some 53)), some (sx_i (nI i))] [] n h 0 0 := by
  have a1 : 53 < n := by omega
  have a2 : 58 < n := by omega
  have a3 : 57 < n := by omega
  intro k
  induction k with
  | zero =>
    intro i h hi h1 h2 h3 hR
    have : i = 64 := by omega
    subst this
    rw [q_up_id h3] at hR
    have hle : (((64 : Nat) : Int) ≤ ((64 : Nat) : Int)) = True := eq_true (by omega)
    rw [tX8_shop_152]
    simp (disch := omega) only [e_const, e_lconst, e_il, e_ll, e_al, z_is, z_as, z_ls, z_inc, e_bin, e_div, e_un, e_lbin, e_ldiv, e_lcmp, e_i2l, e_l2i, e_if1, e_if2, z_go, e_sw, e_dupi, e_dupr, e_dup2, e_popi, e_popr, e_get, e_put, e_iald, e_iast, e_zald, e_zast, e_aald, e_aast, e_sld, e_slen, e_newa, e_newq, e_mna, e_new, e_oi, e_cs, e_cv, e_ci, e_min, e_max, e_copy, e_rv, e_ri, e_rz, e_rl, z_run, sx_en, sx_cat, sx_tk, sx_ps, sx_set, sx_setl, sx_dl, sx_m, sx_sw, sx_ft, List.map_cons, List.map_nil, List.getElem?_cons_zero, List.getElem?_cons_succ, List.replicate_succ, List.replicate_zero, List.set_cons_zero, List.set_cons_succ, List.length_cons, List.length_nil, Nat.reduceAdd, Nat.reduceSub, Nat.reduceLeDiff, Nat.reduceLT, Nat.reduceMul, Nat.zero_le, Nat.le_refl, Nat.add_zero, Nat.zero_add, true_and, and_true, true_or, bX8_shop_152, q_le (nI 64) (nI 64), q_ti, hle, q_up_s, q_up_n, q_up_up, q_upd_s, q_upd_n, q_upd_upd, q_in, q_in0, q_in1, q_cl, q_cl0, q_cl1, q_add, q_add1, q_1add, q_add0, q_0add, q_mul, q_ite0, q_ite01, q_10, or_true, not_false_eq_true, not_true_eq_false, q_n0, ne_eq, false_implies, true_implies, true_and, and_true, not_true_eq_false, not_false_eq_true, Bool.false_eq_true]
    exact hR
  | succ k ih =>
    intro i h hi h1 h2 h3 hR
    have hle : (((64 : Nat) : Int) ≤ (i : Int)) = False := eq_false (by omega)
    have hi6 : i < 64 := by omega
    have hc : upd (cpf g 0 fr i) i (fr i) = cpf g 0 fr (i + 1) := by
      have := cpf_s g 0 fr i
      rw [Nat.zero_add] at this
      exact this
    rw [tX8_shop_152]
    simp (disch := omega) only [e_const, e_lconst, e_il, e_ll, e_al, z_is, z_as, z_ls, z_inc, e_bin, e_div, e_un, e_lbin, e_ldiv, e_lcmp, e_i2l, e_l2i, e_if1, e_if2, z_go, e_sw, e_dupi, e_dupr, e_dup2, e_popi, e_popr, e_get, e_put, e_iald, e_iast, e_zald, e_zast, e_aald, e_aast, e_sld, e_slen, e_newa, e_newq, e_mna, e_new, e_oi, e_cs, e_cv, e_ci, e_min, e_max, e_copy, e_rv, e_ri, e_rz, e_rl, z_run, sx_en, sx_cat, sx_tk, sx_ps, sx_set, sx_setl, sx_dl, sx_m, sx_sw, sx_ft, List.map_cons, List.map_nil, List.getElem?_cons_zero, List.getElem?_cons_succ, List.replicate_succ, List.replicate_zero, List.set_cons_zero, List.set_cons_succ, List.length_cons, List.length_nil, Nat.reduceAdd, Nat.reduceSub, Nat.reduceLeDiff, Nat.reduceLT, Nat.reduceMul, Nat.zero_le, Nat.le_refl, Nat.add_zero, Nat.zero_add, true_and, and_true, true_or, bX8_shop_152, h1, h2, h3, a1, a2, a3, hi6, hc, q_le (nI 64) (nI i), q_ti, hle, q_up_s, q_up_n, q_up_up, q_upd_s, q_upd_n, q_upd_upd, q_in, q_in0, q_in1, q_cl, q_cl0, q_cl1, q_add, q_add1, q_1add, q_add0, q_0add, q_mul, q_ite0, q_ite01, q_10, or_true, not_false_eq_true, not_true_eq_false, q_n0, ne_eq, false_implies, true_implies, true_and, and_true, not_true_eq_false, not_false_eq_true, Bool.false_eq_true, sx_o, Sum.inr.injEq, Prod.mk.injEq, exists_eq', Nat.reduceLT]
    exact ih (i + 1) _ (by omega) ((q_up_n (by decide)).trans h1) ((q_up_n (by decide)).trans h2) (q_up_s _ _ _) (by rw [q_up_up]; exact hR)
end SS
