/-! the class reads a token: its calls -/
set_option maxRecDepth 100000 in
set_option maxHeartbeats 4000000 in
theorem rng_iff (lo hi v : Int32) : o_rng lo hi v = true ↔ lo.toInt ≤ v.toInt ∧ v.toInt ≤ hi.toInt := by simp [o_rng]
section TD
variable {T : Nat → Int32} {tp q s pt n : Nat} {row : Nat → Int32} {h : sx_H} {Q : sx_Q}
set_option maxRecDepth 100000 in
set_option maxHeartbeats 4000000 in
theorem s_readSign {c : Int32} (hn : 18 < n) (hq : q < tp) (htp : tp ≤ 120) (h1 : h 13 = g_t tp q s pt) (h2 : h 14 = sx_ai 120 T) : sx_Cal 77 [sx_r (some 13), sx_i c] n h Q = (if T q = c then Q (some (sx_i 0)) n (sx_up h 13 (g_t tp (q + 1) s pt)) else Q (some (sx_i 1)) n h) := by
  have a1 : 13 < n := by omega
  have a2 : 14 < n := by omega
  simp (disch := omega) only [e_const, e_lconst, e_il, e_ll, e_al, z_is, z_as, z_ls, z_inc, e_bin, e_div, e_un, e_lbin, e_ldiv, e_lcmp, e_i2l, e_l2i, e_if1, e_if2, z_go, e_sw, e_dupi, e_dupr, e_dup2, e_popi, e_popr, e_get, e_put, e_iald, e_iast, e_zald, e_zast, e_aald, e_aast, e_sld, e_slen, e_newa, e_newq, e_mna, e_new, e_oi, e_cs, e_cv, e_ci, e_min, e_max, e_copy, e_rv, e_ri, e_rz, e_rl, z_run, sx_en, sx_cat, sx_tk, sx_ps, sx_set, sx_setl, sx_dl, sx_m, sx_sw, sx_ft, List.map_cons, List.map_nil, List.getElem?_cons_zero, List.getElem?_cons_succ, List.replicate_succ, List.replicate_zero, List.set_cons_zero, List.set_cons_succ, List.length_cons, List.length_nil, Nat.reduceAdd, Nat.reduceSub, Nat.reduceLeDiff, Nat.reduceLT, Nat.reduceMul, Nat.zero_le, Nat.le_refl, Nat.add_zero, Nat.zero_add, true_and, and_true, true_or, cX6_readSign_c, tX6_readSign_0, bX6_readSign_0, tX6_readSign_15, bX6_readSign_15, h1, h2, a1, a2, q_up_s, q_up_n, q_up_up, q_upd_s, q_upd_n, q_upd_upd, q_in, q_in0, q_in1, q_cl, q_cl0, q_cl1, q_add, q_add1, q_1add, q_add0, q_0add, q_mul, q_ite0, q_ite01, q_10, or_true, not_false_eq_true, not_true_eq_false, q_n0, ne_eq, false_implies, true_implies, true_and, and_true, not_true_eq_false, not_false_eq_true, Bool.false_eq_true, sx_o, Sum.inr.injEq, Prod.mk.injEq, exists_eq', Nat.reduceLT]
  by_cases z : T q = c <;> simp [z]
set_option maxRecDepth 100000 in
set_option maxHeartbeats 4000000 in
theorem s_kindOf (x : Int32) : sx_Cal 79 [sx_i x] n h Q = Q (some (sx_i (p_kd x))) n h := by
  have e : ∀ a b : Nat, a < 1000 → b < 1000 → (nI a = nI b) = (a = b) := fun a b ha hb => nI_eqn (by omega) (by omega)
  simp (disch := omega) only [e_const, e_lconst, e_il, e_ll, e_al, z_is, z_as, z_ls, z_inc, e_bin, e_div, e_un, e_lbin, e_ldiv, e_lcmp, e_i2l, e_l2i, e_if1, e_if2, z_go, e_sw, e_dupi, e_dupr, e_dup2, e_popi, e_popr, e_get, e_put, e_iald, e_iast, e_zald, e_zast, e_aald, e_aast, e_sld, e_slen, e_newa, e_newq, e_mna, e_new, e_oi, e_cs, e_cv, e_ci, e_min, e_max, e_copy, e_rv, e_ri, e_rz, e_rl, z_run, sx_en, sx_cat, sx_tk, sx_ps, sx_set, sx_setl, sx_dl, sx_m, sx_sw, sx_ft, List.map_cons, List.map_nil, List.getElem?_cons_zero, List.getElem?_cons_succ, List.replicate_succ, List.replicate_zero, List.set_cons_zero, List.set_cons_succ, List.length_cons, List.length_nil, Nat.reduceAdd, Nat.reduceSub, Nat.reduceLeDiff, Nat.reduceLT, Nat.reduceMul, Nat.zero_le, Nat.le_refl, Nat.add_zero, Nat.zero_add, true_and, and_true, true_or, cX6_kindOf_c, tX6_kindOf_0, bX6_kindOf_0, tX6_kindOf_72, bX6_kindOf_72, tX6_kindOf_74, bX6_kindOf_74, tX6_kindOf_76, bX6_kindOf_76, tX6_kindOf_78, bX6_kindOf_78, tX6_kindOf_80, bX6_kindOf_80, tX6_kindOf_82, bX6_kindOf_82, q_up_s, q_up_n, q_up_up, q_upd_s, q_upd_n, q_upd_upd, q_in, q_in0, q_in1, q_cl, q_cl0, q_cl1, q_add, q_add1, q_1add, q_add0, q_0add, q_mul, q_ite0, q_ite01, q_10, or_true, not_false_eq_true, not_true_eq_false, q_n0, ne_eq, false_implies, true_implies, true_and, and_true, not_true_eq_false, not_false_eq_true, Bool.false_eq_true]
  unfold p_kd
  by_cases a : x = nI 103
  · simp (disch := omega) [a, e]
  by_cases b : x = nI 104
  · simp (disch := omega) [b, e]
  by_cases c : x = nI 114
  · simp (disch := omega) [c, e]
  by_cases d : x = nI 115
  · simp (disch := omega) [d, e]
  by_cases f : x = nI 116
  · simp (disch := omega) [f, e]
  by_cases g105 : x = nI 105
  · simp (disch := omega) [g105, e]
  by_cases g106 : x = nI 106
  · simp (disch := omega) [g106, e]
  by_cases g107 : x = nI 107
  · simp (disch := omega) [g107, e]
  by_cases g108 : x = nI 108
  · simp (disch := omega) [g108, e]
  by_cases g109 : x = nI 109
  · simp (disch := omega) [g109, e]
  by_cases g110 : x = nI 110
  · simp (disch := omega) [g110, e]
  by_cases g111 : x = nI 111
  · simp (disch := omega) [g111, e]
  by_cases g112 : x = nI 112
  · simp (disch := omega) [g112, e]
  by_cases g113 : x = nI 113
  · simp (disch := omega) [g113, e]
  simp (disch := omega) [a, b, c, d, f, g105, g106, g107, g108, g109, g110, g111, g112, g113]
set_option maxRecDepth 100000 in
set_option maxHeartbeats 4000000 in
theorem s_readNumber (hn : 18 < n) (hs : s % 2 = 1) (hs7 : s < 7) (hp : pt ≤ 6) (hq : q < tp) (htp : tp ≤ 120) (h1 : h 13 = g_t tp q s pt) (h2 : h 14 = sx_ai 120 T) (h3 : h 17 = sx_o 2 [sx_r (some 18)]) (h4 : h 18 = sx_ai 62 row) (hQ : ∀ h', h' 13 = g_t tp (p_tok T tp s pt q row).1.1 s pt → h' 18 = sx_ai 62 (p_tok T tp s pt q row).2 → (∀ j, j ≠ 13 → j ≠ 18 → h' j = h j) → Q (some (sx_i (nI (p_tok T tp s pt q row).1.2))) n h') : sx_Cal 80 [sx_r (some 13), sx_r (some 17)] n h Q := by
  have a1 : 13 < n := by omega
  have a2 : 17 < n := by omega
  have hr := rn_le T (tp - q) q
  have key := fun Rt hR => s_num_lp (n := n) (h := h) (T := T) (q := q) (r := p_rn T (tp - q) q) (by omega) htp h1 h2 Rt (tp - q) 0 (by omega) rfl hR
  rw [Nat.add_zero, show p_vl T q 0 = 0 from rfl] at key
  simp (disch := omega) only [e_const, e_lconst, e_il, e_ll, e_al, z_is, z_as, z_ls, z_inc, e_bin, e_div, e_un, e_lbin, e_ldiv, e_lcmp, e_i2l, e_l2i, e_if1, e_if2, z_go, e_sw, e_dupi, e_dupr, e_dup2, e_popi, e_popr, e_get, e_put, e_iald, e_iast, e_zald, e_zast, e_aald, e_aast, e_sld, e_slen, e_newa, e_newq, e_mna, e_new, e_oi, e_cs, e_cv, e_ci, e_min, e_max, e_copy, e_rv, e_ri, e_rz, e_rl, z_run, sx_en, sx_cat, sx_tk, sx_ps, sx_set, sx_setl, sx_dl, sx_m, sx_sw, sx_ft, List.map_cons, List.map_nil, List.getElem?_cons_zero, List.getElem?_cons_succ, List.replicate_succ, List.replicate_zero, List.set_cons_zero, List.set_cons_succ, List.length_cons, List.length_nil, Nat.reduceAdd, Nat.reduceSub, Nat.reduceLeDiff, Nat.reduceLT, Nat.reduceMul, Nat.zero_le, Nat.le_refl, Nat.add_zero, Nat.zero_add, true_and, and_true, true_or, cX6_readNumber_c, tX6_readNumber_0, bX6_readNumber_0, h1, a1, q_up_s, q_up_n, q_up_up, q_upd_s, q_upd_n, q_upd_upd, q_in, q_in0, q_in1, q_cl, q_cl0, q_cl1, q_add, q_add1, q_1add, q_add0, q_0add, q_mul, q_ite0, q_ite01, q_10, or_true, not_false_eq_true, not_true_eq_false, q_n0, ne_eq, false_implies, true_implies, true_and, and_true, not_true_eq_false, not_false_eq_true, Bool.false_eq_true, sx_o, Sum.inr.injEq, Prod.mk.injEq, exists_eq', Nat.reduceLT]
  refine key _ ?_
  have es : nI (q + p_rn T (tp - q) q) - nI q = nI (p_rn T (tp - q) q) := by rw [nI_sub (by omega), Nat.add_sub_cancel_left]
  have e2 : ((p_rn T (tp - q) q : Nat) : Int) ≤ ((2 : Nat) : Int) ↔ p_rn T (tp - q) q ≤ 2 := by omega
  have hx : p_pl s pt < 62 := by
    rw [p_pl]; split
    · split; omega; split <;> omega
    · split; omega; split <;> omega
  rw [tX6_readNumber_48]
  simp (disch := omega) only [e_const, e_lconst, e_il, e_ll, e_al, z_is, z_as, z_ls, z_inc, e_bin, e_div, e_un, e_lbin, e_ldiv, e_lcmp, e_i2l, e_l2i, e_if1, e_if2, z_go, e_sw, e_dupi, e_dupr, e_dup2, e_popi, e_popr, e_get, e_put, e_iald, e_iast, e_zald, e_zast, e_aald, e_aast, e_sld, e_slen, e_newa, e_newq, e_mna, e_new, e_oi, e_cs, e_cv, e_ci, e_min, e_max, e_copy, e_rv, e_ri, e_rz, e_rl, z_run, sx_en, sx_cat, sx_tk, sx_ps, sx_set, sx_setl, sx_dl, sx_m, sx_sw, sx_ft, List.map_cons, List.map_nil, List.getElem?_cons_zero, List.getElem?_cons_succ, List.replicate_succ, List.replicate_zero, List.set_cons_zero, List.set_cons_succ, List.length_cons, List.length_nil, Nat.reduceAdd, Nat.reduceSub, Nat.reduceLeDiff, Nat.reduceLT, Nat.reduceMul, Nat.zero_le, Nat.le_refl, Nat.add_zero, Nat.zero_add, true_and, and_true, true_or, bX6_readNumber_48, tX6_readNumber_67, bX6_readNumber_67, h1, a1, es, nI_eq0, q_le (nI (p_rn T (tp - q) q)) (nI 2), q_ti, q_up_s, q_up_n, q_up_up, q_upd_s, q_upd_n, q_upd_upd, q_in, q_in0, q_in1, q_cl, q_cl0, q_cl1, q_add, q_add1, q_1add, q_add0, q_0add, q_mul, q_ite0, q_ite01, q_10, or_true, not_false_eq_true, not_true_eq_false, q_n0, ne_eq, false_implies, true_implies, true_and, and_true, not_true_eq_false, not_false_eq_true, Bool.false_eq_true, sx_o, Sum.inr.injEq, Prod.mk.injEq, exists_eq', Nat.reduceLT]
  have bad : p_rn T (tp - q) q = 0 ∨ 2 < p_rn T (tp - q) q → Q (some (sx_i 1)) n h := fun z => by
    have := hQ h
    rw [tok_n0 hs hq z] at this
    have := this h1 h4 (fun _ _ _ => rfl)
    rw [show nI ((q, 1) : Nat × Nat).2 = 1 from nI_e1] at this
    exact this
  refine ⟨fun z => bad (Or.inl z), fun z => ⟨fun y => ?_, fun y => bad (Or.inr (by omega))⟩⟩
  have hr2 : 1 ≤ p_rn T (tp - q) q ∧ p_rn T (tp - q) q ≤ 2 := by omega
  obtain ⟨v, hv⟩ : ∃ v, v = p_vl T q (p_rn T (tp - q) q) := ⟨_, rfl⟩
  rw [tX6_readNumber_69, ← hv]
  simp (disch := omega) only [e_const, e_lconst, e_il, e_ll, e_al, z_is, z_as, z_ls, z_inc, e_bin, e_div, e_un, e_lbin, e_ldiv, e_lcmp, e_i2l, e_l2i, e_if1, e_if2, z_go, e_sw, e_dupi, e_dupr, e_dup2, e_popi, e_popr, e_get, e_put, e_iald, e_iast, e_zald, e_zast, e_aald, e_aast, e_sld, e_slen, e_newa, e_newq, e_mna, e_new, e_oi, e_cs, e_cv, e_ci, e_min, e_max, e_copy, e_rv, e_ri, e_rz, e_rl, z_run, sx_en, sx_cat, sx_tk, sx_ps, sx_set, sx_setl, sx_dl, sx_m, sx_sw, sx_ft, List.map_cons, List.map_nil, List.getElem?_cons_zero, List.getElem?_cons_succ, List.replicate_succ, List.replicate_zero, List.set_cons_zero, List.set_cons_succ, List.length_cons, List.length_nil, Nat.reduceAdd, Nat.reduceSub, Nat.reduceLeDiff, Nat.reduceLT, Nat.reduceMul, Nat.zero_le, Nat.le_refl, Nat.add_zero, Nat.zero_add, true_and, and_true, true_or, bX6_readNumber_69, tX6_readNumber_85, bX6_readNumber_85, h1, a1, s_lstT (n := n) (by omega) h1 hs7 (show pt < 1000 by omega), s_mstT (n := n) (by omega) h1 hs7 (show pt < 1000 by omega), q_le v, q_ltn v, q_up_s, q_up_n, q_up_up, q_upd_s, q_upd_n, q_upd_upd, q_in, q_in0, q_in1, q_cl, q_cl0, q_cl1, q_add, q_add1, q_1add, q_add0, q_0add, q_mul, q_ite0, q_ite01, q_10, or_true, not_false_eq_true, not_true_eq_false, q_n0, ne_eq, false_implies, true_implies, true_and, and_true, not_true_eq_false, not_false_eq_true, Bool.false_eq_true, sx_o, Sum.inr.injEq, Prod.mk.injEq, exists_eq', Nat.reduceLT]
  have bad2 : ¬ o_rng (p_lo s pt) (p_hi s pt) v = true → Q (some (sx_i (nI 2))) n h := fun z => by
    have := hQ h
    rw [tok_n2 hs hq hr2 (by rw [← hv]; exact z)] at this
    exact this h1 h4 (fun _ _ _ => rfl)
  refine ⟨fun x => bad2 (fun w => x ((rng_iff _ _ _).mp w).1), fun x => ⟨fun x2 => ?_, fun x2 => bad2 (fun w => x2 ((rng_iff _ _ _).mp w).2)⟩⟩
  have ok : o_rng (p_lo s pt) (p_hi s pt) v = true := (rng_iff _ _ _).mpr ⟨Classical.not_not.mp x, x2⟩
  rw [tX6_readNumber_87]
  simp (disch := omega) only [e_const, e_lconst, e_il, e_ll, e_al, z_is, z_as, z_ls, z_inc, e_bin, e_div, e_un, e_lbin, e_ldiv, e_lcmp, e_i2l, e_l2i, e_if1, e_if2, z_go, e_sw, e_dupi, e_dupr, e_dup2, e_popi, e_popr, e_get, e_put, e_iald, e_iast, e_zald, e_zast, e_aald, e_aast, e_sld, e_slen, e_newa, e_newq, e_mna, e_new, e_oi, e_cs, e_cv, e_ci, e_min, e_max, e_copy, e_rv, e_ri, e_rz, e_rl, z_run, sx_en, sx_cat, sx_tk, sx_ps, sx_set, sx_setl, sx_dl, sx_m, sx_sw, sx_ft, List.map_cons, List.map_nil, List.getElem?_cons_zero, List.getElem?_cons_succ, List.replicate_succ, List.replicate_zero, List.set_cons_zero, List.set_cons_succ, List.length_cons, List.length_nil, Nat.reduceAdd, Nat.reduceSub, Nat.reduceLeDiff, Nat.reduceLT, Nat.reduceMul, Nat.zero_le, Nat.le_refl, Nat.add_zero, Nat.zero_add, true_and, and_true, true_or, bX6_readNumber_87, h1, h3, h4, a1, a2, hn, hx, s_plcT (n := n) (by omega) h1 hs7 (show pt < 1000 by omega), q_up_s, q_up_n, q_up_up, q_upd_s, q_upd_n, q_upd_upd, q_in, q_in0, q_in1, q_cl, q_cl0, q_cl1, q_add, q_add1, q_1add, q_add0, q_0add, q_mul, q_ite0, q_ite01, q_10, or_true, not_false_eq_true, not_true_eq_false, q_n0, ne_eq, false_implies, true_implies, true_and, and_true, not_true_eq_false, not_false_eq_true, Bool.false_eq_true, sx_o, Sum.inr.injEq, Prod.mk.injEq, exists_eq', Nat.reduceLT]
  rw [tok_n1 hs hq hr2 (by rw [← hv]; exact ok), ← hv] at hQ
  have := hQ (sx_up (sx_up h 18 (sx_ai 62 (upd row (p_pl s pt) v))) 13 (g_t tp (q + p_rn T (tp - q) q) s pt)) (q_up_s _ _ _) (by simp (disch := omega) only [q_up_s, q_up_n]) (fun j j1 j2 => by simp (disch := omega) only [q_up_s, q_up_n])
  rw [show nI ((q + p_rn T (tp - q) q, 0) : Nat × Nat).2 = 0 from nI_0] at this
  exact this
end TD
