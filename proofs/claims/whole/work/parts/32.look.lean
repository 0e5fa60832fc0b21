/-! looking ahead -/
def p_wks (f : Nat → Int32) : Nat → Nat → Int32
  | 0 => f
  | n + 1 => (p_wk (p_wks f n)).1
set_option maxRecDepth 100000 in
set_option maxHeartbeats 4000000 in
theorem wk_58 {W : Nat} {f : Nat → Int32} (h : WB W f) (hW : W ≤ 3000) : (p_wk f).1 58 = f 58 := by
  obtain ⟨c, w, hw, hc, he⟩ := WB_iff.mp h
  obtain ⟨a, e61, b, d, y, z, hy, hz, e55, e54⟩ := w3_all hc he (by omega)
  have e1 := b 58 (by omega) (by omega)
  rw [← e1]
  show p_w4 (p_w3 _) 58 = _
  have e3 : ∀ g : Nat → Int32, p_w3 g 58 = g 58 := fun g => by
    rw [p_w3]; split
    · rw [q_upd_n (by omega), q_upd_n (by omega)]
    · rfl
  have e4 : ∀ g : Nat → Int32, p_w4 g 58 = g 58 := fun g => by
    rw [p_w4]; split
    · rfl
    · rw [q_upd_n (by omega)]
  rw [e4, e3]
set_option maxRecDepth 100000 in
set_option maxHeartbeats 4000000 in
theorem wks_all {W : Nat} {f : Nat → Int32} (h : WB W f) : ∀ n, W + n ≤ 3001 → WB (W + n) (p_wks f n) ∧ p_wks f n 58 = f 58 := by
  intro n
  induction n with
  | zero => exact fun _ => ⟨h, rfl⟩
  | succ n ih =>
    intro hn
    obtain ⟨a, b⟩ := ih (by omega)
    exact ⟨WB_wk (W := W + n) a (by omega), (wk_58 (W := W + n) a (by omega)).trans b⟩
section LK
variable {n : Nat} {h : sx_H} {Q : sx_Q} {f g : Nat → Int32}
set_option maxRecDepth 100000 in
set_option maxHeartbeats 4000000 in
theorem s_pass_lp (hn : 45 < n) (m : Nat) (hm : m ≤ 100) (Rt : sx_R) : ∀ (k i : Nat) (h : sx_H), i + k = m → h 45 = sx_o 3 [sx_r (some 15), sx_r (some 17)] → h 17 = sx_o 2 [sx_r (some 18)] → h 18 = sx_ai 62 (p_wks g i) → Rt none n (sx_up h 18 (sx_ai 62 (p_wks g m))) 0 0 → sx_T BX4_pass sx_Cal Rt 2 [some (sx_r (some 45)), some (sx_i (nI m)), some (sx_i (nI i))] [] n h 0 0 := by
  have hn2 : 17 < n := by omega
  have hn3 : 18 < n := by omega
  intro k
  induction k with
  | zero =>
    intro i h hi h1 h2 h3 hR
    have : i = m := by omega
    subst this
    rw [q_up_id h3] at hR
    rw [tX4_pass_2]
    simp (disch := omega) only [e_const, e_lconst, e_il, e_ll, e_al, e_is, e_as, e_ls, e_inc, e_bin, e_div, e_un, e_lbin, e_ldiv, e_lcmp, e_i2l, e_l2i, e_if1, e_if2, e_go, e_sw, e_dupi, e_dupr, e_dup2, e_popi, e_popr, e_get, e_put, e_iald, e_iast, e_zald, e_zast, e_aald, e_aast, e_sld, e_slen, e_newa, e_newq, e_mna, e_new, e_oi, e_cs, e_cv, e_ci, e_min, e_max, e_copy, e_rv, e_ri, e_rz, e_rl, e_run, sx_en, sx_cat, sx_tk, sx_ps, sx_set, sx_setl, sx_dl, sx_m, sx_sw, sx_ft, List.map_cons, List.map_nil, List.getElem?_cons_zero, List.getElem?_cons_succ, List.replicate_succ, List.replicate_zero, List.set_cons_zero, List.set_cons_succ, List.length_cons, List.length_nil, Nat.reduceAdd, Nat.reduceSub, Nat.reduceLeDiff, Nat.reduceLT, Nat.reduceMul, Nat.zero_le, Nat.le_refl, Nat.add_zero, Nat.zero_add, true_and, and_true, true_or, bX4_pass_2, tX4_pass_21, bX4_pass_21, q_up_s, q_up_n, q_up_up, q_upd_s, q_upd_n, q_upd_upd, q_in, q_in0, q_in1, q_cl, q_cl0, q_cl1, q_add, q_add1, q_1add, q_add0, q_0add, q_mul, q_ite0, q_ite01, q_10, or_true, not_false_eq_true, not_true_eq_false, q_n0, ne_eq, false_implies, true_implies, true_and, and_true, not_true_eq_false, not_false_eq_true, Bool.false_eq_true, q_le, q_ti, Int.le_refl]
    exact hR
  | succ k ih =>
    intro i h hi h1 h2 h3 hR
    have := ih (i + 1) (sx_up h 18 (sx_ai 62 (p_wks g (i + 1)))) (by omega) ((q_up_n (by omega)).trans h1) ((q_up_n (by omega)).trans h2) (q_up_s _ _ _) (by rw [q_up_up]; exact hR)
    have hle : ((m : Int) ≤ (i : Int)) = False := eq_false (by omega)
    rw [tX4_pass_2]
    simp (disch := omega) only [e_const, e_lconst, e_il, e_ll, e_al, e_is, e_as, e_ls, e_inc, e_bin, e_div, e_un, e_lbin, e_ldiv, e_lcmp, e_i2l, e_l2i, e_if1, e_if2, e_go, e_sw, e_dupi, e_dupr, e_dup2, e_popi, e_popr, e_get, e_put, e_iald, e_iast, e_zald, e_zast, e_aald, e_aast, e_sld, e_slen, e_newa, e_newq, e_mna, e_new, e_oi, e_cs, e_cv, e_ci, e_min, e_max, e_copy, e_rv, e_ri, e_rz, e_rl, e_run, sx_en, sx_cat, sx_tk, sx_ps, sx_set, sx_setl, sx_dl, sx_m, sx_sw, sx_ft, List.map_cons, List.map_nil, List.getElem?_cons_zero, List.getElem?_cons_succ, List.replicate_succ, List.replicate_zero, List.set_cons_zero, List.set_cons_succ, List.length_cons, List.length_nil, Nat.reduceAdd, Nat.reduceSub, Nat.reduceLeDiff, Nat.reduceLT, Nat.reduceMul, Nat.zero_le, Nat.le_refl, Nat.add_zero, Nat.zero_add, true_and, and_true, true_or, bX4_pass_2, h1, h2, hn, hn2, hn3, hle, q_up_s, q_up_n, q_up_up, q_upd_s, q_upd_n, q_upd_upd, q_in, q_in0, q_in1, q_cl, q_cl0, q_cl1, q_add, q_add1, q_1add, q_add0, q_0add, q_mul, q_ite0, q_ite01, q_10, or_true, not_false_eq_true, not_true_eq_false, q_n0, ne_eq, false_implies, true_implies, true_and, and_true, not_true_eq_false, not_false_eq_true, Bool.false_eq_true, sx_o, Sum.inr.injEq, Prod.mk.injEq, exists_eq', Nat.reduceLT, q_le, q_ti]
    refine s_passWeek h2 h3 (by decide) hn2 hn3 ?_
    simp (disch := omega) only [e_const, e_lconst, e_il, e_ll, e_al, e_is, e_as, e_ls, e_inc, e_bin, e_div, e_un, e_lbin, e_ldiv, e_lcmp, e_i2l, e_l2i, e_if1, e_if2, e_go, e_sw, e_dupi, e_dupr, e_dup2, e_popi, e_popr, e_get, e_put, e_iald, e_iast, e_zald, e_zast, e_aald, e_aast, e_sld, e_slen, e_newa, e_newq, e_mna, e_new, e_oi, e_cs, e_cv, e_ci, e_min, e_max, e_copy, e_rv, e_ri, e_rz, e_rl, e_run, sx_en, sx_cat, sx_tk, sx_ps, sx_set, sx_setl, sx_dl, sx_m, sx_sw, sx_ft, List.map_cons, List.map_nil, List.getElem?_cons_zero, List.getElem?_cons_succ, List.replicate_succ, List.replicate_zero, List.set_cons_zero, List.set_cons_succ, List.length_cons, List.length_nil, Nat.reduceAdd, Nat.reduceSub, Nat.reduceLeDiff, Nat.reduceLT, Nat.reduceMul, Nat.zero_le, Nat.le_refl, Nat.add_zero, Nat.zero_add, true_and, and_true, true_or, hn, q_up_s, q_up_n, q_up_up, q_upd_s, q_upd_n, q_upd_upd, q_in, q_in0, q_in1, q_cl, q_cl0, q_cl1, q_add, q_add1, q_1add, q_add0, q_0add, q_mul, q_ite0, q_ite01, q_10, or_true, not_false_eq_true, not_true_eq_false, q_n0, ne_eq, false_implies, true_implies, true_and, and_true, not_true_eq_false, not_false_eq_true, Bool.false_eq_true]
    exact this
set_option maxRecDepth 100000 in
set_option maxHeartbeats 4000000 in
theorem s_pass (hn : 45 < n) {m : Nat} (hm : m ≤ 100) (h1 : h 45 = sx_o 3 [sx_r (some 15), sx_r (some 17)]) (h2 : h 17 = sx_o 2 [sx_r (some 18)]) (h3 : h 18 = sx_ai 62 g) (hQ : Q none n (sx_up h 18 (sx_ai 62 (p_wks g m)))) : sx_Cal 48 [sx_r (some 45), sx_i (nI m)] n h Q := by
  simp (disch := omega) only [e_const, e_lconst, e_il, e_ll, e_al, e_is, e_as, e_ls, e_inc, e_bin, e_div, e_un, e_lbin, e_ldiv, e_lcmp, e_i2l, e_l2i, e_if1, e_if2, e_go, e_sw, e_dupi, e_dupr, e_dup2, e_popi, e_popr, e_get, e_put, e_iald, e_iast, e_zald, e_zast, e_aald, e_aast, e_sld, e_slen, e_newa, e_newq, e_mna, e_new, e_oi, e_cs, e_cv, e_ci, e_min, e_max, e_copy, e_rv, e_ri, e_rz, e_rl, e_run, sx_en, sx_cat, sx_tk, sx_ps, sx_set, sx_setl, sx_dl, sx_m, sx_sw, sx_ft, List.map_cons, List.map_nil, List.getElem?_cons_zero, List.getElem?_cons_succ, List.replicate_succ, List.replicate_zero, List.set_cons_zero, List.set_cons_succ, List.length_cons, List.length_nil, Nat.reduceAdd, Nat.reduceSub, Nat.reduceLeDiff, Nat.reduceLT, Nat.reduceMul, Nat.zero_le, Nat.le_refl, Nat.add_zero, Nat.zero_add, true_and, and_true, true_or, cX4_pass_c, tX4_pass_0, bX4_pass_0, q_up_s, q_up_n, q_up_up, q_upd_s, q_upd_n, q_upd_upd, q_in, q_in0, q_in1, q_cl, q_cl0, q_cl1, q_add, q_add1, q_1add, q_add0, q_0add, q_mul, q_ite0, q_ite01, q_10, or_true, not_false_eq_true, not_true_eq_false, q_n0, ne_eq]
  have := s_pass_lp (g := g) hn m hm (fun r n' h' kc ks => Q r n' h' ∧ kc ≤ 0 ∧ ks ≤ 0) m 0 h (by omega) h1 h2 h3 ⟨hQ, Nat.le_refl _, Nat.le_refl _⟩
  rw [nI_0] at this
  exact this
set_option maxRecDepth 100000 in
set_option maxHeartbeats 4000000 in
theorem s_lookB (hn : 45 < n) {m : Nat} (hm : m ≤ 100) (h1 : h 45 = sx_o 3 [sx_r (some 15), sx_r (some 17)]) (h2 : h 17 = sx_o 2 [sx_r (some 18)]) (h3 : h 18 = sx_ai 62 g) (h4 : h 15 = sx_o 2 [sx_r (some 16)]) (h5 : h 16 = sx_ai 62 f) (hf : ∀ j, 62 ≤ j → f j = 0) (hg : ∀ j, 62 ≤ j → g j = 0) (hQ : Q none n (sx_up h 18 (sx_ai 62 (p_wks f m)))) : sx_Cal 47 [sx_r (some 45), sx_i (nI m)] n h Q := by
  have hn2 : 17 < n := by omega
  have hn3 : 18 < n := by omega
  have hn4 : 15 < n := by omega
  have hn5 : 16 < n := by omega
  simp (disch := omega) only [e_const, e_lconst, e_il, e_ll, e_al, e_is, e_as, e_ls, e_inc, e_bin, e_div, e_un, e_lbin, e_ldiv, e_lcmp, e_i2l, e_l2i, e_if1, e_if2, e_go, e_sw, e_dupi, e_dupr, e_dup2, e_popi, e_popr, e_get, e_put, e_iald, e_iast, e_zald, e_zast, e_aald, e_aast, e_sld, e_slen, e_newa, e_newq, e_mna, e_new, e_oi, e_cs, e_cv, e_ci, e_min, e_max, e_copy, e_rv, e_ri, e_rz, e_rl, e_run, sx_en, sx_cat, sx_tk, sx_ps, sx_set, sx_setl, sx_dl, sx_m, sx_sw, sx_ft, List.map_cons, List.map_nil, List.getElem?_cons_zero, List.getElem?_cons_succ, List.replicate_succ, List.replicate_zero, List.set_cons_zero, List.set_cons_succ, List.length_cons, List.length_nil, Nat.reduceAdd, Nat.reduceSub, Nat.reduceLeDiff, Nat.reduceLT, Nat.reduceMul, Nat.zero_le, Nat.le_refl, Nat.add_zero, Nat.zero_add, true_and, and_true, true_or, cX4_look_c, tX4_look_0, bX4_look_0, h1, hn, hn2, h2, q_up_s, q_up_n, q_up_up, q_upd_s, q_upd_n, q_upd_upd, q_in, q_in0, q_in1, q_cl, q_cl0, q_cl1, q_add, q_add1, q_1add, q_add0, q_0add, q_mul, q_ite0, q_ite01, q_10, or_true, not_false_eq_true, not_true_eq_false, q_n0, ne_eq, false_implies, true_implies, true_and, and_true, not_true_eq_false, not_false_eq_true, Bool.false_eq_true, sx_o, Sum.inr.injEq, Prod.mk.injEq, exists_eq', Nat.reduceLT]
  refine s_becomes h2 h3 h4 h5 hg hf hn2 hn3 hn4 hn5 ?_
  have c1 : sx_up h 18 (sx_ai 62 f) 45 = sx_o 3 [sx_r (some 15), sx_r (some 17)] := (q_up_n (by decide)).trans h1
  simp (disch := omega) only [e_const, e_lconst, e_il, e_ll, e_al, e_is, e_as, e_ls, e_inc, e_bin, e_div, e_un, e_lbin, e_ldiv, e_lcmp, e_i2l, e_l2i, e_if1, e_if2, e_go, e_sw, e_dupi, e_dupr, e_dup2, e_popi, e_popr, e_get, e_put, e_iald, e_iast, e_zald, e_zast, e_aald, e_aast, e_sld, e_slen, e_newa, e_newq, e_mna, e_new, e_oi, e_cs, e_cv, e_ci, e_min, e_max, e_copy, e_rv, e_ri, e_rz, e_rl, e_run, sx_en, sx_cat, sx_tk, sx_ps, sx_set, sx_setl, sx_dl, sx_m, sx_sw, sx_ft, List.map_cons, List.map_nil, List.getElem?_cons_zero, List.getElem?_cons_succ, List.replicate_succ, List.replicate_zero, List.set_cons_zero, List.set_cons_succ, List.length_cons, List.length_nil, Nat.reduceAdd, Nat.reduceSub, Nat.reduceLeDiff, Nat.reduceLT, Nat.reduceMul, Nat.zero_le, Nat.le_refl, Nat.add_zero, Nat.zero_add, true_and, and_true, true_or, c1, hn, q_up_s, q_up_n, q_up_up, q_upd_s, q_upd_n, q_upd_upd, q_in, q_in0, q_in1, q_cl, q_cl0, q_cl1, q_add, q_add1, q_1add, q_add0, q_0add, q_mul, q_ite0, q_ite01, q_10, or_true, not_false_eq_true, not_true_eq_false, q_n0, ne_eq, false_implies, true_implies, true_and, and_true, not_true_eq_false, not_false_eq_true, Bool.false_eq_true, sx_o, Sum.inr.injEq, Prod.mk.injEq, exists_eq', Nat.reduceLT]
  refine s_pass hn hm c1 ((q_up_n (by decide)).trans h2) (q_up_s _ _ _) ?_
  simp (disch := omega) only [e_const, e_lconst, e_il, e_ll, e_al, e_is, e_as, e_ls, e_inc, e_bin, e_div, e_un, e_lbin, e_ldiv, e_lcmp, e_i2l, e_l2i, e_if1, e_if2, e_go, e_sw, e_dupi, e_dupr, e_dup2, e_popi, e_popr, e_get, e_put, e_iald, e_iast, e_zald, e_zast, e_aald, e_aast, e_sld, e_slen, e_newa, e_newq, e_mna, e_new, e_oi, e_cs, e_cv, e_ci, e_min, e_max, e_copy, e_rv, e_ri, e_rz, e_rl, e_run, sx_en, sx_cat, sx_tk, sx_ps, sx_set, sx_setl, sx_dl, sx_m, sx_sw, sx_ft, List.map_cons, List.map_nil, List.getElem?_cons_zero, List.getElem?_cons_succ, List.replicate_succ, List.replicate_zero, List.set_cons_zero, List.set_cons_succ, List.length_cons, List.length_nil, Nat.reduceAdd, Nat.reduceSub, Nat.reduceLeDiff, Nat.reduceLT, Nat.reduceMul, Nat.zero_le, Nat.le_refl, Nat.add_zero, Nat.zero_add, true_and, and_true, true_or, q_up_s, q_up_n, q_up_up, q_upd_s, q_upd_n, q_upd_upd, q_in, q_in0, q_in1, q_cl, q_cl0, q_cl1, q_add, q_add1, q_1add, q_add0, q_0add, q_mul, q_ite0, q_ite01, q_10, or_true, not_false_eq_true, not_true_eq_false, q_n0, ne_eq, false_implies, true_implies, true_and, and_true, not_true_eq_false, not_false_eq_true, Bool.false_eq_true]
  exact hQ
set_option maxRecDepth 100000 in
set_option maxHeartbeats 4000000 in
theorem s_weeksOf_lp {a W : Nat} (han : a < n) (hB : WB W f) (m : Nat) (hm : m ≤ 100) (hW : W + m ≤ 3000) (h58 : ¬ f 58 = 0) (Rt : sx_R) : ∀ (k i : Nat) (h : sx_H) (c : Int32), i + k = m → h a = sx_ai 64 (toM (p_wks f i) c) → (∀ c', Rt none n (sx_up h a (sx_ai 64 (toM (p_wks f m) c'))) 0 0) → sx_T BX8_weeksOf sx_Cal Rt 2 [some (sx_r (some a)), some (sx_i (nI m)), some (sx_i (nI i))] [] n h 0 0 := by
  intro k
  induction k with
  | zero =>
    intro i h c hi h3 hR
    have : i = m := by omega
    subst this
    have hR := hR c
    rw [q_up_id h3] at hR
    rw [tX8_weeksOf_2]
    simp (disch := omega) only [e_const, e_lconst, e_il, e_ll, e_al, e_is, e_as, e_ls, e_inc, e_bin, e_div, e_un, e_lbin, e_ldiv, e_lcmp, e_i2l, e_l2i, e_if1, e_if2, e_go, e_sw, e_dupi, e_dupr, e_dup2, e_popi, e_popr, e_get, e_put, e_iald, e_iast, e_zald, e_zast, e_aald, e_aast, e_sld, e_slen, e_newa, e_newq, e_mna, e_new, e_oi, e_cs, e_cv, e_ci, e_min, e_max, e_copy, e_rv, e_ri, e_rz, e_rl, e_run, sx_en, sx_cat, sx_tk, sx_ps, sx_set, sx_setl, sx_dl, sx_m, sx_sw, sx_ft, List.map_cons, List.map_nil, List.getElem?_cons_zero, List.getElem?_cons_succ, List.replicate_succ, List.replicate_zero, List.set_cons_zero, List.set_cons_succ, List.length_cons, List.length_nil, Nat.reduceAdd, Nat.reduceSub, Nat.reduceLeDiff, Nat.reduceLT, Nat.reduceMul, Nat.zero_le, Nat.le_refl, Nat.add_zero, Nat.zero_add, true_and, and_true, true_or, bX8_weeksOf_2, tX8_weeksOf_17, bX8_weeksOf_17, q_up_s, q_up_n, q_up_up, q_upd_s, q_upd_n, q_upd_upd, q_in, q_in0, q_in1, q_cl, q_cl0, q_cl1, q_add, q_add1, q_1add, q_add0, q_0add, q_mul, q_ite0, q_ite01, q_10, or_true, not_false_eq_true, not_true_eq_false, q_n0, ne_eq, false_implies, true_implies, true_and, and_true, not_true_eq_false, not_false_eq_true, Bool.false_eq_true, q_le, q_ti, Int.le_refl]
    exact hR
  | succ k ih =>
    intro i h c hi h3 hR
    obtain ⟨b1, b2⟩ := wks_all hB i (by omega)
    have := ih (i + 1) (sx_up h a (sx_ai 64 (toM (p_wks f (i + 1)) (p_wk (p_wks f i)).2))) (p_wk (p_wks f i)).2 (by omega) (q_up_s _ _ _) (fun c' => by rw [q_up_up]; exact hR c')
    have hle : ((m : Int) ≤ (i : Int)) = False := eq_false (by omega)
    rw [tX8_weeksOf_2]
    simp (disch := omega) only [e_const, e_lconst, e_il, e_ll, e_al, e_is, e_as, e_ls, e_inc, e_bin, e_div, e_un, e_lbin, e_ldiv, e_lcmp, e_i2l, e_l2i, e_if1, e_if2, e_go, e_sw, e_dupi, e_dupr, e_dup2, e_popi, e_popr, e_get, e_put, e_iald, e_iast, e_zald, e_zast, e_aald, e_aast, e_sld, e_slen, e_newa, e_newq, e_mna, e_new, e_oi, e_cs, e_cv, e_ci, e_min, e_max, e_copy, e_rv, e_ri, e_rz, e_rl, e_run, sx_en, sx_cat, sx_tk, sx_ps, sx_set, sx_setl, sx_dl, sx_m, sx_sw, sx_ft, List.map_cons, List.map_nil, List.getElem?_cons_zero, List.getElem?_cons_succ, List.replicate_succ, List.replicate_zero, List.set_cons_zero, List.set_cons_succ, List.length_cons, List.length_nil, Nat.reduceAdd, Nat.reduceSub, Nat.reduceLeDiff, Nat.reduceLT, Nat.reduceMul, Nat.zero_le, Nat.le_refl, Nat.add_zero, Nat.zero_add, true_and, and_true, true_or, bX8_weeksOf_2, hle, q_up_s, q_up_n, q_up_up, q_upd_s, q_upd_n, q_upd_upd, q_in, q_in0, q_in1, q_cl, q_cl0, q_cl1, q_add, q_add1, q_1add, q_add0, q_0add, q_mul, q_ite0, q_ite01, q_10, or_true, not_false_eq_true, not_true_eq_false, q_n0, ne_eq, false_implies, true_implies, true_and, and_true, not_true_eq_false, not_false_eq_true, Bool.false_eq_true, q_le, q_ti]
    refine s_weekM b1 (by omega) (by rw [b2]; exact h58) h3 han ?_
    simp (disch := omega) only [e_const, e_lconst, e_il, e_ll, e_al, e_is, e_as, e_ls, e_inc, e_bin, e_div, e_un, e_lbin, e_ldiv, e_lcmp, e_i2l, e_l2i, e_if1, e_if2, e_go, e_sw, e_dupi, e_dupr, e_dup2, e_popi, e_popr, e_get, e_put, e_iald, e_iast, e_zald, e_zast, e_aald, e_aast, e_sld, e_slen, e_newa, e_newq, e_mna, e_new, e_oi, e_cs, e_cv, e_ci, e_min, e_max, e_copy, e_rv, e_ri, e_rz, e_rl, e_run, sx_en, sx_cat, sx_tk, sx_ps, sx_set, sx_setl, sx_dl, sx_m, sx_sw, sx_ft, List.map_cons, List.map_nil, List.getElem?_cons_zero, List.getElem?_cons_succ, List.replicate_succ, List.replicate_zero, List.set_cons_zero, List.set_cons_succ, List.length_cons, List.length_nil, Nat.reduceAdd, Nat.reduceSub, Nat.reduceLeDiff, Nat.reduceLT, Nat.reduceMul, Nat.zero_le, Nat.le_refl, Nat.add_zero, Nat.zero_add, true_and, and_true, true_or, q_up_s, q_up_n, q_up_up, q_upd_s, q_upd_n, q_upd_upd, q_in, q_in0, q_in1, q_cl, q_cl0, q_cl1, q_add, q_add1, q_1add, q_add0, q_0add, q_mul, q_ite0, q_ite01, q_10, or_true, not_false_eq_true, not_true_eq_false, q_n0, ne_eq, false_implies, true_implies, true_and, and_true, not_true_eq_false, not_false_eq_true, Bool.false_eq_true]
    exact this
set_option maxRecDepth 100000 in
set_option maxHeartbeats 4000000 in
theorem s_weeksOf {a W m : Nat} {c : Int32} (han : a < n) (hB : WB W f) (hm : m ≤ 100) (hW : W + m ≤ 3000) (h58 : ¬ f 58 = 0) (h3 : h a = sx_ai 64 (toM f c)) (hQ : ∀ c', Q none n (sx_up h a (sx_ai 64 (toM (p_wks f m) c')))) : sx_Cal 154 [sx_r (some a), sx_i (nI m)] n h Q := by
  simp (disch := omega) only [e_const, e_lconst, e_il, e_ll, e_al, e_is, e_as, e_ls, e_inc, e_bin, e_div, e_un, e_lbin, e_ldiv, e_lcmp, e_i2l, e_l2i, e_if1, e_if2, e_go, e_sw, e_dupi, e_dupr, e_dup2, e_popi, e_popr, e_get, e_put, e_iald, e_iast, e_zald, e_zast, e_aald, e_aast, e_sld, e_slen, e_newa, e_newq, e_mna, e_new, e_oi, e_cs, e_cv, e_ci, e_min, e_max, e_copy, e_rv, e_ri, e_rz, e_rl, e_run, sx_en, sx_cat, sx_tk, sx_ps, sx_set, sx_setl, sx_dl, sx_m, sx_sw, sx_ft, List.map_cons, List.map_nil, List.getElem?_cons_zero, List.getElem?_cons_succ, List.replicate_succ, List.replicate_zero, List.set_cons_zero, List.set_cons_succ, List.length_cons, List.length_nil, Nat.reduceAdd, Nat.reduceSub, Nat.reduceLeDiff, Nat.reduceLT, Nat.reduceMul, Nat.zero_le, Nat.le_refl, Nat.add_zero, Nat.zero_add, true_and, and_true, true_or, cX8_weeksOf_c, tX8_weeksOf_0, bX8_weeksOf_0, q_up_s, q_up_n, q_up_up, q_upd_s, q_upd_n, q_upd_upd, q_in, q_in0, q_in1, q_cl, q_cl0, q_cl1, q_add, q_add1, q_1add, q_add0, q_0add, q_mul, q_ite0, q_ite01, q_10, or_true, not_false_eq_true, not_true_eq_false, q_n0, ne_eq]
  have := s_weeksOf_lp han hB m hm hW h58 (fun r n' h' kc ks => Q r n' h' ∧ kc ≤ 0 ∧ ks ≤ 0) m 0 h c (by omega) h3 (fun c' => ⟨hQ c', Nat.le_refl _, Nat.le_refl _⟩)
  rw [nI_0] at this
  exact this
end LK
set_option maxRecDepth 100000 in
set_option maxHeartbeats 4000000 in
theorem IC_ah {lf st : Int32} {rs rl it : Nat → Int32} {tp : Nat} {tape f : Nat → Int32} {k : Nat} {acts : Nat → Nat → Int32} {t : Nat} {trc g0 g1 : Nat → Int32} {h h' : sx_H} (H : IC lf st rs rl it tp tape f k acts t trc g0 g1 h) (e : ∀ j, j ≠ 18 → j ≠ 53 → j ≠ 58 → j ≠ 59 → h' j = h j) (h18 : ∃ g, h' 18 = sx_ai 62 g ∧ ∀ j, 62 ≤ j → g j = 0) (h58 : ∃ g, h' 58 = sx_ai 64 g ∧ ∀ j, 64 ≤ j → g j = 0) (h59 : ∃ g, h' 59 = sx_ai 64 g ∧ ∀ j, 64 ≤ j → g j = 0) (hm : MO st k tp lf t h') : IC lf st rs rl it tp tape f k acts t trc g0 g1 h' := by
  obtain ⟨h0, hXR, hXT, hXB, hXA, hXK, hXI, hMO, hMR, hMB, hMA, hMT, hMI, hMK, hWR, htp, hWB, hk, hWA, hz⟩ := id H
  obtain ⟨b1, b2, b3, -, b5⟩ := hXB
  obtain ⟨⟨c, m1⟩, -, -⟩ := hMB
  exact IC_bk H (fun j q1 q2 => e j (by omega) q2 (by omega) (by omega)) ⟨(e 15 (by omega) (by omega) (by omega) (by omega)).trans b1, (e 16 (by omega) (by omega) (by omega) (by omega)).trans b2, (e 17 (by omega) (by omega) (by omega) (by omega)).trans b3, h18, (e 45 (by omega) (by omega) (by omega) (by omega)).trans b5⟩ (XA_ag hXA fun j _ _ => e j (by omega) (by omega) (by omega) (by omega)) hm ⟨⟨c, (e 57 (by omega) (by omega) (by omega) (by omega)).trans m1⟩, h58, h59⟩ (MA_ag hMA (e 60 (by omega) (by omega) (by omega) (by omega))) hWB hk hWA
