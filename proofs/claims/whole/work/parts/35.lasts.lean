/-! how long it lasts, how dear it must be -/
set_option maxRecDepth 100000 in
set_option maxHeartbeats 4000000 in
theorem IV_ah {lf st : Int32} {rs rl it : Nat → Int32} {tp : Nat} {tape f : Nat → Int32} {k : Nat} {acts : Nat → Nat → Int32} {t : Nat} {trc g0 g1 : Nat → Int32} {h : sx_H} (H : IC lf st rs rl it tp tape f k acts t trc g0 g1 h) {g g' : Nat → Int32} (hg : ∀ j, 62 ≤ j → g j = 0) (hg' : ∀ j, 64 ≤ j → g' j = 0) (th cu sa tk va fa fp : Int32) : IV (sx_up (sx_up (sx_up h 18 (sx_ai 62 g)) 53 (g_m th st (nI k) (nI tp) cu sa tk va fa fp lf (nI t))) 59 (sx_ai 64 g')) := by
  obtain ⟨-, -, -, -, -, -, -, -, -, ⟨-, ⟨u, hu1, hu2⟩, -⟩, -⟩ := id H
  exact IV_of (IC_ah H (fun j q1 q2 q3 q4 => by rw [q_up_n q4, q_up_n q2, q_up_n q1]) ⟨g, by simp (disch := omega) only [q_up_n, q_up_s], hg⟩ ⟨u, by simp (disch := omega) only [q_up_n]; exact hu1, hu2⟩ ⟨g', q_up_s _ _ _, hg'⟩ ⟨th, cu, sa, tk, va, fa, fp, by simp (disch := omega) only [q_up_n, q_up_s]⟩)
def p_last (f : Nat → Int32) (p : Nat) (s : Int32) (m : Nat) : Bool := decide (p_wks (upd f p s) m 57 = 0)
def p_std (f : Nat → Int32) (m : Nat) : Nat → Int32
  | 0 => -1000000
  | r + 1 => if p_last f 56 (nI r) m then nI r else p_std f m r
def p_dea (f : Nat → Int32) (m : Nat) : Nat → Nat → Int32
  | 0, _ => -1000000
  | k + 1, i => if p_last f 59 (nI i) m then nI i else p_dea f m k (i + 1)
set_option maxRecDepth 100000 in
set_option maxHeartbeats 4000000 in
theorem q_addm1 (x : Int32) : x + (-1) = x - 1 := by
  apply Int32.toBitVec_inj.mp
  rw [Int32.toBitVec_add, Int32.toBitVec_sub, Int32.toBitVec_neg, BitVec.sub_eq_add_neg]
section LA
variable {n : Nat} {f : Nat → Int32}
set_option maxRecDepth 100000 in
set_option maxHeartbeats 4000000 in
theorem s_lasts {h : sx_H} {Q : sx_Q} {g : Nat → Int32} (hn : 45 < n) {p m : Nat} (hp : p < 62) (hm : m ≤ 100) (v : Int32) (h1 : h 45 = sx_o 3 [sx_r (some 15), sx_r (some 17)]) (h2 : h 17 = sx_o 2 [sx_r (some 18)]) (h3 : h 18 = sx_ai 62 g) (h4 : h 15 = sx_o 2 [sx_r (some 16)]) (h5 : h 16 = sx_ai 62 f) (hf : ∀ j, 62 ≤ j → f j = 0) (hg : ∀ j, 62 ≤ j → g j = 0) (hQ : Q (some (sx_i (if p_last f p v m then 1 else 0))) n (sx_up h 18 (sx_ai 62 (p_wks (upd f p v) m)))) : sx_Cal 57 [sx_r (some 45), sx_i (nI p), sx_i v, sx_i (nI m)] n h Q := by
  have hn2 : 17 < n := by omega
  have hn3 : 18 < n := by omega
  have hn4 : 15 < n := by omega
  have hn5 : 16 < n := by omega
  simp (disch := omega) only [e_const, e_lconst, e_il, e_ll, e_al, e_is, e_as, e_ls, e_inc, e_bin, e_div, e_un, e_lbin, e_ldiv, e_lcmp, e_i2l, e_l2i, e_if1, e_if2, e_go, e_sw, e_dupi, e_dupr, e_dup2, e_popi, e_popr, e_get, e_put, e_iald, e_iast, e_zald, e_zast, e_aald, e_aast, e_sld, e_slen, e_newa, e_newq, e_mna, e_new, e_oi, e_cs, e_cv, e_ci, e_min, e_max, e_copy, e_rv, e_ri, e_rz, e_rl, e_run, sx_en, sx_cat, sx_tk, sx_ps, sx_set, sx_setl, sx_dl, sx_m, sx_sw, sx_ft, List.map_cons, List.map_nil, List.getElem?_cons_zero, List.getElem?_cons_succ, List.replicate_succ, List.replicate_zero, List.set_cons_zero, List.set_cons_succ, List.length_cons, List.length_nil, Nat.reduceAdd, Nat.reduceSub, Nat.reduceLeDiff, Nat.reduceLT, Nat.reduceMul, Nat.zero_le, Nat.le_refl, Nat.add_zero, Nat.zero_add, true_and, and_true, true_or, cX4_lasts_c, tX4_lasts_0, bX4_lasts_0, tX4_lasts_43, bX4_lasts_43, tX4_lasts_44, bX4_lasts_44, h1, hn, hn2, h2, q_up_s, q_up_n, q_up_up, q_upd_s, q_upd_n, q_upd_upd, q_in, q_in0, q_in1, q_cl, q_cl0, q_cl1, q_add, q_add1, q_1add, q_add0, q_0add, q_mul, q_ite0, q_ite01, q_10, or_true, not_false_eq_true, not_true_eq_false, q_n0, ne_eq, false_implies, true_implies, true_and, and_true, not_true_eq_false, not_false_eq_true, Bool.false_eq_true, sx_o, Sum.inr.injEq, Prod.mk.injEq, exists_eq', Nat.reduceLT]
  refine s_becomes h2 h3 h4 h5 hg hf hn2 hn3 hn4 hn5 ?_
  have c1 : sx_up h 18 (sx_ai 62 f) 45 = sx_o 3 [sx_r (some 15), sx_r (some 17)] := (q_up_n (by decide)).trans h1
  have c2 : sx_up h 18 (sx_ai 62 f) 17 = sx_o 2 [sx_r (some 18)] := (q_up_n (by decide)).trans h2
  have c1' : sx_up h 18 (sx_ai 62 (upd f p v)) 45 = sx_o 3 [sx_r (some 15), sx_r (some 17)] := (q_up_n (by decide)).trans h1
  simp (disch := omega) only [e_const, e_lconst, e_il, e_ll, e_al, e_is, e_as, e_ls, e_inc, e_bin, e_div, e_un, e_lbin, e_ldiv, e_lcmp, e_i2l, e_l2i, e_if1, e_if2, e_go, e_sw, e_dupi, e_dupr, e_dup2, e_popi, e_popr, e_get, e_put, e_iald, e_iast, e_zald, e_zast, e_aald, e_aast, e_sld, e_slen, e_newa, e_newq, e_mna, e_new, e_oi, e_cs, e_cv, e_ci, e_min, e_max, e_copy, e_rv, e_ri, e_rz, e_rl, e_run, sx_en, sx_cat, sx_tk, sx_ps, sx_set, sx_setl, sx_dl, sx_m, sx_sw, sx_ft, List.map_cons, List.map_nil, List.getElem?_cons_zero, List.getElem?_cons_succ, List.replicate_succ, List.replicate_zero, List.set_cons_zero, List.set_cons_succ, List.length_cons, List.length_nil, Nat.reduceAdd, Nat.reduceSub, Nat.reduceLeDiff, Nat.reduceLT, Nat.reduceMul, Nat.zero_le, Nat.le_refl, Nat.add_zero, Nat.zero_add, true_and, and_true, true_or, c1, c1', c2, h1, h2, hp, hn, hn2, hn3, q_up_s, q_up_n, q_up_up, q_upd_s, q_upd_n, q_upd_upd, q_in, q_in0, q_in1, q_cl, q_cl0, q_cl1, q_add, q_add1, q_1add, q_add0, q_0add, q_mul, q_ite0, q_ite01, q_10, or_true, not_false_eq_true, not_true_eq_false, q_n0, ne_eq, false_implies, true_implies, true_and, and_true, not_true_eq_false, not_false_eq_true, Bool.false_eq_true, sx_o, Sum.inr.injEq, Prod.mk.injEq, exists_eq', Nat.reduceLT]
  refine s_pass hn hm c1' ((q_up_n (by decide)).trans h2) (q_up_s _ _ _) ?_
  simp (disch := omega) only [e_const, e_lconst, e_il, e_ll, e_al, e_is, e_as, e_ls, e_inc, e_bin, e_div, e_un, e_lbin, e_ldiv, e_lcmp, e_i2l, e_l2i, e_if1, e_if2, e_go, e_sw, e_dupi, e_dupr, e_dup2, e_popi, e_popr, e_get, e_put, e_iald, e_iast, e_zald, e_zast, e_aald, e_aast, e_sld, e_slen, e_newa, e_newq, e_mna, e_new, e_oi, e_cs, e_cv, e_ci, e_min, e_max, e_copy, e_rv, e_ri, e_rz, e_rl, e_run, sx_en, sx_cat, sx_tk, sx_ps, sx_set, sx_setl, sx_dl, sx_m, sx_sw, sx_ft, List.map_cons, List.map_nil, List.getElem?_cons_zero, List.getElem?_cons_succ, List.replicate_succ, List.replicate_zero, List.set_cons_zero, List.set_cons_succ, List.length_cons, List.length_nil, Nat.reduceAdd, Nat.reduceSub, Nat.reduceLeDiff, Nat.reduceLT, Nat.reduceMul, Nat.zero_le, Nat.le_refl, Nat.add_zero, Nat.zero_add, true_and, and_true, true_or, tX4_lasts_43, bX4_lasts_43, tX4_lasts_44, bX4_lasts_44, h1, h2, hn, hn2, hn3, q_up_s, q_up_n, q_up_up, q_upd_s, q_upd_n, q_upd_upd, q_in, q_in0, q_in1, q_cl, q_cl0, q_cl1, q_add, q_add1, q_1add, q_add0, q_0add, q_mul, q_ite0, q_ite01, q_10, or_true, not_false_eq_true, not_true_eq_false, q_n0, ne_eq, false_implies, true_implies, true_and, and_true, not_true_eq_false, not_false_eq_true, Bool.false_eq_true, sx_o, Sum.inr.injEq, Prod.mk.injEq, exists_eq', Nat.reduceLT]
  rw [p_last] at hQ
  by_cases z : p_wks (upd f p v) m 57 = 0
  · simp only [z, false_implies, true_implies, true_and, and_true, not_true_eq_false, not_false_eq_true, Bool.false_eq_true, decide_true, if_true] at hQ ⊢
    exact hQ
  · simp only [z, false_implies, true_implies, true_and, and_true, not_true_eq_false, not_false_eq_true, Bool.false_eq_true, decide_false, if_false] at hQ ⊢
    exact hQ
set_option maxRecDepth 100000 in
set_option maxHeartbeats 4000000 in
theorem s_std_lp (hn : 45 < n) (hf : ∀ j, 62 ≤ j → f j = 0) (m : Nat) (hm : m = 40) (Rt : sx_R) : ∀ (r : Nat) (h : sx_H), r ≤ 21 → h 45 = sx_o 3 [sx_r (some 15), sx_r (some 17)] → h 17 = sx_o 2 [sx_r (some 18)] → h 15 = sx_o 2 [sx_r (some 16)] → h 16 = sx_ai 62 f → (∃ g, h 18 = sx_ai 62 g ∧ ∀ j, 62 ≤ j → g j = 0) → (∀ g', (∀ j, 62 ≤ j → g' j = 0) → Rt (some (sx_i (p_std f m r))) n (sx_up h 18 (sx_ai 62 g')) 0 0) → (∀ r, r ≤ 20 → WB 3000 (p_wks (upd f 56 (nI r)) m)) → sx_T BX4_longestStrike sx_Cal Rt 3 [some (sx_r (some 45)), some (sx_i (nI r - 1))] [] n h 0 0 := by
  intro r
  induction r with
  | zero =>
    intro h hr h1 h2 h4 h5 ⟨g, h3, hg⟩ hR hW
    have hR := hR g hg
    rw [q_up_id h3] at hR
    have hlt : ((nI 0 - 1 : Int32) < 0) = True := eq_true (by decide +kernel)
    rw [tX4_longestStrike_3]
    simp (disch := omega) only [e_const, e_lconst, e_il, e_ll, e_al, e_is, e_as, e_ls, e_inc, e_bin, e_div, e_un, e_lbin, e_ldiv, e_lcmp, e_i2l, e_l2i, e_if1, e_if2, e_go, e_sw, e_dupi, e_dupr, e_dup2, e_popi, e_popr, e_get, e_put, e_iald, e_iast, e_zald, e_zast, e_aald, e_aast, e_sld, e_slen, e_newa, e_newq, e_mna, e_new, e_oi, e_cs, e_cv, e_ci, e_min, e_max, e_copy, e_rv, e_ri, e_rz, e_rl, e_run, sx_en, sx_cat, sx_tk, sx_ps, sx_set, sx_setl, sx_dl, sx_m, sx_sw, sx_ft, List.map_cons, List.map_nil, List.getElem?_cons_zero, List.getElem?_cons_succ, List.replicate_succ, List.replicate_zero, List.set_cons_zero, List.set_cons_succ, List.length_cons, List.length_nil, Nat.reduceAdd, Nat.reduceSub, Nat.reduceLeDiff, Nat.reduceLT, Nat.reduceMul, Nat.zero_le, Nat.le_refl, Nat.add_zero, Nat.zero_add, true_and, and_true, true_or, bX4_longestStrike_3, tX4_longestStrike_27, bX4_longestStrike_27, hlt, q_up_s, q_up_n, q_up_up, q_upd_s, q_upd_n, q_upd_upd, q_in, q_in0, q_in1, q_cl, q_cl0, q_cl1, q_add, q_add1, q_1add, q_add0, q_0add, q_mul, q_ite0, q_ite01, q_10, or_true, not_false_eq_true, not_true_eq_false, q_n0, ne_eq, false_implies, true_implies, true_and, and_true, not_true_eq_false, not_false_eq_true, Bool.false_eq_true]
    exact hR
  | succ r ih =>
    intro h hr h1 h2 h4 h5 ⟨g, h3, hg⟩ hR hW
    have hrr : nI (r + 1) - 1 = nI r := by rw [nI_sub1 (by omega)]; rfl
    rw [hrr, tX4_longestStrike_3]
    simp (disch := omega) only [e_const, e_lconst, e_il, e_ll, e_al, e_is, e_as, e_ls, e_inc, e_bin, e_div, e_un, e_lbin, e_ldiv, e_lcmp, e_i2l, e_l2i, e_if1, e_if2, e_go, e_sw, e_dupi, e_dupr, e_dup2, e_popi, e_popr, e_get, e_put, e_iald, e_iast, e_zald, e_zast, e_aald, e_aast, e_sld, e_slen, e_newa, e_newq, e_mna, e_new, e_oi, e_cs, e_cv, e_ci, e_min, e_max, e_copy, e_rv, e_ri, e_rz, e_rl, e_run, sx_en, sx_cat, sx_tk, sx_ps, sx_set, sx_setl, sx_dl, sx_m, sx_sw, sx_ft, List.map_cons, List.map_nil, List.getElem?_cons_zero, List.getElem?_cons_succ, List.replicate_succ, List.replicate_zero, List.set_cons_zero, List.set_cons_succ, List.length_cons, List.length_nil, Nat.reduceAdd, Nat.reduceSub, Nat.reduceLeDiff, Nat.reduceLT, Nat.reduceMul, Nat.zero_le, Nat.le_refl, Nat.add_zero, Nat.zero_add, true_and, and_true, true_or, bX4_longestStrike_3, h1, hn, q_ltz, q_up_s, q_up_n, q_up_up, q_upd_s, q_upd_n, q_upd_upd, q_in, q_in0, q_in1, q_cl, q_cl0, q_cl1, q_add, q_add1, q_1add, q_add0, q_0add, q_mul, q_ite0, q_ite01, q_10, or_true, not_false_eq_true, not_true_eq_false, q_n0, ne_eq, false_implies, true_implies, true_and, and_true, not_true_eq_false, not_false_eq_true, Bool.false_eq_true, sx_o, Sum.inr.injEq, Prod.mk.injEq, exists_eq', Nat.reduceLT]
    have hw := (hW r (by omega)).1
    rw [← hm]
    refine s_lasts hn (by omega) (by omega) _ h1 h2 h3 h4 h5 hf hg ?_
    by_cases z : p_last f 56 (nI r) m = true
    · have hR2 := hR _ hw
      have e1 : p_std f m (r + 1) = nI r := by rw [p_std, if_pos z]
      rw [e1] at hR2
      rw [if_pos z]
      simp (disch := omega) only [e_const, e_lconst, e_il, e_ll, e_al, e_is, e_as, e_ls, e_inc, e_bin, e_div, e_un, e_lbin, e_ldiv, e_lcmp, e_i2l, e_l2i, e_if1, e_if2, e_go, e_sw, e_dupi, e_dupr, e_dup2, e_popi, e_popr, e_get, e_put, e_iald, e_iast, e_zald, e_zast, e_aald, e_aast, e_sld, e_slen, e_newa, e_newq, e_mna, e_new, e_oi, e_cs, e_cv, e_ci, e_min, e_max, e_copy, e_rv, e_ri, e_rz, e_rl, e_run, sx_en, sx_cat, sx_tk, sx_ps, sx_set, sx_setl, sx_dl, sx_m, sx_sw, sx_ft, List.map_cons, List.map_nil, List.getElem?_cons_zero, List.getElem?_cons_succ, List.replicate_succ, List.replicate_zero, List.set_cons_zero, List.set_cons_succ, List.length_cons, List.length_nil, Nat.reduceAdd, Nat.reduceSub, Nat.reduceLeDiff, Nat.reduceLT, Nat.reduceMul, Nat.zero_le, Nat.le_refl, Nat.add_zero, Nat.zero_add, true_and, and_true, true_or, q_10, q_up_s, q_up_n, q_up_up, q_upd_s, q_upd_n, q_upd_upd, q_in, q_in0, q_in1, q_cl, q_cl0, q_cl1, q_add, q_add1, q_1add, q_add0, q_0add, q_mul, q_ite0, q_ite01, q_10, or_true, not_false_eq_true, not_true_eq_false, q_n0, ne_eq, false_implies, true_implies, true_and, and_true, not_true_eq_false, not_false_eq_true, Bool.false_eq_true]
      exact hR2
    · have e1 : p_std f m (r + 1) = p_std f m r := by rw [p_std, if_neg z]
      rw [e1] at hR
      rw [if_neg z]
      simp (disch := omega) only [e_const, e_lconst, e_il, e_ll, e_al, e_is, e_as, e_ls, e_inc, e_bin, e_div, e_un, e_lbin, e_ldiv, e_lcmp, e_i2l, e_l2i, e_if1, e_if2, e_go, e_sw, e_dupi, e_dupr, e_dup2, e_popi, e_popr, e_get, e_put, e_iald, e_iast, e_zald, e_zast, e_aald, e_aast, e_sld, e_slen, e_newa, e_newq, e_mna, e_new, e_oi, e_cs, e_cv, e_ci, e_min, e_max, e_copy, e_rv, e_ri, e_rz, e_rl, e_run, sx_en, sx_cat, sx_tk, sx_ps, sx_set, sx_setl, sx_dl, sx_m, sx_sw, sx_ft, List.map_cons, List.map_nil, List.getElem?_cons_zero, List.getElem?_cons_succ, List.replicate_succ, List.replicate_zero, List.set_cons_zero, List.set_cons_succ, List.length_cons, List.length_nil, Nat.reduceAdd, Nat.reduceSub, Nat.reduceLeDiff, Nat.reduceLT, Nat.reduceMul, Nat.zero_le, Nat.le_refl, Nat.add_zero, Nat.zero_add, true_and, and_true, true_or, tX4_longestStrike_21, bX4_longestStrike_21, false_implies, true_implies, true_and, and_true, not_true_eq_false, not_false_eq_true, Bool.false_eq_true]
      rw [q_addm1]
      exact ih (sx_up h 18 (sx_ai 62 (p_wks (upd f 56 (nI r)) m))) (by omega) ((q_up_n (by omega)).trans h1) ((q_up_n (by omega)).trans h2) ((q_up_n (by omega)).trans h4) ((q_up_n (by omega)).trans h5) ⟨_, q_up_s _ _ _, hw⟩ (fun g' hg' => by rw [q_up_up]; exact hR g' hg') hW
end LA
