/-! places in a row -/
def p_fits (m : Nat) (i n : Int32) : Bool := decide (0 ≤ i.toInt ∧ 0 ≤ n.toInt ∧ i.toInt + n.toInt ≤ (m : Int))
set_option maxRecDepth 100000 in
set_option maxHeartbeats 4000000 in
theorem p_fits_iff (m : Nat) (i n : Int32) : (p_fits m i n = true) = (0 ≤ i.toInt ∧ 0 ≤ n.toInt ∧ i.toInt + n.toInt ≤ (m : Int)) := by simp [p_fits]
def p_nar (l v : Int32) : Int32 := if l = 0 then v.toInt8.toInt32 else if l = 1 then v.toInt16.toInt32 else v
set_option maxRecDepth 100000 in
set_option maxHeartbeats 4000000 in
theorem XR_it {st : Int32} {rs rl it it' : Nat → Int32} {h : sx_H} {e : Nat} {g : Nat → Int32} (H : XR st rs rl it h) (he : e < 8) (hg : ∀ j, g j = if j < 40 then it' (40 * e + j) else 0) (ho : ∀ r j, r < 8 → r ≠ e → j < 40 → it' (40 * r + j) = it (40 * r + j)) : XR st rs rl it' (sx_up h (3 + e) (sx_ai 40 g)) := by
  obtain ⟨h1, h2, h3, ⟨l, h4, h5⟩, h6⟩ := H
  refine ⟨(q_up_n (by omega)).trans h1, (q_up_n (by omega)).trans h2, fun r hr => ?_, ⟨l, (q_up_n (by omega)).trans h4, h5⟩, (q_up_n (by omega)).trans h6⟩
  by_cases q : r = e
  · subst q
    rw [q_up_s, funext hg]
  · rw [q_up_n (by omega), h3 r hr]
    congr 1
    funext j
    by_cases hj : j < 40
    · rw [if_pos hj, if_pos hj, ho r j hr q hj]
    · rw [if_neg hj, if_neg hj]
section ROWS
variable {n : Nat} {h : sx_H} {Q : sx_Q} {st : Int32} {rs : Nat → Int32}
set_option maxRecDepth 100000 in
set_option maxHeartbeats 4000000 in
theorem s_fits (hb : h 1 = sx_o 4 [sx_r (some 2), sx_r (some 11), sx_r (some 12), sx_i st]) (hs : h 12 = sx_ai 8 rs) (hn : 12 < n) {e m : Nat} (he : e < 8) (hm : rs e = nI m) (hm40 : m ≤ 40) (i c : Int32) : sx_Cal 70 [sx_r (some 1), sx_i (nI e), sx_i i, sx_i c] n h Q = Q (some (sx_i (if p_fits m i c then 1 else 0))) n h := by
  have hn2 : 1 < n := by omega
  simp (disch := omega) only [e_const, e_lconst, e_il, e_ll, e_al, e_is, e_as, e_ls, e_inc, e_bin, e_div, e_un, e_lbin, e_ldiv, e_lcmp, e_i2l, e_l2i, e_if1, e_if2, e_go, e_sw, e_dupi, e_dupr, e_dup2, e_popi, e_popr, e_get, e_put, e_iald, e_iast, e_zald, e_zast, e_aald, e_aast, e_sld, e_slen, e_newa, e_newq, e_mna, e_new, e_oi, e_cs, e_cv, e_ci, e_min, e_max, e_copy, e_rv, e_ri, e_rz, e_rl, e_run, sx_en, sx_cat, sx_tk, sx_ps, sx_set, sx_setl, sx_dl, sx_m, sx_sw, sx_ft, List.map_cons, List.map_nil, List.getElem?_cons_zero, List.getElem?_cons_succ, List.replicate_succ, List.replicate_zero, List.set_cons_zero, List.set_cons_succ, List.length_cons, List.length_nil, Nat.reduceAdd, Nat.reduceSub, Nat.reduceLeDiff, Nat.reduceLT, Nat.reduceMul, Nat.zero_le, Nat.le_refl, Nat.add_zero, Nat.zero_add, true_and, and_true, true_or, cX5_fits_c, tX5_fits_0, bX5_fits_0, tX5_fits_24, bX5_fits_24, tX5_fits_25, bX5_fits_25, hb, hs, hm, hn, hn2, q_up_s, q_up_n, q_up_up, q_upd_s, q_upd_n, q_upd_upd, q_in, q_in0, q_in1, q_cl, q_cl0, q_cl1, q_add, q_add1, q_1add, q_add0, q_0add, q_mul, q_ite0, q_ite01, q_10, or_true, not_false_eq_true, not_true_eq_false, q_n0, ne_eq, q_ltn, q_ti0, Classical.not_not, p_fits_iff]
  by_cases h1 : 0 ≤ i.toInt
  · by_cases h2 : 0 ≤ c.toInt
    · have e1 : (nI m - c).toInt = (m : Int) - c.toInt := by
        have := Int32.toInt_lt c
        have := Int32.le_toInt c
        rw [i_sub (by rw [q_ti (by omega)]; omega) (by rw [q_ti (by omega)]; omega), q_ti (by omega)]
      by_cases h3 : i.toInt ≤ (m : Int) - c.toInt
      · simp only [h1, h2, e1, h3, not_true_eq_false, not_false_eq_true, false_implies, true_implies, true_and, and_true, show i.toInt + c.toInt ≤ (m : Int) by omega, if_true]
      · simp only [h1, h2, e1, h3, not_true_eq_false, not_false_eq_true, false_implies, true_implies, true_and, and_true, show ¬ i.toInt + c.toInt ≤ (m : Int) by omega, if_false, and_false]
    · simp only [h1, h2, not_true_eq_false, not_false_eq_true, false_implies, true_implies, true_and, and_true, if_false, and_false, false_and]
  · simp only [h1, not_true_eq_false, not_false_eq_true, false_implies, true_implies, true_and, and_true, if_false, and_false, false_and]
set_option maxRecDepth 100000 in
set_option maxHeartbeats 4000000 in
theorem s_look (hb : h 1 = sx_o 4 [sx_r (some 2), sx_r (some 11), sx_r (some 12), sx_i st]) (hs : h 12 = sx_ai 8 rs) (hn : 12 < n) {e : Nat} (he : e < 8) (hm : rs e = -1 ∨ ∃ m, m ≤ 40 ∧ rs e = nI m) (i c : Int32) : sx_Cal 68 [sx_r (some 1), sx_i (nI e), sx_i i, sx_i c] n h Q =
    (if rs e = -1 then Q (some (sx_i (-1000010 - 1))) n (sx_up h 1 (sx_o 4 [sx_r (some 2), sx_r (some 11), sx_r (some 12), sx_i 1]))
    else if p_fits (rs e).toNatClampNeg i c then Q (some (sx_i 0)) n (sx_up h 1 (sx_o 4 [sx_r (some 2), sx_r (some 11), sx_r (some 12), sx_i 0]))
    else Q (some (sx_i (-1000010 - nI 2))) n (sx_up h 1 (sx_o 4 [sx_r (some 2), sx_r (some 11), sx_r (some 12), sx_i (nI 2)]))) := by
  have hn2 : 1 < n := by omega
  by_cases hz : rs e = -1
  · simp (disch := omega) only [e_const, e_lconst, e_il, e_ll, e_al, e_is, e_as, e_ls, e_inc, e_bin, e_div, e_un, e_lbin, e_ldiv, e_lcmp, e_i2l, e_l2i, e_if1, e_if2, e_go, e_sw, e_dupi, e_dupr, e_dup2, e_popi, e_popr, e_get, e_put, e_iald, e_iast, e_zald, e_zast, e_aald, e_aast, e_sld, e_slen, e_newa, e_newq, e_mna, e_new, e_oi, e_cs, e_cv, e_ci, e_min, e_max, e_copy, e_rv, e_ri, e_rz, e_rl, e_run, sx_en, sx_cat, sx_tk, sx_ps, sx_set, sx_setl, sx_dl, sx_m, sx_sw, sx_ft, List.map_cons, List.map_nil, List.getElem?_cons_zero, List.getElem?_cons_succ, List.replicate_succ, List.replicate_zero, List.set_cons_zero, List.set_cons_succ, List.length_cons, List.length_nil, Nat.reduceAdd, Nat.reduceSub, Nat.reduceLeDiff, Nat.reduceLT, Nat.reduceMul, Nat.zero_le, Nat.le_refl, Nat.add_zero, Nat.zero_add, true_and, and_true, true_or, cX5_look_c, tX5_look_0, bX5_look_0, tX5_look_16, bX5_look_16, tX5_look_32, bX5_look_32, cX5_find_c, tX5_find_0, bX5_find_0, hb, hs, hz, hn, hn2, q_up_s, q_up_n, q_up_up, q_upd_s, q_upd_n, q_upd_upd, q_in, q_in0, q_in1, q_cl, q_cl0, q_cl1, q_add, q_add1, q_1add, q_add0, q_0add, q_mul, q_ite0, q_ite01, q_10, or_true, not_false_eq_true, not_true_eq_false, q_n0, ne_eq, false_implies, true_implies, true_and, and_true, not_true_eq_false, not_false_eq_true, Bool.false_eq_true, sx_o, Sum.inr.injEq, Prod.mk.injEq, exists_eq', Nat.reduceLT, if_true]
  · obtain ⟨m, hm4, hm⟩ := hm.resolve_left hz
    rw [if_neg hz]
    have hz2 : (nI m = -1) = False := by rw [← hm]; exact eq_false hz
    simp (disch := omega) only [e_const, e_lconst, e_il, e_ll, e_al, e_is, e_as, e_ls, e_inc, e_bin, e_div, e_un, e_lbin, e_ldiv, e_lcmp, e_i2l, e_l2i, e_if1, e_if2, e_go, e_sw, e_dupi, e_dupr, e_dup2, e_popi, e_popr, e_get, e_put, e_iald, e_iast, e_zald, e_zast, e_aald, e_aast, e_sld, e_slen, e_newa, e_newq, e_mna, e_new, e_oi, e_cs, e_cv, e_ci, e_min, e_max, e_copy, e_rv, e_ri, e_rz, e_rl, e_run, sx_en, sx_cat, sx_tk, sx_ps, sx_set, sx_setl, sx_dl, sx_m, sx_sw, sx_ft, List.map_cons, List.map_nil, List.getElem?_cons_zero, List.getElem?_cons_succ, List.replicate_succ, List.replicate_zero, List.set_cons_zero, List.set_cons_succ, List.length_cons, List.length_nil, Nat.reduceAdd, Nat.reduceSub, Nat.reduceLeDiff, Nat.reduceLT, Nat.reduceMul, Nat.zero_le, Nat.le_refl, Nat.add_zero, Nat.zero_add, true_and, and_true, true_or, cX5_look_c, tX5_look_0, bX5_look_0, tX5_look_16, bX5_look_16, tX5_look_32, bX5_look_32, cX5_find_c, tX5_find_0, bX5_find_0, hb, hs, hm, hz2, s_fits hb hs hn he hm hm4, hn, hn2, q_up_s, q_up_n, q_up_up, q_upd_s, q_upd_n, q_upd_upd, q_in, q_in0, q_in1, q_cl, q_cl0, q_cl1, q_add, q_add1, q_1add, q_add0, q_0add, q_mul, q_ite0, q_ite01, q_10, or_true, not_false_eq_true, not_true_eq_false, q_n0, ne_eq, false_implies, true_implies, true_and, and_true, not_true_eq_false, not_false_eq_true, Bool.false_eq_true, sx_o, Sum.inr.injEq, Prod.mk.injEq, exists_eq', Nat.reduceLT, Classical.not_not]
    by_cases hp : p_fits m i c
    · simp only [hp, false_implies, true_implies, true_and, and_true, not_true_eq_false, not_false_eq_true, Bool.false_eq_true, if_true]
    · simp only [hp, false_implies, true_implies, true_and, and_true, not_true_eq_false, not_false_eq_true, Bool.false_eq_true, if_false]
set_option maxRecDepth 100000 in
set_option maxHeartbeats 4000000 in
theorem s_narrowed (v l : Int32) : sx_Cal 71 [sx_i v, sx_i l] n h Q = Q (some (sx_i (p_nar l v))) n h := by
  simp (disch := omega) only [e_const, e_lconst, e_il, e_ll, e_al, e_is, e_as, e_ls, e_inc, e_bin, e_div, e_un, e_lbin, e_ldiv, e_lcmp, e_i2l, e_l2i, e_if1, e_if2, e_go, e_sw, e_dupi, e_dupr, e_dup2, e_popi, e_popr, e_get, e_put, e_iald, e_iast, e_zald, e_zast, e_aald, e_aast, e_sld, e_slen, e_newa, e_newq, e_mna, e_new, e_oi, e_cs, e_cv, e_ci, e_min, e_max, e_copy, e_rv, e_ri, e_rz, e_rl, e_run, sx_en, sx_cat, sx_tk, sx_ps, sx_set, sx_setl, sx_dl, sx_m, sx_sw, sx_ft, List.map_cons, List.map_nil, List.getElem?_cons_zero, List.getElem?_cons_succ, List.replicate_succ, List.replicate_zero, List.set_cons_zero, List.set_cons_succ, List.length_cons, List.length_nil, Nat.reduceAdd, Nat.reduceSub, Nat.reduceLeDiff, Nat.reduceLT, Nat.reduceMul, Nat.zero_le, Nat.le_refl, Nat.add_zero, Nat.zero_add, true_and, and_true, true_or, cX5_narrowed_c, tX5_narrowed_0, bX5_narrowed_0, tX5_narrowed_7, bX5_narrowed_7, tX5_narrowed_17, bX5_narrowed_17, tX5_narrowed_18, bX5_narrowed_18, q_up_s, q_up_n, q_up_up, q_upd_s, q_upd_n, q_upd_upd, q_in, q_in0, q_in1, q_cl, q_cl0, q_cl1, q_add, q_add1, q_1add, q_add0, q_0add, q_mul, q_ite0, q_ite01, q_10, or_true, not_false_eq_true, not_true_eq_false, q_n0, ne_eq]
  by_cases h0 : l = 0
  · subst h0; simp [p_nar]
  · by_cases h1 : l = 1
    · subst h1; simp [p_nar]
    · simp [p_nar, h0, h1]
end ROWS

set_option maxRecDepth 100000 in
set_option maxHeartbeats 4000000 in
theorem it_one (it : Nat → Int32) {e i : Nat} (he : e < 8) (hi : i < 40) (v : Int32) : (∀ j, (upd (fun j => if j < 40 then it (40 * e + j) else 0) i v) j = if j < 40 then upd it (40 * e + i) v (40 * e + j) else 0) ∧ (∀ r j, r < 8 → r ≠ e → j < 40 → upd it (40 * e + i) v (40 * r + j) = it (40 * r + j)) := by
  constructor
  · intro j
    by_cases hj : j = i
    · subst hj; rw [q_upd_s, if_pos hi, q_upd_s]
    · rw [q_upd_n hj]
      by_cases hj4 : j < 40
      · rw [if_pos hj4, if_pos hj4, q_upd_n (by omega)]
      · rw [if_neg hj4, if_neg hj4]
  · intro r j hr hre hj
    exact q_upd_n (by omega)
set_option maxRecDepth 100000 in
set_option maxHeartbeats 4000000 in
theorem q_e1 : ((-1000010 : Int32) - 1 = 0) = False := eq_false (by decide +kernel)
set_option maxRecDepth 100000 in
set_option maxHeartbeats 4000000 in
theorem q_e2 : ((-1000010 : Int32) - nI 2 = 0) = False := eq_false (by decide +kernel)
set_option maxRecDepth 100000 in
set_option maxHeartbeats 4000000 in
theorem st_set {h : sx_H} (H : IV h) (u i v : Int32) : sx_Cal 87 [sx_r (some 0), sx_i u, sx_i i, sx_i v] 65 h (IQ 128 [sx_r (some 53), sx_i u, sx_i i, sx_i v]) := by
  obtain ⟨lf, st, rs, rl, it, tp, tape, f, k, acts, t, trc, g0, g1, H⟩ := H
  obtain ⟨h0, hXR, hXT, hXB, hXA, hXK, hXI, hMO, hMR, hMB, hMA, hMT, hMI, hMK, hWR, htp, hWB, hk24, hWA, ht16, hWg0, hWg1⟩ := id H
  obtain ⟨th, cu, sa, tk, va, fa, fp, hm⟩ := id hMO
  obtain ⟨c, w, hw, hc, he⟩ := WB_iff.mp hWB
  have hc6 := hc.1
  obtain ⟨⟨cm0, hq⟩, -⟩ := id hMB
  have hq2 : sx_up h 53 (g_m 0 st (nI k) (nI tp) cu sa tk va fa fp lf (nI t)) 57 = sx_ai 64 (toM f cm0) := (q_up_n (by decide)).trans hq
  obtain ⟨h2, eh2⟩ : ∃ z, z = sx_up h 53 (g_m 0 st (nI k) (nI tp) cu sa tk va fa fp lf (nI t)) := ⟨_, rfl⟩
  have hmm : sx_up h 53 (g_m 0 st (nI k) (nI tp) cu sa tk va fa fp lf (nI t)) = h2 := eh2.symm
  have hIC : IC lf st rs rl it tp tape f k acts t trc g0 g1 h2 := by rw [eh2]; exact IC_53 H (fun j hj => q_up_n hj) ⟨_, _, _, _, _, _, _, q_up_s _ _ _⟩
  have hm3 : h2 53 = g_m 0 st (nI k) (nI tp) cu sa tk va fa fp lf (nI t) := by rw [eh2]; exact q_up_s _ _ _
  have hm4 : ∃ x1 x2 x3 x4 x5 x6 x7 x8 x9 y1 y2 y3, h2 53 = g_m x1 x2 x3 x4 x5 x6 x7 x8 x9 y1 y2 y3 := ⟨_, _, _, _, _, _, _, _, _, _, _, _, hm3⟩
  have hq3 : h2 57 = sx_ai 64 (toM f cm0) := by rw [eh2]; exact hq2
  obtain ⟨hR1, hR2, hR3, ⟨l, hR4, hl⟩, hR5⟩ := id hXR
  obtain ⟨⟨ml, hM1, hml⟩, ⟨mm, hM2, hm7⟩, hM3⟩ := id hMR
  simp (disch := omega) only [e_const, e_lconst, e_il, e_ll, e_al, e_is, e_as, e_ls, e_inc, e_bin, e_div, e_un, e_lbin, e_ldiv, e_lcmp, e_i2l, e_l2i, e_if1, e_if2, e_go, e_sw, e_dupi, e_dupr, e_dup2, e_popi, e_popr, e_get, e_put, e_iald, e_iast, e_zald, e_zast, e_aald, e_aast, e_sld, e_slen, e_newa, e_newq, e_mna, e_new, e_oi, e_cs, e_cv, e_ci, e_min, e_max, e_copy, e_rv, e_ri, e_rz, e_rl, e_run, sx_en, sx_cat, sx_tk, sx_ps, sx_set, sx_setl, sx_dl, sx_m, sx_sw, sx_ft, List.map_cons, List.map_nil, List.getElem?_cons_zero, List.getElem?_cons_succ, List.replicate_succ, List.replicate_zero, List.set_cons_zero, List.set_cons_succ, List.length_cons, List.length_nil, Nat.reduceAdd, Nat.reduceSub, Nat.reduceLeDiff, Nat.reduceLT, Nat.reduceMul, Nat.zero_le, Nat.le_refl, Nat.add_zero, Nat.zero_add, true_and, and_true, true_or, cX7_set_c, tX7_set_0, bX7_set_0, tX7_set_10, bX7_set_10, h0, s_isRow, hR1, q_up_s, q_up_n, q_up_up, q_upd_s, q_upd_n, q_upd_upd, q_in, q_in0, q_in1, q_cl, q_cl0, q_cl1, q_add, q_add1, q_1add, q_add0, q_0add, q_mul, q_ite0, q_ite01, q_10, or_true, not_false_eq_true, not_true_eq_false, q_n0, ne_eq, false_implies, true_implies, true_and, and_true, not_true_eq_false, not_false_eq_true, Bool.false_eq_true, sx_o, Sum.inr.injEq, Prod.mk.injEq, exists_eq', Nat.reduceLT, q_ti0, q_ti, q_lt]
  by_cases hu : 0 ≤ u.toInt ∧ u.toInt ≤ 7
  · obtain ⟨e, he, rfl⟩ := t2n (m := 7) (x := u) (by omega) (by omega)
    have hu' : 0 ≤ (e : Int) ∧ (e : Int) ≤ 7 := by omega
    have he8 : e < 8 := by omega
    have hW := hWR e he8
    have hlk := fun (Q : sx_Q) => s_look (n := 65) (h := h) (Q := Q) hR1 hR5 (by decide) he8 (by rcases hW with w | ⟨w, -⟩; exact Or.inl w; exact Or.inr w) i 1
    simp (disch := omega) only [hu, e_const, e_lconst, e_il, e_ll, e_al, e_is, e_as, e_ls, e_inc, e_bin, e_div, e_un, e_lbin, e_ldiv, e_lcmp, e_i2l, e_l2i, e_if1, e_if2, e_go, e_sw, e_dupi, e_dupr, e_dup2, e_popi, e_popr, e_get, e_put, e_iald, e_iast, e_zald, e_zast, e_aald, e_aast, e_sld, e_slen, e_newa, e_newq, e_mna, e_new, e_oi, e_cs, e_cv, e_ci, e_min, e_max, e_copy, e_rv, e_ri, e_rz, e_rl, e_run, sx_en, sx_cat, sx_tk, sx_ps, sx_set, sx_setl, sx_dl, sx_m, sx_sw, sx_ft, List.map_cons, List.map_nil, List.getElem?_cons_zero, List.getElem?_cons_succ, List.replicate_succ, List.replicate_zero, List.set_cons_zero, List.set_cons_succ, List.length_cons, List.length_nil, Nat.reduceAdd, Nat.reduceSub, Nat.reduceLeDiff, Nat.reduceLT, Nat.reduceMul, Nat.zero_le, Nat.le_refl, Nat.add_zero, Nat.zero_add, true_and, and_true, true_or, cX5_put_c, tX5_put_0, bX5_put_0, tX5_put_17, bX5_put_17, hlk, q_up_s, q_up_n, q_up_up, q_upd_s, q_upd_n, q_upd_upd, q_in, q_in0, q_in1, q_cl, q_cl0, q_cl1, q_add, q_add1, q_1add, q_add0, q_0add, q_mul, q_ite0, q_ite01, q_10, or_true, not_false_eq_true, not_true_eq_false, q_n0, ne_eq, false_implies, true_implies, true_and, and_true, not_true_eq_false, not_false_eq_true, Bool.false_eq_true, sx_o, Sum.inr.injEq, Prod.mk.injEq, exists_eq', Nat.reduceLT]
    by_cases hz : rs e = -1
    · simp (disch := omega) only [hz, hR1, q_e1, e_const, e_lconst, e_il, e_ll, e_al, e_is, e_as, e_ls, e_inc, e_bin, e_div, e_un, e_lbin, e_ldiv, e_lcmp, e_i2l, e_l2i, e_if1, e_if2, e_go, e_sw, e_dupi, e_dupr, e_dup2, e_popi, e_popr, e_get, e_put, e_iald, e_iast, e_zald, e_zast, e_aald, e_aast, e_sld, e_slen, e_newa, e_newq, e_mna, e_new, e_oi, e_cs, e_cv, e_ci, e_min, e_max, e_copy, e_rv, e_ri, e_rz, e_rl, e_run, sx_en, sx_cat, sx_tk, sx_ps, sx_set, sx_setl, sx_dl, sx_m, sx_sw, sx_ft, List.map_cons, List.map_nil, List.getElem?_cons_zero, List.getElem?_cons_succ, List.replicate_succ, List.replicate_zero, List.set_cons_zero, List.set_cons_succ, List.length_cons, List.length_nil, Nat.reduceAdd, Nat.reduceSub, Nat.reduceLeDiff, Nat.reduceLT, Nat.reduceMul, Nat.zero_le, Nat.le_refl, Nat.add_zero, Nat.zero_add, true_and, and_true, true_or, q_up_s, q_up_n, q_up_up, q_upd_s, q_upd_n, q_upd_upd, q_in, q_in0, q_in1, q_cl, q_cl0, q_cl1, q_add, q_add1, q_1add, q_add0, q_0add, q_mul, q_ite0, q_ite01, q_10, or_true, not_false_eq_true, not_true_eq_false, q_n0, ne_eq, false_implies, true_implies, true_and, and_true, not_true_eq_false, not_false_eq_true, Bool.false_eq_true, sx_o, Sum.inr.injEq, Prod.mk.injEq, exists_eq', Nat.reduceLT, if_true]
      refine iq_ab ?_
      intro hA ehA
      have rm : hA 53 = g_m th st (nI k) (nI tp) cu sa tk va fa fp lf (nI t) := by rw [ehA]; simp (disch := omega) only [q_up_n]; exact hm
      obtain ⟨hB, ehB⟩ : ∃ z, z = sx_up hA 53 (g_m 0 st (nI k) (nI tp) cu sa tk va fa fp lf (nI t)) := ⟨_, rfl⟩
      have rmm : sx_up hA 53 (g_m 0 st (nI k) (nI tp) cu sa tk va fa fp lf (nI t)) = hB := ehB.symm
      have rm3 : hB 53 = g_m 0 st (nI k) (nI tp) cu sa tk va fa fp lf (nI t) := by rw [ehB]; exact q_up_s _ _ _
      have rm4 : ∃ x1 x2 x3 x4 x5 x6 x7 x8 x9 y1 y2 y3, hB 53 = g_m x1 x2 x3 x4 x5 x6 x7 x8 x9 y1 y2 y3 := ⟨_, _, _, _, _, _, _, _, _, _, _, _, rm3⟩
      have rA54 := (show hA 54 = h 54 by rw [ehA]; simp (disch := omega) only [q_up_n]).trans hM1
      have rB54 := (show hB 54 = hA 54 by rw [ehB]; exact q_up_n (by decide)).trans rA54
      have rE54 := fun (E : sx_E) => (show sx_up hB 53 E 54 = hB 54 from q_up_n (by decide)).trans rB54
      have rA55 := (show hA 55 = h 55 by rw [ehA]; simp (disch := omega) only [q_up_n]).trans hM2
      have rB55 := (show hB 55 = hA 55 by rw [ehB]; exact q_up_n (by decide)).trans rA55
      have rE55 := fun (E : sx_E) => (show sx_up hB 53 E 55 = hB 55 from q_up_n (by decide)).trans rB55
      have hq1 : (0 ≤ (-1 : Int32)) = False := eq_false (by decide +kernel)
      simp (disch := omega) only [e_const, e_lconst, e_il, e_ll, e_al, e_is, e_as, e_ls, e_inc, e_bin, e_div, e_un, e_lbin, e_ldiv, e_lcmp, e_i2l, e_l2i, e_if1, e_if2, e_go, e_sw, e_dupi, e_dupr, e_dup2, e_popi, e_popr, e_get, e_put, e_iald, e_iast, e_zald, e_zast, e_aald, e_aast, e_sld, e_slen, e_newa, e_newq, e_mna, e_new, e_oi, e_cs, e_cv, e_ci, e_min, e_max, e_copy, e_rv, e_ri, e_rz, e_rl, e_run, sx_en, sx_cat, sx_tk, sx_ps, sx_set, sx_setl, sx_dl, sx_m, sx_sw, sx_ft, List.map_cons, List.map_nil, List.getElem?_cons_zero, List.getElem?_cons_succ, List.replicate_succ, List.replicate_zero, List.set_cons_zero, List.set_cons_succ, List.length_cons, List.length_nil, Nat.reduceAdd, Nat.reduceSub, Nat.reduceLeDiff, Nat.reduceLT, Nat.reduceMul, Nat.zero_le, Nat.le_refl, Nat.add_zero, Nat.zero_add, true_and, and_true, true_or, cX8_set_c, tX8_set_0, bX8_set_0, tX8_set_15, bX8_set_15, tX8_set_35, bX8_set_35, tX8_set_59, bX8_set_59, tX8_set_83, bX8_set_83, tX8_set_98, bX8_set_98, tX8_set_99, bX8_set_99, cX8_finding_c, tX8_finding_0, bX8_finding_0, rm, rmm, rm3, rB54, rE54, rE55, s_isRowM, q_ti, hu', (hml e (by omega)).1 hz, hq1, q_up_s, q_up_n, q_up_up, q_upd_s, q_upd_n, q_upd_upd, q_in, q_in0, q_in1, q_cl, q_cl0, q_cl1, q_add, q_add1, q_1add, q_add0, q_0add, q_mul, q_ite0, q_ite01, q_10, or_true, not_false_eq_true, not_true_eq_false, q_n0, ne_eq, sx_o, Sum.inr.injEq, Prod.mk.injEq, exists_eq', Nat.reduceLT, false_implies, true_implies, true_and, and_true, not_true_eq_false, not_false_eq_true, Bool.false_eq_true]
      subst ehB; subst ehA
      simp only [q_up_up]
      exact IV_of (IC_st H)
    · obtain ⟨m, hm4, hme⟩ : ∃ m, m ≤ 40 ∧ rs e = nI m := by
        rcases hW with w | ⟨w, -⟩
        · exact absurd w hz
        · exact w
      have hz2 : (nI m = -1) = False := by rw [← hme]; exact eq_false hz
      simp (disch := omega) only [hme, hz2, q_up_s, q_up_n, q_up_up, q_upd_s, q_upd_n, q_upd_upd, q_in, q_in0, q_in1, q_cl, q_cl0, q_cl1, q_add, q_add1, q_1add, q_add0, q_0add, q_mul, q_ite0, q_ite01, q_10, or_true, not_false_eq_true, not_true_eq_false, q_n0, ne_eq, false_implies, true_implies, true_and, and_true, not_true_eq_false, not_false_eq_true, Bool.false_eq_true, if_false]
      by_cases hp : p_fits m i 1
      · have hp2 := hp
        rw [p_fits_iff, q_ti1] at hp2
        obtain ⟨x, hx, rfl⟩ := t2n (m := 39) (x := i) (by omega) (by omega)
        have hx40 : x < 40 := by omega
        have hxm : x < m := by rw [q_ti (by omega)] at hp2; omega
        have hR22 : h 2 = sx_ar 3 8 (fun i => if i < 8 then some (3 + i) else none) := hR2
        have hRr := hR3 e he8
        have hln : l e = rl e := hl e he8 hz
        simp (disch := omega) only [hp, hR1, hR2, hRr, hR4, hln, he8, s_narrowed, e_const, e_lconst, e_il, e_ll, e_al, e_is, e_as, e_ls, e_inc, e_bin, e_div, e_un, e_lbin, e_ldiv, e_lcmp, e_i2l, e_l2i, e_if1, e_if2, e_go, e_sw, e_dupi, e_dupr, e_dup2, e_popi, e_popr, e_get, e_put, e_iald, e_iast, e_zald, e_zast, e_aald, e_aast, e_sld, e_slen, e_newa, e_newq, e_mna, e_new, e_oi, e_cs, e_cv, e_ci, e_min, e_max, e_copy, e_rv, e_ri, e_rz, e_rl, e_run, sx_en, sx_cat, sx_tk, sx_ps, sx_set, sx_setl, sx_dl, sx_m, sx_sw, sx_ft, List.map_cons, List.map_nil, List.getElem?_cons_zero, List.getElem?_cons_succ, List.replicate_succ, List.replicate_zero, List.set_cons_zero, List.set_cons_succ, List.length_cons, List.length_nil, Nat.reduceAdd, Nat.reduceSub, Nat.reduceLeDiff, Nat.reduceLT, Nat.reduceMul, Nat.zero_le, Nat.le_refl, Nat.add_zero, Nat.zero_add, true_and, and_true, true_or, q_up_s, q_up_n, q_up_up, q_upd_s, q_upd_n, q_upd_upd, q_in, q_in0, q_in1, q_cl, q_cl0, q_cl1, q_add, q_add1, q_1add, q_add0, q_0add, q_mul, q_ite0, q_ite01, q_10, or_true, not_false_eq_true, not_true_eq_false, q_n0, ne_eq, false_implies, true_implies, true_and, and_true, not_true_eq_false, not_false_eq_true, Bool.false_eq_true, sx_o, Sum.inr.injEq, Prod.mk.injEq, exists_eq', Nat.reduceLT, if_true]
        refine ⟨by omega, by omega, ?_⟩
        refine iq_ab ?_
        intro hA ehA
        have rm : hA 53 = g_m th st (nI k) (nI tp) cu sa tk va fa fp lf (nI t) := by rw [ehA]; simp (disch := omega) only [q_up_n]; exact hm
        obtain ⟨hB, ehB⟩ : ∃ z, z = sx_up hA 53 (g_m 0 st (nI k) (nI tp) cu sa tk va fa fp lf (nI t)) := ⟨_, rfl⟩
        have rmm : sx_up hA 53 (g_m 0 st (nI k) (nI tp) cu sa tk va fa fp lf (nI t)) = hB := ehB.symm
        have rm3 : hB 53 = g_m 0 st (nI k) (nI tp) cu sa tk va fa fp lf (nI t) := by rw [ehB]; exact q_up_s _ _ _
        have rm4 : ∃ x1 x2 x3 x4 x5 x6 x7 x8 x9 y1 y2 y3, hB 53 = g_m x1 x2 x3 x4 x5 x6 x7 x8 x9 y1 y2 y3 := ⟨_, _, _, _, _, _, _, _, _, _, _, _, rm3⟩
        have rA54 := (show hA 54 = h 54 by rw [ehA]; simp (disch := omega) only [q_up_n]).trans hM1
        have rB54 := (show hB 54 = hA 54 by rw [ehB]; exact q_up_n (by decide)).trans rA54
        have rE54 := fun (E : sx_E) => (show sx_up hB 53 E 54 = hB 54 from q_up_n (by decide)).trans rB54
        have rA55 := (show hA 55 = h 55 by rw [ehA]; simp (disch := omega) only [q_up_n]).trans hM2
        have rB55 := (show hB 55 = hA 55 by rw [ehB]; exact q_up_n (by decide)).trans rA55
        have rE55 := fun (E : sx_E) => (show sx_up hB 53 E 55 = hB 55 from q_up_n (by decide)).trans rB55
        have rA56 := (show hA 56 = h 56 by rw [ehA]; simp (disch := omega) only [q_up_n]).trans hM3
        have rB56 := (show hB 56 = hA 56 by rw [ehB]; exact q_up_n (by decide)).trans rA56
        have rE56 := fun (E : sx_E) => (show sx_up hB 53 E 56 = hB 56 from q_up_n (by decide)).trans rB56
        have em : (nI m - 1).toInt = (m : Int) - 1 := by rw [i_sub (by rw [q_ti (by omega), q_ti1]; omega) (by rw [q_ti (by omega), q_ti1]; omega), q_ti (by omega), q_ti1]
        have hx' : 0 ≤ (x : Int) ∧ (x : Int) ≤ (m : Int) - 1 := by omega
        have hw : rl e = 0 ∨ rl e = 1 ∨ rl e = nI 2 := by
          rcases hW with w | ⟨-, w⟩
          · exact absurd w hz
          · exact w
        have hq1 : (0 ≤ rl e) = True := by rcases hw with w | w | w <;> rw [w] <;> exact eq_true (by decide +kernel)
        have hnar : (∀ (z : Int32), z = p_nar (rl e) v → IV (sx_up (sx_up hB 53 (g_m 0 0 (nI k) (nI tp) cu sa tk va fa fp lf (nI t))) 56 (sx_ai 320 (upd it (40 * e + x) z)))) := fun z ez => by
          subst ez
          obtain ⟨o1, o2⟩ := it_one it he8 hx40 (p_nar (rl e) v)
          refine IV_of (IC_rows (st' := 0) (rs' := rs) (rl' := rl) (it' := upd it (40 * e + x) (p_nar (rl e) v)) H (fun j h1 h2 h3 => ?_) (XR_ag (XR_it (XR_st (st' := 0) hXR) he8 o1 o2) (fun j h1 h2 => ?_)) ⟨0, cu, sa, tk, va, fa, fp, ?_⟩ ⟨⟨ml, ?_, hml⟩, ⟨mm, ?_, hm7⟩, ?_⟩ hWR)
          · simp (disch := omega) only [ehA, ehB, q_up_n, q_up_s, q_up_up]
          · simp (disch := omega) only [ehA, ehB, q_up_n, q_up_s, q_up_up]
          · simp (disch := omega) only [ehA, ehB, q_up_n, q_up_s, q_up_up]
          · simp (disch := omega) only [ehA, ehB, q_up_n, q_up_s, q_up_up]; exact hM1
          · simp (disch := omega) only [ehA, ehB, q_up_n, q_up_s, q_up_up]; exact hM2
          · simp (disch := omega) only [ehA, ehB, q_up_n, q_up_s, q_up_up]
        simp (disch := omega) only [e_const, e_lconst, e_il, e_ll, e_al, e_is, e_as, e_ls, e_inc, e_bin, e_div, e_un, e_lbin, e_ldiv, e_lcmp, e_i2l, e_l2i, e_if1, e_if2, e_go, e_sw, e_dupi, e_dupr, e_dup2, e_popi, e_popr, e_get, e_put, e_iald, e_iast, e_zald, e_zast, e_aald, e_aast, e_sld, e_slen, e_newa, e_newq, e_mna, e_new, e_oi, e_cs, e_cv, e_ci, e_min, e_max, e_copy, e_rv, e_ri, e_rz, e_rl, e_run, sx_en, sx_cat, sx_tk, sx_ps, sx_set, sx_setl, sx_dl, sx_m, sx_sw, sx_ft, List.map_cons, List.map_nil, List.getElem?_cons_zero, List.getElem?_cons_succ, List.replicate_succ, List.replicate_zero, List.set_cons_zero, List.set_cons_succ, List.length_cons, List.length_nil, Nat.reduceAdd, Nat.reduceSub, Nat.reduceLeDiff, Nat.reduceLT, Nat.reduceMul, Nat.zero_le, Nat.le_refl, Nat.add_zero, Nat.zero_add, true_and, and_true, true_or, cX8_set_c, tX8_set_0, bX8_set_0, tX8_set_15, bX8_set_15, tX8_set_35, bX8_set_35, tX8_set_59, bX8_set_59, tX8_set_83, bX8_set_83, tX8_set_98, bX8_set_98, tX8_set_99, bX8_set_99, cX8_finding_c, tX8_finding_0, bX8_finding_0, rm, rmm, rm3, rB54, rE54, rE55, rE56, s_in, s_isRowM, q_wide, q_lti0, q_ti, em, hme, hu', hx', hq1, hm7 e (by omega) hz, (hml e he8).2 hz, q_up_s, q_up_n, q_up_up, q_upd_s, q_upd_n, q_upd_upd, q_in, q_in0, q_in1, q_cl, q_cl0, q_cl1, q_add, q_add1, q_1add, q_add0, q_0add, q_mul, q_ite0, q_ite01, q_10, or_true, not_false_eq_true, not_true_eq_false, q_n0, ne_eq, sx_o, Sum.inr.injEq, Prod.mk.injEq, exists_eq', Nat.reduceLT, false_implies, true_implies, true_and, and_true, not_true_eq_false, not_false_eq_true, Bool.false_eq_true]
        refine ⟨fun z0 => ⟨fun z1 => ?_, fun z1 => ?_⟩, fun z0 => ?_⟩
        · have ez : v = p_nar (rl e) v := by rw [p_nar, if_neg z0, if_neg z1]
          exact ⟨by rw [← ez], hnar _ ez⟩
        · have ez : v.toInt16.toInt32 = p_nar (rl e) v := by rw [p_nar, if_neg z0, if_pos (Classical.not_not.mp z1)]
          exact ⟨by rw [← ez], hnar _ ez⟩
        · have ez : v.toInt8.toInt32 = p_nar (rl e) v := by rw [p_nar, if_pos (Classical.not_not.mp z0)]
          exact ⟨by rw [← ez], hnar _ ez⟩
      · simp (disch := omega) only [hp, hR1, q_e2, e_const, e_lconst, e_il, e_ll, e_al, e_is, e_as, e_ls, e_inc, e_bin, e_div, e_un, e_lbin, e_ldiv, e_lcmp, e_i2l, e_l2i, e_if1, e_if2, e_go, e_sw, e_dupi, e_dupr, e_dup2, e_popi, e_popr, e_get, e_put, e_iald, e_iast, e_zald, e_zast, e_aald, e_aast, e_sld, e_slen, e_newa, e_newq, e_mna, e_new, e_oi, e_cs, e_cv, e_ci, e_min, e_max, e_copy, e_rv, e_ri, e_rz, e_rl, e_run, sx_en, sx_cat, sx_tk, sx_ps, sx_set, sx_setl, sx_dl, sx_m, sx_sw, sx_ft, List.map_cons, List.map_nil, List.getElem?_cons_zero, List.getElem?_cons_succ, List.replicate_succ, List.replicate_zero, List.set_cons_zero, List.set_cons_succ, List.length_cons, List.length_nil, Nat.reduceAdd, Nat.reduceSub, Nat.reduceLeDiff, Nat.reduceLT, Nat.reduceMul, Nat.zero_le, Nat.le_refl, Nat.add_zero, Nat.zero_add, true_and, and_true, true_or, q_up_s, q_up_n, q_up_up, q_upd_s, q_upd_n, q_upd_upd, q_in, q_in0, q_in1, q_cl, q_cl0, q_cl1, q_add, q_add1, q_1add, q_add0, q_0add, q_mul, q_ite0, q_ite01, q_10, or_true, not_false_eq_true, not_true_eq_false, q_n0, ne_eq, false_implies, true_implies, true_and, and_true, not_true_eq_false, not_false_eq_true, Bool.false_eq_true, sx_o, Sum.inr.injEq, Prod.mk.injEq, exists_eq', Nat.reduceLT, if_false]
        refine iq_ab ?_
        intro hA ehA
        have rm : hA 53 = g_m th st (nI k) (nI tp) cu sa tk va fa fp lf (nI t) := by rw [ehA]; simp (disch := omega) only [q_up_n]; exact hm
        obtain ⟨hB, ehB⟩ : ∃ z, z = sx_up hA 53 (g_m 0 st (nI k) (nI tp) cu sa tk va fa fp lf (nI t)) := ⟨_, rfl⟩
        have rmm : sx_up hA 53 (g_m 0 st (nI k) (nI tp) cu sa tk va fa fp lf (nI t)) = hB := ehB.symm
        have rm3 : hB 53 = g_m 0 st (nI k) (nI tp) cu sa tk va fa fp lf (nI t) := by rw [ehB]; exact q_up_s _ _ _
        have rm4 : ∃ x1 x2 x3 x4 x5 x6 x7 x8 x9 y1 y2 y3, hB 53 = g_m x1 x2 x3 x4 x5 x6 x7 x8 x9 y1 y2 y3 := ⟨_, _, _, _, _, _, _, _, _, _, _, _, rm3⟩
        have rA54 := (show hA 54 = h 54 by rw [ehA]; simp (disch := omega) only [q_up_n]).trans hM1
        have rB54 := (show hB 54 = hA 54 by rw [ehB]; exact q_up_n (by decide)).trans rA54
        have rE54 := fun (E : sx_E) => (show sx_up hB 53 E 54 = hB 54 from q_up_n (by decide)).trans rB54
        have rA55 := (show hA 55 = h 55 by rw [ehA]; simp (disch := omega) only [q_up_n]).trans hM2
        have rB55 := (show hB 55 = hA 55 by rw [ehB]; exact q_up_n (by decide)).trans rA55
        have rE55 := fun (E : sx_E) => (show sx_up hB 53 E 55 = hB 55 from q_up_n (by decide)).trans rB55
        have em : (nI m - 1).toInt = (m : Int) - 1 := by rw [i_sub (by rw [q_ti (by omega), q_ti1]; omega) (by rw [q_ti (by omega), q_ti1]; omega), q_ti (by omega), q_ti1]
        have hx' : ¬ (0 ≤ i.toInt ∧ i.toInt ≤ (m : Int) - 1) := fun z => hp (by rw [p_fits_iff, q_ti1]; omega)
        have hw : rl e = 0 ∨ rl e = 1 ∨ rl e = nI 2 := by
          rcases hW with w | ⟨-, w⟩
          · exact absurd w hz
          · exact w
        have hq1 : (0 ≤ rl e) = True := by rcases hw with w | w | w <;> rw [w] <;> exact eq_true (by decide +kernel)
        simp (disch := omega) only [e_const, e_lconst, e_il, e_ll, e_al, e_is, e_as, e_ls, e_inc, e_bin, e_div, e_un, e_lbin, e_ldiv, e_lcmp, e_i2l, e_l2i, e_if1, e_if2, e_go, e_sw, e_dupi, e_dupr, e_dup2, e_popi, e_popr, e_get, e_put, e_iald, e_iast, e_zald, e_zast, e_aald, e_aast, e_sld, e_slen, e_newa, e_newq, e_mna, e_new, e_oi, e_cs, e_cv, e_ci, e_min, e_max, e_copy, e_rv, e_ri, e_rz, e_rl, e_run, sx_en, sx_cat, sx_tk, sx_ps, sx_set, sx_setl, sx_dl, sx_m, sx_sw, sx_ft, List.map_cons, List.map_nil, List.getElem?_cons_zero, List.getElem?_cons_succ, List.replicate_succ, List.replicate_zero, List.set_cons_zero, List.set_cons_succ, List.length_cons, List.length_nil, Nat.reduceAdd, Nat.reduceSub, Nat.reduceLeDiff, Nat.reduceLT, Nat.reduceMul, Nat.zero_le, Nat.le_refl, Nat.add_zero, Nat.zero_add, true_and, and_true, true_or, cX8_set_c, tX8_set_0, bX8_set_0, tX8_set_15, bX8_set_15, tX8_set_35, bX8_set_35, tX8_set_59, bX8_set_59, tX8_set_83, bX8_set_83, tX8_set_98, bX8_set_98, tX8_set_99, bX8_set_99, cX8_finding_c, tX8_finding_0, bX8_finding_0, rm, rmm, rm3, rB54, rE54, rE55, s_in, s_isRowM, q_wide, q_lti0, q_ti, em, hme, hu', hx', hq1, hm7 e (by omega) hz, (hml e he8).2 hz, q_up_s, q_up_n, q_up_up, q_upd_s, q_upd_n, q_upd_upd, q_in, q_in0, q_in1, q_cl, q_cl0, q_cl1, q_add, q_add1, q_1add, q_add0, q_0add, q_mul, q_ite0, q_ite01, q_10, or_true, not_false_eq_true, not_true_eq_false, q_n0, ne_eq, sx_o, Sum.inr.injEq, Prod.mk.injEq, exists_eq', Nat.reduceLT, false_implies, true_implies, true_and, and_true, not_true_eq_false, not_false_eq_true, Bool.false_eq_true]
        subst ehB; subst ehA
        simp only [q_up_up]
        exact IV_of (IC_st H)
  · simp (disch := omega) only [hu, q_up_s, q_up_n, q_up_up, q_upd_s, q_upd_n, q_upd_upd, q_in, q_in0, q_in1, q_cl, q_cl0, q_cl1, q_add, q_add1, q_1add, q_add0, q_0add, q_mul, q_ite0, q_ite01, q_10, or_true, not_false_eq_true, not_true_eq_false, q_n0, ne_eq, false_implies, true_implies, true_and, and_true, not_true_eq_false, not_false_eq_true, Bool.false_eq_true]
    refine iq_in ?_
    simp (disch := omega) only [e_const, e_lconst, e_il, e_ll, e_al, e_is, e_as, e_ls, e_inc, e_bin, e_div, e_un, e_lbin, e_ldiv, e_lcmp, e_i2l, e_l2i, e_if1, e_if2, e_go, e_sw, e_dupi, e_dupr, e_dup2, e_popi, e_popr, e_get, e_put, e_iald, e_iast, e_zald, e_zast, e_aald, e_aast, e_sld, e_slen, e_newa, e_newq, e_mna, e_new, e_oi, e_cs, e_cv, e_ci, e_min, e_max, e_copy, e_rv, e_ri, e_rz, e_rl, e_run, sx_en, sx_cat, sx_tk, sx_ps, sx_set, sx_setl, sx_dl, sx_m, sx_sw, sx_ft, List.map_cons, List.map_nil, List.getElem?_cons_zero, List.getElem?_cons_succ, List.replicate_succ, List.replicate_zero, List.set_cons_zero, List.set_cons_succ, List.length_cons, List.length_nil, Nat.reduceAdd, Nat.reduceSub, Nat.reduceLeDiff, Nat.reduceLT, Nat.reduceMul, Nat.zero_le, Nat.le_refl, Nat.add_zero, Nat.zero_add, true_and, and_true, true_or, cX8_set_c, tX8_set_0, bX8_set_0, tX8_set_15, bX8_set_15, tX8_set_35, bX8_set_35, tX8_set_59, bX8_set_59, tX8_set_83, bX8_set_83, tX8_set_98, bX8_set_98, tX8_set_99, bX8_set_99, hm, hmm, hm3, s_isRowM, q_wide, q_lti0, q_lti, hu, q_up_s, q_up_n, q_up_up, q_upd_s, q_upd_n, q_upd_upd, q_in, q_in0, q_in1, q_cl, q_cl0, q_cl1, q_add, q_add1, q_1add, q_add0, q_0add, q_mul, q_ite0, q_ite01, q_10, or_true, not_false_eq_true, not_true_eq_false, q_n0, ne_eq, sx_o, Sum.inr.injEq, Prod.mk.injEq, exists_eq', Nat.reduceLT, false_implies, true_implies, true_and, and_true, not_true_eq_false, not_false_eq_true, Bool.false_eq_true]
    first | exact IV_of hIC | exact ⟨rfl, rfl, IV_of hIC⟩ | (simp; done) | (simp; intros; exact IV_of hIC)
