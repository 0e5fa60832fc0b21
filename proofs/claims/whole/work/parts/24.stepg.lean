/-! a row is made -/
def cpf (g : Nat → Int32) (d : Nat) (v : Nat → Int32) (i : Nat) : Nat → Int32 := fun j => if d ≤ j ∧ j < d + i then v (j - d) else g j
set_option maxRecDepth 100000 in
set_option maxHeartbeats 4000000 in
theorem cpf_0 (g : Nat → Int32) (d : Nat) (v : Nat → Int32) : cpf g d v 0 = g := by
  funext j
  rw [cpf, if_neg (by omega)]
set_option maxRecDepth 100000 in
set_option maxHeartbeats 4000000 in
theorem cpf_s (g : Nat → Int32) (d : Nat) (v : Nat → Int32) (i : Nat) : upd (cpf g d v i) (d + i) (v i) = cpf g d v (i + 1) := by
  funext j
  by_cases hj : j = d + i
  · subst hj; rw [q_upd_s, cpf, if_pos (by omega), show d + i - d = i by omega]
  · rw [q_upd_n hj]
    by_cases h : d ≤ j ∧ j < d + i
    · rw [cpf, cpf, if_pos h, if_pos (by omega)]
    · rw [cpf, cpf, if_neg h, if_neg (by omega)]
set_option maxRecDepth 100000 in
set_option maxHeartbeats 4000000 in
theorem cpf_s0 (g : Nat → Int32) (v : Nat → Int32) (i : Nat) : upd (cpf g 0 v i) i (v i) = cpf g 0 v (i + 1) := by
  have := cpf_s g 0 v i
  rwa [Nat.zero_add] at this
set_option maxRecDepth 100000 in
set_option maxHeartbeats 4000000 in
theorem cpf_o {g : Nat → Int32} {d : Nat} {v : Nat → Int32} {i j : Nat} (h : ¬ (d ≤ j ∧ j < d + i)) : cpf g d v i j = g j := by rw [cpf, if_neg h]
section MK
variable {n : Nat} {st : Int32} {e : Nat}
set_option maxRecDepth 100000 in
set_option maxHeartbeats 4000000 in
theorem s_make_lp (he : e < 8) (hn : 52 < n) (c : Int32) (l : Int32) (g : Nat → Int32) (Rt : sx_R) : ∀ (k i : Nat) (h : sx_H), i + k = 40 → h 1 = sx_o 4 [sx_r (some 2), sx_r (some 11), sx_r (some 12), sx_i st] → h 2 = sx_ar 3 8 (fun i => if i < 8 then some (3 + i) else none) → h (3 + e) = sx_ai 40 (cpf g 0 (fun _ => 0) i) → sx_T BX5_make sx_Cal Rt 36 [some (sx_r (some 1)), some (sx_i (nI e)), some (sx_i l), some (sx_i c), none] [] n (sx_up h (3 + e) (sx_ai 40 (cpf g 0 (fun _ => 0) 40))) 0 0 → sx_T BX5_make sx_Cal Rt 13 [some (sx_r (some 1)), some (sx_i (nI e)), some (sx_i l), some (sx_i c), some (sx_i (nI i))] [] n h 0 0 := by
  have hn2 : 1 < n := by omega
  have hn3 : 3 + e < n := by omega
  have hn4 : 2 < n := by omega
  intro k
  induction k with
  | zero =>
    intro i h hi h1 h2 h3 hR
    have : i = 40 := by omega
    subst this
    rw [q_up_id h3] at hR
    rw [tX5_make_13]
    simp (disch := omega) only [e_const, e_lconst, e_il, e_ll, e_al, e_is, e_as, e_ls, e_inc, e_bin, e_div, e_un, e_lbin, e_ldiv, e_lcmp, e_i2l, e_l2i, e_if1, e_if2, e_go, e_sw, e_dupi, e_dupr, e_dup2, e_popi, e_popr, e_get, e_put, e_iald, e_iast, e_zald, e_zast, e_aald, e_aast, e_sld, e_slen, e_newa, e_newq, e_mna, e_new, e_oi, e_cs, e_cv, e_ci, e_min, e_max, e_copy, e_rv, e_ri, e_rz, e_rl, e_run, sx_en, sx_cat, sx_tk, sx_ps, sx_set, sx_setl, sx_dl, sx_m, sx_sw, sx_ft, List.map_cons, List.map_nil, List.getElem?_cons_zero, List.getElem?_cons_succ, List.replicate_succ, List.replicate_zero, List.set_cons_zero, List.set_cons_succ, List.length_cons, List.length_nil, Nat.reduceAdd, Nat.reduceSub, Nat.reduceLeDiff, Nat.reduceLT, Nat.reduceMul, Nat.zero_le, Nat.le_refl, Nat.add_zero, Nat.zero_add, true_and, and_true, true_or, bX5_make_13, q_up_s, q_up_n, q_up_up, q_upd_s, q_upd_n, q_upd_upd, q_in, q_in0, q_in1, q_cl, q_cl0, q_cl1, q_add, q_add1, q_1add, q_add0, q_0add, q_mul, q_ite0, q_ite01, q_10, or_true, not_false_eq_true, not_true_eq_false, q_n0, ne_eq, q_le, q_ti]
    exact ⟨fun _ => hR, fun z => absurd (Int.le_refl _) z⟩
  | succ k ih =>
    intro i h hi h1 h2 h3 hR
    have hi6 : i < 40 := by omega
    have := ih (i + 1) (sx_up h (3 + e) (sx_ai 40 (cpf g 0 (fun _ => 0) (i + 1)))) (by omega) ((q_up_n (by omega)).trans h1) ((q_up_n (by omega)).trans h2) (q_up_s _ _ _) (by rw [q_up_up]; exact hR)
    rw [tX5_make_13]
    simp (disch := omega) only [e_const, e_lconst, e_il, e_ll, e_al, e_is, e_as, e_ls, e_inc, e_bin, e_div, e_un, e_lbin, e_ldiv, e_lcmp, e_i2l, e_l2i, e_if1, e_if2, e_go, e_sw, e_dupi, e_dupr, e_dup2, e_popi, e_popr, e_get, e_put, e_iald, e_iast, e_zald, e_zast, e_aald, e_aast, e_sld, e_slen, e_newa, e_newq, e_mna, e_new, e_oi, e_cs, e_cv, e_ci, e_min, e_max, e_copy, e_rv, e_ri, e_rz, e_rl, e_run, sx_en, sx_cat, sx_tk, sx_ps, sx_set, sx_setl, sx_dl, sx_m, sx_sw, sx_ft, List.map_cons, List.map_nil, List.getElem?_cons_zero, List.getElem?_cons_succ, List.replicate_succ, List.replicate_zero, List.set_cons_zero, List.set_cons_succ, List.length_cons, List.length_nil, Nat.reduceAdd, Nat.reduceSub, Nat.reduceLeDiff, Nat.reduceLT, Nat.reduceMul, Nat.zero_le, Nat.le_refl, Nat.add_zero, Nat.zero_add, true_and, and_true, true_or, bX5_make_13, h1, h2, h3, he, hn2, hn3, hn4, q_up_s, q_up_n, q_up_up, q_upd_s, q_upd_n, q_upd_upd, q_in, q_in0, q_in1, q_cl, q_cl0, q_cl1, q_add, q_add1, q_1add, q_add0, q_0add, q_mul, q_ite0, q_ite01, q_10, or_true, not_false_eq_true, not_true_eq_false, q_n0, ne_eq, q_le, q_ti, if_true, cpf_s0 g (fun _ => 0) i]
    exact ⟨fun z => absurd z (by omega), fun _ => this⟩
set_option maxRecDepth 100000 in
set_option maxHeartbeats 4000000 in
theorem s_rowM_lp (he : e < 8) (hn : 56 < n) (c : Int32) (g : Nat → Int32) (Rt : sx_R) : ∀ (k i : Nat) (h : sx_H), i + k = 40 → (∃ th st ac tp cu sa tk va fa fp la tr, h 53 = g_m th st ac tp cu sa tk va fa fp la tr) → h 56 = sx_ai 320 (cpf g (40 * e) (fun _ => 0) i) → Rt (some (sx_i c)) n (sx_up h 56 (sx_ai 320 (cpf g (40 * e) (fun _ => 0) 40))) 0 0 → sx_T BX8_row sx_Cal Rt 65 [some (sx_r (some 53)), some (sx_i (nI e)), none, some (sx_i c), some (sx_i (nI i))] [] n h 0 0 := by
  have hn2 : 53 < n := by omega
  intro k
  induction k with
  | zero =>
    intro i h hi h1 h3 hR
    have : i = 40 := by omega
    subst this
    rw [q_up_id h3] at hR
    rw [tX8_row_65]
    simp (disch := omega) only [e_const, e_lconst, e_il, e_ll, e_al, e_is, e_as, e_ls, e_inc, e_bin, e_div, e_un, e_lbin, e_ldiv, e_lcmp, e_i2l, e_l2i, e_if1, e_if2, e_go, e_sw, e_dupi, e_dupr, e_dup2, e_popi, e_popr, e_get, e_put, e_iald, e_iast, e_zald, e_zast, e_aald, e_aast, e_sld, e_slen, e_newa, e_newq, e_mna, e_new, e_oi, e_cs, e_cv, e_ci, e_min, e_max, e_copy, e_rv, e_ri, e_rz, e_rl, e_run, sx_en, sx_cat, sx_tk, sx_ps, sx_set, sx_setl, sx_dl, sx_m, sx_sw, sx_ft, List.map_cons, List.map_nil, List.getElem?_cons_zero, List.getElem?_cons_succ, List.replicate_succ, List.replicate_zero, List.set_cons_zero, List.set_cons_succ, List.length_cons, List.length_nil, Nat.reduceAdd, Nat.reduceSub, Nat.reduceLeDiff, Nat.reduceLT, Nat.reduceMul, Nat.zero_le, Nat.le_refl, Nat.add_zero, Nat.zero_add, true_and, and_true, true_or, bX8_row_65, tX8_row_91, bX8_row_91, q_up_s, q_up_n, q_up_up, q_upd_s, q_upd_n, q_upd_upd, q_in, q_in0, q_in1, q_cl, q_cl0, q_cl1, q_add, q_add1, q_1add, q_add0, q_0add, q_mul, q_ite0, q_ite01, q_10, or_true, not_false_eq_true, not_true_eq_false, q_n0, ne_eq, q_le, q_ti]
    exact ⟨fun _ => hR, fun z => absurd (Int.le_refl _) z⟩
  | succ k ih =>
    intro i h hi h1 h3 hR
    have hi6 : i < 40 := by omega
    have := ih (i + 1) (sx_up h 56 (sx_ai 320 (cpf g (40 * e) (fun _ => 0) (i + 1)))) (by omega) (by rw [q_up_n (by omega)]; exact h1) (q_up_s _ _ _) (by rw [q_up_up]; exact hR)
    obtain ⟨th, st, ac, tp, cu, sa, tk, va, fa, fp, la, tr, hm⟩ := h1
    have hx : 40 * e + i < 320 := by omega
    rw [tX8_row_65]
    simp (disch := omega) only [e_const, e_lconst, e_il, e_ll, e_al, e_is, e_as, e_ls, e_inc, e_bin, e_div, e_un, e_lbin, e_ldiv, e_lcmp, e_i2l, e_l2i, e_if1, e_if2, e_go, e_sw, e_dupi, e_dupr, e_dup2, e_popi, e_popr, e_get, e_put, e_iald, e_iast, e_zald, e_zast, e_aald, e_aast, e_sld, e_slen, e_newa, e_newq, e_mna, e_new, e_oi, e_cs, e_cv, e_ci, e_min, e_max, e_copy, e_rv, e_ri, e_rz, e_rl, e_run, sx_en, sx_cat, sx_tk, sx_ps, sx_set, sx_setl, sx_dl, sx_m, sx_sw, sx_ft, List.map_cons, List.map_nil, List.getElem?_cons_zero, List.getElem?_cons_succ, List.replicate_succ, List.replicate_zero, List.set_cons_zero, List.set_cons_succ, List.length_cons, List.length_nil, Nat.reduceAdd, Nat.reduceSub, Nat.reduceLeDiff, Nat.reduceLT, Nat.reduceMul, Nat.zero_le, Nat.le_refl, Nat.add_zero, Nat.zero_add, true_and, and_true, true_or, bX8_row_65, hm, h3, he, hn2, hn, hx, q_up_s, q_up_n, q_up_up, q_upd_s, q_upd_n, q_upd_upd, q_in, q_in0, q_in1, q_cl, q_cl0, q_cl1, q_add, q_add1, q_1add, q_add0, q_0add, q_mul, q_ite0, q_ite01, q_10, or_true, not_false_eq_true, not_true_eq_false, q_n0, ne_eq, q_le, q_ti, if_true, cpf_s g (40 * e) (fun _ => 0) i]
    exact ⟨fun z => absurd z (by omega), fun _ => this⟩
end MK

set_option maxRecDepth 100000 in
set_option maxHeartbeats 4000000 in
theorem it_all (it : Nat → Int32) {e : Nat} (he : e < 8) : (∀ j, (cpf (fun j => if j < 40 then it (40 * e + j) else 0) 0 (fun _ => 0) 40) j = if j < 40 then cpf it (40 * e) (fun _ => 0) 40 (40 * e + j) else 0) ∧ (∀ r j, r < 8 → r ≠ e → j < 40 → cpf it (40 * e) (fun _ => 0) 40 (40 * r + j) = it (40 * r + j)) := by
  constructor
  · intro j
    by_cases hj : j < 40
    · rw [if_pos hj, cpf, cpf, if_pos (by omega), if_pos (by omega)]
    · rw [if_neg hj, cpf, if_neg (by omega), if_neg hj]
  · intro r j hr hre hj
    exact cpf_o (by omega)
set_option maxRecDepth 100000 in
set_option maxHeartbeats 4000000 in
theorem st_row {h : sx_H} (H : IV h) (u l0 c0 : Int32) : sx_Cal 86 [sx_r (some 0), sx_i u, sx_i l0, sx_i c0] 65 h (IQ 127 [sx_r (some 53), sx_i u, sx_i l0, sx_i c0]) := by
  obtain ⟨lf, st, rs, rl, it, tp, tape, f, k, acts, t, trc, g0, g1, H⟩ := H
  obtain ⟨h0, hXR, hXT, hXB, hXA, hXK, hXI, hMO, hMR, hMB, hMA, hMT, hMI, hMK, hWR, htp, hWB, hk24, hWA, ht16, hWg0, hWg1⟩ := id H
  obtain ⟨th, cu, sa, tk, va, fa, fp, hm⟩ := id hMO
  obtain ⟨c, w, hw, hc, he⟩ := WB_iff.mp hWB
  have hc6 := hc.1
  obtain ⟨⟨cm0, hq⟩, -⟩ := id hMB
  have hq2 : sx_up h 53 (g_m 0 st (nI k) (nI tp) cu sa tk va fa fp lf (nI t)) 57 = sx_ai 64 (toM f cm0) := (q_up_n (by decide)).trans hq
  obtain ⟨h2, eh2⟩ : ∃ z, z = sx_up h 53 (g_m 0 st (nI k) (nI tp) cu sa tk va fa fp lf (nI t)) := ⟨_, rfl⟩
  have hmm : sx_up h 53 (g_m 0 st (nI k) (nI tp) cu sa tk va fa fp lf (nI t)) = h2 := eh2.symm
  have hIC : IC lf st rs rl it tp tape f k acts t trc g0 g1 h2 := by rw [eh2]; exact IC_53 H (fun j hj => q_up_n hj) ⟨_, _, _, _, _, _, _, q_up_s _ _ _⟩
  have hm3 : h2 53 = g_m 0 st (nI k) (nI tp) cu sa tk va fa fp lf (nI t) := by rw [eh2]; exact q_up_s _ _ _
  have hm4 : ∃ x1 x2 x3 x4 x5 x6 x7 x8 x9 y1 y2 y3, h2 53 = g_m x1 x2 x3 x4 x5 x6 x7 x8 x9 y1 y2 y3 := ⟨_, _, _, _, _, _, _, _, _, _, _, _, hm3⟩
  have hq3 : h2 57 = sx_ai 64 (toM f cm0) := by rw [eh2]; exact hq2
  obtain ⟨hR1, hR2, hR3, ⟨l, hR4, hl⟩, hR5⟩ := id hXR
  obtain ⟨⟨ml, hM1, hml⟩, ⟨mm, hM2, hm7⟩, hM3⟩ := id hMR
  simp (disch := omega) only [e_const, e_lconst, e_il, e_ll, e_al, e_is, e_as, e_ls, e_inc, e_bin, e_div, e_un, e_lbin, e_ldiv, e_lcmp, e_i2l, e_l2i, e_if1, e_if2, e_go, e_sw, e_dupi, e_dupr, e_dup2, e_popi, e_popr, e_get, e_put, e_iald, e_iast, e_zald, e_zast, e_aald, e_aast, e_sld, e_slen, e_newa, e_newq, e_mna, e_new, e_oi, e_cs, e_cv, e_ci, e_min, e_max, e_copy, e_rv, e_ri, e_rz, e_rl, e_run, sx_en, sx_cat, sx_tk, sx_ps, sx_set, sx_setl, sx_dl, sx_m, sx_sw, sx_ft, List.map_cons, List.map_nil, List.getElem?_cons_zero, List.getElem?_cons_succ, List.replicate_succ, List.replicate_zero, List.set_cons_zero, List.set_cons_succ, List.length_cons, List.length_nil, Nat.reduceAdd, Nat.reduceSub, Nat.reduceLeDiff, Nat.reduceLT, Nat.reduceMul, Nat.zero_le, Nat.le_refl, Nat.add_zero, Nat.zero_add, true_and, and_true, true_or, cX7_row_c, tX7_row_0, bX7_row_0, tX7_row_22, bX7_row_22, tX7_row_25, bX7_row_25, h0, s_isRow, s_within, hR1, q_up_s, q_up_n, q_up_up, q_upd_s, q_upd_n, q_upd_upd, q_in, q_in0, q_in1, q_cl, q_cl0, q_cl1, q_add, q_add1, q_1add, q_add0, q_0add, q_mul, q_ite0, q_ite01, q_10, or_true, not_false_eq_true, not_true_eq_false, q_n0, ne_eq, false_implies, true_implies, true_and, and_true, not_true_eq_false, not_false_eq_true, Bool.false_eq_true, sx_o, Sum.inr.injEq, Prod.mk.injEq, exists_eq', Nat.reduceLT, q_ti0, q_ti, q_le]
  by_cases hu : 0 ≤ u.toInt ∧ u.toInt ≤ 7
  · obtain ⟨e, he, rfl⟩ := t2n (m := 7) (x := u) (by omega) (by omega)
    have hu' : 0 ≤ (e : Int) ∧ (e : Int) ≤ 7 := by omega
    have he8 : e < 8 := by omega
    by_cases hlo : 0 ≤ l0.toInt ∧ l0.toInt ≤ ((2 : Nat) : Int)
    · by_cases hc40 : c0.toInt ≤ ((40 : Nat) : Int)
      · by_cases hc0 : 0 ≤ c0.toInt
        · obtain ⟨m, hm40, rfl⟩ := t2n (m := 40) (x := c0) ⟨hc0, hc40⟩ (by omega)
          have hc1 : ((m : Int) ≤ ((40 : Nat) : Int)) = True := eq_true (by omega)
          have hc2 : (0 ≤ (m : Int)) = True := eq_true (by omega)
          simp (disch := omega) only [hu, hu', hlo, hc40, hc1, hc2, tX5_make_0, bX5_make_0, tX5_make_10, bX5_make_10, bX5_make_0, cX5_make_c, hR1, q_le, q_ti, q_ti0, e_const, e_lconst, e_il, e_ll, e_al, e_is, e_as, e_ls, e_inc, e_bin, e_div, e_un, e_lbin, e_ldiv, e_lcmp, e_i2l, e_l2i, e_if1, e_if2, e_go, e_sw, e_dupi, e_dupr, e_dup2, e_popi, e_popr, e_get, e_put, e_iald, e_iast, e_zald, e_zast, e_aald, e_aast, e_sld, e_slen, e_newa, e_newq, e_mna, e_new, e_oi, e_cs, e_cv, e_ci, e_min, e_max, e_copy, e_rv, e_ri, e_rz, e_rl, e_run, sx_en, sx_cat, sx_tk, sx_ps, sx_set, sx_setl, sx_dl, sx_m, sx_sw, sx_ft, List.map_cons, List.map_nil, List.getElem?_cons_zero, List.getElem?_cons_succ, List.replicate_succ, List.replicate_zero, List.set_cons_zero, List.set_cons_succ, List.length_cons, List.length_nil, Nat.reduceAdd, Nat.reduceSub, Nat.reduceLeDiff, Nat.reduceLT, Nat.reduceMul, Nat.zero_le, Nat.le_refl, Nat.add_zero, Nat.zero_add, true_and, and_true, true_or, q_up_s, q_up_n, q_up_up, q_upd_s, q_upd_n, q_upd_upd, q_in, q_in0, q_in1, q_cl, q_cl0, q_cl1, q_add, q_add1, q_1add, q_add0, q_0add, q_mul, q_ite0, q_ite01, q_10, or_true, not_false_eq_true, not_true_eq_false, q_n0, ne_eq, false_implies, true_implies, true_and, and_true, not_true_eq_false, not_false_eq_true, Bool.false_eq_true, sx_o, Sum.inr.injEq, Prod.mk.injEq, exists_eq', Nat.reduceLT]
          have key := fun Rt hR => s_make_lp (st := st) he8 (show 52 < 65 by decide) (nI m) l0 (fun j => if j < 40 then it (40 * e + j) else 0) Rt 40 0 h rfl hR1 hR2 (by rw [cpf_0]; exact hR3 e he8) hR
          rw [nI_0] at key
          refine key _ ?_
          simp (disch := omega) only [tX5_make_36, bX5_make_36, hR1, hR4, hR5, e_const, e_lconst, e_il, e_ll, e_al, e_is, e_as, e_ls, e_inc, e_bin, e_div, e_un, e_lbin, e_ldiv, e_lcmp, e_i2l, e_l2i, e_if1, e_if2, e_go, e_sw, e_dupi, e_dupr, e_dup2, e_popi, e_popr, e_get, e_put, e_iald, e_iast, e_zald, e_zast, e_aald, e_aast, e_sld, e_slen, e_newa, e_newq, e_mna, e_new, e_oi, e_cs, e_cv, e_ci, e_min, e_max, e_copy, e_rv, e_ri, e_rz, e_rl, e_run, sx_en, sx_cat, sx_tk, sx_ps, sx_set, sx_setl, sx_dl, sx_m, sx_sw, sx_ft, List.map_cons, List.map_nil, List.getElem?_cons_zero, List.getElem?_cons_succ, List.replicate_succ, List.replicate_zero, List.set_cons_zero, List.set_cons_succ, List.length_cons, List.length_nil, Nat.reduceAdd, Nat.reduceSub, Nat.reduceLeDiff, Nat.reduceLT, Nat.reduceMul, Nat.zero_le, Nat.le_refl, Nat.add_zero, Nat.zero_add, true_and, and_true, true_or, q_up_s, q_up_n, q_up_up, q_upd_s, q_upd_n, q_upd_upd, q_in, q_in0, q_in1, q_cl, q_cl0, q_cl1, q_add, q_add1, q_1add, q_add0, q_0add, q_mul, q_ite0, q_ite01, q_10, or_true, not_false_eq_true, not_true_eq_false, q_n0, ne_eq, false_implies, true_implies, true_and, and_true, not_true_eq_false, not_false_eq_true, Bool.false_eq_true, sx_o, Sum.inr.injEq, Prod.mk.injEq, exists_eq', Nat.reduceLT]
          refine iq_ab ?_
          intro hA ehA
          have rm : hA 53 = g_m th st (nI k) (nI tp) cu sa tk va fa fp lf (nI t) := by rw [ehA]; simp (disch := omega) only [q_up_n]; exact hm
          obtain ⟨hB, ehB⟩ : ∃ z, z = sx_up hA 53 (g_m 0 st (nI k) (nI tp) cu sa tk va fa fp lf (nI t)) := ⟨_, rfl⟩
          have rmm : sx_up hA 53 (g_m 0 st (nI k) (nI tp) cu sa tk va fa fp lf (nI t)) = hB := ehB.symm
          have rm3 : hB 53 = g_m 0 st (nI k) (nI tp) cu sa tk va fa fp lf (nI t) := by rw [ehB]; exact q_up_s _ _ _
          have rm4 : ∃ x1 x2 x3 x4 x5 x6 x7 x8 x9 y1 y2 y3, hB 53 = g_m x1 x2 x3 x4 x5 x6 x7 x8 x9 y1 y2 y3 := ⟨_, _, _, _, _, _, _, _, _, _, _, _, rm3⟩
          have rA54 := (show hA 54 = h 54 by rw [ehA]; simp (disch := omega) only [q_up_n]).trans hM1
          have rB54 := (show hB 54 = hA 54 by rw [ehB]; exact q_up_n (by decide)).trans rA54
          have rE54 := fun (E : sx_E) => (show sx_up hB 53 E 54 = hB 54 from q_up_n (by decide)).trans rB54
          have rA55 := (show hA 55 = h 55 by rw [ehA]; simp (disch := omega) only [q_up_n]).trans hM2
          have rB55 := (show hB 55 = hA 55 by rw [ehB]; exact q_up_n (by decide)).trans rA55
          have rE55 := fun (E : sx_E) => (show sx_up hB 53 E 55 = hB 55 from q_up_n (by decide)).trans rB55
          have rA56 := (show hA 56 = h 56 by rw [ehA]; simp (disch := omega) only [q_up_n]).trans hM3
          have rB56 := (show hB 56 = hA 56 by rw [ehB]; exact q_up_n (by decide)).trans rA56
          have rE56 := fun (E : sx_E) => (show sx_up hB 53 E 56 = hB 56 from q_up_n (by decide)).trans rB56
          simp (disch := omega) only [e_const, e_lconst, e_il, e_ll, e_al, e_is, e_as, e_ls, e_inc, e_bin, e_div, e_un, e_lbin, e_ldiv, e_lcmp, e_i2l, e_l2i, e_if1, e_if2, e_go, e_sw, e_dupi, e_dupr, e_dup2, e_popi, e_popr, e_get, e_put, e_iald, e_iast, e_zald, e_zast, e_aald, e_aast, e_sld, e_slen, e_newa, e_newq, e_mna, e_new, e_oi, e_cs, e_cv, e_ci, e_min, e_max, e_copy, e_rv, e_ri, e_rz, e_rl, e_run, sx_en, sx_cat, sx_tk, sx_ps, sx_set, sx_setl, sx_dl, sx_m, sx_sw, sx_ft, List.map_cons, List.map_nil, List.getElem?_cons_zero, List.getElem?_cons_succ, List.replicate_succ, List.replicate_zero, List.set_cons_zero, List.set_cons_succ, List.length_cons, List.length_nil, Nat.reduceAdd, Nat.reduceSub, Nat.reduceLeDiff, Nat.reduceLT, Nat.reduceMul, Nat.zero_le, Nat.le_refl, Nat.add_zero, Nat.zero_add, true_and, and_true, true_or, cX8_row_c, tX8_row_0, bX8_row_0, tX8_row_30, bX8_row_30, tX8_row_33, bX8_row_33, tX8_row_48, bX8_row_48, cX8_finding_c, tX8_finding_0, bX8_finding_0, rm, rmm, rm3, rB54, rE54, rE55, s_in, s_isRowM, q_le, q_wide, q_lti, q_lti0, q_ti, q_ti0, hu', hlo, hc1, hc2, q_up_s, q_up_n, q_up_up, q_upd_s, q_upd_n, q_upd_upd, q_in, q_in0, q_in1, q_cl, q_cl0, q_cl1, q_add, q_add1, q_1add, q_add0, q_0add, q_mul, q_ite0, q_ite01, q_10, or_true, not_false_eq_true, not_true_eq_false, q_n0, ne_eq, sx_o, Sum.inr.injEq, Prod.mk.injEq, exists_eq', Nat.reduceLT, false_implies, true_implies, true_and, and_true, not_true_eq_false, not_false_eq_true, Bool.false_eq_true]
          have key2 := fun Rt h hm h3 hR => s_rowM_lp he8 (show 56 < 65 by decide) (nI m) it Rt 40 0 h rfl hm h3 hR
          rw [nI_0] at key2
          refine key2 _ _ ⟨0, 0, nI k, nI tp, cu, sa, tk, va, fa, fp, lf, nI t, ?_⟩ ?_ ⟨⟨rfl, rfl, ?_⟩, Nat.le_refl _, Nat.le_refl _⟩
          · simp (disch := omega) only [ehA, ehB, q_up_n, q_up_s, q_up_up]
          · rw [cpf_0]; simp (disch := omega) only [ehA, ehB, q_up_n, q_up_s, q_up_up]; exact hM3
          · obtain ⟨o1, o2⟩ := it_all it he8
            have hne : ¬ nI m = -1 := fun z => by have := nI_toInt (show m < 2147483648 by omega); rw [z] at this; revert this; rw [show (-1 : Int32).toInt = -1 by decide +kernel]; omega
            refine IV_of (IC_rows (st' := 0) (rs' := upd rs e (nI m)) (rl' := upd rl e l0) (it' := cpf it (40 * e) (fun _ => 0) 40) H (fun j h1 h2 h3 => ?_) ⟨?_, ?_, fun r hr => ?_, ⟨upd l e l0, ?_, fun r hr hz => ?_⟩, ?_⟩ ⟨0, cu, sa, tk, va, fa, fp, ?_⟩ ⟨⟨upd ml e l0, ?_, fun r hr => ⟨fun hz => ?_, fun hz => ?_⟩⟩, ⟨upd mm e (nI m), ?_, fun r hr hz => ?_⟩, ?_⟩ (fun r hr => ?_))
            · simp (disch := omega) only [ehA, ehB, q_up_n, q_up_s, q_up_up]
            · simp (disch := omega) only [ehA, ehB, q_up_n, q_up_s, q_up_up]
            · simp (disch := omega) only [ehA, ehB, q_up_n, q_up_s, q_up_up]; exact hR2
            · rw [show ∀ z : sx_H, sx_up z 56 (sx_ai 320 (cpf it (40 * e) (fun _ => 0) 40)) (3 + r) = z (3 + r) from fun z => q_up_n (by omega)]
              simp (disch := omega) only [ehA, ehB, q_up_n, q_up_s, q_up_up]
              exact (XR_it hXR he8 o1 o2).2.2.1 r hr
            · simp (disch := omega) only [ehA, ehB, q_up_n, q_up_s, q_up_up]
            · by_cases q : r = e
              · rw [q, q_upd_s, q_upd_s]
              · rw [q_upd_n q] at hz ⊢; rw [q_upd_n q]; exact hl r hr hz
            · simp (disch := omega) only [ehA, ehB, q_up_n, q_up_s, q_up_up]
            · simp (disch := omega) only [ehA, ehB, q_up_n, q_up_s, q_up_up]
            · simp (disch := omega) only [ehA, ehB, q_up_n, q_up_s, q_up_up]
            · by_cases q : r = e
              · rw [q, q_upd_s] at hz; exact absurd hz hne
              · rw [q_upd_n q] at hz ⊢; exact (hml r hr).1 hz
            · by_cases q : r = e
              · rw [q, q_upd_s, q_upd_s]
              · rw [q_upd_n q] at hz ⊢; rw [q_upd_n q]; exact (hml r hr).2 hz
            · simp (disch := omega) only [ehA, ehB, q_up_n, q_up_s, q_up_up]
            · by_cases q : r = e
              · rw [q, q_upd_s, q_upd_s]
              · rw [q_upd_n q] at hz ⊢; rw [q_upd_n q]; exact hm7 r hr hz
            · simp (disch := omega) only [ehA, ehB, q_up_n, q_up_s, q_up_up]
            · by_cases q : r = e
              · rw [q, q_upd_s, q_upd_s]
                obtain ⟨x, hx2, hx⟩ := t2n hlo (by omega)
                refine Or.inr ⟨⟨m, hm40, rfl⟩, ?_⟩
                have hx3 : x = 0 ∨ x = 1 ∨ x = 2 := by omega
                rcases hx3 with y | y | y <;> subst y <;> rw [hx]
                · exact Or.inl nI_0
                · exact Or.inr (Or.inl nI_e1)
                · exact Or.inr (Or.inr rfl)
              · rw [q_upd_n q, q_upd_n q]; exact hWR r hr
        · simp (disch := omega) only [hu, hu', hlo, hc40, hc0, cX5_make_c, tX5_make_0, bX5_make_0, tX5_make_10, bX5_make_10, cX5_find_c, tX5_find_0, bX5_find_0, hR1, q_le, q_ti, q_ti0, e_const, e_lconst, e_il, e_ll, e_al, e_is, e_as, e_ls, e_inc, e_bin, e_div, e_un, e_lbin, e_ldiv, e_lcmp, e_i2l, e_l2i, e_if1, e_if2, e_go, e_sw, e_dupi, e_dupr, e_dup2, e_popi, e_popr, e_get, e_put, e_iald, e_iast, e_zald, e_zast, e_aald, e_aast, e_sld, e_slen, e_newa, e_newq, e_mna, e_new, e_oi, e_cs, e_cv, e_ci, e_min, e_max, e_copy, e_rv, e_ri, e_rz, e_rl, e_run, sx_en, sx_cat, sx_tk, sx_ps, sx_set, sx_setl, sx_dl, sx_m, sx_sw, sx_ft, List.map_cons, List.map_nil, List.getElem?_cons_zero, List.getElem?_cons_succ, List.replicate_succ, List.replicate_zero, List.set_cons_zero, List.set_cons_succ, List.length_cons, List.length_nil, Nat.reduceAdd, Nat.reduceSub, Nat.reduceLeDiff, Nat.reduceLT, Nat.reduceMul, Nat.zero_le, Nat.le_refl, Nat.add_zero, Nat.zero_add, true_and, and_true, true_or, q_up_s, q_up_n, q_up_up, q_upd_s, q_upd_n, q_upd_upd, q_in, q_in0, q_in1, q_cl, q_cl0, q_cl1, q_add, q_add1, q_1add, q_add0, q_0add, q_mul, q_ite0, q_ite01, q_10, or_true, not_false_eq_true, not_true_eq_false, q_n0, ne_eq, false_implies, true_implies, true_and, and_true, not_true_eq_false, not_false_eq_true, Bool.false_eq_true, sx_o, Sum.inr.injEq, Prod.mk.injEq, exists_eq', Nat.reduceLT]
          refine iq_ab ?_
          intro hA ehA
          have rm : hA 53 = g_m th st (nI k) (nI tp) cu sa tk va fa fp lf (nI t) := by rw [ehA]; simp (disch := omega) only [q_up_n]; exact hm
          obtain ⟨hB, ehB⟩ : ∃ z, z = sx_up hA 53 (g_m 0 st (nI k) (nI tp) cu sa tk va fa fp lf (nI t)) := ⟨_, rfl⟩
          have rmm : sx_up hA 53 (g_m 0 st (nI k) (nI tp) cu sa tk va fa fp lf (nI t)) = hB := ehB.symm
          have rm3 : hB 53 = g_m 0 st (nI k) (nI tp) cu sa tk va fa fp lf (nI t) := by rw [ehB]; exact q_up_s _ _ _
          have rm4 : ∃ x1 x2 x3 x4 x5 x6 x7 x8 x9 y1 y2 y3, hB 53 = g_m x1 x2 x3 x4 x5 x6 x7 x8 x9 y1 y2 y3 := ⟨_, _, _, _, _, _, _, _, _, _, _, _, rm3⟩
          have rA54 := (show hA 54 = h 54 by rw [ehA]; simp (disch := omega) only [q_up_n]).trans hM1
          have rB54 := (show hB 54 = hA 54 by rw [ehB]; exact q_up_n (by decide)).trans rA54
          have rE54 := fun (E : sx_E) => (show sx_up hB 53 E 54 = hB 54 from q_up_n (by decide)).trans rB54
          have rA55 := (show hA 55 = h 55 by rw [ehA]; simp (disch := omega) only [q_up_n]).trans hM2
          have rB55 := (show hB 55 = hA 55 by rw [ehB]; exact q_up_n (by decide)).trans rA55
          have rE55 := fun (E : sx_E) => (show sx_up hB 53 E 55 = hB 55 from q_up_n (by decide)).trans rB55
          simp (disch := omega) only [e_const, e_lconst, e_il, e_ll, e_al, e_is, e_as, e_ls, e_inc, e_bin, e_div, e_un, e_lbin, e_ldiv, e_lcmp, e_i2l, e_l2i, e_if1, e_if2, e_go, e_sw, e_dupi, e_dupr, e_dup2, e_popi, e_popr, e_get, e_put, e_iald, e_iast, e_zald, e_zast, e_aald, e_aast, e_sld, e_slen, e_newa, e_newq, e_mna, e_new, e_oi, e_cs, e_cv, e_ci, e_min, e_max, e_copy, e_rv, e_ri, e_rz, e_rl, e_run, sx_en, sx_cat, sx_tk, sx_ps, sx_set, sx_setl, sx_dl, sx_m, sx_sw, sx_ft, List.map_cons, List.map_nil, List.getElem?_cons_zero, List.getElem?_cons_succ, List.replicate_succ, List.replicate_zero, List.set_cons_zero, List.set_cons_succ, List.length_cons, List.length_nil, Nat.reduceAdd, Nat.reduceSub, Nat.reduceLeDiff, Nat.reduceLT, Nat.reduceMul, Nat.zero_le, Nat.le_refl, Nat.add_zero, Nat.zero_add, true_and, and_true, true_or, cX8_row_c, tX8_row_0, bX8_row_0, tX8_row_30, bX8_row_30, tX8_row_33, bX8_row_33, tX8_row_48, bX8_row_48, cX8_finding_c, tX8_finding_0, bX8_finding_0, rm, rmm, rm3, rB54, rE54, rE55, s_in, s_isRowM, q_le, q_wide, q_lti, q_lti0, q_ti, q_ti0, hu', hlo, hc40, hc0, q_up_s, q_up_n, q_up_up, q_upd_s, q_upd_n, q_upd_upd, q_in, q_in0, q_in1, q_cl, q_cl0, q_cl1, q_add, q_add1, q_1add, q_add0, q_0add, q_mul, q_ite0, q_ite01, q_10, or_true, not_false_eq_true, not_true_eq_false, q_n0, ne_eq, sx_o, Sum.inr.injEq, Prod.mk.injEq, exists_eq', Nat.reduceLT, false_implies, true_implies, true_and, and_true, not_true_eq_false, not_false_eq_true, Bool.false_eq_true]
          subst ehB; subst ehA
          simp only [q_up_up]
          exact IV_of (IC_st H)
      · simp (disch := omega) only [hu, hlo, hc40, q_up_s, q_up_n, q_up_up, q_upd_s, q_upd_n, q_upd_upd, q_in, q_in0, q_in1, q_cl, q_cl0, q_cl1, q_add, q_add1, q_1add, q_add0, q_0add, q_mul, q_ite0, q_ite01, q_10, or_true, not_false_eq_true, not_true_eq_false, q_n0, ne_eq, false_implies, true_implies, true_and, and_true, not_true_eq_false, not_false_eq_true, Bool.false_eq_true]
        refine iq_in ?_
        simp (disch := omega) only [e_const, e_lconst, e_il, e_ll, e_al, e_is, e_as, e_ls, e_inc, e_bin, e_div, e_un, e_lbin, e_ldiv, e_lcmp, e_i2l, e_l2i, e_if1, e_if2, e_go, e_sw, e_dupi, e_dupr, e_dup2, e_popi, e_popr, e_get, e_put, e_iald, e_iast, e_zald, e_zast, e_aald, e_aast, e_sld, e_slen, e_newa, e_newq, e_mna, e_new, e_oi, e_cs, e_cv, e_ci, e_min, e_max, e_copy, e_rv, e_ri, e_rz, e_rl, e_run, sx_en, sx_cat, sx_tk, sx_ps, sx_set, sx_setl, sx_dl, sx_m, sx_sw, sx_ft, List.map_cons, List.map_nil, List.getElem?_cons_zero, List.getElem?_cons_succ, List.replicate_succ, List.replicate_zero, List.set_cons_zero, List.set_cons_succ, List.length_cons, List.length_nil, Nat.reduceAdd, Nat.reduceSub, Nat.reduceLeDiff, Nat.reduceLT, Nat.reduceMul, Nat.zero_le, Nat.le_refl, Nat.add_zero, Nat.zero_add, true_and, and_true, true_or, cX8_row_c, tX8_row_0, bX8_row_0, tX8_row_30, bX8_row_30, tX8_row_33, bX8_row_33, tX8_row_48, bX8_row_48, hm, hmm, hm3, s_isRowM, s_in, q_le, q_wide, q_lti0, q_lti, q_ti, hu', hlo, hc40, q_up_s, q_up_n, q_up_up, q_upd_s, q_upd_n, q_upd_upd, q_in, q_in0, q_in1, q_cl, q_cl0, q_cl1, q_add, q_add1, q_1add, q_add0, q_0add, q_mul, q_ite0, q_ite01, q_10, or_true, not_false_eq_true, not_true_eq_false, q_n0, ne_eq, sx_o, Sum.inr.injEq, Prod.mk.injEq, exists_eq', Nat.reduceLT, false_implies, true_implies, true_and, and_true, not_true_eq_false, not_false_eq_true, Bool.false_eq_true]
        first | exact IV_of hIC | exact ⟨rfl, rfl, IV_of hIC⟩ | (simp; done) | (simp; intros; exact IV_of hIC)
    · simp (disch := omega) only [hu, hlo, q_up_s, q_up_n, q_up_up, q_upd_s, q_upd_n, q_upd_upd, q_in, q_in0, q_in1, q_cl, q_cl0, q_cl1, q_add, q_add1, q_1add, q_add0, q_0add, q_mul, q_ite0, q_ite01, q_10, or_true, not_false_eq_true, not_true_eq_false, q_n0, ne_eq, false_implies, true_implies, true_and, and_true, not_true_eq_false, not_false_eq_true, Bool.false_eq_true]
      refine iq_in ?_
      simp (disch := omega) only [e_const, e_lconst, e_il, e_ll, e_al, e_is, e_as, e_ls, e_inc, e_bin, e_div, e_un, e_lbin, e_ldiv, e_lcmp, e_i2l, e_l2i, e_if1, e_if2, e_go, e_sw, e_dupi, e_dupr, e_dup2, e_popi, e_popr, e_get, e_put, e_iald, e_iast, e_zald, e_zast, e_aald, e_aast, e_sld, e_slen, e_newa, e_newq, e_mna, e_new, e_oi, e_cs, e_cv, e_ci, e_min, e_max, e_copy, e_rv, e_ri, e_rz, e_rl, e_run, sx_en, sx_cat, sx_tk, sx_ps, sx_set, sx_setl, sx_dl, sx_m, sx_sw, sx_ft, List.map_cons, List.map_nil, List.getElem?_cons_zero, List.getElem?_cons_succ, List.replicate_succ, List.replicate_zero, List.set_cons_zero, List.set_cons_succ, List.length_cons, List.length_nil, Nat.reduceAdd, Nat.reduceSub, Nat.reduceLeDiff, Nat.reduceLT, Nat.reduceMul, Nat.zero_le, Nat.le_refl, Nat.add_zero, Nat.zero_add, true_and, and_true, true_or, cX8_row_c, tX8_row_0, bX8_row_0, tX8_row_30, bX8_row_30, tX8_row_33, bX8_row_33, tX8_row_48, bX8_row_48, hm, hmm, hm3, s_isRowM, s_in, q_wide, q_lti0, q_lti, q_ti, hu', hlo, q_up_s, q_up_n, q_up_up, q_upd_s, q_upd_n, q_upd_upd, q_in, q_in0, q_in1, q_cl, q_cl0, q_cl1, q_add, q_add1, q_1add, q_add0, q_0add, q_mul, q_ite0, q_ite01, q_10, or_true, not_false_eq_true, not_true_eq_false, q_n0, ne_eq, sx_o, Sum.inr.injEq, Prod.mk.injEq, exists_eq', Nat.reduceLT, false_implies, true_implies, true_and, and_true, not_true_eq_false, not_false_eq_true, Bool.false_eq_true]
      first | exact IV_of hIC | exact ⟨rfl, rfl, IV_of hIC⟩ | (simp; done) | (simp; intros; exact IV_of hIC)
  · simp (disch := omega) only [hu, q_up_s, q_up_n, q_up_up, q_upd_s, q_upd_n, q_upd_upd, q_in, q_in0, q_in1, q_cl, q_cl0, q_cl1, q_add, q_add1, q_1add, q_add0, q_0add, q_mul, q_ite0, q_ite01, q_10, or_true, not_false_eq_true, not_true_eq_false, q_n0, ne_eq, false_implies, true_implies, true_and, and_true, not_true_eq_false, not_false_eq_true, Bool.false_eq_true]
    refine iq_in ?_
    simp (disch := omega) only [e_const, e_lconst, e_il, e_ll, e_al, e_is, e_as, e_ls, e_inc, e_bin, e_div, e_un, e_lbin, e_ldiv, e_lcmp, e_i2l, e_l2i, e_if1, e_if2, e_go, e_sw, e_dupi, e_dupr, e_dup2, e_popi, e_popr, e_get, e_put, e_iald, e_iast, e_zald, e_zast, e_aald, e_aast, e_sld, e_slen, e_newa, e_newq, e_mna, e_new, e_oi, e_cs, e_cv, e_ci, e_min, e_max, e_copy, e_rv, e_ri, e_rz, e_rl, e_run, sx_en, sx_cat, sx_tk, sx_ps, sx_set, sx_setl, sx_dl, sx_m, sx_sw, sx_ft, List.map_cons, List.map_nil, List.getElem?_cons_zero, List.getElem?_cons_succ, List.replicate_succ, List.replicate_zero, List.set_cons_zero, List.set_cons_succ, List.length_cons, List.length_nil, Nat.reduceAdd, Nat.reduceSub, Nat.reduceLeDiff, Nat.reduceLT, Nat.reduceMul, Nat.zero_le, Nat.le_refl, Nat.add_zero, Nat.zero_add, true_and, and_true, true_or, cX8_row_c, tX8_row_0, bX8_row_0, tX8_row_30, bX8_row_30, tX8_row_33, bX8_row_33, tX8_row_48, bX8_row_48, hm, hmm, hm3, s_isRowM, q_wide, q_lti0, q_lti, hu, q_up_s, q_up_n, q_up_up, q_upd_s, q_upd_n, q_upd_upd, q_in, q_in0, q_in1, q_cl, q_cl0, q_cl1, q_add, q_add1, q_1add, q_add0, q_0add, q_mul, q_ite0, q_ite01, q_10, or_true, not_false_eq_true, not_true_eq_false, q_n0, ne_eq, sx_o, Sum.inr.injEq, Prod.mk.injEq, exists_eq', Nat.reduceLT, false_implies, true_implies, true_and, and_true, not_true_eq_false, not_false_eq_true, Bool.false_eq_true]
    first | exact IV_of hIC | exact ⟨rfl, rfl, IV_of hIC⟩ | (simp; done) | (simp; intros; exact IV_of hIC)
