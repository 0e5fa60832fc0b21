/-! shop: the step -/
set_option maxRecDepth 100000 in
set_option maxHeartbeats 4000000 in
theorem to1_is {f : Nat → Int32} (h : ¬ f 58 = 0) : to1 f = toM f 0 := by
  rw [to1, q_upd_id]
  unfold toM
  rw [if_pos (by omega), if_pos rfl, if_neg h]
set_option maxRecDepth 100000 in
set_option maxHeartbeats 4000000 in
theorem s_shopB {T g f : Nat → Int32} {tp : Nat} {lf p s t kk nx : Int32} {h : sx_H} {Q : sx_Q} (htp : tp ≤ 120) (h0 : h 0 = g_x lf) (h1 : h 13 = sx_o 5 [sx_r (some 14), sx_i (nI tp), sx_i p, sx_i s, sx_i t]) (h2 : h 14 = sx_ai 120 T) (h3 : h 17 = sx_o 2 [sx_r (some 18)]) (h4 : h 18 = sx_ai 62 g) (hg : ∀ j, 62 ≤ j → g j = 0) (h5 : h 15 = sx_o 2 [sx_r (some 16)]) (h6 : h 16 = sx_ai 62 f) (hf : ∀ j, 62 ≤ j → f j = 0) (h7 : h 19 = sx_o 0 [sx_r (some 20), sx_i nx, sx_i kk])
    (hQ0 : (p_M T tp 121 0 0 0 (fun _ => 0)).1.2 = 0 → ∀ h' p s t, h' 13 = sx_o 5 [sx_r (some 14), sx_i 0, sx_i p, sx_i s, sx_i t] → h' 16 = sx_ai 62 (p_M T tp 121 0 0 0 (fun _ => 0)).2 → (∃ g, h' 18 = sx_ai 62 g ∧ ∀ j, 62 ≤ j → g j = 0) → h' 19 = sx_o 0 [sx_r (some 20), sx_i nx, sx_i 0] → (∀ j, j ≠ 13 → j ≠ 16 → j ≠ 18 → j ≠ 19 → h' j = h j) → Q (some (sx_i ((p_M T tp 121 0 0 0 (fun _ => 0)).2 58))) 65 h')
    (hQ1 : ¬ (p_M T tp 121 0 0 0 (fun _ => 0)).1.2 = 0 → ∀ h' p s t, h' 0 = g_x (nI (p_M T tp 121 0 0 0 (fun _ => 0)).1.2) → h' 13 = sx_o 5 [sx_r (some 14), sx_i 0, sx_i p, sx_i s, sx_i t] → (∃ g, h' 18 = sx_ai 62 g ∧ ∀ j, 62 ≤ j → g j = 0) → (∀ j, j ≠ 0 → j ≠ 13 → j ≠ 18 → h' j = h j) → Q (some (sx_i (-1000100 - nI (p_M T tp 121 0 0 0 (fun _ => 0)).1.1))) 65 h')
    (hw : (p_M T tp 121 0 0 0 (fun _ => 0)).1.2 < 1000) : sx_Cal 91 [sx_r (some 0)] 65 h Q := by
  simp (disch := omega) only [e_const, e_lconst, e_il, e_ll, e_al, z_is, z_as, z_ls, z_inc, e_bin, e_div, e_un, e_lbin, e_ldiv, e_lcmp, e_i2l, e_l2i, e_if1, e_if2, z_go, e_sw, e_dupi, e_dupr, e_dup2, e_popi, e_popr, e_get, e_put, e_iald, e_iast, e_zald, e_zast, e_aald, e_aast, e_sld, e_slen, e_newa, e_newq, e_mna, e_new, e_oi, e_cs, e_cv, e_ci, e_min, e_max, e_copy, e_rv, e_ri, e_rz, e_rl, z_run, sx_en, sx_cat, sx_tk, sx_ps, sx_set, sx_setl, sx_dl, sx_m, sx_sw, sx_ft, List.map_cons, List.map_nil, List.getElem?_cons_zero, List.getElem?_cons_succ, List.replicate_succ, List.replicate_zero, List.set_cons_zero, List.set_cons_succ, List.length_cons, List.length_nil, Nat.reduceAdd, Nat.reduceSub, Nat.reduceLeDiff, Nat.reduceLT, Nat.reduceMul, Nat.zero_le, Nat.le_refl, Nat.add_zero, Nat.zero_add, true_and, and_true, true_or, cX7_shop_c, tX7_shop_0, bX7_shop_0, h0, h1, q_up_s, q_up_n, q_up_up, q_upd_s, q_upd_n, q_upd_upd, q_in, q_in0, q_in1, q_cl, q_cl0, q_cl1, q_add, q_add1, q_1add, q_add0, q_0add, q_mul, q_ite0, q_ite01, q_10, or_true, not_false_eq_true, not_true_eq_false, q_n0, ne_eq, false_implies, true_implies, true_and, and_true, not_true_eq_false, not_false_eq_true, Bool.false_eq_true, sx_o, Sum.inr.injEq, Prod.mk.injEq, exists_eq', Nat.reduceLT]
  refine s_readB (by decide) htp h1 h2 h3 h4 hg (fun h' s' pt' u1 u2 u3 => ?_)
  obtain ⟨R, hR⟩ : ∃ R, R = p_M T tp 121 0 0 0 (fun _ => 0) := ⟨_, rfl⟩
  rw [← hR] at u1 u2 hQ0 hQ1 hw ⊢
  obtain ⟨g', u2a, u2b, u2c⟩ := u2
  have e0 := (u3 0 (by decide) (by decide)).trans h0
  have e15 := (u3 15 (by decide) (by decide)).trans h5
  have e16 := (u3 16 (by decide) (by decide)).trans h6
  have e17 := (u3 17 (by decide) (by decide)).trans h3
  have e19 := (u3 19 (by decide) (by decide)).trans h7
  simp (disch := omega) only [e_const, e_lconst, e_il, e_ll, e_al, z_is, z_as, z_ls, z_inc, e_bin, e_div, e_un, e_lbin, e_ldiv, e_lcmp, e_i2l, e_l2i, e_if1, e_if2, z_go, e_sw, e_dupi, e_dupr, e_dup2, e_popi, e_popr, e_get, e_put, e_iald, e_iast, e_zald, e_zast, e_aald, e_aast, e_sld, e_slen, e_newa, e_newq, e_mna, e_new, e_oi, e_cs, e_cv, e_ci, e_min, e_max, e_copy, e_rv, e_ri, e_rz, e_rl, z_run, sx_en, sx_cat, sx_tk, sx_ps, sx_set, sx_setl, sx_dl, sx_m, sx_sw, sx_ft, List.map_cons, List.map_nil, List.getElem?_cons_zero, List.getElem?_cons_succ, List.replicate_succ, List.replicate_zero, List.set_cons_zero, List.set_cons_succ, List.length_cons, List.length_nil, Nat.reduceAdd, Nat.reduceSub, Nat.reduceLeDiff, Nat.reduceLT, Nat.reduceMul, Nat.zero_le, Nat.le_refl, Nat.add_zero, Nat.zero_add, true_and, and_true, true_or, e0, u1, q_up_s, q_up_n, q_up_up, q_upd_s, q_upd_n, q_upd_upd, q_in, q_in0, q_in1, q_cl, q_cl0, q_cl1, q_add, q_add1, q_1add, q_add0, q_0add, q_mul, q_ite0, q_ite01, q_10, or_true, not_false_eq_true, not_true_eq_false, q_n0, ne_eq, false_implies, true_implies, true_and, and_true, not_true_eq_false, not_false_eq_true, Bool.false_eq_true, sx_o, Sum.inr.injEq, Prod.mk.injEq, exists_eq', Nat.reduceLT]
  simp (disch := omega) only [e_const, e_lconst, e_il, e_ll, e_al, z_is, z_as, z_ls, z_inc, e_bin, e_div, e_un, e_lbin, e_ldiv, e_lcmp, e_i2l, e_l2i, e_if1, e_if2, z_go, e_sw, e_dupi, e_dupr, e_dup2, e_popi, e_popr, e_get, e_put, e_iald, e_iast, e_zald, e_zast, e_aald, e_aast, e_sld, e_slen, e_newa, e_newq, e_mna, e_new, e_oi, e_cs, e_cv, e_ci, e_min, e_max, e_copy, e_rv, e_ri, e_rz, e_rl, z_run, sx_en, sx_cat, sx_tk, sx_ps, sx_set, sx_setl, sx_dl, sx_m, sx_sw, sx_ft, List.map_cons, List.map_nil, List.getElem?_cons_zero, List.getElem?_cons_succ, List.replicate_succ, List.replicate_zero, List.set_cons_zero, List.set_cons_succ, List.length_cons, List.length_nil, Nat.reduceAdd, Nat.reduceSub, Nat.reduceLeDiff, Nat.reduceLT, Nat.reduceMul, Nat.zero_le, Nat.le_refl, Nat.add_zero, Nat.zero_add, true_and, and_true, true_or, cX6_empty_c, tX6_empty_0, bX6_empty_0, u1, q_up_s, q_up_n, q_up_up, q_upd_s, q_upd_n, q_upd_upd, q_in, q_in0, q_in1, q_cl, q_cl0, q_cl1, q_add, q_add1, q_1add, q_add0, q_0add, q_mul, q_ite0, q_ite01, q_10, or_true, not_false_eq_true, not_true_eq_false, q_n0, ne_eq, false_implies, true_implies, true_and, and_true, not_true_eq_false, not_false_eq_true, Bool.false_eq_true, sx_o, Sum.inr.injEq, Prod.mk.injEq, exists_eq', Nat.reduceLT]
  by_cases y : R.1.2 = 0
  · have q0 := hQ0 y
    have hy : (nI R.1.2 = 0) = True := eq_true (by rw [y, nI_0])
    have c15 := fun e => (q_up_n (h := h') (k := 13) (j := 15) (e := e) (by decide)).trans e15
    simp (disch := omega) only [e_const, e_lconst, e_il, e_ll, e_al, z_is, z_as, z_ls, z_inc, e_bin, e_div, e_un, e_lbin, e_ldiv, e_lcmp, e_i2l, e_l2i, e_if1, e_if2, z_go, e_sw, e_dupi, e_dupr, e_dup2, e_popi, e_popr, e_get, e_put, e_iald, e_iast, e_zald, e_zast, e_aald, e_aast, e_sld, e_slen, e_newa, e_newq, e_mna, e_new, e_oi, e_cs, e_cv, e_ci, e_min, e_max, e_copy, e_rv, e_ri, e_rz, e_rl, z_run, sx_en, sx_cat, sx_tk, sx_ps, sx_set, sx_setl, sx_dl, sx_m, sx_sw, sx_ft, List.map_cons, List.map_nil, List.getElem?_cons_zero, List.getElem?_cons_succ, List.replicate_succ, List.replicate_zero, List.set_cons_zero, List.set_cons_succ, List.length_cons, List.length_nil, Nat.reduceAdd, Nat.reduceSub, Nat.reduceLeDiff, Nat.reduceLT, Nat.reduceMul, Nat.zero_le, Nat.le_refl, Nat.add_zero, Nat.zero_add, true_and, and_true, true_or, hy, q_up_s, q_up_n, q_up_up, q_upd_s, q_upd_n, q_upd_upd, q_in, q_in0, q_in1, q_cl, q_cl0, q_cl1, q_add, q_add1, q_1add, q_add0, q_0add, q_mul, q_ite0, q_ite01, q_10, or_true, not_false_eq_true, not_true_eq_false, q_n0, ne_eq, false_implies, true_implies, true_and, and_true, not_true_eq_false, not_false_eq_true, Bool.false_eq_true, sx_o, Sum.inr.injEq, Prod.mk.injEq, exists_eq', Nat.reduceLT]
    rw [tX7_shop_41]
    simp (disch := omega) only [e_const, e_lconst, e_il, e_ll, e_al, z_is, z_as, z_ls, z_inc, e_bin, e_div, e_un, e_lbin, e_ldiv, e_lcmp, e_i2l, e_l2i, e_if1, e_if2, z_go, e_sw, e_dupi, e_dupr, e_dup2, e_popi, e_popr, e_get, e_put, e_iald, e_iast, e_zald, e_zast, e_aald, e_aast, e_sld, e_slen, e_newa, e_newq, e_mna, e_new, e_oi, e_cs, e_cv, e_ci, e_min, e_max, e_copy, e_rv, e_ri, e_rz, e_rl, z_run, sx_en, sx_cat, sx_tk, sx_ps, sx_set, sx_setl, sx_dl, sx_m, sx_sw, sx_ft, List.map_cons, List.map_nil, List.getElem?_cons_zero, List.getElem?_cons_succ, List.replicate_succ, List.replicate_zero, List.set_cons_zero, List.set_cons_succ, List.length_cons, List.length_nil, Nat.reduceAdd, Nat.reduceSub, Nat.reduceLeDiff, Nat.reduceLT, Nat.reduceMul, Nat.zero_le, Nat.le_refl, Nat.add_zero, Nat.zero_add, true_and, and_true, true_or, bX7_shop_41, e0, e15, q_up_s, q_up_n, q_up_up, q_upd_s, q_upd_n, q_upd_upd, q_in, q_in0, q_in1, q_cl, q_cl0, q_cl1, q_add, q_add1, q_1add, q_add0, q_0add, q_mul, q_ite0, q_ite01, q_10, or_true, not_false_eq_true, not_true_eq_false, q_n0, ne_eq, false_implies, true_implies, true_and, and_true, not_true_eq_false, not_false_eq_true, Bool.false_eq_true, sx_o, Sum.inr.injEq, Prod.mk.injEq, exists_eq', Nat.reduceLT]
    refine s_becomes (b := 15) (q := 16) (o := 17) (q2 := 18) (f := f) (g := g') ((q_up_n (by decide)).trans e15) ((q_up_n (by decide)).trans e16) ((q_up_n (by decide)).trans e17) ((q_up_n (by decide)).trans u2a) hf u2b (by decide) (by decide) (by decide) (by decide) ?_
    simp (disch := omega) only [e_const, e_lconst, e_il, e_ll, e_al, z_is, z_as, z_ls, z_inc, e_bin, e_div, e_un, e_lbin, e_ldiv, e_lcmp, e_i2l, e_l2i, e_if1, e_if2, z_go, e_sw, e_dupi, e_dupr, e_dup2, e_popi, e_popr, e_get, e_put, e_iald, e_iast, e_zald, e_zast, e_aald, e_aast, e_sld, e_slen, e_newa, e_newq, e_mna, e_new, e_oi, e_cs, e_cv, e_ci, e_min, e_max, e_copy, e_rv, e_ri, e_rz, e_rl, z_run, sx_en, sx_cat, sx_tk, sx_ps, sx_set, sx_setl, sx_dl, sx_m, sx_sw, sx_ft, List.map_cons, List.map_nil, List.getElem?_cons_zero, List.getElem?_cons_succ, List.replicate_succ, List.replicate_zero, List.set_cons_zero, List.set_cons_succ, List.length_cons, List.length_nil, Nat.reduceAdd, Nat.reduceSub, Nat.reduceLeDiff, Nat.reduceLT, Nat.reduceMul, Nat.zero_le, Nat.le_refl, Nat.add_zero, Nat.zero_add, true_and, and_true, true_or, cX0_forget_c, tX0_forget_0, bX0_forget_0, e0, e15, e19, q_up_s, q_up_n, q_up_up, q_upd_s, q_upd_n, q_upd_upd, q_in, q_in0, q_in1, q_cl, q_cl0, q_cl1, q_add, q_add1, q_1add, q_add0, q_0add, q_mul, q_ite0, q_ite01, q_10, or_true, not_false_eq_true, not_true_eq_false, q_n0, ne_eq, false_implies, true_implies, true_and, and_true, not_true_eq_false, not_false_eq_true, Bool.false_eq_true, sx_o, Sum.inr.injEq, Prod.mk.injEq, exists_eq', Nat.reduceLT]
    have eg := u2c y
    rw [eg]
    refine q0 _ (nI R.1.1) (nI s') (nI pt') ?_ ?_ ⟨g', ?_, u2b⟩ ?_ (fun j j1 j2 j3 j4 => ?_)
    · simp (disch := omega) only [q_up_s, q_up_n]
    · simp (disch := omega) only [q_up_s, q_up_n]
    · simp (disch := omega) only [q_up_s, q_up_n]; exact u2a
    · simp (disch := omega) only [q_up_s, q_up_n]
    · simp (disch := omega) only [q_up_s, q_up_n]; exact u3 j j1 j3
  · have q1 := hQ1 y
    have hy : (nI R.1.2 = 0) = False := eq_false (nI_ne0 (by omega) (by omega))
    simp (disch := omega) only [e_const, e_lconst, e_il, e_ll, e_al, z_is, z_as, z_ls, z_inc, e_bin, e_div, e_un, e_lbin, e_ldiv, e_lcmp, e_i2l, e_l2i, e_if1, e_if2, z_go, e_sw, e_dupi, e_dupr, e_dup2, e_popi, e_popr, e_get, e_put, e_iald, e_iast, e_zald, e_zast, e_aald, e_aast, e_sld, e_slen, e_newa, e_newq, e_mna, e_new, e_oi, e_cs, e_cv, e_ci, e_min, e_max, e_copy, e_rv, e_ri, e_rz, e_rl, z_run, sx_en, sx_cat, sx_tk, sx_ps, sx_set, sx_setl, sx_dl, sx_m, sx_sw, sx_ft, List.map_cons, List.map_nil, List.getElem?_cons_zero, List.getElem?_cons_succ, List.replicate_succ, List.replicate_zero, List.set_cons_zero, List.set_cons_succ, List.length_cons, List.length_nil, Nat.reduceAdd, Nat.reduceSub, Nat.reduceLeDiff, Nat.reduceLT, Nat.reduceMul, Nat.zero_le, Nat.le_refl, Nat.add_zero, Nat.zero_add, true_and, and_true, true_or, hy, e0, q_up_s, q_up_n, q_up_up, q_upd_s, q_upd_n, q_upd_upd, q_in, q_in0, q_in1, q_cl, q_cl0, q_cl1, q_add, q_add1, q_1add, q_add0, q_0add, q_mul, q_ite0, q_ite01, q_10, or_true, not_false_eq_true, not_true_eq_false, q_n0, ne_eq, false_implies, true_implies, true_and, and_true, not_true_eq_false, not_false_eq_true, Bool.false_eq_true, sx_o, Sum.inr.injEq, Prod.mk.injEq, exists_eq', Nat.reduceLT]
    refine q1 _ (nI R.1.1) (nI s') (nI pt') ?_ ?_ ⟨g', ?_, u2b⟩ (fun j j1 j2 j3 => ?_)
    · simp (disch := omega) only [q_up_s, q_up_n]
    · simp (disch := omega) only [q_up_s, q_up_n]
    · simp (disch := omega) only [q_up_s, q_up_n]; exact u2a
    · simp (disch := omega) only [q_up_s, q_up_n]; exact u3 j j2 j3
set_option maxRecDepth 100000 in
set_option maxHeartbeats 4000000 in
theorem M_w (T : Nat → Int32) (tp : Nat) : ∀ k s pt q row, (p_M T tp k s pt q row).1.2 ≤ 3 := by
  intro k
  induction k with
  | zero => intro s pt q row; show 1 ≤ 3; omega
  | succ k ih =>
    intro s pt q row
    rw [p_M]
    split
    · show 0 ≤ 3; omega
    · split
      · exact ih _ _ _ _
      · exact (tok_w (T := T) (tp := tp) (q := q) (s := s) (pt := pt) (row := row)).1
set_option maxRecDepth 100000 in
set_option maxHeartbeats 4000000 in
theorem fin_1 {T : Nat → Int32} {tp : Nat} (z : Nat × Nat) : (o_fin T tp z).1 = z.1 := by
  rw [o_fin]
  split
  · split <;> rfl
  · rfl
set_option maxRecDepth 100000 in
set_option maxHeartbeats 4000000 in
theorem st_shop {h : sx_H} (H : IV h) : sx_Cal 91 [sx_r (some 0)] 65 h (IQ 144 [sx_r (some 53)]) := by
  obtain ⟨lf, st, rs, rl, it, tp, tape, f, k, acts, t, trc, g0, g1, H⟩ := H
  obtain ⟨h0, hXR, hXT, hXB, hXA, hXK, hXI, hMO, hMR, hMB, hMA, hMT, hMI, hMK, hWR, htp, hWB, hk24, hWA, ht16, hWg0, hWg1⟩ := id H
  obtain ⟨th, cu, sa, tk, va, fa, fp, hm⟩ := id hMO
  obtain ⟨⟨p, s, t1, hT1⟩, hT2⟩ := id hXT
  obtain ⟨hB1, hB2, hB3, ⟨g, hB4, hB5⟩, hB6⟩ := id hXB
  obtain ⟨⟨cm0, hq⟩, ⟨g58, hg58, hz58⟩, ⟨g59, hg59, hz59⟩⟩ := id hMB
  obtain ⟨nx, hnx, hA1, hA2, hA3, hA4⟩ := id hXA
  obtain ⟨m0, m1⟩ := M_all (T := tape) (tp := tp)
  refine s_shopB htp h0 hT1 hT2 hB3 hB4 hB5 hB1 hB2 hWB.1 hA1 ?_ ?_ (by have := M_w tape tp 121 0 0 0 (fun _ => 0); omega)
  · intro y h' p' s' t' c13 c16 c18 c19 cg
    have e : ∀ j, 46 ≤ j → h' j = h j := fun j hj => cg j (by omega) (by omega) (by omega) (by omega)
    have rm := (e 53 (by omega)).trans hm
    obtain ⟨R, hR⟩ : ∃ R, R = p_M tape tp 121 0 0 0 (fun _ => 0) := ⟨_, rfl⟩
    obtain ⟨D, hD⟩ : ∃ D, D = p_D tape tp 7 0 (l_7 tape tp) (l_F tape tp) := ⟨_, rfl⟩
    rw [← hR, ← hD] at m0 m1
    rw [← hR] at y c16 ⊢
    have hZ : (o_fin tape tp D.1).2 = 0 := by
      by_cases z : (o_fin tape tp D.1).2 = 0
      · exact z
      · have := m1 z
        rw [this] at y
        exact absurd y z
    obtain ⟨-, m', hm1, hm6, hgr, hD2⟩ := m0 hZ
    have h58 : ¬ R.2 58 = 0 := by rw [hgr.2.1]; exact nI_ne0 (by omega) (by omega)
    have hDM : D.2 = toM R.2 0 := hD2.trans (to1_is h58)
    have hWR2 : WB 999 R.2 := gr_WB hm6 hgr
    refine iq_in ?_
    refine s_shopM (by decide) htp rm ((e 61 (by omega)).trans hMT) ((e 58 (by omega)).trans hg58) hz58 ((e 57 (by omega)).trans hq) (fun j hj => toM_z _ _ hj) ?_ ?_
    · rw [← hD]
      intro _ h2 cu' sa' tk' va' fa' fp' d53 d57 d58 dg
      have e4 : D.2 4 = R.2 58 := by rw [hDM, m_s4]
      rw [e4]
      refine ⟨rfl, rfl, lf, st, rs, rl, it, 0, tape, R.2, 0, acts, t, trc, g0, g1, ?_⟩
      have k1 : ∀ j, j ≠ 53 → j ≠ 57 → j ≠ 58 → j ≠ 13 → j ≠ 16 → j ≠ 18 → j ≠ 19 → h2 j = h j := fun j a b c d e f g => (dg j a b c).trans (cg j d e f g)
      have k2 : ∀ j, j < 53 → h2 j = h' j := fun j hj => dg j (by omega) (by omega) (by omega)
      exact ⟨(k1 0 (by omega) (by omega) (by omega) (by omega) (by omega) (by omega) (by omega)).trans h0, XR_ag hXR (fun j _ _ => k1 j (by omega) (by omega) (by omega) (by omega) (by omega) (by omega) (by omega)), ⟨⟨p', s', t', (k2 13 (by omega)).trans (c13.trans (by rw [nI_0]))⟩, (k1 14 (by omega) (by omega) (by omega) (by omega) (by omega) (by omega) (by omega)).trans hT2⟩, ⟨(k1 15 (by omega) (by omega) (by omega) (by omega) (by omega) (by omega) (by omega)).trans hB1, (k2 16 (by omega)).trans c16, (k1 17 (by omega) (by omega) (by omega) (by omega) (by omega) (by omega) (by omega)).trans hB3, (by obtain ⟨gg, x1, x2⟩ := c18; exact ⟨gg, (k2 18 (by omega)).trans x1, x2⟩), (k1 45 (by omega) (by omega) (by omega) (by omega) (by omega) (by omega) (by omega)).trans hB6⟩, ⟨nx, hnx, (k2 19 (by omega)).trans (c19.trans (by rw [nI_0])), (k1 20 (by omega) (by omega) (by omega) (by omega) (by omega) (by omega) (by omega)).trans hA2, fun i hi => (by obtain ⟨gg, x1, x2⟩ := hA3 i hi; exact ⟨gg, (k1 _ (by omega) (by omega) (by omega) (by omega) (by omega) (by omega) (by omega)).trans x1, x2⟩), fun j hj => absurd hj (by omega)⟩, XK_ag hXK (fun j _ _ => k1 j (by omega) (by omega) (by omega) (by omega) (by omega) (by omega) (by omega)), XI_ag hXI (fun j _ _ => k1 j (by omega) (by omega) (by omega) (by omega) (by omega) (by omega) (by omega)), ⟨0, cu', sa', tk', va', fa', fp', d53.trans (by rw [nI_0])⟩, MR_ag hMR (fun j _ _ => k1 j (by omega) (by omega) (by omega) (by omega) (by omega) (by omega) (by omega)), ⟨⟨0, d57.trans (by rw [hDM])⟩, d58, ⟨g59, (k1 59 (by omega) (by omega) (by omega) (by omega) (by omega) (by omega) (by omega)).trans hg59, hz59⟩⟩, (by obtain ⟨wf, x1, x2⟩ := hMA; exact ⟨wf, (k1 60 (by omega) (by omega) (by omega) (by omega) (by omega) (by omega) (by omega)).trans x1, fun j hj => absurd hj (by omega)⟩), (k1 61 (by omega) (by omega) (by omega) (by omega) (by omega) (by omega) (by omega)).trans hMT, MI_ag hMI (k1 62 (by omega) (by omega) (by omega) (by omega) (by omega) (by omega) (by omega)) (k1 63 (by omega) (by omega) (by omega) (by omega) (by omega) (by omega) (by omega)), (k1 64 (by omega) (by omega) (by omega) (by omega) (by omega) (by omega) (by omega)).trans hMK, hWR, by omega, hWR2, by omega, fun j hj => absurd hj (by omega), ht16, hWg0, hWg1⟩
    · rw [← hD]
      intro z; exact absurd hZ z
  · intro y h' p' s' t' c0 c13 c18 cg
    have e : ∀ j, 46 ≤ j → h' j = h j := fun j hj => cg j (by omega) (by omega) (by omega)
    have rm := (e 53 (by omega)).trans hm
    obtain ⟨R, hR⟩ : ∃ R, R = p_M tape tp 121 0 0 0 (fun _ => 0) := ⟨_, rfl⟩
    obtain ⟨D, hD⟩ : ∃ D, D = p_D tape tp 7 0 (l_7 tape tp) (l_F tape tp) := ⟨_, rfl⟩
    rw [← hR, ← hD] at m0 m1
    rw [← hR] at y c0 ⊢
    have hZ : ¬ (o_fin tape tp D.1).2 = 0 := fun z => y (m0 z).1
    have hRZ := m1 hZ
    have e1 : R.1.1 = D.1.1 := by rw [hRZ]; exact fin_1 _
    refine iq_in ?_
    refine s_shopM (by decide) htp rm ((e 61 (by omega)).trans hMT) ((e 58 (by omega)).trans hg58) hz58 ((e 57 (by omega)).trans hq) (fun j hj => toM_z _ _ hj) ?_ ?_
    · rw [← hD]
      intro z; exact absurd z hZ
    · rw [← hD]
      intro _ h2 cu' sa' tk' va' fa' fp' d53 d58 dg
      rw [e1]
      refine ⟨rfl, rfl, nI R.1.2, st, rs, rl, it, 0, tape, f, k, acts, t, trc, g0, g1, ?_⟩
      have k1 : ∀ j, j ≠ 53 → j ≠ 58 → j ≠ 0 → j ≠ 13 → j ≠ 18 → h2 j = h j := fun j a b c d e => (dg j a b).trans (cg j c d e)
      have k2 : ∀ j, j < 53 → h2 j = h' j := fun j hj => dg j (by omega) (by omega)
      exact ⟨(k2 0 (by omega)).trans c0, XR_ag hXR (fun j _ _ => k1 j (by omega) (by omega) (by omega) (by omega) (by omega)), ⟨⟨p', s', t', (k2 13 (by omega)).trans (c13.trans (by rw [nI_0]))⟩, (k1 14 (by omega) (by omega) (by omega) (by omega) (by omega)).trans hT2⟩, ⟨(k1 15 (by omega) (by omega) (by omega) (by omega) (by omega)).trans hB1, (k1 16 (by omega) (by omega) (by omega) (by omega) (by omega)).trans hB2, (k1 17 (by omega) (by omega) (by omega) (by omega) (by omega)).trans hB3, (by obtain ⟨gg, x1, x2⟩ := c18; exact ⟨gg, (k2 18 (by omega)).trans x1, x2⟩), (k1 45 (by omega) (by omega) (by omega) (by omega) (by omega)).trans hB6⟩, XA_ag hXA (fun j _ _ => k1 j (by omega) (by omega) (by omega) (by omega) (by omega)), XK_ag hXK (fun j _ _ => k1 j (by omega) (by omega) (by omega) (by omega) (by omega)), XI_ag hXI (fun j _ _ => k1 j (by omega) (by omega) (by omega) (by omega) (by omega)), ⟨0, cu', sa', tk', va', fa', fp', d53.trans (by rw [nI_0, hRZ])⟩, MR_ag hMR (fun j _ _ => k1 j (by omega) (by omega) (by omega) (by omega) (by omega)), ⟨⟨cm0, (k1 57 (by omega) (by omega) (by omega) (by omega) (by omega)).trans hq⟩, d58, ⟨g59, (k1 59 (by omega) (by omega) (by omega) (by omega) (by omega)).trans hg59, hz59⟩⟩, MA_ag hMA (k1 60 (by omega) (by omega) (by omega) (by omega) (by omega)), (k1 61 (by omega) (by omega) (by omega) (by omega) (by omega)).trans hMT, MI_ag hMI (k1 62 (by omega) (by omega) (by omega) (by omega) (by omega)) (k1 63 (by omega) (by omega) (by omega) (by omega) (by omega)), (k1 64 (by omega) (by omega) (by omega) (by omega) (by omega)).trans hMK, hWR, by omega, hWB, hk24, hWA, ht16, hWg0, hWg1⟩
