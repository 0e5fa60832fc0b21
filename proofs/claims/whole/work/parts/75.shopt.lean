/-! shop: both sides -/
section ST
variable {n tp : Nat} {T : Nat → Int32} {Q : sx_Q} {st la tr fp : Int32}
set_option maxRecDepth 100000 in
set_option maxHeartbeats 4000000 in
theorem D_z : ∀ (k m : Nat) (z : Nat × Nat) (fr : Nat → Int32), m + k = 7 → (∀ j, 64 ≤ j → fr j = 0) → ∀ j, 64 ≤ j → (p_D T tp k m z fr).2 j = 0 := by
  intro k
  induction k with
  | zero => intro m z fr _ h; exact h
  | succ k ih =>
    intro m z fr hm h
    rw [p_D]
    split
    · split
      · rename_i y
        have hm5 : m ≤ 5 := by
          by_cases q : m ≤ 5
          · exact q
          · by_cases q6 : m = 6
            · rw [q6] at y; exact absurd y d6_f
            · have : m = 7 := by omega
              omega
        refine ih (m + 1) _ _ (by omega) (fun j hj => ?_)
        rw [d_F]
        simp (disch := omega) only [q_upd_n]
        exact h j hj
      · exact h
    · exact h
set_option maxRecDepth 100000 in
set_option maxHeartbeats 4000000 in
theorem s_shopM {h : sx_H} {th ac cu sa tk va fa : Int32} {g b : Nat → Int32} (hn : 61 < n) (htp : tp ≤ 120) (h1 : h 53 = g_m th st ac (nI tp) cu sa tk va fa fp la tr) (h2 : h 61 = sx_ai 120 T) (h3 : h 58 = sx_ai 64 g) (hg : ∀ j, 64 ≤ j → g j = 0) (h4 : h 57 = sx_ai 64 b) (hb : ∀ j, 64 ≤ j → b j = 0)
    (hQ0 : (o_fin T tp (p_D T tp 7 0 (l_7 T tp) (l_F T tp)).1).2 = 0 → ∀ h' cu sa tk va fa fpp, h' 53 = g_m 0 st 0 0 cu sa tk va fa fpp la tr → h' 57 = sx_ai 64 (p_D T tp 7 0 (l_7 T tp) (l_F T tp)).2 → (∃ g, h' 58 = sx_ai 64 g ∧ ∀ j, 64 ≤ j → g j = 0) → (∀ j, j ≠ 53 → j ≠ 57 → j ≠ 58 → h' j = h j) → Q (some (sx_i ((p_D T tp 7 0 (l_7 T tp) (l_F T tp)).2 4))) n h')
    (hQ1 : ¬ (o_fin T tp (p_D T tp 7 0 (l_7 T tp) (l_F T tp)).1).2 = 0 → ∀ h' cu sa tk va fa fpp, h' 53 = g_m 0 st ac 0 cu sa tk va fa fpp (nI (o_fin T tp (p_D T tp 7 0 (l_7 T tp) (l_F T tp)).1).2) tr → (∃ g, h' 58 = sx_ai 64 g ∧ ∀ j, 64 ≤ j → g j = 0) → (∀ j, j ≠ 53 → j ≠ 58 → h' j = h j) → Q (some (sx_i (-1000100 - nI (p_D T tp 7 0 (l_7 T tp) (l_F T tp)).1.1))) n h') : sx_Cal 144 [sx_r (some 53)] n h Q := by
  have a1 : 53 < n := by omega
  have a3 : 57 < n := by omega
  simp (disch := omega) only [e_const, e_lconst, e_il, e_ll, e_al, z_is, z_as, z_ls, z_inc, e_bin, e_div, e_un, e_lbin, e_ldiv, e_lcmp, e_i2l, e_l2i, e_if1, e_if2, z_go, e_sw, e_dupi, e_dupr, e_dup2, e_popi, e_popr, e_get, e_put, e_iald, e_iast, e_zald, e_zast, e_aald, e_aast, e_sld, e_slen, e_newa, e_newq, e_mna, e_new, e_oi, e_cs, e_cv, e_ci, e_min, e_max, e_copy, e_rv, e_ri, e_rz, e_rl, z_run, sx_en, sx_cat, sx_tk, sx_ps, sx_set, sx_setl, sx_dl, sx_m, sx_sw, sx_ft, List.map_cons, List.map_nil, List.getElem?_cons_zero, List.getElem?_cons_succ, List.replicate_succ, List.replicate_zero, List.set_cons_zero, List.set_cons_succ, List.length_cons, List.length_nil, Nat.reduceAdd, Nat.reduceSub, Nat.reduceLeDiff, Nat.reduceLT, Nat.reduceMul, Nat.zero_le, Nat.le_refl, Nat.add_zero, Nat.zero_add, true_and, and_true, true_or, cX8_shop_c, tX8_shop_0, bX8_shop_0, h1, a1, q_up_s, q_up_n, q_up_up, q_upd_s, q_upd_n, q_upd_upd, q_in, q_in0, q_in1, q_cl, q_cl0, q_cl1, q_add, q_add1, q_1add, q_add0, q_0add, q_mul, q_ite0, q_ite01, q_10, or_true, not_false_eq_true, not_true_eq_false, q_n0, ne_eq, false_implies, true_implies, true_and, and_true, not_true_eq_false, not_false_eq_true, Bool.false_eq_true, sx_o, Sum.inr.injEq, Prod.mk.injEq, exists_eq', Nat.reduceLT]
  refine s_beginM (st := st) (ac := ac) (cu := cu) (sa := sa) (tk := tk) (va := va) (fa := fa) (fp := fp) (la := la) (tr := tr) hn htp (q_up_s _ _ _) ((q_up_n (by decide)).trans h2) rfl (fun x0 v0 g0 => ?_)
  simp (disch := omega) only [e_const, e_lconst, e_il, e_ll, e_al, z_is, z_as, z_ls, z_inc, e_bin, e_div, e_un, e_lbin, e_ldiv, e_lcmp, e_i2l, e_l2i, e_if1, e_if2, z_go, e_sw, e_dupi, e_dupr, e_dup2, e_popi, e_popr, e_get, e_put, e_iald, e_iast, e_zald, e_zast, e_aald, e_aast, e_sld, e_slen, e_newa, e_newq, e_mna, e_new, e_oi, e_cs, e_cv, e_ci, e_min, e_max, e_copy, e_rv, e_ri, e_rz, e_rl, z_run, sx_en, sx_cat, sx_tk, sx_ps, sx_set, sx_setl, sx_dl, sx_m, sx_sw, sx_ft, List.map_cons, List.map_nil, List.getElem?_cons_zero, List.getElem?_cons_succ, List.replicate_succ, List.replicate_zero, List.set_cons_zero, List.set_cons_succ, List.length_cons, List.length_nil, Nat.reduceAdd, Nat.reduceSub, Nat.reduceLeDiff, Nat.reduceLT, Nat.reduceMul, Nat.zero_le, Nat.le_refl, Nat.add_zero, Nat.zero_add, true_and, and_true, true_or, q_up_s, q_up_n, q_up_up, q_upd_s, q_upd_n, q_upd_upd, q_in, q_in0, q_in1, q_cl, q_cl0, q_cl1, q_add, q_add1, q_1add, q_add0, q_0add, q_mul, q_ite0, q_ite01, q_10, or_true, not_false_eq_true, not_true_eq_false, q_n0, ne_eq, false_implies, true_implies, true_and, and_true, not_true_eq_false, not_false_eq_true, Bool.false_eq_true, sx_o, Sum.inr.injEq, Prod.mk.injEq, exists_eq', Nat.reduceLT]
  have w0 : ∀ j, j ≠ 53 → x0 j = h j := fun j j1 => (g0 j j1).trans (q_up_n j1)
  have key := fun Rt hR => s_fresh_lp (T := T) (tp := tp) (st := st) (ac := ac) (la := la) (tr := tr) (fp := fp) (n := n) (g := g) (z := (0, 0)) hn Rt 64 0 x0 (by omega) v0 (by rw [zr_0]; exact (w0 58 (by decide)).trans h3) hR
  rw [nI_0, zr_all hg] at key
  refine key _ ?_
  refine s_headM (st := st) (ac := ac) (la := la) (tr := tr) (fp := fp) hn htp _ ((q_up_n (by decide)).trans v0) ((q_up_n (by decide)).trans ((w0 61 (by decide)).trans h2)) (q_up_s _ _ _) (fun x1 v1 f1 g1 => ?_)
  have w1 : ∀ j, j ≠ 53 → j ≠ 58 → x1 j = h j := fun j j1 j2 => (g1 j j1 j2).trans ((q_up_n j2).trans (w0 j j1))
  have l4 : l_F T tp 4 = nI 0 := by
    rw [l_F, nI_0]
    simp (disch := omega) only [q_upd_n]
  have lz : ∀ j, 64 ≤ j → l_F T tp j = 0 := fun j hj => by
    rw [l_F]; simp (disch := omega) only [q_upd_n]
  refine s_debs_lp (st := st) (ac := ac) (la := la) (tr := tr) (fp := fp) hn htp _ 7 0 (l_7 T tp) (l_F T tp) x1 (by omega) (by omega) ok_l7 v1 ((w1 61 (by decide) (by decide)).trans h2) f1 l4 (fun x2 v2 f2 g2 ok2 ns2 => ?_)
  have w2 : ∀ j, j ≠ 53 → j ≠ 58 → x2 j = h j := fun j j1 j2 => (g2 j j1 j2).trans (w1 j j1 j2)
  have dz := D_z (T := T) (tp := tp) 7 0 (l_7 T tp) (l_F T tp) (by omega) lz
  obtain ⟨D, hD⟩ : ∃ D, D = p_D T tp 7 0 (l_7 T tp) (l_F T tp) := ⟨_, rfl⟩
  rw [← hD] at v2 f2 ok2 dz hQ0 hQ1
  rw [tX8_shop_130]
  simp (disch := omega) only [e_const, e_lconst, e_il, e_ll, e_al, z_is, z_as, z_ls, z_inc, e_bin, e_div, e_un, e_lbin, e_ldiv, e_lcmp, e_i2l, e_l2i, e_if1, e_if2, z_go, e_sw, e_dupi, e_dupr, e_dup2, e_popi, e_popr, e_get, e_put, e_iald, e_iast, e_zald, e_zast, e_aald, e_aast, e_sld, e_slen, e_newa, e_newq, e_mna, e_new, e_oi, e_cs, e_cv, e_ci, e_min, e_max, e_copy, e_rv, e_ri, e_rz, e_rl, z_run, sx_en, sx_cat, sx_tk, sx_ps, sx_set, sx_setl, sx_dl, sx_m, sx_sw, sx_ft, List.map_cons, List.map_nil, List.getElem?_cons_zero, List.getElem?_cons_succ, List.replicate_succ, List.replicate_zero, List.set_cons_zero, List.set_cons_succ, List.length_cons, List.length_nil, Nat.reduceAdd, Nat.reduceSub, Nat.reduceLeDiff, Nat.reduceLT, Nat.reduceMul, Nat.zero_le, Nat.le_refl, Nat.add_zero, Nat.zero_add, true_and, and_true, true_or, bX8_shop_130, v2, a1, q_up_s, q_up_n, q_up_up, q_upd_s, q_upd_n, q_upd_upd, q_in, q_in0, q_in1, q_cl, q_cl0, q_cl1, q_add, q_add1, q_1add, q_add0, q_0add, q_mul, q_ite0, q_ite01, q_10, or_true, not_false_eq_true, not_true_eq_false, q_n0, ne_eq, false_implies, true_implies, true_and, and_true, not_true_eq_false, not_false_eq_true, Bool.false_eq_true, sx_o, Sum.inr.injEq, Prod.mk.injEq, exists_eq', Nat.reduceLT]
  refine s_failM (st := st) (ac := ac) (la := la) (tr := tr) (fp := fp) hn ok2 v2 (fun x3 cu tk va fpp v3 e3 g3 => ?_)
  have f3 := (g3 58 (by decide)).trans f2
  have w3 : ∀ j, j ≠ 53 → j ≠ 58 → x3 j = h j := fun j j1 j2 => (g3 j j1).trans (w2 j j1 j2)
  by_cases y : (o_fin T tp D.1).2 = 0
  · have q0 := hQ0 y
    rw [if_pos y] at v3
    rw [if_pos y]
    simp (disch := omega) only [e_const, e_lconst, e_il, e_ll, e_al, z_is, z_as, z_ls, z_inc, e_bin, e_div, e_un, e_lbin, e_ldiv, e_lcmp, e_i2l, e_l2i, e_if1, e_if2, z_go, e_sw, e_dupi, e_dupr, e_dup2, e_popi, e_popr, e_get, e_put, e_iald, e_iast, e_zald, e_zast, e_aald, e_aast, e_sld, e_slen, e_newa, e_newq, e_mna, e_new, e_oi, e_cs, e_cv, e_ci, e_min, e_max, e_copy, e_rv, e_ri, e_rz, e_rl, z_run, sx_en, sx_cat, sx_tk, sx_ps, sx_set, sx_setl, sx_dl, sx_m, sx_sw, sx_ft, List.map_cons, List.map_nil, List.getElem?_cons_zero, List.getElem?_cons_succ, List.replicate_succ, List.replicate_zero, List.set_cons_zero, List.set_cons_succ, List.length_cons, List.length_nil, Nat.reduceAdd, Nat.reduceSub, Nat.reduceLeDiff, Nat.reduceLT, Nat.reduceMul, Nat.zero_le, Nat.le_refl, Nat.add_zero, Nat.zero_add, true_and, and_true, true_or, q_up_s, q_up_n, q_up_up, q_upd_s, q_upd_n, q_upd_upd, q_in, q_in0, q_in1, q_cl, q_cl0, q_cl1, q_add, q_add1, q_1add, q_add0, q_0add, q_mul, q_ite0, q_ite01, q_10, or_true, not_false_eq_true, not_true_eq_false, q_n0, ne_eq, false_implies, true_implies, true_and, and_true, not_true_eq_false, not_false_eq_true, Bool.false_eq_true, sx_o, Sum.inr.injEq, Prod.mk.injEq, exists_eq', Nat.reduceLT]
    rw [tX8_shop_145]
    simp (disch := omega) only [e_const, e_lconst, e_il, e_ll, e_al, z_is, z_as, z_ls, z_inc, e_bin, e_div, e_un, e_lbin, e_ldiv, e_lcmp, e_i2l, e_l2i, e_if1, e_if2, z_go, e_sw, e_dupi, e_dupr, e_dup2, e_popi, e_popr, e_get, e_put, e_iald, e_iast, e_zald, e_zast, e_aald, e_aast, e_sld, e_slen, e_newa, e_newq, e_mna, e_new, e_oi, e_cs, e_cv, e_ci, e_min, e_max, e_copy, e_rv, e_ri, e_rz, e_rl, z_run, sx_en, sx_cat, sx_tk, sx_ps, sx_set, sx_setl, sx_dl, sx_m, sx_sw, sx_ft, List.map_cons, List.map_nil, List.getElem?_cons_zero, List.getElem?_cons_succ, List.replicate_succ, List.replicate_zero, List.set_cons_zero, List.set_cons_succ, List.length_cons, List.length_nil, Nat.reduceAdd, Nat.reduceSub, Nat.reduceLeDiff, Nat.reduceLT, Nat.reduceMul, Nat.zero_le, Nat.le_refl, Nat.add_zero, Nat.zero_add, true_and, and_true, true_or, bX8_shop_145, v3, a1, q_up_s, q_up_n, q_up_up, q_upd_s, q_upd_n, q_upd_upd, q_in, q_in0, q_in1, q_cl, q_cl0, q_cl1, q_add, q_add1, q_1add, q_add0, q_0add, q_mul, q_ite0, q_ite01, q_10, or_true, not_false_eq_true, not_true_eq_false, q_n0, ne_eq, false_implies, true_implies, true_and, and_true, not_true_eq_false, not_false_eq_true, Bool.false_eq_true, sx_o, Sum.inr.injEq, Prod.mk.injEq, exists_eq', Nat.reduceLT]
    have key2 := fun Rt hR => s_copyM_lp (n := n) (g := b) (fr := D.2) (st := st) (la := la) (tr := tr) (th := 0) (ac := 0) (tpp := 0) (cu := cu) (sa := nI D.1.1) (tk := tk) (va := va) (fa := nI (o_fin T tp D.1).2) (fpp := fpp) hn Rt 64 0 (sx_up x3 53 (g_m 0 st 0 0 cu (nI D.1.1) tk va (nI (o_fin T tp D.1).2) fpp la tr)) (by omega) (q_up_s _ _ _) ((q_up_n (by decide)).trans f3) (by rw [cpf_0]; exact (q_up_n (by decide)).trans ((w3 57 (by decide) (by decide)).trans h4)) hR
    rw [nI_0, cpf_full dz hb] at key2
    refine key2 _ ?_
    have m1 : sx_up (sx_up x3 53 (g_m 0 st 0 0 cu (nI D.1.1) tk va (nI (o_fin T tp D.1).2) fpp la tr)) 57 (sx_ai 64 D.2) 53 = g_m 0 st 0 0 cu (nI D.1.1) tk va (nI (o_fin T tp D.1).2) fpp la tr := (q_up_n (by decide)).trans (q_up_s _ _ _)
    have m2 : sx_up (sx_up x3 53 (g_m 0 st 0 0 cu (nI D.1.1) tk va (nI (o_fin T tp D.1).2) fpp la tr)) 57 (sx_ai 64 D.2) 57 = sx_ai 64 D.2 := q_up_s _ _ _
    rw [tX8_shop_176]
    simp (disch := omega) only [e_const, e_lconst, e_il, e_ll, e_al, z_is, z_as, z_ls, z_inc, e_bin, e_div, e_un, e_lbin, e_ldiv, e_lcmp, e_i2l, e_l2i, e_if1, e_if2, z_go, e_sw, e_dupi, e_dupr, e_dup2, e_popi, e_popr, e_get, e_put, e_iald, e_iast, e_zald, e_zast, e_aald, e_aast, e_sld, e_slen, e_newa, e_newq, e_mna, e_new, e_oi, e_cs, e_cv, e_ci, e_min, e_max, e_copy, e_rv, e_ri, e_rz, e_rl, z_run, sx_en, sx_cat, sx_tk, sx_ps, sx_set, sx_setl, sx_dl, sx_m, sx_sw, sx_ft, List.map_cons, List.map_nil, List.getElem?_cons_zero, List.getElem?_cons_succ, List.replicate_succ, List.replicate_zero, List.set_cons_zero, List.set_cons_succ, List.length_cons, List.length_nil, Nat.reduceAdd, Nat.reduceSub, Nat.reduceLeDiff, Nat.reduceLT, Nat.reduceMul, Nat.zero_le, Nat.le_refl, Nat.add_zero, Nat.zero_add, true_and, and_true, true_or, bX8_shop_176, m1, m2, a1, a3, q_up_s, q_up_n, q_up_up, q_upd_s, q_upd_n, q_upd_upd, q_in, q_in0, q_in1, q_cl, q_cl0, q_cl1, q_add, q_add1, q_1add, q_add0, q_0add, q_mul, q_ite0, q_ite01, q_10, or_true, not_false_eq_true, not_true_eq_false, q_n0, ne_eq, false_implies, true_implies, true_and, and_true, not_true_eq_false, not_false_eq_true, Bool.false_eq_true, sx_o, Sum.inr.injEq, Prod.mk.injEq, exists_eq', Nat.reduceLT]
    exact q0 _ _ _ _ _ _ _ m1 m2 ⟨_, (q_up_n (by decide)).trans ((q_up_n (by decide)).trans f3), dz⟩ (fun j j1 j2 j3 => (q_up_n j2).trans ((q_up_n j1).trans (w3 j j1 j3)))
  · have q1 := hQ1 y
    rw [if_neg y] at v3
    rw [if_neg y]
    have ef := e3 y
    rw [ef] at v3
    simp (disch := omega) only [e_const, e_lconst, e_il, e_ll, e_al, z_is, z_as, z_ls, z_inc, e_bin, e_div, e_un, e_lbin, e_ldiv, e_lcmp, e_i2l, e_l2i, e_if1, e_if2, z_go, e_sw, e_dupi, e_dupr, e_dup2, e_popi, e_popr, e_get, e_put, e_iald, e_iast, e_zald, e_zast, e_aald, e_aast, e_sld, e_slen, e_newa, e_newq, e_mna, e_new, e_oi, e_cs, e_cv, e_ci, e_min, e_max, e_copy, e_rv, e_ri, e_rz, e_rl, z_run, sx_en, sx_cat, sx_tk, sx_ps, sx_set, sx_setl, sx_dl, sx_m, sx_sw, sx_ft, List.map_cons, List.map_nil, List.getElem?_cons_zero, List.getElem?_cons_succ, List.replicate_succ, List.replicate_zero, List.set_cons_zero, List.set_cons_succ, List.length_cons, List.length_nil, Nat.reduceAdd, Nat.reduceSub, Nat.reduceLeDiff, Nat.reduceLT, Nat.reduceMul, Nat.zero_le, Nat.le_refl, Nat.add_zero, Nat.zero_add, true_and, and_true, true_or, v3, a1, q_10, q_up_s, q_up_n, q_up_up, q_upd_s, q_upd_n, q_upd_upd, q_in, q_in0, q_in1, q_cl, q_cl0, q_cl1, q_add, q_add1, q_1add, q_add0, q_0add, q_mul, q_ite0, q_ite01, q_10, or_true, not_false_eq_true, not_true_eq_false, q_n0, ne_eq, false_implies, true_implies, true_and, and_true, not_true_eq_false, not_false_eq_true, Bool.false_eq_true, sx_o, Sum.inr.injEq, Prod.mk.injEq, exists_eq', Nat.reduceLT]
    exact q1 _ _ _ _ _ _ _ v3 ⟨_, f3, dz⟩ w3
end ST
