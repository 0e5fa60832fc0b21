/-! the law -/
set_option maxRecDepth 100000 in
set_option maxHeartbeats 4000000 in
theorem sw_c {x v : Int32} {d P : Prop} {t : List (Int32 × Prop)} (hp : P) (ht : sx_sw x d t) : sx_sw x d ((v, P) :: t) := ⟨fun _ => hp, fun _ => ht⟩
set_option maxRecDepth 100000 in
set_option maxHeartbeats 4000000 in
theorem sw_0 {x : Int32} {d : Prop} (hd : d) : sx_sw x d [] := hd
def p_Rt : sx_R := fun r _ _ kc ks => r = some (sx_i 1) ∧ kc ≤ 600000 ∧ ks ≤ 7302250
set_option maxRecDepth 100000 in
set_option maxHeartbeats 4000000 in
theorem law_lp {L : Nat} {xs : Nat → Int32} (hL : L ≤ 3072) : ∀ (k i : Nat) (h : sx_H), L ≤ i + k → i ≤ 3100 → IV h → sx_T (BL_law L xs) sx_Cal p_Rt 18 [some (sx_r (some sx_sc)), some (sx_r (some 0)), some (sx_r (some 53)), some (sx_i (nI i))] [] 65 h 65 4625 := by
  have done : ∀ (i : Nat) (h : sx_H), L < i + 6 → i ≤ 3100 → sx_T (BL_law L xs) sx_Cal p_Rt 18 [some (sx_r (some sx_sc)), some (sx_r (some 0)), some (sx_r (some 53)), some (sx_i (nI i))] [] 65 h 65 4625 := by
    intro i h hi h31
    have hlt : (nI L - nI 6 < nI i) = True := eq_true (by
      rw [q_lt, i_sub (by rw [q_ti (by omega), q_ti (by omega)]; omega) (by rw [q_ti (by omega), q_ti (by omega)]; omega), q_ti (by omega), q_ti (by omega), q_ti (by omega)]
      omega)
    have hof : Int32.ofNat L = nI L := rfl
    rw [tL (b := bL_law_18 L xs) rfl]
    simp (disch := omega) only [e_const, e_lconst, e_il, e_ll, e_al, z_is, z_as, z_ls, z_inc, e_bin, e_div, e_un, e_lbin, e_ldiv, e_lcmp, e_i2l, e_l2i, e_if1, e_if2, z_go, e_sw, e_dupi, e_dupr, e_dup2, e_popi, e_popr, e_get, e_put, e_iald, e_iast, e_zald, e_zast, e_aald, e_aast, e_sld, e_slen, e_newa, e_newq, e_mna, e_new, e_oi, e_cs, e_cv, e_ci, e_min, e_max, e_copy, e_rv, e_ri, e_rz, e_rl, z_run, sx_en, sx_cat, sx_tk, sx_ps, sx_set, sx_setl, sx_dl, sx_m, sx_ft, List.map_cons, List.map_nil, List.getElem?_cons_zero, List.getElem?_cons_succ, List.replicate_succ, List.replicate_zero, List.set_cons_zero, List.set_cons_succ, List.length_cons, List.length_nil, Nat.reduceAdd, Nat.reduceSub, Nat.reduceLeDiff, Nat.reduceLT, Nat.reduceMul, Nat.zero_le, Nat.le_refl, Nat.add_zero, Nat.zero_add, true_and, and_true, true_or, bL_law_18, hof, hlt, q_up_s, q_up_n, q_up_up, q_upd_s, q_upd_n, q_upd_upd, q_in, q_in0, q_in1, q_cl, q_cl0, q_cl1, q_add, q_add1, q_1add, q_add0, q_0add, q_mul, q_ite0, q_ite01, q_10, or_true, not_false_eq_true, not_true_eq_false, q_n0, ne_eq, false_implies, true_implies, true_and, and_true, not_true_eq_false, not_false_eq_true, Bool.false_eq_true, sx_o, Sum.inr.injEq, Prod.mk.injEq, exists_eq', Nat.reduceLT]
    rw [tL (b := bL_law_1210 L xs) rfl]
    simp (disch := omega) only [e_const, e_lconst, e_il, e_ll, e_al, z_is, z_as, z_ls, z_inc, e_bin, e_div, e_un, e_lbin, e_ldiv, e_lcmp, e_i2l, e_l2i, e_if1, e_if2, z_go, e_sw, e_dupi, e_dupr, e_dup2, e_popi, e_popr, e_get, e_put, e_iald, e_iast, e_zald, e_zast, e_aald, e_aast, e_sld, e_slen, e_newa, e_newq, e_mna, e_new, e_oi, e_cs, e_cv, e_ci, e_min, e_max, e_copy, e_rv, e_ri, e_rz, e_rl, z_run, sx_en, sx_cat, sx_tk, sx_ps, sx_set, sx_setl, sx_dl, sx_m, sx_ft, List.map_cons, List.map_nil, List.getElem?_cons_zero, List.getElem?_cons_succ, List.replicate_succ, List.replicate_zero, List.set_cons_zero, List.set_cons_succ, List.length_cons, List.length_nil, Nat.reduceAdd, Nat.reduceSub, Nat.reduceLeDiff, Nat.reduceLT, Nat.reduceMul, Nat.zero_le, Nat.le_refl, Nat.add_zero, Nat.zero_add, true_and, and_true, true_or, bL_law_1210, p_Rt, q_up_s, q_up_n, q_up_up, q_upd_s, q_upd_n, q_upd_upd, q_in, q_in0, q_in1, q_cl, q_cl0, q_cl1, q_add, q_add1, q_1add, q_add0, q_0add, q_mul, q_ite0, q_ite01, q_10, or_true, not_false_eq_true, not_true_eq_false, q_n0, ne_eq, false_implies, true_implies, true_and, and_true, not_true_eq_false, not_false_eq_true, Bool.false_eq_true, sx_o, Sum.inr.injEq, Prod.mk.injEq, exists_eq', Nat.reduceLT]
  intro k
  induction k with
  | zero =>
    intro i h hi h31 H
    exact done i h (by omega) h31
  | succ k ih =>
    intro i h hi h31 H
    by_cases z : L < i + 6
    · exact done i h z h31
    · have hi6 : i + 6 ≤ L := by omega
      have hlt : (nI L - nI 6 < nI i) = False := eq_false (by
        rw [q_lt, i_sub (by rw [q_ti (by omega), q_ti (by omega)]; omega) (by rw [q_ti (by omega), q_ti (by omega)]; omega), q_ti (by omega), q_ti (by omega), q_ti (by omega)]
        omega)
      have hof : Int32.ofNat L = nI L := rfl
      have go : ∀ h, IV h → sx_T (BL_law L xs) sx_Cal p_Rt 1204 [some (sx_r (some sx_sc)), some (sx_r (some 0)), some (sx_r (some 53)), some (sx_i (nI i))] [] 65 h 65 4625 := by
        intro h H
        rw [tL (b := bL_law_1204 L xs) rfl]
        simp (disch := omega) only [e_const, e_lconst, e_il, e_ll, e_al, z_is, z_as, z_ls, z_inc, e_bin, e_div, e_un, e_lbin, e_ldiv, e_lcmp, e_i2l, e_l2i, e_if1, e_if2, z_go, e_sw, e_dupi, e_dupr, e_dup2, e_popi, e_popr, e_get, e_put, e_iald, e_iast, e_zald, e_zast, e_aald, e_aast, e_sld, e_slen, e_newa, e_newq, e_mna, e_new, e_oi, e_cs, e_cv, e_ci, e_min, e_max, e_copy, e_rv, e_ri, e_rz, e_rl, z_run, sx_en, sx_cat, sx_tk, sx_ps, sx_set, sx_setl, sx_dl, sx_m, sx_ft, List.map_cons, List.map_nil, List.getElem?_cons_zero, List.getElem?_cons_succ, List.replicate_succ, List.replicate_zero, List.set_cons_zero, List.set_cons_succ, List.length_cons, List.length_nil, Nat.reduceAdd, Nat.reduceSub, Nat.reduceLeDiff, Nat.reduceLT, Nat.reduceMul, Nat.zero_le, Nat.le_refl, Nat.add_zero, Nat.zero_add, true_and, and_true, true_or, bL_law_1204, q_up_s, q_up_n, q_up_up, q_upd_s, q_upd_n, q_upd_upd, q_in, q_in0, q_in1, q_cl, q_cl0, q_cl1, q_add, q_add1, q_1add, q_add0, q_0add, q_mul, q_ite0, q_ite01, q_10, or_true, not_false_eq_true, not_true_eq_false, q_n0, ne_eq, false_implies, true_implies, true_and, and_true, not_true_eq_false, not_false_eq_true, Bool.false_eq_true, sx_o, Sum.inr.injEq, Prod.mk.injEq, exists_eq', Nat.reduceLT]
        exact ih (i + 6) h (by omega) (by omega) H
      rw [tL (b := bL_law_18 L xs) rfl]
      simp (disch := omega) only [e_const, e_lconst, e_il, e_ll, e_al, z_is, z_as, z_ls, z_inc, e_bin, e_div, e_un, e_lbin, e_ldiv, e_lcmp, e_i2l, e_l2i, e_if1, e_if2, z_go, e_sw, e_dupi, e_dupr, e_dup2, e_popi, e_popr, e_get, e_put, e_iald, e_iast, e_zald, e_zast, e_aald, e_aast, e_sld, e_slen, e_newa, e_newq, e_mna, e_new, e_oi, e_cs, e_cv, e_ci, e_min, e_max, e_copy, e_rv, e_ri, e_rz, e_rl, z_run, sx_en, sx_cat, sx_tk, sx_ps, sx_set, sx_setl, sx_dl, sx_m, sx_ft, List.map_cons, List.map_nil, List.getElem?_cons_zero, List.getElem?_cons_succ, List.replicate_succ, List.replicate_zero, List.set_cons_zero, List.set_cons_succ, List.length_cons, List.length_nil, Nat.reduceAdd, Nat.reduceSub, Nat.reduceLeDiff, Nat.reduceLT, Nat.reduceMul, Nat.zero_le, Nat.le_refl, Nat.add_zero, Nat.zero_add, true_and, and_true, true_or, bL_law_18, hof, hlt, q_up_s, q_up_n, q_up_up, q_upd_s, q_upd_n, q_upd_upd, q_in, q_in0, q_in1, q_cl, q_cl0, q_cl1, q_add, q_add1, q_1add, q_add0, q_0add, q_mul, q_ite0, q_ite01, q_10, or_true, not_false_eq_true, not_true_eq_false, q_n0, ne_eq, false_implies, true_implies, true_and, and_true, not_true_eq_false, not_false_eq_true, Bool.false_eq_true, sx_o, Sum.inr.injEq, Prod.mk.injEq, exists_eq', Nat.reduceLT]
      exact sw_c (lw_188 hL hi6 H go) (sw_c (lw_231 hL hi6 H go) (sw_c (lw_274 hL hi6 H go) (sw_c (lw_337 hL hi6 H go) (sw_c (lw_360 hL hi6 H go) (sw_c (lw_383 hL hi6 H go) (sw_c (lw_396 hL hi6 H go) (sw_c (lw_409 hL hi6 H go) (sw_c (lw_422 hL hi6 H go) (sw_c (lw_445 hL hi6 H go) (sw_c (lw_478 hL hi6 H go) (sw_c (lw_501 hL hi6 H go) (sw_c (lw_534 hL hi6 H go) (sw_c (lw_557 hL hi6 H go) (sw_c (lw_590 hL hi6 H go) (sw_c (lw_613 hL hi6 H go) (sw_c (lw_646 hL hi6 H go) (sw_c (lw_679 hL hi6 H go) (sw_c (lw_692 hL hi6 H go) (sw_c (lw_735 hL hi6 H go) (sw_c (lw_768 hL hi6 H go) (sw_c (lw_781 hL hi6 H go) (sw_c (lw_804 hL hi6 H go) (sw_c (lw_847 hL hi6 H go) (sw_c (lw_900 hL hi6 H go) (sw_c (lw_923 hL hi6 H go) (sw_c (lw_967 hL hi6 H go) (sw_c (lw_1010 hL hi6 H go) (sw_c (lw_1033 hL hi6 H go) (sw_c (lw_1056 hL hi6 H go) (sw_c (lw_1079 hL hi6 H go) (sw_c (lw_1112 hL hi6 H go) (sw_c (lw_1145 hL hi6 H go) (sw_c (lw_1168 hL hi6 H go) (sw_c (lw_1191 hL hi6 H go) (sw_0 (go _ H))))))))))))))))))))))))))))))))))))
set_option maxRecDepth 100000 in
set_option maxHeartbeats 4000000 in
theorem WR_0 : WR (p_mn 8) (fun _ => 0) := fun r hr => Or.inl (if_pos hr)
set_option maxRecDepth 100000 in
set_option maxHeartbeats 4000000 in
theorem WB_0 : WB 999 (fun _ => 0) := by
  have z0 : (0 : Int32).toInt = 0 := q_ti0
  refine ⟨fun _ _ => rfl, 0, 0, by omega, by omega, nI_0.symm, nI_0.symm, fun d hd => ?_, ?_⟩
  · simp only [z0]
    refine ⟨by omega, by omega, by omega, by omega, Or.inl trivial, Or.inl trivial, fun z => by omega, fun _ => ⟨trivial, trivial, trivial⟩⟩
  · simp only [z0]
    refine ⟨by omega, by omega, by omega, by omega, Or.inl trivial, fun _ => by omega, by omega, fun z => by omega⟩
set_option maxRecDepth 100000 in
set_option maxHeartbeats 4000000 in
theorem law_T (L : Nat) (xs : Nat → Int32) (hL : L ≤ 3072) : sx_T (BL_law L xs) sx_Cal (fun r n h kc ks => r = some (sx_i 1) ∧ kc ≤ 600000 ∧ ks ≤ 7302250) 0 [some (sx_r (some sx_sc)), none, none, none] [] 0 (fun _ => .inr (0, [])) 0 0 := by
  show sx_T (BL_law L xs) sx_Cal p_Rt 0 [some (sx_r (some sx_sc)), none, none, none] [] 0 (fun _ => .inr (0, [])) 0 0
  have sc0 : 0 < sx_sc := by show 0 < 1000000; omega
  have sc53 : 53 < sx_sc := by show 53 < 1000000; omega
  have wsc : ∀ n, sx_wv n (sx_r (some sx_sc)) := fun n => Or.inr rfl
  have w0 : p_WF 0 (fun _ => .inr (0, [])) := fun k hk => by omega
  rw [tL (b := bL_law_0 L xs) rfl]
  simp (disch := omega) only [e_const, e_lconst, e_il, e_ll, e_al, z_is, z_as, z_ls, z_inc, e_bin, e_div, e_un, e_lbin, e_ldiv, e_lcmp, e_i2l, e_l2i, e_if1, e_if2, z_go, e_sw, e_dupi, e_dupr, e_dup2, e_popi, e_popr, e_get, e_put, e_iald, e_iast, e_zald, e_zast, e_aald, e_aast, e_sld, e_slen, e_newa, e_newq, e_mna, e_new, e_oi, e_cs, e_cv, e_ci, e_min, e_max, e_copy, e_rv, e_ri, e_rz, e_rl, z_run, sx_en, sx_cat, sx_tk, sx_ps, sx_set, sx_setl, sx_dl, sx_m, sx_ft, List.map_cons, List.map_nil, List.getElem?_cons_zero, List.getElem?_cons_succ, List.replicate_succ, List.replicate_zero, List.set_cons_zero, List.set_cons_succ, List.length_cons, List.length_nil, Nat.reduceAdd, Nat.reduceSub, Nat.reduceLeDiff, Nat.reduceLT, Nat.reduceMul, Nat.zero_le, Nat.le_refl, Nat.add_zero, Nat.zero_add, true_and, and_true, true_or, bL_law_0, sc0, q_up_s, q_up_n, q_up_up, q_upd_s, q_upd_n, q_upd_upd, q_in, q_in0, q_in1, q_cl, q_cl0, q_cl1, q_add, q_add1, q_1add, q_add0, q_0add, q_mul, q_ite0, q_ite01, q_10, or_true, not_false_eq_true, not_true_eq_false, q_n0, ne_eq, false_implies, true_implies, true_and, and_true, not_true_eq_false, not_false_eq_true, Bool.false_eq_true, sx_o, Sum.inr.injEq, Prod.mk.injEq, exists_eq', Nat.reduceLT]
  refine ⟨⟨wl_s (wsc 0) (wl_n (wl_n (wl_n wl_0))), ws_0, w0⟩, ?_⟩
  refine s_init7 (q_up_s _ _ _) (WF_new w0 (we_x0 (fun k hk => by cases hk) (fun k hk => by cases hk) (fun k hk => by cases hk) (fun k hk => by cases hk) (fun k hk => by cases hk) (fun k hk => by cases hk) (fun k hk => by cases hk) (fun k hk => by cases hk))) (fun x1 c0 hR hT hB hA hK hI w1 => ⟨Or.inr ⟨wl_s (wsc 1) (wl_n (wl_n (wl_n wl_0))), ws_c (wr (by omega)) ws_0⟩, ?_⟩)
  simp (disch := omega) only [e_const, e_lconst, e_il, e_ll, e_al, z_is, z_as, z_ls, z_inc, e_bin, e_div, e_un, e_lbin, e_ldiv, e_lcmp, e_i2l, e_l2i, e_if1, e_if2, z_go, e_sw, e_dupi, e_dupr, e_dup2, e_popi, e_popr, e_get, e_put, e_iald, e_iast, e_zald, e_zast, e_aald, e_aast, e_sld, e_slen, e_newa, e_newq, e_mna, e_new, e_oi, e_cs, e_cv, e_ci, e_min, e_max, e_copy, e_rv, e_ri, e_rz, e_rl, z_run, sx_en, sx_cat, sx_tk, sx_ps, sx_set, sx_setl, sx_dl, sx_m, sx_ft, List.map_cons, List.map_nil, List.getElem?_cons_zero, List.getElem?_cons_succ, List.replicate_succ, List.replicate_zero, List.set_cons_zero, List.set_cons_succ, List.length_cons, List.length_nil, Nat.reduceAdd, Nat.reduceSub, Nat.reduceLeDiff, Nat.reduceLT, Nat.reduceMul, Nat.zero_le, Nat.le_refl, Nat.add_zero, Nat.zero_add, true_and, and_true, true_or, sc53, q_up_s, q_up_n, q_up_up, q_upd_s, q_upd_n, q_upd_upd, q_in, q_in0, q_in1, q_cl, q_cl0, q_cl1, q_add, q_add1, q_1add, q_add0, q_0add, q_mul, q_ite0, q_ite01, q_10, or_true, not_false_eq_true, not_true_eq_false, q_n0, ne_eq, false_implies, true_implies, true_and, and_true, not_true_eq_false, not_false_eq_true, Bool.false_eq_true, sx_o, Sum.inr.injEq, Prod.mk.injEq, exists_eq', Nat.reduceLT]
  refine ⟨⟨wl_s (wsc 53) (wl_s (wr (by omega)) (wl_n (wl_n wl_0))), ws_0, w1⟩, ?_⟩
  refine s_init8 (q_up_s _ _ _) (WF_new w1 (we_m0 (fun k hk => by cases hk) (fun k hk => by cases hk) (fun k hk => by cases hk) (fun k hk => by cases hk) (fun k hk => by cases hk) (fun k hk => by cases hk) (fun k hk => by cases hk) (fun k hk => by cases hk) (fun k hk => by cases hk) (fun k hk => by cases hk) (fun k hk => by cases hk))) (fun x2 ag hMO hMR hMB hMA hMT hMI hMK => ⟨Or.inr ⟨wl_s (wsc 54) (wl_s (wr (by omega)) (wl_n (wl_n wl_0))), ws_c (wr (by omega)) ws_0⟩, ?_⟩)
  have e : ∀ j, j < 53 → x2 j = x1 j := fun j hj => (ag j hj).trans (q_up_n (by omega))
  have H : IV x2 := ⟨0, 0, p_mn 8, fun _ => 0, fun _ => 0, 0, fun _ => 0, fun _ => 0, 0, fun _ _ => 0, 0, fun _ => 0, fun _ => 0, fun _ => 0, (e 0 (by omega)).trans c0, XR_ag hR (fun j _ _ => e j (by omega)), XT_ag hT (fun j _ _ => e j (by omega)), XB_ag hB (fun j _ _ => e j (by omega)) (e 45 (by omega)), XA_ag hA (fun j _ _ => e j (by omega)), XK_ag hK (fun j _ _ => e j (by omega)), XI_ag hI (fun j _ _ => e j (by omega)), hMO, hMR, hMB, hMA, hMT, hMI, hMK, WR_0, by omega, WB_0, by omega, fun j hj => absurd hj (by omega), by omega, WB_0, WB_0⟩
  simp (disch := omega) only [e_const, e_lconst, e_il, e_ll, e_al, z_is, z_as, z_ls, z_inc, e_bin, e_div, e_un, e_lbin, e_ldiv, e_lcmp, e_i2l, e_l2i, e_if1, e_if2, z_go, e_sw, e_dupi, e_dupr, e_dup2, e_popi, e_popr, e_get, e_put, e_iald, e_iast, e_zald, e_zast, e_aald, e_aast, e_sld, e_slen, e_newa, e_newq, e_mna, e_new, e_oi, e_cs, e_cv, e_ci, e_min, e_max, e_copy, e_rv, e_ri, e_rz, e_rl, z_run, sx_en, sx_cat, sx_tk, sx_ps, sx_set, sx_setl, sx_dl, sx_m, sx_ft, List.map_cons, List.map_nil, List.getElem?_cons_zero, List.getElem?_cons_succ, List.replicate_succ, List.replicate_zero, List.set_cons_zero, List.set_cons_succ, List.length_cons, List.length_nil, Nat.reduceAdd, Nat.reduceSub, Nat.reduceLeDiff, Nat.reduceLT, Nat.reduceMul, Nat.zero_le, Nat.le_refl, Nat.add_zero, Nat.zero_add, true_and, and_true, true_or, q_up_s, q_up_n, q_up_up, q_upd_s, q_upd_n, q_upd_upd, q_in, q_in0, q_in1, q_cl, q_cl0, q_cl1, q_add, q_add1, q_1add, q_add0, q_0add, q_mul, q_ite0, q_ite01, q_10, or_true, not_false_eq_true, not_true_eq_false, q_n0, ne_eq, false_implies, true_implies, true_and, and_true, not_true_eq_false, not_false_eq_true, Bool.false_eq_true, sx_o, Sum.inr.injEq, Prod.mk.injEq, exists_eq', Nat.reduceLT]
  have key := law_lp (xs := xs) hL L 0 x2 (by omega) (by omega) H
  rw [nI_0] at key
  exact key
