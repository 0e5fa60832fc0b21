/-! the best set -/
def p_pc (x : Int32) : Int32 :=
  let a := x - ((x.toUInt32 >>> ((1 : Int32).toUInt32 &&& Int32.toUInt32 31)).toInt32 &&& nI 1431655765)
  let b := (a &&& nI 858993459) + ((a.toUInt32 >>> ((nI 2).toUInt32 &&& Int32.toUInt32 31)).toInt32 &&& nI 858993459)
  let c := (b + (b.toUInt32 >>> ((nI 4).toUInt32 &&& Int32.toUInt32 31)).toInt32) &&& nI 252645135
  let d := c + (c.toUInt32 >>> ((nI 8).toUInt32 &&& Int32.toUInt32 31)).toInt32
  let e := d + (d.toUInt32 >>> ((nI 16).toUInt32 &&& Int32.toUInt32 31)).toInt32
  e &&& nI 63
set_option maxRecDepth 100000 in
set_option maxHeartbeats 4000000 in
theorem s_bitCount (x : Int32) (n : Nat) (h : sx_H) (Q : sx_Q) : sx_Cal 195 [sx_i x] n h Q = Q (some (sx_i (p_pc x))) n h := by
  simp (disch := omega) only [e_const, e_lconst, e_il, e_ll, e_al, e_is, e_as, e_ls, e_inc, e_bin, e_div, e_un, e_lbin, e_ldiv, e_lcmp, e_i2l, e_l2i, e_if1, e_if2, e_go, e_sw, e_dupi, e_dupr, e_dup2, e_popi, e_popr, e_get, e_put, e_iald, e_iast, e_zald, e_zast, e_aald, e_aast, e_sld, e_slen, e_newa, e_newq, e_mna, e_new, e_oi, e_cs, e_cv, e_ci, e_min, e_max, e_copy, e_rv, e_ri, e_rz, e_rl, e_run, sx_en, sx_cat, sx_tk, sx_ps, sx_set, sx_setl, sx_dl, sx_m, sx_sw, sx_ft, List.map_cons, List.map_nil, List.getElem?_cons_zero, List.getElem?_cons_succ, List.replicate_succ, List.replicate_zero, List.set_cons_zero, List.set_cons_succ, List.length_cons, List.length_nil, Nat.reduceAdd, Nat.reduceSub, Nat.reduceLeDiff, Nat.reduceLT, Nat.reduceMul, Nat.zero_le, Nat.le_refl, Nat.add_zero, Nat.zero_add, true_and, and_true, true_or, cJ6_bitCount_0f7a4_c, tJ6_bitCount_0f7a4_0, bJ6_bitCount_0f7a4_0]
  rfl
def p_bt (s : Nat) : Nat → Int32
  | 0 => 0
  | i + 1 => p_bt s i + p_bit s i
set_option maxRecDepth 100000 in
set_option maxHeartbeats 4000000 in
theorem bt_pc {s : Nat} (hs : s < 64) : p_bt s 6 = p_pc (nI s) := by
  have : ∀ s : Fin 64, p_bt s 6 = p_pc (nI s) := by decide +kernel
  exact this ⟨s, hs⟩
set_option maxRecDepth 100000 in
set_option maxHeartbeats 4000000 in
theorem s_btM_lp (s n : Nat) (h : sx_H) (Rt : sx_R) : ∀ (k i : Nat), i + k = 6 → Rt (some (sx_i (p_bt s 6))) n h 0 0 → sx_T BX8_bits sx_Cal Rt 4 [some (sx_i (nI s)), some (sx_i (p_bt s i)), some (sx_i (nI i))] [] n h 0 0 := by
  intro k
  induction k with
  | zero =>
    intro i hi hR
    have : i = 6 := by omega
    subst this
    have hle : (((6 : Nat) : Int) ≤ ((6 : Nat) : Int)) = True := eq_true (by omega)
    rw [tX8_bits_4]
    simp (disch := omega) only [e_const, e_lconst, e_il, e_ll, e_al, e_is, e_as, e_ls, e_inc, e_bin, e_div, e_un, e_lbin, e_ldiv, e_lcmp, e_i2l, e_l2i, e_if1, e_if2, e_go, e_sw, e_dupi, e_dupr, e_dup2, e_popi, e_popr, e_get, e_put, e_iald, e_iast, e_zald, e_zast, e_aald, e_aast, e_sld, e_slen, e_newa, e_newq, e_mna, e_new, e_oi, e_cs, e_cv, e_ci, e_min, e_max, e_copy, e_rv, e_ri, e_rz, e_rl, e_run, sx_en, sx_cat, sx_tk, sx_ps, sx_set, sx_setl, sx_dl, sx_m, sx_sw, sx_ft, List.map_cons, List.map_nil, List.getElem?_cons_zero, List.getElem?_cons_succ, List.replicate_succ, List.replicate_zero, List.set_cons_zero, List.set_cons_succ, List.length_cons, List.length_nil, Nat.reduceAdd, Nat.reduceSub, Nat.reduceLeDiff, Nat.reduceLT, Nat.reduceMul, Nat.zero_le, Nat.le_refl, Nat.add_zero, Nat.zero_add, true_and, and_true, true_or, bX8_bits_4, tX8_bits_24, bX8_bits_24, q_le (nI 6) (nI 6), q_ti, hle, q_up_s, q_up_n, q_up_up, q_upd_s, q_upd_n, q_upd_upd, q_in, q_in0, q_in1, q_cl, q_cl0, q_cl1, q_add, q_add1, q_1add, q_add0, q_0add, q_mul, q_ite0, q_ite01, q_10, or_true, not_false_eq_true, not_true_eq_false, q_n0, ne_eq, false_implies, true_implies, true_and, and_true, not_true_eq_false, not_false_eq_true, Bool.false_eq_true]
    exact hR
  | succ k ih =>
    intro i hi hR
    have hle : (((6 : Nat) : Int) ≤ (i : Int)) = False := eq_false (by omega)
    have hbit : nI s >>> (nI i &&& 31) &&& 1 = p_bit s i := rfl
    have hsum : p_bt s i + p_bit s i = p_bt s (i + 1) := rfl
    rw [tX8_bits_4]
    simp (disch := omega) only [e_const, e_lconst, e_il, e_ll, e_al, e_is, e_as, e_ls, e_inc, e_bin, e_div, e_un, e_lbin, e_ldiv, e_lcmp, e_i2l, e_l2i, e_if1, e_if2, e_go, e_sw, e_dupi, e_dupr, e_dup2, e_popi, e_popr, e_get, e_put, e_iald, e_iast, e_zald, e_zast, e_aald, e_aast, e_sld, e_slen, e_newa, e_newq, e_mna, e_new, e_oi, e_cs, e_cv, e_ci, e_min, e_max, e_copy, e_rv, e_ri, e_rz, e_rl, e_run, sx_en, sx_cat, sx_tk, sx_ps, sx_set, sx_setl, sx_dl, sx_m, sx_sw, sx_ft, List.map_cons, List.map_nil, List.getElem?_cons_zero, List.getElem?_cons_succ, List.replicate_succ, List.replicate_zero, List.set_cons_zero, List.set_cons_succ, List.length_cons, List.length_nil, Nat.reduceAdd, Nat.reduceSub, Nat.reduceLeDiff, Nat.reduceLT, Nat.reduceMul, Nat.zero_le, Nat.le_refl, Nat.add_zero, Nat.zero_add, true_and, and_true, true_or, bX8_bits_4, hbit, hsum, q_le (nI 6) (nI i), q_ti, hle, q_up_s, q_up_n, q_up_up, q_upd_s, q_upd_n, q_upd_upd, q_in, q_in0, q_in1, q_cl, q_cl0, q_cl1, q_add, q_add1, q_1add, q_add0, q_0add, q_mul, q_ite0, q_ite01, q_10, or_true, not_false_eq_true, not_true_eq_false, q_n0, ne_eq, false_implies, true_implies, true_and, and_true, not_true_eq_false, not_false_eq_true, Bool.false_eq_true]
    exact ih (i + 1) (by omega) hR
set_option maxRecDepth 100000 in
set_option maxHeartbeats 4000000 in
theorem s_bitsM {s : Nat} (hs : s < 64) (n : Nat) (h : sx_H) {Q : sx_Q} (hQ : Q (some (sx_i (p_pc (nI s)))) n h) : sx_Cal 171 [sx_i (nI s)] n h Q := by
  simp (disch := omega) only [e_const, e_lconst, e_il, e_ll, e_al, e_is, e_as, e_ls, e_inc, e_bin, e_div, e_un, e_lbin, e_ldiv, e_lcmp, e_i2l, e_l2i, e_if1, e_if2, e_go, e_sw, e_dupi, e_dupr, e_dup2, e_popi, e_popr, e_get, e_put, e_iald, e_iast, e_zald, e_zast, e_aald, e_aast, e_sld, e_slen, e_newa, e_newq, e_mna, e_new, e_oi, e_cs, e_cv, e_ci, e_min, e_max, e_copy, e_rv, e_ri, e_rz, e_rl, e_run, sx_en, sx_cat, sx_tk, sx_ps, sx_set, sx_setl, sx_dl, sx_m, sx_sw, sx_ft, List.map_cons, List.map_nil, List.getElem?_cons_zero, List.getElem?_cons_succ, List.replicate_succ, List.replicate_zero, List.set_cons_zero, List.set_cons_succ, List.length_cons, List.length_nil, Nat.reduceAdd, Nat.reduceSub, Nat.reduceLeDiff, Nat.reduceLT, Nat.reduceMul, Nat.zero_le, Nat.le_refl, Nat.add_zero, Nat.zero_add, true_and, and_true, true_or, cX8_bits_c, tX8_bits_0, bX8_bits_0, q_up_s, q_up_n, q_up_up, q_upd_s, q_upd_n, q_upd_upd, q_in, q_in0, q_in1, q_cl, q_cl0, q_cl1, q_add, q_add1, q_1add, q_add0, q_0add, q_mul, q_ite0, q_ite01, q_10, or_true, not_false_eq_true, not_true_eq_false, q_n0, ne_eq]
  have := s_btM_lp s n h (fun r n' h' kc ks => Q r n' h' ∧ kc ≤ 0 ∧ ks ≤ 0) 6 0 (by omega) ⟨by rw [bt_pc hs]; exact hQ, Nat.le_refl _, Nat.le_refl _⟩
  rw [nI_0] at this
  exact this
def p_wsh (f : Nat → Int32) (m s : Nat) : Int32 := p_wks (p_giv f s 6) m 57
def p_wsw (f : Nat → Int32) (m s : Nat) : Int32 := p_wks (p_giv f s 6) m 54 - p_wks (p_giv f s 6) m 55
def p_bet (f : Nat → Int32) (m : Nat) (b : Int32 × Int32) (s : Nat) : Bool := decide (p_wsh f m s = 0 ∧ (b.1 = -1000000 ∨ b.2 < p_wsw f m s ∨ (p_wsw f m s = b.2 ∧ ¬ p_pc b.1 ≤ p_pc (nI s))))
def p_bst (f : Nat → Int32) (m : Nat) : Nat → Int32 × Int32
  | 0 => (-1000000, 0)
  | s + 1 => if p_bet f m (p_bst f m s) s then (nI s, p_wsw f m s) else p_bst f m s
set_option maxRecDepth 100000 in
set_option maxHeartbeats 4000000 in
theorem bst_n (f : Nat → Int32) (m : Nat) : ∀ i, (p_bst f m i).1 = -1000000 ∨ ∃ j, j < i ∧ (p_bst f m i).1 = nI j := by
  intro i
  induction i with
  | zero => exact Or.inl rfl
  | succ i ih =>
    rw [p_bst]
    by_cases z : p_bet f m (p_bst f m i) i = true
    · rw [if_pos z]; exact Or.inr ⟨i, by omega, rfl⟩
    · rw [if_neg z]
      rcases ih with a | ⟨j, a, b⟩
      · exact Or.inl a
      · exact Or.inr ⟨j, by omega, b⟩
section WH
variable {n : Nat} {f : Nat → Int32} {m : Nat}
set_option maxRecDepth 100000 in
set_option maxHeartbeats 4000000 in
theorem s_giveB_lp (s : Nat) (hn : 45 < n) (Rt : sx_R) : ∀ (k i : Nat) (h : sx_H), i + k = 6 → h 45 = sx_o 3 [sx_r (some 15), sx_r (some 17)] → h 17 = sx_o 2 [sx_r (some 18)] → h 18 = sx_ai 62 (p_giv f s i) → sx_T BX4_giveOnlyTo sx_Cal Rt 46 [some (sx_r (some 45)), none, some (sx_i (nI m)), none] [] n (sx_up h 18 (sx_ai 62 (p_giv f s 6))) 0 0 → sx_T BX4_giveOnlyTo sx_Cal Rt 13 [some (sx_r (some 45)), some (sx_i (nI s)), some (sx_i (nI m)), some (sx_i (nI i))] [] n h 0 0 := by
  have hn2 : 17 < n := by omega
  have hn3 : 18 < n := by omega
  intro k
  induction k with
  | zero =>
    intro i h hi h1 h2 h3 hR
    have : i = 6 := by omega
    subst this
    rw [q_up_id h3] at hR
    have hle : (((6 : Nat) : Int) ≤ ((6 : Nat) : Int)) = True := eq_true (by omega)
    rw [tX4_giveOnlyTo_13]
    simp (disch := omega) only [e_const, e_lconst, e_il, e_ll, e_al, e_is, e_as, e_ls, e_inc, e_bin, e_div, e_un, e_lbin, e_ldiv, e_lcmp, e_i2l, e_l2i, e_if1, e_if2, e_go, e_sw, e_dupi, e_dupr, e_dup2, e_popi, e_popr, e_get, e_put, e_iald, e_iast, e_zald, e_zast, e_aald, e_aast, e_sld, e_slen, e_newa, e_newq, e_mna, e_new, e_oi, e_cs, e_cv, e_ci, e_min, e_max, e_copy, e_rv, e_ri, e_rz, e_rl, e_run, sx_en, sx_cat, sx_tk, sx_ps, sx_set, sx_setl, sx_dl, sx_m, sx_sw, sx_ft, List.map_cons, List.map_nil, List.getElem?_cons_zero, List.getElem?_cons_succ, List.replicate_succ, List.replicate_zero, List.set_cons_zero, List.set_cons_succ, List.length_cons, List.length_nil, Nat.reduceAdd, Nat.reduceSub, Nat.reduceLeDiff, Nat.reduceLT, Nat.reduceMul, Nat.zero_le, Nat.le_refl, Nat.add_zero, Nat.zero_add, true_and, and_true, true_or, bX4_giveOnlyTo_13, q_le (nI 6) (nI 6), q_ti, hle, q_up_s, q_up_n, q_up_up, q_upd_s, q_upd_n, q_upd_upd, q_in, q_in0, q_in1, q_cl, q_cl0, q_cl1, q_add, q_add1, q_1add, q_add0, q_0add, q_mul, q_ite0, q_ite01, q_10, or_true, not_false_eq_true, not_true_eq_false, q_n0, ne_eq, false_implies, true_implies, true_and, and_true, not_true_eq_false, not_false_eq_true, Bool.false_eq_true]
    exact hR
  | succ k ih =>
    intro i h hi h1 h2 h3 hR
    have hle : (((6 : Nat) : Int) ≤ (i : Int)) = False := eq_false (by omega)
    have hbit : nI s >>> (nI i &&& 31) &&& 1 = p_bit s i := rfl
    have hx : 18 + i < 62 := by omega
    rw [tX4_giveOnlyTo_13]
    simp (disch := omega) only [e_const, e_lconst, e_il, e_ll, e_al, e_is, e_as, e_ls, e_inc, e_bin, e_div, e_un, e_lbin, e_ldiv, e_lcmp, e_i2l, e_l2i, e_if1, e_if2, e_go, e_sw, e_dupi, e_dupr, e_dup2, e_popi, e_popr, e_get, e_put, e_iald, e_iast, e_zald, e_zast, e_aald, e_aast, e_sld, e_slen, e_newa, e_newq, e_mna, e_new, e_oi, e_cs, e_cv, e_ci, e_min, e_max, e_copy, e_rv, e_ri, e_rz, e_rl, e_run, sx_en, sx_cat, sx_tk, sx_ps, sx_set, sx_setl, sx_dl, sx_m, sx_sw, sx_ft, List.map_cons, List.map_nil, List.getElem?_cons_zero, List.getElem?_cons_succ, List.replicate_succ, List.replicate_zero, List.set_cons_zero, List.set_cons_succ, List.length_cons, List.length_nil, Nat.reduceAdd, Nat.reduceSub, Nat.reduceLeDiff, Nat.reduceLT, Nat.reduceMul, Nat.zero_le, Nat.le_refl, Nat.add_zero, Nat.zero_add, true_and, and_true, true_or, bX4_giveOnlyTo_13, tX4_giveOnlyTo_40, bX4_giveOnlyTo_40, hbit, hx, h1, h2, h3, hn, hn2, hn3, q_le (nI 6) (nI i), q_ti, hle, q_up_s, q_up_n, q_up_up, q_upd_s, q_upd_n, q_upd_upd, q_in, q_in0, q_in1, q_cl, q_cl0, q_cl1, q_add, q_add1, q_1add, q_add0, q_0add, q_mul, q_ite0, q_ite01, q_10, or_true, not_false_eq_true, not_true_eq_false, q_n0, ne_eq, false_implies, true_implies, true_and, and_true, not_true_eq_false, not_false_eq_true, Bool.false_eq_true, sx_o, Sum.inr.injEq, Prod.mk.injEq, exists_eq', Nat.reduceLT]
    refine ⟨fun z => ?_, fun z => ?_⟩
    · exact ih (i + 1) h (by omega) h1 h2 (by rw [p_giv, if_neg z]; exact h3) hR
    · have z' : p_bit s i = 0 := Classical.not_not.mp z
      exact ih (i + 1) (sx_up h 18 (sx_ai 62 (upd (p_giv f s i) (18 + i) 0))) (by omega) ((q_up_n (by decide)).trans h1) ((q_up_n (by decide)).trans h2) (by rw [p_giv, if_pos z']; exact q_up_s _ _ _) (by rw [q_up_up]; exact hR)
set_option maxRecDepth 100000 in
set_option maxHeartbeats 4000000 in
theorem s_giveB (s : Nat) (hn : 45 < n) (hm : m ≤ 60) {h : sx_H} {Q : sx_Q} {g : Nat → Int32} (h1 : h 45 = sx_o 3 [sx_r (some 15), sx_r (some 17)]) (h2 : h 17 = sx_o 2 [sx_r (some 18)]) (h3 : h 18 = sx_ai 62 g) (h4 : h 15 = sx_o 2 [sx_r (some 16)]) (h5 : h 16 = sx_ai 62 f) (hf : ∀ j, 62 ≤ j → f j = 0) (hg : ∀ j, 62 ≤ j → g j = 0) (hQ : Q none n (sx_up h 18 (sx_ai 62 (p_wks (p_giv f s 6) m)))) : sx_Cal 54 [sx_r (some 45), sx_i (nI s), sx_i (nI m)] n h Q := by
  have hn2 : 17 < n := by omega
  have hn3 : 18 < n := by omega
  have hn4 : 15 < n := by omega
  have hn5 : 16 < n := by omega
  simp (disch := omega) only [e_const, e_lconst, e_il, e_ll, e_al, e_is, e_as, e_ls, e_inc, e_bin, e_div, e_un, e_lbin, e_ldiv, e_lcmp, e_i2l, e_l2i, e_if1, e_if2, e_go, e_sw, e_dupi, e_dupr, e_dup2, e_popi, e_popr, e_get, e_put, e_iald, e_iast, e_zald, e_zast, e_aald, e_aast, e_sld, e_slen, e_newa, e_newq, e_mna, e_new, e_oi, e_cs, e_cv, e_ci, e_min, e_max, e_copy, e_rv, e_ri, e_rz, e_rl, e_run, sx_en, sx_cat, sx_tk, sx_ps, sx_set, sx_setl, sx_dl, sx_m, sx_sw, sx_ft, List.map_cons, List.map_nil, List.getElem?_cons_zero, List.getElem?_cons_succ, List.replicate_succ, List.replicate_zero, List.set_cons_zero, List.set_cons_succ, List.length_cons, List.length_nil, Nat.reduceAdd, Nat.reduceSub, Nat.reduceLeDiff, Nat.reduceLT, Nat.reduceMul, Nat.zero_le, Nat.le_refl, Nat.add_zero, Nat.zero_add, true_and, and_true, true_or, cX4_giveOnlyTo_c, tX4_giveOnlyTo_0, bX4_giveOnlyTo_0, h1, h2, hn, hn2, q_up_s, q_up_n, q_up_up, q_upd_s, q_upd_n, q_upd_upd, q_in, q_in0, q_in1, q_cl, q_cl0, q_cl1, q_add, q_add1, q_1add, q_add0, q_0add, q_mul, q_ite0, q_ite01, q_10, or_true, not_false_eq_true, not_true_eq_false, q_n0, ne_eq, false_implies, true_implies, true_and, and_true, not_true_eq_false, not_false_eq_true, Bool.false_eq_true, sx_o, Sum.inr.injEq, Prod.mk.injEq, exists_eq', Nat.reduceLT]
  refine s_becomes h2 h3 h4 h5 hg hf hn2 hn3 hn4 hn5 ?_
  simp (disch := omega) only [e_const, e_lconst, e_il, e_ll, e_al, e_is, e_as, e_ls, e_inc, e_bin, e_div, e_un, e_lbin, e_ldiv, e_lcmp, e_i2l, e_l2i, e_if1, e_if2, e_go, e_sw, e_dupi, e_dupr, e_dup2, e_popi, e_popr, e_get, e_put, e_iald, e_iast, e_zald, e_zast, e_aald, e_aast, e_sld, e_slen, e_newa, e_newq, e_mna, e_new, e_oi, e_cs, e_cv, e_ci, e_min, e_max, e_copy, e_rv, e_ri, e_rz, e_rl, e_run, sx_en, sx_cat, sx_tk, sx_ps, sx_set, sx_setl, sx_dl, sx_m, sx_sw, sx_ft, List.map_cons, List.map_nil, List.getElem?_cons_zero, List.getElem?_cons_succ, List.replicate_succ, List.replicate_zero, List.set_cons_zero, List.set_cons_succ, List.length_cons, List.length_nil, Nat.reduceAdd, Nat.reduceSub, Nat.reduceLeDiff, Nat.reduceLT, Nat.reduceMul, Nat.zero_le, Nat.le_refl, Nat.add_zero, Nat.zero_add, true_and, and_true, true_or, q_up_s, q_up_n, q_up_up, q_upd_s, q_upd_n, q_upd_upd, q_in, q_in0, q_in1, q_cl, q_cl0, q_cl1, q_add, q_add1, q_1add, q_add0, q_0add, q_mul, q_ite0, q_ite01, q_10, or_true, not_false_eq_true, not_true_eq_false, q_n0, ne_eq, false_implies, true_implies, true_and, and_true, not_true_eq_false, not_false_eq_true, Bool.false_eq_true, sx_o, Sum.inr.injEq, Prod.mk.injEq, exists_eq', Nat.reduceLT]
  have key := fun Rt hR => s_giveB_lp (n := n) (f := f) (m := m) s hn Rt 6 0 (sx_up h 18 (sx_ai 62 f)) (by omega) ((q_up_n (by decide)).trans h1) ((q_up_n (by decide)).trans h2) (q_up_s _ _ _) hR
  rw [nI_0] at key
  refine key _ ?_
  simp (disch := omega) only [e_const, e_lconst, e_il, e_ll, e_al, e_is, e_as, e_ls, e_inc, e_bin, e_div, e_un, e_lbin, e_ldiv, e_lcmp, e_i2l, e_l2i, e_if1, e_if2, e_go, e_sw, e_dupi, e_dupr, e_dup2, e_popi, e_popr, e_get, e_put, e_iald, e_iast, e_zald, e_zast, e_aald, e_aast, e_sld, e_slen, e_newa, e_newq, e_mna, e_new, e_oi, e_cs, e_cv, e_ci, e_min, e_max, e_copy, e_rv, e_ri, e_rz, e_rl, e_run, sx_en, sx_cat, sx_tk, sx_ps, sx_set, sx_setl, sx_dl, sx_m, sx_sw, sx_ft, List.map_cons, List.map_nil, List.getElem?_cons_zero, List.getElem?_cons_succ, List.replicate_succ, List.replicate_zero, List.set_cons_zero, List.set_cons_succ, List.length_cons, List.length_nil, Nat.reduceAdd, Nat.reduceSub, Nat.reduceLeDiff, Nat.reduceLT, Nat.reduceMul, Nat.zero_le, Nat.le_refl, Nat.add_zero, Nat.zero_add, true_and, and_true, true_or, tX4_giveOnlyTo_46, bX4_giveOnlyTo_46, h1, hn, q_up_s, q_up_n, q_up_up, q_upd_s, q_upd_n, q_upd_upd, q_in, q_in0, q_in1, q_cl, q_cl0, q_cl1, q_add, q_add1, q_1add, q_add0, q_0add, q_mul, q_ite0, q_ite01, q_10, or_true, not_false_eq_true, not_true_eq_false, q_n0, ne_eq, false_implies, true_implies, true_and, and_true, not_true_eq_false, not_false_eq_true, Bool.false_eq_true, sx_o, Sum.inr.injEq, Prod.mk.injEq, exists_eq', Nat.reduceLT]
  refine s_pass (g := p_giv f s 6) (m := m) hn (by omega) ((q_up_n (by decide)).trans h1) ((q_up_n (by decide)).trans h2) (q_up_s _ _ _) ?_
  simp (disch := omega) only [e_const, e_lconst, e_il, e_ll, e_al, e_is, e_as, e_ls, e_inc, e_bin, e_div, e_un, e_lbin, e_ldiv, e_lcmp, e_i2l, e_l2i, e_if1, e_if2, e_go, e_sw, e_dupi, e_dupr, e_dup2, e_popi, e_popr, e_get, e_put, e_iald, e_iast, e_zald, e_zast, e_aald, e_aast, e_sld, e_slen, e_newa, e_newq, e_mna, e_new, e_oi, e_cs, e_cv, e_ci, e_min, e_max, e_copy, e_rv, e_ri, e_rz, e_rl, e_run, sx_en, sx_cat, sx_tk, sx_ps, sx_set, sx_setl, sx_dl, sx_m, sx_sw, sx_ft, List.map_cons, List.map_nil, List.getElem?_cons_zero, List.getElem?_cons_succ, List.replicate_succ, List.replicate_zero, List.set_cons_zero, List.set_cons_succ, List.length_cons, List.length_nil, Nat.reduceAdd, Nat.reduceSub, Nat.reduceLeDiff, Nat.reduceLT, Nat.reduceMul, Nat.zero_le, Nat.le_refl, Nat.add_zero, Nat.zero_add, true_and, and_true, true_or, q_up_s, q_up_n, q_up_up, q_upd_s, q_upd_n, q_upd_upd, q_in, q_in0, q_in1, q_cl, q_cl0, q_cl1, q_add, q_add1, q_1add, q_add0, q_0add, q_mul, q_ite0, q_ite01, q_10, or_true, not_false_eq_true, not_true_eq_false, q_n0, ne_eq, false_implies, true_implies, true_and, and_true, not_true_eq_false, not_false_eq_true, Bool.false_eq_true, sx_o, Sum.inr.injEq, Prod.mk.injEq, exists_eq', Nat.reduceLT]
  exact hQ
set_option maxRecDepth 100000 in
set_option maxHeartbeats 4000000 in
theorem s_whoB_lp (hn : 45 < n) (hm : m ≤ 60) (hf : ∀ j, 62 ≤ j → f j = 0) (hW : ∀ i, i < 64 → WB 3000 (p_wks (p_giv f i 6) m)) (wt : Int32) {N : Nat} (hN : N ≤ 64) (Rt : sx_R) : ∀ (k i : Nat) (h : sx_H), i + k = N → h 45 = sx_o 3 [sx_r (some 15), sx_r (some 17)] → h 17 = sx_o 2 [sx_r (some 18)] → h 15 = sx_o 2 [sx_r (some 16)] → h 16 = sx_ai 62 f → (∃ g, h 18 = sx_ai 62 g ∧ ∀ j, 62 ≤ j → g j = 0) → (∀ g', (∀ j, 62 ≤ j → g' j = 0) → Rt (some (sx_i (if (p_bst f m N).1 = -1000000 ∨ wt = 0 then (p_bst f m N).1 else (p_bst f m N).2))) n (sx_up h 18 (sx_ai 62 g')) 0 0) → sx_T BX4_bestSet sx_Cal Rt 23 [some (sx_r (some 45)), some (sx_i (nI m)), some (sx_i wt), some (sx_i (nI N)), some (sx_i (p_bst f m i).1), some (sx_i (p_bst f m i).2), some (sx_i (nI i)), none, none] [] n h 0 0 := by
  have hn2 : 17 < n := by omega
  have hn3 : 18 < n := by omega
  have hn4 : 15 < n := by omega
  have hn5 : 16 < n := by omega
  intro k
  induction k with
  | zero =>
    intro i h hi h1 h2 h4 h5 ⟨g, h3, hg⟩ hR
    have : i = N := by omega
    subst this
    have hR := hR g hg
    rw [q_up_id h3] at hR
    have hle : ((i : Int) ≤ (i : Int)) = True := eq_true (by omega)
    rw [tX4_bestSet_23]
    simp (disch := omega) only [e_const, e_lconst, e_il, e_ll, e_al, e_is, e_as, e_ls, e_inc, e_bin, e_div, e_un, e_lbin, e_ldiv, e_lcmp, e_i2l, e_l2i, e_if1, e_if2, e_go, e_sw, e_dupi, e_dupr, e_dup2, e_popi, e_popr, e_get, e_put, e_iald, e_iast, e_zald, e_zast, e_aald, e_aast, e_sld, e_slen, e_newa, e_newq, e_mna, e_new, e_oi, e_cs, e_cv, e_ci, e_min, e_max, e_copy, e_rv, e_ri, e_rz, e_rl, e_run, sx_en, sx_cat, sx_tk, sx_ps, sx_set, sx_setl, sx_dl, sx_m, sx_sw, sx_ft, List.map_cons, List.map_nil, List.getElem?_cons_zero, List.getElem?_cons_succ, List.replicate_succ, List.replicate_zero, List.set_cons_zero, List.set_cons_succ, List.length_cons, List.length_nil, Nat.reduceAdd, Nat.reduceSub, Nat.reduceLeDiff, Nat.reduceLT, Nat.reduceMul, Nat.zero_le, Nat.le_refl, Nat.add_zero, Nat.zero_add, true_and, and_true, true_or, bX4_bestSet_23, tX4_bestSet_122, bX4_bestSet_122, tX4_bestSet_133, bX4_bestSet_133, tX4_bestSet_138, bX4_bestSet_138, tX4_bestSet_140, bX4_bestSet_140, q_le (nI i) (nI i), q_ti, hle, q_up_s, q_up_n, q_up_up, q_upd_s, q_upd_n, q_upd_upd, q_in, q_in0, q_in1, q_cl, q_cl0, q_cl1, q_add, q_add1, q_1add, q_add0, q_0add, q_mul, q_ite0, q_ite01, q_10, or_true, not_false_eq_true, not_true_eq_false, q_n0, ne_eq, false_implies, true_implies, true_and, and_true, not_true_eq_false, not_false_eq_true, Bool.false_eq_true]
    refine ⟨fun z => ?_, fun z => ⟨fun y => ?_, fun y => ?_⟩⟩
    · rw [if_pos (Or.inl z)] at hR; exact hR
    · rw [if_neg (fun q => q.elim z y)] at hR; exact hR
    · rw [if_pos (Or.inr (Classical.not_not.mp y))] at hR; exact hR
  | succ k ih =>
    intro i h hi h1 h2 h4 h5 ⟨g, h3, hg⟩ hR
    have hle : ((N : Int) ≤ (i : Int)) = False := eq_false (by omega)
    rw [tX4_bestSet_23]
    simp (disch := omega) only [e_const, e_lconst, e_il, e_ll, e_al, e_is, e_as, e_ls, e_inc, e_bin, e_div, e_un, e_lbin, e_ldiv, e_lcmp, e_i2l, e_l2i, e_if1, e_if2, e_go, e_sw, e_dupi, e_dupr, e_dup2, e_popi, e_popr, e_get, e_put, e_iald, e_iast, e_zald, e_zast, e_aald, e_aast, e_sld, e_slen, e_newa, e_newq, e_mna, e_new, e_oi, e_cs, e_cv, e_ci, e_min, e_max, e_copy, e_rv, e_ri, e_rz, e_rl, e_run, sx_en, sx_cat, sx_tk, sx_ps, sx_set, sx_setl, sx_dl, sx_m, sx_sw, sx_ft, List.map_cons, List.map_nil, List.getElem?_cons_zero, List.getElem?_cons_succ, List.replicate_succ, List.replicate_zero, List.set_cons_zero, List.set_cons_succ, List.length_cons, List.length_nil, Nat.reduceAdd, Nat.reduceSub, Nat.reduceLeDiff, Nat.reduceLT, Nat.reduceMul, Nat.zero_le, Nat.le_refl, Nat.add_zero, Nat.zero_add, true_and, and_true, true_or, bX4_bestSet_23, h1, h2, hn, hn2, q_le (nI N) (nI i), q_ti, hle, q_up_s, q_up_n, q_up_up, q_upd_s, q_upd_n, q_upd_upd, q_in, q_in0, q_in1, q_cl, q_cl0, q_cl1, q_add, q_add1, q_1add, q_add0, q_0add, q_mul, q_ite0, q_ite01, q_10, or_true, not_false_eq_true, not_true_eq_false, q_n0, ne_eq, false_implies, true_implies, true_and, and_true, not_true_eq_false, not_false_eq_true, Bool.false_eq_true, sx_o, Sum.inr.injEq, Prod.mk.injEq, exists_eq', Nat.reduceLT]
    refine s_giveB i hn hm h1 h2 h3 h4 h5 hf hg ?_
    have hw := hW i (by omega)
    have := ih (i + 1) (sx_up h 18 (sx_ai 62 (p_wks (p_giv f i 6) m))) (by omega) ((q_up_n (by omega)).trans h1) ((q_up_n (by omega)).trans h2) ((q_up_n (by omega)).trans h4) ((q_up_n (by omega)).trans h5) ⟨_, q_up_s _ _ _, hw.1⟩ (fun g' hg' => by rw [q_up_up]; exact hR g' hg')
    have ew : p_wks (p_giv f i 6) m 54 - p_wks (p_giv f i 6) m 55 = p_wsw f m i := rfl
    have es : p_wks (p_giv f i 6) m 57 = p_wsh f m i := rfl
    have e01 : p_wsh f m i = 0 ∨ p_wsh f m i = 1 := by
      obtain ⟨c', w', -, -, hE⟩ := WB_iff.mp hw
      exact hE.2.2.2.2.2.1
    rw [p_bst] at this
    have G1 : p_bet f m (p_bst f m i) i = true → sx_T BX4_bestSet sx_Cal Rt 23 [some (sx_r (some 45)), some (sx_i (nI m)), some (sx_i wt), some (sx_i (nI N)), some (sx_i (nI i)), some (sx_i (p_wsw f m i)), some (sx_i (nI (i + 1))), none, none] [] n (sx_up h 18 (sx_ai 62 (p_wks (p_giv f i 6) m))) 0 0 := fun z => by rw [if_pos z] at this; exact this
    have G2 : ¬ p_bet f m (p_bst f m i) i = true → sx_T BX4_bestSet sx_Cal Rt 23 [some (sx_r (some 45)), some (sx_i (nI m)), some (sx_i wt), some (sx_i (nI N)), some (sx_i (p_bst f m i).1), some (sx_i (p_bst f m i).2), some (sx_i (nI (i + 1))), none, none] [] n (sx_up h 18 (sx_ai 62 (p_wks (p_giv f i 6) m))) 0 0 := fun z => by rw [if_neg z] at this; exact this
    rcases e01 with e0 | e1
    · simp (disch := omega) only [e_const, e_lconst, e_il, e_ll, e_al, e_is, e_as, e_ls, e_inc, e_bin, e_div, e_un, e_lbin, e_ldiv, e_lcmp, e_i2l, e_l2i, e_if1, e_if2, e_go, e_sw, e_dupi, e_dupr, e_dup2, e_popi, e_popr, e_get, e_put, e_iald, e_iast, e_zald, e_zast, e_aald, e_aast, e_sld, e_slen, e_newa, e_newq, e_mna, e_new, e_oi, e_cs, e_cv, e_ci, e_min, e_max, e_copy, e_rv, e_ri, e_rz, e_rl, e_run, sx_en, sx_cat, sx_tk, sx_ps, sx_set, sx_setl, sx_dl, sx_m, sx_sw, sx_ft, List.map_cons, List.map_nil, List.getElem?_cons_zero, List.getElem?_cons_succ, List.replicate_succ, List.replicate_zero, List.set_cons_zero, List.set_cons_succ, List.length_cons, List.length_nil, Nat.reduceAdd, Nat.reduceSub, Nat.reduceLeDiff, Nat.reduceLT, Nat.reduceMul, Nat.zero_le, Nat.le_refl, Nat.add_zero, Nat.zero_add, true_and, and_true, true_or, tX4_bestSet_53, bX4_bestSet_53, tX4_bestSet_79, bX4_bestSet_79, tX4_bestSet_80, bX4_bestSet_80, tX4_bestSet_108, bX4_bestSet_108, tX4_bestSet_116, bX4_bestSet_116, cX2_worth_c, tX2_worth_0, bX2_worth_0, s_bitCount, h1, h2, hn, hn2, hn3, ew, es, e0, q_01, q_10, q_up_s, q_up_n, q_up_up, q_upd_s, q_upd_n, q_upd_upd, q_in, q_in0, q_in1, q_cl, q_cl0, q_cl1, q_add, q_add1, q_1add, q_add0, q_0add, q_mul, q_ite0, q_ite01, q_10, or_true, not_false_eq_true, not_true_eq_false, q_n0, ne_eq, false_implies, true_implies, true_and, and_true, not_true_eq_false, not_false_eq_true, Bool.false_eq_true, sx_o, Sum.inr.injEq, Prod.mk.injEq, exists_eq', Nat.reduceLT]
      exact ⟨fun a => ⟨fun b => G1 (by simp [p_bet, e0, b]), fun b => ⟨fun c => G1 (by simp [p_bet, e0, c]), fun c => ⟨fun d => G2 (by simp [p_bet, e0, b, c, d]), fun d => G2 (by simp [p_bet, e0, b, c, a])⟩⟩⟩, fun a => ⟨fun b => G1 (by simp [p_bet, e0, b]), fun b => ⟨fun c => G1 (by simp [p_bet, e0, c]), fun c => ⟨fun d => G2 (by simp [p_bet, e0, b, c, d]), fun d => G1 (by simp [p_bet, e0, a, Classical.not_not.mp d])⟩⟩⟩⟩
    · simp (disch := omega) only [e_const, e_lconst, e_il, e_ll, e_al, e_is, e_as, e_ls, e_inc, e_bin, e_div, e_un, e_lbin, e_ldiv, e_lcmp, e_i2l, e_l2i, e_if1, e_if2, e_go, e_sw, e_dupi, e_dupr, e_dup2, e_popi, e_popr, e_get, e_put, e_iald, e_iast, e_zald, e_zast, e_aald, e_aast, e_sld, e_slen, e_newa, e_newq, e_mna, e_new, e_oi, e_cs, e_cv, e_ci, e_min, e_max, e_copy, e_rv, e_ri, e_rz, e_rl, e_run, sx_en, sx_cat, sx_tk, sx_ps, sx_set, sx_setl, sx_dl, sx_m, sx_sw, sx_ft, List.map_cons, List.map_nil, List.getElem?_cons_zero, List.getElem?_cons_succ, List.replicate_succ, List.replicate_zero, List.set_cons_zero, List.set_cons_succ, List.length_cons, List.length_nil, Nat.reduceAdd, Nat.reduceSub, Nat.reduceLeDiff, Nat.reduceLT, Nat.reduceMul, Nat.zero_le, Nat.le_refl, Nat.add_zero, Nat.zero_add, true_and, and_true, true_or, tX4_bestSet_116, bX4_bestSet_116, h1, h2, hn, hn2, hn3, ew, es, e1, q_up_s, q_up_n, q_up_up, q_upd_s, q_upd_n, q_upd_upd, q_in, q_in0, q_in1, q_cl, q_cl0, q_cl1, q_add, q_add1, q_1add, q_add0, q_0add, q_mul, q_ite0, q_ite01, q_10, or_true, not_false_eq_true, not_true_eq_false, q_n0, ne_eq, false_implies, true_implies, true_and, and_true, not_true_eq_false, not_false_eq_true, Bool.false_eq_true, sx_o, Sum.inr.injEq, Prod.mk.injEq, exists_eq', Nat.reduceLT]
      exact G2 (by simp [p_bet, e1, q_10])
end WH
