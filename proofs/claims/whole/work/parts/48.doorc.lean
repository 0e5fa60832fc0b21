/-! at the door: the reference -/
section DM
variable {n : Nat} {f : Nat → Int32} {th st tp cu sa tk va fa fp la tr : Int32} {ac : Nat}
/-- the one of the first i who is not seen and has nobody unseen ahead of him -/
def p_lst (f : Nat → Int32) (p i : Nat) (v : Int32) : Prop := (∃ j, j < i ∧ cmb f j = true ∧ p ≤ p_rk f j 6 ∧ v = nI j ∧ ∀ o, o < i → cmb f o = true → p ≤ p_rk f o 6 → o ≠ j → p_bef f j o = true) ∨ ((∀ o, o < i → cmb f o = true → ¬ p ≤ p_rk f o 6) ∧ v = -1000000)
set_option maxRecDepth 100000 in
set_option maxHeartbeats 4000000 in
theorem lst_own {p : Nat} {v : Int32} (h : p_lst f p 6 v) : p_own f p v := by
  rcases h with ⟨j, j6, jc, jp, jv, jm⟩ | ⟨a, jv⟩
  · exact Or.inl ⟨j, j6, jc, rk_max jp jm, jv⟩
  · exact Or.inr ⟨fun d d6 dc e => a d d6 dc (by omega), jv⟩
set_option maxRecDepth 100000 in
set_option maxHeartbeats 4000000 in
theorem lst_skip {p i : Nat} {v : Int32} (h : p_lst f p i v) (hi : ¬ (cmb f i = true ∧ p ≤ p_rk f i 6)) : p_lst f p (i + 1) v := by
  rcases h with ⟨j, j6, jc, jp, jv, jm⟩ | ⟨a, jv⟩
  · refine Or.inl ⟨j, by omega, jc, jp, jv, fun o ho oc op oj => ?_⟩
    by_cases q : o = i
    · rw [q] at oc op; exact absurd ⟨oc, op⟩ hi
    · exact jm o (by omega) oc op oj
  · refine Or.inr ⟨fun o ho oc op => ?_, jv⟩
    by_cases q : o = i
    · rw [q] at oc op; exact absurd ⟨oc, op⟩ hi
    · exact a o (by omega) oc op
set_option maxRecDepth 100000 in
set_option maxHeartbeats 4000000 in
theorem lst_first {p i : Nat} (h : ∀ o, o < i → cmb f o = true → ¬ p ≤ p_rk f o 6) (hi : cmb f i = true ∧ p ≤ p_rk f i 6) : p_lst f p (i + 1) (nI i) := by
  refine Or.inl ⟨i, by omega, hi.1, hi.2, rfl, fun o ho oc op oi => ?_⟩
  exact absurd op (h o (by omega) oc)
set_option maxRecDepth 100000 in
set_option maxHeartbeats 4000000 in
theorem lst_new {p i j : Nat} (ji : j < i) (jm : ∀ o, o < i → cmb f o = true → p ≤ p_rk f o 6 → o ≠ j → p_bef f j o = true) (hi : cmb f i = true ∧ p ≤ p_rk f i 6) (hg : (f j).toInt < (f i).toInt) : p_lst f p (i + 1) (nI i) := by
  refine Or.inl ⟨i, by omega, hi.1, hi.2, rfl, fun o ho oc op oi => ?_⟩
  have hb : p_bef f i j = true := by rw [bef_iff]; omega
  by_cases q : o = j
  · rw [q]; exact hb
  · exact bef_tr hb (jm o (by omega) oc op q)
set_option maxRecDepth 100000 in
set_option maxHeartbeats 4000000 in
theorem lst_old {p i j : Nat} (ji : j < i) (jc : cmb f j = true) (jp : p ≤ p_rk f j 6) (jm : ∀ o, o < i → cmb f o = true → p ≤ p_rk f o 6 → o ≠ j → p_bef f j o = true) (hg : ¬ (f j).toInt < (f i).toInt) : p_lst f p (i + 1) (nI j) := by
  refine Or.inl ⟨j, by omega, jc, jp, rfl, fun o ho oc op oj => ?_⟩
  by_cases q : o = i
  · rw [q, bef_iff]; omega
  · exact jm o (by omega) oc op oj
set_option maxRecDepth 100000 in
set_option maxHeartbeats 4000000 in
theorem s_door1_lp {c : Int32} {c0 k0 s p : Nat} (hn : 63 < n) (hc : WC c0 f) (hk : k0 < 6) (hs : s < 64) (hb : ∀ d, d < 6 → (p_bit s d = 0) = ¬ (cmb f d = true ∧ p_rk f d 6 < p)) (Rt : sx_R) : ∀ (k i : Nat) (h : sx_H) (v : Int32), i + k = c0 → h 53 = g_m th st (nI ac) tp cu sa tk va fa fp la tr → h 57 = sx_ai 64 (toM f c) → p_lst f p i v → (∀ v', p_own f p v' → sx_T BX8_atDoor sx_Cal Rt 135 [some (sx_r (some 53)), some (sx_i (nI k0)), some (sx_i (nI s)), some (sx_i v'), some (sx_i (nI p)), none, none] [] n h 0 0) → sx_T BX8_atDoor sx_Cal Rt 50 [some (sx_r (some 53)), some (sx_i (nI k0)), some (sx_i (nI s)), some (sx_i v), some (sx_i (nI p)), some (sx_i (nI i)), none] [] n h 0 0 := by
  have hn2 : 53 < n := by omega
  have hn3 : 57 < n := by omega
  have hc6 := hc.1
  intro k
  induction k with
  | zero =>
    intro i h v hi h1 h2 hv hR
    have : i = c0 := by omega
    subst this
    have hv6 : p_lst f p 6 v := by
      have : ∀ m, i + m ≤ 6 → p_lst f p (i + m) v := by
        intro m
        induction m with
        | zero => intro _; exact hv
        | succ m ihm => intro hm; exact lst_skip (ihm (by omega)) (fun z => by
            have : i + m < i := cmb_c hc (by omega) z.1
            omega)
      have := this (6 - i) (by omega)
      rw [show i + (6 - i) = 6 by omega] at this
      exact this
    have hR := hR v (lst_own hv6)
    have hle : ((i : Int) ≤ (i : Int)) = True := eq_true (by omega)
    rw [tX8_atDoor_50]
    simp (disch := omega) only [e_const, e_lconst, e_il, e_ll, e_al, z_is, z_as, z_ls, z_inc, e_bin, e_div, e_un, e_lbin, e_ldiv, e_lcmp, e_i2l, e_l2i, e_if1, e_if2, z_go, e_sw, e_dupi, e_dupr, e_dup2, e_popi, e_popr, e_get, e_put, e_iald, e_iast, e_zald, e_zast, e_aald, e_aast, e_sld, e_slen, e_newa, e_newq, e_mna, e_new, e_oi, e_cs, e_cv, e_ci, e_min, e_max, e_copy, e_rv, e_ri, e_rz, e_rl, z_run, sx_en, sx_cat, sx_tk, sx_ps, sx_set, sx_setl, sx_dl, sx_m, sx_sw, sx_ft, List.map_cons, List.map_nil, List.getElem?_cons_zero, List.getElem?_cons_succ, List.replicate_succ, List.replicate_zero, List.set_cons_zero, List.set_cons_succ, List.length_cons, List.length_nil, Nat.reduceAdd, Nat.reduceSub, Nat.reduceLeDiff, Nat.reduceLT, Nat.reduceMul, Nat.zero_le, Nat.le_refl, Nat.add_zero, Nat.zero_add, true_and, and_true, true_or, bX8_atDoor_50, h1, h2, hc.2.1, hn2, hn3, q_le (nI i) (nI i), q_ti, hle, q_up_s, q_up_n, q_up_up, q_upd_s, q_upd_n, q_upd_upd, q_in, q_in0, q_in1, q_cl, q_cl0, q_cl1, q_add, q_add1, q_1add, q_add0, q_0add, q_mul, q_ite0, q_ite01, q_10, or_true, not_false_eq_true, not_true_eq_false, q_n0, ne_eq, m_r0, m_r1, m_r2, m_r3, m_r4, m_r5, m_r6, m_r7, m_r8, m_u0, m_u1, m_u2, m_u3, m_u4, m_u5, m_u6, m_u7, m_u8, m_s1, m_s2, m_s3, m_s4, m_s5, m_s6, m_s7, m_s8, m_s9, m_w1, m_w2, m_w3, m_w5, m_w6, m_w7, m_w8, m_w9, false_implies, true_implies, true_and, and_true, not_true_eq_false, not_false_eq_true, Bool.false_eq_true, sx_o, Sum.inr.injEq, Prod.mk.injEq, exists_eq', Nat.reduceLT]
    exact hR
  | succ k ih =>
    intro i h v hi h1 h2 hv hR
    have hle : ((c0 : Int) ≤ (i : Int)) = False := eq_false (by omega)
    have hi6 : i < 6 := by omega
    have hbit : nI s >>> (nI i &&& 31) &&& 1 = p_bit s i := rfl
    have hbi := hb i hi6
    have o4 := fun (d : Nat) (hd : d < 6) (Q : sx_Q) => s_ofk (Q := Q) (n := n) h2 hn3 hd (show 4 < 9 by decide)
    have hout : (f (24 + i) = 1 ∨ f (30 + i) = 1) = ¬ cmb f i = true := propext (out_cmb hc (by omega))
    have go := fun v' hv' => ih (i + 1) h v' (by omega) h1 h2 hv' hR
    rw [tX8_atDoor_50]
    by_cases hz : cmb f i = true
    · by_cases hp : p ≤ p_rk f i 6
      · have hb0 : p_bit s i = 0 := by rw [hbi]; exact fun q => by omega
        rcases hv with ⟨j, j6, jc, jp, rfl, jm⟩ | ⟨a, rfl⟩
        · have hj6 : j < 6 := by omega
          have hjn : (nI j = -1000000) = False := q_none (by omega)
          simp (disch := omega) only [e_const, e_lconst, e_il, e_ll, e_al, z_is, z_as, z_ls, z_inc, e_bin, e_div, e_un, e_lbin, e_ldiv, e_lcmp, e_i2l, e_l2i, e_if1, e_if2, z_go, e_sw, e_dupi, e_dupr, e_dup2, e_popi, e_popr, e_get, e_put, e_iald, e_iast, e_zald, e_zast, e_aald, e_aast, e_sld, e_slen, e_newa, e_newq, e_mna, e_new, e_oi, e_cs, e_cv, e_ci, e_min, e_max, e_copy, e_rv, e_ri, e_rz, e_rl, z_run, sx_en, sx_cat, sx_tk, sx_ps, sx_set, sx_setl, sx_dl, sx_m, sx_sw, sx_ft, List.map_cons, List.map_nil, List.getElem?_cons_zero, List.getElem?_cons_succ, List.replicate_succ, List.replicate_zero, List.set_cons_zero, List.set_cons_succ, List.length_cons, List.length_nil, Nat.reduceAdd, Nat.reduceSub, Nat.reduceLeDiff, Nat.reduceLT, Nat.reduceMul, Nat.zero_le, Nat.le_refl, Nat.add_zero, Nat.zero_add, true_and, and_true, true_or, bX8_atDoor_50, tX8_atDoor_86, bX8_atDoor_86, tX8_atDoor_87, bX8_atDoor_87, tX8_atDoor_122, bX8_atDoor_122, tX8_atDoor_127, bX8_atDoor_127, tX8_atDoor_128, bX8_atDoor_128, h1, h2, hc.2.1, hn2, hn3, s_isOut h2 hn3 hi6, hout, hz, hbit, hb0, hjn, o4 i hi6, o4 j hj6, q_10, q_le (nI c0) (nI i), q_le (f i) (f j), q_ti, hle, q_up_s, q_up_n, q_up_up, q_upd_s, q_upd_n, q_upd_upd, q_in, q_in0, q_in1, q_cl, q_cl0, q_cl1, q_add, q_add1, q_1add, q_add0, q_0add, q_mul, q_ite0, q_ite01, q_10, or_true, not_false_eq_true, not_true_eq_false, q_n0, ne_eq, m_r0, m_r1, m_r2, m_r3, m_r4, m_r5, m_r6, m_r7, m_r8, m_u0, m_u1, m_u2, m_u3, m_u4, m_u5, m_u6, m_u7, m_u8, m_s1, m_s2, m_s3, m_s4, m_s5, m_s6, m_s7, m_s8, m_s9, m_w1, m_w2, m_w3, m_w5, m_w6, m_w7, m_w8, m_w9, false_implies, true_implies, true_and, and_true, not_true_eq_false, not_false_eq_true, Bool.false_eq_true, sx_o, Sum.inr.injEq, Prod.mk.injEq, exists_eq', Nat.reduceLT, if_false]
          exact ⟨fun z => go _ (lst_old j6 jc jp jm (by omega)), fun z => go _ (lst_new j6 jm ⟨hz, hp⟩ (by omega))⟩
        · simp (disch := omega) only [e_const, e_lconst, e_il, e_ll, e_al, z_is, z_as, z_ls, z_inc, e_bin, e_div, e_un, e_lbin, e_ldiv, e_lcmp, e_i2l, e_l2i, e_if1, e_if2, z_go, e_sw, e_dupi, e_dupr, e_dup2, e_popi, e_popr, e_get, e_put, e_iald, e_iast, e_zald, e_zast, e_aald, e_aast, e_sld, e_slen, e_newa, e_newq, e_mna, e_new, e_oi, e_cs, e_cv, e_ci, e_min, e_max, e_copy, e_rv, e_ri, e_rz, e_rl, z_run, sx_en, sx_cat, sx_tk, sx_ps, sx_set, sx_setl, sx_dl, sx_m, sx_sw, sx_ft, List.map_cons, List.map_nil, List.getElem?_cons_zero, List.getElem?_cons_succ, List.replicate_succ, List.replicate_zero, List.set_cons_zero, List.set_cons_succ, List.length_cons, List.length_nil, Nat.reduceAdd, Nat.reduceSub, Nat.reduceLeDiff, Nat.reduceLT, Nat.reduceMul, Nat.zero_le, Nat.le_refl, Nat.add_zero, Nat.zero_add, true_and, and_true, true_or, bX8_atDoor_50, tX8_atDoor_86, bX8_atDoor_86, tX8_atDoor_87, bX8_atDoor_87, tX8_atDoor_122, bX8_atDoor_122, tX8_atDoor_127, bX8_atDoor_127, tX8_atDoor_128, bX8_atDoor_128, h1, h2, hc.2.1, hn2, hn3, s_isOut h2 hn3 hi6, hout, hz, hbit, hb0, o4 i hi6, q_10, q_le (nI c0) (nI i), q_ti, hle, q_up_s, q_up_n, q_up_up, q_upd_s, q_upd_n, q_upd_upd, q_in, q_in0, q_in1, q_cl, q_cl0, q_cl1, q_add, q_add1, q_1add, q_add0, q_0add, q_mul, q_ite0, q_ite01, q_10, or_true, not_false_eq_true, not_true_eq_false, q_n0, ne_eq, m_r0, m_r1, m_r2, m_r3, m_r4, m_r5, m_r6, m_r7, m_r8, m_u0, m_u1, m_u2, m_u3, m_u4, m_u5, m_u6, m_u7, m_u8, m_s1, m_s2, m_s3, m_s4, m_s5, m_s6, m_s7, m_s8, m_s9, m_w1, m_w2, m_w3, m_w5, m_w6, m_w7, m_w8, m_w9, false_implies, true_implies, true_and, and_true, not_true_eq_false, not_false_eq_true, Bool.false_eq_true, sx_o, Sum.inr.injEq, Prod.mk.injEq, exists_eq', Nat.reduceLT, if_false]
          exact go _ (lst_first a ⟨hz, hp⟩)
      · have hb0 : (p_bit s i = 0) = False := by rw [hbi]; exact eq_false (fun q => q ⟨hz, by omega⟩)
        simp (disch := omega) only [e_const, e_lconst, e_il, e_ll, e_al, z_is, z_as, z_ls, z_inc, e_bin, e_div, e_un, e_lbin, e_ldiv, e_lcmp, e_i2l, e_l2i, e_if1, e_if2, z_go, e_sw, e_dupi, e_dupr, e_dup2, e_popi, e_popr, e_get, e_put, e_iald, e_iast, e_zald, e_zast, e_aald, e_aast, e_sld, e_slen, e_newa, e_newq, e_mna, e_new, e_oi, e_cs, e_cv, e_ci, e_min, e_max, e_copy, e_rv, e_ri, e_rz, e_rl, z_run, sx_en, sx_cat, sx_tk, sx_ps, sx_set, sx_setl, sx_dl, sx_m, sx_sw, sx_ft, List.map_cons, List.map_nil, List.getElem?_cons_zero, List.getElem?_cons_succ, List.replicate_succ, List.replicate_zero, List.set_cons_zero, List.set_cons_succ, List.length_cons, List.length_nil, Nat.reduceAdd, Nat.reduceSub, Nat.reduceLeDiff, Nat.reduceLT, Nat.reduceMul, Nat.zero_le, Nat.le_refl, Nat.add_zero, Nat.zero_add, true_and, and_true, true_or, bX8_atDoor_50, tX8_atDoor_86, bX8_atDoor_86, tX8_atDoor_87, bX8_atDoor_87, tX8_atDoor_127, bX8_atDoor_127, tX8_atDoor_128, bX8_atDoor_128, h1, h2, hc.2.1, hn2, hn3, s_isOut h2 hn3 hi6, hout, hz, hbit, hb0, q_10, q_le (nI c0) (nI i), q_ti, hle, q_up_s, q_up_n, q_up_up, q_upd_s, q_upd_n, q_upd_upd, q_in, q_in0, q_in1, q_cl, q_cl0, q_cl1, q_add, q_add1, q_1add, q_add0, q_0add, q_mul, q_ite0, q_ite01, q_10, or_true, not_false_eq_true, not_true_eq_false, q_n0, ne_eq, m_r0, m_r1, m_r2, m_r3, m_r4, m_r5, m_r6, m_r7, m_r8, m_u0, m_u1, m_u2, m_u3, m_u4, m_u5, m_u6, m_u7, m_u8, m_s1, m_s2, m_s3, m_s4, m_s5, m_s6, m_s7, m_s8, m_s9, m_w1, m_w2, m_w3, m_w5, m_w6, m_w7, m_w8, m_w9, false_implies, true_implies, true_and, and_true, not_true_eq_false, not_false_eq_true, Bool.false_eq_true, sx_o, Sum.inr.injEq, Prod.mk.injEq, exists_eq', Nat.reduceLT, if_false]
        exact go _ (lst_skip hv (fun z => hp z.2))
    · simp (disch := omega) only [e_const, e_lconst, e_il, e_ll, e_al, z_is, z_as, z_ls, z_inc, e_bin, e_div, e_un, e_lbin, e_ldiv, e_lcmp, e_i2l, e_l2i, e_if1, e_if2, z_go, e_sw, e_dupi, e_dupr, e_dup2, e_popi, e_popr, e_get, e_put, e_iald, e_iast, e_zald, e_zast, e_aald, e_aast, e_sld, e_slen, e_newa, e_newq, e_mna, e_new, e_oi, e_cs, e_cv, e_ci, e_min, e_max, e_copy, e_rv, e_ri, e_rz, e_rl, z_run, sx_en, sx_cat, sx_tk, sx_ps, sx_set, sx_setl, sx_dl, sx_m, sx_sw, sx_ft, List.map_cons, List.map_nil, List.getElem?_cons_zero, List.getElem?_cons_succ, List.replicate_succ, List.replicate_zero, List.set_cons_zero, List.set_cons_succ, List.length_cons, List.length_nil, Nat.reduceAdd, Nat.reduceSub, Nat.reduceLeDiff, Nat.reduceLT, Nat.reduceMul, Nat.zero_le, Nat.le_refl, Nat.add_zero, Nat.zero_add, true_and, and_true, true_or, bX8_atDoor_50, tX8_atDoor_86, bX8_atDoor_86, tX8_atDoor_87, bX8_atDoor_87, tX8_atDoor_127, bX8_atDoor_127, tX8_atDoor_128, bX8_atDoor_128, h1, h2, hc.2.1, hn2, hn3, s_isOut h2 hn3 hi6, hout, hz, q_10, q_le (nI c0) (nI i), q_ti, hle, q_up_s, q_up_n, q_up_up, q_upd_s, q_upd_n, q_upd_upd, q_in, q_in0, q_in1, q_cl, q_cl0, q_cl1, q_add, q_add1, q_1add, q_add0, q_0add, q_mul, q_ite0, q_ite01, q_10, or_true, not_false_eq_true, not_true_eq_false, q_n0, ne_eq, m_r0, m_r1, m_r2, m_r3, m_r4, m_r5, m_r6, m_r7, m_r8, m_u0, m_u1, m_u2, m_u3, m_u4, m_u5, m_u6, m_u7, m_u8, m_s1, m_s2, m_s3, m_s4, m_s5, m_s6, m_s7, m_s8, m_s9, m_w1, m_w2, m_w3, m_w5, m_w6, m_w7, m_w8, m_w9, false_implies, true_implies, true_and, and_true, not_true_eq_false, not_false_eq_true, Bool.false_eq_true, sx_o, Sum.inr.injEq, Prod.mk.injEq, exists_eq', Nat.reduceLT, if_true]
      exact go _ (lst_skip hv (fun z => hz z.1))
set_option maxRecDepth 100000 in
set_option maxHeartbeats 4000000 in
theorem s_door2_lp {c : Int32} {c0 k0 : Nat} (hn : 63 < n) (hc : WC c0 f) (hk : k0 < 6) (Rt : sx_R) {h : sx_H} (h1 : h 53 = g_m th st (nI ac) tp cu sa tk va fa fp la tr) (h2 : h 57 = sx_ai 64 (toM f c)) : ∀ (k p s : Nat) (v : Int32), p + k = k0 + 1 → s < 64 → (∀ d, d < 6 → (p_bit s d = 0) = ¬ (cmb f d = true ∧ p_rk f d 6 < p)) → (0 < p → p_own f (p - 1) v) → (∀ v', p_own f k0 v' → Rt (some (sx_i v')) n h 0 0) → sx_T BX8_atDoor sx_Cal Rt 38 [some (sx_r (some 53)), some (sx_i (nI k0)), some (sx_i (nI s)), some (sx_i v), some (sx_i (nI p)), none, none] [] n h 0 0 := by
  have hn2 : 53 < n := by omega
  have hn3 : 57 < n := by omega
  intro k
  induction k with
  | zero =>
    intro p s v hp hs hb hv hR
    have : p = k0 + 1 := by omega
    subst this
    have hlt : (nI k0 < nI (k0 + 1)) = True := eq_true (by rw [q_lt, q_ti (by omega), q_ti (by omega)]; omega)
    have hv := hv (by omega)
    rw [tX8_atDoor_38]
    simp (disch := omega) only [e_const, e_lconst, e_il, e_ll, e_al, z_is, z_as, z_ls, z_inc, e_bin, e_div, e_un, e_lbin, e_ldiv, e_lcmp, e_i2l, e_l2i, e_if1, e_if2, z_go, e_sw, e_dupi, e_dupr, e_dup2, e_popi, e_popr, e_get, e_put, e_iald, e_iast, e_zald, e_zast, e_aald, e_aast, e_sld, e_slen, e_newa, e_newq, e_mna, e_new, e_oi, e_cs, e_cv, e_ci, e_min, e_max, e_copy, e_rv, e_ri, e_rz, e_rl, z_run, sx_en, sx_cat, sx_tk, sx_ps, sx_set, sx_setl, sx_dl, sx_m, sx_sw, sx_ft, List.map_cons, List.map_nil, List.getElem?_cons_zero, List.getElem?_cons_succ, List.replicate_succ, List.replicate_zero, List.set_cons_zero, List.set_cons_succ, List.length_cons, List.length_nil, Nat.reduceAdd, Nat.reduceSub, Nat.reduceLeDiff, Nat.reduceLT, Nat.reduceMul, Nat.zero_le, Nat.le_refl, Nat.add_zero, Nat.zero_add, true_and, and_true, true_or, bX8_atDoor_38, tX8_atDoor_157, bX8_atDoor_157, hlt, q_up_s, q_up_n, q_up_up, q_upd_s, q_upd_n, q_upd_upd, q_in, q_in0, q_in1, q_cl, q_cl0, q_cl1, q_add, q_add1, q_1add, q_add0, q_0add, q_mul, q_ite0, q_ite01, q_10, or_true, not_false_eq_true, not_true_eq_false, q_n0, ne_eq, false_implies, true_implies, true_and, and_true, not_true_eq_false, not_false_eq_true, Bool.false_eq_true]
    exact hR v hv
  | succ k ih =>
    intro p s v hp hs hb hv hR
    have hlt : (nI k0 < nI p) = False := eq_false (by rw [q_lt, q_ti (by omega), q_ti (by omega)]; omega)
    rw [tX8_atDoor_38]
    simp (disch := omega) only [e_const, e_lconst, e_il, e_ll, e_al, z_is, z_as, z_ls, z_inc, e_bin, e_div, e_un, e_lbin, e_ldiv, e_lcmp, e_i2l, e_l2i, e_if1, e_if2, z_go, e_sw, e_dupi, e_dupr, e_dup2, e_popi, e_popr, e_get, e_put, e_iald, e_iast, e_zald, e_zast, e_aald, e_aast, e_sld, e_slen, e_newa, e_newq, e_mna, e_new, e_oi, e_cs, e_cv, e_ci, e_min, e_max, e_copy, e_rv, e_ri, e_rz, e_rl, z_run, sx_en, sx_cat, sx_tk, sx_ps, sx_set, sx_setl, sx_dl, sx_m, sx_sw, sx_ft, List.map_cons, List.map_nil, List.getElem?_cons_zero, List.getElem?_cons_succ, List.replicate_succ, List.replicate_zero, List.set_cons_zero, List.set_cons_succ, List.length_cons, List.length_nil, Nat.reduceAdd, Nat.reduceSub, Nat.reduceLeDiff, Nat.reduceLT, Nat.reduceMul, Nat.zero_le, Nat.le_refl, Nat.add_zero, Nat.zero_add, true_and, and_true, true_or, bX8_atDoor_38, hlt, q_up_s, q_up_n, q_up_up, q_upd_s, q_upd_n, q_upd_upd, q_in, q_in0, q_in1, q_cl, q_cl0, q_cl1, q_add, q_add1, q_1add, q_add0, q_0add, q_mul, q_ite0, q_ite01, q_10, or_true, not_false_eq_true, not_true_eq_false, q_n0, ne_eq, false_implies, true_implies, true_and, and_true, not_true_eq_false, not_false_eq_true, Bool.false_eq_true]
    have key := fun Rt hR => s_door1_lp (n := n) (k0 := k0) hn hc hk hs hb Rt c0 0 h (-1000000) (by omega) h1 h2 (Or.inr ⟨fun o ho => by omega, rfl⟩) hR
    rw [nI_0] at key
    refine key _ (fun v' hv' => ?_)
    rw [tX8_atDoor_135]
    rcases id hv' with ⟨j, j6, jc, jp, rfl⟩ | ⟨a, rfl⟩
    · have hjn : (nI j = -1000000) = False := q_none (by omega)
      obtain ⟨hs', he⟩ := or_n hs j6
      simp (disch := omega) only [e_const, e_lconst, e_il, e_ll, e_al, z_is, z_as, z_ls, z_inc, e_bin, e_div, e_un, e_lbin, e_ldiv, e_lcmp, e_i2l, e_l2i, e_if1, e_if2, z_go, e_sw, e_dupi, e_dupr, e_dup2, e_popi, e_popr, e_get, e_put, e_iald, e_iast, e_zald, e_zast, e_aald, e_aast, e_sld, e_slen, e_newa, e_newq, e_mna, e_new, e_oi, e_cs, e_cv, e_ci, e_min, e_max, e_copy, e_rv, e_ri, e_rz, e_rl, z_run, sx_en, sx_cat, sx_tk, sx_ps, sx_set, sx_setl, sx_dl, sx_m, sx_sw, sx_ft, List.map_cons, List.map_nil, List.getElem?_cons_zero, List.getElem?_cons_succ, List.replicate_succ, List.replicate_zero, List.set_cons_zero, List.set_cons_succ, List.length_cons, List.length_nil, Nat.reduceAdd, Nat.reduceSub, Nat.reduceLeDiff, Nat.reduceLT, Nat.reduceMul, Nat.zero_le, Nat.le_refl, Nat.add_zero, Nat.zero_add, true_and, and_true, true_or, bX8_atDoor_135, tX8_atDoor_146, bX8_atDoor_146, tX8_atDoor_149, bX8_atDoor_149, hjn, he, q_up_s, q_up_n, q_up_up, q_upd_s, q_upd_n, q_upd_upd, q_in, q_in0, q_in1, q_cl, q_cl0, q_cl1, q_add, q_add1, q_1add, q_add0, q_0add, q_mul, q_ite0, q_ite01, q_10, or_true, not_false_eq_true, not_true_eq_false, q_n0, ne_eq, false_implies, true_implies, true_and, and_true, not_true_eq_false, not_false_eq_true, Bool.false_eq_true]
      refine ih (p + 1) _ _ (by omega) hs' (fun d hd => ?_) (fun _ => by rw [show p + 1 - 1 = p by omega]; exact hv') hR
      rw [bit_or hs j6 hd, hb d hd]
      apply propext
      constructor
      · intro ⟨a, b⟩ ⟨c1, c2⟩
        by_cases q : p_rk f d 6 = p
        · exact b (rk_inj c1 hd jc j6 (q.trans jp.symm))
        · exact a ⟨c1, by omega⟩
      · intro a
        refine ⟨fun z => a ⟨z.1, by omega⟩, fun q => a ?_⟩
        rw [q]; exact ⟨jc, by omega⟩
    · simp (disch := omega) only [e_const, e_lconst, e_il, e_ll, e_al, z_is, z_as, z_ls, z_inc, e_bin, e_div, e_un, e_lbin, e_ldiv, e_lcmp, e_i2l, e_l2i, e_if1, e_if2, z_go, e_sw, e_dupi, e_dupr, e_dup2, e_popi, e_popr, e_get, e_put, e_iald, e_iast, e_zald, e_zast, e_aald, e_aast, e_sld, e_slen, e_newa, e_newq, e_mna, e_new, e_oi, e_cs, e_cv, e_ci, e_min, e_max, e_copy, e_rv, e_ri, e_rz, e_rl, z_run, sx_en, sx_cat, sx_tk, sx_ps, sx_set, sx_setl, sx_dl, sx_m, sx_sw, sx_ft, List.map_cons, List.map_nil, List.getElem?_cons_zero, List.getElem?_cons_succ, List.replicate_succ, List.replicate_zero, List.set_cons_zero, List.set_cons_succ, List.length_cons, List.length_nil, Nat.reduceAdd, Nat.reduceSub, Nat.reduceLeDiff, Nat.reduceLT, Nat.reduceMul, Nat.zero_le, Nat.le_refl, Nat.add_zero, Nat.zero_add, true_and, and_true, true_or, bX8_atDoor_135, tX8_atDoor_146, bX8_atDoor_146, tX8_atDoor_149, bX8_atDoor_149, q_or0, q_up_s, q_up_n, q_up_up, q_upd_s, q_upd_n, q_upd_upd, q_in, q_in0, q_in1, q_cl, q_cl0, q_cl1, q_add, q_add1, q_1add, q_add0, q_0add, q_mul, q_ite0, q_ite01, q_10, or_true, not_false_eq_true, not_true_eq_false, q_n0, ne_eq, false_implies, true_implies, true_and, and_true, not_true_eq_false, not_false_eq_true, Bool.false_eq_true]
      refine ih (p + 1) _ _ (by omega) hs (fun d hd => ?_) (fun _ => by rw [show p + 1 - 1 = p by omega]; exact hv') hR
      rw [hb d hd]
      apply propext
      constructor
      · intro x ⟨c1, c2⟩
        exact x ⟨c1, by have := a d hd c1; omega⟩
      · intro x z
        exact x ⟨z.1, by omega⟩
end DM
set_option maxRecDepth 100000 in
set_option maxHeartbeats 4000000 in
theorem st_atDoor {h : sx_H} (H : IV h) (u : Int32) : sx_Cal 110 [sx_r (some 0), sx_i u] 65 h (IQ 177 [sx_r (some 53), sx_i u]) := by
  obtain ⟨lf, st, rs, rl, it, tp, tape, f, k, acts, t, trc, g0, g1, H⟩ := H
  obtain ⟨h0, hXR, hXT, hXB, hXA, hXK, hXI, hMO, hMR, hMB, hMA, hMT, hMI, hMK, hWR, htp, hWB, hk24, hWA, ht16, hWg0, hWg1⟩ := id H
  obtain ⟨th, cu, sa, tk, va, fa, fp, hm⟩ := id hMO
  obtain ⟨c, w, hw, hc, he⟩ := WB_iff.mp hWB
  have hc6 := hc.1
  obtain ⟨⟨cm0, hq⟩, -⟩ := id hMB
  have hq2 : sx_up h 53 (g_m 0 st (nI k) (nI tp) cu sa tk va fa fp lf (nI t)) 57 = sx_ai 64 (toM f cm0) := (q_up_n (by decide)).trans hq
  obtain ⟨h2, eh2⟩ : ∃ z, z = sx_up h 53 (g_m 0 st (nI k) (nI tp) cu sa tk va fa fp lf (nI t)) := ⟨_, rfl⟩
  have hmm : sx_up h 53 (g_m 0 st (nI k) (nI tp) cu sa tk va fa fp lf (nI t)) = h2 := eh2.symm
  have hIC : IC lf st rs rl it tp tape f k acts t trc g0 g1 h2 := by rw [eh2]; exact IC_53 H (fun j hj => q_up_n hj) ⟨_, _, _, _, _, _, _, q_up_s _ _ _⟩
  have hm3 : h2 53 = g_m 0 st (nI k) (nI tp) cu sa tk va fa fp lf (nI t) := by rw [eh2]; exact q_up_s _ _ _
  have hm4 : ∃ x1 x2 x3 x4 x5 x6 x7 x8 x9 y1 y2 y3, h2 53 = g_m x1 x2 x3 x4 x5 x6 x7 x8 x9 y1 y2 y3 := ⟨_, _, _, _, _, _, _, _, _, _, _, _, hm3⟩
  have hq3 : h2 57 = sx_ai 64 (toM f cm0) := by rw [eh2]; exact hq2
  obtain ⟨hB1, hB2, hB3, ⟨g, hB4, hB5⟩, hB6⟩ := id hXB
  simp (disch := omega) only [e_const, e_lconst, e_il, e_ll, e_al, z_is, z_as, z_ls, z_inc, e_bin, e_div, e_un, e_lbin, e_ldiv, e_lcmp, e_i2l, e_l2i, e_if1, e_if2, z_go, e_sw, e_dupi, e_dupr, e_dup2, e_popi, e_popr, e_get, e_put, e_iald, e_iast, e_zald, e_zast, e_aald, e_aast, e_sld, e_slen, e_newa, e_newq, e_mna, e_new, e_oi, e_cs, e_cv, e_ci, e_min, e_max, e_copy, e_rv, e_ri, e_rz, e_rl, z_run, sx_en, sx_cat, sx_tk, sx_ps, sx_set, sx_setl, sx_dl, sx_m, sx_sw, sx_ft, List.map_cons, List.map_nil, List.getElem?_cons_zero, List.getElem?_cons_succ, List.replicate_succ, List.replicate_zero, List.set_cons_zero, List.set_cons_succ, List.length_cons, List.length_nil, Nat.reduceAdd, Nat.reduceSub, Nat.reduceLeDiff, Nat.reduceLT, Nat.reduceMul, Nat.zero_le, Nat.le_refl, Nat.add_zero, Nat.zero_add, true_and, and_true, true_or, cX7_atDoor_c, tX7_atDoor_0, bX7_atDoor_0, tX7_atDoor_13, bX7_atDoor_13, tX7_atDoor_25, bX7_atDoor_25, h0, s_isThere hWB hB1 hB2, s_within, hB1, hB2, q_up_s, q_up_n, q_up_up, q_upd_s, q_upd_n, q_upd_upd, q_in, q_in0, q_in1, q_cl, q_cl0, q_cl1, q_add, q_add1, q_1add, q_add0, q_0add, q_mul, q_ite0, q_ite01, q_10, or_true, not_false_eq_true, not_true_eq_false, q_n0, ne_eq, sx_o, Sum.inr.injEq, Prod.mk.injEq, exists_eq', Nat.reduceLT, q_ti0, q_ti1, q_ti]
  by_cases h58 : f 58 = 0
  · simp (disch := omega) only [h58, q_up_s, q_up_n, q_up_up, q_upd_s, q_upd_n, q_upd_upd, q_in, q_in0, q_in1, q_cl, q_cl0, q_cl1, q_add, q_add1, q_1add, q_add0, q_0add, q_mul, q_ite0, q_ite01, q_10, or_true, not_false_eq_true, not_true_eq_false, q_n0, ne_eq, false_implies, true_implies, true_and, and_true, not_true_eq_false, not_false_eq_true, Bool.false_eq_true, if_true]
    refine iq_in ?_
    simp (disch := omega) only [e_const, e_lconst, e_il, e_ll, e_al, z_is, z_as, z_ls, z_inc, e_bin, e_div, e_un, e_lbin, e_ldiv, e_lcmp, e_i2l, e_l2i, e_if1, e_if2, z_go, e_sw, e_dupi, e_dupr, e_dup2, e_popi, e_popr, e_get, e_put, e_iald, e_iast, e_zald, e_zast, e_aald, e_aast, e_sld, e_slen, e_newa, e_newq, e_mna, e_new, e_oi, e_cs, e_cv, e_ci, e_min, e_max, e_copy, e_rv, e_ri, e_rz, e_rl, z_run, sx_en, sx_cat, sx_tk, sx_ps, sx_set, sx_setl, sx_dl, sx_m, sx_sw, sx_ft, List.map_cons, List.map_nil, List.getElem?_cons_zero, List.getElem?_cons_succ, List.replicate_succ, List.replicate_zero, List.set_cons_zero, List.set_cons_succ, List.length_cons, List.length_nil, Nat.reduceAdd, Nat.reduceSub, Nat.reduceLeDiff, Nat.reduceLT, Nat.reduceMul, Nat.zero_le, Nat.le_refl, Nat.add_zero, Nat.zero_add, true_and, and_true, true_or, tX8_atDoor_0, bX8_atDoor_0, cX8_atDoor_c, hm, hmm, hm3, hq3, s_isThereM hm4 hq3 (show 57 < 65 by decide), h58, if_true, q_up_s, q_up_n, q_up_up, q_upd_s, q_upd_n, q_upd_upd, q_in, q_in0, q_in1, q_cl, q_cl0, q_cl1, q_add, q_add1, q_1add, q_add0, q_0add, q_mul, q_ite0, q_ite01, q_10, or_true, not_false_eq_true, not_true_eq_false, q_n0, ne_eq, sx_o, Sum.inr.injEq, Prod.mk.injEq, exists_eq', Nat.reduceLT, false_implies, true_implies, true_and, and_true, not_true_eq_false, not_false_eq_true, Bool.false_eq_true]
    first | exact IV_of hIC | exact ⟨rfl, rfl, IV_of hIC⟩ | (simp; done) | (simp; intros; exact IV_of hIC)
  · by_cases hu : 0 ≤ u.toInt ∧ u.toInt ≤ ((5 : Nat) : Int)
    · obtain ⟨m, hm5, rfl⟩ := t2n (m := 5) (x := u) (by omega) (by omega)
      have hu' : 0 ≤ (m : Int) ∧ (m : Int) ≤ ((5 : Nat) : Int) := by omega
      have hF : ∀ d, d < 6 → 0 ≤ (f d).toInt ∧ (f d).toInt ≤ 200 := fun d hd => (hc.2.2.1 d hd).1
      simp (disch := omega) only [hu, h58, hB1, q_up_s, q_up_n, q_up_up, q_upd_s, q_upd_n, q_upd_upd, q_in, q_in0, q_in1, q_cl, q_cl0, q_cl1, q_add, q_add1, q_1add, q_add0, q_0add, q_mul, q_ite0, q_ite01, q_10, or_true, not_false_eq_true, not_true_eq_false, q_n0, ne_eq, false_implies, true_implies, true_and, and_true, not_true_eq_false, not_false_eq_true, Bool.false_eq_true, sx_o, Sum.inr.injEq, Prod.mk.injEq, exists_eq', Nat.reduceLT, if_false]
      refine s_owing hB1 hB2 (by decide) (by decide) hF (by omega) (fun v hv => ?_)
      simp (disch := omega) only [e_const, e_lconst, e_il, e_ll, e_al, z_is, z_as, z_ls, z_inc, e_bin, e_div, e_un, e_lbin, e_ldiv, e_lcmp, e_i2l, e_l2i, e_if1, e_if2, z_go, e_sw, e_dupi, e_dupr, e_dup2, e_popi, e_popr, e_get, e_put, e_iald, e_iast, e_zald, e_zast, e_aald, e_aast, e_sld, e_slen, e_newa, e_newq, e_mna, e_new, e_oi, e_cs, e_cv, e_ci, e_min, e_max, e_copy, e_rv, e_ri, e_rz, e_rl, z_run, sx_en, sx_cat, sx_tk, sx_ps, sx_set, sx_setl, sx_dl, sx_m, sx_sw, sx_ft, List.map_cons, List.map_nil, List.getElem?_cons_zero, List.getElem?_cons_succ, List.replicate_succ, List.replicate_zero, List.set_cons_zero, List.set_cons_succ, List.length_cons, List.length_nil, Nat.reduceAdd, Nat.reduceSub, Nat.reduceLeDiff, Nat.reduceLT, Nat.reduceMul, Nat.zero_le, Nat.le_refl, Nat.add_zero, Nat.zero_add, true_and, and_true, true_or, q_up_s, q_up_n, q_up_up, q_upd_s, q_upd_n, q_upd_upd, q_in, q_in0, q_in1, q_cl, q_cl0, q_cl1, q_add, q_add1, q_1add, q_add0, q_0add, q_mul, q_ite0, q_ite01, q_10, or_true, not_false_eq_true, not_true_eq_false, q_n0, ne_eq, false_implies, true_implies, true_and, and_true, not_true_eq_false, not_false_eq_true, Bool.false_eq_true, sx_o, Sum.inr.injEq, Prod.mk.injEq, exists_eq', Nat.reduceLT]
      refine iq_in ?_
      simp (disch := omega) only [e_const, e_lconst, e_il, e_ll, e_al, z_is, z_as, z_ls, z_inc, e_bin, e_div, e_un, e_lbin, e_ldiv, e_lcmp, e_i2l, e_l2i, e_if1, e_if2, z_go, e_sw, e_dupi, e_dupr, e_dup2, e_popi, e_popr, e_get, e_put, e_iald, e_iast, e_zald, e_zast, e_aald, e_aast, e_sld, e_slen, e_newa, e_newq, e_mna, e_new, e_oi, e_cs, e_cv, e_ci, e_min, e_max, e_copy, e_rv, e_ri, e_rz, e_rl, z_run, sx_en, sx_cat, sx_tk, sx_ps, sx_set, sx_setl, sx_dl, sx_m, sx_sw, sx_ft, List.map_cons, List.map_nil, List.getElem?_cons_zero, List.getElem?_cons_succ, List.replicate_succ, List.replicate_zero, List.set_cons_zero, List.set_cons_succ, List.length_cons, List.length_nil, Nat.reduceAdd, Nat.reduceSub, Nat.reduceLeDiff, Nat.reduceLT, Nat.reduceMul, Nat.zero_le, Nat.le_refl, Nat.add_zero, Nat.zero_add, true_and, and_true, true_or, tX8_atDoor_0, bX8_atDoor_0, tX8_atDoor_15, bX8_atDoor_15, tX8_atDoor_30, bX8_atDoor_30, cX8_atDoor_c, hm, hmm, hm3, hq3, s_isThereM hm4 hq3 (show 57 < 65 by decide), h58, if_false, s_in, q_wide, q_lti0, q_lti1, q_lti, q_ti, hu', q_up_s, q_up_n, q_up_up, q_upd_s, q_upd_n, q_upd_upd, q_in, q_in0, q_in1, q_cl, q_cl0, q_cl1, q_add, q_add1, q_1add, q_add0, q_0add, q_mul, q_ite0, q_ite01, q_10, or_true, not_false_eq_true, not_true_eq_false, q_n0, ne_eq, sx_o, Sum.inr.injEq, Prod.mk.injEq, exists_eq', Nat.reduceLT, false_implies, true_implies, true_and, and_true, not_true_eq_false, not_false_eq_true, Bool.false_eq_true]
      have hb0 : ∀ d, d < 6 → p_bit 0 d = 0 := fun d hd => by
        have : ∀ d : Fin 6, p_bit 0 d = 0 := by decide +kernel
        exact this ⟨d, hd⟩
      have key := fun Rt hR => s_door2_lp (n := 65) (k0 := m) (c := cm0) (by decide) hc (by omega) Rt hm3 hq3 (m + 1) 0 0 (-1000000) (by omega) (by decide) (fun d hd => propext ⟨fun _ z => by omega, fun _ => hb0 d hd⟩) (fun z => by omega) hR
      rw [nI_0] at key
      refine key _ (fun v' hv' => ?_)
      rw [own_u hv' hv]
      exact ⟨⟨rfl, rfl, IV_of hIC⟩, Nat.le_refl _, Nat.le_refl _⟩
    · simp (disch := omega) only [hu, h58, q_up_s, q_up_n, q_up_up, q_upd_s, q_upd_n, q_upd_upd, q_in, q_in0, q_in1, q_cl, q_cl0, q_cl1, q_add, q_add1, q_1add, q_add0, q_0add, q_mul, q_ite0, q_ite01, q_10, or_true, not_false_eq_true, not_true_eq_false, q_n0, ne_eq, false_implies, true_implies, true_and, and_true, not_true_eq_false, not_false_eq_true, Bool.false_eq_true, if_false]
      refine iq_in ?_
      simp (disch := omega) only [e_const, e_lconst, e_il, e_ll, e_al, z_is, z_as, z_ls, z_inc, e_bin, e_div, e_un, e_lbin, e_ldiv, e_lcmp, e_i2l, e_l2i, e_if1, e_if2, z_go, e_sw, e_dupi, e_dupr, e_dup2, e_popi, e_popr, e_get, e_put, e_iald, e_iast, e_zald, e_zast, e_aald, e_aast, e_sld, e_slen, e_newa, e_newq, e_mna, e_new, e_oi, e_cs, e_cv, e_ci, e_min, e_max, e_copy, e_rv, e_ri, e_rz, e_rl, z_run, sx_en, sx_cat, sx_tk, sx_ps, sx_set, sx_setl, sx_dl, sx_m, sx_sw, sx_ft, List.map_cons, List.map_nil, List.getElem?_cons_zero, List.getElem?_cons_succ, List.replicate_succ, List.replicate_zero, List.set_cons_zero, List.set_cons_succ, List.length_cons, List.length_nil, Nat.reduceAdd, Nat.reduceSub, Nat.reduceLeDiff, Nat.reduceLT, Nat.reduceMul, Nat.zero_le, Nat.le_refl, Nat.add_zero, Nat.zero_add, true_and, and_true, true_or, tX8_atDoor_0, bX8_atDoor_0, tX8_atDoor_15, bX8_atDoor_15, cX8_atDoor_c, hm, hmm, hm3, hq3, s_isThereM hm4 hq3 (show 57 < 65 by decide), h58, if_false, s_in, q_wide, q_lti0, q_lti1, q_lti, hu, q_up_s, q_up_n, q_up_up, q_upd_s, q_upd_n, q_upd_upd, q_in, q_in0, q_in1, q_cl, q_cl0, q_cl1, q_add, q_add1, q_1add, q_add0, q_0add, q_mul, q_ite0, q_ite01, q_10, or_true, not_false_eq_true, not_true_eq_false, q_n0, ne_eq, sx_o, Sum.inr.injEq, Prod.mk.injEq, exists_eq', Nat.reduceLT, false_implies, true_implies, true_and, and_true, not_true_eq_false, not_false_eq_true, Bool.false_eq_true]
      first | exact IV_of hIC | exact ⟨rfl, rfl, IV_of hIC⟩ | (simp; done) | (simp; intros; exact IV_of hIC)
