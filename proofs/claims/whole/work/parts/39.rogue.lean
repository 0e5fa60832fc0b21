/-! the best stop for a rogue -/
set_option maxRecDepth 100000 in
set_option maxHeartbeats 4000000 in
theorem q_upd_sw {f : Nat → Int32} {a b : Nat} {x y : Int32} (h : a ≠ b) : upd (upd f a x) b y = upd (upd f b y) a x := by
  funext j
  by_cases h1 : j = b
  · rw [h1, q_upd_s, q_upd_n (by omega), q_upd_s]
  · rw [q_upd_n h1]
    by_cases h2 : j = a
    · rw [h2, q_upd_s, q_upd_s]
    · rw [q_upd_n h2, q_upd_n h2, q_upd_n h1]
set_option maxRecDepth 100000 in
set_option maxHeartbeats 4000000 in
theorem q_4sub (a b c d : Int32) : a - b - (c - d) = a - c - (b - d) := by
  apply Int32.toBitVec_inj.mp
  simp only [Int32.toBitVec_sub]
  simp only [BitVec.sub_eq_add_neg, BitVec.neg_add, BitVec.neg_neg]
  ac_rfl
def p_rg (f : Nat → Int32) (e i : Nat) : Nat → Int32 := upd (upd f (48 + e) (nI 5)) (18 + e) (nI i)
def p_gai (f : Nat → Int32) (e m i : Nat) : Int32 := (p_wks (p_rg f e i) m (42 + e) - f (42 + e)) - (p_wks (p_rg f e i) m (36 + e) - f (36 + e))
set_option maxRecDepth 100000 in
set_option maxHeartbeats 4000000 in
theorem WB_kind {W e : Nat} {f : Nat → Int32} {v : Int32} (H : WB W f) (he : e < 6) (hv : 1 ≤ v.toInt ∧ v.toInt ≤ 5) : WB W (upd f (48 + e) v) := by
  obtain ⟨hz, c, w, hc, hw, h58, h61, hd, hs⟩ := H
  refine ⟨fun j hj => by rw [q_upd_n (by omega)]; exact hz j hj, c, w, hc, hw, by rw [q_upd_n (by omega)]; exact h58, by rw [q_upd_n (by omega)]; exact h61, fun d hd6 => ?_, ?_⟩
  · obtain ⟨a1, a2, a3, a4, a5, a6, a7, a8⟩ := hd d hd6
    rw [q_upd_n (show d ≠ 48 + e by omega), q_upd_n (show 6 + d ≠ 48 + e by omega), q_upd_n (show 12 + d ≠ 48 + e by omega), q_upd_n (show 18 + d ≠ 48 + e by omega), q_upd_n (show 24 + d ≠ 48 + e by omega), q_upd_n (show 30 + d ≠ 48 + e by omega)]
    refine ⟨a1, a2, a3, a4, a5, a6, ?_, a8⟩
    by_cases q : d = e
    · rw [q, q_upd_s]; exact fun _ => hv
    · rw [q_upd_n (by omega)]; exact a7
  · simp (disch := omega) only [q_upd_n]; exact hs
section RG
variable {n : Nat} {f : Nat → Int32} {e m : Nat}
set_option maxRecDepth 100000 in
set_option maxHeartbeats 4000000 in
theorem s_rogB_lp (hn : 45 < n) (he : e < 6) (hm : m ≤ 60) (hf : ∀ j, 62 ≤ j → f j = 0) (hW : ∀ i, i < 100 → ∀ j, 62 ≤ j → p_wks (p_rg f e i) m j = 0) (wt : Int32) (Rt : sx_R) : ∀ (k i : Nat) (h : sx_H), i + k = 100 → h 45 = sx_o 3 [sx_r (some 15), sx_r (some 17)] → h 17 = sx_o 2 [sx_r (some 18)] → h 15 = sx_o 2 [sx_r (some 16)] → h 16 = sx_ai 62 f → (∃ g, h 18 = sx_ai 62 g ∧ ∀ j, 62 ≤ j → g j = 0) → (∀ g', (∀ j, 62 ≤ j → g' j = 0) → Rt (some (sx_i (if wt = 0 then (p_best (p_gai f e m) 100).1 else (p_best (p_gai f e m) 100).2))) n (sx_up h 18 (sx_ai 62 g')) 0 0) → sx_T BX4_stopForRogue sx_Cal Rt 9 [some (sx_r (some 45)), some (sx_i (nI e)), some (sx_i (nI m)), some (sx_i wt), some (sx_i (p_best (p_gai f e m) i).1), some (sx_i (p_best (p_gai f e m) i).2), some (sx_i (nI i)), none] [] n h 0 0 := by
  have hn2 : 17 < n := by omega
  have hn3 : 18 < n := by omega
  have hn4 : 15 < n := by omega
  have hn5 : 16 < n := by omega
  intro k
  induction k with
  | zero =>
    intro i h hi h1 h2 h4 h5 ⟨g, h3, hg⟩ hR
    have : i = 100 := by omega
    subst this
    have hR := hR g hg
    rw [q_up_id h3] at hR
    have hlt : (nI 99 < nI 100) = True := eq_true (by decide +kernel)
    rw [tX4_stopForRogue_9]
    simp (disch := omega) only [e_const, e_lconst, e_il, e_ll, e_al, e_is, e_as, e_ls, e_inc, e_bin, e_div, e_un, e_lbin, e_ldiv, e_lcmp, e_i2l, e_l2i, e_if1, e_if2, e_go, e_sw, e_dupi, e_dupr, e_dup2, e_popi, e_popr, e_get, e_put, e_iald, e_iast, e_zald, e_zast, e_aald, e_aast, e_sld, e_slen, e_newa, e_newq, e_mna, e_new, e_oi, e_cs, e_cv, e_ci, e_min, e_max, e_copy, e_rv, e_ri, e_rz, e_rl, e_run, sx_en, sx_cat, sx_tk, sx_ps, sx_set, sx_setl, sx_dl, sx_m, sx_sw, sx_ft, List.map_cons, List.map_nil, List.getElem?_cons_zero, List.getElem?_cons_succ, List.replicate_succ, List.replicate_zero, List.set_cons_zero, List.set_cons_succ, List.length_cons, List.length_nil, Nat.reduceAdd, Nat.reduceSub, Nat.reduceLeDiff, Nat.reduceLT, Nat.reduceMul, Nat.zero_le, Nat.le_refl, Nat.add_zero, Nat.zero_add, true_and, and_true, true_or, bX4_stopForRogue_9, tX4_stopForRogue_104, bX4_stopForRogue_104, tX4_stopForRogue_113, bX4_stopForRogue_113, tX4_stopForRogue_115, bX4_stopForRogue_115, hlt, q_up_s, q_up_n, q_up_up, q_upd_s, q_upd_n, q_upd_upd, q_in, q_in0, q_in1, q_cl, q_cl0, q_cl1, q_add, q_add1, q_1add, q_add0, q_0add, q_mul, q_ite0, q_ite01, q_10, or_true, not_false_eq_true, not_true_eq_false, q_n0, ne_eq, false_implies, true_implies, true_and, and_true, not_true_eq_false, not_false_eq_true, Bool.false_eq_true]
    refine ⟨fun z => ?_, fun z => ?_⟩
    · rw [if_neg z] at hR; exact hR
    · rw [if_pos (Classical.not_not.mp z)] at hR; exact hR
  | succ k ih =>
    intro i h hi h1 h2 h4 h5 ⟨g, h3, hg⟩ hR
    have hle : (nI 99 < nI i) = False := eq_false (by rw [q_lt, q_ti (by omega), q_ti (by omega)]; omega)
    have hx : 18 + e < 62 := by omega
    have hx2 : 48 + e < 62 := by omega
    have hx3 : 42 + e < 62 := by omega
    have hx4 : 36 + e < 62 := by omega
    have erg : upd (upd f (48 + e) (nI 5)) (18 + e) (nI i) = p_rg f e i := rfl
    rw [tX4_stopForRogue_9]
    simp (disch := omega) only [e_const, e_lconst, e_il, e_ll, e_al, e_is, e_as, e_ls, e_inc, e_bin, e_div, e_un, e_lbin, e_ldiv, e_lcmp, e_i2l, e_l2i, e_if1, e_if2, e_go, e_sw, e_dupi, e_dupr, e_dup2, e_popi, e_popr, e_get, e_put, e_iald, e_iast, e_zald, e_zast, e_aald, e_aast, e_sld, e_slen, e_newa, e_newq, e_mna, e_new, e_oi, e_cs, e_cv, e_ci, e_min, e_max, e_copy, e_rv, e_ri, e_rz, e_rl, e_run, sx_en, sx_cat, sx_tk, sx_ps, sx_set, sx_setl, sx_dl, sx_m, sx_sw, sx_ft, List.map_cons, List.map_nil, List.getElem?_cons_zero, List.getElem?_cons_succ, List.replicate_succ, List.replicate_zero, List.set_cons_zero, List.set_cons_succ, List.length_cons, List.length_nil, Nat.reduceAdd, Nat.reduceSub, Nat.reduceLeDiff, Nat.reduceLT, Nat.reduceMul, Nat.zero_le, Nat.le_refl, Nat.add_zero, Nat.zero_add, true_and, and_true, true_or, bX4_stopForRogue_9, h1, h2, hn, hn2, hle, q_up_s, q_up_n, q_up_up, q_upd_s, q_upd_n, q_upd_upd, q_in, q_in0, q_in1, q_cl, q_cl0, q_cl1, q_add, q_add1, q_1add, q_add0, q_0add, q_mul, q_ite0, q_ite01, q_10, or_true, not_false_eq_true, not_true_eq_false, q_n0, ne_eq, false_implies, true_implies, true_and, and_true, not_true_eq_false, not_false_eq_true, Bool.false_eq_true, sx_o, Sum.inr.injEq, Prod.mk.injEq, exists_eq', Nat.reduceLT]
    refine s_becomes h2 h3 h4 h5 hg hf hn2 hn3 hn4 hn5 ?_
    simp (disch := omega) only [e_const, e_lconst, e_il, e_ll, e_al, e_is, e_as, e_ls, e_inc, e_bin, e_div, e_un, e_lbin, e_ldiv, e_lcmp, e_i2l, e_l2i, e_if1, e_if2, e_go, e_sw, e_dupi, e_dupr, e_dup2, e_popi, e_popr, e_get, e_put, e_iald, e_iast, e_zald, e_zast, e_aald, e_aast, e_sld, e_slen, e_newa, e_newq, e_mna, e_new, e_oi, e_cs, e_cv, e_ci, e_min, e_max, e_copy, e_rv, e_ri, e_rz, e_rl, e_run, sx_en, sx_cat, sx_tk, sx_ps, sx_set, sx_setl, sx_dl, sx_m, sx_sw, sx_ft, List.map_cons, List.map_nil, List.getElem?_cons_zero, List.getElem?_cons_succ, List.replicate_succ, List.replicate_zero, List.set_cons_zero, List.set_cons_succ, List.length_cons, List.length_nil, Nat.reduceAdd, Nat.reduceSub, Nat.reduceLeDiff, Nat.reduceLT, Nat.reduceMul, Nat.zero_le, Nat.le_refl, Nat.add_zero, Nat.zero_add, true_and, and_true, true_or, h1, h2, hn, hn2, hn3, hx, hx2, erg, q_up_s, q_up_n, q_up_up, q_upd_s, q_upd_n, q_upd_upd, q_in, q_in0, q_in1, q_cl, q_cl0, q_cl1, q_add, q_add1, q_1add, q_add0, q_0add, q_mul, q_ite0, q_ite01, q_10, or_true, not_false_eq_true, not_true_eq_false, q_n0, ne_eq, false_implies, true_implies, true_and, and_true, not_true_eq_false, not_false_eq_true, Bool.false_eq_true, sx_o, Sum.inr.injEq, Prod.mk.injEq, exists_eq', Nat.reduceLT]
    refine s_pass (g := p_rg f e i) hn (by omega) ((q_up_n (by decide)).trans h1) ((q_up_n (by decide)).trans h2) (q_up_s _ _ _) ?_
    have hw := hW i (by omega)
    have := ih (i + 1) (sx_up h 18 (sx_ai 62 (p_wks (p_rg f e i) m))) (by omega) ((q_up_n (by omega)).trans h1) ((q_up_n (by omega)).trans h2) ((q_up_n (by omega)).trans h4) ((q_up_n (by omega)).trans h5) ⟨_, q_up_s _ _ _, hw⟩ (fun g' hg' => by rw [q_up_up]; exact hR g' hg')
    have ew : (p_wks (p_rg f e i) m (42 + e) - f (42 + e)) - (p_wks (p_rg f e i) m (36 + e) - f (36 + e)) = p_gai f e m i := rfl
    simp (disch := omega) only [e_const, e_lconst, e_il, e_ll, e_al, e_is, e_as, e_ls, e_inc, e_bin, e_div, e_un, e_lbin, e_ldiv, e_lcmp, e_i2l, e_l2i, e_if1, e_if2, e_go, e_sw, e_dupi, e_dupr, e_dup2, e_popi, e_popr, e_get, e_put, e_iald, e_iast, e_zald, e_zast, e_aald, e_aast, e_sld, e_slen, e_newa, e_newq, e_mna, e_new, e_oi, e_cs, e_cv, e_ci, e_min, e_max, e_copy, e_rv, e_ri, e_rz, e_rl, e_run, sx_en, sx_cat, sx_tk, sx_ps, sx_set, sx_setl, sx_dl, sx_m, sx_sw, sx_ft, List.map_cons, List.map_nil, List.getElem?_cons_zero, List.getElem?_cons_succ, List.replicate_succ, List.replicate_zero, List.set_cons_zero, List.set_cons_succ, List.length_cons, List.length_nil, Nat.reduceAdd, Nat.reduceSub, Nat.reduceLeDiff, Nat.reduceLT, Nat.reduceMul, Nat.zero_le, Nat.le_refl, Nat.add_zero, Nat.zero_add, true_and, and_true, true_or, cX4_grown_c, tX4_grown_0, bX4_grown_0, h1, h2, h4, h5, hn, hn2, hn3, hn4, hn5, hx3, hx4, ew, q_up_s, q_up_n, q_up_up, q_upd_s, q_upd_n, q_upd_upd, q_in, q_in0, q_in1, q_cl, q_cl0, q_cl1, q_add, q_add1, q_1add, q_add0, q_0add, q_mul, q_ite0, q_ite01, q_10, or_true, not_false_eq_true, not_true_eq_false, q_n0, ne_eq, false_implies, true_implies, true_and, and_true, not_true_eq_false, not_false_eq_true, Bool.false_eq_true, sx_o, Sum.inr.injEq, Prod.mk.injEq, exists_eq', Nat.reduceLT]
    by_cases hi0 : i = 0
    · have hz : nI i = 0 := by rw [hi0, nI_0]
      rw [p_best, if_pos (Or.inl hi0)] at this
      simp (disch := omega) only [e_const, e_lconst, e_il, e_ll, e_al, e_is, e_as, e_ls, e_inc, e_bin, e_div, e_un, e_lbin, e_ldiv, e_lcmp, e_i2l, e_l2i, e_if1, e_if2, e_go, e_sw, e_dupi, e_dupr, e_dup2, e_popi, e_popr, e_get, e_put, e_iald, e_iast, e_zald, e_zast, e_aald, e_aast, e_sld, e_slen, e_newa, e_newq, e_mna, e_new, e_oi, e_cs, e_cv, e_ci, e_min, e_max, e_copy, e_rv, e_ri, e_rz, e_rl, e_run, sx_en, sx_cat, sx_tk, sx_ps, sx_set, sx_setl, sx_dl, sx_m, sx_sw, sx_ft, List.map_cons, List.map_nil, List.getElem?_cons_zero, List.getElem?_cons_succ, List.replicate_succ, List.replicate_zero, List.set_cons_zero, List.set_cons_succ, List.length_cons, List.length_nil, Nat.reduceAdd, Nat.reduceSub, Nat.reduceLeDiff, Nat.reduceLT, Nat.reduceMul, Nat.zero_le, Nat.le_refl, Nat.add_zero, Nat.zero_add, true_and, and_true, true_or, tX4_stopForRogue_90, bX4_stopForRogue_90, tX4_stopForRogue_98, bX4_stopForRogue_98, hz, q_up_s, q_up_n, q_up_up, q_upd_s, q_upd_n, q_upd_upd, q_in, q_in0, q_in1, q_cl, q_cl0, q_cl1, q_add, q_add1, q_1add, q_add0, q_0add, q_mul, q_ite0, q_ite01, q_10, or_true, not_false_eq_true, not_true_eq_false, q_n0, ne_eq, false_implies, true_implies, true_and, and_true, not_true_eq_false, not_false_eq_true, Bool.false_eq_true]
      subst hi0
      simp only [nI_0, Nat.zero_add, nI_e1] at this
      exact this
    · simp (disch := omega) only [e_const, e_lconst, e_il, e_ll, e_al, e_is, e_as, e_ls, e_inc, e_bin, e_div, e_un, e_lbin, e_ldiv, e_lcmp, e_i2l, e_l2i, e_if1, e_if2, e_go, e_sw, e_dupi, e_dupr, e_dup2, e_popi, e_popr, e_get, e_put, e_iald, e_iast, e_zald, e_zast, e_aald, e_aast, e_sld, e_slen, e_newa, e_newq, e_mna, e_new, e_oi, e_cs, e_cv, e_ci, e_min, e_max, e_copy, e_rv, e_ri, e_rz, e_rl, e_run, sx_en, sx_cat, sx_tk, sx_ps, sx_set, sx_setl, sx_dl, sx_m, sx_sw, sx_ft, List.map_cons, List.map_nil, List.getElem?_cons_zero, List.getElem?_cons_succ, List.replicate_succ, List.replicate_zero, List.set_cons_zero, List.set_cons_succ, List.length_cons, List.length_nil, Nat.reduceAdd, Nat.reduceSub, Nat.reduceLeDiff, Nat.reduceLT, Nat.reduceMul, Nat.zero_le, Nat.le_refl, Nat.add_zero, Nat.zero_add, true_and, and_true, true_or, tX4_stopForRogue_90, bX4_stopForRogue_90, tX4_stopForRogue_98, bX4_stopForRogue_98, q_up_s, q_up_n, q_up_up, q_upd_s, q_upd_n, q_upd_upd, q_in, q_in0, q_in1, q_cl, q_cl0, q_cl1, q_add, q_add1, q_1add, q_add0, q_0add, q_mul, q_ite0, q_ite01, q_10, or_true, not_false_eq_true, not_true_eq_false, q_n0, ne_eq, false_implies, true_implies, true_and, and_true, not_true_eq_false, not_false_eq_true, Bool.false_eq_true]
      refine ⟨fun z => ?_, fun z => ?_⟩
      · rw [p_best, if_neg (fun q => q.elim hi0 (fun y => y z))] at this; exact this
      · rw [p_best, if_pos (Or.inr z)] at this; exact this
set_option maxRecDepth 100000 in
set_option maxHeartbeats 4000000 in
theorem s_rogM_lp {c : Int32} {th st tp cu sa tk va fa fp la tr : Int32} {ac : Nat} (hn : 63 < n) (he : e < 6) (hm : m ≤ 60) (hW : ∀ i, i < 100 → WB 999 (p_rg f e i)) (h58 : ¬ f 58 = 0) (wt : Int32) (Rt : sx_R) : ∀ (k i : Nat) (h : sx_H), i + k = 100 → h 53 = g_m th st (nI ac) tp cu sa tk va fa fp la tr → h 57 = sx_ai 64 (toM f c) → (∃ g, h 59 = sx_ai 64 g ∧ ∀ j, 64 ≤ j → g j = 0) → (∀ g', (∀ j, 64 ≤ j → g' j = 0) → Rt (some (sx_i (if wt = 0 then (p_best (p_gai f e m) 100).1 else (p_best (p_gai f e m) 100).2))) n (sx_up h 59 (sx_ai 64 g')) 0 0) → sx_T BX8_rogue sx_Cal Rt 85 [some (sx_r (some 53)), some (sx_i (nI e)), some (sx_i (nI m)), some (sx_i wt), some (sx_i (f (42 + e) - f (36 + e))), some (sx_i (if i = 0 then -1000000 else (p_best (p_gai f e m) i).1)), some (sx_i (p_best (p_gai f e m) i).2), some (sx_i (nI i)), none, none] [] n h 0 0 := by
  have hn2 : 53 < n := by omega
  have hn3 : 59 < n := by omega
  intro k
  induction k with
  | zero =>
    intro i h hi h1 h5 ⟨g, h3, hg⟩ hR
    have : i = 100 := by omega
    subst this
    have hR := hR g hg
    rw [q_up_id h3] at hR
    rw [tX8_rogue_85, if_neg (by decide)]
    simp (disch := omega) only [e_const, e_lconst, e_il, e_ll, e_al, e_is, e_as, e_ls, e_inc, e_bin, e_div, e_un, e_lbin, e_ldiv, e_lcmp, e_i2l, e_l2i, e_if1, e_if2, e_go, e_sw, e_dupi, e_dupr, e_dup2, e_popi, e_popr, e_get, e_put, e_iald, e_iast, e_zald, e_zast, e_aald, e_aast, e_sld, e_slen, e_newa, e_newq, e_mna, e_new, e_oi, e_cs, e_cv, e_ci, e_min, e_max, e_copy, e_rv, e_ri, e_rz, e_rl, e_run, sx_en, sx_cat, sx_tk, sx_ps, sx_set, sx_setl, sx_dl, sx_m, sx_sw, sx_ft, List.map_cons, List.map_nil, List.getElem?_cons_zero, List.getElem?_cons_succ, List.replicate_succ, List.replicate_zero, List.set_cons_zero, List.set_cons_succ, List.length_cons, List.length_nil, Nat.reduceAdd, Nat.reduceSub, Nat.reduceLeDiff, Nat.reduceLT, Nat.reduceMul, Nat.zero_le, Nat.le_refl, Nat.add_zero, Nat.zero_add, true_and, and_true, true_or, bX8_rogue_85, tX8_rogue_216, bX8_rogue_216, tX8_rogue_225, bX8_rogue_225, tX8_rogue_227, bX8_rogue_227, q_le, q_ti, Int.le_refl, q_up_s, q_up_n, q_up_up, q_upd_s, q_upd_n, q_upd_upd, q_in, q_in0, q_in1, q_cl, q_cl0, q_cl1, q_add, q_add1, q_1add, q_add0, q_0add, q_mul, q_ite0, q_ite01, q_10, or_true, not_false_eq_true, not_true_eq_false, q_n0, ne_eq, false_implies, true_implies, true_and, and_true, not_true_eq_false, not_false_eq_true, Bool.false_eq_true]
    refine ⟨fun z => ?_, fun z => ?_⟩
    · rw [if_neg z] at hR; exact hR
    · rw [if_pos (Classical.not_not.mp z)] at hR; exact hR
  | succ k ih =>
    intro i h hi h1 h5 ⟨g, h3, hg⟩ hR
    have hle : (((100 : Nat) : Int) ≤ (i : Int)) = False := eq_false (by omega)
    have hx : 10 + 9 * e + 3 < 64 := by omega
    have hx0 : 10 + 9 * e < 64 := by omega
    have erg : upd (upd f (18 + e) (nI i)) (48 + e) (nI 5) = p_rg f e i := q_upd_sw (by omega)
    rw [tX8_rogue_85]
    simp (disch := omega) only [e_const, e_lconst, e_il, e_ll, e_al, e_is, e_as, e_ls, e_inc, e_bin, e_div, e_un, e_lbin, e_ldiv, e_lcmp, e_i2l, e_l2i, e_if1, e_if2, e_go, e_sw, e_dupi, e_dupr, e_dup2, e_popi, e_popr, e_get, e_put, e_iald, e_iast, e_zald, e_zast, e_aald, e_aast, e_sld, e_slen, e_newa, e_newq, e_mna, e_new, e_oi, e_cs, e_cv, e_ci, e_min, e_max, e_copy, e_rv, e_ri, e_rz, e_rl, e_run, sx_en, sx_cat, sx_tk, sx_ps, sx_set, sx_setl, sx_dl, sx_m, sx_sw, sx_ft, List.map_cons, List.map_nil, List.getElem?_cons_zero, List.getElem?_cons_succ, List.replicate_succ, List.replicate_zero, List.set_cons_zero, List.set_cons_succ, List.length_cons, List.length_nil, Nat.reduceAdd, Nat.reduceSub, Nat.reduceLeDiff, Nat.reduceLT, Nat.reduceMul, Nat.zero_le, Nat.le_refl, Nat.add_zero, Nat.zero_add, true_and, and_true, true_or, bX8_rogue_85, h1, hn2, hle, q_le (nI 100) (nI i), q_ti, q_up_s, q_up_n, q_up_up, q_upd_s, q_upd_n, q_upd_upd, q_in, q_in0, q_in1, q_cl, q_cl0, q_cl1, q_add, q_add1, q_1add, q_add0, q_0add, q_mul, q_ite0, q_ite01, q_10, or_true, not_false_eq_true, not_true_eq_false, q_n0, ne_eq, false_implies, true_implies, true_and, and_true, not_true_eq_false, not_false_eq_true, Bool.false_eq_true, sx_o, Sum.inr.injEq, Prod.mk.injEq, exists_eq', Nat.reduceLT]
    refine s_layThen hn h1 h5 h3 (fun j hj => toM_z _ _ hj) hg ?_
    simp (disch := omega) only [e_const, e_lconst, e_il, e_ll, e_al, e_is, e_as, e_ls, e_inc, e_bin, e_div, e_un, e_lbin, e_ldiv, e_lcmp, e_i2l, e_l2i, e_if1, e_if2, e_go, e_sw, e_dupi, e_dupr, e_dup2, e_popi, e_popr, e_get, e_put, e_iald, e_iast, e_zald, e_zast, e_aald, e_aast, e_sld, e_slen, e_newa, e_newq, e_mna, e_new, e_oi, e_cs, e_cv, e_ci, e_min, e_max, e_copy, e_rv, e_ri, e_rz, e_rl, e_run, sx_en, sx_cat, sx_tk, sx_ps, sx_set, sx_setl, sx_dl, sx_m, sx_sw, sx_ft, List.map_cons, List.map_nil, List.getElem?_cons_zero, List.getElem?_cons_succ, List.replicate_succ, List.replicate_zero, List.set_cons_zero, List.set_cons_succ, List.length_cons, List.length_nil, Nat.reduceAdd, Nat.reduceSub, Nat.reduceLeDiff, Nat.reduceLT, Nat.reduceMul, Nat.zero_le, Nat.le_refl, Nat.add_zero, Nat.zero_add, true_and, and_true, true_or, h1, hn2, hn3, hx, hx0, erg, q_up_s, q_up_n, q_up_up, q_upd_s, q_upd_n, q_upd_upd, q_in, q_in0, q_in1, q_cl, q_cl0, q_cl1, q_add, q_add1, q_1add, q_add0, q_0add, q_mul, q_ite0, q_ite01, q_10, or_true, not_false_eq_true, not_true_eq_false, q_n0, ne_eq, m_r0, m_r1, m_r2, m_r3, m_r4, m_r5, m_r6, m_r7, m_r8, m_u0, m_u1, m_u2, m_u3, m_u4, m_u5, m_u6, m_u7, m_u8, m_s1, m_s2, m_s3, m_s4, m_s5, m_s6, m_s7, m_s8, m_s9, m_w1, m_w2, m_w3, m_w5, m_w6, m_w7, m_w8, m_w9, false_implies, true_implies, true_and, and_true, not_true_eq_false, not_false_eq_true, Bool.false_eq_true, sx_o, Sum.inr.injEq, Prod.mk.injEq, exists_eq', Nat.reduceLT]
    refine s_weeksOf hn3 (hW i (by omega)) (by omega) (by omega) (by rw [p_rg, q_upd_n (by omega), q_upd_n (by omega)]; exact h58) (q_up_s _ _ _) fun c' => ?_
    have hz : ∀ j, 64 ≤ j → toM (p_wks (p_rg f e i) m) c' j = 0 := fun j hj => toM_z _ _ hj
    have := ih (i + 1) (sx_up h 59 (sx_ai 64 (toM (p_wks (p_rg f e i) m) c'))) (by omega) ((q_up_n (by omega)).trans h1) ((q_up_n (by omega)).trans h5) ⟨_, q_up_s _ _ _, hz⟩ (fun g' hg' => by rw [q_up_up]; exact hR g' hg')
    have ew : p_wks (p_rg f e i) m (42 + e) - p_wks (p_rg f e i) m (36 + e) - (f (42 + e) - f (36 + e)) = p_gai f e m i := q_4sub _ _ _ _
    have of8 := fun (k : Nat) (hk : k < 9) (Q : sx_Q) => s_ofk (Q := Q) (n := n) (q_up_s h 59 (sx_ai 64 (toM (p_wks (p_rg f e i) m) c'))) hn3 he hk
    rw [if_neg (by omega)] at this
    simp (disch := omega) only [e_const, e_lconst, e_il, e_ll, e_al, e_is, e_as, e_ls, e_inc, e_bin, e_div, e_un, e_lbin, e_ldiv, e_lcmp, e_i2l, e_l2i, e_if1, e_if2, e_go, e_sw, e_dupi, e_dupr, e_dup2, e_popi, e_popr, e_get, e_put, e_iald, e_iast, e_zald, e_zast, e_aald, e_aast, e_sld, e_slen, e_newa, e_newq, e_mna, e_new, e_oi, e_cs, e_cv, e_ci, e_min, e_max, e_copy, e_rv, e_ri, e_rz, e_rl, e_run, sx_en, sx_cat, sx_tk, sx_ps, sx_set, sx_setl, sx_dl, sx_m, sx_sw, sx_ft, List.map_cons, List.map_nil, List.getElem?_cons_zero, List.getElem?_cons_succ, List.replicate_succ, List.replicate_zero, List.set_cons_zero, List.set_cons_succ, List.length_cons, List.length_nil, Nat.reduceAdd, Nat.reduceSub, Nat.reduceLeDiff, Nat.reduceLT, Nat.reduceMul, Nat.zero_le, Nat.le_refl, Nat.add_zero, Nat.zero_add, true_and, and_true, true_or, h1, hn2, hn3, of8 8 (by decide), of8 7 (by decide), ew, q_up_s, q_up_n, q_up_up, q_upd_s, q_upd_n, q_upd_upd, q_in, q_in0, q_in1, q_cl, q_cl0, q_cl1, q_add, q_add1, q_1add, q_add0, q_0add, q_mul, q_ite0, q_ite01, q_10, or_true, not_false_eq_true, not_true_eq_false, q_n0, ne_eq, m_r0, m_r1, m_r2, m_r3, m_r4, m_r5, m_r6, m_r7, m_r8, m_u0, m_u1, m_u2, m_u3, m_u4, m_u5, m_u6, m_u7, m_u8, m_s1, m_s2, m_s3, m_s4, m_s5, m_s6, m_s7, m_s8, m_s9, m_w1, m_w2, m_w3, m_w5, m_w6, m_w7, m_w8, m_w9, false_implies, true_implies, true_and, and_true, not_true_eq_false, not_false_eq_true, Bool.false_eq_true, sx_o, Sum.inr.injEq, Prod.mk.injEq, exists_eq', Nat.reduceLT]
    by_cases hi0 : i = 0
    · rw [if_pos hi0]
      rw [p_best, if_pos (Or.inl hi0)] at this
      simp (disch := omega) only [e_const, e_lconst, e_il, e_ll, e_al, e_is, e_as, e_ls, e_inc, e_bin, e_div, e_un, e_lbin, e_ldiv, e_lcmp, e_i2l, e_l2i, e_if1, e_if2, e_go, e_sw, e_dupi, e_dupr, e_dup2, e_popi, e_popr, e_get, e_put, e_iald, e_iast, e_zald, e_zast, e_aald, e_aast, e_sld, e_slen, e_newa, e_newq, e_mna, e_new, e_oi, e_cs, e_cv, e_ci, e_min, e_max, e_copy, e_rv, e_ri, e_rz, e_rl, e_run, sx_en, sx_cat, sx_tk, sx_ps, sx_set, sx_setl, sx_dl, sx_m, sx_sw, sx_ft, List.map_cons, List.map_nil, List.getElem?_cons_zero, List.getElem?_cons_succ, List.replicate_succ, List.replicate_zero, List.set_cons_zero, List.set_cons_succ, List.length_cons, List.length_nil, Nat.reduceAdd, Nat.reduceSub, Nat.reduceLeDiff, Nat.reduceLT, Nat.reduceMul, Nat.zero_le, Nat.le_refl, Nat.add_zero, Nat.zero_add, true_and, and_true, true_or, tX8_rogue_175, bX8_rogue_175, tX8_rogue_179, bX8_rogue_179, tX8_rogue_180, bX8_rogue_180, tX8_rogue_192, bX8_rogue_192, tX8_rogue_194, bX8_rogue_194, tX8_rogue_206, bX8_rogue_206, tX8_rogue_208, bX8_rogue_208, q_10, q_up_s, q_up_n, q_up_up, q_upd_s, q_upd_n, q_upd_upd, q_in, q_in0, q_in1, q_cl, q_cl0, q_cl1, q_add, q_add1, q_1add, q_add0, q_0add, q_mul, q_ite0, q_ite01, q_10, or_true, not_false_eq_true, not_true_eq_false, q_n0, ne_eq, false_implies, true_implies, true_and, and_true, not_true_eq_false, not_false_eq_true, Bool.false_eq_true]
      exact this
    · obtain ⟨j0, hj0, ej0⟩ := best_n (p_gai f e m) i (by omega)
      have enn : ((p_best (p_gai f e m) i).1 = -1000000) = False := by rw [ej0]; exact q_none (by omega)
      rw [if_neg hi0]
      simp (disch := omega) only [e_const, e_lconst, e_il, e_ll, e_al, e_is, e_as, e_ls, e_inc, e_bin, e_div, e_un, e_lbin, e_ldiv, e_lcmp, e_i2l, e_l2i, e_if1, e_if2, e_go, e_sw, e_dupi, e_dupr, e_dup2, e_popi, e_popr, e_get, e_put, e_iald, e_iast, e_zald, e_zast, e_aald, e_aast, e_sld, e_slen, e_newa, e_newq, e_mna, e_new, e_oi, e_cs, e_cv, e_ci, e_min, e_max, e_copy, e_rv, e_ri, e_rz, e_rl, e_run, sx_en, sx_cat, sx_tk, sx_ps, sx_set, sx_setl, sx_dl, sx_m, sx_sw, sx_ft, List.map_cons, List.map_nil, List.getElem?_cons_zero, List.getElem?_cons_succ, List.replicate_succ, List.replicate_zero, List.set_cons_zero, List.set_cons_succ, List.length_cons, List.length_nil, Nat.reduceAdd, Nat.reduceSub, Nat.reduceLeDiff, Nat.reduceLT, Nat.reduceMul, Nat.zero_le, Nat.le_refl, Nat.add_zero, Nat.zero_add, true_and, and_true, true_or, tX8_rogue_175, bX8_rogue_175, tX8_rogue_179, bX8_rogue_179, tX8_rogue_180, bX8_rogue_180, tX8_rogue_192, bX8_rogue_192, tX8_rogue_194, bX8_rogue_194, tX8_rogue_206, bX8_rogue_206, tX8_rogue_208, bX8_rogue_208, enn, q_10, q_up_s, q_up_n, q_up_up, q_upd_s, q_upd_n, q_upd_upd, q_in, q_in0, q_in1, q_cl, q_cl0, q_cl1, q_add, q_add1, q_1add, q_add0, q_0add, q_mul, q_ite0, q_ite01, q_10, or_true, not_false_eq_true, not_true_eq_false, q_n0, ne_eq, false_implies, true_implies, true_and, and_true, not_true_eq_false, not_false_eq_true, Bool.false_eq_true]
      refine ⟨fun z => ?_, fun z => ?_⟩
      · rw [p_best, if_neg (fun q => q.elim hi0 (fun y => y z))] at this; exact this
      · rw [p_best, if_pos (Or.inr z)] at this; exact this
end RG
