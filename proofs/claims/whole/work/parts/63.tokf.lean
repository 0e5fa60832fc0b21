/-! the class reads the tape: its loop -/
section TF
variable {T : Nat → Int32} {tp q s pt : Nat} {row : Nat → Int32}
set_option maxRecDepth 100000 in
set_option maxHeartbeats 4000000 in
theorem must_w (b : Bool) : (o_must T tp b (q, 0)).2 ≤ 3 ∧ ((o_must T tp b (q, 0)).2 = 0 → (o_must T tp b (q, 0)).1 = p_cu T tp q) := by
  rw [o_must, if_pos rfl]
  split
  · exact ⟨by omega, fun _ => rfl⟩
  · exact ⟨by show 1 ≤ 3; omega, fun z => by change 1 = 0 at z; omega⟩
set_option maxRecDepth 100000 in
set_option maxHeartbeats 4000000 in
theorem num_w (lo hi : Int32) : (o_num T tp lo hi (q, 0)).2 ≤ 3 ∧ ((o_num T tp lo hi (q, 0)).2 = 0 → (o_num T tp lo hi (q, 0)).1 = p_cu T tp q) := by
  rw [o_num, if_pos rfl]
  split
  · split
    · exact ⟨by omega, fun _ => rfl⟩
    · exact ⟨by show 2 ≤ 3; omega, fun z => by change 2 = 0 at z; omega⟩
  · exact ⟨by show 1 ≤ 3; omega, fun z => by change 1 = 0 at z; omega⟩
set_option maxRecDepth 100000 in
set_option maxHeartbeats 4000000 in
theorem tok_w : (p_tok T tp s pt q row).1.2 ≤ 3 ∧ ((p_tok T tp s pt q row).1.2 = 0 → (p_tok T tp s pt q row).1.1 = p_cu T tp q) := by
  rw [p_tok]
  split
  · split
    · exact must_w _
    · split
      · split
        · exact ⟨by show 0 ≤ 3; omega, fun _ => rfl⟩
        · exact ⟨by show 3 ≤ 3; omega, fun z => by change 3 = 0 at z; omega⟩
      · exact ⟨by show 1 ≤ 3; omega, fun z => by change 1 = 0 at z; omega⟩
  · split
    · exact num_w _ _
    · exact must_w _
set_option maxRecDepth 100000 in
set_option maxHeartbeats 4000000 in
theorem pl_lt (hp : pt ≤ 6) : p_pl s pt < 62 := by
  rw [p_pl]; split
  · split; omega; split <;> omega
  · split; omega; split <;> omega
set_option maxRecDepth 100000 in
set_option maxHeartbeats 4000000 in
theorem tok_z (hsp : s = 0 ∨ pt ≤ 6) (hz : ∀ j, 62 ≤ j → row j = 0) : ∀ j, 62 ≤ j → (p_tok T tp s pt q row).2 j = 0 := by
  intro j hj
  rw [p_tok]
  split
  · split
    · exact hz j hj
    · split
      · split
        · show upd (upd row (48 + (pt - 1)) _) 58 _ j = 0
          rw [q_upd_n (by omega), q_upd_n (by omega)]; exact hz j hj
        · exact hz j hj
      · exact hz j hj
  · rename_i s0
    have hp : pt ≤ 6 := hsp.resolve_left s0
    split
    · show (if _ then upd row (p_pl s pt) _ else row) j = 0
      split
      · have := pl_lt (s := s) hp
        rw [q_upd_n (by omega)]; exact hz j hj
      · exact hz j hj
    · exact hz j hj
set_option maxRecDepth 100000 in
set_option maxHeartbeats 4000000 in
theorem tok_p (h0 : s = 0) (hw : (p_tok T tp s pt q row).1.2 = 0) : pt ≤ 6 := by
  by_cases z : pt ≤ 6
  · exact z
  · exfalso
    rw [p_tok, if_pos h0, if_neg (by omega)] at hw
    split at hw
    · change 3 = 0 at hw; omega
    · change 1 = 0 at hw; omega
variable {n : Nat}
set_option maxRecDepth 100000 in
set_option maxHeartbeats 4000000 in
theorem s_read_lp (hn : 18 < n) (htp : tp ≤ 120) (Rt : sx_R) : ∀ (k i s pt q : Nat) (row : Nat → Int32) (h : sx_H), i + k = 120 → tp ≤ q + k → q ≤ tp → s < 7 → pt ≤ 7 → (s = 0 ∨ pt ≤ 6) → (∀ j, 62 ≤ j → row j = 0) → h 13 = g_t tp q s pt → h 14 = sx_ai 120 T → h 17 = sx_o 2 [sx_r (some 18)] → h 18 = sx_ai 62 row → (∀ h' s' pt', h' 13 = g_t tp (p_M T tp (k + 1) s pt q row).1.1 s' pt' → (∃ g, h' 18 = sx_ai 62 g ∧ (∀ j, 62 ≤ j → g j = 0) ∧ ((p_M T tp (k + 1) s pt q row).1.2 = 0 → g = (p_M T tp (k + 1) s pt q row).2)) → (∀ j, j ≠ 13 → j ≠ 18 → h' j = h j) → Rt (some (sx_i (nI (p_M T tp (k + 1) s pt q row).1.2))) n h' 0 0) → sx_T BX6_read sx_Cal Rt 21 [some (sx_r (some 13)), some (sx_r (some 17)), some (sx_i (nI i)), none] [] n h 0 0 := by
  have a1 : 13 < n := by omega
  intro k
  -- at the end of the tape
  have fin : ∀ (k s pt q : Nat) (row : Nat → Int32) (h : sx_H), tp ≤ q → s < 7 → pt ≤ 7 → (s = 0 ∨ pt ≤ 6) → (∀ j, 62 ≤ j → row j = 0) → h 13 = g_t tp q s pt → h 18 = sx_ai 62 row → (∀ h' s' pt', h' 13 = g_t tp (p_M T tp (k + 1) s pt q row).1.1 s' pt' → (∃ g, h' 18 = sx_ai 62 g ∧ (∀ j, 62 ≤ j → g j = 0) ∧ ((p_M T tp (k + 1) s pt q row).1.2 = 0 → g = (p_M T tp (k + 1) s pt q row).2)) → (∀ j, j ≠ 13 → j ≠ 18 → h' j = h j) → Rt (some (sx_i (nI (p_M T tp (k + 1) s pt q row).1.2))) n h' 0 0) → sx_T BX6_read sx_Cal Rt 90 [some (sx_r (some 13)), none, none, none] [] n h 0 0 := by
    intro k s pt q row h hq hs hp hsp hz h1 h4 hR
    rw [tX6_read_90]
    have hlt : (nI pt < nI 2) = ¬ (2 ≤ pt) := by rw [q_lt, q_ti (by omega), q_ti (by omega)]; apply propext; omega
    simp (disch := omega) only [e_const, e_lconst, e_il, e_ll, e_al, z_is, z_as, z_ls, z_inc, e_bin, e_div, e_un, e_lbin, e_ldiv, e_lcmp, e_i2l, e_l2i, e_if1, e_if2, z_go, e_sw, e_dupi, e_dupr, e_dup2, e_popi, e_popr, e_get, e_put, e_iald, e_iast, e_zald, e_zast, e_aald, e_aast, e_sld, e_slen, e_newa, e_newq, e_mna, e_new, e_oi, e_cs, e_cv, e_ci, e_min, e_max, e_copy, e_rv, e_ri, e_rz, e_rl, z_run, sx_en, sx_cat, sx_tk, sx_ps, sx_set, sx_setl, sx_dl, sx_m, sx_sw, sx_ft, List.map_cons, List.map_nil, List.getElem?_cons_zero, List.getElem?_cons_succ, List.replicate_succ, List.replicate_zero, List.set_cons_zero, List.set_cons_succ, List.length_cons, List.length_nil, Nat.reduceAdd, Nat.reduceSub, Nat.reduceLeDiff, Nat.reduceLT, Nat.reduceMul, Nat.zero_le, Nat.le_refl, Nat.add_zero, Nat.zero_add, true_and, and_true, true_or, bX6_read_90, tX6_read_109, bX6_read_109, tX6_read_110, bX6_read_110, h1, a1, nI_eq0, hlt, q_up_s, q_up_n, q_up_up, q_upd_s, q_upd_n, q_upd_upd, q_in, q_in0, q_in1, q_cl, q_cl0, q_cl1, q_add, q_add1, q_1add, q_add0, q_0add, q_mul, q_ite0, q_ite01, q_10, or_true, not_false_eq_true, not_true_eq_false, q_n0, ne_eq, false_implies, true_implies, true_and, and_true, not_true_eq_false, not_false_eq_true, Bool.false_eq_true, sx_o, Sum.inr.injEq, Prod.mk.injEq, exists_eq', Nat.reduceLT]
    by_cases z : s = 0 ∧ 2 ≤ pt
    · have e : p_M T tp (k + 1) s pt q row = ((q, 0), row) := by rw [p_M, if_pos ⟨hq, z.1, z.2⟩]
      rw [e] at hR
      have := hR h s pt h1 ⟨row, h4, hz, fun _ => rfl⟩ (fun j _ _ => rfl)
      rw [show nI (((q, 0), row) : (Nat × Nat) × (Nat → Int32)).1.2 = 0 from nI_0] at this
      exact ⟨fun y => absurd z.1 y, fun _ => ⟨fun y => absurd z.2 y, fun _ => this⟩⟩
    · have e1 := tok_end (T := T) (row := row) hq z (Or.inr trivial)
      have e : p_M T tp (k + 1) s pt q row = p_tok T tp s pt q row := by
        rw [p_M, if_neg (fun y => z ⟨y.2.1, y.2.2⟩), if_neg (by rw [e1]; exact fun y => by change 1 = 0 at y; omega)]
      rw [e] at hR
      have := hR h s pt (by rw [e1]; exact h1) ⟨row, h4, hz, fun y => by rw [e1] at y; change 1 = 0 at y; omega⟩ (fun j _ _ => rfl)
      rw [show nI (p_tok T tp s pt q row).1.2 = 1 by rw [e1]; exact nI_e1] at this
      exact ⟨fun _ => this, fun y => ⟨fun _ => this, fun w => absurd ⟨Classical.not_not.mp y, Classical.not_not.mp w⟩ z⟩⟩
  induction k with
  | zero =>
    intro i s pt q row h hi hf hq hs hp hsp hz h1 h2 h3 h4 hR
    have : i = 120 := by omega
    subst this
    have hle : (((120 : Nat) : Int) ≤ ((120 : Nat) : Int)) = True := eq_true (by omega)
    rw [tX6_read_21]
    simp (disch := omega) only [e_const, e_lconst, e_il, e_ll, e_al, z_is, z_as, z_ls, z_inc, e_bin, e_div, e_un, e_lbin, e_ldiv, e_lcmp, e_i2l, e_l2i, e_if1, e_if2, z_go, e_sw, e_dupi, e_dupr, e_dup2, e_popi, e_popr, e_get, e_put, e_iald, e_iast, e_zald, e_zast, e_aald, e_aast, e_sld, e_slen, e_newa, e_newq, e_mna, e_new, e_oi, e_cs, e_cv, e_ci, e_min, e_max, e_copy, e_rv, e_ri, e_rz, e_rl, z_run, sx_en, sx_cat, sx_tk, sx_ps, sx_set, sx_setl, sx_dl, sx_m, sx_sw, sx_ft, List.map_cons, List.map_nil, List.getElem?_cons_zero, List.getElem?_cons_succ, List.replicate_succ, List.replicate_zero, List.set_cons_zero, List.set_cons_succ, List.length_cons, List.length_nil, Nat.reduceAdd, Nat.reduceSub, Nat.reduceLeDiff, Nat.reduceLT, Nat.reduceMul, Nat.zero_le, Nat.le_refl, Nat.add_zero, Nat.zero_add, true_and, and_true, true_or, bX6_read_21, q_le (nI 120) (nI 120), q_ti, hle, q_up_s, q_up_n, q_up_up, q_upd_s, q_upd_n, q_upd_upd, q_in, q_in0, q_in1, q_cl, q_cl0, q_cl1, q_add, q_add1, q_1add, q_add0, q_0add, q_mul, q_ite0, q_ite01, q_10, or_true, not_false_eq_true, not_true_eq_false, q_n0, ne_eq, false_implies, true_implies, true_and, and_true, not_true_eq_false, not_false_eq_true, Bool.false_eq_true, sx_o, Sum.inr.injEq, Prod.mk.injEq, exists_eq', Nat.reduceLT]
    exact fin 0 s pt q row h (by omega) hs hp hsp hz h1 h4 hR
  | succ k ih =>
    intro i s pt q row h hi hf hq hs hp hsp hz h1 h2 h3 h4 hR
    have hle : (((120 : Nat) : Int) ≤ (i : Int)) = False := eq_false (by omega)
    have hqn : q < 2147483648 := by omega
    rw [tX6_read_21]
    simp (disch := omega) only [e_const, e_lconst, e_il, e_ll, e_al, z_is, z_as, z_ls, z_inc, e_bin, e_div, e_un, e_lbin, e_ldiv, e_lcmp, e_i2l, e_l2i, e_if1, e_if2, z_go, e_sw, e_dupi, e_dupr, e_dup2, e_popi, e_popr, e_get, e_put, e_iald, e_iast, e_zald, e_zast, e_aald, e_aast, e_sld, e_slen, e_newa, e_newq, e_mna, e_new, e_oi, e_cs, e_cv, e_ci, e_min, e_max, e_copy, e_rv, e_ri, e_rz, e_rl, z_run, sx_en, sx_cat, sx_tk, sx_ps, sx_set, sx_setl, sx_dl, sx_m, sx_sw, sx_ft, List.map_cons, List.map_nil, List.getElem?_cons_zero, List.getElem?_cons_succ, List.replicate_succ, List.replicate_zero, List.set_cons_zero, List.set_cons_succ, List.length_cons, List.length_nil, Nat.reduceAdd, Nat.reduceSub, Nat.reduceLeDiff, Nat.reduceLT, Nat.reduceMul, Nat.zero_le, Nat.le_refl, Nat.add_zero, Nat.zero_add, true_and, and_true, true_or, bX6_read_21, h1, a1, q_le (nI 120) (nI i), q_le (nI tp) (nI q), q_ti, hle, q_up_s, q_up_n, q_up_up, q_upd_s, q_upd_n, q_upd_upd, q_in, q_in0, q_in1, q_cl, q_cl0, q_cl1, q_add, q_add1, q_1add, q_add0, q_0add, q_mul, q_ite0, q_ite01, q_10, or_true, not_false_eq_true, not_true_eq_false, q_n0, ne_eq, false_implies, true_implies, true_and, and_true, not_true_eq_false, not_false_eq_true, Bool.false_eq_true, sx_o, Sum.inr.injEq, Prod.mk.injEq, exists_eq', Nat.reduceLT]
    refine ⟨fun y => fin (k + 1) s pt q row h (by omega) hs hp hsp hz h1 h4 hR, fun y => ?_⟩
    have hqt : q < tp := by omega
    obtain ⟨w3, wc⟩ := tok_w (T := T) (tp := tp) (q := q) (s := s) (pt := pt) (row := row)
    refine s_readToken hn hs hp hsp hqt htp h1 h2 h3 h4 (fun h' e1 e2 e3 => ?_)
    have tz := tok_z (T := T) (tp := tp) (q := q) hsp hz
    simp (disch := omega) only [e_const, e_lconst, e_il, e_ll, e_al, z_is, z_as, z_ls, z_inc, e_bin, e_div, e_un, e_lbin, e_ldiv, e_lcmp, e_i2l, e_l2i, e_if1, e_if2, z_go, e_sw, e_dupi, e_dupr, e_dup2, e_popi, e_popr, e_get, e_put, e_iald, e_iast, e_zald, e_zast, e_aald, e_aast, e_sld, e_slen, e_newa, e_newq, e_mna, e_new, e_oi, e_cs, e_cv, e_ci, e_min, e_max, e_copy, e_rv, e_ri, e_rz, e_rl, z_run, sx_en, sx_cat, sx_tk, sx_ps, sx_set, sx_setl, sx_dl, sx_m, sx_sw, sx_ft, List.map_cons, List.map_nil, List.getElem?_cons_zero, List.getElem?_cons_succ, List.replicate_succ, List.replicate_zero, List.set_cons_zero, List.set_cons_succ, List.length_cons, List.length_nil, Nat.reduceAdd, Nat.reduceSub, Nat.reduceLeDiff, Nat.reduceLT, Nat.reduceMul, Nat.zero_le, Nat.le_refl, Nat.add_zero, Nat.zero_add, true_and, and_true, true_or, nI_eq0, q_up_s, q_up_n, q_up_up, q_upd_s, q_upd_n, q_upd_upd, q_in, q_in0, q_in1, q_cl, q_cl0, q_cl1, q_add, q_add1, q_1add, q_add0, q_0add, q_mul, q_ite0, q_ite01, q_10, or_true, not_false_eq_true, not_true_eq_false, q_n0, ne_eq, false_implies, true_implies, true_and, and_true, not_true_eq_false, not_false_eq_true, Bool.false_eq_true, sx_o, Sum.inr.injEq, Prod.mk.injEq, exists_eq', Nat.reduceLT]
    refine ⟨fun z => ?_, fun z => ?_⟩
    · have z0 := z
      have e : p_M T tp (k + 1 + 1) s pt q row = p_M T tp (k + 1) (if s = 6 then 0 else s + 1) (if s = 6 then pt + 1 else pt) (p_tok T tp s pt q row).1.1 (p_tok T tp s pt q row).2 := by
        rw [p_M, if_neg (fun y => by omega), if_pos z0]
      rw [e] at hR
      have hcu := cu_gt (T := T) hqt
      have hcl := cu_le (T := T) (show q ≤ tp by omega)
      have hwc := wc z0
      have hp6 : pt ≤ 6 := by
        rcases hsp with a | a
        · exact tok_p a z0
        · exact a
      have go : ∀ h2 : sx_H, h2 13 = g_t tp (p_tok T tp s pt q row).1.1 (if s = 6 then 0 else s + 1) (if s = 6 then pt + 1 else pt) → (∀ j, j ≠ 13 → h2 j = h' j) → sx_T BX6_read sx_Cal Rt 84 [some (sx_r (some 13)), some (sx_r (some 17)), some (sx_i (nI i)), none] [] n h2 0 0 := by
        intro h2' g1 g2
        rw [tX6_read_84]
        simp (disch := omega) only [e_const, e_lconst, e_il, e_ll, e_al, z_is, z_as, z_ls, z_inc, e_bin, e_div, e_un, e_lbin, e_ldiv, e_lcmp, e_i2l, e_l2i, e_if1, e_if2, z_go, e_sw, e_dupi, e_dupr, e_dup2, e_popi, e_popr, e_get, e_put, e_iald, e_iast, e_zald, e_zast, e_aald, e_aast, e_sld, e_slen, e_newa, e_newq, e_mna, e_new, e_oi, e_cs, e_cv, e_ci, e_min, e_max, e_copy, e_rv, e_ri, e_rz, e_rl, z_run, sx_en, sx_cat, sx_tk, sx_ps, sx_set, sx_setl, sx_dl, sx_m, sx_sw, sx_ft, List.map_cons, List.map_nil, List.getElem?_cons_zero, List.getElem?_cons_succ, List.replicate_succ, List.replicate_zero, List.set_cons_zero, List.set_cons_succ, List.length_cons, List.length_nil, Nat.reduceAdd, Nat.reduceSub, Nat.reduceLeDiff, Nat.reduceLT, Nat.reduceMul, Nat.zero_le, Nat.le_refl, Nat.add_zero, Nat.zero_add, true_and, and_true, true_or, bX6_read_84, q_up_s, q_up_n, q_up_up, q_upd_s, q_upd_n, q_upd_upd, q_in, q_in0, q_in1, q_cl, q_cl0, q_cl1, q_add, q_add1, q_1add, q_add0, q_0add, q_mul, q_ite0, q_ite01, q_10, or_true, not_false_eq_true, not_true_eq_false, q_n0, ne_eq, false_implies, true_implies, true_and, and_true, not_true_eq_false, not_false_eq_true, Bool.false_eq_true, sx_o, Sum.inr.injEq, Prod.mk.injEq, exists_eq', Nat.reduceLT]
        refine ih (i + 1) _ _ _ _ h2' (by omega) (by omega) (by omega) (by split <;> omega) (by split <;> omega) (by split; exact Or.inl rfl; exact Or.inr hp6) tz g1 ((g2 14 (by decide)).trans ((e3 14 (by decide) (by decide)).trans h2)) ((g2 17 (by decide)).trans ((e3 17 (by decide) (by decide)).trans h3)) ((g2 18 (by decide)).trans e2) (fun h3 s' pt' u1 u2 u3 => hR h3 s' pt' u1 u2 (fun j j1 j2 => (u3 j j1 j2).trans ((g2 j j1).trans (e3 j j1 j2))))
      by_cases s6 : s = 6
      · simp only [if_pos s6] at go
        have hs7 : nI (s + 1) = nI 7 := by rw [s6]
        simp (disch := omega) only [e_const, e_lconst, e_il, e_ll, e_al, z_is, z_as, z_ls, z_inc, e_bin, e_div, e_un, e_lbin, e_ldiv, e_lcmp, e_i2l, e_l2i, e_if1, e_if2, z_go, e_sw, e_dupi, e_dupr, e_dup2, e_popi, e_popr, e_get, e_put, e_iald, e_iast, e_zald, e_zast, e_aald, e_aast, e_sld, e_slen, e_newa, e_newq, e_mna, e_new, e_oi, e_cs, e_cv, e_ci, e_min, e_max, e_copy, e_rv, e_ri, e_rz, e_rl, z_run, sx_en, sx_cat, sx_tk, sx_ps, sx_set, sx_setl, sx_dl, sx_m, sx_sw, sx_ft, List.map_cons, List.map_nil, List.getElem?_cons_zero, List.getElem?_cons_succ, List.replicate_succ, List.replicate_zero, List.set_cons_zero, List.set_cons_succ, List.length_cons, List.length_nil, Nat.reduceAdd, Nat.reduceSub, Nat.reduceLeDiff, Nat.reduceLT, Nat.reduceMul, Nat.zero_le, Nat.le_refl, Nat.add_zero, Nat.zero_add, true_and, and_true, true_or, tX6_read_50, bX6_read_50, e1, a1, hs7, q_up_s, q_up_n, q_up_up, q_upd_s, q_upd_n, q_upd_upd, q_in, q_in0, q_in1, q_cl, q_cl0, q_cl1, q_add, q_add1, q_1add, q_add0, q_0add, q_mul, q_ite0, q_ite01, q_10, or_true, not_false_eq_true, not_true_eq_false, q_n0, ne_eq, false_implies, true_implies, true_and, and_true, not_true_eq_false, not_false_eq_true, Bool.false_eq_true, sx_o, Sum.inr.injEq, Prod.mk.injEq, exists_eq', Nat.reduceLT]
        refine go _ ?_ (fun j j1 => ?_)
        · rw [q_up_s, ← nI_0]
        · exact q_up_n j1
      · simp only [if_neg s6] at go
        have hs7 : (nI (s + 1) = nI 7) = False := eq_false (by rw [nI_eqn (by omega) (by omega)]; omega)
        simp (disch := omega) only [e_const, e_lconst, e_il, e_ll, e_al, z_is, z_as, z_ls, z_inc, e_bin, e_div, e_un, e_lbin, e_ldiv, e_lcmp, e_i2l, e_l2i, e_if1, e_if2, z_go, e_sw, e_dupi, e_dupr, e_dup2, e_popi, e_popr, e_get, e_put, e_iald, e_iast, e_zald, e_zast, e_aald, e_aast, e_sld, e_slen, e_newa, e_newq, e_mna, e_new, e_oi, e_cs, e_cv, e_ci, e_min, e_max, e_copy, e_rv, e_ri, e_rz, e_rl, z_run, sx_en, sx_cat, sx_tk, sx_ps, sx_set, sx_setl, sx_dl, sx_m, sx_sw, sx_ft, List.map_cons, List.map_nil, List.getElem?_cons_zero, List.getElem?_cons_succ, List.replicate_succ, List.replicate_zero, List.set_cons_zero, List.set_cons_succ, List.length_cons, List.length_nil, Nat.reduceAdd, Nat.reduceSub, Nat.reduceLeDiff, Nat.reduceLT, Nat.reduceMul, Nat.zero_le, Nat.le_refl, Nat.add_zero, Nat.zero_add, true_and, and_true, true_or, tX6_read_50, bX6_read_50, e1, a1, hs7, q_up_s, q_up_n, q_up_up, q_upd_s, q_upd_n, q_upd_upd, q_in, q_in0, q_in1, q_cl, q_cl0, q_cl1, q_add, q_add1, q_1add, q_add0, q_0add, q_mul, q_ite0, q_ite01, q_10, or_true, not_false_eq_true, not_true_eq_false, q_n0, ne_eq, false_implies, true_implies, true_and, and_true, not_true_eq_false, not_false_eq_true, Bool.false_eq_true, sx_o, Sum.inr.injEq, Prod.mk.injEq, exists_eq', Nat.reduceLT]
        refine go _ ?_ (fun j j1 => ?_)
        · exact q_up_s _ _ _
        · exact q_up_n j1
    · have e : p_M T tp (k + 1 + 1) s pt q row = p_tok T tp s pt q row := by
        rw [p_M, if_neg (fun y => by omega), if_neg z]
      rw [e] at hR
      exact hR h' s pt e1 ⟨_, e2, tz, fun _ => rfl⟩ e3
end TF
