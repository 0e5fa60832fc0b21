/-! the reference's week, from its loops -/
set_option maxRecDepth 100000 in
set_option maxHeartbeats 4000000 in
theorem takes_stop {c : Nat} {f : Nat → Int32} (h : WC c f) : ∀ k, c + k ≤ 6 → p_takes f (c + k) = p_takes f c := by
  intro k
  induction k with
  | zero => intro _; rfl
  | succ k ih =>
    intro hk
    have a := (takes_all h (c + k) (by omega)).1
    rw [show c + (k + 1) = (c + k) + 1 by omega, p_takes, if_neg (fun q => by have := cmb_c a (by omega) q; omega)]
    exact ih (by omega)
set_option maxRecDepth 100000 in
set_option maxHeartbeats 4000000 in
theorem pays_stop {c : Nat} {f : Nat → Int32} (h : WC c f) : ∀ k, c + k ≤ 6 → p_pays f (c + k) = p_pays f c := by
  intro k
  induction k with
  | zero => intro _; rfl
  | succ k ih =>
    intro hk
    have a := (pays_all h (c + k) (by omega)).1
    rw [show c + (k + 1) = (c + k) + 1 by omega, p_pays, if_neg (fun q => by have := cmb_c a (by omega) q; omega)]
    exact ih (by omega)
set_option maxRecDepth 100000 in
set_option maxHeartbeats 4000000 in
theorem out_cmb {c d : Nat} {f : Nat → Int32} (h : WC c f) (hd : d < c) : (f (24 + d) = 1 ∨ f (30 + d) = 1) ↔ ¬ cmb f d = true := by
  have h6 : d < 6 := by have := h.1; omega
  obtain ⟨-, -, -, -, k5, k6, -⟩ := h.2.2.1 d h6
  unfold cmb
  rw [decide_eq_true_eq, h.2.1, nI_toInt (by have := h.1; omega)]
  constructor
  · rintro (q | q) ⟨-, q2, q3⟩
    · rw [q] at q3; exact absurd q3 (by decide +kernel)
    · rw [q] at q2; exact absurd q2 (by decide +kernel)
  · intro q
    rcases k5 with k5 | k5
    · rcases k6 with k6 | k6
      · exact absurd ⟨by omega, k6, k5⟩ q
      · exact Or.inr k6
    · exact Or.inl k5
section MW2
variable {a n : Nat} {Q : sx_Q}
set_option maxRecDepth 100000 in
set_option maxHeartbeats 4000000 in
theorem s_week_lp1 {c : Nat} {f : Nat → Int32} {Rt : sx_R} (hc : WC c f) (h57 : f 57 = 0) (han : a < n) : ∀ (k i : Nat) (h : sx_H), i + k = c → h a = sx_ai 64 (toM (p_takes f i) 0) → (∀ h', h' a = sx_ai 64 (toM (p_takes f 6) 0) → (∀ e, sx_up h' a e = sx_up h a e) → sx_T BX8_week sx_Cal Rt 40 [some (sx_r (some a)), none] [] n h' 0 0) → sx_T BX8_week sx_Cal Rt 7 [some (sx_r (some a)), some (sx_i (nI i))] [] n h 0 0 := by
  have hc6 := hc.1
  intro k
  induction k with
  | zero =>
    intro i h hi hq hk
    have hi : i = c := by omega
    subst hi
    obtain ⟨b1, b2, -⟩ := takes_all hc i (by omega)
    rw [tX8_week_7]
    simp (disch := omega) only [e_const, e_lconst, e_il, e_ll, e_al, e_is, e_as, e_ls, e_inc, e_bin, e_div, e_un, e_lbin, e_ldiv, e_lcmp, e_i2l, e_l2i, e_if1, e_if2, e_go, e_sw, e_dupi, e_dupr, e_dup2, e_popi, e_popr, e_get, e_put, e_iald, e_iast, e_zald, e_zast, e_aald, e_aast, e_sld, e_slen, e_newa, e_newq, e_mna, e_new, e_oi, e_cs, e_cv, e_ci, e_min, e_max, e_copy, e_rv, e_ri, e_rz, e_rl, e_run, sx_en, sx_cat, sx_tk, sx_ps, sx_set, sx_setl, sx_dl, sx_m, sx_sw, sx_ft, List.map_cons, List.map_nil, List.getElem?_cons_zero, List.getElem?_cons_succ, List.replicate_succ, List.replicate_zero, List.set_cons_zero, List.set_cons_succ, List.length_cons, List.length_nil, Nat.reduceAdd, Nat.reduceSub, Nat.reduceLeDiff, Nat.reduceLT, Nat.reduceMul, Nat.zero_le, Nat.le_refl, Nat.add_zero, Nat.zero_add, true_and, and_true, true_or, bX8_week_7, hq, q_up_s, q_up_n, q_up_up, q_upd_s, q_upd_n, q_upd_upd, q_in, q_in0, q_in1, q_cl, q_cl0, q_cl1, q_add, q_add1, q_1add, q_add0, q_0add, q_mul, q_ite0, q_ite01, q_10, or_true, not_false_eq_true, not_true_eq_false, q_n0, ne_eq, m_r0, m_r1, m_r2, m_r3, m_r4, m_r5, m_r6, m_r7, m_r8, m_u0, m_u1, m_u2, m_u3, m_u4, m_u5, m_u6, m_u7, m_u8, m_s1, m_s2, m_s3, m_s4, m_s5, m_s6, m_s7, m_s8, m_s9, m_w1, m_w2, m_w3, m_w5, m_w6, m_w7, m_w8, m_w9, han, b1.2.1, q_le, q_ti]
    refine ⟨fun _ => hk h ?_ (fun _ => rfl), fun z => absurd (Int.le_refl _) z⟩
    have := takes_stop hc (6 - i) (by omega)
    rw [show i + (6 - i) = 6 by omega] at this
    rw [this]; exact hq
  | succ k ih =>
    intro i h hi hq hk
    have hi6 : i < 6 := by omega
    obtain ⟨b1, b2, -⟩ := takes_all hc i (by omega)
    have e57 : p_takes f i 57 = 0 := by rw [b2 57 (by omega) (by omega), h57]
    have ho := out_cmb b1 (d := i) (by omega)
    rw [tX8_week_7]
    simp (disch := omega) only [e_const, e_lconst, e_il, e_ll, e_al, e_is, e_as, e_ls, e_inc, e_bin, e_div, e_un, e_lbin, e_ldiv, e_lcmp, e_i2l, e_l2i, e_if1, e_if2, e_go, e_sw, e_dupi, e_dupr, e_dup2, e_popi, e_popr, e_get, e_put, e_iald, e_iast, e_zald, e_zast, e_aald, e_aast, e_sld, e_slen, e_newa, e_newq, e_mna, e_new, e_oi, e_cs, e_cv, e_ci, e_min, e_max, e_copy, e_rv, e_ri, e_rz, e_rl, e_run, sx_en, sx_cat, sx_tk, sx_ps, sx_set, sx_setl, sx_dl, sx_m, sx_sw, sx_ft, List.map_cons, List.map_nil, List.getElem?_cons_zero, List.getElem?_cons_succ, List.replicate_succ, List.replicate_zero, List.set_cons_zero, List.set_cons_succ, List.length_cons, List.length_nil, Nat.reduceAdd, Nat.reduceSub, Nat.reduceLeDiff, Nat.reduceLT, Nat.reduceMul, Nat.zero_le, Nat.le_refl, Nat.add_zero, Nat.zero_add, true_and, and_true, true_or, bX8_week_7, tX8_week_34, bX8_week_34, s_isOut hq han hi6, s_takesM hq han hi6, hq, q_up_s, q_up_n, q_up_up, q_upd_s, q_upd_n, q_upd_upd, q_in, q_in0, q_in1, q_cl, q_cl0, q_cl1, q_add, q_add1, q_1add, q_add0, q_0add, q_mul, q_ite0, q_ite01, q_10, or_true, not_false_eq_true, not_true_eq_false, q_n0, ne_eq, m_r0, m_r1, m_r2, m_r3, m_r4, m_r5, m_r6, m_r7, m_r8, m_u0, m_u1, m_u2, m_u3, m_u4, m_u5, m_u6, m_u7, m_u8, m_s1, m_s2, m_s3, m_s4, m_s5, m_s6, m_s7, m_s8, m_s9, m_w1, m_w2, m_w3, m_w5, m_w6, m_w7, m_w8, m_w9, han, b1.2.1, e57, q_le, q_ti]
    refine ⟨fun z => absurd z (by omega), fun _ => ⟨fun z => z.elim, fun _ => ⟨fun z => ?_, fun z => ?_⟩⟩⟩
    · refine ih (i + 1) h (by omega) ?_ hk
      rw [p_takes, if_neg (ho.mp (Classical.not_not.mp z))]; exact hq
    · refine ih (i + 1) _ (by omega) ?_ (fun h' h1 h2 => hk h' h1 (fun e => by rw [h2, q_up_up]))
      have e : cmb (p_takes f i) i = true := by
        by_cases q : cmb (p_takes f i) i = true
        · exact q
        · exact absurd (ho.mpr q) (Classical.not_not.mp z)
      rw [q_up_s, p_takes, if_pos e]
set_option maxRecDepth 100000 in
set_option maxHeartbeats 4000000 in
theorem s_week_lp2 {c : Nat} {f : Nat → Int32} {Rt : sx_R} (hc : WC c f) (h56 : f 56 = 0) (han : a < n) : ∀ (k i : Nat) (h : sx_H), i + k = c → h a = sx_ai 64 (toM (p_pays f i).1 (p_pays f i).2) → (∀ h', h' a = sx_ai 64 (toM (p_pays f 6).1 (p_pays f 6).2) → (∀ e, sx_up h' a e = sx_up h a e) → sx_T BX8_week sx_Cal Rt 75 [some (sx_r (some a)), none] [] n h' 0 0) → sx_T BX8_week sx_Cal Rt 42 [some (sx_r (some a)), some (sx_i (nI i))] [] n h 0 0 := by
  have hc6 := hc.1
  intro k
  induction k with
  | zero =>
    intro i h hi hq hk
    have hi : i = c := by omega
    subst hi
    obtain ⟨b1, b2, -⟩ := pays_all hc i (by omega)
    rw [tX8_week_42]
    simp (disch := omega) only [e_const, e_lconst, e_il, e_ll, e_al, e_is, e_as, e_ls, e_inc, e_bin, e_div, e_un, e_lbin, e_ldiv, e_lcmp, e_i2l, e_l2i, e_if1, e_if2, e_go, e_sw, e_dupi, e_dupr, e_dup2, e_popi, e_popr, e_get, e_put, e_iald, e_iast, e_zald, e_zast, e_aald, e_aast, e_sld, e_slen, e_newa, e_newq, e_mna, e_new, e_oi, e_cs, e_cv, e_ci, e_min, e_max, e_copy, e_rv, e_ri, e_rz, e_rl, e_run, sx_en, sx_cat, sx_tk, sx_ps, sx_set, sx_setl, sx_dl, sx_m, sx_sw, sx_ft, List.map_cons, List.map_nil, List.getElem?_cons_zero, List.getElem?_cons_succ, List.replicate_succ, List.replicate_zero, List.set_cons_zero, List.set_cons_succ, List.length_cons, List.length_nil, Nat.reduceAdd, Nat.reduceSub, Nat.reduceLeDiff, Nat.reduceLT, Nat.reduceMul, Nat.zero_le, Nat.le_refl, Nat.add_zero, Nat.zero_add, true_and, and_true, true_or, bX8_week_42, hq, q_up_s, q_up_n, q_up_up, q_upd_s, q_upd_n, q_upd_upd, q_in, q_in0, q_in1, q_cl, q_cl0, q_cl1, q_add, q_add1, q_1add, q_add0, q_0add, q_mul, q_ite0, q_ite01, q_10, or_true, not_false_eq_true, not_true_eq_false, q_n0, ne_eq, m_r0, m_r1, m_r2, m_r3, m_r4, m_r5, m_r6, m_r7, m_r8, m_u0, m_u1, m_u2, m_u3, m_u4, m_u5, m_u6, m_u7, m_u8, m_s1, m_s2, m_s3, m_s4, m_s5, m_s6, m_s7, m_s8, m_s9, m_w1, m_w2, m_w3, m_w5, m_w6, m_w7, m_w8, m_w9, han, b1.2.1, q_le, q_ti]
    refine ⟨fun _ => hk h ?_ (fun _ => rfl), fun z => absurd (Int.le_refl _) z⟩
    have := pays_stop hc (6 - i) (by omega)
    rw [show i + (6 - i) = 6 by omega] at this
    rw [this]; exact hq
  | succ k ih =>
    intro i h hi hq hk
    have hi6 : i < 6 := by omega
    have hic : i < c := by omega
    obtain ⟨b1, b2, -⟩ := pays_all hc i (by omega)
    have e56 : (p_pays f i).1 56 = 0 := by rw [b2 56 (by omega), h56]
    have ho := out_cmb b1 (d := i) (by omega)
    obtain ⟨w1, -, -, -, -, -, w7, -⟩ := b1.2.2.1 i hi6
    rw [tX8_week_42]
    simp (disch := omega) only [e_const, e_lconst, e_il, e_ll, e_al, e_is, e_as, e_ls, e_inc, e_bin, e_div, e_un, e_lbin, e_ldiv, e_lcmp, e_i2l, e_l2i, e_if1, e_if2, e_go, e_sw, e_dupi, e_dupr, e_dup2, e_popi, e_popr, e_get, e_put, e_iald, e_iast, e_zald, e_zast, e_aald, e_aast, e_sld, e_slen, e_newa, e_newq, e_mna, e_new, e_oi, e_cs, e_cv, e_ci, e_min, e_max, e_copy, e_rv, e_ri, e_rz, e_rl, e_run, sx_en, sx_cat, sx_tk, sx_ps, sx_set, sx_setl, sx_dl, sx_m, sx_sw, sx_ft, List.map_cons, List.map_nil, List.getElem?_cons_zero, List.getElem?_cons_succ, List.replicate_succ, List.replicate_zero, List.set_cons_zero, List.set_cons_succ, List.length_cons, List.length_nil, Nat.reduceAdd, Nat.reduceSub, Nat.reduceLeDiff, Nat.reduceLT, Nat.reduceMul, Nat.zero_le, Nat.le_refl, Nat.add_zero, Nat.zero_add, true_and, and_true, true_or, bX8_week_42, tX8_week_69, bX8_week_69, s_isOut hq han hi6, s_payOneM hq han hi6 (w7 hic) w1.1, hq, q_up_s, q_up_n, q_up_up, q_upd_s, q_upd_n, q_upd_upd, q_in, q_in0, q_in1, q_cl, q_cl0, q_cl1, q_add, q_add1, q_1add, q_add0, q_0add, q_mul, q_ite0, q_ite01, q_10, or_true, not_false_eq_true, not_true_eq_false, q_n0, ne_eq, m_r0, m_r1, m_r2, m_r3, m_r4, m_r5, m_r6, m_r7, m_r8, m_u0, m_u1, m_u2, m_u3, m_u4, m_u5, m_u6, m_u7, m_u8, m_s1, m_s2, m_s3, m_s4, m_s5, m_s6, m_s7, m_s8, m_s9, m_w1, m_w2, m_w3, m_w5, m_w6, m_w7, m_w8, m_w9, han, b1.2.1, e56, q_le, q_ti]
    refine ⟨fun z => absurd z (by omega), fun _ => ⟨fun z => z.elim, fun _ => ⟨fun z => ?_, fun z => ?_⟩⟩⟩
    · refine ih (i + 1) h (by omega) ?_ hk
      rw [p_pays, if_neg (ho.mp (Classical.not_not.mp z))]; exact hq
    · refine ih (i + 1) _ (by omega) ?_ (fun h' h1 h2 => hk h' h1 (fun e => by rw [h2, q_up_up]))
      have e : cmb (p_pays f i).1 i = true := by
        by_cases q : cmb (p_pays f i).1 i = true
        · exact q
        · exact absurd (ho.mpr q) (Classical.not_not.mp z)
      have e2 : p_pays f (i + 1) = (if p_off (p_pays f i).1 i then (upd (p_pays f i).1 (24 + i) 1, (p_pays f i).2) else (p_pay (p_pays f i).1 i, (p_pays f i).2 + p_pb (p_pays f i).1 i)) := by rw [p_pays, if_pos e]
      rw [q_up_s, e2]
      by_cases q : p_off (p_pays f i).1 i = true
      · rw [if_pos q, if_pos q]
      · rw [if_neg q, if_neg q]
set_option maxRecDepth 100000 in
set_option maxHeartbeats 4000000 in
theorem s_weekM {W : Nat} {f : Nat → Int32} {cm0 : Int32} {h : sx_H} (hB : WB W f) (hW : W ≤ 3000) (h58 : ¬ f 58 = 0) (hq : h a = sx_ai 64 (toM f cm0)) (han : a < n) (hQ : Q none n (sx_up h a (sx_ai 64 (toM (p_wk f).1 (p_wk f).2)))) : sx_Cal 153 [sx_r (some a)] n h Q := by
  obtain ⟨c, w, hw, hc, he⟩ := WB_iff.mp hB
  obtain ⟨a3, e61, b3, d3, y, z, hy, hz, e55, e54⟩ := w3_all hc he (by omega)
  obtain ⟨h61, h55, h54, h5, h56, h57, hs, h60⟩ := he
  have hc0 : 0 < c := by
    rcases Nat.eq_zero_or_pos c with q | q
    · subst q; exact absurd (by rw [hc.2.1, nI_0]) h58
    · exact q
  obtain ⟨a1, b1, -⟩ := w1_all hc
  have hc6 := hc.1
  simp (disch := omega) only [e_const, e_lconst, e_il, e_ll, e_al, e_is, e_as, e_ls, e_inc, e_bin, e_div, e_un, e_lbin, e_ldiv, e_lcmp, e_i2l, e_l2i, e_if1, e_if2, e_go, e_sw, e_dupi, e_dupr, e_dup2, e_popi, e_popr, e_get, e_put, e_iald, e_iast, e_zald, e_zast, e_aald, e_aast, e_sld, e_slen, e_newa, e_newq, e_mna, e_new, e_oi, e_cs, e_cv, e_ci, e_min, e_max, e_copy, e_rv, e_ri, e_rz, e_rl, e_run, sx_en, sx_cat, sx_tk, sx_ps, sx_set, sx_setl, sx_dl, sx_m, sx_sw, sx_ft, List.map_cons, List.map_nil, List.getElem?_cons_zero, List.getElem?_cons_succ, List.replicate_succ, List.replicate_zero, List.set_cons_zero, List.set_cons_succ, List.length_cons, List.length_nil, Nat.reduceAdd, Nat.reduceSub, Nat.reduceLeDiff, Nat.reduceLT, Nat.reduceMul, Nat.zero_le, Nat.le_refl, Nat.add_zero, Nat.zero_add, true_and, and_true, true_or, cX8_week_c, tX8_week_0, bX8_week_0, q_up_s, q_up_n, q_up_up, q_upd_s, q_upd_n, q_upd_upd, q_in, q_in0, q_in1, q_cl, q_cl0, q_cl1, q_add, q_add1, q_1add, q_add0, q_0add, q_mul, q_ite0, q_ite01, q_10, or_true, not_false_eq_true, not_true_eq_false, q_n0, ne_eq, m_r0, m_r1, m_r2, m_r3, m_r4, m_r5, m_r6, m_r7, m_r8, m_u0, m_u1, m_u2, m_u3, m_u4, m_u5, m_u6, m_u7, m_u8, m_s1, m_s2, m_s3, m_s4, m_s5, m_s6, m_s7, m_s8, m_s9, m_w1, m_w2, m_w3, m_w5, m_w6, m_w7, m_w8, m_w9, hq, han]
  generalize hRt : (fun (r : Option sx_V) (n' : Nat) (h' : sx_H) (kc ks : Nat) => Q r n' h' ∧ kc ≤ 0 ∧ ks ≤ 0) = Rt
  -- the end, from 92 on
  have k144 : ∀ h1 : sx_H, h1 a = sx_ai 64 (toM (p_wk f).1 (p_wk f).2) → (∀ e, sx_up h1 a e = sx_up h a e) → sx_T BX8_week sx_Cal Rt 144 [none, none] [] n h1 0 0 := by
    intro h1 hq1 hu1
    simp only [e_const, e_lconst, e_il, e_ll, e_al, e_is, e_as, e_ls, e_inc, e_bin, e_div, e_un, e_lbin, e_ldiv, e_lcmp, e_i2l, e_l2i, e_if1, e_if2, e_go, e_sw, e_dupi, e_dupr, e_dup2, e_popi, e_popr, e_get, e_put, e_iald, e_iast, e_zald, e_zast, e_aald, e_aast, e_sld, e_slen, e_newa, e_newq, e_mna, e_new, e_oi, e_cs, e_cv, e_ci, e_min, e_max, e_copy, e_rv, e_ri, e_rz, e_rl, e_run, sx_en, sx_cat, sx_tk, sx_ps, sx_set, sx_setl, sx_dl, sx_m, sx_sw, sx_ft, List.map_cons, List.map_nil, List.getElem?_cons_zero, List.getElem?_cons_succ, List.replicate_succ, List.replicate_zero, List.set_cons_zero, List.set_cons_succ, List.length_cons, List.length_nil, Nat.reduceAdd, Nat.reduceSub, Nat.reduceLeDiff, Nat.reduceLT, Nat.reduceMul, Nat.zero_le, Nat.le_refl, Nat.add_zero, Nat.zero_add, true_and, and_true, true_or, tX8_week_144, bX8_week_144, ← hRt]
    rw [← hu1, q_up_id hq1] at hQ
    exact hQ
  have k75 : ∀ h1 : sx_H, h1 a = sx_ai 64 (toM (p_w2 (p_w1 f)).1 (p_w2 (p_w1 f)).2) → (∀ e, sx_up h1 a e = sx_up h a e) → sx_T BX8_week sx_Cal Rt 92 [some (sx_r (some a)), none] [sx_i 0, sx_i ((p_w2 (p_w1 f)).1 56), sx_i (nI 7), sx_r (some a)] n h1 0 0 := by
    intro h1 hq1 hu1
    have hg : (p_wk f) = (p_w4 (p_w3 (upd (p_w2 (p_w1 f)).1 61 ((p_w2 (p_w1 f)).1 61 + 1))), (p_w2 (p_w1 f)).2) := rfl
    have hi : upd (p_w2 (p_w1 f)).1 56 ((p_w2 (p_w1 f)).1 56) = (p_w2 (p_w1 f)).1 := q_upd_id rfl
    rw [hg] at k144
    have e60 := b3 60 (by omega) (by omega)
    have e57 := b3 57 (by omega) (by omega)
    have h60' := h60 hc0
    generalize (p_w2 (p_w1 f)).2 = cc at hq1 k144 ⊢
    generalize (p_w2 (p_w1 f)).1 = g0 at hq1 k144 hi a3 e61 b3 d3 e55 e54 e60 e57 ⊢
    have g60 : g0 60 = f 60 := by rw [← e60]; exact (q_upd_n (by decide)).symm
    have g57 : g0 57 = f 57 := by rw [← e57]; exact (q_upd_n (by decide)).symm
    have g54 : upd g0 61 (g0 61 + 1) 54 = g0 54 := q_upd_n (by decide)
    have g55 : upd g0 61 (g0 61 + 1) 55 = g0 55 := q_upd_n (by decide)
    have ge : upd g0 61 (g0 61 + 1) 60 = g0 60 := q_upd_n (by decide)
    have gs : upd g0 61 (g0 61 + 1) 57 = g0 57 := q_upd_n (by decide)
    have ww : upd g0 61 (g0 61 + 1) 61 = g0 61 + 1 := q_upd_s _ _ _
    have ne0 : (g0 60 = 0) = False := eq_false (fun q => by rw [g60] at q; rw [q, q_ti0] at h60'; omega)
    have gpos : ¬ (g0 60).toInt ≤ 0 := by rw [g60]; omega
    simp (disch := omega) only [e_const, e_lconst, e_il, e_ll, e_al, e_is, e_as, e_ls, e_inc, e_bin, e_div, e_un, e_lbin, e_ldiv, e_lcmp, e_i2l, e_l2i, e_if1, e_if2, e_go, e_sw, e_dupi, e_dupr, e_dup2, e_popi, e_popr, e_get, e_put, e_iald, e_iast, e_zald, e_zast, e_aald, e_aast, e_sld, e_slen, e_newa, e_newq, e_mna, e_new, e_oi, e_cs, e_cv, e_ci, e_min, e_max, e_copy, e_rv, e_ri, e_rz, e_rl, e_run, sx_en, sx_cat, sx_tk, sx_ps, sx_set, sx_setl, sx_dl, sx_m, sx_sw, sx_ft, List.map_cons, List.map_nil, List.getElem?_cons_zero, List.getElem?_cons_succ, List.replicate_succ, List.replicate_zero, List.set_cons_zero, List.set_cons_succ, List.length_cons, List.length_nil, Nat.reduceAdd, Nat.reduceSub, Nat.reduceLeDiff, Nat.reduceLT, Nat.reduceMul, Nat.zero_le, Nat.le_refl, Nat.add_zero, Nat.zero_add, true_and, and_true, true_or, tX8_week_92, bX8_week_92, tX8_week_139, bX8_week_139, tX8_week_143, bX8_week_143, hq1, q_up_s, q_up_n, q_up_up, q_upd_s, q_upd_n, q_upd_upd, q_in, q_in0, q_in1, q_cl, q_cl0, q_cl1, q_add, q_add1, q_1add, q_add0, q_0add, q_mul, q_ite0, q_ite01, q_10, or_true, not_false_eq_true, not_true_eq_false, q_n0, ne_eq, m_r0, m_r1, m_r2, m_r3, m_r4, m_r5, m_r6, m_r7, m_r8, m_u0, m_u1, m_u2, m_u3, m_u4, m_u5, m_u6, m_u7, m_u8, m_s1, m_s2, m_s3, m_s4, m_s5, m_s6, m_s7, m_s8, m_s9, m_w1, m_w2, m_w3, m_w5, m_w6, m_w7, m_w8, m_w9, han, q_sub0, hi, ne0, q_le, q_ti0]
    refine ⟨fun q => ?_, fun q => ⟨fun r => ?_, fun r => ?_⟩⟩
    · refine k144 _ ?_ (fun e => by rw [q_up_up, hu1])
      rw [q_up_s]
      have e3 : p_w3 (upd g0 61 (g0 61 + 1)) = upd g0 61 (g0 61 + 1) := by
        simp only [p_w3, ww, ge]; rw [if_neg (fun r => q r.2)]
      dsimp only
      rw [e3]
      unfold p_w4
      split
      · rfl
      · rename_i r
        have : f 57 = 1 := by
          rcases h57 with t | t
          · exact absurd (hs t) (by omega)
          · exact t
        rw [q_upd_id (f := upd g0 61 (g0 61 + 1)) (k := 57) (by rw [gs, g57, this])]
    · refine k144 _ ?_ (fun e => by rw [q_up_up, hu1])
      rw [q_up_s]
      have e3 : p_w3 (upd g0 61 (g0 61 + 1)) = upd (upd (upd g0 61 (g0 61 + 1)) 54 (g0 54 - g0 55)) 55 0 := by
        simp only [p_w3, ww, ge, g54, g55]; rw [if_pos ⟨gpos, by simpa using q⟩]
      dsimp only
      rw [e3]
      unfold p_w4
      rw [if_pos (by rw [q_upd_n (by decide), q_upd_s]; exact r), q_upd_id (f := upd (upd (upd g0 61 (g0 61 + 1)) 54 (g0 54 - g0 55)) 55 0) (k := 57) (by rw [q_upd_n (by decide), q_upd_n (by decide), gs])]
    · refine k144 _ ?_ (fun e => by rw [q_up_up, hu1])
      rw [q_up_s]
      have e3 : p_w3 (upd g0 61 (g0 61 + 1)) = upd (upd (upd g0 61 (g0 61 + 1)) 54 (g0 54 - g0 55)) 55 0 := by
        simp only [p_w3, ww, ge, g54, g55]; rw [if_pos ⟨gpos, by simpa using q⟩]
      dsimp only
      rw [e3]
      unfold p_w4
      rw [if_neg (by rw [q_upd_n (by decide), q_upd_s]; exact r)]
  -- from 40 on
  have k40 : ∀ h1 : sx_H, h1 a = sx_ai 64 (toM (p_w1 f) 0) → (∀ e, sx_up h1 a e = sx_up h a e) → sx_T BX8_week sx_Cal Rt 40 [some (sx_r (some a)), none] [] n h1 0 0 := by
    intro h1 hq1 hu1
    have s56 : p_w1 f 56 = f 56 := b1 56 (by omega) (by omega)
    simp (disch := omega) only [e_const, e_lconst, e_il, e_ll, e_al, e_is, e_as, e_ls, e_inc, e_bin, e_div, e_un, e_lbin, e_ldiv, e_lcmp, e_i2l, e_l2i, e_if1, e_if2, e_go, e_sw, e_dupi, e_dupr, e_dup2, e_popi, e_popr, e_get, e_put, e_iald, e_iast, e_zald, e_zast, e_aald, e_aast, e_sld, e_slen, e_newa, e_newq, e_mna, e_new, e_oi, e_cs, e_cv, e_ci, e_min, e_max, e_copy, e_rv, e_ri, e_rz, e_rl, e_run, sx_en, sx_cat, sx_tk, sx_ps, sx_set, sx_setl, sx_dl, sx_m, sx_sw, sx_ft, List.map_cons, List.map_nil, List.getElem?_cons_zero, List.getElem?_cons_succ, List.replicate_succ, List.replicate_zero, List.set_cons_zero, List.set_cons_succ, List.length_cons, List.length_nil, Nat.reduceAdd, Nat.reduceSub, Nat.reduceLeDiff, Nat.reduceLT, Nat.reduceMul, Nat.zero_le, Nat.le_refl, Nat.add_zero, Nat.zero_add, true_and, and_true, true_or, tX8_week_40, bX8_week_40, q_up_s, q_up_n, q_up_up, q_upd_s, q_upd_n, q_upd_upd, q_in, q_in0, q_in1, q_cl, q_cl0, q_cl1, q_add, q_add1, q_1add, q_add0, q_0add, q_mul, q_ite0, q_ite01, q_10, or_true, not_false_eq_true, not_true_eq_false, q_n0, ne_eq]
    by_cases q0 : f 56 = 0
    · have e2 : p_w2 (p_w1 f) = p_pays (p_w1 f) 6 := by unfold p_w2; rw [if_pos (by rw [s56, q0, q_ti0]; omega)]
      have := s_week_lp2 (Rt := Rt) a1 (by rw [s56, q0]) han c 0 h1 (by omega) hq1 (fun h' g1 g2 => by
        have p56 : (p_pays (p_w1 f) 6).1 56 = 0 := by rw [(pays_all a1 6 (by omega)).2.1 56 (by omega), s56, q0]
        simp (disch := omega) only [e_const, e_lconst, e_il, e_ll, e_al, e_is, e_as, e_ls, e_inc, e_bin, e_div, e_un, e_lbin, e_ldiv, e_lcmp, e_i2l, e_l2i, e_if1, e_if2, e_go, e_sw, e_dupi, e_dupr, e_dup2, e_popi, e_popr, e_get, e_put, e_iald, e_iast, e_zald, e_zast, e_aald, e_aast, e_sld, e_slen, e_newa, e_newq, e_mna, e_new, e_oi, e_cs, e_cv, e_ci, e_min, e_max, e_copy, e_rv, e_ri, e_rz, e_rl, e_run, sx_en, sx_cat, sx_tk, sx_ps, sx_set, sx_setl, sx_dl, sx_m, sx_sw, sx_ft, List.map_cons, List.map_nil, List.getElem?_cons_zero, List.getElem?_cons_succ, List.replicate_succ, List.replicate_zero, List.set_cons_zero, List.set_cons_succ, List.length_cons, List.length_nil, Nat.reduceAdd, Nat.reduceSub, Nat.reduceLeDiff, Nat.reduceLT, Nat.reduceMul, Nat.zero_le, Nat.le_refl, Nat.add_zero, Nat.zero_add, true_and, and_true, true_or, tX8_week_75, bX8_week_75, tX8_week_91, bX8_week_91, g1, q_up_s, q_up_n, q_up_up, q_upd_s, q_upd_n, q_upd_upd, q_in, q_in0, q_in1, q_cl, q_cl0, q_cl1, q_add, q_add1, q_1add, q_add0, q_0add, q_mul, q_ite0, q_ite01, q_10, or_true, not_false_eq_true, not_true_eq_false, q_n0, ne_eq, m_r0, m_r1, m_r2, m_r3, m_r4, m_r5, m_r6, m_r7, m_r8, m_u0, m_u1, m_u2, m_u3, m_u4, m_u5, m_u6, m_u7, m_u8, m_s1, m_s2, m_s3, m_s4, m_s5, m_s6, m_s7, m_s8, m_s9, m_w1, m_w2, m_w3, m_w5, m_w6, m_w7, m_w8, m_w9, han, p56, q_le, q_ti0]
        have k := k75 h' (by rw [e2]; exact g1) (fun e => by rw [g2, hu1])
        rw [e2, p56] at k
        exact ⟨fun _ => k, fun z => absurd (Int.le_refl 0) z⟩)
      rw [nI_0] at this
      exact this
    · have hpos : ¬ (f 56).toInt ≤ 0 := fun q => q0 (Int32.toInt_inj.mp (by rw [q_ti0]; omega))
      have e2 : p_w2 (p_w1 f) = (upd (p_w1 f) 56 (p_w1 f 56 - 1), 0) := by unfold p_w2; rw [if_neg (by rw [s56]; exact hpos)]
      rw [tX8_week_42]
      simp (disch := omega) only [e_const, e_lconst, e_il, e_ll, e_al, e_is, e_as, e_ls, e_inc, e_bin, e_div, e_un, e_lbin, e_ldiv, e_lcmp, e_i2l, e_l2i, e_if1, e_if2, e_go, e_sw, e_dupi, e_dupr, e_dup2, e_popi, e_popr, e_get, e_put, e_iald, e_iast, e_zald, e_zast, e_aald, e_aast, e_sld, e_slen, e_newa, e_newq, e_mna, e_new, e_oi, e_cs, e_cv, e_ci, e_min, e_max, e_copy, e_rv, e_ri, e_rz, e_rl, e_run, sx_en, sx_cat, sx_tk, sx_ps, sx_set, sx_setl, sx_dl, sx_m, sx_sw, sx_ft, List.map_cons, List.map_nil, List.getElem?_cons_zero, List.getElem?_cons_succ, List.replicate_succ, List.replicate_zero, List.set_cons_zero, List.set_cons_succ, List.length_cons, List.length_nil, Nat.reduceAdd, Nat.reduceSub, Nat.reduceLeDiff, Nat.reduceLT, Nat.reduceMul, Nat.zero_le, Nat.le_refl, Nat.add_zero, Nat.zero_add, true_and, and_true, true_or, bX8_week_42, tX8_week_75, bX8_week_75, hq1, q_up_s, q_up_n, q_up_up, q_upd_s, q_upd_n, q_upd_upd, q_in, q_in0, q_in1, q_cl, q_cl0, q_cl1, q_add, q_add1, q_1add, q_add0, q_0add, q_mul, q_ite0, q_ite01, q_10, or_true, not_false_eq_true, not_true_eq_false, q_n0, ne_eq, m_r0, m_r1, m_r2, m_r3, m_r4, m_r5, m_r6, m_r7, m_r8, m_u0, m_u1, m_u2, m_u3, m_u4, m_u5, m_u6, m_u7, m_u8, m_s1, m_s2, m_s3, m_s4, m_s5, m_s6, m_s7, m_s8, m_s9, m_w1, m_w2, m_w3, m_w5, m_w6, m_w7, m_w8, m_w9, han, s56, q0, a1.2.1, q_le, q_ti0, q_ti]
      refine ⟨fun z => absurd z (by omega), fun _ => ⟨fun _ => ⟨fun z => absurd z hpos, fun _ => ?_⟩, fun z => z.elim⟩⟩
      -- one week less of it: the same place as with nothing less of what is left already
      have k := k75 (sx_up h1 a (sx_ai 64 (toM (upd (p_w1 f) 56 (p_w1 f 56 - 1)) 0))) (by rw [q_up_s, e2]) (fun e => by rw [q_up_up, hu1])
      rw [e2] at k
      rw [tX8_week_92] at k ⊢
      simp (disch := omega) only [e_const, e_lconst, e_il, e_ll, e_al, e_is, e_as, e_ls, e_inc, e_bin, e_div, e_un, e_lbin, e_ldiv, e_lcmp, e_i2l, e_l2i, e_if1, e_if2, e_go, e_sw, e_dupi, e_dupr, e_dup2, e_popi, e_popr, e_get, e_put, e_iald, e_iast, e_zald, e_zast, e_aald, e_aast, e_sld, e_slen, e_newa, e_newq, e_mna, e_new, e_oi, e_cs, e_cv, e_ci, e_min, e_max, e_copy, e_rv, e_ri, e_rz, e_rl, e_run, sx_en, sx_cat, sx_tk, sx_ps, sx_set, sx_setl, sx_dl, sx_m, sx_sw, sx_ft, List.map_cons, List.map_nil, List.getElem?_cons_zero, List.getElem?_cons_succ, List.replicate_succ, List.replicate_zero, List.set_cons_zero, List.set_cons_succ, List.length_cons, List.length_nil, Nat.reduceAdd, Nat.reduceSub, Nat.reduceLeDiff, Nat.reduceLT, Nat.reduceMul, Nat.zero_le, Nat.le_refl, Nat.add_zero, Nat.zero_add, true_and, and_true, true_or, bX8_week_92, hq1, q_up_s, q_up_n, q_up_up, q_upd_s, q_upd_n, q_upd_upd, q_in, q_in0, q_in1, q_cl, q_cl0, q_cl1, q_add, q_add1, q_1add, q_add0, q_0add, q_mul, q_ite0, q_ite01, q_10, or_true, not_false_eq_true, not_true_eq_false, q_n0, ne_eq, m_r0, m_r1, m_r2, m_r3, m_r4, m_r5, m_r6, m_r7, m_r8, m_u0, m_u1, m_u2, m_u3, m_u4, m_u5, m_u6, m_u7, m_u8, m_s1, m_s2, m_s3, m_s4, m_s5, m_s6, m_s7, m_s8, m_s9, m_w1, m_w2, m_w3, m_w5, m_w6, m_w7, m_w8, m_w9, han, q_sub0] at k ⊢
      rw [s56] at k
      exact k
  by_cases q0 : f 57 = 0
  · have e1 : p_w1 f = p_takes f 6 := by unfold p_w1; rw [if_pos q0]
    have := s_week_lp1 (Rt := Rt) hc q0 han c 0 (sx_up h a (sx_ai 64 (toM f 0))) (by omega) (by rw [q_up_s]; rfl) (fun h' g1 g2 => k40 h' (by rw [e1]; exact g1) (fun e => by rw [g2, q_up_up]))
    rw [nI_0] at this
    exact this
  · have e1 : p_w1 f = f := by unfold p_w1; rw [if_neg q0]
    rw [tX8_week_7]
    simp (disch := omega) only [e_const, e_lconst, e_il, e_ll, e_al, e_is, e_as, e_ls, e_inc, e_bin, e_div, e_un, e_lbin, e_ldiv, e_lcmp, e_i2l, e_l2i, e_if1, e_if2, e_go, e_sw, e_dupi, e_dupr, e_dup2, e_popi, e_popr, e_get, e_put, e_iald, e_iast, e_zald, e_zast, e_aald, e_aast, e_sld, e_slen, e_newa, e_newq, e_mna, e_new, e_oi, e_cs, e_cv, e_ci, e_min, e_max, e_copy, e_rv, e_ri, e_rz, e_rl, e_run, sx_en, sx_cat, sx_tk, sx_ps, sx_set, sx_setl, sx_dl, sx_m, sx_sw, sx_ft, List.map_cons, List.map_nil, List.getElem?_cons_zero, List.getElem?_cons_succ, List.replicate_succ, List.replicate_zero, List.set_cons_zero, List.set_cons_succ, List.length_cons, List.length_nil, Nat.reduceAdd, Nat.reduceSub, Nat.reduceLeDiff, Nat.reduceLT, Nat.reduceMul, Nat.zero_le, Nat.le_refl, Nat.add_zero, Nat.zero_add, true_and, and_true, true_or, bX8_week_7, q_up_s, q_up_n, q_up_up, q_upd_s, q_upd_n, q_upd_upd, q_in, q_in0, q_in1, q_cl, q_cl0, q_cl1, q_add, q_add1, q_1add, q_add0, q_0add, q_mul, q_ite0, q_ite01, q_10, or_true, not_false_eq_true, not_true_eq_false, q_n0, ne_eq, m_r0, m_r1, m_r2, m_r3, m_r4, m_r5, m_r6, m_r7, m_r8, m_u0, m_u1, m_u2, m_u3, m_u4, m_u5, m_u6, m_u7, m_u8, m_s1, m_s2, m_s3, m_s4, m_s5, m_s6, m_s7, m_s8, m_s9, m_w1, m_w2, m_w3, m_w5, m_w6, m_w7, m_w8, m_w9, han, q0, hc.2.1, q_le, q_ti0, q_ti]
    refine ⟨fun z => absurd z (by omega), fun _ => ⟨fun _ => k40 _ (by rw [q_up_s, e1]) (fun e => by rw [q_up_up]), fun z => z.elim⟩⟩
end MW2
