/-! copying within the rows -/
set_option maxRecDepth 100000 in
set_option maxHeartbeats 4000000 in
theorem nI_sub {a b : Nat} (h : b ≤ a) : nI a - nI b = nI (a - b) := by
  have e : nI a = nI (a - b) + nI b := by rw [q_add]; congr 1; omega
  rw [e]
  exact Int32.add_sub_cancel _ _
set_option maxRecDepth 100000 in
set_option maxHeartbeats 4000000 in
theorem nI_sub1 {a : Nat} (h : 1 ≤ a) : nI a - 1 = nI (a - 1) := by rw [← nI_e1]; exact nI_sub h
set_option maxRecDepth 100000 in
set_option maxHeartbeats 4000000 in
theorem cpy_cpf (f g : Nat → Int32) (s d n : Nat) : va_cpy f g s d n = cpf g d (fun x => f (s + x)) n := rfl
def cpd (g : Nat → Int32) (d : Nat) (v : Nat → Int32) (z i : Nat) : Nat → Int32 := fun j => if d + (z - i) ≤ j ∧ j < d + z then v (j - d) else g j
set_option maxRecDepth 100000 in
set_option maxHeartbeats 4000000 in
theorem cpd_0 (g : Nat → Int32) (d : Nat) (v : Nat → Int32) (z : Nat) : cpd g d v z 0 = g := by
  funext j
  rw [cpd, if_neg (by omega)]
set_option maxRecDepth 100000 in
set_option maxHeartbeats 4000000 in
theorem cpd_z (g : Nat → Int32) (d : Nat) (v : Nat → Int32) (z : Nat) : cpd g d v z z = cpf g d v z := by
  funext j
  rw [cpd, cpf, Nat.sub_self, Nat.add_zero]
set_option maxRecDepth 100000 in
set_option maxHeartbeats 4000000 in
theorem cpd_s (g : Nat → Int32) (d : Nat) (v : Nat → Int32) {z i : Nat} (h : i < z) : upd (cpd g d v z i) (d + (z - 1 - i)) (v (z - 1 - i)) = cpd g d v z (i + 1) := by
  funext j
  by_cases hj : j = d + (z - 1 - i)
  · rw [hj, q_upd_s, cpd, if_pos (by omega), show d + (z - 1 - i) - d = z - 1 - i by omega]
  · rw [q_upd_n hj]
    by_cases q : d + (z - i) ≤ j ∧ j < d + z
    · rw [cpd, cpd, if_pos q, if_pos (by omega)]
    · rw [cpd, cpd, if_neg q, if_neg (by omega)]
set_option maxRecDepth 100000 in
set_option maxHeartbeats 4000000 in
theorem it_cpy (it : Nat → Int32) {ea eb x y z : Nat} (ha : ea < 8) (hb : eb < 8) (hx : x + z ≤ 40) (hy : y + z ≤ 40) : (∀ j, (va_cpy (fun j => if j < 40 then it (40 * ea + j) else 0) (fun j => if j < 40 then it (40 * eb + j) else 0) x y z) j = if j < 40 then cpf it (40 * eb + y) (fun c => it (40 * ea + x + c)) z (40 * eb + j) else 0) ∧ (∀ r j, r < 8 → r ≠ eb → j < 40 → cpf it (40 * eb + y) (fun c => it (40 * ea + x + c)) z (40 * r + j) = it (40 * r + j)) := by
  constructor
  · intro j
    rw [cpy_cpf]
    by_cases hj : j < 40
    · rw [if_pos hj, cpf, cpf]
      by_cases q : y ≤ j ∧ j < y + z
      · rw [if_pos q, if_pos (by omega), if_pos (by omega)]
        congr 1; omega
      · rw [if_neg q, if_pos hj, if_neg (by omega)]
    · rw [if_neg hj, cpf, if_neg (by omega), if_neg hj]
  · intro r j hr hre hj
    exact cpf_o (by omega)
section CP
variable {n : Nat} {ea eb x y z : Nat}
set_option maxRecDepth 100000 in
set_option maxHeartbeats 4000000 in
theorem s_copyU_lp (ha : ea < 8) (hb : eb < 8) (hx : x + z ≤ 40) (hy : y + z ≤ 40) (hu : ea = eb → y ≤ x) (hn : 56 < n) (g : Nat → Int32) (Rt : sx_R) : ∀ (k i : Nat) (h : sx_H), i + k = z → (∃ th st ac tp cu sa tk va fa fp la tr, h 53 = g_m th st ac tp cu sa tk va fa fp la tr) → h 56 = sx_ai 320 (cpf g (40 * eb + y) (fun c => g (40 * ea + x + c)) i) → Rt (some (sx_i (nI z))) n (sx_up h 56 (sx_ai 320 (cpf g (40 * eb + y) (fun c => g (40 * ea + x + c)) z))) 0 0 → sx_T BX8_copy sx_Cal Rt 143 [some (sx_r (some 53)), some (sx_i (nI ea)), some (sx_i (nI x)), some (sx_i (nI eb)), some (sx_i (nI y)), some (sx_i (nI z)), some (sx_i 1), some (sx_i (nI i)), none] [] n h 0 0 := by
  have hn2 : 53 < n := by omega
  intro k
  induction k with
  | zero =>
    intro i h hi h1 h3 hR
    have : i = z := by omega
    subst this
    rw [q_up_id h3] at hR
    rw [tX8_copy_143]
    simp (disch := omega) only [e_const, e_lconst, e_il, e_ll, e_al, e_is, e_as, e_ls, e_inc, e_bin, e_div, e_un, e_lbin, e_ldiv, e_lcmp, e_i2l, e_l2i, e_if1, e_if2, e_go, e_sw, e_dupi, e_dupr, e_dup2, e_popi, e_popr, e_get, e_put, e_iald, e_iast, e_zald, e_zast, e_aald, e_aast, e_sld, e_slen, e_newa, e_newq, e_mna, e_new, e_oi, e_cs, e_cv, e_ci, e_min, e_max, e_copy, e_rv, e_ri, e_rz, e_rl, e_run, sx_en, sx_cat, sx_tk, sx_ps, sx_set, sx_setl, sx_dl, sx_m, sx_sw, sx_ft, List.map_cons, List.map_nil, List.getElem?_cons_zero, List.getElem?_cons_succ, List.replicate_succ, List.replicate_zero, List.set_cons_zero, List.set_cons_succ, List.length_cons, List.length_nil, Nat.reduceAdd, Nat.reduceSub, Nat.reduceLeDiff, Nat.reduceLT, Nat.reduceMul, Nat.zero_le, Nat.le_refl, Nat.add_zero, Nat.zero_add, true_and, and_true, true_or, bX8_copy_143, tX8_copy_204, bX8_copy_204, q_up_s, q_up_n, q_up_up, q_upd_s, q_upd_n, q_upd_upd, q_in, q_in0, q_in1, q_cl, q_cl0, q_cl1, q_add, q_add1, q_1add, q_add0, q_0add, q_mul, q_ite0, q_ite01, q_10, or_true, not_false_eq_true, not_true_eq_false, q_n0, ne_eq, q_le, q_ti, Int.le_refl, false_implies, true_implies, true_and, and_true, not_true_eq_false, not_false_eq_true, Bool.false_eq_true]
    exact hR
  | succ k ih =>
    intro i h hi h1 h3 hR
    have hi6 : i < z := by omega
    have := ih (i + 1) (sx_up h 56 (sx_ai 320 (cpf g (40 * eb + y) (fun c => g (40 * ea + x + c)) (i + 1)))) (by omega) (by rw [q_up_n (by omega)]; exact h1) (q_up_s _ _ _) (by rw [q_up_up]; exact hR)
    obtain ⟨th, st, ac, tp, cu, sa, tk, va, fa, fp, la, tr, hm⟩ := h1
    have hx1 : 40 * ea + x + i < 320 := by omega
    have hx2 : 40 * eb + y + i < 320 := by omega
    have hr : cpf g (40 * eb + y) (fun c => g (40 * ea + x + c)) i (40 * ea + x + i) = g (40 * ea + x + i) := cpf_o (by omega)
    have hs := cpf_s g (40 * eb + y) (fun c => g (40 * ea + x + c)) i
    have hle : ((z : Int) ≤ (i : Int)) = False := eq_false (by omega)
    rw [tX8_copy_143]
    simp (disch := omega) only [e_const, e_lconst, e_il, e_ll, e_al, e_is, e_as, e_ls, e_inc, e_bin, e_div, e_un, e_lbin, e_ldiv, e_lcmp, e_i2l, e_l2i, e_if1, e_if2, e_go, e_sw, e_dupi, e_dupr, e_dup2, e_popi, e_popr, e_get, e_put, e_iald, e_iast, e_zald, e_zast, e_aald, e_aast, e_sld, e_slen, e_newa, e_newq, e_mna, e_new, e_oi, e_cs, e_cv, e_ci, e_min, e_max, e_copy, e_rv, e_ri, e_rz, e_rl, e_run, sx_en, sx_cat, sx_tk, sx_ps, sx_set, sx_setl, sx_dl, sx_m, sx_sw, sx_ft, List.map_cons, List.map_nil, List.getElem?_cons_zero, List.getElem?_cons_succ, List.replicate_succ, List.replicate_zero, List.set_cons_zero, List.set_cons_succ, List.length_cons, List.length_nil, Nat.reduceAdd, Nat.reduceSub, Nat.reduceLeDiff, Nat.reduceLT, Nat.reduceMul, Nat.zero_le, Nat.le_refl, Nat.add_zero, Nat.zero_add, true_and, and_true, true_or, bX8_copy_143, tX8_copy_160, bX8_copy_160, tX8_copy_167, bX8_copy_167, hm, h3, hn2, hn, hx1, hx2, hr, hs, hle, q_10, q_up_s, q_up_n, q_up_up, q_upd_s, q_upd_n, q_upd_upd, q_in, q_in0, q_in1, q_cl, q_cl0, q_cl1, q_add, q_add1, q_1add, q_add0, q_0add, q_mul, q_ite0, q_ite01, q_10, or_true, not_false_eq_true, not_true_eq_false, q_n0, ne_eq, q_le, q_ti, false_implies, true_implies, true_and, and_true, not_true_eq_false, not_false_eq_true, Bool.false_eq_true]
    exact this
set_option maxRecDepth 100000 in
set_option maxHeartbeats 4000000 in
theorem s_copyD_lp (ha : ea < 8) (hb : eb < 8) (hx : x + z ≤ 40) (hy : y + z ≤ 40) (hu : ea = eb → x < y) (hn : 56 < n) (g : Nat → Int32) (Rt : sx_R) : ∀ (k i : Nat) (h : sx_H), i + k = z → (∃ th st ac tp cu sa tk va fa fp la tr, h 53 = g_m th st ac tp cu sa tk va fa fp la tr) → h 56 = sx_ai 320 (cpd g (40 * eb + y) (fun c => g (40 * ea + x + c)) z i) → Rt (some (sx_i (nI z))) n (sx_up h 56 (sx_ai 320 (cpf g (40 * eb + y) (fun c => g (40 * ea + x + c)) z))) 0 0 → sx_T BX8_copy sx_Cal Rt 143 [some (sx_r (some 53)), some (sx_i (nI ea)), some (sx_i (nI x)), some (sx_i (nI eb)), some (sx_i (nI y)), some (sx_i (nI z)), some (sx_i 0), some (sx_i (nI i)), none] [] n h 0 0 := by
  have hn2 : 53 < n := by omega
  intro k
  induction k with
  | zero =>
    intro i h hi h1 h3 hR
    have : i = z := by omega
    subst this
    rw [← cpd_z, q_up_id h3] at hR
    rw [tX8_copy_143]
    simp (disch := omega) only [e_const, e_lconst, e_il, e_ll, e_al, e_is, e_as, e_ls, e_inc, e_bin, e_div, e_un, e_lbin, e_ldiv, e_lcmp, e_i2l, e_l2i, e_if1, e_if2, e_go, e_sw, e_dupi, e_dupr, e_dup2, e_popi, e_popr, e_get, e_put, e_iald, e_iast, e_zald, e_zast, e_aald, e_aast, e_sld, e_slen, e_newa, e_newq, e_mna, e_new, e_oi, e_cs, e_cv, e_ci, e_min, e_max, e_copy, e_rv, e_ri, e_rz, e_rl, e_run, sx_en, sx_cat, sx_tk, sx_ps, sx_set, sx_setl, sx_dl, sx_m, sx_sw, sx_ft, List.map_cons, List.map_nil, List.getElem?_cons_zero, List.getElem?_cons_succ, List.replicate_succ, List.replicate_zero, List.set_cons_zero, List.set_cons_succ, List.length_cons, List.length_nil, Nat.reduceAdd, Nat.reduceSub, Nat.reduceLeDiff, Nat.reduceLT, Nat.reduceMul, Nat.zero_le, Nat.le_refl, Nat.add_zero, Nat.zero_add, true_and, and_true, true_or, bX8_copy_143, tX8_copy_204, bX8_copy_204, q_up_s, q_up_n, q_up_up, q_upd_s, q_upd_n, q_upd_upd, q_in, q_in0, q_in1, q_cl, q_cl0, q_cl1, q_add, q_add1, q_1add, q_add0, q_0add, q_mul, q_ite0, q_ite01, q_10, or_true, not_false_eq_true, not_true_eq_false, q_n0, ne_eq, q_le, q_ti, Int.le_refl, false_implies, true_implies, true_and, and_true, not_true_eq_false, not_false_eq_true, Bool.false_eq_true]
    exact hR
  | succ k ih =>
    intro i h hi h1 h3 hR
    have hi6 : i < z := by omega
    have := ih (i + 1) (sx_up h 56 (sx_ai 320 (cpd g (40 * eb + y) (fun c => g (40 * ea + x + c)) z (i + 1)))) (by omega) (by rw [q_up_n (by omega)]; exact h1) (q_up_s _ _ _) (by rw [q_up_up]; exact hR)
    obtain ⟨th, st, ac, tp, cu, sa, tk, va, fa, fp, la, tr, hm⟩ := h1
    have hx1 : 40 * ea + x + (z - 1 - i) < 320 := by omega
    have hx2 : 40 * eb + y + (z - 1 - i) < 320 := by omega
    have hr : cpd g (40 * eb + y) (fun c => g (40 * ea + x + c)) z i (40 * ea + x + (z - 1 - i)) = g (40 * ea + x + (z - 1 - i)) := by rw [cpd, if_neg (by omega)]
    have hs := cpd_s g (40 * eb + y) (fun c => g (40 * ea + x + c)) hi6
    have hle : ((z : Int) ≤ (i : Int)) = False := eq_false (by omega)
    rw [tX8_copy_143]
    simp (disch := omega) only [e_const, e_lconst, e_il, e_ll, e_al, e_is, e_as, e_ls, e_inc, e_bin, e_div, e_un, e_lbin, e_ldiv, e_lcmp, e_i2l, e_l2i, e_if1, e_if2, e_go, e_sw, e_dupi, e_dupr, e_dup2, e_popi, e_popr, e_get, e_put, e_iald, e_iast, e_zald, e_zast, e_aald, e_aast, e_sld, e_slen, e_newa, e_newq, e_mna, e_new, e_oi, e_cs, e_cv, e_ci, e_min, e_max, e_copy, e_rv, e_ri, e_rz, e_rl, e_run, sx_en, sx_cat, sx_tk, sx_ps, sx_set, sx_setl, sx_dl, sx_m, sx_sw, sx_ft, List.map_cons, List.map_nil, List.getElem?_cons_zero, List.getElem?_cons_succ, List.replicate_succ, List.replicate_zero, List.set_cons_zero, List.set_cons_succ, List.length_cons, List.length_nil, Nat.reduceAdd, Nat.reduceSub, Nat.reduceLeDiff, Nat.reduceLT, Nat.reduceMul, Nat.zero_le, Nat.le_refl, Nat.add_zero, Nat.zero_add, true_and, and_true, true_or, bX8_copy_143, tX8_copy_160, bX8_copy_160, tX8_copy_167, bX8_copy_167, hm, h3, hn2, hn, hx1, hx2, hr, hs, hle, q_10, nI_sub1, nI_sub, q_up_s, q_up_n, q_up_up, q_upd_s, q_upd_n, q_upd_upd, q_in, q_in0, q_in1, q_cl, q_cl0, q_cl1, q_add, q_add1, q_1add, q_add0, q_0add, q_mul, q_ite0, q_ite01, q_10, or_true, not_false_eq_true, not_true_eq_false, q_n0, ne_eq, q_le, q_ti, false_implies, true_implies, true_and, and_true, not_true_eq_false, not_false_eq_true, Bool.false_eq_true]
    exact this
end CP
set_option maxRecDepth 100000 in
set_option maxHeartbeats 4000000 in
theorem q_cmple (x y : Int64) : (lg_cmp x y ≤ 0) = (x.toInt ≤ y.toInt) := by
  have h := q_cmpg x y
  have e : (lg_cmp x y ≤ 0) = ¬ (0 < lg_cmp x y) := by rw [q_le, q_lt]; exact propext ⟨fun q => by omega, fun q => by omega⟩
  rw [e, h, Classical.not_not]
set_option maxRecDepth 100000 in
set_option maxHeartbeats 4000000 in
theorem q_ladd (x y : Int32) : (x.toInt64 + y.toInt64).toInt = x.toInt + y.toInt := by
  have := Int32.toInt_lt x
  have := Int32.le_toInt x
  have := Int32.toInt_lt y
  have := Int32.le_toInt y
  rw [Int64.toInt_add, q_wide, q_wide]
  exact Int.bmod_eq_of_le (by omega) (by omega)
set_option maxRecDepth 100000 in
set_option maxHeartbeats 4000000 in
theorem st_copy {h : sx_H} (H : IV h) (a i b j c0 : Int32) : sx_Cal 88 [sx_r (some 0), sx_i a, sx_i i, sx_i b, sx_i j, sx_i c0] 65 h (IQ 129 [sx_r (some 53), sx_i a, sx_i i, sx_i b, sx_i j, sx_i c0]) := by
  obtain ⟨lf, st, rs, rl, it, tp, tape, f, k, acts, t, trc, g0, g1, H⟩ := H
  obtain ⟨h0, hXR, hXT, hXB, hXA, hXK, hXI, hMO, hMR, hMB, hMA, hMT, hMI, hMK, hWR, htp, hWB, hk24, hWA, ht16, hWg0, hWg1⟩ := id H
  obtain ⟨th, cu, sa, tk, va, fa, fp, hm⟩ := id hMO
  obtain ⟨c, w, hw, hc, he⟩ := WB_iff.mp hWB
  have hc6 := hc.1
  obtain ⟨⟨cm0, hq⟩, -⟩ := id hMB
  have hq2 : sx_up h 53 (g_m 0 st (nI k) (nI tp) cu sa tk va fa fp lf (nI t)) 57 = sx_ai 64 (toM f cm0) := (q_up_n (by decide)).trans hq
  obtain ⟨h2, eh2⟩ : ∃ z, z = sx_up h 53 (g_m 0 st (nI k) (nI tp) cu sa tk va fa fp lf (nI t)) := ⟨_, rfl⟩
  have hmm : sx_up h 53 (g_m 0 st (nI k) (nI tp) cu sa tk va fa fp lf (nI t)) = h2 := eh2.symm
  have hIC : IC lf st rs rl it tp tape f k acts t trc g0 g1 h2 := by rw [eh2]; exact IC_53 H (fun j hj => q_up_n hj) ⟨_, _, _, _, _, _, _, q_up_s _ _ _⟩
  have hm3 : h2 53 = g_m 0 st (nI k) (nI tp) cu sa tk va fa fp lf (nI t) := by rw [eh2]; exact q_up_s _ _ _
  have hm4 : ∃ x1 x2 x3 x4 x5 x6 x7 x8 x9 y1 y2 y3, h2 53 = g_m x1 x2 x3 x4 x5 x6 x7 x8 x9 y1 y2 y3 := ⟨_, _, _, _, _, _, _, _, _, _, _, _, hm3⟩
  have hq3 : h2 57 = sx_ai 64 (toM f cm0) := by rw [eh2]; exact hq2
  obtain ⟨hR1, hR2, hR3, ⟨l, hR4, hl⟩, hR5⟩ := id hXR
  obtain ⟨⟨ml, hM1, hml⟩, ⟨mm, hM2, hm7⟩, hM3⟩ := id hMR
  by_cases hab : (0 ≤ a.toInt ∧ a.toInt ≤ 7) ∧ (0 ≤ b.toInt ∧ b.toInt ≤ 7)
  · obtain ⟨ha, hb⟩ := hab
    obtain ⟨ea, hea, rfl⟩ := t2n (m := 7) (x := a) (by omega) (by omega)
    obtain ⟨eb, heb, rfl⟩ := t2n (m := 7) (x := b) (by omega) (by omega)
    have ha' : 0 ≤ (ea : Int) ∧ (ea : Int) ≤ 7 := by omega
    have hb' : 0 ≤ (eb : Int) ∧ (eb : Int) ≤ 7 := by omega
    have ha8 : ea < 8 := by omega
    have hb8 : eb < 8 := by omega
    have hneg : ∀ r, r < 8 → ((ml r < 0) = (rs r = -1)) := fun r hr => by
      by_cases hz : rs r = -1
      · rw [(hml r hr).1 hz, hz]; exact propext ⟨fun _ => rfl, fun _ => by decide +kernel⟩
      · rcases hWR r hr with hw | ⟨-, hw⟩
        · exact absurd hw hz
        · rw [(hml r hr).2 hz]
          refine propext ⟨fun z => ?_, fun z => absurd z hz⟩
          rcases hw with hw | hw | hw <;> rw [hw] at z <;> exact absurd z (by decide +kernel)
    have hpos : ∀ r, r < 8 → ((0 ≤ ml r) = ¬ (rs r = -1)) := fun r hr => by
      rw [← hneg r hr, q_le, q_lt, Int.not_lt]
    have hnega := hneg ea ha8
    have hnegb := hneg eb hb8
    have hposb := hpos eb hb8
    simp (disch := omega) only [e_const, e_lconst, e_il, e_ll, e_al, e_is, e_as, e_ls, e_inc, e_bin, e_div, e_un, e_lbin, e_ldiv, e_lcmp, e_i2l, e_l2i, e_if1, e_if2, e_go, e_sw, e_dupi, e_dupr, e_dup2, e_popi, e_popr, e_get, e_put, e_iald, e_iast, e_zald, e_zast, e_aald, e_aast, e_sld, e_slen, e_newa, e_newq, e_mna, e_new, e_oi, e_cs, e_cv, e_ci, e_min, e_max, e_copy, e_rv, e_ri, e_rz, e_rl, e_run, sx_en, sx_cat, sx_tk, sx_ps, sx_set, sx_setl, sx_dl, sx_m, sx_sw, sx_ft, List.map_cons, List.map_nil, List.getElem?_cons_zero, List.getElem?_cons_succ, List.replicate_succ, List.replicate_zero, List.set_cons_zero, List.set_cons_succ, List.length_cons, List.length_nil, Nat.reduceAdd, Nat.reduceSub, Nat.reduceLeDiff, Nat.reduceLT, Nat.reduceMul, Nat.zero_le, Nat.le_refl, Nat.add_zero, Nat.zero_add, true_and, and_true, true_or, cX7_copy_c, tX7_copy_0, bX7_copy_0, tX7_copy_14, bX7_copy_14, tX7_copy_17, bX7_copy_17, cX5_carry_c, tX5_carry_0, bX5_carry_0, tX5_carry_20, bX5_carry_20, tX5_carry_26, bX5_carry_26, tX5_carry_47, bX5_carry_47, tX5_carry_70, bX5_carry_70, cX5_find_c, tX5_find_0, bX5_find_0, h0, s_isRow, hR1, hR5, ha', hb', ha8, hb8, q_up_s, q_up_n, q_up_up, q_upd_s, q_upd_n, q_upd_upd, q_in, q_in0, q_in1, q_cl, q_cl0, q_cl1, q_add, q_add1, q_1add, q_add0, q_0add, q_mul, q_ite0, q_ite01, q_10, or_true, not_false_eq_true, not_true_eq_false, q_n0, ne_eq, false_implies, true_implies, true_and, and_true, not_true_eq_false, not_false_eq_true, Bool.false_eq_true, sx_o, Sum.inr.injEq, Prod.mk.injEq, exists_eq', Nat.reduceLT, q_ti0, q_ti, q_lt]
    by_cases hza : rs ea = -1
    · simp (disch := omega) only [hza, q_up_s, q_up_n, q_up_up, q_upd_s, q_upd_n, q_upd_upd, q_in, q_in0, q_in1, q_cl, q_cl0, q_cl1, q_add, q_add1, q_1add, q_add0, q_0add, q_mul, q_ite0, q_ite01, q_10, or_true, not_false_eq_true, not_true_eq_false, q_n0, ne_eq, false_implies, true_implies, true_and, and_true, not_true_eq_false, not_false_eq_true, Bool.false_eq_true]
      refine iq_ab ?_
      intro hA ehA
      have rm : hA 53 = g_m th st (nI k) (nI tp) cu sa tk va fa fp lf (nI t) := by rw [ehA]; simp (disch := omega) only [q_up_n]; exact hm
      obtain ⟨hB, ehB⟩ : ∃ z, z = sx_up hA 53 (g_m 0 st (nI k) (nI tp) cu sa tk va fa fp lf (nI t)) := ⟨_, rfl⟩
      have rmm : sx_up hA 53 (g_m 0 st (nI k) (nI tp) cu sa tk va fa fp lf (nI t)) = hB := ehB.symm
      have rm3 : hB 53 = g_m 0 st (nI k) (nI tp) cu sa tk va fa fp lf (nI t) := by rw [ehB]; exact q_up_s _ _ _
      have rm4 : ∃ x1 x2 x3 x4 x5 x6 x7 x8 x9 y1 y2 y3, hB 53 = g_m x1 x2 x3 x4 x5 x6 x7 x8 x9 y1 y2 y3 := ⟨_, _, _, _, _, _, _, _, _, _, _, _, rm3⟩
      have rA54 := (show hA 54 = h 54 by rw [ehA]; simp (disch := omega) only [q_up_n]).trans hM1
      have rB54 := (show hB 54 = hA 54 by rw [ehB]; exact q_up_n (by decide)).trans rA54
      have rE54 := fun (E : sx_E) => (show sx_up hB 53 E 54 = hB 54 from q_up_n (by decide)).trans rB54
      have rA55 := (show hA 55 = h 55 by rw [ehA]; simp (disch := omega) only [q_up_n]).trans hM2
      have rB55 := (show hB 55 = hA 55 by rw [ehB]; exact q_up_n (by decide)).trans rA55
      have rE55 := fun (E : sx_E) => (show sx_up hB 53 E 55 = hB 55 from q_up_n (by decide)).trans rB55
      simp (disch := omega) only [e_const, e_lconst, e_il, e_ll, e_al, e_is, e_as, e_ls, e_inc, e_bin, e_div, e_un, e_lbin, e_ldiv, e_lcmp, e_i2l, e_l2i, e_if1, e_if2, e_go, e_sw, e_dupi, e_dupr, e_dup2, e_popi, e_popr, e_get, e_put, e_iald, e_iast, e_zald, e_zast, e_aald, e_aast, e_sld, e_slen, e_newa, e_newq, e_mna, e_new, e_oi, e_cs, e_cv, e_ci, e_min, e_max, e_copy, e_rv, e_ri, e_rz, e_rl, e_run, sx_en, sx_cat, sx_tk, sx_ps, sx_set, sx_setl, sx_dl, sx_m, sx_sw, sx_ft, List.map_cons, List.map_nil, List.getElem?_cons_zero, List.getElem?_cons_succ, List.replicate_succ, List.replicate_zero, List.set_cons_zero, List.set_cons_succ, List.length_cons, List.length_nil, Nat.reduceAdd, Nat.reduceSub, Nat.reduceLeDiff, Nat.reduceLT, Nat.reduceMul, Nat.zero_le, Nat.le_refl, Nat.add_zero, Nat.zero_add, true_and, and_true, true_or, cX8_copy_c, tX8_copy_0, bX8_copy_0, tX8_copy_19, bX8_copy_19, tX8_copy_22, bX8_copy_22, tX8_copy_45, bX8_copy_45, tX8_copy_51, bX8_copy_51, tX8_copy_72, bX8_copy_72, tX8_copy_121, bX8_copy_121, tX8_copy_127, bX8_copy_127, tX8_copy_137, bX8_copy_137, tX8_copy_138, bX8_copy_138, tX8_copy_160, bX8_copy_160, tX8_copy_167, bX8_copy_167, cX8_finding_c, tX8_finding_0, bX8_finding_0, rm, rmm, rm3, rB54, rE54, rE55, s_isRowM, q_ti, ha', hb', ha8, hb8, hnega, hnegb, hposb, hza, q_up_s, q_up_n, q_up_up, q_upd_s, q_upd_n, q_upd_upd, q_in, q_in0, q_in1, q_cl, q_cl0, q_cl1, q_add, q_add1, q_1add, q_add0, q_0add, q_mul, q_ite0, q_ite01, q_10, or_true, not_false_eq_true, not_true_eq_false, q_n0, ne_eq, sx_o, Sum.inr.injEq, Prod.mk.injEq, exists_eq', Nat.reduceLT, false_implies, true_implies, true_and, and_true, not_true_eq_false, not_false_eq_true, Bool.false_eq_true]
      subst ehB; subst ehA
      simp only [q_up_up]
      exact IV_of (IC_st H)
    · by_cases hzb : rs eb = -1
      · simp (disch := omega) only [hza, hzb, q_up_s, q_up_n, q_up_up, q_upd_s, q_upd_n, q_upd_upd, q_in, q_in0, q_in1, q_cl, q_cl0, q_cl1, q_add, q_add1, q_1add, q_add0, q_0add, q_mul, q_ite0, q_ite01, q_10, or_true, not_false_eq_true, not_true_eq_false, q_n0, ne_eq, false_implies, true_implies, true_and, and_true, not_true_eq_false, not_false_eq_true, Bool.false_eq_true]
        refine iq_ab ?_
        intro hA ehA
        have rm : hA 53 = g_m th st (nI k) (nI tp) cu sa tk va fa fp lf (nI t) := by rw [ehA]; simp (disch := omega) only [q_up_n]; exact hm
        obtain ⟨hB, ehB⟩ : ∃ z, z = sx_up hA 53 (g_m 0 st (nI k) (nI tp) cu sa tk va fa fp lf (nI t)) := ⟨_, rfl⟩
        have rmm : sx_up hA 53 (g_m 0 st (nI k) (nI tp) cu sa tk va fa fp lf (nI t)) = hB := ehB.symm
        have rm3 : hB 53 = g_m 0 st (nI k) (nI tp) cu sa tk va fa fp lf (nI t) := by rw [ehB]; exact q_up_s _ _ _
        have rm4 : ∃ x1 x2 x3 x4 x5 x6 x7 x8 x9 y1 y2 y3, hB 53 = g_m x1 x2 x3 x4 x5 x6 x7 x8 x9 y1 y2 y3 := ⟨_, _, _, _, _, _, _, _, _, _, _, _, rm3⟩
        have rA54 := (show hA 54 = h 54 by rw [ehA]; simp (disch := omega) only [q_up_n]).trans hM1
        have rB54 := (show hB 54 = hA 54 by rw [ehB]; exact q_up_n (by decide)).trans rA54
        have rE54 := fun (E : sx_E) => (show sx_up hB 53 E 54 = hB 54 from q_up_n (by decide)).trans rB54
        have rA55 := (show hA 55 = h 55 by rw [ehA]; simp (disch := omega) only [q_up_n]).trans hM2
        have rB55 := (show hB 55 = hA 55 by rw [ehB]; exact q_up_n (by decide)).trans rA55
        have rE55 := fun (E : sx_E) => (show sx_up hB 53 E 55 = hB 55 from q_up_n (by decide)).trans rB55
        simp (disch := omega) only [e_const, e_lconst, e_il, e_ll, e_al, e_is, e_as, e_ls, e_inc, e_bin, e_div, e_un, e_lbin, e_ldiv, e_lcmp, e_i2l, e_l2i, e_if1, e_if2, e_go, e_sw, e_dupi, e_dupr, e_dup2, e_popi, e_popr, e_get, e_put, e_iald, e_iast, e_zald, e_zast, e_aald, e_aast, e_sld, e_slen, e_newa, e_newq, e_mna, e_new, e_oi, e_cs, e_cv, e_ci, e_min, e_max, e_copy, e_rv, e_ri, e_rz, e_rl, e_run, sx_en, sx_cat, sx_tk, sx_ps, sx_set, sx_setl, sx_dl, sx_m, sx_sw, sx_ft, List.map_cons, List.map_nil, List.getElem?_cons_zero, List.getElem?_cons_succ, List.replicate_succ, List.replicate_zero, List.set_cons_zero, List.set_cons_succ, List.length_cons, List.length_nil, Nat.reduceAdd, Nat.reduceSub, Nat.reduceLeDiff, Nat.reduceLT, Nat.reduceMul, Nat.zero_le, Nat.le_refl, Nat.add_zero, Nat.zero_add, true_and, and_true, true_or, cX8_copy_c, tX8_copy_0, bX8_copy_0, tX8_copy_19, bX8_copy_19, tX8_copy_22, bX8_copy_22, tX8_copy_45, bX8_copy_45, tX8_copy_51, bX8_copy_51, tX8_copy_72, bX8_copy_72, tX8_copy_121, bX8_copy_121, tX8_copy_127, bX8_copy_127, tX8_copy_137, bX8_copy_137, tX8_copy_138, bX8_copy_138, tX8_copy_160, bX8_copy_160, tX8_copy_167, bX8_copy_167, cX8_finding_c, tX8_finding_0, bX8_finding_0, rm, rmm, rm3, rB54, rE54, rE55, s_isRowM, q_ti, ha', hb', ha8, hb8, hnega, hnegb, hposb, hza, hzb, q_up_s, q_up_n, q_up_up, q_upd_s, q_upd_n, q_upd_upd, q_in, q_in0, q_in1, q_cl, q_cl0, q_cl1, q_add, q_add1, q_1add, q_add0, q_0add, q_mul, q_ite0, q_ite01, q_10, or_true, not_false_eq_true, not_true_eq_false, q_n0, ne_eq, sx_o, Sum.inr.injEq, Prod.mk.injEq, exists_eq', Nat.reduceLT, false_implies, true_implies, true_and, and_true, not_true_eq_false, not_false_eq_true, Bool.false_eq_true]
        subst ehB; subst ehA
        simp only [q_up_up]
        exact IV_of (IC_st H)
      · have hlna := hl ea ha8 hza
        have hlnb := hl eb hb8 hzb
        obtain ⟨ma, hma4, hma⟩ : ∃ m, m ≤ 40 ∧ rs ea = nI m := by
          rcases hWR ea ha8 with w | ⟨w, -⟩
          · exact absurd w hza
          · exact w
        obtain ⟨mb, hmb4, hmb⟩ : ∃ m, m ≤ 40 ∧ rs eb = nI m := by
          rcases hWR eb hb8 with w | ⟨w, -⟩
          · exact absurd w hzb
          · exact w
        have hmla := (hml ea ha8).2 hza
        have hmlb := (hml eb hb8).2 hzb
        have hnega' := hnega
        rw [hmla] at hnega'
        have hnegb' := hnegb
        rw [hmlb] at hnegb'
        have hposb' := hposb
        rw [hmlb] at hposb'
        have hmma := (hm7 ea ha8 hza).trans hma
        have hmmb := (hm7 eb hb8 hzb).trans hmb
        have hza2 : (nI ma = -1) = False := by rw [← hma]; exact eq_false hza
        have hzb2 : (nI mb = -1) = False := by rw [← hmb]; exact eq_false hzb
        by_cases hll : rl ea = rl eb
        · simp (disch := omega) only [hza, hzb, hR4, hlna, hlnb, hll, s_fits hR1 hR5 (show 12 < 65 by decide) ha8 hma hma4, s_fits hR1 hR5 (show 12 < 65 by decide) hb8 hmb hmb4, hR1, cX5_carry_c, tX5_carry_0, bX5_carry_0, tX5_carry_20, bX5_carry_20, tX5_carry_26, bX5_carry_26, tX5_carry_47, bX5_carry_47, tX5_carry_70, bX5_carry_70, cX5_find_c, tX5_find_0, bX5_find_0, e_const, e_lconst, e_il, e_ll, e_al, e_is, e_as, e_ls, e_inc, e_bin, e_div, e_un, e_lbin, e_ldiv, e_lcmp, e_i2l, e_l2i, e_if1, e_if2, e_go, e_sw, e_dupi, e_dupr, e_dup2, e_popi, e_popr, e_get, e_put, e_iald, e_iast, e_zald, e_zast, e_aald, e_aast, e_sld, e_slen, e_newa, e_newq, e_mna, e_new, e_oi, e_cs, e_cv, e_ci, e_min, e_max, e_copy, e_rv, e_ri, e_rz, e_rl, e_run, sx_en, sx_cat, sx_tk, sx_ps, sx_set, sx_setl, sx_dl, sx_m, sx_sw, sx_ft, List.map_cons, List.map_nil, List.getElem?_cons_zero, List.getElem?_cons_succ, List.replicate_succ, List.replicate_zero, List.set_cons_zero, List.set_cons_succ, List.length_cons, List.length_nil, Nat.reduceAdd, Nat.reduceSub, Nat.reduceLeDiff, Nat.reduceLT, Nat.reduceMul, Nat.zero_le, Nat.le_refl, Nat.add_zero, Nat.zero_add, true_and, and_true, true_or, q_up_s, q_up_n, q_up_up, q_upd_s, q_upd_n, q_upd_upd, q_in, q_in0, q_in1, q_cl, q_cl0, q_cl1, q_add, q_add1, q_1add, q_add0, q_0add, q_mul, q_ite0, q_ite01, q_10, or_true, not_false_eq_true, not_true_eq_false, q_n0, ne_eq, false_implies, true_implies, true_and, and_true, not_true_eq_false, not_false_eq_true, Bool.false_eq_true, sx_o, Sum.inr.injEq, Prod.mk.injEq, exists_eq', Nat.reduceLT]
          by_cases hf : p_fits ma i c0 = true ∧ p_fits mb j c0 = true
          · obtain ⟨hf1, hf2⟩ := id hf
            rw [p_fits_iff] at hf1 hf2
            obtain ⟨x, hx4, rfl⟩ := t2n (m := 40) (x := i) (by omega) (by omega)
            obtain ⟨y, hy4, rfl⟩ := t2n (m := 40) (x := j) (by omega) (by omega)
            obtain ⟨z, hz4, rfl⟩ := t2n (m := 40) (x := c0) (by omega) (by omega)
            rw [q_ti (by omega), q_ti (by omega)] at hf1 hf2
            have hRa := hR3 ea ha8
            have hRb := hR3 eb hb8
            have hx0 : (nI x < 0) = False := eq_false (by rw [q_lt, q_ti (by omega), q_ti0]; omega)
            have hy0 : (nI y < 0) = False := eq_false (by rw [q_lt, q_ti (by omega), q_ti0]; omega)
            have hz0 : (nI z < 0) = False := eq_false (by rw [q_lt, q_ti (by omega), q_ti0]; omega)
            have hxz : x + z ≤ 40 := by omega
            have hyz : y + z ≤ 40 := by omega
            have hp1 : 3 + ea < 65 := by omega
            have hp2 : 3 + eb < 65 := by omega
            simp (disch := omega) only [hf, tX5_carry_76, bX5_carry_76, hR1, hR2, hRa, hRb, ha8, hb8, hx0, hy0, hz0, hxz, hyz, hp1, hp2, e_const, e_lconst, e_il, e_ll, e_al, e_is, e_as, e_ls, e_inc, e_bin, e_div, e_un, e_lbin, e_ldiv, e_lcmp, e_i2l, e_l2i, e_if1, e_if2, e_go, e_sw, e_dupi, e_dupr, e_dup2, e_popi, e_popr, e_get, e_put, e_iald, e_iast, e_zald, e_zast, e_aald, e_aast, e_sld, e_slen, e_newa, e_newq, e_mna, e_new, e_oi, e_cs, e_cv, e_ci, e_min, e_max, e_copy, e_rv, e_ri, e_rz, e_rl, e_run, sx_en, sx_cat, sx_tk, sx_ps, sx_set, sx_setl, sx_dl, sx_m, sx_sw, sx_ft, List.map_cons, List.map_nil, List.getElem?_cons_zero, List.getElem?_cons_succ, List.replicate_succ, List.replicate_zero, List.set_cons_zero, List.set_cons_succ, List.length_cons, List.length_nil, Nat.reduceAdd, Nat.reduceSub, Nat.reduceLeDiff, Nat.reduceLT, Nat.reduceMul, Nat.zero_le, Nat.le_refl, Nat.add_zero, Nat.zero_add, true_and, and_true, true_or, q_up_s, q_up_n, q_up_up, q_upd_s, q_upd_n, q_upd_upd, q_in, q_in0, q_in1, q_cl, q_cl0, q_cl1, q_add, q_add1, q_1add, q_add0, q_0add, q_mul, q_ite0, q_ite01, q_10, or_true, not_false_eq_true, not_true_eq_false, q_n0, ne_eq, false_implies, true_implies, true_and, and_true, not_true_eq_false, not_false_eq_true, Bool.false_eq_true, sx_o, Sum.inr.injEq, Prod.mk.injEq, exists_eq', Nat.reduceLT, if_true]
            refine iq_ab ?_
            intro hA ehA
            have rm : hA 53 = g_m th st (nI k) (nI tp) cu sa tk va fa fp lf (nI t) := by rw [ehA]; simp (disch := omega) only [q_up_n]; exact hm
            obtain ⟨hB, ehB⟩ : ∃ z, z = sx_up hA 53 (g_m 0 st (nI k) (nI tp) cu sa tk va fa fp lf (nI t)) := ⟨_, rfl⟩
            have rmm : sx_up hA 53 (g_m 0 st (nI k) (nI tp) cu sa tk va fa fp lf (nI t)) = hB := ehB.symm
            have rm3 : hB 53 = g_m 0 st (nI k) (nI tp) cu sa tk va fa fp lf (nI t) := by rw [ehB]; exact q_up_s _ _ _
            have rm4 : ∃ x1 x2 x3 x4 x5 x6 x7 x8 x9 y1 y2 y3, hB 53 = g_m x1 x2 x3 x4 x5 x6 x7 x8 x9 y1 y2 y3 := ⟨_, _, _, _, _, _, _, _, _, _, _, _, rm3⟩
            have rA54 := (show hA 54 = h 54 by rw [ehA]; simp (disch := omega) only [q_up_n]).trans hM1
            have rB54 := (show hB 54 = hA 54 by rw [ehB]; exact q_up_n (by decide)).trans rA54
            have rE54 := fun (E : sx_E) => (show sx_up hB 53 E 54 = hB 54 from q_up_n (by decide)).trans rB54
            have rA55 := (show hA 55 = h 55 by rw [ehA]; simp (disch := omega) only [q_up_n]).trans hM2
            have rB55 := (show hB 55 = hA 55 by rw [ehB]; exact q_up_n (by decide)).trans rA55
            have rE55 := fun (E : sx_E) => (show sx_up hB 53 E 55 = hB 55 from q_up_n (by decide)).trans rB55
            have rA56 := (show hA 56 = h 56 by rw [ehA]; simp (disch := omega) only [q_up_n]).trans hM3
            have rB56 := (show hB 56 = hA 56 by rw [ehB]; exact q_up_n (by decide)).trans rA56
            have rE56 := fun (E : sx_E) => (show sx_up hB 53 E 56 = hB 56 from q_up_n (by decide)).trans rB56
            have hsum : (x : Int) + (z : Int) ≤ (ma : Int) := by omega
            have hsum2 : (y : Int) + (z : Int) ≤ (mb : Int) := by omega
            obtain ⟨o1, o2⟩ := it_cpy it ha8 hb8 hxz hyz
            have hX2 : IV (sx_up (sx_up hB 53 (g_m 0 0 (nI k) (nI tp) cu sa tk va fa fp lf (nI t))) 56 (sx_ai 320 (cpf it (40 * eb + y) (fun c => it (40 * ea + x + c)) z))) := by
              refine IV_of (IC_rows (st' := 0) (rs' := rs) (rl' := rl) (it' := cpf it (40 * eb + y) (fun c => it (40 * ea + x + c)) z) H (fun j h1 h2 h3 => ?_) (XR_ag (XR_st (st' := 0) (XR_it hXR hb8 o1 o2)) (fun j h1 h2 => ?_)) ⟨0, cu, sa, tk, va, fa, fp, ?_⟩ ⟨⟨ml, ?_, hml⟩, ⟨mm, ?_, hm7⟩, ?_⟩ hWR)
              · simp (disch := omega) only [ehA, ehB, q_up_n, q_up_s, q_up_up]
              · simp (disch := omega) only [ehA, ehB, q_up_n, q_up_s, q_up_up]
              · simp (disch := omega) only [ehA, ehB, q_up_n, q_up_s, q_up_up]
              · simp (disch := omega) only [ehA, ehB, q_up_n, q_up_s, q_up_up]; exact hM1
              · simp (disch := omega) only [ehA, ehB, q_up_n, q_up_s, q_up_up]; exact hM2
              · simp (disch := omega) only [ehA, ehB, q_up_n, q_up_s, q_up_up]
            by_cases hup : ea = eb ∧ x < y ∨ x < y
            · have hxy : x < y := by omega
              have hlt : (nI x < nI y) = True := eq_true (by rw [q_lt, q_ti (by omega), q_ti (by omega)]; omega)
              simp (disch := omega) only [e_const, e_lconst, e_il, e_ll, e_al, e_is, e_as, e_ls, e_inc, e_bin, e_div, e_un, e_lbin, e_ldiv, e_lcmp, e_i2l, e_l2i, e_if1, e_if2, e_go, e_sw, e_dupi, e_dupr, e_dup2, e_popi, e_popr, e_get, e_put, e_iald, e_iast, e_zald, e_zast, e_aald, e_aast, e_sld, e_slen, e_newa, e_newq, e_mna, e_new, e_oi, e_cs, e_cv, e_ci, e_min, e_max, e_copy, e_rv, e_ri, e_rz, e_rl, e_run, sx_en, sx_cat, sx_tk, sx_ps, sx_set, sx_setl, sx_dl, sx_m, sx_sw, sx_ft, List.map_cons, List.map_nil, List.getElem?_cons_zero, List.getElem?_cons_succ, List.replicate_succ, List.replicate_zero, List.set_cons_zero, List.set_cons_succ, List.length_cons, List.length_nil, Nat.reduceAdd, Nat.reduceSub, Nat.reduceLeDiff, Nat.reduceLT, Nat.reduceMul, Nat.zero_le, Nat.le_refl, Nat.add_zero, Nat.zero_add, true_and, and_true, true_or, cX8_copy_c, tX8_copy_0, bX8_copy_0, tX8_copy_19, bX8_copy_19, tX8_copy_22, bX8_copy_22, tX8_copy_45, bX8_copy_45, tX8_copy_51, bX8_copy_51, tX8_copy_72, bX8_copy_72, tX8_copy_121, bX8_copy_121, tX8_copy_127, bX8_copy_127, tX8_copy_137, bX8_copy_137, tX8_copy_138, bX8_copy_138, tX8_copy_160, bX8_copy_160, tX8_copy_167, bX8_copy_167, cX8_finding_c, tX8_finding_0, bX8_finding_0, rm, rmm, rm3, rB54, rE54, rE55, s_isRowM, hx0, hy0, hz0, hlt, q_cmpg, q_cmple, q_ladd, q_ti, q_ti0, q_wide, ha', hb', ha8, hb8, hnega, hnegb, hposb, hza, hzb, hmla, hmlb, hnega', hnegb', hposb', hll, hmma, hmmb, hsum, hsum2, Classical.not_not, q_up_s, q_up_n, q_up_up, q_upd_s, q_upd_n, q_upd_upd, q_in, q_in0, q_in1, q_cl, q_cl0, q_cl1, q_add, q_add1, q_1add, q_add0, q_0add, q_mul, q_ite0, q_ite01, q_10, or_true, not_false_eq_true, not_true_eq_false, q_n0, ne_eq, sx_o, Sum.inr.injEq, Prod.mk.injEq, exists_eq', Nat.reduceLT, false_implies, true_implies, true_and, and_true, not_true_eq_false, not_false_eq_true, Bool.false_eq_true]
              have key := fun Rt h hm h3 hR => s_copyD_lp ha8 hb8 hxz hyz (fun _ => hxy) (show 56 < 65 by decide) it Rt z 0 h (by omega) hm h3 hR
              rw [nI_0] at key
              refine key _ _ ⟨0, 0, nI k, nI tp, cu, sa, tk, va, fa, fp, lf, nI t, ?_⟩ ?_ ⟨⟨rfl, rfl, hX2⟩, Nat.le_refl _, Nat.le_refl _⟩
              · simp (disch := omega) only [ehA, ehB, q_up_n, q_up_s, q_up_up]
              · rw [cpd_0]; simp (disch := omega) only [ehA, ehB, q_up_n, q_up_s, q_up_up]; exact hM3
            · have hxy : y ≤ x := by omega
              have hlt : (nI x < nI y) = False := eq_false (by rw [q_lt, q_ti (by omega), q_ti (by omega)]; omega)
              simp (disch := omega) only [e_const, e_lconst, e_il, e_ll, e_al, e_is, e_as, e_ls, e_inc, e_bin, e_div, e_un, e_lbin, e_ldiv, e_lcmp, e_i2l, e_l2i, e_if1, e_if2, e_go, e_sw, e_dupi, e_dupr, e_dup2, e_popi, e_popr, e_get, e_put, e_iald, e_iast, e_zald, e_zast, e_aald, e_aast, e_sld, e_slen, e_newa, e_newq, e_mna, e_new, e_oi, e_cs, e_cv, e_ci, e_min, e_max, e_copy, e_rv, e_ri, e_rz, e_rl, e_run, sx_en, sx_cat, sx_tk, sx_ps, sx_set, sx_setl, sx_dl, sx_m, sx_sw, sx_ft, List.map_cons, List.map_nil, List.getElem?_cons_zero, List.getElem?_cons_succ, List.replicate_succ, List.replicate_zero, List.set_cons_zero, List.set_cons_succ, List.length_cons, List.length_nil, Nat.reduceAdd, Nat.reduceSub, Nat.reduceLeDiff, Nat.reduceLT, Nat.reduceMul, Nat.zero_le, Nat.le_refl, Nat.add_zero, Nat.zero_add, true_and, and_true, true_or, cX8_copy_c, tX8_copy_0, bX8_copy_0, tX8_copy_19, bX8_copy_19, tX8_copy_22, bX8_copy_22, tX8_copy_45, bX8_copy_45, tX8_copy_51, bX8_copy_51, tX8_copy_72, bX8_copy_72, tX8_copy_121, bX8_copy_121, tX8_copy_127, bX8_copy_127, tX8_copy_137, bX8_copy_137, tX8_copy_138, bX8_copy_138, tX8_copy_160, bX8_copy_160, tX8_copy_167, bX8_copy_167, cX8_finding_c, tX8_finding_0, bX8_finding_0, rm, rmm, rm3, rB54, rE54, rE55, s_isRowM, hx0, hy0, hz0, hlt, q_cmpg, q_cmple, q_ladd, q_ti, q_ti0, q_wide, ha', hb', ha8, hb8, hnega, hnegb, hposb, hza, hzb, hmla, hmlb, hnega', hnegb', hposb', hll, hmma, hmmb, hsum, hsum2, Classical.not_not, q_up_s, q_up_n, q_up_up, q_upd_s, q_upd_n, q_upd_upd, q_in, q_in0, q_in1, q_cl, q_cl0, q_cl1, q_add, q_add1, q_1add, q_add0, q_0add, q_mul, q_ite0, q_ite01, q_10, or_true, not_false_eq_true, not_true_eq_false, q_n0, ne_eq, sx_o, Sum.inr.injEq, Prod.mk.injEq, exists_eq', Nat.reduceLT, false_implies, true_implies, true_and, and_true, not_true_eq_false, not_false_eq_true, Bool.false_eq_true]
              have key := fun Rt h hm h3 hR => s_copyU_lp ha8 hb8 hxz hyz (fun _ => hxy) (show 56 < 65 by decide) it Rt z 0 h (by omega) hm h3 hR
              rw [nI_0] at key
              refine key _ _ ⟨0, 0, nI k, nI tp, cu, sa, tk, va, fa, fp, lf, nI t, ?_⟩ ?_ ⟨⟨rfl, rfl, hX2⟩, Nat.le_refl _, Nat.le_refl _⟩
              · simp (disch := omega) only [ehA, ehB, q_up_n, q_up_s, q_up_up]
              · rw [cpf_0]; simp (disch := omega) only [ehA, ehB, q_up_n, q_up_s, q_up_up]; exact hM3
          · have hIQ : IQ 129 [sx_r (some 53), sx_i (nI ea), sx_i i, sx_i (nI eb), sx_i j, sx_i c0] (some (sx_i (-1000010 - nI 2))) 65 (sx_up h 1 (sx_o 4 [sx_r (some 2), sx_r (some 11), sx_r (some 12), sx_i (nI 2)])) := by
              refine iq_ab ?_
              intro hA ehA
              have rm : hA 53 = g_m th st (nI k) (nI tp) cu sa tk va fa fp lf (nI t) := by rw [ehA]; simp (disch := omega) only [q_up_n]; exact hm
              obtain ⟨hB, ehB⟩ : ∃ z, z = sx_up hA 53 (g_m 0 st (nI k) (nI tp) cu sa tk va fa fp lf (nI t)) := ⟨_, rfl⟩
              have rmm : sx_up hA 53 (g_m 0 st (nI k) (nI tp) cu sa tk va fa fp lf (nI t)) = hB := ehB.symm
              have rm3 : hB 53 = g_m 0 st (nI k) (nI tp) cu sa tk va fa fp lf (nI t) := by rw [ehB]; exact q_up_s _ _ _
              have rm4 : ∃ x1 x2 x3 x4 x5 x6 x7 x8 x9 y1 y2 y3, hB 53 = g_m x1 x2 x3 x4 x5 x6 x7 x8 x9 y1 y2 y3 := ⟨_, _, _, _, _, _, _, _, _, _, _, _, rm3⟩
              have rA54 := (show hA 54 = h 54 by rw [ehA]; simp (disch := omega) only [q_up_n]).trans hM1
              have rB54 := (show hB 54 = hA 54 by rw [ehB]; exact q_up_n (by decide)).trans rA54
              have rE54 := fun (E : sx_E) => (show sx_up hB 53 E 54 = hB 54 from q_up_n (by decide)).trans rB54
              have rA55 := (show hA 55 = h 55 by rw [ehA]; simp (disch := omega) only [q_up_n]).trans hM2
              have rB55 := (show hB 55 = hA 55 by rw [ehB]; exact q_up_n (by decide)).trans rA55
              have rE55 := fun (E : sx_E) => (show sx_up hB 53 E 55 = hB 55 from q_up_n (by decide)).trans rB55
              have hX := fun st' => IV_of (IC_st (st' := st') (th := 0) (cu := cu) (sa := sa) (tk := tk) (va := va) (fa := fa) (fp := fp) H)
              simp (disch := omega) only [e_const, e_lconst, e_il, e_ll, e_al, e_is, e_as, e_ls, e_inc, e_bin, e_div, e_un, e_lbin, e_ldiv, e_lcmp, e_i2l, e_l2i, e_if1, e_if2, e_go, e_sw, e_dupi, e_dupr, e_dup2, e_popi, e_popr, e_get, e_put, e_iald, e_iast, e_zald, e_zast, e_aald, e_aast, e_sld, e_slen, e_newa, e_newq, e_mna, e_new, e_oi, e_cs, e_cv, e_ci, e_min, e_max, e_copy, e_rv, e_ri, e_rz, e_rl, e_run, sx_en, sx_cat, sx_tk, sx_ps, sx_set, sx_setl, sx_dl, sx_m, sx_sw, sx_ft, List.map_cons, List.map_nil, List.getElem?_cons_zero, List.getElem?_cons_succ, List.replicate_succ, List.replicate_zero, List.set_cons_zero, List.set_cons_succ, List.length_cons, List.length_nil, Nat.reduceAdd, Nat.reduceSub, Nat.reduceLeDiff, Nat.reduceLT, Nat.reduceMul, Nat.zero_le, Nat.le_refl, Nat.add_zero, Nat.zero_add, true_and, and_true, true_or, cX8_copy_c, tX8_copy_0, bX8_copy_0, tX8_copy_19, bX8_copy_19, tX8_copy_22, bX8_copy_22, tX8_copy_45, bX8_copy_45, tX8_copy_51, bX8_copy_51, tX8_copy_72, bX8_copy_72, tX8_copy_121, bX8_copy_121, tX8_copy_127, bX8_copy_127, tX8_copy_137, bX8_copy_137, tX8_copy_138, bX8_copy_138, tX8_copy_160, bX8_copy_160, tX8_copy_167, bX8_copy_167, cX8_finding_c, tX8_finding_0, bX8_finding_0, rm, rmm, rm3, rB54, rE54, rE55, s_isRowM, q_ltn i 0, q_ltn j 0, q_ltn c0 0, q_cmpg, q_cmple, q_ladd, q_ti, q_ti0, q_wide, ha', hb', ha8, hb8, hnega, hnegb, hposb, hza, hzb, hmla, hmlb, hnega', hnegb', hposb', hll, hmma, hmmb, Classical.not_not, q_up_s, q_up_n, q_up_up, q_upd_s, q_upd_n, q_upd_upd, q_in, q_in0, q_in1, q_cl, q_cl0, q_cl1, q_add, q_add1, q_1add, q_add0, q_0add, q_mul, q_ite0, q_ite01, q_10, or_true, not_false_eq_true, not_true_eq_false, q_n0, ne_eq, sx_o, Sum.inr.injEq, Prod.mk.injEq, exists_eq', Nat.reduceLT, false_implies, true_implies, true_and, and_true, not_true_eq_false, not_false_eq_true, Bool.false_eq_true]
              have hX2 : IV (sx_up hB 53 (g_m 0 (nI 2) (nI k) (nI tp) cu sa tk va fa fp lf (nI t))) := by rw [ehB, ehA, q_up_up]; exact hX (nI 2)
              refine ⟨fun _ => hX2, fun g1 => ⟨fun _ => hX2, fun g2 => ⟨fun _ => hX2, fun g3 => ⟨fun _ => hX2, fun g4 => ⟨fun g5 => absurd ⟨by rw [p_fits_iff]; omega, by rw [p_fits_iff]; omega⟩ hf, fun _ => hX2⟩⟩⟩⟩⟩
            by_cases hfa : p_fits ma i c0 = true
            · have hfb : ¬ p_fits mb j c0 = true := fun z => hf ⟨hfa, z⟩
              simp only [hfa, hfb, false_implies, true_implies, true_and, and_true, not_true_eq_false, not_false_eq_true, Bool.false_eq_true]
              exact hIQ
            · simp only [hfa, false_implies, true_implies, true_and, and_true, not_true_eq_false, not_false_eq_true, Bool.false_eq_true]
              exact hIQ
        · simp (disch := omega) only [hza, hzb, hR4, hlna, hlnb, hll, hR1, e_const, e_lconst, e_il, e_ll, e_al, e_is, e_as, e_ls, e_inc, e_bin, e_div, e_un, e_lbin, e_ldiv, e_lcmp, e_i2l, e_l2i, e_if1, e_if2, e_go, e_sw, e_dupi, e_dupr, e_dup2, e_popi, e_popr, e_get, e_put, e_iald, e_iast, e_zald, e_zast, e_aald, e_aast, e_sld, e_slen, e_newa, e_newq, e_mna, e_new, e_oi, e_cs, e_cv, e_ci, e_min, e_max, e_copy, e_rv, e_ri, e_rz, e_rl, e_run, sx_en, sx_cat, sx_tk, sx_ps, sx_set, sx_setl, sx_dl, sx_m, sx_sw, sx_ft, List.map_cons, List.map_nil, List.getElem?_cons_zero, List.getElem?_cons_succ, List.replicate_succ, List.replicate_zero, List.set_cons_zero, List.set_cons_succ, List.length_cons, List.length_nil, Nat.reduceAdd, Nat.reduceSub, Nat.reduceLeDiff, Nat.reduceLT, Nat.reduceMul, Nat.zero_le, Nat.le_refl, Nat.add_zero, Nat.zero_add, true_and, and_true, true_or, q_up_s, q_up_n, q_up_up, q_upd_s, q_upd_n, q_upd_upd, q_in, q_in0, q_in1, q_cl, q_cl0, q_cl1, q_add, q_add1, q_1add, q_add0, q_0add, q_mul, q_ite0, q_ite01, q_10, or_true, not_false_eq_true, not_true_eq_false, q_n0, ne_eq, false_implies, true_implies, true_and, and_true, not_true_eq_false, not_false_eq_true, Bool.false_eq_true, sx_o, Sum.inr.injEq, Prod.mk.injEq, exists_eq', Nat.reduceLT]
          refine iq_ab ?_
          intro hA ehA
          have rm : hA 53 = g_m th st (nI k) (nI tp) cu sa tk va fa fp lf (nI t) := by rw [ehA]; simp (disch := omega) only [q_up_n]; exact hm
          obtain ⟨hB, ehB⟩ : ∃ z, z = sx_up hA 53 (g_m 0 st (nI k) (nI tp) cu sa tk va fa fp lf (nI t)) := ⟨_, rfl⟩
          have rmm : sx_up hA 53 (g_m 0 st (nI k) (nI tp) cu sa tk va fa fp lf (nI t)) = hB := ehB.symm
          have rm3 : hB 53 = g_m 0 st (nI k) (nI tp) cu sa tk va fa fp lf (nI t) := by rw [ehB]; exact q_up_s _ _ _
          have rm4 : ∃ x1 x2 x3 x4 x5 x6 x7 x8 x9 y1 y2 y3, hB 53 = g_m x1 x2 x3 x4 x5 x6 x7 x8 x9 y1 y2 y3 := ⟨_, _, _, _, _, _, _, _, _, _, _, _, rm3⟩
          have rA54 := (show hA 54 = h 54 by rw [ehA]; simp (disch := omega) only [q_up_n]).trans hM1
          have rB54 := (show hB 54 = hA 54 by rw [ehB]; exact q_up_n (by decide)).trans rA54
          have rE54 := fun (E : sx_E) => (show sx_up hB 53 E 54 = hB 54 from q_up_n (by decide)).trans rB54
          have rA55 := (show hA 55 = h 55 by rw [ehA]; simp (disch := omega) only [q_up_n]).trans hM2
          have rB55 := (show hB 55 = hA 55 by rw [ehB]; exact q_up_n (by decide)).trans rA55
          have rE55 := fun (E : sx_E) => (show sx_up hB 53 E 55 = hB 55 from q_up_n (by decide)).trans rB55
          simp (disch := omega) only [e_const, e_lconst, e_il, e_ll, e_al, e_is, e_as, e_ls, e_inc, e_bin, e_div, e_un, e_lbin, e_ldiv, e_lcmp, e_i2l, e_l2i, e_if1, e_if2, e_go, e_sw, e_dupi, e_dupr, e_dup2, e_popi, e_popr, e_get, e_put, e_iald, e_iast, e_zald, e_zast, e_aald, e_aast, e_sld, e_slen, e_newa, e_newq, e_mna, e_new, e_oi, e_cs, e_cv, e_ci, e_min, e_max, e_copy, e_rv, e_ri, e_rz, e_rl, e_run, sx_en, sx_cat, sx_tk, sx_ps, sx_set, sx_setl, sx_dl, sx_m, sx_sw, sx_ft, List.map_cons, List.map_nil, List.getElem?_cons_zero, List.getElem?_cons_succ, List.replicate_succ, List.replicate_zero, List.set_cons_zero, List.set_cons_succ, List.length_cons, List.length_nil, Nat.reduceAdd, Nat.reduceSub, Nat.reduceLeDiff, Nat.reduceLT, Nat.reduceMul, Nat.zero_le, Nat.le_refl, Nat.add_zero, Nat.zero_add, true_and, and_true, true_or, cX8_copy_c, tX8_copy_0, bX8_copy_0, tX8_copy_19, bX8_copy_19, tX8_copy_22, bX8_copy_22, tX8_copy_45, bX8_copy_45, tX8_copy_51, bX8_copy_51, tX8_copy_72, bX8_copy_72, tX8_copy_121, bX8_copy_121, tX8_copy_127, bX8_copy_127, tX8_copy_137, bX8_copy_137, tX8_copy_138, bX8_copy_138, tX8_copy_160, bX8_copy_160, tX8_copy_167, bX8_copy_167, cX8_finding_c, tX8_finding_0, bX8_finding_0, rm, rmm, rm3, rB54, rE54, rE55, s_isRowM, q_ti, ha', hb', ha8, hb8, hnega, hnegb, hposb, hza, hzb, hmla, hmlb, hnega', hnegb', hposb', hll, q_up_s, q_up_n, q_up_up, q_upd_s, q_upd_n, q_upd_upd, q_in, q_in0, q_in1, q_cl, q_cl0, q_cl1, q_add, q_add1, q_1add, q_add0, q_0add, q_mul, q_ite0, q_ite01, q_10, or_true, not_false_eq_true, not_true_eq_false, q_n0, ne_eq, sx_o, Sum.inr.injEq, Prod.mk.injEq, exists_eq', Nat.reduceLT, false_implies, true_implies, true_and, and_true, not_true_eq_false, not_false_eq_true, Bool.false_eq_true]
          subst ehB; subst ehA
          simp only [q_up_up]
          exact IV_of (IC_st H)
  · by_cases ha : 0 ≤ a.toInt ∧ a.toInt ≤ 7
    · have hb : ¬ (0 ≤ b.toInt ∧ b.toInt ≤ 7) := fun z => hab ⟨ha, z⟩
      simp (disch := omega) only [e_const, e_lconst, e_il, e_ll, e_al, e_is, e_as, e_ls, e_inc, e_bin, e_div, e_un, e_lbin, e_ldiv, e_lcmp, e_i2l, e_l2i, e_if1, e_if2, e_go, e_sw, e_dupi, e_dupr, e_dup2, e_popi, e_popr, e_get, e_put, e_iald, e_iast, e_zald, e_zast, e_aald, e_aast, e_sld, e_slen, e_newa, e_newq, e_mna, e_new, e_oi, e_cs, e_cv, e_ci, e_min, e_max, e_copy, e_rv, e_ri, e_rz, e_rl, e_run, sx_en, sx_cat, sx_tk, sx_ps, sx_set, sx_setl, sx_dl, sx_m, sx_sw, sx_ft, List.map_cons, List.map_nil, List.getElem?_cons_zero, List.getElem?_cons_succ, List.replicate_succ, List.replicate_zero, List.set_cons_zero, List.set_cons_succ, List.length_cons, List.length_nil, Nat.reduceAdd, Nat.reduceSub, Nat.reduceLeDiff, Nat.reduceLT, Nat.reduceMul, Nat.zero_le, Nat.le_refl, Nat.add_zero, Nat.zero_add, true_and, and_true, true_or, cX7_copy_c, tX7_copy_0, bX7_copy_0, tX7_copy_14, bX7_copy_14, tX7_copy_17, bX7_copy_17, h0, s_isRow, ha, hb, q_up_s, q_up_n, q_up_up, q_upd_s, q_upd_n, q_upd_upd, q_in, q_in0, q_in1, q_cl, q_cl0, q_cl1, q_add, q_add1, q_1add, q_add0, q_0add, q_mul, q_ite0, q_ite01, q_10, or_true, not_false_eq_true, not_true_eq_false, q_n0, ne_eq, false_implies, true_implies, true_and, and_true, not_true_eq_false, not_false_eq_true, Bool.false_eq_true, sx_o, Sum.inr.injEq, Prod.mk.injEq, exists_eq', Nat.reduceLT, q_ti0, q_ti, q_lt]
      refine iq_in ?_
      simp (disch := omega) only [e_const, e_lconst, e_il, e_ll, e_al, e_is, e_as, e_ls, e_inc, e_bin, e_div, e_un, e_lbin, e_ldiv, e_lcmp, e_i2l, e_l2i, e_if1, e_if2, e_go, e_sw, e_dupi, e_dupr, e_dup2, e_popi, e_popr, e_get, e_put, e_iald, e_iast, e_zald, e_zast, e_aald, e_aast, e_sld, e_slen, e_newa, e_newq, e_mna, e_new, e_oi, e_cs, e_cv, e_ci, e_min, e_max, e_copy, e_rv, e_ri, e_rz, e_rl, e_run, sx_en, sx_cat, sx_tk, sx_ps, sx_set, sx_setl, sx_dl, sx_m, sx_sw, sx_ft, List.map_cons, List.map_nil, List.getElem?_cons_zero, List.getElem?_cons_succ, List.replicate_succ, List.replicate_zero, List.set_cons_zero, List.set_cons_succ, List.length_cons, List.length_nil, Nat.reduceAdd, Nat.reduceSub, Nat.reduceLeDiff, Nat.reduceLT, Nat.reduceMul, Nat.zero_le, Nat.le_refl, Nat.add_zero, Nat.zero_add, true_and, and_true, true_or, cX8_copy_c, tX8_copy_0, bX8_copy_0, tX8_copy_19, bX8_copy_19, tX8_copy_22, bX8_copy_22, tX8_copy_45, bX8_copy_45, tX8_copy_51, bX8_copy_51, tX8_copy_72, bX8_copy_72, tX8_copy_121, bX8_copy_121, tX8_copy_127, bX8_copy_127, tX8_copy_137, bX8_copy_137, tX8_copy_138, bX8_copy_138, tX8_copy_160, bX8_copy_160, tX8_copy_167, bX8_copy_167, hm, hmm, hm3, s_isRowM, q_wide, q_lti0, q_lti, ha, hb, q_up_s, q_up_n, q_up_up, q_upd_s, q_upd_n, q_upd_upd, q_in, q_in0, q_in1, q_cl, q_cl0, q_cl1, q_add, q_add1, q_1add, q_add0, q_0add, q_mul, q_ite0, q_ite01, q_10, or_true, not_false_eq_true, not_true_eq_false, q_n0, ne_eq, sx_o, Sum.inr.injEq, Prod.mk.injEq, exists_eq', Nat.reduceLT, false_implies, true_implies, true_and, and_true, not_true_eq_false, not_false_eq_true, Bool.false_eq_true]
      first | exact IV_of hIC | exact ⟨rfl, rfl, IV_of hIC⟩ | (simp; done) | (simp; intros; exact IV_of hIC)
    · simp (disch := omega) only [e_const, e_lconst, e_il, e_ll, e_al, e_is, e_as, e_ls, e_inc, e_bin, e_div, e_un, e_lbin, e_ldiv, e_lcmp, e_i2l, e_l2i, e_if1, e_if2, e_go, e_sw, e_dupi, e_dupr, e_dup2, e_popi, e_popr, e_get, e_put, e_iald, e_iast, e_zald, e_zast, e_aald, e_aast, e_sld, e_slen, e_newa, e_newq, e_mna, e_new, e_oi, e_cs, e_cv, e_ci, e_min, e_max, e_copy, e_rv, e_ri, e_rz, e_rl, e_run, sx_en, sx_cat, sx_tk, sx_ps, sx_set, sx_setl, sx_dl, sx_m, sx_sw, sx_ft, List.map_cons, List.map_nil, List.getElem?_cons_zero, List.getElem?_cons_succ, List.replicate_succ, List.replicate_zero, List.set_cons_zero, List.set_cons_succ, List.length_cons, List.length_nil, Nat.reduceAdd, Nat.reduceSub, Nat.reduceLeDiff, Nat.reduceLT, Nat.reduceMul, Nat.zero_le, Nat.le_refl, Nat.add_zero, Nat.zero_add, true_and, and_true, true_or, cX7_copy_c, tX7_copy_0, bX7_copy_0, tX7_copy_14, bX7_copy_14, tX7_copy_17, bX7_copy_17, h0, s_isRow, ha, q_up_s, q_up_n, q_up_up, q_upd_s, q_upd_n, q_upd_upd, q_in, q_in0, q_in1, q_cl, q_cl0, q_cl1, q_add, q_add1, q_1add, q_add0, q_0add, q_mul, q_ite0, q_ite01, q_10, or_true, not_false_eq_true, not_true_eq_false, q_n0, ne_eq, false_implies, true_implies, true_and, and_true, not_true_eq_false, not_false_eq_true, Bool.false_eq_true, sx_o, Sum.inr.injEq, Prod.mk.injEq, exists_eq', Nat.reduceLT, q_ti0, q_ti, q_lt]
      refine iq_in ?_
      simp (disch := omega) only [e_const, e_lconst, e_il, e_ll, e_al, e_is, e_as, e_ls, e_inc, e_bin, e_div, e_un, e_lbin, e_ldiv, e_lcmp, e_i2l, e_l2i, e_if1, e_if2, e_go, e_sw, e_dupi, e_dupr, e_dup2, e_popi, e_popr, e_get, e_put, e_iald, e_iast, e_zald, e_zast, e_aald, e_aast, e_sld, e_slen, e_newa, e_newq, e_mna, e_new, e_oi, e_cs, e_cv, e_ci, e_min, e_max, e_copy, e_rv, e_ri, e_rz, e_rl, e_run, sx_en, sx_cat, sx_tk, sx_ps, sx_set, sx_setl, sx_dl, sx_m, sx_sw, sx_ft, List.map_cons, List.map_nil, List.getElem?_cons_zero, List.getElem?_cons_succ, List.replicate_succ, List.replicate_zero, List.set_cons_zero, List.set_cons_succ, List.length_cons, List.length_nil, Nat.reduceAdd, Nat.reduceSub, Nat.reduceLeDiff, Nat.reduceLT, Nat.reduceMul, Nat.zero_le, Nat.le_refl, Nat.add_zero, Nat.zero_add, true_and, and_true, true_or, cX8_copy_c, tX8_copy_0, bX8_copy_0, tX8_copy_19, bX8_copy_19, tX8_copy_22, bX8_copy_22, tX8_copy_45, bX8_copy_45, tX8_copy_51, bX8_copy_51, tX8_copy_72, bX8_copy_72, tX8_copy_121, bX8_copy_121, tX8_copy_127, bX8_copy_127, tX8_copy_137, bX8_copy_137, tX8_copy_138, bX8_copy_138, tX8_copy_160, bX8_copy_160, tX8_copy_167, bX8_copy_167, hm, hmm, hm3, s_isRowM, q_wide, q_lti0, q_lti, ha, q_up_s, q_up_n, q_up_up, q_upd_s, q_upd_n, q_upd_upd, q_in, q_in0, q_in1, q_cl, q_cl0, q_cl1, q_add, q_add1, q_1add, q_add0, q_0add, q_mul, q_ite0, q_ite01, q_10, or_true, not_false_eq_true, not_true_eq_false, q_n0, ne_eq, sx_o, Sum.inr.injEq, Prod.mk.injEq, exists_eq', Nat.reduceLT, false_implies, true_implies, true_and, and_true, not_true_eq_false, not_false_eq_true, Bool.false_eq_true]
      first | exact IV_of hIC | exact ⟨rfl, rfl, IV_of hIC⟩ | (simp; done) | (simp; intros; exact IV_of hIC)
