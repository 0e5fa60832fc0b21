/-! the acts that are kept
-/
set_option maxRecDepth 100000 in
set_option maxHeartbeats 4000000 in
theorem q_divn {a b : Nat} (ha : a < 2147483648) (hb : b < 2147483648) (h0 : 0 < b) : nI a / nI b = nI (a / b) := by
  apply Int32.toInt_inj.mp
  have hd : a / b ≤ a := Nat.div_le_self a b
  have e : ((a : Int)).tdiv (b : Int) = ((a / b : Nat) : Int) := by
    rw [Int.tdiv_eq_ediv_of_nonneg (by omega)]; exact (Int.natCast_ediv a b).symm
  have h3 : a / b < 2147483648 := by omega
  rw [Int32.toInt_div, nI_toInt ha, nI_toInt hb, nI_toInt h3, e]
  generalize a / b = w at h3
  exact Int.bmod_eq_of_le (by omega) (by omega)
set_option maxRecDepth 100000 in
set_option maxHeartbeats 4000000 in
theorem q_modn {a b : Nat} (ha : a < 2147483648) (hb : b < 2147483648) (h0 : 0 < b) : nI a - nI a / nI b * nI b = nI (a % b) := by
  have h1 : a / b * b ≤ a := Nat.div_mul_le_self a b
  rw [q_divn ha hb h0, q_mul, nI_sub h1]
  congr 1
  have := Nat.div_add_mod a b
  rw [Nat.mul_comm] at this
  omega
set_option maxRecDepth 100000 in
set_option maxHeartbeats 4000000 in
theorem q_mod24 {a : Nat} (ha : a < 2147483648) : nI a - nI a / nI 24 * nI 24 = nI (a % 24) := q_modn ha (by omega) (by omega)
set_option maxRecDepth 100000 in
set_option maxHeartbeats 4000000 in
theorem cpy62 {f g : Nat → Int32} (hf : ∀ j, 62 ≤ j → f j = 0) (hg : ∀ j, 62 ≤ j → g j = 0) : va_cpy f g 0 0 62 = f := by
  funext j
  rw [cpy_cpf, cpf]
  by_cases h : 0 ≤ j ∧ j < 0 + 62
  · rw [if_pos h]; show f (0 + (j - 0)) = f j; congr 1; omega
  · rw [if_neg h, hf j (by omega), hg j (by omega)]
def p_keep (k : Nat) (acts : Nat → Nat → Int32) (f : Nat → Int32) : Nat → Nat → Int32 := fun j => if k < 24 then (if j = k then f else acts j) else (if j = 23 then f else acts (j + 1))
set_option maxRecDepth 100000 in
set_option maxHeartbeats 4000000 in
theorem q_ltz {x : Nat} (h : x < 2147483648) : (nI x < 0) = False := eq_false (by rw [q_lt, q_ti h, q_ti0]; omega)
set_option maxRecDepth 100000 in
set_option maxHeartbeats 4000000 in
theorem q_ltz0 : ((0 : Int32) < 0) = False := eq_false (by decide +kernel)
section AC
variable {h : sx_H} {Q : sx_Q} {f : Nat → Int32}
set_option maxRecDepth 100000 in
set_option maxHeartbeats 4000000 in
theorem s_becomes {b q o q2 n : Nat} {g : Nat → Int32} (hb : h b = sx_o 2 [sx_r (some q)]) (hq : h q = sx_ai 62 f) (ho : h o = sx_o 2 [sx_r (some q2)]) (hq2 : h q2 = sx_ai 62 g) (hf : ∀ j, 62 ≤ j → f j = 0) (hg : ∀ j, 62 ≤ j → g j = 0) (h1 : b < n) (h2 : q < n) (h3 : o < n) (h4 : q2 < n) (hQ : Q none n (sx_up h q (sx_ai 62 g))) : sx_Cal 22 [sx_r (some b), sx_r (some o)] n h Q := by
  simp (disch := omega) only [e_const, e_lconst, e_il, e_ll, e_al, e_is, e_as, e_ls, e_inc, e_bin, e_div, e_un, e_lbin, e_ldiv, e_lcmp, e_i2l, e_l2i, e_if1, e_if2, e_go, e_sw, e_dupi, e_dupr, e_dup2, e_popi, e_popr, e_get, e_put, e_iald, e_iast, e_zald, e_zast, e_aald, e_aast, e_sld, e_slen, e_newa, e_newq, e_mna, e_new, e_oi, e_cs, e_cv, e_ci, e_min, e_max, e_copy, e_rv, e_ri, e_rz, e_rl, e_run, sx_en, sx_cat, sx_tk, sx_ps, sx_set, sx_setl, sx_dl, sx_m, sx_sw, sx_ft, List.map_cons, List.map_nil, List.getElem?_cons_zero, List.getElem?_cons_succ, List.replicate_succ, List.replicate_zero, List.set_cons_zero, List.set_cons_succ, List.length_cons, List.length_nil, Nat.reduceAdd, Nat.reduceSub, Nat.reduceLeDiff, Nat.reduceLT, Nat.reduceMul, Nat.zero_le, Nat.le_refl, Nat.add_zero, Nat.zero_add, true_and, and_true, true_or, cX2_becomes_c, tX2_becomes_0, bX2_becomes_0, hb, hq, ho, hq2, h1, h2, h3, h4, q_ltz, q_ltz0, q_up_s, q_up_n, q_up_up, q_upd_s, q_upd_n, q_upd_upd, q_in, q_in0, q_in1, q_cl, q_cl0, q_cl1, q_add, q_add1, q_1add, q_add0, q_0add, q_mul, q_ite0, q_ite01, q_10, or_true, not_false_eq_true, not_true_eq_false, q_n0, ne_eq, false_implies, true_implies, true_and, and_true, not_true_eq_false, not_false_eq_true, Bool.false_eq_true, cpy62 hg hf]
  exact hQ
set_option maxRecDepth 100000 in
set_option maxHeartbeats 4000000 in
theorem s_keep {k : Nat} {acts : Nat → Nat → Int32} (hA : XA k acts h) (hk : k ≤ 24) (hb : h 15 = sx_o 2 [sx_r (some 16)]) (hq : h 16 = sx_ai 62 f) (hf : ∀ j, 62 ≤ j → f j = 0) (hQ : ∀ h', XA (min (k + 1) 24) (p_keep k acts f) h' → (∀ j, ¬ (19 ≤ j ∧ j < 45) → h' j = h j) → Q none 65 h') : sx_Cal 2 [sx_r (some 19), sx_r (some 15)] 65 h Q := by
  obtain ⟨nx, hnx, hA1, hA2, hA3, hA4⟩ := hA
  obtain ⟨g, hg1, hg2⟩ := hA3 nx hnx
  have hp : 21 + nx < 65 := by omega
  simp (disch := omega) only [e_const, e_lconst, e_il, e_ll, e_al, e_is, e_as, e_ls, e_inc, e_bin, e_div, e_un, e_lbin, e_ldiv, e_lcmp, e_i2l, e_l2i, e_if1, e_if2, e_go, e_sw, e_dupi, e_dupr, e_dup2, e_popi, e_popr, e_get, e_put, e_iald, e_iast, e_zald, e_zast, e_aald, e_aast, e_sld, e_slen, e_newa, e_newq, e_mna, e_new, e_oi, e_cs, e_cv, e_ci, e_min, e_max, e_copy, e_rv, e_ri, e_rz, e_rl, e_run, sx_en, sx_cat, sx_tk, sx_ps, sx_set, sx_setl, sx_dl, sx_m, sx_sw, sx_ft, List.map_cons, List.map_nil, List.getElem?_cons_zero, List.getElem?_cons_succ, List.replicate_succ, List.replicate_zero, List.set_cons_zero, List.set_cons_succ, List.length_cons, List.length_nil, Nat.reduceAdd, Nat.reduceSub, Nat.reduceLeDiff, Nat.reduceLT, Nat.reduceMul, Nat.zero_le, Nat.le_refl, Nat.add_zero, Nat.zero_add, true_and, and_true, true_or, cX0_keep_c, tX0_keep_0, bX0_keep_0, hb, hq, hA1, hA2, hg1, hnx, hp, q_ltz, q_ltz0, q_mod24, mn_nI, q_up_s, q_up_n, q_up_up, q_upd_s, q_upd_n, q_upd_upd, q_in, q_in0, q_in1, q_cl, q_cl0, q_cl1, q_add, q_add1, q_1add, q_add0, q_0add, q_mul, q_ite0, q_ite01, q_10, or_true, not_false_eq_true, not_true_eq_false, q_n0, ne_eq, false_implies, true_implies, true_and, and_true, not_true_eq_false, not_false_eq_true, Bool.false_eq_true, cpy62 hf hg2, if_true]
  refine hQ _ ⟨(nx + 1) % 24, by omega, ?_, ?_, fun i hi => ?_, fun j hj => ?_⟩ (fun j hj => ?_)
  · simp (disch := omega) only [q_up_s]
  · simp (disch := omega) only [q_up_n]; exact hA2
  · by_cases q : i = nx
    · subst q; exact ⟨f, by simp (disch := omega) only [q_up_n, q_up_s], hf⟩
    · obtain ⟨g', a, b⟩ := hA3 i hi
      exact ⟨g', by simp (disch := omega) only [q_up_n]; exact a, b⟩
  · by_cases hk24 : k < 24
    · have e : min (k + 1) 24 = k + 1 := by omega
      rw [e] at hj ⊢
      rw [p_keep]
      by_cases q : j = k
      · rw [if_pos hk24, if_pos q, show 21 + ((nx + 1) % 24 + 24 - (k + 1) + j) % 24 = 21 + nx by omega]
        simp (disch := omega) only [q_up_n, q_up_s]
      · rw [if_pos hk24, if_neg q, show 21 + ((nx + 1) % 24 + 24 - (k + 1) + j) % 24 = 21 + (nx + 24 - k + j) % 24 by omega]
        rw [q_up_n (by omega), q_up_n (by omega)]
        exact hA4 j (by omega)
    · have e : min (k + 1) 24 = 24 := by omega
      rw [e] at hj ⊢
      rw [p_keep]
      by_cases q : j = 23
      · rw [if_neg hk24, if_pos q, show 21 + ((nx + 1) % 24 + 24 - 24 + j) % 24 = 21 + nx by omega]
        simp (disch := omega) only [q_up_n, q_up_s]
      · rw [if_neg hk24, if_neg q, show 21 + ((nx + 1) % 24 + 24 - 24 + j) % 24 = 21 + (nx + 24 - k + (j + 1)) % 24 by omega]
        rw [q_up_n (by omega), q_up_n (by omega)]
        exact hA4 (j + 1) (by omega)
  · simp (disch := omega) only [q_up_n]
set_option maxRecDepth 100000 in
set_option maxHeartbeats 4000000 in
theorem s_takeBack {k : Nat} {acts : Nat → Nat → Int32} (hA : XA k acts h) (hk : k ≤ 24) (hk0 : 0 < k) (hb : h 15 = sx_o 2 [sx_r (some 16)]) (hq : h 16 = sx_ai 62 f) (hf : ∀ j, 62 ≤ j → f j = 0) (ha : ∀ j, 62 ≤ j → acts (k - 1) j = 0) (hQ : ∀ h', XA (k - 1) acts h' → h' 16 = sx_ai 62 (acts (k - 1)) → (∀ j, j ≠ 16 → ¬ (19 ≤ j ∧ j < 45) → h' j = h j) → Q (some (sx_i (nI (k - 1)))) 65 h') : sx_Cal 3 [sx_r (some 19), sx_r (some 15)] 65 h Q := by
  obtain ⟨nx, hnx, hA1, hA2, hA3, hA4⟩ := hA
  have hg1 := hA4 (k - 1) (by omega)
  rw [show (nx + 24 - k + (k - 1)) % 24 = (nx + 24 - 1) % 24 by omega] at hg1
  have hp : 21 + (nx + 24 - 1) % 24 < 65 := by omega
  have hp2 : (nx + 24 - 1) % 24 < 24 := by omega
  simp (disch := omega) only [e_const, e_lconst, e_il, e_ll, e_al, e_is, e_as, e_ls, e_inc, e_bin, e_div, e_un, e_lbin, e_ldiv, e_lcmp, e_i2l, e_l2i, e_if1, e_if2, e_go, e_sw, e_dupi, e_dupr, e_dup2, e_popi, e_popr, e_get, e_put, e_iald, e_iast, e_zald, e_zast, e_aald, e_aast, e_sld, e_slen, e_newa, e_newq, e_mna, e_new, e_oi, e_cs, e_cv, e_ci, e_min, e_max, e_copy, e_rv, e_ri, e_rz, e_rl, e_run, sx_en, sx_cat, sx_tk, sx_ps, sx_set, sx_setl, sx_dl, sx_m, sx_sw, sx_ft, List.map_cons, List.map_nil, List.getElem?_cons_zero, List.getElem?_cons_succ, List.replicate_succ, List.replicate_zero, List.set_cons_zero, List.set_cons_succ, List.length_cons, List.length_nil, Nat.reduceAdd, Nat.reduceSub, Nat.reduceLeDiff, Nat.reduceLT, Nat.reduceMul, Nat.zero_le, Nat.le_refl, Nat.add_zero, Nat.zero_add, true_and, and_true, true_or, cX0_takeBack_c, tX0_takeBack_0, bX0_takeBack_0, hb, hq, hA1, hA2, hg1, hp, hp2, q_ltz, q_ltz0, q_mod24, nI_sub1, q_up_s, q_up_n, q_up_up, q_upd_s, q_upd_n, q_upd_upd, q_in, q_in0, q_in1, q_cl, q_cl0, q_cl1, q_add, q_add1, q_1add, q_add0, q_0add, q_mul, q_ite0, q_ite01, q_10, or_true, not_false_eq_true, not_true_eq_false, q_n0, ne_eq, false_implies, true_implies, true_and, and_true, not_true_eq_false, not_false_eq_true, Bool.false_eq_true, cpy62 ha hf, if_true]
  refine hQ _ ⟨(nx + 24 - 1) % 24, by omega, ?_, ?_, fun i hi => ?_, fun j hj => ?_⟩ ?_ (fun j hj1 hj2 => ?_)
  · simp (disch := omega) only [q_up_s]
  · simp (disch := omega) only [q_up_n]; exact hA2
  · obtain ⟨g', a, b⟩ := hA3 i hi
    exact ⟨g', by simp (disch := omega) only [q_up_n]; exact a, b⟩
  · rw [show 21 + ((nx + 24 - 1) % 24 + 24 - (k - 1) + j) % 24 = 21 + (nx + 24 - k + j) % 24 by omega]
    simp (disch := omega) only [q_up_n]
    exact hA4 j (by omega)
  · simp (disch := omega) only [q_up_n, q_up_s]
  · simp (disch := omega) only [q_up_n]
end AC
