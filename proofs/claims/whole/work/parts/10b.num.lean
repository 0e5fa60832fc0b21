/-! numbers, cells -/
set_option maxRecDepth 100000 in
set_option maxHeartbeats 4000000 in
theorem q_up_at (h : sx_H) (k : Nat) (e : sx_E) (j : Nat) : sx_up h k e j = if j = k then e else h j := rfl
set_option maxRecDepth 100000 in
set_option maxHeartbeats 4000000 in
theorem q_up_s (h : sx_H) (k : Nat) (e : sx_E) : sx_up h k e k = e := by simp [sx_up]
set_option maxRecDepth 100000 in
set_option maxHeartbeats 4000000 in
theorem q_up_n {h : sx_H} {k j : Nat} {e : sx_E} (hj : j ≠ k) : sx_up h k e j = h j := by simp [sx_up, hj]
set_option maxRecDepth 100000 in
set_option maxHeartbeats 4000000 in
theorem q_up_up (h : sx_H) (k : Nat) (e e' : sx_E) : sx_up (sx_up h k e) k e' = sx_up h k e' := by
  funext j; by_cases hj : j = k <;> simp [sx_up, hj]
set_option maxRecDepth 100000 in
set_option maxHeartbeats 4000000 in
theorem q_up_id {h : sx_H} {k : Nat} {e : sx_E} (hk : h k = e) : sx_up h k e = h := by
  funext j; by_cases hj : j = k
  · subst hj; simp [sx_up, hk]
  · simp [sx_up, hj]
set_option maxRecDepth 100000 in
set_option maxHeartbeats 4000000 in
theorem q_up_sw {h : sx_H} {k j : Nat} {e e' : sx_E} (hj : k ≠ j) : sx_up (sx_up h k e) j e' = sx_up (sx_up h j e') k e := by
  funext i
  by_cases h1 : i = k <;> by_cases h2 : i = j
  · omega
  · subst h1; simp [sx_up, h2]
  · subst h2; simp [sx_up, h1]
  · simp [sx_up, h1, h2]
set_option maxRecDepth 100000 in
set_option maxHeartbeats 4000000 in
theorem q_upd_at (f : Nat → Int32) (k : Nat) (x : Int32) (j : Nat) : upd f k x j = if j = k then x else f j := rfl
set_option maxRecDepth 100000 in
set_option maxHeartbeats 4000000 in
theorem q_upd_upd (f : Nat → Int32) (k : Nat) (x y : Int32) : upd (upd f k x) k y = upd f k y := by
  funext j; by_cases hj : j = k <;> simp [upd, hj]
set_option maxRecDepth 100000 in
set_option maxHeartbeats 4000000 in
theorem q_upd_id {f : Nat → Int32} {k : Nat} {x : Int32} (h : f k = x) : upd f k x = f := by
  funext j; by_cases hj : j = k
  · subst hj; simp [upd, h]
  · simp [upd, hj]
set_option maxRecDepth 100000 in
set_option maxHeartbeats 4000000 in
theorem q_upd_s (f : Nat → Int32) (k : Nat) (x : Int32) : upd f k x k = x := by simp [upd]
set_option maxRecDepth 100000 in
set_option maxHeartbeats 4000000 in
theorem q_upd_n {f : Nat → Int32} {k j : Nat} {x : Int32} (hj : j ≠ k) : upd f k x j = f j := by simp [upd, hj]
set_option maxRecDepth 100000 in
set_option maxHeartbeats 4000000 in
theorem q_n0 {k : Nat} (h : 0 < k) (h2 : k < 2147483648) : (nI k = 0) = False := eq_false (nI_ne0 h h2)
set_option maxRecDepth 100000 in
set_option maxHeartbeats 4000000 in
theorem q_in {k N : Nat} (h : k < N) (hN : N < 2147483648) : vp_in (nI k) N = True := eq_true (vp_in_nI h hN)
set_option maxRecDepth 100000 in
set_option maxHeartbeats 4000000 in
theorem q_in0 {N : Nat} (h : 0 < N) (hN : N < 2147483648) : vp_in 0 N = True := by rw [← nI_0]; exact q_in h hN
set_option maxRecDepth 100000 in
set_option maxHeartbeats 4000000 in
theorem q_in1 {N : Nat} (h : 1 < N) (hN : N < 2147483648) : vp_in 1 N = True := by rw [show (1 : Int32) = nI 1 from by decide +kernel]; exact q_in h hN
set_option maxRecDepth 100000 in
set_option maxHeartbeats 4000000 in
theorem q_cl {k : Nat} (h : k < 2147483648) : (nI k).toNatClampNeg = k := nI_clamp h
set_option maxRecDepth 100000 in
set_option maxHeartbeats 4000000 in
theorem q_cl0 : (0 : Int32).toNatClampNeg = 0 := by decide +kernel
set_option maxRecDepth 100000 in
set_option maxHeartbeats 4000000 in
theorem q_cl1 : (1 : Int32).toNatClampNeg = 1 := by decide +kernel
set_option maxRecDepth 100000 in
set_option maxHeartbeats 4000000 in
theorem q_add (a b : Nat) : nI a + nI b = nI (a + b) := nI_add a b
set_option maxRecDepth 100000 in
set_option maxHeartbeats 4000000 in
theorem q_add1 (a : Nat) : nI a + 1 = nI (a + 1) := nI_1 a
set_option maxRecDepth 100000 in
set_option maxHeartbeats 4000000 in
theorem q_1add (a : Nat) : 1 + nI a = nI (1 + a) := by rw [show (1 : Int32) = nI 1 from by decide +kernel]; exact nI_add 1 a
set_option maxRecDepth 100000 in
set_option maxHeartbeats 4000000 in
theorem q_add0 (x : Int32) : x + 0 = x := by apply Int32.toInt_inj.mp; simp
set_option maxRecDepth 100000 in
set_option maxHeartbeats 4000000 in
theorem q_0add (x : Int32) : 0 + x = x := by apply Int32.toInt_inj.mp; simp
set_option maxRecDepth 100000 in
set_option maxHeartbeats 4000000 in
theorem q_mul (a b : Nat) : nI a * nI b = nI (a * b) := pk_mul a b
set_option maxRecDepth 100000 in
set_option maxHeartbeats 4000000 in
theorem q_ti {k : Nat} (h : k < 2147483648) : (nI k).toInt = (k : Int) := nI_toInt h
set_option maxRecDepth 100000 in
set_option maxHeartbeats 4000000 in
theorem q_ti0 : (0 : Int32).toInt = 0 := by decide +kernel
set_option maxRecDepth 100000 in
set_option maxHeartbeats 4000000 in
theorem q_ti1 : (1 : Int32).toInt = 1 := by decide +kernel
set_option maxRecDepth 100000 in
set_option maxHeartbeats 4000000 in
theorem q_lt (a b : Int32) : (a < b) = (a.toInt < b.toInt) := propext Int32.lt_iff_toInt_lt
set_option maxRecDepth 100000 in
set_option maxHeartbeats 4000000 in
theorem q_le (a b : Int32) : (a ≤ b) = (a.toInt ≤ b.toInt) := propext Int32.le_iff_toInt_le
set_option maxRecDepth 100000 in
set_option maxHeartbeats 4000000 in
theorem q_ltn (a b : Int32) : (a < b) = ¬ (b.toInt ≤ a.toInt) := by rw [q_lt]; exact propext ⟨fun h => by omega, fun h => by omega⟩
set_option maxRecDepth 100000 in
set_option maxHeartbeats 4000000 in
theorem q_llt (a b : Int64) : (a < b) = (a.toInt < b.toInt) := propext Int64.lt_iff_toInt_lt
set_option maxRecDepth 100000 in
set_option maxHeartbeats 4000000 in
theorem q_lle (a b : Int64) : (a ≤ b) = (a.toInt ≤ b.toInt) := propext Int64.le_iff_toInt_le
set_option maxRecDepth 100000 in
set_option maxHeartbeats 4000000 in
theorem q_wide (x : Int32) : x.toInt64.toInt = x.toInt := by simp
set_option maxRecDepth 100000 in
set_option maxHeartbeats 4000000 in
theorem q_lti {k : Nat} (h : k < 2147483648) : (lN k).toInt = (k : Int) := lN_toInt h
set_option maxRecDepth 100000 in
set_option maxHeartbeats 4000000 in
theorem q_lti0 : (0 : Int64).toInt = 0 := by decide +kernel
set_option maxRecDepth 100000 in
set_option maxHeartbeats 4000000 in
theorem q_lti1 : (1 : Int64).toInt = 1 := by decide +kernel
set_option maxRecDepth 100000 in
set_option maxHeartbeats 4000000 in
theorem q_cmpl (x y : Int64) : (lg_cmp x y < 0) = ¬ (y.toInt ≤ x.toInt) := by
  unfold lg_cmp
  have e : (x > y) = (y.toInt < x.toInt) := q_llt y x
  have e2 : (x = y) = (x.toInt = y.toInt) := propext ⟨fun h => by rw [h], fun h => Int64.toInt_inj.mp h⟩
  simp only [e, e2]
  split
  · refine propext ⟨fun h => absurd h (by decide +kernel), fun h => by omega⟩
  · split
    · refine propext ⟨fun h => absurd h (by decide +kernel), fun h => by omega⟩
    · refine propext ⟨fun _ => by omega, fun _ => by decide +kernel⟩
set_option maxRecDepth 100000 in
set_option maxHeartbeats 4000000 in
theorem q_cmpg (x y : Int64) : (0 < lg_cmp x y) = ¬ (x.toInt ≤ y.toInt) := by
  unfold lg_cmp
  have e : (x > y) = (y.toInt < x.toInt) := q_llt y x
  have e2 : (x = y) = (x.toInt = y.toInt) := propext ⟨fun h => by rw [h], fun h => Int64.toInt_inj.mp h⟩
  simp only [e, e2]
  split
  · rename_i h1; refine propext ⟨fun _ => by omega, fun _ => by decide +kernel⟩
  · split
    · refine propext ⟨fun h => absurd h (by decide +kernel), fun h => by omega⟩
    · refine propext ⟨fun h => absurd h (by decide +kernel), fun h => by omega⟩
set_option maxRecDepth 100000 in
set_option maxHeartbeats 4000000 in
theorem q_ite0 {c : Prop} [Decidable c] : ((if c then (1 : Int32) else 0) = 0) = ¬ c := by
  by_cases h : c
  · simp only [if_pos h]; exact propext ⟨fun q => absurd q (by decide +kernel), fun q => absurd h q⟩
  · simp only [if_neg h]; exact propext ⟨fun _ => h, fun _ => trivial⟩
set_option maxRecDepth 100000 in
set_option maxHeartbeats 4000000 in
theorem q_ite01 {c : Prop} [Decidable c] : ((if c then (1 : Int32) else 0) = 0 ∨ (if c then (1 : Int32) else 0) = 1) = True := by
  by_cases h : c
  · simp only [if_pos h]; exact eq_true (Or.inr trivial)
  · simp only [if_neg h]; exact eq_true (Or.inl trivial)
set_option maxRecDepth 100000 in
set_option maxHeartbeats 4000000 in
theorem q_10 : ((1 : Int32) = 0) = False := eq_false (by decide +kernel)
/-! an argument is a number of a range, or not -/
set_option maxRecDepth 100000 in
set_option maxHeartbeats 4000000 in
theorem q_arg (x : Int32) (m : Nat) (hm : m < 2147483648) : (∃ k : Nat, k < m ∧ x = nI k) ∨ ¬ (0 ≤ x.toInt ∧ x.toInt < m) := by
  by_cases h : 0 ≤ x.toInt ∧ x.toInt < m
  · refine Or.inl ⟨x.toInt.toNat, by omega, Int32.toInt_inj.mp ?_⟩
    rw [nI_toInt (by omega)]; omega
  · exact Or.inr h
/-! leaves -/
set_option maxRecDepth 100000 in
set_option maxHeartbeats 4000000 in
theorem s_within (v lo hi : Int32) (n : Nat) (h : sx_H) (Q : sx_Q) : sx_Cal 121 [sx_i v, sx_i lo, sx_i hi] n h Q = Q (some (sx_i (if lo.toInt ≤ v.toInt ∧ v.toInt ≤ hi.toInt then 1 else 0))) n h := by
  simp only [e_const, e_lconst, e_il, e_ll, e_al, e_is, e_as, e_ls, e_inc, e_bin, e_div, e_un, e_lbin, e_ldiv, e_lcmp, e_i2l, e_l2i, e_if1, e_if2, e_go, e_sw, e_dupi, e_dupr, e_dup2, e_popi, e_popr, e_get, e_put, e_iald, e_iast, e_zald, e_zast, e_aald, e_aast, e_sld, e_slen, e_newa, e_newq, e_mna, e_new, e_oi, e_cs, e_cv, e_ci, e_min, e_max, e_copy, e_rv, e_ri, e_rz, e_rl, e_run, sx_en, sx_cat, sx_tk, sx_ps, sx_set, sx_setl, sx_dl, sx_m, sx_sw, sx_ft, List.map_cons, List.map_nil, List.getElem?_cons_zero, List.getElem?_cons_succ, List.replicate_succ, List.replicate_zero, List.set_cons_zero, List.set_cons_succ, List.length_cons, List.length_nil, Nat.reduceAdd, Nat.reduceSub, Nat.reduceLeDiff, Nat.reduceLT, Nat.reduceMul, Nat.zero_le, Nat.le_refl, Nat.add_zero, Nat.zero_add, true_and, and_true, true_or, cX7_within_c, tX7_within_0, bX7_within_0, tX7_within_14, bX7_within_14, tX7_within_15, bX7_within_15, q_ltn]
  by_cases h1 : lo.toInt ≤ v.toInt <;> by_cases h2 : v.toInt ≤ hi.toInt <;> simp [h1, h2]
set_option maxRecDepth 100000 in
set_option maxHeartbeats 4000000 in
theorem s_isRow (r : Int32) (n : Nat) (h : sx_H) (Q : sx_Q) : sx_Cal 62 [sx_i r] n h Q = Q (some (sx_i (if 0 ≤ r.toInt ∧ r.toInt ≤ 7 then 1 else 0))) n h := by
  have e : (8 : Int) ≤ r.toInt ↔ ¬ r.toInt ≤ 7 := by omega
  simp only [e_const, e_lconst, e_il, e_ll, e_al, e_is, e_as, e_ls, e_inc, e_bin, e_div, e_un, e_lbin, e_ldiv, e_lcmp, e_i2l, e_l2i, e_if1, e_if2, e_go, e_sw, e_dupi, e_dupr, e_dup2, e_popi, e_popr, e_get, e_put, e_iald, e_iast, e_zald, e_zast, e_aald, e_aast, e_sld, e_slen, e_newa, e_newq, e_mna, e_new, e_oi, e_cs, e_cv, e_ci, e_min, e_max, e_copy, e_rv, e_ri, e_rz, e_rl, e_run, sx_en, sx_cat, sx_tk, sx_ps, sx_set, sx_setl, sx_dl, sx_m, sx_sw, sx_ft, List.map_cons, List.map_nil, List.getElem?_cons_zero, List.getElem?_cons_succ, List.replicate_succ, List.replicate_zero, List.set_cons_zero, List.set_cons_succ, List.length_cons, List.length_nil, Nat.reduceAdd, Nat.reduceSub, Nat.reduceLeDiff, Nat.reduceLT, Nat.reduceMul, Nat.zero_le, Nat.le_refl, Nat.add_zero, Nat.zero_add, true_and, and_true, true_or, cX5_isRow_c, tX5_isRow_0, bX5_isRow_0, tX5_isRow_14, bX5_isRow_14, tX5_isRow_15, bX5_isRow_15, q_ltn, q_le, q_ti0, q_ti (show 8 < 2147483648 by decide)]
  by_cases h1 : 0 ≤ r.toInt <;> by_cases h2 : r.toInt ≤ 7 <;> simp [h1, h2, e]
set_option maxRecDepth 100000 in
set_option maxHeartbeats 4000000 in
theorem s_in (v lo hi : Int64) (n : Nat) (h : sx_H) (Q : sx_Q) : sx_Cal 124 [sx_l v, sx_l lo, sx_l hi] n h Q = Q (some (sx_i (if lo.toInt ≤ v.toInt ∧ v.toInt ≤ hi.toInt then 1 else 0))) n h := by
  simp only [e_const, e_lconst, e_il, e_ll, e_al, e_is, e_as, e_ls, e_inc, e_bin, e_div, e_un, e_lbin, e_ldiv, e_lcmp, e_i2l, e_l2i, e_if1, e_if2, e_go, e_sw, e_dupi, e_dupr, e_dup2, e_popi, e_popr, e_get, e_put, e_iald, e_iast, e_zald, e_zast, e_aald, e_aast, e_sld, e_slen, e_newa, e_newq, e_mna, e_new, e_oi, e_cs, e_cv, e_ci, e_min, e_max, e_copy, e_rv, e_ri, e_rz, e_rl, e_run, sx_en, sx_cat, sx_tk, sx_ps, sx_set, sx_setl, sx_dl, sx_m, sx_sw, sx_ft, List.map_cons, List.map_nil, List.getElem?_cons_zero, List.getElem?_cons_succ, List.replicate_succ, List.replicate_zero, List.set_cons_zero, List.set_cons_succ, List.length_cons, List.length_nil, Nat.reduceAdd, Nat.reduceSub, Nat.reduceLeDiff, Nat.reduceLT, Nat.reduceMul, Nat.zero_le, Nat.le_refl, Nat.add_zero, Nat.zero_add, true_and, and_true, true_or, cX8_in_c, tX8_in_0, bX8_in_0, tX8_in_17, bX8_in_17, tX8_in_18, bX8_in_18, q_cmpl, q_cmpg]
  by_cases h1 : lo.toInt ≤ v.toInt <;> by_cases h2 : v.toInt ≤ hi.toInt <;> simp [h1, h2]
set_option maxRecDepth 100000 in
set_option maxHeartbeats 4000000 in
theorem s_isRowM (r : Int32) (n : Nat) (h : sx_H) (Q : sx_Q) : sx_Cal 126 [sx_i r] n h Q = Q (some (sx_i (if 0 ≤ r.toInt ∧ r.toInt ≤ 7 then 1 else 0))) n h := by
  simp only [e_const, e_lconst, e_il, e_ll, e_al, e_is, e_as, e_ls, e_inc, e_bin, e_div, e_un, e_lbin, e_ldiv, e_lcmp, e_i2l, e_l2i, e_if1, e_if2, e_go, e_sw, e_dupi, e_dupr, e_dup2, e_popi, e_popr, e_get, e_put, e_iald, e_iast, e_zald, e_zast, e_aald, e_aast, e_sld, e_slen, e_newa, e_newq, e_mna, e_new, e_oi, e_cs, e_cv, e_ci, e_min, e_max, e_copy, e_rv, e_ri, e_rz, e_rl, e_run, sx_en, sx_cat, sx_tk, sx_ps, sx_set, sx_setl, sx_dl, sx_m, sx_sw, sx_ft, List.map_cons, List.map_nil, List.getElem?_cons_zero, List.getElem?_cons_succ, List.replicate_succ, List.replicate_zero, List.set_cons_zero, List.set_cons_succ, List.length_cons, List.length_nil, Nat.reduceAdd, Nat.reduceSub, Nat.reduceLeDiff, Nat.reduceLT, Nat.reduceMul, Nat.zero_le, Nat.le_refl, Nat.add_zero, Nat.zero_add, true_and, and_true, true_or, cX8_isRow_c, tX8_isRow_0, bX8_isRow_0, s_in, q_wide, q_lti0, q_lti (show 7 < 2147483648 by decide), q_ite01]
  rfl
