/-! constructors: cells that speak of old cells -/
def p_WF (n : Nat) (h : sx_H) : Prop := ∀ k, k < n → sx_we n (h k)
set_option maxRecDepth 100000 in
set_option maxHeartbeats 4000000 in
theorem wv_mono {n n' : Nat} (hn : n ≤ n') {v : sx_V} (h : sx_wv n v) : sx_wv n' v := by
  match v with
  | .inl _ => exact trivial
  | .inr (.inl _) => exact trivial
  | .inr (.inr none) => exact trivial
  | .inr (.inr (some k)) => exact h.elim (fun z => Or.inl (by omega)) Or.inr
set_option maxRecDepth 100000 in
set_option maxHeartbeats 4000000 in
theorem we_mono {n n' : Nat} (hn : n ≤ n') {e : sx_E} (h : sx_we n e) : sx_we n' e := by
  match e with
  | .inl (_, _, .inl _) => exact trivial
  | .inl (_, _, .inr g) => exact fun i k z => (h i k z).elim (fun z => Or.inl (by omega)) Or.inr
  | .inr (_, fs) => exact fun v hv => wv_mono hn (h v hv)
set_option maxRecDepth 100000 in
set_option maxHeartbeats 4000000 in
theorem WF_new {n : Nat} {h : sx_H} {e : sx_E} (H : p_WF n h) (he : sx_we (n + 1) e) : p_WF (n + 1) (sx_up h n e) := by
  intro k hk
  by_cases z : k = n
  · rw [z, q_up_s]; exact he
  · rw [q_up_n z]; exact we_mono (by omega) (H k (by omega))
set_option maxRecDepth 100000 in
set_option maxHeartbeats 4000000 in
theorem WF_put {n a : Nat} {h : sx_H} {e : sx_E} (H : p_WF n h) (he : sx_we n e) : p_WF n (sx_up h a e) := by
  intro k hk
  by_cases z : k = a
  · rw [z, q_up_s]; exact he
  · rw [q_up_n z]; exact H k hk
set_option maxRecDepth 100000 in
set_option maxHeartbeats 4000000 in
theorem hm_lo {h : sx_H} {n c k j : Nat} (hj : j < n) : sx_hm h n c k j = h j := by unfold sx_hm; rw [if_pos hj]
set_option maxRecDepth 100000 in
set_option maxHeartbeats 4000000 in
theorem hm_n {h : sx_H} {n c k : Nat} : sx_hm h n c k n = sx_ar 3 c (fun i => if i < c then some (n + 1 + i) else none) := by unfold sx_hm; rw [if_neg (by omega), if_pos rfl]
set_option maxRecDepth 100000 in
set_option maxHeartbeats 4000000 in
theorem hm_hi {h : sx_H} {n c k j : Nat} (hj : n < j) : sx_hm h n c k j = sx_ai k (fun _ => 0) := by unfold sx_hm; rw [if_neg (by omega), if_neg (by omega)]
set_option maxRecDepth 100000 in
set_option maxHeartbeats 4000000 in
theorem WF_hm {n c k : Nat} {h : sx_H} (H : p_WF n h) : p_WF (n + 1 + c) (sx_hm h n c k) := by
  intro j hj
  by_cases z : j < n
  · rw [hm_lo z]; exact we_mono (by omega) (H j z)
  · by_cases y : j = n
    · rw [y, hm_n]
      intro i q hq
      change (if i < c then some (n + 1 + i) else none) = some q at hq
      by_cases x : i < c
      · rw [if_pos x] at hq; cases hq; exact Or.inl (by omega)
      · rw [if_neg x] at hq; cases hq
    · rw [hm_hi (by omega)]; exact trivial
set_option maxRecDepth 100000 in
set_option maxHeartbeats 4000000 in
theorem we_ai (n m : Nat) (f : Nat → Int32) : sx_we n (sx_ai m f) := trivial
set_option maxRecDepth 100000 in
set_option maxHeartbeats 4000000 in
theorem wl_0 {n : Nat} : ∀ v, some v ∈ ([] : List (Option sx_V)) → sx_wv n v := fun v hv => by cases hv
set_option maxRecDepth 100000 in
set_option maxHeartbeats 4000000 in
theorem wl_s {n : Nat} {v : sx_V} {t : List (Option sx_V)} (hv : sx_wv n v) (ht : ∀ w, some w ∈ t → sx_wv n w) : ∀ w, some w ∈ some v :: t → sx_wv n w := by
  intro w hw
  rcases List.mem_cons.mp hw with e | e
  · cases e; exact hv
  · exact ht w e
set_option maxRecDepth 100000 in
set_option maxHeartbeats 4000000 in
theorem wl_n {n : Nat} {t : List (Option sx_V)} (ht : ∀ w, some w ∈ t → sx_wv n w) : ∀ w, some w ∈ none :: t → sx_wv n w := by
  intro w hw
  rcases List.mem_cons.mp hw with e | e
  · cases e
  · exact ht w e
set_option maxRecDepth 100000 in
set_option maxHeartbeats 4000000 in
theorem ws_0 {n : Nat} : ∀ v, v ∈ ([] : List sx_V) → sx_wv n v := fun v hv => by cases hv
set_option maxRecDepth 100000 in
set_option maxHeartbeats 4000000 in
theorem ws_c {n : Nat} {v : sx_V} {t : List sx_V} (hv : sx_wv n v) (ht : ∀ w, w ∈ t → sx_wv n w) : ∀ w, w ∈ v :: t → sx_wv n w := by
  intro w hw
  rcases List.mem_cons.mp hw with e | e
  · rw [e]; exact hv
  · exact ht w e
set_option maxRecDepth 100000 in
set_option maxHeartbeats 4000000 in
theorem wr {n a : Nat} (h : a < n) : sx_wv n (sx_r (some a)) := Or.inl h
set_option maxRecDepth 100000 in
set_option maxHeartbeats 4000000 in
theorem wi {n : Nat} {x : Int32} : sx_wv n (sx_i x) := trivial
set_option maxRecDepth 100000 in
set_option maxHeartbeats 4000000 in
theorem wz {n : Nat} : sx_wv n (sx_r none) := trivial
def p_mn (i : Nat) : Nat → Int32 := fun j => if j < i then -1 else 0
set_option maxRecDepth 100000 in
set_option maxHeartbeats 4000000 in
theorem mn_s (i : Nat) : upd (p_mn i) i (-1) = p_mn (i + 1) := by
  funext j
  by_cases h : j = i
  · rw [h, q_upd_s, p_mn, if_pos (by omega)]
  · rw [q_upd_n h, p_mn, p_mn]
    by_cases h2 : j < i
    · rw [if_pos h2, if_pos (by omega)]
    · rw [if_neg h2, if_neg (by omega)]
section IN
variable {n a : Nat} {h : sx_H} {Q : sx_Q}
set_option maxRecDepth 100000 in
set_option maxHeartbeats 4000000 in
theorem s_init2 (hn : n < 1000) (ha : a < n) (h1 : h a = sx_o 2 [sx_r none]) (hw : p_WF n h) (hQ : Q none (n + 1) (sx_up (sx_up h n (sx_ai 62 (fun _ => 0))) a (sx_o 2 [sx_r (some n)]))) : sx_Cal 20 [sx_r (some a)] n h Q := by
  have hsc : n < sx_sc := by show n < 1000000; omega
  have hne : a ≠ n := by omega
  simp (disch := omega) only [e_const, e_lconst, e_il, e_ll, e_al, z_is, z_as, z_ls, z_inc, e_bin, e_div, e_un, e_lbin, e_ldiv, e_lcmp, e_i2l, e_l2i, e_if1, e_if2, z_go, e_sw, e_dupi, e_dupr, e_dup2, e_popi, e_popr, e_get, e_put, e_iald, e_iast, e_zald, e_zast, e_aald, e_aast, e_sld, e_slen, e_newa, e_newq, e_mna, e_new, e_oi, e_cs, e_cv, e_ci, e_min, e_max, e_copy, e_rv, e_ri, e_rz, e_rl, z_run, sx_en, sx_cat, sx_tk, sx_ps, sx_set, sx_setl, sx_dl, sx_m, sx_sw, sx_ft, List.map_cons, List.map_nil, List.getElem?_cons_zero, List.getElem?_cons_succ, List.replicate_succ, List.replicate_zero, List.set_cons_zero, List.set_cons_succ, List.length_cons, List.length_nil, Nat.reduceAdd, Nat.reduceSub, Nat.reduceLeDiff, Nat.reduceLT, Nat.reduceMul, Nat.zero_le, Nat.le_refl, Nat.add_zero, Nat.zero_add, true_and, and_true, true_or, cX2_init_c, tX2_init_0, bX2_init_0, h1, ha, hsc, q_ltz, q_up_s, q_up_n, q_up_up, q_upd_s, q_upd_n, q_upd_upd, q_in, q_in0, q_in1, q_cl, q_cl0, q_cl1, q_add, q_add1, q_1add, q_add0, q_0add, q_mul, q_ite0, q_ite01, q_10, or_true, not_false_eq_true, not_true_eq_false, q_n0, ne_eq, false_implies, true_implies, true_and, and_true, not_true_eq_false, not_false_eq_true, Bool.false_eq_true, sx_o, Sum.inr.injEq, Prod.mk.injEq, exists_eq', Nat.reduceLT]
  exact ⟨⟨wl_s (wr ha) wl_0, ws_c (wr ha) ws_0, hw⟩, by omega, hQ⟩
set_option maxRecDepth 100000 in
set_option maxHeartbeats 4000000 in
theorem s_init5_lp (Rt : sx_R) (kc ks : Nat) : ∀ (k i : Nat) (h : sx_H), i + k = 8 → h 1 = sx_o 4 [sx_r (some 2), sx_r (some 11), sx_r (some 12), sx_i 0] → h 12 = sx_ai 8 (p_mn i) → sx_T BX5_init sx_Cal Rt 53 [some (sx_r (some 1)), none] [] 13 (sx_up h 12 (sx_ai 8 (p_mn 8))) kc ks → sx_T BX5_init sx_Cal Rt 34 [some (sx_r (some 1)), some (sx_i (nI i))] [] 13 h kc ks := by
  intro k
  induction k with
  | zero =>
    intro i h hi h1 h2 hR
    have : i = 8 := by omega
    subst this
    rw [q_up_id h2] at hR
    have hle : (((8 : Nat) : Int) ≤ ((8 : Nat) : Int)) = True := eq_true (by omega)
    rw [tX5_init_34]
    simp (disch := omega) only [e_const, e_lconst, e_il, e_ll, e_al, z_is, z_as, z_ls, z_inc, e_bin, e_div, e_un, e_lbin, e_ldiv, e_lcmp, e_i2l, e_l2i, e_if1, e_if2, z_go, e_sw, e_dupi, e_dupr, e_dup2, e_popi, e_popr, e_get, e_put, e_iald, e_iast, e_zald, e_zast, e_aald, e_aast, e_sld, e_slen, e_newa, e_newq, e_mna, e_new, e_oi, e_cs, e_cv, e_ci, e_min, e_max, e_copy, e_rv, e_ri, e_rz, e_rl, z_run, sx_en, sx_cat, sx_tk, sx_ps, sx_set, sx_setl, sx_dl, sx_m, sx_sw, sx_ft, List.map_cons, List.map_nil, List.getElem?_cons_zero, List.getElem?_cons_succ, List.replicate_succ, List.replicate_zero, List.set_cons_zero, List.set_cons_succ, List.length_cons, List.length_nil, Nat.reduceAdd, Nat.reduceSub, Nat.reduceLeDiff, Nat.reduceLT, Nat.reduceMul, Nat.zero_le, Nat.le_refl, Nat.add_zero, Nat.zero_add, true_and, and_true, true_or, bX5_init_34, q_le (nI 8) (nI 8), q_ti, hle, q_up_s, q_up_n, q_up_up, q_upd_s, q_upd_n, q_upd_upd, q_in, q_in0, q_in1, q_cl, q_cl0, q_cl1, q_add, q_add1, q_1add, q_add0, q_0add, q_mul, q_ite0, q_ite01, q_10, or_true, not_false_eq_true, not_true_eq_false, q_n0, ne_eq, false_implies, true_implies, true_and, and_true, not_true_eq_false, not_false_eq_true, Bool.false_eq_true]
    exact hR
  | succ k ih =>
    intro i h hi h1 h2 hR
    have hle : (((8 : Nat) : Int) ≤ (i : Int)) = False := eq_false (by omega)
    have hi6 : i < 8 := by omega
    rw [tX5_init_34]
    simp (disch := omega) only [e_const, e_lconst, e_il, e_ll, e_al, z_is, z_as, z_ls, z_inc, e_bin, e_div, e_un, e_lbin, e_ldiv, e_lcmp, e_i2l, e_l2i, e_if1, e_if2, z_go, e_sw, e_dupi, e_dupr, e_dup2, e_popi, e_popr, e_get, e_put, e_iald, e_iast, e_zald, e_zast, e_aald, e_aast, e_sld, e_slen, e_newa, e_newq, e_mna, e_new, e_oi, e_cs, e_cv, e_ci, e_min, e_max, e_copy, e_rv, e_ri, e_rz, e_rl, z_run, sx_en, sx_cat, sx_tk, sx_ps, sx_set, sx_setl, sx_dl, sx_m, sx_sw, sx_ft, List.map_cons, List.map_nil, List.getElem?_cons_zero, List.getElem?_cons_succ, List.replicate_succ, List.replicate_zero, List.set_cons_zero, List.set_cons_succ, List.length_cons, List.length_nil, Nat.reduceAdd, Nat.reduceSub, Nat.reduceLeDiff, Nat.reduceLT, Nat.reduceMul, Nat.zero_le, Nat.le_refl, Nat.add_zero, Nat.zero_add, true_and, and_true, true_or, bX5_init_34, h1, h2, hi6, mn_s, q_le (nI 8) (nI i), q_ti, hle, q_up_s, q_up_n, q_up_up, q_upd_s, q_upd_n, q_upd_upd, q_in, q_in0, q_in1, q_cl, q_cl0, q_cl1, q_add, q_add1, q_1add, q_add0, q_0add, q_mul, q_ite0, q_ite01, q_10, or_true, not_false_eq_true, not_true_eq_false, q_n0, ne_eq, false_implies, true_implies, true_and, and_true, not_true_eq_false, not_false_eq_true, Bool.false_eq_true, sx_o, Sum.inr.injEq, Prod.mk.injEq, exists_eq', Nat.reduceLT]
    exact ih (i + 1) _ (by omega) ((q_up_n (by decide)).trans h1) (q_up_s _ _ _) (by rw [q_up_up]; exact hR)
set_option maxRecDepth 100000 in
set_option maxHeartbeats 4000000 in
theorem s_init5 (h1 : h 1 = sx_o 4 [sx_r none, sx_r none, sx_r none, sx_i 0]) (hw : p_WF 2 h) (hQ : ∀ h', h' 1 = sx_o 4 [sx_r (some 2), sx_r (some 11), sx_r (some 12), sx_i 0] → h' 2 = sx_ar 3 8 (fun i => if i < 8 then some (3 + i) else none) → (∀ r, r < 8 → h' (3 + r) = sx_ai 40 (fun _ => 0)) → h' 11 = sx_ai 8 (fun _ => 0) → h' 12 = sx_ai 8 (p_mn 8) → h' 0 = h 0 → p_WF 13 h' → Q none 13 h') : sx_Cal 61 [sx_r (some 1)] 2 h Q := by
  have hs1 : 2 + 8 < sx_sc := by show 10 < 1000000; omega
  have hs2 : 11 < sx_sc := by show 11 < 1000000; omega
  have hs3 : 12 < sx_sc := by show 12 < 1000000; omega
  simp (disch := omega) only [e_const, e_lconst, e_il, e_ll, e_al, z_is, z_as, z_ls, z_inc, e_bin, e_div, e_un, e_lbin, e_ldiv, e_lcmp, e_i2l, e_l2i, e_if1, e_if2, z_go, e_sw, e_dupi, e_dupr, e_dup2, e_popi, e_popr, e_get, e_put, e_iald, e_iast, e_zald, e_zast, e_aald, e_aast, e_sld, e_slen, e_newa, e_newq, e_mna, e_new, e_oi, e_cs, e_cv, e_ci, e_min, e_max, e_copy, e_rv, e_ri, e_rz, e_rl, z_run, sx_en, sx_cat, sx_tk, sx_ps, sx_set, sx_setl, sx_dl, sx_m, sx_sw, sx_ft, List.map_cons, List.map_nil, List.getElem?_cons_zero, List.getElem?_cons_succ, List.replicate_succ, List.replicate_zero, List.set_cons_zero, List.set_cons_succ, List.length_cons, List.length_nil, Nat.reduceAdd, Nat.reduceSub, Nat.reduceLeDiff, Nat.reduceLT, Nat.reduceMul, Nat.zero_le, Nat.le_refl, Nat.add_zero, Nat.zero_add, true_and, and_true, true_or, cX5_init_c, tX5_init_0, bX5_init_0, h1, hs1, hs2, hs3, q_ltz, hm_lo, q_up_s, q_up_n, q_up_up, q_upd_s, q_upd_n, q_upd_upd, q_in, q_in0, q_in1, q_cl, q_cl0, q_cl1, q_add, q_add1, q_1add, q_add0, q_0add, q_mul, q_ite0, q_ite01, q_10, or_true, not_false_eq_true, not_true_eq_false, q_n0, ne_eq, false_implies, true_implies, true_and, and_true, not_true_eq_false, not_false_eq_true, Bool.false_eq_true, sx_o, Sum.inr.injEq, Prod.mk.injEq, exists_eq', Nat.reduceLT]
  have w0 : p_WF 11 (sx_hm h 2 8 40) := WF_hm (c := 8) (k := 40) hw
  have w1 := WF_put (a := 1) (e := sx_o 4 [sx_r (some 2), sx_r none, sx_r none, sx_i 0]) w0 (ws_c (wr (by omega)) (ws_c wz (ws_c wz (ws_c wi ws_0))))
  have w2 := WF_new (e := sx_ai 8 (fun _ => 0)) w1 trivial
  have w3 := WF_put (a := 1) (e := sx_o 4 [sx_r (some 2), sx_r (some 11), sx_r none, sx_i 0]) w2 (ws_c (wr (by omega)) (ws_c (wr (by omega)) (ws_c wz (ws_c wi ws_0))))
  have w4 := WF_new (e := sx_ai 8 (fun _ => 0)) w3 trivial
  have w5 := WF_put (a := 1) (e := sx_o 4 [sx_r (some 2), sx_r (some 11), sx_r (some 12), sx_i 0]) w4 (ws_c (wr (by omega)) (ws_c (wr (by omega)) (ws_c (wr (by omega)) (ws_c wi ws_0))))
  refine ⟨⟨wl_s (wr (by omega)) (wl_n wl_0), ws_c (wr (by omega)) ws_0, hw⟩, ⟨wl_s (wr (by omega)) (wl_n wl_0), ws_c (wr (by omega)) ws_0, w1⟩, ⟨wl_s (wr (by omega)) (wl_n wl_0), ws_c (wr (by omega)) ws_0, w3⟩, ?_⟩
  obtain ⟨hh, ehh⟩ : ∃ z, z = sx_up (sx_up (sx_up (sx_up (sx_up (sx_hm h 2 8 40) 1 (sx_o 4 [sx_r (some 2), sx_r none, sx_r none, sx_i 0])) 11 (sx_ai 8 (fun _ => 0))) 1 (sx_o 4 [sx_r (some 2), sx_r (some 11), sx_r none, sx_i 0])) 12 (sx_ai 8 (fun _ => 0))) 1 (sx_o 4 [sx_r (some 2), sx_r (some 11), sx_r (some 12), sx_i 0]) := ⟨_, rfl⟩
  rw [← ehh] at w5
  have z0 : (fun _ => (0 : Int32)) = p_mn 0 := by
    funext j
    rw [p_mn, if_neg (by omega)]
  have c1 : hh 1 = sx_o 4 [sx_r (some 2), sx_r (some 11), sx_r (some 12), sx_i 0] := by rw [ehh]; exact q_up_s _ _ _
  have c12 : hh 12 = sx_ai 8 (p_mn 0) := by rw [ehh, ← z0]; simp (disch := omega) only [q_up_n, q_up_s]
  have c11 : hh 11 = sx_ai 8 (fun _ => 0) := by rw [ehh]; simp (disch := omega) only [q_up_n, q_up_s]
  have c2 : hh 2 = sx_ar 3 8 (fun i => if i < 8 then some (3 + i) else none) := by rw [ehh]; simp (disch := omega) only [q_up_n]; exact hm_n
  have c3 : ∀ r, r < 8 → hh (3 + r) = sx_ai 40 (fun _ => 0) := fun r hr => by rw [ehh]; simp (disch := omega) only [q_up_n]; exact hm_hi (by omega)
  have c0 : hh 0 = h 0 := by rw [ehh]; simp (disch := omega) only [q_up_n]; exact hm_lo (by omega)
  have key := fun Rt hR => s_init5_lp Rt 11 344 8 0 hh (by omega) c1 c12 hR
  rw [nI_0, ehh] at key
  refine key _ ?_
  rw [← ehh, tX5_init_53]
  have d1 : sx_up hh 12 (sx_ai 8 (p_mn 8)) 1 = sx_o 4 [sx_r (some 2), sx_r (some 11), sx_r (some 12), sx_i 0] := (q_up_n (by decide)).trans c1
  simp (disch := omega) only [e_const, e_lconst, e_il, e_ll, e_al, z_is, z_as, z_ls, z_inc, e_bin, e_div, e_un, e_lbin, e_ldiv, e_lcmp, e_i2l, e_l2i, e_if1, e_if2, z_go, e_sw, e_dupi, e_dupr, e_dup2, e_popi, e_popr, e_get, e_put, e_iald, e_iast, e_zald, e_zast, e_aald, e_aast, e_sld, e_slen, e_newa, e_newq, e_mna, e_new, e_oi, e_cs, e_cv, e_ci, e_min, e_max, e_copy, e_rv, e_ri, e_rz, e_rl, z_run, sx_en, sx_cat, sx_tk, sx_ps, sx_set, sx_setl, sx_dl, sx_m, sx_sw, sx_ft, List.map_cons, List.map_nil, List.getElem?_cons_zero, List.getElem?_cons_succ, List.replicate_succ, List.replicate_zero, List.set_cons_zero, List.set_cons_succ, List.length_cons, List.length_nil, Nat.reduceAdd, Nat.reduceSub, Nat.reduceLeDiff, Nat.reduceLT, Nat.reduceMul, Nat.zero_le, Nat.le_refl, Nat.add_zero, Nat.zero_add, true_and, and_true, true_or, bX5_init_53, d1, c1, q_up_s, q_up_n, q_up_up, q_upd_s, q_upd_n, q_upd_upd, q_in, q_in0, q_in1, q_cl, q_cl0, q_cl1, q_add, q_add1, q_1add, q_add0, q_0add, q_mul, q_ite0, q_ite01, q_10, or_true, not_false_eq_true, not_true_eq_false, q_n0, ne_eq, false_implies, true_implies, true_and, and_true, not_true_eq_false, not_false_eq_true, Bool.false_eq_true, sx_o, Sum.inr.injEq, Prod.mk.injEq, exists_eq', Nat.reduceLT]
  refine hQ _ (q_up_s _ _ _) ?_ (fun r hr => ?_) ?_ ?_ ?_ (WF_put (WF_put w5 trivial) (ws_c (wr (by omega)) (ws_c (wr (by omega)) (ws_c (wr (by omega)) (ws_c wi ws_0)))))
  · simp (disch := omega) only [q_up_n, c2]
  · simp (disch := omega) only [q_up_n, c3 r hr]
  · simp (disch := omega) only [q_up_n, c11]
  · simp (disch := omega) only [q_up_n, q_up_s]
  · simp (disch := omega) only [q_up_n, c0]
set_option maxRecDepth 100000 in
set_option maxHeartbeats 4000000 in
theorem s_init0 (h1 : h 19 = sx_o 0 [sx_r none, sx_i 0, sx_i 0]) (hw : p_WF 20 h) (hQ : ∀ h', h' 19 = sx_o 0 [sx_r (some 20), sx_i 0, sx_i 0] → h' 20 = sx_ar 3 24 (fun i => if i < 24 then some (21 + i) else none) → (∀ r, r < 24 → h' (21 + r) = sx_ai 62 (fun _ => 0)) → (∀ j, j < 19 → h' j = h j) → p_WF 45 h' → Q none 45 h') : sx_Cal 0 [sx_r (some 19)] 20 h Q := by
  have hs1 : 20 + 24 < sx_sc := by show 44 < 1000000; omega
  have w0 : p_WF 45 (sx_hm h 20 24 62) := WF_hm (c := 24) (k := 62) hw
  simp (disch := omega) only [e_const, e_lconst, e_il, e_ll, e_al, z_is, z_as, z_ls, z_inc, e_bin, e_div, e_un, e_lbin, e_ldiv, e_lcmp, e_i2l, e_l2i, e_if1, e_if2, z_go, e_sw, e_dupi, e_dupr, e_dup2, e_popi, e_popr, e_get, e_put, e_iald, e_iast, e_zald, e_zast, e_aald, e_aast, e_sld, e_slen, e_newa, e_newq, e_mna, e_new, e_oi, e_cs, e_cv, e_ci, e_min, e_max, e_copy, e_rv, e_ri, e_rz, e_rl, z_run, sx_en, sx_cat, sx_tk, sx_ps, sx_set, sx_setl, sx_dl, sx_m, sx_sw, sx_ft, List.map_cons, List.map_nil, List.getElem?_cons_zero, List.getElem?_cons_succ, List.replicate_succ, List.replicate_zero, List.set_cons_zero, List.set_cons_succ, List.length_cons, List.length_nil, Nat.reduceAdd, Nat.reduceSub, Nat.reduceLeDiff, Nat.reduceLT, Nat.reduceMul, Nat.zero_le, Nat.le_refl, Nat.add_zero, Nat.zero_add, true_and, and_true, true_or, cX0_init_c, tX0_init_0, bX0_init_0, h1, hs1, q_ltz, hm_lo, q_up_s, q_up_n, q_up_up, q_upd_s, q_upd_n, q_upd_upd, q_in, q_in0, q_in1, q_cl, q_cl0, q_cl1, q_add, q_add1, q_1add, q_add0, q_0add, q_mul, q_ite0, q_ite01, q_10, or_true, not_false_eq_true, not_true_eq_false, q_n0, ne_eq, false_implies, true_implies, true_and, and_true, not_true_eq_false, not_false_eq_true, Bool.false_eq_true, sx_o, Sum.inr.injEq, Prod.mk.injEq, exists_eq', Nat.reduceLT]
  refine ⟨⟨wl_s (wr (by omega)) wl_0, ws_c (wr (by omega)) ws_0, hw⟩, ?_⟩
  refine hQ _ (q_up_s _ _ _) ?_ (fun r hr => ?_) (fun j hj => ?_) (WF_put w0 (ws_c (wr (by omega)) (ws_c wi (ws_c wi ws_0))))
  · simp (disch := omega) only [q_up_n]; exact hm_n
  · simp (disch := omega) only [q_up_n]; exact hm_hi (by omega)
  · simp (disch := omega) only [q_up_n]; exact hm_lo (by omega)
set_option maxRecDepth 100000 in
set_option maxHeartbeats 4000000 in
theorem s_init6 (h1 : h 13 = sx_o 5 [sx_r none, sx_i 0, sx_i 0, sx_i 0, sx_i 0]) (hw : p_WF 14 h) (hQ : ∀ h', h' 13 = sx_o 5 [sx_r (some 14), sx_i 0, sx_i 0, sx_i 0, sx_i 0] → h' 14 = sx_ai 120 (fun _ => 0) → (∀ j, j < 13 → h' j = h j) → p_WF 15 h' → Q none 15 h') : sx_Cal 72 [sx_r (some 13)] 14 h Q := by
  have hs1 : 14 < sx_sc := by show 14 < 1000000; omega
  simp (disch := omega) only [e_const, e_lconst, e_il, e_ll, e_al, z_is, z_as, z_ls, z_inc, e_bin, e_div, e_un, e_lbin, e_ldiv, e_lcmp, e_i2l, e_l2i, e_if1, e_if2, z_go, e_sw, e_dupi, e_dupr, e_dup2, e_popi, e_popr, e_get, e_put, e_iald, e_iast, e_zald, e_zast, e_aald, e_aast, e_sld, e_slen, e_newa, e_newq, e_mna, e_new, e_oi, e_cs, e_cv, e_ci, e_min, e_max, e_copy, e_rv, e_ri, e_rz, e_rl, z_run, sx_en, sx_cat, sx_tk, sx_ps, sx_set, sx_setl, sx_dl, sx_m, sx_sw, sx_ft, List.map_cons, List.map_nil, List.getElem?_cons_zero, List.getElem?_cons_succ, List.replicate_succ, List.replicate_zero, List.set_cons_zero, List.set_cons_succ, List.length_cons, List.length_nil, Nat.reduceAdd, Nat.reduceSub, Nat.reduceLeDiff, Nat.reduceLT, Nat.reduceMul, Nat.zero_le, Nat.le_refl, Nat.add_zero, Nat.zero_add, true_and, and_true, true_or, cX6_init_c, tX6_init_0, bX6_init_0, h1, hs1, q_ltz, q_up_s, q_up_n, q_up_up, q_upd_s, q_upd_n, q_upd_upd, q_in, q_in0, q_in1, q_cl, q_cl0, q_cl1, q_add, q_add1, q_1add, q_add0, q_0add, q_mul, q_ite0, q_ite01, q_10, or_true, not_false_eq_true, not_true_eq_false, q_n0, ne_eq, false_implies, true_implies, true_and, and_true, not_true_eq_false, not_false_eq_true, Bool.false_eq_true, sx_o, Sum.inr.injEq, Prod.mk.injEq, exists_eq', Nat.reduceLT]
  refine ⟨⟨wl_s (wr (by omega)) wl_0, ws_c (wr (by omega)) ws_0, hw⟩, ?_⟩
  refine hQ _ (q_up_s _ _ _) ?_ (fun j hj => ?_) (WF_put (WF_new hw trivial) (ws_c (wr (by omega)) (ws_c wi (ws_c wi (ws_c wi (ws_c wi ws_0))))))
  · simp (disch := omega) only [q_up_n, q_up_s]
  · simp (disch := omega) only [q_up_n]
set_option maxRecDepth 100000 in
set_option maxHeartbeats 4000000 in
theorem s_init1 (h1 : h 46 = sx_o 1 [sx_r none, sx_i 0, sx_r none]) (hw : p_WF 47 h) (hQ : ∀ h', h' 46 = sx_o 1 [sx_r (some 47), sx_i 0, sx_r (some 15)] → h' 47 = sx_ai 16 (fun _ => 0) → (∀ j, j < 46 → h' j = h j) → p_WF 48 h' → Q none 48 h') : sx_Cal 4 [sx_r (some 46), sx_r (some 15)] 47 h Q := by
  have hs1 : 47 < sx_sc := by show 47 < 1000000; omega
  have w0 := WF_put (a := 46) (e := sx_o 1 [sx_r none, sx_i 0, sx_r (some 15)]) hw (ws_c wz (ws_c wi (ws_c (wr (by omega)) ws_0)))
  simp (disch := omega) only [e_const, e_lconst, e_il, e_ll, e_al, z_is, z_as, z_ls, z_inc, e_bin, e_div, e_un, e_lbin, e_ldiv, e_lcmp, e_i2l, e_l2i, e_if1, e_if2, z_go, e_sw, e_dupi, e_dupr, e_dup2, e_popi, e_popr, e_get, e_put, e_iald, e_iast, e_zald, e_zast, e_aald, e_aast, e_sld, e_slen, e_newa, e_newq, e_mna, e_new, e_oi, e_cs, e_cv, e_ci, e_min, e_max, e_copy, e_rv, e_ri, e_rz, e_rl, z_run, sx_en, sx_cat, sx_tk, sx_ps, sx_set, sx_setl, sx_dl, sx_m, sx_sw, sx_ft, List.map_cons, List.map_nil, List.getElem?_cons_zero, List.getElem?_cons_succ, List.replicate_succ, List.replicate_zero, List.set_cons_zero, List.set_cons_succ, List.length_cons, List.length_nil, Nat.reduceAdd, Nat.reduceSub, Nat.reduceLeDiff, Nat.reduceLT, Nat.reduceMul, Nat.zero_le, Nat.le_refl, Nat.add_zero, Nat.zero_add, true_and, and_true, true_or, cX1_init_c, tX1_init_0, bX1_init_0, h1, hs1, q_ltz, q_up_s, q_up_n, q_up_up, q_upd_s, q_upd_n, q_upd_upd, q_in, q_in0, q_in1, q_cl, q_cl0, q_cl1, q_add, q_add1, q_1add, q_add0, q_0add, q_mul, q_ite0, q_ite01, q_10, or_true, not_false_eq_true, not_true_eq_false, q_n0, ne_eq, false_implies, true_implies, true_and, and_true, not_true_eq_false, not_false_eq_true, Bool.false_eq_true, sx_o, Sum.inr.injEq, Prod.mk.injEq, exists_eq', Nat.reduceLT]
  refine ⟨⟨?_, ws_c (wr (by omega)) ws_0, w0⟩, ?_⟩
  · first | exact wl_s (wr (by omega)) (wl_n wl_0) | exact wl_s (wr (by omega)) (wl_s (wr (by omega)) wl_0)
  refine hQ _ (q_up_s _ _ _) ?_ (fun j hj => ?_) (WF_put (WF_new w0 trivial) (ws_c (wr (by omega)) (ws_c wi (ws_c (wr (by omega)) ws_0))))
  · simp (disch := omega) only [q_up_n, q_up_s]
  · simp (disch := omega) only [q_up_n]
set_option maxRecDepth 100000 in
set_option maxHeartbeats 4000000 in
theorem s_init4 (hn : a < n) (h1 : h a = sx_o 3 [sx_r none, sx_r none]) {x y : Nat} (hQ : Q none n (sx_up h a (sx_o 3 [sx_r (some x), sx_r (some y)]))) : sx_Cal 46 [sx_r (some a), sx_r (some x), sx_r (some y)] n h Q := by
  simp (disch := omega) only [e_const, e_lconst, e_il, e_ll, e_al, z_is, z_as, z_ls, z_inc, e_bin, e_div, e_un, e_lbin, e_ldiv, e_lcmp, e_i2l, e_l2i, e_if1, e_if2, z_go, e_sw, e_dupi, e_dupr, e_dup2, e_popi, e_popr, e_get, e_put, e_iald, e_iast, e_zald, e_zast, e_aald, e_aast, e_sld, e_slen, e_newa, e_newq, e_mna, e_new, e_oi, e_cs, e_cv, e_ci, e_min, e_max, e_copy, e_rv, e_ri, e_rz, e_rl, z_run, sx_en, sx_cat, sx_tk, sx_ps, sx_set, sx_setl, sx_dl, sx_m, sx_sw, sx_ft, List.map_cons, List.map_nil, List.getElem?_cons_zero, List.getElem?_cons_succ, List.replicate_succ, List.replicate_zero, List.set_cons_zero, List.set_cons_succ, List.length_cons, List.length_nil, Nat.reduceAdd, Nat.reduceSub, Nat.reduceLeDiff, Nat.reduceLT, Nat.reduceMul, Nat.zero_le, Nat.le_refl, Nat.add_zero, Nat.zero_add, true_and, and_true, true_or, cX4_init_c, tX4_init_0, bX4_init_0, h1, hn, q_up_s, q_up_n, q_up_up, q_upd_s, q_upd_n, q_upd_upd, q_in, q_in0, q_in1, q_cl, q_cl0, q_cl1, q_add, q_add1, q_1add, q_add0, q_0add, q_mul, q_ite0, q_ite01, q_10, or_true, not_false_eq_true, not_true_eq_false, q_n0, ne_eq, false_implies, true_implies, true_and, and_true, not_true_eq_false, not_false_eq_true, Bool.false_eq_true, sx_o, Sum.inr.injEq, Prod.mk.injEq, exists_eq', Nat.reduceLT]
  exact hQ
end IN
