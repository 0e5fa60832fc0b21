/-! the reference's constructor -/
abbrev g_m0 (a b c d e f g i j k l : Option Nat) : sx_E := sx_o 7 [sx_i 0, sx_i 0, sx_r a, sx_r b, sx_r c, sx_r d, sx_r e, sx_r f, sx_r g, sx_i 0, sx_r i, sx_i 0, sx_i 0, sx_i 0, sx_i 0, sx_i 0, sx_i 0, sx_i 0, sx_i 0, sx_r j, sx_r k, sx_r l, sx_i 0]
set_option maxRecDepth 100000 in
set_option maxHeartbeats 4000000 in
theorem we_m0 {n : Nat} {a b c d e f g i j k l : Option Nat} (ha : ∀ q, a = some q → q < n) (hb : ∀ q, b = some q → q < n) (hc : ∀ q, c = some q → q < n) (hd : ∀ q, d = some q → q < n) (he : ∀ q, e = some q → q < n) (hf : ∀ q, f = some q → q < n) (hg : ∀ q, g = some q → q < n) (hi : ∀ q, i = some q → q < n) (hj : ∀ q, j = some q → q < n) (hk : ∀ q, k = some q → q < n) (hl : ∀ q, l = some q → q < n) : sx_we n (g_m0 a b c d e f g i j k l) := by
  have one : ∀ x : Option Nat, (∀ q, x = some q → q < n) → sx_wv n (sx_r x) := fun x hx => by
    match x with
    | none => exact trivial
    | some k => exact Or.inl (hx k rfl)
  exact ws_c wi (ws_c wi (ws_c (one a ha) (ws_c (one b hb) (ws_c (one c hc) (ws_c (one d hd) (ws_c (one e he) (ws_c (one f hf) (ws_c (one g hg) (ws_c wi (ws_c (one i hi) (ws_c wi (ws_c wi (ws_c wi (ws_c wi (ws_c wi (ws_c wi (ws_c wi (ws_c wi (ws_c (one j hj) (ws_c (one k hk) (ws_c (one l hl) (ws_c wi ws_0))))))))))))))))))))))
set_option maxRecDepth 100000 in
set_option maxHeartbeats 4000000 in
theorem s_init8 {h : sx_H} {Q : sx_Q} (h0 : h 53 = sx_o 7 [sx_i 0, sx_i 0, sx_r none, sx_r none, sx_r none, sx_r none, sx_r none, sx_r none, sx_r none, sx_i 0, sx_r none, sx_i 0, sx_i 0, sx_i 0, sx_i 0, sx_i 0, sx_i 0, sx_i 0, sx_i 0, sx_r none, sx_r none, sx_r none, sx_i 0]) (hw : p_WF 54 h) (hQ : ∀ h', (∀ j, j < 53 → h' j = h j) → MO 0 0 0 0 0 h' → MR (p_mn 8) (fun _ => 0) (fun _ => 0) h' → MB (fun _ => 0) h' → MA 0 (fun _ _ => 0) h' → MT (fun _ => 0) h' → MI (fun _ => 0) (fun _ => 0) h' → MK (fun _ => 0) h' → Q none 65 h') : sx_Cal 123 [sx_r (some 53)] 54 h Q := by
  have sc : ∀ k : Nat, k < 1000 → k < sx_sc := fun k hk => by show k < 1000000; omega
  simp (disch := omega) only [e_const, e_lconst, e_il, e_ll, e_al, z_is, z_as, z_ls, z_inc, e_bin, e_div, e_un, e_lbin, e_ldiv, e_lcmp, e_i2l, e_l2i, e_if1, e_if2, z_go, e_sw, e_dupi, e_dupr, e_dup2, e_popi, e_popr, e_get, e_put, e_iald, e_iast, e_zald, e_zast, e_aald, e_aast, e_sld, e_slen, e_newa, e_newq, e_mna, e_new, e_oi, e_cs, e_cv, e_ci, e_min, e_max, e_copy, e_rv, e_ri, e_rz, e_rl, z_run, sx_en, sx_cat, sx_tk, sx_ps, sx_set, sx_setl, sx_dl, sx_m, sx_sw, sx_ft, List.map_cons, List.map_nil, List.getElem?_cons_zero, List.getElem?_cons_succ, List.replicate_succ, List.replicate_zero, List.set_cons_zero, List.set_cons_succ, List.length_cons, List.length_nil, Nat.reduceAdd, Nat.reduceSub, Nat.reduceLeDiff, Nat.reduceLT, Nat.reduceMul, Nat.zero_le, Nat.le_refl, Nat.add_zero, Nat.zero_add, true_and, and_true, true_or, cX8_init_c, tX8_init_0, bX8_init_0, h0, sc 54 (by omega), sc 55 (by omega), sc 56 (by omega), sc 57 (by omega), sc 58 (by omega), sc 59 (by omega), sc 60 (by omega), sc 61 (by omega), sc 62 (by omega), sc 63 (by omega), sc 64 (by omega), q_ltz, q_up_s, q_up_n, q_up_up, q_upd_s, q_upd_n, q_upd_upd, q_in, q_in0, q_in1, q_cl, q_cl0, q_cl1, q_add, q_add1, q_1add, q_add0, q_0add, q_mul, q_ite0, q_ite01, q_10, or_true, not_false_eq_true, not_true_eq_false, q_n0, ne_eq, false_implies, true_implies, true_and, and_true, not_true_eq_false, not_false_eq_true, Bool.false_eq_true, sx_o, Sum.inr.injEq, Prod.mk.injEq, exists_eq', Nat.reduceLT]
  have p0 := WF_new (e := sx_ai 8 (upd (upd (upd (upd (upd (upd (upd (upd (fun _ => 0) 0 (-1)) 1 (-1)) 2 (-1)) 3 (-1)) 4 (-1)) 5 (-1)) 6 (-1)) 7 (-1))) hw trivial
  have w0 := WF_put (a := 53) (e := g_m0 (some 54) none none none none none none none none none none) p0 (we_m0 (fun q hq => by cases hq; omega) (fun q hq => by cases hq) (fun q hq => by cases hq) (fun q hq => by cases hq) (fun q hq => by cases hq) (fun q hq => by cases hq) (fun q hq => by cases hq) (fun q hq => by cases hq) (fun q hq => by cases hq) (fun q hq => by cases hq) (fun q hq => by cases hq))
  have p1 := WF_new (e := sx_ai 8 (fun _ => 0)) w0 trivial
  have w1 := WF_put (a := 53) (e := g_m0 (some 54) (some 55) none none none none none none none none none) p1 (we_m0 (fun q hq => by cases hq; omega) (fun q hq => by cases hq; omega) (fun q hq => by cases hq) (fun q hq => by cases hq) (fun q hq => by cases hq) (fun q hq => by cases hq) (fun q hq => by cases hq) (fun q hq => by cases hq) (fun q hq => by cases hq) (fun q hq => by cases hq) (fun q hq => by cases hq))
  have p2 := WF_new (e := sx_ai 320 (fun _ => 0)) w1 trivial
  have w2 := WF_put (a := 53) (e := g_m0 (some 54) (some 55) (some 56) none none none none none none none none) p2 (we_m0 (fun q hq => by cases hq; omega) (fun q hq => by cases hq; omega) (fun q hq => by cases hq; omega) (fun q hq => by cases hq) (fun q hq => by cases hq) (fun q hq => by cases hq) (fun q hq => by cases hq) (fun q hq => by cases hq) (fun q hq => by cases hq) (fun q hq => by cases hq) (fun q hq => by cases hq))
  have p3 := WF_new (e := sx_ai 64 (fun _ => 0)) w2 trivial
  have w3 := WF_put (a := 53) (e := g_m0 (some 54) (some 55) (some 56) (some 57) none none none none none none none) p3 (we_m0 (fun q hq => by cases hq; omega) (fun q hq => by cases hq; omega) (fun q hq => by cases hq; omega) (fun q hq => by cases hq; omega) (fun q hq => by cases hq) (fun q hq => by cases hq) (fun q hq => by cases hq) (fun q hq => by cases hq) (fun q hq => by cases hq) (fun q hq => by cases hq) (fun q hq => by cases hq))
  have p4 := WF_new (e := sx_ai 64 (fun _ => 0)) w3 trivial
  have w4 := WF_put (a := 53) (e := g_m0 (some 54) (some 55) (some 56) (some 57) (some 58) none none none none none none) p4 (we_m0 (fun q hq => by cases hq; omega) (fun q hq => by cases hq; omega) (fun q hq => by cases hq; omega) (fun q hq => by cases hq; omega) (fun q hq => by cases hq; omega) (fun q hq => by cases hq) (fun q hq => by cases hq) (fun q hq => by cases hq) (fun q hq => by cases hq) (fun q hq => by cases hq) (fun q hq => by cases hq))
  have p5 := WF_new (e := sx_ai 64 (fun _ => 0)) w4 trivial
  have w5 := WF_put (a := 53) (e := g_m0 (some 54) (some 55) (some 56) (some 57) (some 58) (some 59) none none none none none) p5 (we_m0 (fun q hq => by cases hq; omega) (fun q hq => by cases hq; omega) (fun q hq => by cases hq; omega) (fun q hq => by cases hq; omega) (fun q hq => by cases hq; omega) (fun q hq => by cases hq; omega) (fun q hq => by cases hq) (fun q hq => by cases hq) (fun q hq => by cases hq) (fun q hq => by cases hq) (fun q hq => by cases hq))
  have p6 := WF_new (e := sx_ai 1536 (fun _ => 0)) w5 trivial
  have w6 := WF_put (a := 53) (e := g_m0 (some 54) (some 55) (some 56) (some 57) (some 58) (some 59) (some 60) none none none none) p6 (we_m0 (fun q hq => by cases hq; omega) (fun q hq => by cases hq; omega) (fun q hq => by cases hq; omega) (fun q hq => by cases hq; omega) (fun q hq => by cases hq; omega) (fun q hq => by cases hq; omega) (fun q hq => by cases hq; omega) (fun q hq => by cases hq) (fun q hq => by cases hq) (fun q hq => by cases hq) (fun q hq => by cases hq))
  have p7 := WF_new (e := sx_ai 120 (fun _ => 0)) w6 trivial
  have w7 := WF_put (a := 53) (e := g_m0 (some 54) (some 55) (some 56) (some 57) (some 58) (some 59) (some 60) (some 61) none none none) p7 (we_m0 (fun q hq => by cases hq; omega) (fun q hq => by cases hq; omega) (fun q hq => by cases hq; omega) (fun q hq => by cases hq; omega) (fun q hq => by cases hq; omega) (fun q hq => by cases hq; omega) (fun q hq => by cases hq; omega) (fun q hq => by cases hq; omega) (fun q hq => by cases hq) (fun q hq => by cases hq) (fun q hq => by cases hq))
  have p8 := WF_new (e := sx_az 2 (fun _ => 0)) w7 trivial
  have w8 := WF_put (a := 53) (e := g_m0 (some 54) (some 55) (some 56) (some 57) (some 58) (some 59) (some 60) (some 61) (some 62) none none) p8 (we_m0 (fun q hq => by cases hq; omega) (fun q hq => by cases hq; omega) (fun q hq => by cases hq; omega) (fun q hq => by cases hq; omega) (fun q hq => by cases hq; omega) (fun q hq => by cases hq; omega) (fun q hq => by cases hq; omega) (fun q hq => by cases hq; omega) (fun q hq => by cases hq; omega) (fun q hq => by cases hq) (fun q hq => by cases hq))
  have p9 := WF_new (e := sx_ai 128 (fun _ => 0)) w8 trivial
  have w9 := WF_put (a := 53) (e := g_m0 (some 54) (some 55) (some 56) (some 57) (some 58) (some 59) (some 60) (some 61) (some 62) (some 63) none) p9 (we_m0 (fun q hq => by cases hq; omega) (fun q hq => by cases hq; omega) (fun q hq => by cases hq; omega) (fun q hq => by cases hq; omega) (fun q hq => by cases hq; omega) (fun q hq => by cases hq; omega) (fun q hq => by cases hq; omega) (fun q hq => by cases hq; omega) (fun q hq => by cases hq; omega) (fun q hq => by cases hq; omega) (fun q hq => by cases hq))
  have p10 := WF_new (e := sx_ai 16 (fun _ => 0)) w9 trivial
  have w10 := WF_put (a := 53) (e := g_m0 (some 54) (some 55) (some 56) (some 57) (some 58) (some 59) (some 60) (some 61) (some 62) (some 63) (some 64)) p10 (we_m0 (fun q hq => by cases hq; omega) (fun q hq => by cases hq; omega) (fun q hq => by cases hq; omega) (fun q hq => by cases hq; omega) (fun q hq => by cases hq; omega) (fun q hq => by cases hq; omega) (fun q hq => by cases hq; omega) (fun q hq => by cases hq; omega) (fun q hq => by cases hq; omega) (fun q hq => by cases hq; omega) (fun q hq => by cases hq; omega))
  refine ⟨⟨wl_s (wr (by omega)) wl_0, ws_c (wr (by omega)) ws_0, hw⟩, ⟨wl_s (wr (by omega)) wl_0, ws_c (wr (by omega)) ws_0, w0⟩, ⟨wl_s (wr (by omega)) wl_0, ws_c (wr (by omega)) ws_0, w1⟩, ⟨wl_s (wr (by omega)) wl_0, ws_c (wr (by omega)) ws_0, w2⟩, ⟨wl_s (wr (by omega)) wl_0, ws_c (wr (by omega)) ws_0, w3⟩, ⟨wl_s (wr (by omega)) wl_0, ws_c (wr (by omega)) ws_0, w4⟩, ⟨wl_s (wr (by omega)) wl_0, ws_c (wr (by omega)) ws_0, w5⟩, ⟨wl_s (wr (by omega)) wl_0, ws_c (wr (by omega)) ws_0, w6⟩, ⟨wl_s (wr (by omega)) wl_0, ws_c (wr (by omega)) ws_0, w7⟩, ⟨wl_s (wr (by omega)) wl_0, ws_c (wr (by omega)) ws_0, w8⟩, ⟨wl_s (wr (by omega)) wl_0, ws_c (wr (by omega)) ws_0, w9⟩, ?_⟩
  obtain ⟨x, ex⟩ : ∃ z, z = (sx_up (sx_up (sx_up (sx_up (sx_up (sx_up (sx_up (sx_up (sx_up (sx_up (sx_up (sx_up (sx_up (sx_up (sx_up (sx_up (sx_up (sx_up (sx_up (sx_up (sx_up (sx_up h 54 (sx_ai 8 (upd (upd (upd (upd (upd (upd (upd (upd (fun _ => 0) 0 (-1)) 1 (-1)) 2 (-1)) 3 (-1)) 4 (-1)) 5 (-1)) 6 (-1)) 7 (-1)))) 53 (g_m0 (some 54) none none none none none none none none none none)) 55 (sx_ai 8 (fun _ => 0))) 53 (g_m0 (some 54) (some 55) none none none none none none none none none)) 56 (sx_ai 320 (fun _ => 0))) 53 (g_m0 (some 54) (some 55) (some 56) none none none none none none none none)) 57 (sx_ai 64 (fun _ => 0))) 53 (g_m0 (some 54) (some 55) (some 56) (some 57) none none none none none none none)) 58 (sx_ai 64 (fun _ => 0))) 53 (g_m0 (some 54) (some 55) (some 56) (some 57) (some 58) none none none none none none)) 59 (sx_ai 64 (fun _ => 0))) 53 (g_m0 (some 54) (some 55) (some 56) (some 57) (some 58) (some 59) none none none none none)) 60 (sx_ai 1536 (fun _ => 0))) 53 (g_m0 (some 54) (some 55) (some 56) (some 57) (some 58) (some 59) (some 60) none none none none)) 61 (sx_ai 120 (fun _ => 0))) 53 (g_m0 (some 54) (some 55) (some 56) (some 57) (some 58) (some 59) (some 60) (some 61) none none none)) 62 (sx_az 2 (fun _ => 0))) 53 (g_m0 (some 54) (some 55) (some 56) (some 57) (some 58) (some 59) (some 60) (some 61) (some 62) none none)) 63 (sx_ai 128 (fun _ => 0))) 53 (g_m0 (some 54) (some 55) (some 56) (some 57) (some 58) (some 59) (some 60) (some 61) (some 62) (some 63) none)) 64 (sx_ai 16 (fun _ => 0))) 53 (g_m0 (some 54) (some 55) (some 56) (some 57) (some 58) (some 59) (some 60) (some 61) (some 62) (some 63) (some 64))) := ⟨_, rfl⟩
  have g53 : x 53 = g_m0 (some 54) (some 55) (some 56) (some 57) (some 58) (some 59) (some 60) (some 61) (some 62) (some 63) (some 64) := by rw [ex]; exact q_up_s _ _ _
  have g54 : x 54 = sx_ai 8 (upd (upd (upd (upd (upd (upd (upd (upd (fun _ => 0) 0 (-1)) 1 (-1)) 2 (-1)) 3 (-1)) 4 (-1)) 5 (-1)) 6 (-1)) 7 (-1)) := by rw [ex]; simp (disch := omega) only [q_up_n, q_up_s]
  have g55 : x 55 = sx_ai 8 (fun _ => 0) := by rw [ex]; simp (disch := omega) only [q_up_n, q_up_s]
  have g56 : x 56 = sx_ai 320 (fun _ => 0) := by rw [ex]; simp (disch := omega) only [q_up_n, q_up_s]
  have g57 : x 57 = sx_ai 64 (fun _ => 0) := by rw [ex]; simp (disch := omega) only [q_up_n, q_up_s]
  have g58 : x 58 = sx_ai 64 (fun _ => 0) := by rw [ex]; simp (disch := omega) only [q_up_n, q_up_s]
  have g59 : x 59 = sx_ai 64 (fun _ => 0) := by rw [ex]; simp (disch := omega) only [q_up_n, q_up_s]
  have g60 : x 60 = sx_ai 1536 (fun _ => 0) := by rw [ex]; simp (disch := omega) only [q_up_n, q_up_s]
  have g61 : x 61 = sx_ai 120 (fun _ => 0) := by rw [ex]; simp (disch := omega) only [q_up_n, q_up_s]
  have g62 : x 62 = sx_az 2 (fun _ => 0) := by rw [ex]; simp (disch := omega) only [q_up_n, q_up_s]
  have g63 : x 63 = sx_ai 128 (fun _ => 0) := by rw [ex]; simp (disch := omega) only [q_up_n, q_up_s]
  have g64 : x 64 = sx_ai 16 (fun _ => 0) := by rw [ex]; simp (disch := omega) only [q_up_n, q_up_s]
  have ag : ∀ j, j < 53 → x j = h j := fun j hj => by rw [ex]; simp (disch := omega) only [q_up_n]
  have tz : toM (fun _ => 0) 0 = fun _ => 0 := by
    funext j
    unfold toM
    by_cases a : j < 10
    · rw [if_pos a]; simp
    · rw [if_neg a]; by_cases b : j < 64 <;> simp [b]
  have mn : ∀ r, r < 8 → (upd (upd (upd (upd (upd (upd (upd (upd (fun _ => 0) 0 (-1)) 1 (-1)) 2 (-1)) 3 (-1)) 4 (-1)) 5 (-1)) 6 (-1)) 7 (-1)) r = -1 := fun r hr => by
    by_cases r7 : r = 7
    · rw [r7, q_upd_s]
    rw [q_upd_n r7]
    by_cases r6 : r = 6
    · rw [r6, q_upd_s]
    rw [q_upd_n r6]
    by_cases r5 : r = 5
    · rw [r5, q_upd_s]
    rw [q_upd_n r5]
    by_cases r4 : r = 4
    · rw [r4, q_upd_s]
    rw [q_upd_n r4]
    by_cases r3 : r = 3
    · rw [r3, q_upd_s]
    rw [q_upd_n r3]
    by_cases r2 : r = 2
    · rw [r2, q_upd_s]
    rw [q_upd_n r2]
    by_cases r1 : r = 1
    · rw [r1, q_upd_s]
    rw [q_upd_n r1]
    have : r = 0 := by omega
    rw [this, q_upd_s]
  have pm : ∀ r, r < 8 → p_mn 8 r = -1 := fun r hr => if_pos hr
  have fin : Q none 65 x := by
    refine hQ x ag ⟨0, 0, 0, 0, 0, 0, 0, ?_⟩ ⟨⟨_, g54, fun r hr => ⟨fun _ => mn r hr, fun z => absurd (pm r hr) z⟩⟩, ⟨_, g55, fun r hr z => absurd (pm r hr) z⟩, g56⟩ ⟨⟨0, by rw [tz]; exact g57⟩, ⟨_, g58, fun _ _ => rfl⟩, ⟨_, g59, fun _ _ => rfl⟩⟩ ⟨_, g60, fun j hj => absurd hj (by omega)⟩ g61 ⟨⟨_, g62, (if_pos rfl).symm, (if_pos rfl).symm⟩, _, g63, fun z => absurd rfl z, fun z => absurd rfl z⟩ g64
    rw [g53, nI_0]
  rw [ex] at fin
  exact fin
