/-! WHAT A STATE OF BOTH SYSTEMS IS. Cells 0..52: the class's objects; 53..64: the reference's. -/
abbrev g_x (lf : Int32) : sx_E := sx_o 6 [sx_r (some 1), sx_r (some 13), sx_r (some 15), sx_r (some 17), sx_r (some 19), sx_r (some 45), sx_r (some 46), sx_r (some 48), sx_i lf]
abbrev g_m (th st ac tp cu sa tk va fa fp la tr : Int32) : sx_E := sx_o 7 [sx_i th, sx_i st, sx_r (some 54), sx_r (some 55), sx_r (some 56), sx_r (some 57), sx_r (some 58), sx_r (some 59), sx_r (some 60), sx_i ac, sx_r (some 61), sx_i tp, sx_i cu, sx_i sa, sx_i tk, sx_i va, sx_i fa, sx_i fp, sx_i la, sx_r (some 62), sx_r (some 63), sx_r (some 64), sx_i tr]
/-- a shop in the reference's row of 64, out of the class's row of 62; c: what came in the latest week -/
def toM (f : Nat → Int32) (c : Int32) : Nat → Int32 := fun j =>
  if j < 10 then (if j = 0 then (if f 58 = 0 then 0 else 1) else if j = 1 then f 54 else if j = 2 then f 59 else if j = 3 then f 60 else if j = 4 then f 58 else if j = 5 then f 61 else if j = 6 then f 55 else if j = 7 then f 56 else if j = 8 then f 57 else c)
  else if j < 64 then (if (j - 10) % 9 = 0 then f (48 + (j - 10) / 9) else if (j - 10) % 9 = 1 then f (6 + (j - 10) / 9) else if (j - 10) % 9 = 2 then f (12 + (j - 10) / 9) else if (j - 10) % 9 = 3 then f (18 + (j - 10) / 9) else if (j - 10) % 9 = 4 then f ((j - 10) / 9) else if (j - 10) % 9 = 5 then f (24 + (j - 10) / 9) else if (j - 10) % 9 = 6 then f (30 + (j - 10) / 9) else if (j - 10) % 9 = 7 then f (36 + (j - 10) / 9) else f (42 + (j - 10) / 9))
  else 0
/-- a shop's numbers are in their ranges: at most W weeks old -/
def WB (W : Nat) (f : Nat → Int32) : Prop := (∀ j, 62 ≤ j → f j = 0) ∧ ∃ c w : Nat, c ≤ 6 ∧ w ≤ W ∧ f 58 = nI c ∧ f 61 = nI w ∧
  (∀ d, d < 6 → (0 ≤ (f d).toInt ∧ (f d).toInt ≤ 200) ∧ (0 ≤ (f (6 + d)).toInt ∧ (f (6 + d)).toInt ≤ 60) ∧ (0 ≤ (f (12 + d)).toInt ∧ (f (12 + d)).toInt ≤ 40) ∧ (0 ≤ (f (18 + d)).toInt ∧ (f (18 + d)).toInt ≤ 99) ∧ (f (24 + d) = 0 ∨ f (24 + d) = 1) ∧ (f (30 + d) = 0 ∨ f (30 + d) = 1) ∧ (d < c → 1 ≤ (f (48 + d)).toInt ∧ (f (48 + d)).toInt ≤ 5) ∧ (c ≤ d → f d = 0 ∧ f (24 + d) = 0 ∧ f (30 + d) = 0)) ∧
  (0 ≤ (f 55).toInt ∧ (f 55).toInt ≤ 240 * w) ∧ (f 54).toInt ≤ 99 + 360 * w ∧ -(240 * w : Int) ≤ (f 54).toInt - (f 55).toInt ∧ (0 ≤ (f 56).toInt ∧ (f 56).toInt ≤ 20) ∧ (f 57 = 0 ∨ f 57 = 1) ∧ (f 57 = 0 → 0 ≤ (f 54).toInt) ∧ (0 ≤ (f 59).toInt ∧ (f 59).toInt ≤ 20) ∧ (0 < c → 1 ≤ (f 60).toInt ∧ (f 60).toInt ≤ 8)
/-! the class's side -/
def XR (st : Int32) (rs rl it : Nat → Int32) (h : sx_H) : Prop := h 1 = sx_o 4 [sx_r (some 2), sx_r (some 11), sx_r (some 12), sx_i st] ∧ h 2 = sx_ar 3 8 (fun i => if i < 8 then some (3 + i) else none) ∧ (∀ r, r < 8 → h (3 + r) = sx_ai 40 (fun j => if j < 40 then it (40 * r + j) else 0)) ∧ (∃ l, h 11 = sx_ai 8 l ∧ ∀ r, r < 8 → ¬ rs r = -1 → l r = rl r) ∧ h 12 = sx_ai 8 rs
def XT (tp : Nat) (tape : Nat → Int32) (h : sx_H) : Prop := (∃ p s t, h 13 = sx_o 5 [sx_r (some 14), sx_i (nI tp), sx_i p, sx_i s, sx_i t]) ∧ h 14 = sx_ai 120 tape
def XB (f : Nat → Int32) (h : sx_H) : Prop := h 15 = sx_o 2 [sx_r (some 16)] ∧ h 16 = sx_ai 62 f ∧ h 17 = sx_o 2 [sx_r (some 18)] ∧ (∃ g, h 18 = sx_ai 62 g ∧ ∀ j, 62 ≤ j → g j = 0) ∧ h 45 = sx_o 3 [sx_r (some 15), sx_r (some 17)]
def XA (k : Nat) (acts : Nat → Nat → Int32) (h : sx_H) : Prop := ∃ nx, nx < 24 ∧ h 19 = sx_o 0 [sx_r (some 20), sx_i (nI nx), sx_i (nI k)] ∧ h 20 = sx_ar 3 24 (fun i => if i < 24 then some (21 + i) else none) ∧ (∀ i, i < 24 → ∃ g, h (21 + i) = sx_ai 62 g ∧ ∀ j, 62 ≤ j → g j = 0) ∧ ∀ j, j < k → h (21 + (nx + 24 - k + j) % 24) = sx_ai 62 (acts j)
def XK (t : Nat) (trc : Nat → Int32) (h : sx_H) : Prop := h 46 = sx_o 1 [sx_r (some 47), sx_i (nI t), sx_r (some 15)] ∧ h 47 = sx_ai 16 trc
def XI (g0 g1 : Nat → Int32) (h : sx_H) : Prop := h 48 = sx_ar 2 2 (va_up (va_up (fun _ => none) 0 (some 49)) 1 (some 51)) ∧ h 49 = sx_o 2 [sx_r (some 50)] ∧ h 50 = sx_ai 62 g0 ∧ h 51 = sx_o 2 [sx_r (some 52)] ∧ h 52 = sx_ai 62 g1
/-! the reference's side -/
def MO (st : Int32) (k tp : Nat) (lf : Int32) (t : Nat) (h : sx_H) : Prop := ∃ th cu sa tk va fa fp, h 53 = g_m th st (nI k) (nI tp) cu sa tk va fa fp lf (nI t)
def MR (rs rl it : Nat → Int32) (h : sx_H) : Prop := (∃ l, h 54 = sx_ai 8 l ∧ ∀ r, r < 8 → (rs r = -1 → l r = -1) ∧ (¬ rs r = -1 → l r = rl r)) ∧ (∃ m, h 55 = sx_ai 8 m ∧ ∀ r, r < 8 → ¬ rs r = -1 → m r = rs r) ∧ h 56 = sx_ai 320 it
def MB (f : Nat → Int32) (h : sx_H) : Prop := (∃ c, h 57 = sx_ai 64 (toM f c)) ∧ (∃ g, h 58 = sx_ai 64 g ∧ ∀ j, 64 ≤ j → g j = 0) ∧ (∃ g, h 59 = sx_ai 64 g ∧ ∀ j, 64 ≤ j → g j = 0)
def MA (k : Nat) (acts : Nat → Nat → Int32) (h : sx_H) : Prop := ∃ wf, h 60 = sx_ai 1536 wf ∧ ∀ j, j < k → ∃ c, ∀ i, i < 64 → wf (64 * j + i) = toM (acts j) c i
def MT (tape : Nat → Int32) (h : sx_H) : Prop := h 61 = sx_ai 120 tape
def MI (g0 g1 : Nat → Int32) (h : sx_H) : Prop := (∃ z, h 62 = sx_az 2 z ∧ z 0 = (if g0 58 = 0 then 0 else 1) ∧ z 1 = (if g1 58 = 0 then 0 else 1)) ∧ ∃ kf, h 63 = sx_ai 128 kf ∧ (¬ g0 58 = 0 → ∃ c, ∀ i, i < 64 → kf i = toM g0 c i) ∧ (¬ g1 58 = 0 → ∃ c, ∀ i, i < 64 → kf (64 + i) = toM g1 c i)
def MK (trc : Nat → Int32) (h : sx_H) : Prop := h 64 = sx_ai 16 trc
/-! rows: how many items (-1: missing), lanes -/
def WR (rs rl : Nat → Int32) : Prop := ∀ r, r < 8 → rs r = -1 ∨ ((∃ m, m ≤ 40 ∧ rs r = nI m) ∧ (rl r = 0 ∨ rl r = 1 ∨ rl r = nI 2))
/-- both systems tell the same -/
def IC (lf st : Int32) (rs rl it : Nat → Int32) (tp : Nat) (tape f : Nat → Int32) (k : Nat) (acts : Nat → Nat → Int32) (t : Nat) (trc g0 g1 : Nat → Int32) (h : sx_H) : Prop :=
  h 0 = g_x lf ∧ XR st rs rl it h ∧ XT tp tape h ∧ XB f h ∧ XA k acts h ∧ XK t trc h ∧ XI g0 g1 h ∧
  MO st k tp lf t h ∧ MR rs rl it h ∧ MB f h ∧ MA k acts h ∧ MT tape h ∧ MI g0 g1 h ∧ MK trc h ∧
  WR rs rl ∧ tp ≤ 120 ∧ WB 999 f ∧ k ≤ 24 ∧ (∀ j, j < k → WB 999 (acts j)) ∧ t ≤ 16 ∧ WB 999 g0 ∧ WB 999 g1
def IV (h : sx_H) : Prop := ∃ (lf st : Int32) (rs rl it : Nat → Int32) (tp : Nat) (tape f : Nat → Int32) (k : Nat) (acts : Nat → Nat → Int32) (t : Nat) (trc g0 g1 : Nat → Int32), IC lf st rs rl it tp tape f k acts t trc g0 g1 h
/-- a call of the class, and then of the reference, tell the same -/
def IQ (mi : Nat) (a : List sx_V) : sx_Q := fun r n' h' => n' = 65 ∧ ∃ v, r = some (sx_i v) ∧ sx_Cal mi a 65 h' (fun r' n'' h'' => n'' = 65 ∧ r' = some (sx_i v) ∧ IV h'')
def IQl (mi : Nat) (a : List sx_V) : sx_Q := fun r n' h' => n' = 65 ∧ ∃ v, r = some (sx_l v) ∧ sx_Cal mi a 65 h' (fun r' n'' h'' => n'' = 65 ∧ r' = some (sx_l v) ∧ IV h'')
/-! what a part speaks of stays where its cells stay -/
set_option maxRecDepth 100000 in
set_option maxHeartbeats 4000000 in
theorem XR_ag {st : Int32} {rs rl it : Nat → Int32} {h h' : sx_H} (H : XR st rs rl it h) (e : ∀ k, 1 ≤ k → k < 13 → h' k = h k) : XR st rs rl it h' := by
  obtain ⟨h1, h2, h3, h4, h5⟩ := H
  exact ⟨(e 1 (by omega) (by omega)).trans h1, (e 2 (by omega) (by omega)).trans h2, fun r hr => (e _ (by omega) (by omega)).trans (h3 r hr), by obtain ⟨l, a, b⟩ := h4; exact ⟨l, (e 11 (by omega) (by omega)).trans a, b⟩, (e 12 (by omega) (by omega)).trans h5⟩
set_option maxRecDepth 100000 in
set_option maxHeartbeats 4000000 in
theorem XT_ag {tp : Nat} {tape : Nat → Int32} {h h' : sx_H} (H : XT tp tape h) (e : ∀ k, 13 ≤ k → k < 15 → h' k = h k) : XT tp tape h' := by
  obtain ⟨⟨p, s, t, h1⟩, h2⟩ := H
  exact ⟨⟨p, s, t, (e 13 (by omega) (by omega)).trans h1⟩, (e 14 (by omega) (by omega)).trans h2⟩
set_option maxRecDepth 100000 in
set_option maxHeartbeats 4000000 in
theorem XB_ag {f : Nat → Int32} {h h' : sx_H} (H : XB f h) (e : ∀ k, 15 ≤ k → k < 19 → h' k = h k) (e2 : h' 45 = h 45) : XB f h' := by
  obtain ⟨h1, h2, h3, ⟨g, h4, h5⟩, h6⟩ := H
  exact ⟨(e 15 (by omega) (by omega)).trans h1, (e 16 (by omega) (by omega)).trans h2, (e 17 (by omega) (by omega)).trans h3, ⟨g, (e 18 (by omega) (by omega)).trans h4, h5⟩, e2.trans h6⟩
set_option maxRecDepth 100000 in
set_option maxHeartbeats 4000000 in
theorem XA_ag {k : Nat} {acts : Nat → Nat → Int32} {h h' : sx_H} (H : XA k acts h) (e : ∀ k, 19 ≤ k → k < 45 → h' k = h k) : XA k acts h' := by
  obtain ⟨nx, hn, h1, h2, h3, h4⟩ := H
  exact ⟨nx, hn, (e 19 (by omega) (by omega)).trans h1, (e 20 (by omega) (by omega)).trans h2, fun i hi => by obtain ⟨g, a, b⟩ := h3 i hi; exact ⟨g, (e _ (by omega) (by omega)).trans a, b⟩, fun j hj => (e _ (by omega) (by omega)).trans (h4 j hj)⟩
set_option maxRecDepth 100000 in
set_option maxHeartbeats 4000000 in
theorem XK_ag {t : Nat} {trc : Nat → Int32} {h h' : sx_H} (H : XK t trc h) (e : ∀ k, 46 ≤ k → k < 48 → h' k = h k) : XK t trc h' := ⟨(e 46 (by omega) (by omega)).trans H.1, (e 47 (by omega) (by omega)).trans H.2⟩
set_option maxRecDepth 100000 in
set_option maxHeartbeats 4000000 in
theorem XI_ag {g0 g1 : Nat → Int32} {h h' : sx_H} (H : XI g0 g1 h) (e : ∀ k, 48 ≤ k → k < 53 → h' k = h k) : XI g0 g1 h' := by
  obtain ⟨h1, h2, h3, h4, h5⟩ := H
  exact ⟨(e 48 (by omega) (by omega)).trans h1, (e 49 (by omega) (by omega)).trans h2, (e 50 (by omega) (by omega)).trans h3, (e 51 (by omega) (by omega)).trans h4, (e 52 (by omega) (by omega)).trans h5⟩
set_option maxRecDepth 100000 in
set_option maxHeartbeats 4000000 in
theorem MO_ag {st : Int32} {k tp : Nat} {lf : Int32} {t : Nat} {h h' : sx_H} (H : MO st k tp lf t h) (e : h' 53 = h 53) : MO st k tp lf t h' := by
  obtain ⟨a, b, c, d, f, g, i, hh⟩ := H
  exact ⟨a, b, c, d, f, g, i, e.trans hh⟩
set_option maxRecDepth 100000 in
set_option maxHeartbeats 4000000 in
theorem MR_ag {rs rl it : Nat → Int32} {h h' : sx_H} (H : MR rs rl it h) (e : ∀ k, 54 ≤ k → k < 57 → h' k = h k) : MR rs rl it h' := by
  obtain ⟨⟨l, a, b⟩, ⟨m, c, d⟩, f⟩ := H
  exact ⟨⟨l, (e 54 (by omega) (by omega)).trans a, b⟩, ⟨m, (e 55 (by omega) (by omega)).trans c, d⟩, (e 56 (by omega) (by omega)).trans f⟩
set_option maxRecDepth 100000 in
set_option maxHeartbeats 4000000 in
theorem MB_ag {f : Nat → Int32} {h h' : sx_H} (H : MB f h) (e : ∀ k, 57 ≤ k → k < 60 → h' k = h k) : MB f h' := by
  obtain ⟨⟨c, a⟩, ⟨g, b, b2⟩, ⟨g2, d, d2⟩⟩ := H
  exact ⟨⟨c, (e 57 (by omega) (by omega)).trans a⟩, ⟨g, (e 58 (by omega) (by omega)).trans b, b2⟩, ⟨g2, (e 59 (by omega) (by omega)).trans d, d2⟩⟩
set_option maxRecDepth 100000 in
set_option maxHeartbeats 4000000 in
theorem MA_ag {k : Nat} {acts : Nat → Nat → Int32} {h h' : sx_H} (H : MA k acts h) (e : h' 60 = h 60) : MA k acts h' := by
  obtain ⟨wf, a, b⟩ := H
  exact ⟨wf, e.trans a, b⟩
set_option maxRecDepth 100000 in
set_option maxHeartbeats 4000000 in
theorem MI_ag {g0 g1 : Nat → Int32} {h h' : sx_H} (H : MI g0 g1 h) (e : h' 62 = h 62) (e2 : h' 63 = h 63) : MI g0 g1 h' := by
  obtain ⟨⟨z, a, b⟩, kf, c, d⟩ := H
  exact ⟨⟨z, e.trans a, b⟩, kf, e2.trans c, d⟩

set_option maxRecDepth 100000 in
set_option maxHeartbeats 4000000 in
theorem IC_53 {lf st : Int32} {rs rl it : Nat → Int32} {tp : Nat} {tape f : Nat → Int32} {k : Nat} {acts : Nat → Nat → Int32} {t : Nat} {trc g0 g1 : Nat → Int32} {h h' : sx_H} (H : IC lf st rs rl it tp tape f k acts t trc g0 g1 h) (e : ∀ j, j ≠ 53 → h' j = h j) (hm : MO st k tp lf t h') : IC lf st rs rl it tp tape f k acts t trc g0 g1 h' := by
  obtain ⟨h0, hXR, hXT, hXB, hXA, hXK, hXI, hMO, hMR, hMB, hMA, hMT, hMI, hMK, hw⟩ := H
  exact ⟨(e 0 (by omega)).trans h0, XR_ag hXR (fun j _ _ => e j (by omega)), XT_ag hXT (fun j _ _ => e j (by omega)), XB_ag hXB (fun j _ _ => e j (by omega)) (e 45 (by omega)), XA_ag hXA (fun j _ _ => e j (by omega)), XK_ag hXK (fun j _ _ => e j (by omega)), XI_ag hXI (fun j _ _ => e j (by omega)), hm, MR_ag hMR (fun j _ _ => e j (by omega)), MB_ag hMB (fun j _ _ => e j (by omega)), MA_ag hMA (e 60 (by omega)), (e 61 (by omega)).trans hMT, MI_ag hMI (e 62 (by omega)) (e 63 (by omega)), (e 64 (by omega)).trans hMK, hw⟩
set_option maxRecDepth 100000 in
set_option maxHeartbeats 4000000 in
theorem iq_in {mi : Nat} {a : List sx_V} {v : Int32} {h : sx_H} (hh : sx_Cal mi a 65 h (fun r' n'' h'' => n'' = 65 ∧ r' = some (sx_i v) ∧ IV h'')) : IQ mi a (some (sx_i v)) 65 h := ⟨rfl, v, rfl, hh⟩
set_option maxRecDepth 100000 in
set_option maxHeartbeats 4000000 in
theorem iq_inl {mi : Nat} {a : List sx_V} {v : Int64} {h : sx_H} (hh : sx_Cal mi a 65 h (fun r' n'' h'' => n'' = 65 ∧ r' = some (sx_l v) ∧ IV h'')) : IQl mi a (some (sx_l v)) 65 h := ⟨rfl, v, rfl, hh⟩
set_option maxRecDepth 100000 in
set_option maxHeartbeats 4000000 in
theorem IC.hm {lf st : Int32} {rs rl it : Nat → Int32} {tp : Nat} {tape f : Nat → Int32} {k : Nat} {acts : Nat → Nat → Int32} {t : Nat} {trc g0 g1 : Nat → Int32} {h : sx_H} (H : IC lf st rs rl it tp tape f k acts t trc g0 g1 h) : ∃ th st ac tp cu sa tk va fa fp la tr, h 53 = g_m th st ac tp cu sa tk va fa fp la tr := by
  obtain ⟨-, -, -, -, -, -, -, ⟨a, b, c, d, e, g, i, hh⟩, -⟩ := H
  exact ⟨_, _, _, _, _, _, _, _, _, _, _, _, hh⟩
set_option maxRecDepth 100000 in
set_option maxHeartbeats 4000000 in
theorem IV_of {lf st : Int32} {rs rl it : Nat → Int32} {tp : Nat} {tape f : Nat → Int32} {k : Nat} {acts : Nat → Nat → Int32} {t : Nat} {trc g0 g1 : Nat → Int32} {h : sx_H} (H : IC lf st rs rl it tp tape f k acts t trc g0 g1 h) : IV h := ⟨lf, st, rs, rl, it, tp, tape, f, k, acts, t, trc, g0, g1, H⟩
