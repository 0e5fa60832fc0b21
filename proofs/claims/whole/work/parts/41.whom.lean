/-! to whom to give at all -/
def p_bit (s i : Nat) : Int32 := nI s >>> (nI i &&& 31) &&& 1
def p_giv (f : Nat → Int32) (s : Nat) : Nat → Nat → Int32
  | 0 => f
  | i + 1 => if p_bit s i = 0 then upd (p_giv f s i) (18 + i) 0 else p_giv f s i
set_option maxRecDepth 100000 in
set_option maxHeartbeats 4000000 in
theorem bit_01 {s i : Nat} (hs : s < 64) (hi : i < 6) : p_bit s i = 0 ∨ p_bit s i = 1 := by
  have : ∀ s : Fin 64, ∀ i : Fin 6, p_bit s i = 0 ∨ p_bit s i = 1 := by decide +kernel
  exact this ⟨s, hs⟩ ⟨i, hi⟩
set_option maxRecDepth 100000 in
set_option maxHeartbeats 4000000 in
theorem giv_mul {f : Nat → Int32} {s i : Nat} (hs : s < 64) (hi : i < 6) : upd (p_giv f s i) (18 + i) (p_giv f s i (18 + i) * p_bit s i) = p_giv f s (i + 1) := by
  rw [p_giv]
  rcases bit_01 hs hi with h | h
  · rw [if_pos h, h, Int32.mul_zero]
  · rw [if_neg (by rw [h, q_10]; exact fun z => z), h, Int32.mul_one, q_upd_id rfl]
set_option maxRecDepth 100000 in
set_option maxHeartbeats 4000000 in
theorem giv_WB {W : Nat} {f : Nat → Int32} (h : WB W f) (s : Nat) : ∀ i, i ≤ 6 → WB W (p_giv f s i) ∧ p_giv f s i 58 = f 58 := by
  intro i
  induction i with
  | zero => exact fun _ => ⟨h, rfl⟩
  | succ i ih =>
    intro hi
    obtain ⟨a, b⟩ := ih (by omega)
    rw [p_giv]
    by_cases z : p_bit s i = 0
    · rw [if_pos z]
      exact ⟨WB_stop a (by omega) (by rw [q_ti0]; omega), by rw [q_upd_n (by omega)]; exact b⟩
    · rw [if_neg z]; exact ⟨a, b⟩
set_option maxRecDepth 100000 in
set_option maxHeartbeats 4000000 in
theorem cmb_u {f : Nat → Int32} {d e : Nat} (hd : d < 6) (he : e < 6) (v : Int32) : cmb (upd f (18 + d) v) e = cmb f e := by
  simp (disch := omega) only [cmb, q_upd_n]
set_option maxRecDepth 100000 in
set_option maxHeartbeats 4000000 in
theorem take_u {f : Nat → Int32} {d e : Nat} (hd : d < 6) (he : e < 6) (hne : e ≠ d) (v : Int32) : p_take (upd f (18 + d) v) e = upd (p_take f e) (18 + d) v := by
  simp (disch := omega) only [p_take, p_by, q_upd_n]
  rw [q_upd_sw (show 18 + d ≠ e by omega), q_upd_sw (show 18 + d ≠ 42 + e by omega), q_upd_sw (show 18 + d ≠ 55 by omega)]
set_option maxRecDepth 100000 in
set_option maxHeartbeats 4000000 in
theorem pb_u {f : Nat → Int32} {d e : Nat} (hd : d < 6) (he : e < 6) (v : Int32) : p_pb (upd f (18 + d) v) e = p_pb f e := by
  simp (disch := omega) only [p_pb, p_sp, p_due, q_upd_n]
set_option maxRecDepth 100000 in
set_option maxHeartbeats 4000000 in
theorem pay_u {f : Nat → Int32} {d e : Nat} (hd : d < 6) (he : e < 6) (v : Int32) : p_pay (upd f (18 + d) v) e = upd (p_pay f e) (18 + d) v := by
  simp (disch := omega) only [p_pay, pb_u, q_upd_n]
  rw [q_upd_sw (show 18 + d ≠ e by omega), q_upd_sw (show 18 + d ≠ 36 + e by omega), q_upd_sw (show 18 + d ≠ 54 by omega)]
set_option maxRecDepth 100000 in
set_option maxHeartbeats 4000000 in
theorem off_u {f : Nat → Int32} {d e : Nat} (hd : d < 6) (he : e < 6) (hne : e ≠ d) (v : Int32) : p_off (upd f (18 + d) v) e = p_off f e := by
  simp (disch := omega) only [p_off, q_upd_n]
set_option maxRecDepth 100000 in
set_option maxHeartbeats 4000000 in
theorem takes_u {c d : Nat} {f : Nat → Int32} (h : WC c f) (hd : d < 6) (hcd : c ≤ d) (v : Int32) : ∀ k, k ≤ 6 → p_takes (upd f (18 + d) v) k = upd (p_takes f k) (18 + d) v := by
  intro k
  induction k with
  | zero => intro _; rfl
  | succ k ih =>
    intro hk
    have hk6 : k < 6 := by omega
    rw [p_takes, p_takes, ih (by omega), cmb_u hd hk6]
    by_cases z : cmb (p_takes f k) k = true
    · have := cmb_c (takes_all h k (by omega)).1 hk6 z
      rw [if_pos z, if_pos z, take_u hd hk6 (by omega)]
    · rw [if_neg z, if_neg z]
set_option maxRecDepth 100000 in
set_option maxHeartbeats 4000000 in
theorem pays_u {c d : Nat} {f : Nat → Int32} (h : WC c f) (hd : d < 6) (hcd : c ≤ d) (v : Int32) : ∀ k, k ≤ 6 → p_pays (upd f (18 + d) v) k = (upd (p_pays f k).1 (18 + d) v, (p_pays f k).2) := by
  intro k
  induction k with
  | zero => intro _; rfl
  | succ k ih =>
    intro hk
    have hk6 : k < 6 := by omega
    rw [p_pays, p_pays, ih (by omega), cmb_u hd hk6]
    by_cases z : cmb (p_pays f k).1 k = true
    · have := cmb_c (pays_all h k (by omega)).1 hk6 z
      rw [if_pos z, if_pos z, off_u hd hk6 (by omega)]
      by_cases y : p_off (p_pays f k).1 k = true
      · rw [if_pos y, if_pos y, q_upd_sw (show 18 + d ≠ 24 + k by omega)]
      · rw [if_neg y, if_neg y, pay_u hd hk6, pb_u hd hk6]
    · rw [if_neg z, if_neg z]
set_option maxRecDepth 100000 in
set_option maxHeartbeats 4000000 in
theorem w1_u {c d : Nat} {f : Nat → Int32} (h : WC c f) (hd : d < 6) (hcd : c ≤ d) (v : Int32) : p_w1 (upd f (18 + d) v) = upd (p_w1 f) (18 + d) v := by
  rw [p_w1, p_w1, q_upd_n (show 57 ≠ 18 + d by omega)]
  by_cases z : f 57 = 0
  · rw [if_pos z, if_pos z, takes_u h hd hcd v 6 (by omega)]
  · rw [if_neg z, if_neg z]
set_option maxRecDepth 100000 in
set_option maxHeartbeats 4000000 in
theorem w2_u {c d : Nat} {f : Nat → Int32} (h : WC c f) (hd : d < 6) (hcd : c ≤ d) (v : Int32) : p_w2 (upd f (18 + d) v) = (upd (p_w2 f).1 (18 + d) v, (p_w2 f).2) := by
  rw [p_w2, p_w2, q_upd_n (show 56 ≠ 18 + d by omega)]
  by_cases z : (f 56).toInt ≤ 0
  · rw [if_pos z, if_pos z, pays_u h hd hcd v 6 (by omega)]
  · rw [if_neg z, if_neg z, q_upd_sw (show 18 + d ≠ 56 by omega)]
set_option maxRecDepth 100000 in
set_option maxHeartbeats 4000000 in
theorem w3_u {d : Nat} {f : Nat → Int32} (hd : d < 6) (v : Int32) : p_w3 (upd f (18 + d) v) = upd (p_w3 f) (18 + d) v := by
  rw [p_w3, p_w3, q_upd_n (show 60 ≠ 18 + d by omega), q_upd_n (show 61 ≠ 18 + d by omega), q_upd_n (show 54 ≠ 18 + d by omega), q_upd_n (show 55 ≠ 18 + d by omega)]
  split
  · rw [q_upd_sw (show 18 + d ≠ 54 by omega), q_upd_sw (show 18 + d ≠ 55 by omega)]
  · rfl
set_option maxRecDepth 100000 in
set_option maxHeartbeats 4000000 in
theorem w4_u {d : Nat} {f : Nat → Int32} (hd : d < 6) (v : Int32) : p_w4 (upd f (18 + d) v) = upd (p_w4 f) (18 + d) v := by
  rw [p_w4, p_w4, q_upd_n (show 54 ≠ 18 + d by omega)]
  split
  · rfl
  · rw [q_upd_sw (show 18 + d ≠ 57 by omega)]
set_option maxRecDepth 100000 in
set_option maxHeartbeats 4000000 in
theorem wk_u {c d : Nat} {f : Nat → Int32} (h : WC c f) (hd : d < 6) (hcd : c ≤ d) (v : Int32) : (p_wk (upd f (18 + d) v)).1 = upd (p_wk f).1 (18 + d) v := by
  show p_w4 (p_w3 (upd (p_w2 (p_w1 (upd f (18 + d) v))).1 61 ((p_w2 (p_w1 (upd f (18 + d) v))).1 61 + 1))) = upd (p_w4 (p_w3 (upd (p_w2 (p_w1 f)).1 61 ((p_w2 (p_w1 f)).1 61 + 1)))) (18 + d) v
  rw [w1_u h hd hcd, w2_u (w1_all h).1 hd hcd]
  show p_w4 (p_w3 (upd (upd (p_w2 (p_w1 f)).1 (18 + d) v) 61 (upd (p_w2 (p_w1 f)).1 (18 + d) v 61 + 1))) = _
  rw [q_upd_n (show 61 ≠ 18 + d by omega), q_upd_sw (show 18 + d ≠ 61 by omega), w3_u hd, w4_u hd]
set_option maxRecDepth 100000 in
set_option maxHeartbeats 4000000 in
theorem wks_u {W d c : Nat} {f : Nat → Int32} (h : WB W f) (hc : f 58 = nI c) (hd : d < 6) (hcd : c ≤ d) (v : Int32) : ∀ n, W + n ≤ 3001 → p_wks (upd f (18 + d) v) n = upd (p_wks f n) (18 + d) v := by
  intro n
  induction n with
  | zero => intro _; rfl
  | succ n ih =>
    intro hn
    obtain ⟨a, b⟩ := wks_all h n (by omega)
    obtain ⟨c', w, -, hc', -⟩ := WB_iff.mp a
    have : c' = c := by
      have e : nI c' = nI c := by rw [← hc'.2.1, b, hc]
      have e2 := congrArg Int32.toInt e
      have h6 := hc'.1
      rw [q_ti (by omega), q_ti (by omega)] at e2
      omega
    subst this
    rw [p_wks, p_wks, ih (by omega), wk_u hc' hd hcd]
set_option maxRecDepth 100000 in
set_option maxHeartbeats 4000000 in
theorem giv_c {W c : Nat} {f : Nat → Int32} (h : WB W f) (hc : f 58 = nI c) (s : Nat) {m : Nat} (hm : W + m ≤ 3001) {j : Nat} (hj : 54 ≤ j) : ∀ k, c + k ≤ 6 → p_wks (p_giv f s (c + k)) m j = p_wks (p_giv f s c) m j := by
  intro k
  induction k with
  | zero => intro _; rfl
  | succ k ih =>
    intro hk
    obtain ⟨a, b⟩ := giv_WB h s (c + k) (by omega)
    rw [show c + (k + 1) = c + k + 1 from rfl, p_giv]
    by_cases z : p_bit s (c + k) = 0
    · rw [if_pos z, wks_u a (b.trans hc) (by omega) (by omega) 0 m hm, q_upd_n (by omega)]; exact ih (by omega)
    · rw [if_neg z]; exact ih (by omega)
