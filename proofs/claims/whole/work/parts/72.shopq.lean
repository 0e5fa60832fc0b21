/-! debtors by both; what was read is a shop -/
def p_gr (m : Nat) (f : Nat → Int32) : Prop := (∀ j, 62 ≤ j → f j = 0) ∧ f 58 = nI m ∧ (0 ≤ (f 54).toInt ∧ (f 54).toInt ≤ 99) ∧ (0 ≤ (f 59).toInt ∧ (f 59).toInt ≤ 20) ∧ (1 ≤ (f 60).toInt ∧ (f 60).toInt ≤ 8) ∧ (f 55 = 0 ∧ f 56 = 0 ∧ f 57 = 0 ∧ f 61 = 0) ∧ ∀ d, d < 6 → f d = 0 ∧ f (24 + d) = 0 ∧ f (30 + d) = 0 ∧ (0 ≤ (f (6 + d)).toInt ∧ (f (6 + d)).toInt ≤ 60) ∧ (0 ≤ (f (12 + d)).toInt ∧ (f (12 + d)).toInt ≤ 40) ∧ (0 ≤ (f (18 + d)).toInt ∧ (f (18 + d)).toInt ≤ 99) ∧ (d < m → 1 ≤ (f (48 + d)).toInt ∧ (f (48 + d)).toInt ≤ 5)
set_option maxRecDepth 100000 in
set_option maxHeartbeats 4000000 in
theorem gr_WB {m : Nat} {f : Nat → Int32} (hm : m ≤ 6) (h : p_gr m f) : WB 999 f := by
  obtain ⟨hz, h58, h54, h59, h60, ⟨h55, h56, h57, h61⟩, hd⟩ := h
  refine ⟨hz, m, 0, hm, by omega, h58, by rw [h61]; exact nI_0.symm, fun d hd6 => ?_, ?_⟩
  · obtain ⟨a1, a2, a3, a4, a5, a6, a7⟩ := hd d hd6
    refine ⟨?_, a4, a5, a6, Or.inl a2, Or.inl a3, a7, fun _ => ⟨a1, a2, a3⟩⟩
    rw [a1, q_ti0]; omega
  · rw [h55, h56, h57, q_ti0]
    refine ⟨by omega, by omega, by omega, by omega, Or.inl rfl, fun _ => h54.1, h59, fun _ => h60⟩
section SQ
variable {tp : Nat} {T : Nat → Int32}
set_option maxRecDepth 100000 in
set_option maxHeartbeats 4000000 in
theorem kd_in {x : Int32} (h : ¬ p_kd x = 0) : 1 ≤ (p_kd x).toInt ∧ (p_kd x).toInt ≤ 5 := by
  revert h
  rw [p_kd]
  intro h
  split
  · rw [q_ti1]; omega
  · rename_i a; rw [if_neg a] at h
    split
    · rw [q_ti (by omega)]; omega
    · rename_i b; rw [if_neg b] at h
      split
      · rw [q_ti (by omega)]; omega
      · rename_i c; rw [if_neg c] at h
        split
        · rw [q_ti (by omega)]; omega
        · rename_i d; rw [if_neg d] at h
          split
          · rw [q_ti (by omega)]; omega
          · rename_i e; rw [if_neg e] at h; exact absurd rfl h
/-- the class's row with one debtor more -/
def row_D (T : Nat → Int32) (tp q m : Nat) (row : Nat → Int32) : Nat → Int32 := upd (upd (upd (upd (upd row (48 + m) (p_kd (p_va T tp q))) 58 (nI (m + 1))) (6 + m) (o_val T tp 0 (nI 60) (d_A T tp q m))) (12 + m) (o_val T tp 0 (nI 40) (d_2 T tp q m))) (18 + m) (o_val T tp 0 (nI 99) (d_4 T tp q m))
set_option maxRecDepth 100000 in
set_option maxHeartbeats 4000000 in
theorem gr_D {q m : Nat} {row : Nat → Int32} (hm : m ≤ 5) (hk : ¬ p_kd (p_va T tp q) = 0) (h : p_gr m row) : p_gr (m + 1) (row_D T tp q m row) := by
  obtain ⟨hz, h58, h54, h59, h60, ⟨h55, h56, h57, h61⟩, hd⟩ := h
  have v1 := val_in (T := T) (tp := tp) (lo := 0) (hi := nI 60) (by rw [q_ti0, q_ti (by omega)]; omega) (d_A T tp q m)
  have v2 := val_in (T := T) (tp := tp) (lo := 0) (hi := nI 40) (by rw [q_ti0, q_ti (by omega)]; omega) (d_2 T tp q m)
  have v3 := val_in (T := T) (tp := tp) (lo := 0) (hi := nI 99) (by rw [q_ti0, q_ti (by omega)]; omega) (d_4 T tp q m)
  rw [q_ti0, q_ti (by omega)] at v1 v2 v3
  have kk := kd_in hk
  obtain ⟨x1, hx1⟩ : ∃ x, x = o_val T tp 0 (nI 60) (d_A T tp q m) := ⟨_, rfl⟩
  obtain ⟨x2, hx2⟩ : ∃ x, x = o_val T tp 0 (nI 40) (d_2 T tp q m) := ⟨_, rfl⟩
  obtain ⟨x3, hx3⟩ : ∃ x, x = o_val T tp 0 (nI 99) (d_4 T tp q m) := ⟨_, rfl⟩
  obtain ⟨x0, hx0⟩ : ∃ x, x = p_kd (p_va T tp q) := ⟨_, rfl⟩
  rw [row_D, ← hx1, ← hx2, ← hx3, ← hx0]
  rw [← hx1] at v1; rw [← hx2] at v2; rw [← hx3] at v3; rw [← hx0] at kk
  refine ⟨fun j hj => ?_, ?_, ?_, ?_, ?_, ⟨?_, ?_, ?_, ?_⟩, fun d hd6 => ?_⟩
  · simp (disch := omega) only [q_upd_n]; exact hz j hj
  · simp (disch := omega) only [q_upd_n, q_upd_s]
  · simp (disch := omega) only [q_upd_n]; exact h54
  · simp (disch := omega) only [q_upd_n]; exact h59
  · simp (disch := omega) only [q_upd_n]; exact h60
  · simp (disch := omega) only [q_upd_n]; exact h55
  · simp (disch := omega) only [q_upd_n]; exact h56
  · simp (disch := omega) only [q_upd_n]; exact h57
  · simp (disch := omega) only [q_upd_n]; exact h61
  · obtain ⟨a1, a2, a3, a4, a5, a6, a7⟩ := hd d hd6
    by_cases e : d = m
    · subst e
      simp (disch := omega) only [q_upd_n, q_upd_s]
      exact ⟨a1, a2, a3, ⟨by omega, by omega⟩, ⟨by omega, by omega⟩, ⟨by omega, by omega⟩, fun _ => kk⟩
    · simp (disch := omega) only [q_upd_n]
      exact ⟨a1, a2, a3, a4, a5, a6, fun z => a7 (by omega)⟩
/-- a row of the reference under way: it is there already -/
def to1 (f : Nat → Int32) : Nat → Int32 := upd (toM f 0) 0 1
set_option maxRecDepth 100000 in
set_option maxHeartbeats 4000000 in
theorem to1_u {f g : Nat → Int32} {j : Nat} {v : Int32} (hj : ¬ j = 0) (h : upd (toM f 0) j v = toM g 0) : upd (to1 f) j v = to1 g := by
  rw [to1, to1, q_upd_sw (show 0 ≠ j by omega), h]
set_option maxRecDepth 100000 in
set_option maxHeartbeats 4000000 in
theorem to1_4 (f : Nat → Int32) (v : Int32) : upd (to1 f) 4 v = to1 (upd f 58 v) := by
  funext j
  by_cases j0 : j = 0
  · subst j0
    rw [q_upd_n (by omega), to1, to1, q_upd_s, q_upd_s]
  · by_cases j4 : j = 4
    · subst j4
      rw [q_upd_s, to1, q_upd_n (by omega), m_s4, q_upd_s]
    · rw [q_upd_n j4, to1, to1, q_upd_n j0, q_upd_n j0]
      unfold toM
      by_cases a : j < 10
      · rw [if_pos a, if_pos a, if_neg j0, if_neg j0]
        simp (disch := omega) only [q_upd_n, j4, if_false]
      · rw [if_neg a, if_neg a]
        by_cases b : j < 64
        · rw [if_pos b, if_pos b]
          have : (j - 10) / 9 ≤ 5 := by omega
          simp (disch := omega) only [q_upd_n]
        · rw [if_neg b, if_neg b]
set_option maxRecDepth 100000 in
set_option maxHeartbeats 4000000 in
theorem to1_D {q m : Nat} {row : Nat → Int32} (hm : m < 6) : d_F T tp q m (to1 row) = to1 (row_D T tp q m row) := by
  have e : ∀ (f : Nat → Int32) a b c d, upd (upd (upd (upd (upd (to1 f) (10 + 9 * m) a) (10 + 9 * m + 1) b) (10 + 9 * m + 2) c) (10 + 9 * m + 3) d) 4 (nI (m + 1)) = to1 (upd (upd (upd (upd (upd f (48 + m) a) 58 (nI (m + 1))) (6 + m) b) (12 + m) c) (18 + m) d) := fun f a b c d => by
    rw [to1_u (by omega) (m_u0 f 0 a hm), to1_u (by omega) (m_u1 _ 0 b hm), to1_u (by omega) (m_u2 _ 0 c hm), to1_u (by omega) (m_u3 _ 0 d hm), to1_4]
    rw [q_upd_sw (show 18 + m ≠ 58 by omega), q_upd_sw (show 12 + m ≠ 58 by omega), q_upd_sw (show 6 + m ≠ 58 by omega)]
  exact e _ _ _ _ _
set_option maxRecDepth 100000 in
set_option maxHeartbeats 4000000 in
theorem to1_H : l_F T tp = to1 (row_H T tp) := by
  have z : (fun _ => (0 : Int32)) = toM (fun _ => 0) 0 := by
    funext j
    unfold toM
    by_cases a : j < 10
    · rw [if_pos a]; simp
    · rw [if_neg a]; by_cases b : j < 64 <;> simp [b]
  have e : ∀ a b c, upd (upd (upd (upd (fun _ => 0) 0 1) 1 a) 2 b) 3 c = to1 (upd (upd (upd (fun _ => 0) 54 a) 59 b) 60 c) := fun a b c => by
    have : upd (fun _ => (0 : Int32)) 0 1 = to1 (fun _ => 0) := by rw [to1, ← z]
    rw [this, to1_u (by omega) (m_w1 _ 0 a), to1_u (by omega) (m_w2 _ 0 b), to1_u (by omega) (m_w3 _ 0 c)]
  exact e _ _ _
set_option maxRecDepth 100000 in
set_option maxHeartbeats 4000000 in
theorem gr_H : p_gr 0 (row_H T tp) := by
  have v1 := val_in (T := T) (tp := tp) (lo := 0) (hi := nI 99) (by rw [q_ti0, q_ti (by omega)]; omega) (l_A T tp)
  have v2 := val_in (T := T) (tp := tp) (lo := 0) (hi := nI 20) (by rw [q_ti0, q_ti (by omega)]; omega) (l_2 T tp)
  have v3 := val_in (T := T) (tp := tp) (lo := 1) (hi := nI 8) (by rw [q_ti1, q_ti (by omega)]; omega) (l_4 T tp)
  rw [q_ti0, q_ti (by omega)] at v1 v2
  rw [q_ti1, q_ti (by omega)] at v3
  have z0 : (0 : Int32).toInt = 0 := q_ti0
  rw [row_H]
  refine ⟨fun j hj => ?_, ?_, ?_, ?_, ?_, ⟨?_, ?_, ?_, ?_⟩, fun d hd6 => ?_⟩
  · simp (disch := omega) only [q_upd_n]
  · simp (disch := omega) only [q_upd_n, nI_0]
  · simp (disch := omega) only [q_upd_n, q_upd_s]; omega
  · simp (disch := omega) only [q_upd_n, q_upd_s]; omega
  · simp (disch := omega) only [q_upd_n, q_upd_s]; omega
  · simp (disch := omega) only [q_upd_n]
  · simp (disch := omega) only [q_upd_n]
  · simp (disch := omega) only [q_upd_n]
  · simp (disch := omega) only [q_upd_n]
  · simp (disch := omega) only [q_upd_n, z0]
    refine ⟨trivial, trivial, trivial, by omega, by omega, by omega, fun z => by omega⟩
end SQ
