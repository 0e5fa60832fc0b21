/-! weeks by draws -/
set_option maxRecDepth 100000 in
set_option maxHeartbeats 4000000 in
theorem q_ln0 {k : Nat} (h : 0 < k) (h2 : k < 2147483648) : (lN k = 0) = False := eq_false (fun z => by
  have := congrArg Int64.toInt z
  rw [q_lti h2, q_lti0] at this
  omega)
set_option maxRecDepth 100000 in
set_option maxHeartbeats 4000000 in
theorem j_bmod {z : Int} (h1 : -9223372036854775808 ≤ z) (h2 : z < 9223372036854775808) : z.bmod (2 ^ 64) = z := Int.bmod_eq_of_le (by omega) (by omega)
def p_lm (x : Int64) (k : Nat) : Int64 := x - x / lN k * lN k
set_option maxRecDepth 100000 in
set_option maxHeartbeats 4000000 in
theorem lm_n {x : Int64} {k : Nat} (hx : 0 ≤ x.toInt) (hk : 0 < k) (hk2 : k < 2147483648) : (p_lm x k).toInt = x.toInt % (k : Int) := by
  have b := Int64.toInt_lt x
  have q0 : 0 ≤ x.toInt / (k : Int) := Int.ediv_nonneg hx (by omega)
  have q1 : x.toInt / (k : Int) ≤ x.toInt := Int.ediv_le_self _ hx
  have e1 : (x / lN k).toInt = x.toInt / (k : Int) := by
    rw [Int64.toInt_div, q_lti hk2, Int.tdiv_eq_ediv_of_nonneg hx]
    exact j_bmod (by omega) (by omega)
  have m1 : x.toInt / (k : Int) * (k : Int) ≤ x.toInt := Int.ediv_mul_le _ (by omega)
  have m0 : 0 ≤ x.toInt / (k : Int) * (k : Int) := Int.mul_nonneg q0 (by omega)
  have e2 : (x / lN k * lN k).toInt = x.toInt / (k : Int) * (k : Int) := by
    rw [Int64.toInt_mul, e1, q_lti hk2]
    exact j_bmod (by omega) (by omega)
  have e3 : x.toInt % (k : Int) = x.toInt - x.toInt / (k : Int) * (k : Int) := by
    rw [Int.emod_def, Int.mul_comm]
  rw [p_lm, Int64.toInt_sub, e2, e3]
  exact j_bmod (by omega) (by omega)
def p_dx (s : Int64) : Nat → Int64
  | 0 => s
  | i + 1 => p_lm (p_dx s i * lN 16807) 2147483647
set_option maxRecDepth 100000 in
set_option maxHeartbeats 4000000 in
theorem dx_r {s : Int64} (h : 0 ≤ s.toInt ∧ s.toInt < 2147483647) : ∀ i, 0 ≤ (p_dx s i).toInt ∧ (p_dx s i).toInt < 2147483647 := by
  intro i
  induction i with
  | zero => exact h
  | succ i ih =>
    have e : (p_dx s i * lN 16807).toInt = (p_dx s i).toInt * 16807 := by
      rw [Int64.toInt_mul, q_lti (by omega)]
      exact j_bmod (by omega) (by omega)
    have := lm_n (x := p_dx s i * lN 16807) (k := 2147483647) (by rw [e]; omega) (by omega) (by omega)
    rw [p_dx, this]
    exact ⟨Int.emod_nonneg _ (by omega), Int.emod_lt_of_pos _ (by omega)⟩
def p_dg (g : Nat → Int32) (x : Int64) : Nat → Int32 := if p_lm x 10 = 0 ∧ g 56 = 0 then upd g 56 ((p_lm x 5).toInt32 + 1) else g
def p_df (f : Nat → Int32) (X : Nat → Int64) : Nat → Nat → Int32
  | 0 => f
  | i + 1 => (p_wk (p_dg (p_df f X i) (X (i + 1)))).1
def p_di (f : Nat → Int32) (X : Nat → Int64) : Nat → Int32
  | 0 => 0
  | i + 1 => if (p_wk (p_dg (p_df f X i) (X (i + 1)))).2 = 0 then p_di f X i + 1 else p_di f X i
set_option maxRecDepth 100000 in
set_option maxHeartbeats 4000000 in
theorem df_s (f : Nat → Int32) (X : Nat → Int64) (i : Nat) : p_df f X (i + 1) = (p_wk (p_dg (p_df f X i) (X (i + 1)))).1 := by rw [p_df]
set_option maxRecDepth 100000 in
set_option maxHeartbeats 4000000 in
theorem di_s (f : Nat → Int32) (X : Nat → Int64) (i : Nat) : p_di f X (i + 1) = if (p_wk (p_dg (p_df f X i) (X (i + 1)))).2 = 0 then p_di f X i + 1 else p_di f X i := by rw [p_di]
set_option maxRecDepth 100000 in
set_option maxHeartbeats 4000000 in
theorem dx_s (s : Int64) (i : Nat) : p_dx s i * lN 16807 - p_dx s i * lN 16807 / lN 2147483647 * lN 2147483647 = p_dx s (i + 1) := by rw [p_dx, p_lm]
set_option maxRecDepth 100000 in
set_option maxHeartbeats 4000000 in
theorem lm_s (x : Int64) (k : Nat) : x - x / lN k * lN k = p_lm x k := by rw [p_lm]
set_option maxRecDepth 100000 in
set_option maxHeartbeats 4000000 in
theorem dg_WB {W : Nat} {g : Nat → Int32} {x : Int64} (h : WB W g) (hx : 0 ≤ x.toInt) : WB W (p_dg g x) ∧ p_dg g x 58 = g 58 := by
  rw [p_dg]
  by_cases z : p_lm x 10 = 0 ∧ g 56 = 0
  · rw [if_pos z]
    refine ⟨WB_sc h (Or.inl rfl) ?_, q_upd_n (by decide)⟩
    have e := lm_n (k := 5) hx (by omega) (by omega)
    have r0 := Int.emod_nonneg x.toInt (show ((5 : Nat) : Int) ≠ 0 by omega)
    have r1 := Int.emod_lt_of_pos x.toInt (show (0 : Int) < ((5 : Nat) : Int) by omega)
    have e2 : (p_lm x 5).toInt32.toInt = x.toInt % ((5 : Nat) : Int) := by
      rw [Int64.toInt_toInt32, e]
      exact i_bmod (by omega) (by omega)
    have e3 : ((p_lm x 5).toInt32 + 1).toInt = x.toInt % ((5 : Nat) : Int) + 1 := by
      rw [i_add (by rw [e2, q_ti1]; omega) (by rw [e2, q_ti1]; omega), e2, q_ti1]
    rw [e3]
    omega
  · rw [if_neg z]; exact ⟨h, rfl⟩
set_option maxRecDepth 100000 in
set_option maxHeartbeats 4000000 in
theorem df_WB {W : Nat} {f : Nat → Int32} {X : Nat → Int64} (h : WB W f) (hs : ∀ i, 0 ≤ (X i).toInt) : ∀ i, W + i ≤ 3001 → WB (W + i) (p_df f X i) ∧ p_df f X i 58 = f 58 := by
  intro i
  induction i with
  | zero => exact fun _ => ⟨h, rfl⟩
  | succ i ih =>
    intro hi
    obtain ⟨a, b⟩ := ih (by omega)
    obtain ⟨c, d⟩ := dg_WB a (hs (i + 1))
    have cw := WB_wk (W := W + i) c (by omega)
    have ce := wk_58 (W := W + i) c (by omega)
    rw [df_s]
    exact ⟨cw, by rw [ce, d, b]⟩
