/-! what is told: tokens -/
def p_isd (x : Int32) : Bool := decide (48 ≤ x.toInt ∧ x.toInt ≤ 57)
def p_rn (T : Nat → Int32) : Nat → Nat → Nat
  | 0, _ => 0
  | k + 1, p => if p_isd (T p) = true then p_rn T k (p + 1) + 1 else 0
set_option maxRecDepth 100000 in
set_option maxHeartbeats 4000000 in
theorem rn_le (T : Nat → Int32) : ∀ k p, p_rn T k p ≤ k := by
  intro k
  induction k with
  | zero => intro p; exact Nat.le_refl _
  | succ k ih => intro p; rw [p_rn]; split; have := ih (p + 1); omega; omega
def p_vl (T : Nat → Int32) (q : Nat) : Nat → Int32
  | 0 => 0
  | i + 1 => p_vl T q i * nI 10 + T (q + i) - nI 48
/-- letters of kinds -/
def p_kd (x : Int32) : Int32 := if x = nI 115 then 1 else if x = nI 114 then nI 2 else if x = nI 104 then nI 3 else if x = nI 116 then nI 4 else if x = nI 103 then nI 5 else 0
/-- the token at q: where the next one begins, its sort, its value -/
def p_cu (T : Nat → Int32) (tp q : Nat) : Nat := if q < tp then (if p_isd (T q) = true then q + p_rn T (tp - q) q else q + 1) else q
def p_sg (x : Int32) : Bool := decide (x = nI 44 ∨ x = nI 59)
def p_lt (x : Int32) : Bool := decide (97 ≤ x.toInt ∧ x.toInt ≤ 122)
def p_tk (T : Nat → Int32) (tp q : Nat) : Int32 := if q < tp then (if p_lt (T q) = true then nI 2 else if p_isd (T q) = true then (if p_rn T (tp - q) q ≤ 2 then nI 3 else 0) else if p_sg (T q) = true then nI 4 else 0) else 1
def p_vm (T : Nat → Int32) (q r : Nat) : Int32 := if r ≤ 1 then T q - nI 48 else nI 10 * (T q - nI 48) + T (q + 1) - nI 48
def p_va (T : Nat → Int32) (tp q : Nat) : Int32 := if q < tp then (if p_isd (T q) = true then p_vm T q (p_rn T (tp - q) q) else T q) else -1000000
set_option maxRecDepth 100000 in
set_option maxHeartbeats 4000000 in
theorem vm_vl {T : Nat → Int32} {q r : Nat} (h : 1 ≤ r) (h2 : r ≤ 2) : p_vl T q r = p_vm T q r := by
  have e1 : p_vl T q 1 = T q - nI 48 := by
    show (0 : Int32) * nI 10 + T (q + 0) - nI 48 = _
    rw [Int32.zero_mul, Int32.zero_add, Nat.add_zero]
  by_cases z : r ≤ 1
  · have : r = 1 := by omega
    subst this
    rw [p_vm, if_pos z]; exact e1
  · have : r = 2 := by omega
    subst this
    rw [p_vm, if_neg z, p_vl, e1, Int32.mul_comm]
/-! the reader's states: the token at which it stands, the fault -/
section OPS
variable (T : Nat → Int32) (tp : Nat)
def o_must (b : Bool) (z : Nat × Nat) : Nat × Nat := if z.2 = 0 then (if b = true then (p_cu T tp z.1, 0) else (z.1, 1)) else z
def o_bad (k : Nat) (z : Nat × Nat) : Nat × Nat := if z.2 = 0 then (z.1, k) else z
def o_rng (lo hi : Int32) (v : Int32) : Bool := decide (lo.toInt ≤ v.toInt ∧ v.toInt ≤ hi.toInt)
def o_num (lo hi : Int32) (z : Nat × Nat) : Nat × Nat := if z.2 = 0 then (if p_tk T tp z.1 = nI 3 then (if o_rng lo hi (p_va T tp z.1) = true then (p_cu T tp z.1, 0) else (z.1, 2)) else (z.1, 1)) else z
def o_val (lo hi : Int32) (z : Nat × Nat) : Int32 := if z.2 = 0 ∧ p_tk T tp z.1 = nI 3 ∧ o_rng lo hi (p_va T tp z.1) = true then p_va T tp z.1 else lo
def o_isg (c : Int32) (z : Nat × Nat) : Bool := decide (p_tk T tp z.1 = nI 4 ∧ p_va T tp z.1 = c)
def o_sgn (c : Int32) (z : Nat × Nat) : Nat × Nat := o_must T tp (o_isg T tp c z) z
def o_ltr (c : Int32) (z : Nat × Nat) : Bool := decide (z.2 = 0 ∧ p_tk T tp z.1 = nI 2 ∧ p_va T tp z.1 = c)
def o_srt (z : Nat × Nat) : Bool := decide (z.2 = 0 ∧ p_tk T tp z.1 = nI 2 ∧ ¬ p_kd (p_va T tp z.1) = 0)
/-- one token of the class's machine: state and row behind it -/
def p_lo (s pt : Nat) : Int32 := if pt = 0 ∧ s = 5 then 1 else 0
def p_hi (s pt : Nat) : Int32 := if pt = 0 then (if s = 1 then nI 99 else if s = 3 then nI 20 else nI 8) else (if s = 1 then nI 60 else if s = 3 then nI 40 else nI 99)
def p_pl (s pt : Nat) : Nat := if pt = 0 then (if s = 1 then 54 else if s = 3 then 59 else 60) else (if s = 1 then 6 else if s = 3 then 12 else 18) + (pt - 1)
def p_tok (s pt q : Nat) (row : Nat → Int32) : (Nat × Nat) × (Nat → Int32) :=
  if s = 0 then (if pt = 0 then (o_must T tp (o_ltr T tp (nI 102) (q, 0)) (q, 0), row) else if o_srt T tp (q, 0) = true then (if pt ≤ 6 then ((p_cu T tp q, 0), upd (upd row (48 + (pt - 1)) (p_kd (p_va T tp q))) 58 (nI pt)) else ((q, 3), row)) else ((q, 1), row))
  else if s % 2 = 1 then (o_num T tp (p_lo s pt) (p_hi s pt) (q, 0), if (o_num T tp (p_lo s pt) (p_hi s pt) (q, 0)).2 = 0 then upd row (p_pl s pt) (p_va T tp q) else row)
  else (o_sgn T tp (if s = 6 then nI 59 else nI 44) (q, 0), row)
def p_M : Nat → Nat → Nat → Nat → (Nat → Int32) → (Nat × Nat) × (Nat → Int32)
  | 0, _, _, q, row => ((q, 1), row)
  | k + 1, s, pt, q, row => if tp ≤ q ∧ s = 0 ∧ 2 ≤ pt then ((q, 0), row) else if (p_tok T tp s pt q row).1.2 = 0 then p_M k (if s = 6 then 0 else s + 1) (if s = 6 then pt + 1 else pt) (p_tok T tp s pt q row).1.1 (p_tok T tp s pt q row).2 else p_tok T tp s pt q row
end OPS
section PT
variable {T : Nat → Int32} {tp : Nat}
set_option maxRecDepth 100000 in
set_option maxHeartbeats 4000000 in
theorem cu_le {q : Nat} (h : q ≤ tp) : p_cu T tp q ≤ tp := by
  rw [p_cu]
  split
  · split
    · have := rn_le T (tp - q) q; omega
    · omega
  · exact h
set_option maxRecDepth 100000 in
set_option maxHeartbeats 4000000 in
theorem cu_gt {q : Nat} (h : q < tp) : q < p_cu T tp q := by
  rw [p_cu, if_pos h]
  split
  · rename_i z
    have : tp - q = (tp - q - 1) + 1 := by omega
    rw [this, p_rn, if_pos z]; omega
  · omega
set_option maxRecDepth 100000 in
set_option maxHeartbeats 4000000 in
theorem tk_end {q : Nat} (h : ¬ q < tp) : p_tk T tp q = 1 := by rw [p_tk, if_neg h]
/-! at the end of the tape a token is wanting -/
set_option maxRecDepth 100000 in
set_option maxHeartbeats 4000000 in
theorem tok_end {s pt q : Nat} {row : Nat → Int32} (h : tp ≤ q) (hs : ¬ (s = 0 ∧ 2 ≤ pt)) (hp : 1 ≤ pt ∨ True) : (p_tok T tp s pt q row).1 = (q, 1) := by
  have e := tk_end (T := T) (tp := tp) (q := q) (by omega)
  have n2 : ¬ (1 : Int32) = nI 2 := by rw [q_k12]; exact fun z => z
  have n3 : ¬ (1 : Int32) = nI 3 := by rw [q_k13]; exact fun z => z
  have n4 : ¬ (1 : Int32) = nI 4 := by rw [q_k14]; exact fun z => z
  have f1 : o_ltr T tp (nI 102) (q, 0) = false := by simp [o_ltr, e, n2]
  have f2 : o_srt T tp (q, 0) = false := by simp [o_srt, e, n2]
  have f3 : ∀ lo hi, o_num T tp lo hi (q, 0) = (q, 1) := fun lo hi => by simp [o_num, e, n3]
  have f4 : ∀ c, o_isg T tp c (q, 0) = false := fun c => by simp [o_isg, e, n4]
  rw [p_tok]
  by_cases z : s = 0
  · rw [if_pos z]
    by_cases y : pt = 0
    · rw [if_pos y, f1]; rfl
    · rw [if_neg y, f2]; rfl
  · rw [if_neg z]
    by_cases y : s % 2 = 1
    · rw [if_pos y, f3]
    · rw [if_neg y, o_sgn, f4]; rfl
end PT
