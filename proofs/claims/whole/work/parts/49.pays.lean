/-! how likely so many pay: numbers -/
def p_pw (b : Int64) : Nat → Int64
  | 0 => 1
  | k + 1 => p_pw b k * b
def p_chs (o j : Nat) : Nat → Int64
  | 0 => 1
  | i + 1 => p_chs o j i * (nI o - nI j + nI (i + 1)).toInt64 / (nI (i + 1)).toInt64
def p_gc : Nat → Int64 → Int64 → Int64
  | 0, a, _ => a
  | k + 1, a, b => if b = 0 then a else p_gc k b (a - a / b * b)
def p_gd : Nat → Int64 → Int64 → Bool
  | 0, _, b => decide (b = 0)
  | k + 1, a, b => if b = 0 then true else p_gd k b (a - a / b * b)
def p_up (o p k : Nat) : Nat → Int64
  | 0 => 0
  | i + 1 => p_up o p k i + p_chs o (k + i) (k + i) * p_pw (nI p).toInt64 (k + i) * p_pw (nI 10 - nI p).toInt64 (o - (k + i))
def p_wy (p s : Nat) : Nat → Int64
  | 0 => 1
  | d + 1 => p_wy p s d * (if p_bit s d = 1 then (nI p).toInt64 else (nI 10 - nI p).toInt64)
def p_be (o p : Nat) : Nat → Int64
  | 0 => 0
  | s + 1 => p_be o p s + p_wy p s o
def p_abv (o p k : Nat) : Nat → Int64
  | 0 => 0
  | s + 1 => p_abv o p k s + (if p_pc (nI s) < nI k then 0 else p_wy p s o)
set_option maxRecDepth 100000 in
set_option maxHeartbeats 4000000 in
theorem chance_all {o p k : Nat} (ho : o < 7) (hp : p < 11) (hk : k ≤ o) : p_abv o p k (2 ^ o) = p_up o p k (o - k + 1) ∧ p_be o p (2 ^ o) = p_pw (nI 10).toInt64 o ∧ p_gd 100 (p_up o p k (o - k + 1)) (p_pw (nI 10).toInt64 o) = true ∧ ¬ p_gc 100 (p_up o p k (o - k + 1)) (p_pw (nI 10).toInt64 o) = 0 := by
  have : ∀ o : Fin 7, ∀ p : Fin 11, ∀ k : Fin 7, (k : Nat) ≤ o → p_abv o p k (2 ^ (o : Nat)) = p_up o p k (o - k + 1) ∧ p_be o p (2 ^ (o : Nat)) = p_pw (nI 10).toInt64 o ∧ p_gd 100 (p_up o p k (o - k + 1)) (p_pw (nI 10).toInt64 o) = true ∧ ¬ p_gc 100 (p_up o p k (o - k + 1)) (p_pw (nI 10).toInt64 o) = 0 := by decide +kernel
  exact this ⟨o, ho⟩ ⟨p, hp⟩ ⟨k, by omega⟩ hk
