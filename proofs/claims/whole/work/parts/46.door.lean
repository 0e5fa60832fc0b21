/-! whom to meet at the door first: ranks -/
def p_bef (f : Nat → Int32) (o d : Nat) : Bool := decide ((f d).toInt < (f o).toInt ∨ ((f o).toInt = (f d).toInt ∧ o < d))
def p_rk (f : Nat → Int32) (d : Nat) : Nat → Nat
  | 0 => 0
  | o + 1 => if cmb f o = true ∧ p_bef f o d = true then p_rk f d o + 1 else p_rk f d o
set_option maxRecDepth 100000 in
set_option maxHeartbeats 4000000 in
theorem bef_iff (f : Nat → Int32) (o d : Nat) : p_bef f o d = true ↔ ((f d).toInt < (f o).toInt ∨ ((f o).toInt = (f d).toInt ∧ o < d)) := by simp [p_bef]
set_option maxRecDepth 100000 in
set_option maxHeartbeats 4000000 in
theorem bef_tr {f : Nat → Int32} {a b d : Nat} (h1 : p_bef f a b = true) (h2 : p_bef f b d = true) : p_bef f a d = true := by
  rw [bef_iff] at *; omega
set_option maxRecDepth 100000 in
set_option maxHeartbeats 4000000 in
theorem bef_as {f : Nat → Int32} {a b : Nat} (h1 : p_bef f a b = true) (h2 : p_bef f b a = true) : False := by
  rw [bef_iff] at *; omega
set_option maxRecDepth 100000 in
set_option maxHeartbeats 4000000 in
theorem bef_tot {f : Nat → Int32} {a b : Nat} (h : a ≠ b) : p_bef f a b = true ∨ p_bef f b a = true := by
  rw [bef_iff, bef_iff]; omega
set_option maxRecDepth 100000 in
set_option maxHeartbeats 4000000 in
theorem rk_mono {f : Nat → Int32} {a b : Nat} (ha : cmb f a = true) (h : p_bef f a b = true) : ∀ n, p_rk f a n ≤ p_rk f b n ∧ (a < n → p_rk f a n < p_rk f b n) := by
  intro n
  induction n with
  | zero => exact ⟨Nat.le_refl _, fun z => by omega⟩
  | succ n ih =>
    rw [p_rk, p_rk]
    by_cases q : a = n
    · have e1 : ¬ (cmb f n = true ∧ p_bef f n a = true) := fun z => bef_as z.2 (by rw [q] at z ⊢; exact z.2)
      have e2 : cmb f n = true ∧ p_bef f n b = true := by rw [← q]; exact ⟨ha, h⟩
      rw [if_neg e1, if_pos e2]
      omega
    · by_cases z : cmb f n = true ∧ p_bef f n a = true
      · have e2 : cmb f n = true ∧ p_bef f n b = true := ⟨z.1, bef_tr z.2 h⟩
        rw [if_pos z, if_pos e2]
        exact ⟨by omega, fun y => by have := ih.2 (by omega); omega⟩
      · rw [if_neg z]
        by_cases e2 : cmb f n = true ∧ p_bef f n b = true
        · rw [if_pos e2]; exact ⟨by omega, fun y => by omega⟩
        · rw [if_neg e2]; exact ⟨ih.1, fun y => ih.2 (by omega)⟩
set_option maxRecDepth 100000 in
set_option maxHeartbeats 4000000 in
theorem rk_lt {f : Nat → Int32} {a b : Nat} (ha : cmb f a = true) (ha6 : a < 6) (h : p_bef f a b = true) : p_rk f a 6 < p_rk f b 6 := by
  exact (rk_mono ha h 6).2 ha6
set_option maxRecDepth 100000 in
set_option maxHeartbeats 4000000 in
theorem rk_inj {f : Nat → Int32} {a b : Nat} (ha : cmb f a = true) (ha6 : a < 6) (hb : cmb f b = true) (hb6 : b < 6) (h : p_rk f a 6 = p_rk f b 6) : a = b := by
  by_cases q : a = b
  · exact q
  · rcases bef_tot (f := f) q with z | z
    · have := rk_lt ha ha6 z; omega
    · have := rk_lt hb hb6 z; omega
def p_cn (f : Nat → Int32) (p : Nat) : Nat → Nat
  | 0 => 0
  | o + 1 => if cmb f o = true ∧ p_rk f o 6 < p then p_cn f p o + 1 else p_cn f p o
set_option maxRecDepth 100000 in
set_option maxHeartbeats 4000000 in
theorem cn_s {f : Nat → Int32} {p : Nat} : ∀ n, n ≤ 6 → p_cn f (p + 1) n = p_cn f p n ∨ (p_cn f (p + 1) n = p_cn f p n + 1 ∧ ∃ o, o < n ∧ cmb f o = true ∧ p_rk f o 6 = p) := by
  intro n
  induction n with
  | zero => intro _; exact Or.inl rfl
  | succ n ih =>
    intro hn
    rw [p_cn, p_cn]
    by_cases z : cmb f n = true ∧ p_rk f n 6 = p
    · rw [if_pos ⟨z.1, by omega⟩, if_neg (fun q => by omega)]
      rcases ih (by omega) with a | ⟨a, o, ho, h1, h2⟩
      · exact Or.inr ⟨by omega, n, by omega, z⟩
      · have := rk_inj h1 (by omega) z.1 (by omega) (h2.trans z.2.symm)
        omega
    · by_cases y : cmb f n = true ∧ p_rk f n 6 < p
      · rw [if_pos ⟨y.1, by omega⟩, if_pos y]
        rcases ih (by omega) with a | ⟨a, o, ho, h1, h2⟩
        · exact Or.inl (by omega)
        · exact Or.inr ⟨by omega, o, by omega, h1, h2⟩
      · rw [if_neg (fun q => by
          have : ¬ p_rk f n 6 = p := fun w => z ⟨q.1, w⟩
          exact y ⟨q.1, by omega⟩), if_neg y]
        rcases ih (by omega) with a | ⟨a, o, ho, h1, h2⟩
        · exact Or.inl a
        · exact Or.inr ⟨a, o, by omega, h1, h2⟩
set_option maxRecDepth 100000 in
set_option maxHeartbeats 4000000 in
theorem cn_le (f : Nat → Int32) : ∀ p, p_cn f p 6 ≤ p := by
  intro p
  induction p with
  | zero => simp [p_cn]
  | succ p ih => rcases cn_s (f := f) (p := p) 6 (by omega) with a | ⟨a, -⟩ <;> omega
set_option maxRecDepth 100000 in
set_option maxHeartbeats 4000000 in
theorem rk_max {f : Nat → Int32} {p j : Nat} (hj : p ≤ p_rk f j 6) (h : ∀ o, o < 6 → cmb f o = true → p ≤ p_rk f o 6 → o ≠ j → p_bef f j o = true) : p_rk f j 6 = p := by
  have : ∀ n, n ≤ 6 → p_rk f j n ≤ p_cn f p n := by
    intro n
    induction n with
    | zero => intro _; simp [p_rk, p_cn]
    | succ n ih =>
      intro hn
      have := ih (by omega)
      rw [p_rk, p_cn]
      by_cases z : cmb f n = true ∧ p_bef f n j = true
      · rw [if_pos z, if_pos ⟨z.1, by
          by_cases y : p_rk f n 6 < p
          · exact y
          · have hne : n ≠ j := fun q => by rw [q] at z; exact bef_as z.2 z.2
            exact (bef_as z.2 (h n (by omega) z.1 (by omega) hne)).elim⟩]
        omega
      · rw [if_neg z]; split <;> omega
  have a := this 6 (Nat.le_refl _)
  have b := cn_le f p
  omega
/-- the debtor with k others ahead of him, or none -/
def p_own (f : Nat → Int32) (k : Nat) (v : Int32) : Prop := (∃ d, d < 6 ∧ cmb f d = true ∧ p_rk f d 6 = k ∧ v = nI d) ∨ ((∀ d, d < 6 → cmb f d = true → ¬ p_rk f d 6 = k) ∧ v = -1000000)
set_option maxRecDepth 100000 in
set_option maxHeartbeats 4000000 in
theorem own_u {f : Nat → Int32} {k : Nat} {v v' : Int32} (h : p_own f k v) (h' : p_own f k v') : v = v' := by
  rcases h with ⟨d, d6, dc, dk, rfl⟩ | ⟨a, rfl⟩
  · rcases h' with ⟨e, e6, ec, ek, rfl⟩ | ⟨a, rfl⟩
    · rw [rk_inj dc d6 ec e6 (dk.trans ek.symm)]
    · exact absurd dk (a d d6 dc)
  · rcases h' with ⟨e, e6, ec, ek, rfl⟩ | ⟨b, rfl⟩
    · exact absurd ek (a e e6 ec)
    · rfl
set_option maxRecDepth 100000 in
set_option maxHeartbeats 4000000 in
theorem bit_or {s j d : Nat} (hs : s < 64) (hj : j < 6) (hd : d < 6) : (p_bit (s ||| 2 ^ j) d = 0) = (p_bit s d = 0 ∧ d ≠ j) := by
  have : ∀ s : Fin 64, ∀ j : Fin 6, ∀ d : Fin 6, decide (p_bit (s ||| 2 ^ (j : Nat)) d = 0) = decide (p_bit s d = 0 ∧ (d : Nat) ≠ j) := by decide +kernel
  exact propext (decide_eq_decide.mp (this ⟨s, hs⟩ ⟨j, hj⟩ ⟨d, hd⟩))
set_option maxRecDepth 100000 in
set_option maxHeartbeats 4000000 in
theorem or_n {s j : Nat} (hs : s < 64) (hj : j < 6) : s ||| 2 ^ j < 64 ∧ nI s ||| 1 <<< (nI j &&& 31) = nI (s ||| 2 ^ j) := by
  have : ∀ s : Fin 64, ∀ j : Fin 6, (s : Nat) ||| 2 ^ (j : Nat) < 64 ∧ nI s ||| 1 <<< (nI j &&& 31) = nI (s ||| 2 ^ (j : Nat)) := by decide +kernel
  exact this ⟨s, hs⟩ ⟨j, hj⟩
