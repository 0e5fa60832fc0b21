/-! THE REFERENCE'S ROW: its places -/
set_option maxRecDepth 100000 in
set_option maxHeartbeats 4000000 in
theorem m_r0 (f : Nat → Int32) (c : Int32) {d : Nat} (hd : d < 6) : toM f c (10 + 9 * d) = f (48 + d) := by
  have a1 : ¬ 10 + 9 * d < 10 := by omega
  have a2 : 10 + 9 * d < 64 := by omega
  have a3 : (10 + 9 * d - 10) % 9 = 0 := by omega
  have a4 : (10 + 9 * d - 10) / 9 = d := by omega
  simp only [toM, a1, a2, a3, a4, if_false, if_true, reduceIte, Nat.reduceEqDiff]
set_option maxRecDepth 100000 in
set_option maxHeartbeats 4000000 in
theorem m_u0 (f : Nat → Int32) (c v : Int32) {d : Nat} (hd : d < 6) : upd (toM f c) (10 + 9 * d) v = toM (upd f (48 + d) v) c := by
  funext j
  by_cases hj : j = 10 + 9 * d
  · rw [hj, q_upd_s, m_r0 _ _ hd, q_upd_s]
  · rw [q_upd_n hj]
    unfold toM
    by_cases h1 : j < 10
    · simp only [h1, if_true]
      have e58 : upd f (48 + d) v 58 = f 58 := q_upd_n (by omega)
      have e54 : upd f (48 + d) v 54 = f 54 := q_upd_n (by omega)
      have e59 : upd f (48 + d) v 59 = f 59 := q_upd_n (by omega)
      have e60 : upd f (48 + d) v 60 = f 60 := q_upd_n (by omega)
      have e61 : upd f (48 + d) v 61 = f 61 := q_upd_n (by omega)
      have e55 : upd f (48 + d) v 55 = f 55 := q_upd_n (by omega)
      have e56 : upd f (48 + d) v 56 = f 56 := q_upd_n (by omega)
      have e57 : upd f (48 + d) v 57 = f 57 := q_upd_n (by omega)
      rw [e58, e54, e59, e60, e61, e55, e56, e57]
    · simp only [h1, if_false]
      by_cases h2 : j < 64
      · simp only [h2, if_true]
        obtain ⟨x, hx⟩ : ∃ x, x = (j - 10) / 9 := ⟨_, rfl⟩
        obtain ⟨y, hy⟩ : ∃ y, y = (j - 10) % 9 := ⟨_, rfl⟩
        have hxy : j = 10 + 9 * x + y := by omega
        have hy9 : y < 9 := by omega
        have hx6 : x < 6 := by omega
        rw [← hx, ← hy]
        have g0 : y = 0 → upd f (48 + d) v (48 + x) = f (48 + x) := fun q => q_upd_n (by omega)
        have g1 : y = 1 → upd f (48 + d) v (6 + x) = f (6 + x) := fun q => q_upd_n (by omega)
        have g2 : y = 2 → upd f (48 + d) v (12 + x) = f (12 + x) := fun q => q_upd_n (by omega)
        have g3 : y = 3 → upd f (48 + d) v (18 + x) = f (18 + x) := fun q => q_upd_n (by omega)
        have g4 : y = 4 → upd f (48 + d) v x = f x := fun q => q_upd_n (by omega)
        have g5 : y = 5 → upd f (48 + d) v (24 + x) = f (24 + x) := fun q => q_upd_n (by omega)
        have g6 : y = 6 → upd f (48 + d) v (30 + x) = f (30 + x) := fun q => q_upd_n (by omega)
        have g7 : y = 7 → upd f (48 + d) v (36 + x) = f (36 + x) := fun q => q_upd_n (by omega)
        have g8 : y = 8 → upd f (48 + d) v (42 + x) = f (42 + x) := fun q => q_upd_n (by omega)
        have : y = 0 ∨ y = 1 ∨ y = 2 ∨ y = 3 ∨ y = 4 ∨ y = 5 ∨ y = 6 ∨ y = 7 ∨ y = 8 := by omega
        rcases this with q | q | q | q | q | q | q | q | q
        · rw [g0 q]; simp only [q, reduceIte, Nat.reduceEqDiff, if_false, if_true]
        · rw [g1 q]; simp only [q, reduceIte, Nat.reduceEqDiff, if_false, if_true]
        · rw [g2 q]; simp only [q, reduceIte, Nat.reduceEqDiff, if_false, if_true]
        · rw [g3 q]; simp only [q, reduceIte, Nat.reduceEqDiff, if_false, if_true]
        · rw [g4 q]; simp only [q, reduceIte, Nat.reduceEqDiff, if_false, if_true]
        · rw [g5 q]; simp only [q, reduceIte, Nat.reduceEqDiff, if_false, if_true]
        · rw [g6 q]; simp only [q, reduceIte, Nat.reduceEqDiff, if_false, if_true]
        · rw [g7 q]; simp only [q, reduceIte, Nat.reduceEqDiff, if_false, if_true]
        · rw [g8 q]; simp only [q, reduceIte, Nat.reduceEqDiff, if_false, if_true]
      · simp only [h2, if_false]
set_option maxRecDepth 100000 in
set_option maxHeartbeats 4000000 in
theorem m_r1 (f : Nat → Int32) (c : Int32) {d : Nat} (hd : d < 6) : toM f c (10 + 9 * d + 1) = f (6 + d) := by
  have a1 : ¬ 10 + 9 * d + 1 < 10 := by omega
  have a2 : 10 + 9 * d + 1 < 64 := by omega
  have a3 : (10 + 9 * d + 1 - 10) % 9 = 1 := by omega
  have a4 : (10 + 9 * d + 1 - 10) / 9 = d := by omega
  simp only [toM, a1, a2, a3, a4, if_false, if_true, reduceIte, Nat.reduceEqDiff]
set_option maxRecDepth 100000 in
set_option maxHeartbeats 4000000 in
theorem m_u1 (f : Nat → Int32) (c v : Int32) {d : Nat} (hd : d < 6) : upd (toM f c) (10 + 9 * d + 1) v = toM (upd f (6 + d) v) c := by
  funext j
  by_cases hj : j = 10 + 9 * d + 1
  · rw [hj, q_upd_s, m_r1 _ _ hd, q_upd_s]
  · rw [q_upd_n hj]
    unfold toM
    by_cases h1 : j < 10
    · simp only [h1, if_true]
      have e58 : upd f (6 + d) v 58 = f 58 := q_upd_n (by omega)
      have e54 : upd f (6 + d) v 54 = f 54 := q_upd_n (by omega)
      have e59 : upd f (6 + d) v 59 = f 59 := q_upd_n (by omega)
      have e60 : upd f (6 + d) v 60 = f 60 := q_upd_n (by omega)
      have e61 : upd f (6 + d) v 61 = f 61 := q_upd_n (by omega)
      have e55 : upd f (6 + d) v 55 = f 55 := q_upd_n (by omega)
      have e56 : upd f (6 + d) v 56 = f 56 := q_upd_n (by omega)
      have e57 : upd f (6 + d) v 57 = f 57 := q_upd_n (by omega)
      rw [e58, e54, e59, e60, e61, e55, e56, e57]
    · simp only [h1, if_false]
      by_cases h2 : j < 64
      · simp only [h2, if_true]
        obtain ⟨x, hx⟩ : ∃ x, x = (j - 10) / 9 := ⟨_, rfl⟩
        obtain ⟨y, hy⟩ : ∃ y, y = (j - 10) % 9 := ⟨_, rfl⟩
        have hxy : j = 10 + 9 * x + y := by omega
        have hy9 : y < 9 := by omega
        have hx6 : x < 6 := by omega
        rw [← hx, ← hy]
        have g0 : y = 0 → upd f (6 + d) v (48 + x) = f (48 + x) := fun q => q_upd_n (by omega)
        have g1 : y = 1 → upd f (6 + d) v (6 + x) = f (6 + x) := fun q => q_upd_n (by omega)
        have g2 : y = 2 → upd f (6 + d) v (12 + x) = f (12 + x) := fun q => q_upd_n (by omega)
        have g3 : y = 3 → upd f (6 + d) v (18 + x) = f (18 + x) := fun q => q_upd_n (by omega)
        have g4 : y = 4 → upd f (6 + d) v x = f x := fun q => q_upd_n (by omega)
        have g5 : y = 5 → upd f (6 + d) v (24 + x) = f (24 + x) := fun q => q_upd_n (by omega)
        have g6 : y = 6 → upd f (6 + d) v (30 + x) = f (30 + x) := fun q => q_upd_n (by omega)
        have g7 : y = 7 → upd f (6 + d) v (36 + x) = f (36 + x) := fun q => q_upd_n (by omega)
        have g8 : y = 8 → upd f (6 + d) v (42 + x) = f (42 + x) := fun q => q_upd_n (by omega)
        have : y = 0 ∨ y = 1 ∨ y = 2 ∨ y = 3 ∨ y = 4 ∨ y = 5 ∨ y = 6 ∨ y = 7 ∨ y = 8 := by omega
        rcases this with q | q | q | q | q | q | q | q | q
        · rw [g0 q]; simp only [q, reduceIte, Nat.reduceEqDiff, if_false, if_true]
        · rw [g1 q]; simp only [q, reduceIte, Nat.reduceEqDiff, if_false, if_true]
        · rw [g2 q]; simp only [q, reduceIte, Nat.reduceEqDiff, if_false, if_true]
        · rw [g3 q]; simp only [q, reduceIte, Nat.reduceEqDiff, if_false, if_true]
        · rw [g4 q]; simp only [q, reduceIte, Nat.reduceEqDiff, if_false, if_true]
        · rw [g5 q]; simp only [q, reduceIte, Nat.reduceEqDiff, if_false, if_true]
        · rw [g6 q]; simp only [q, reduceIte, Nat.reduceEqDiff, if_false, if_true]
        · rw [g7 q]; simp only [q, reduceIte, Nat.reduceEqDiff, if_false, if_true]
        · rw [g8 q]; simp only [q, reduceIte, Nat.reduceEqDiff, if_false, if_true]
      · simp only [h2, if_false]
set_option maxRecDepth 100000 in
set_option maxHeartbeats 4000000 in
theorem m_r2 (f : Nat → Int32) (c : Int32) {d : Nat} (hd : d < 6) : toM f c (10 + 9 * d + 2) = f (12 + d) := by
  have a1 : ¬ 10 + 9 * d + 2 < 10 := by omega
  have a2 : 10 + 9 * d + 2 < 64 := by omega
  have a3 : (10 + 9 * d + 2 - 10) % 9 = 2 := by omega
  have a4 : (10 + 9 * d + 2 - 10) / 9 = d := by omega
  simp only [toM, a1, a2, a3, a4, if_false, if_true, reduceIte, Nat.reduceEqDiff]
set_option maxRecDepth 100000 in
set_option maxHeartbeats 4000000 in
theorem m_u2 (f : Nat → Int32) (c v : Int32) {d : Nat} (hd : d < 6) : upd (toM f c) (10 + 9 * d + 2) v = toM (upd f (12 + d) v) c := by
  funext j
  by_cases hj : j = 10 + 9 * d + 2
  · rw [hj, q_upd_s, m_r2 _ _ hd, q_upd_s]
  · rw [q_upd_n hj]
    unfold toM
    by_cases h1 : j < 10
    · simp only [h1, if_true]
      have e58 : upd f (12 + d) v 58 = f 58 := q_upd_n (by omega)
      have e54 : upd f (12 + d) v 54 = f 54 := q_upd_n (by omega)
      have e59 : upd f (12 + d) v 59 = f 59 := q_upd_n (by omega)
      have e60 : upd f (12 + d) v 60 = f 60 := q_upd_n (by omega)
      have e61 : upd f (12 + d) v 61 = f 61 := q_upd_n (by omega)
      have e55 : upd f (12 + d) v 55 = f 55 := q_upd_n (by omega)
      have e56 : upd f (12 + d) v 56 = f 56 := q_upd_n (by omega)
      have e57 : upd f (12 + d) v 57 = f 57 := q_upd_n (by omega)
      rw [e58, e54, e59, e60, e61, e55, e56, e57]
    · simp only [h1, if_false]
      by_cases h2 : j < 64
      · simp only [h2, if_true]
        obtain ⟨x, hx⟩ : ∃ x, x = (j - 10) / 9 := ⟨_, rfl⟩
        obtain ⟨y, hy⟩ : ∃ y, y = (j - 10) % 9 := ⟨_, rfl⟩
        have hxy : j = 10 + 9 * x + y := by omega
        have hy9 : y < 9 := by omega
        have hx6 : x < 6 := by omega
        rw [← hx, ← hy]
        have g0 : y = 0 → upd f (12 + d) v (48 + x) = f (48 + x) := fun q => q_upd_n (by omega)
        have g1 : y = 1 → upd f (12 + d) v (6 + x) = f (6 + x) := fun q => q_upd_n (by omega)
        have g2 : y = 2 → upd f (12 + d) v (12 + x) = f (12 + x) := fun q => q_upd_n (by omega)
        have g3 : y = 3 → upd f (12 + d) v (18 + x) = f (18 + x) := fun q => q_upd_n (by omega)
        have g4 : y = 4 → upd f (12 + d) v x = f x := fun q => q_upd_n (by omega)
        have g5 : y = 5 → upd f (12 + d) v (24 + x) = f (24 + x) := fun q => q_upd_n (by omega)
        have g6 : y = 6 → upd f (12 + d) v (30 + x) = f (30 + x) := fun q => q_upd_n (by omega)
        have g7 : y = 7 → upd f (12 + d) v (36 + x) = f (36 + x) := fun q => q_upd_n (by omega)
        have g8 : y = 8 → upd f (12 + d) v (42 + x) = f (42 + x) := fun q => q_upd_n (by omega)
        have : y = 0 ∨ y = 1 ∨ y = 2 ∨ y = 3 ∨ y = 4 ∨ y = 5 ∨ y = 6 ∨ y = 7 ∨ y = 8 := by omega
        rcases this with q | q | q | q | q | q | q | q | q
        · rw [g0 q]; simp only [q, reduceIte, Nat.reduceEqDiff, if_false, if_true]
        · rw [g1 q]; simp only [q, reduceIte, Nat.reduceEqDiff, if_false, if_true]
        · rw [g2 q]; simp only [q, reduceIte, Nat.reduceEqDiff, if_false, if_true]
        · rw [g3 q]; simp only [q, reduceIte, Nat.reduceEqDiff, if_false, if_true]
        · rw [g4 q]; simp only [q, reduceIte, Nat.reduceEqDiff, if_false, if_true]
        · rw [g5 q]; simp only [q, reduceIte, Nat.reduceEqDiff, if_false, if_true]
        · rw [g6 q]; simp only [q, reduceIte, Nat.reduceEqDiff, if_false, if_true]
        · rw [g7 q]; simp only [q, reduceIte, Nat.reduceEqDiff, if_false, if_true]
        · rw [g8 q]; simp only [q, reduceIte, Nat.reduceEqDiff, if_false, if_true]
      · simp only [h2, if_false]
set_option maxRecDepth 100000 in
set_option maxHeartbeats 4000000 in
theorem m_r3 (f : Nat → Int32) (c : Int32) {d : Nat} (hd : d < 6) : toM f c (10 + 9 * d + 3) = f (18 + d) := by
  have a1 : ¬ 10 + 9 * d + 3 < 10 := by omega
  have a2 : 10 + 9 * d + 3 < 64 := by omega
  have a3 : (10 + 9 * d + 3 - 10) % 9 = 3 := by omega
  have a4 : (10 + 9 * d + 3 - 10) / 9 = d := by omega
  simp only [toM, a1, a2, a3, a4, if_false, if_true, reduceIte, Nat.reduceEqDiff]
set_option maxRecDepth 100000 in
set_option maxHeartbeats 4000000 in
theorem m_u3 (f : Nat → Int32) (c v : Int32) {d : Nat} (hd : d < 6) : upd (toM f c) (10 + 9 * d + 3) v = toM (upd f (18 + d) v) c := by
  funext j
  by_cases hj : j = 10 + 9 * d + 3
  · rw [hj, q_upd_s, m_r3 _ _ hd, q_upd_s]
  · rw [q_upd_n hj]
    unfold toM
    by_cases h1 : j < 10
    · simp only [h1, if_true]
      have e58 : upd f (18 + d) v 58 = f 58 := q_upd_n (by omega)
      have e54 : upd f (18 + d) v 54 = f 54 := q_upd_n (by omega)
      have e59 : upd f (18 + d) v 59 = f 59 := q_upd_n (by omega)
      have e60 : upd f (18 + d) v 60 = f 60 := q_upd_n (by omega)
      have e61 : upd f (18 + d) v 61 = f 61 := q_upd_n (by omega)
      have e55 : upd f (18 + d) v 55 = f 55 := q_upd_n (by omega)
      have e56 : upd f (18 + d) v 56 = f 56 := q_upd_n (by omega)
      have e57 : upd f (18 + d) v 57 = f 57 := q_upd_n (by omega)
      rw [e58, e54, e59, e60, e61, e55, e56, e57]
    · simp only [h1, if_false]
      by_cases h2 : j < 64
      · simp only [h2, if_true]
        obtain ⟨x, hx⟩ : ∃ x, x = (j - 10) / 9 := ⟨_, rfl⟩
        obtain ⟨y, hy⟩ : ∃ y, y = (j - 10) % 9 := ⟨_, rfl⟩
        have hxy : j = 10 + 9 * x + y := by omega
        have hy9 : y < 9 := by omega
        have hx6 : x < 6 := by omega
        rw [← hx, ← hy]
        have g0 : y = 0 → upd f (18 + d) v (48 + x) = f (48 + x) := fun q => q_upd_n (by omega)
        have g1 : y = 1 → upd f (18 + d) v (6 + x) = f (6 + x) := fun q => q_upd_n (by omega)
        have g2 : y = 2 → upd f (18 + d) v (12 + x) = f (12 + x) := fun q => q_upd_n (by omega)
        have g3 : y = 3 → upd f (18 + d) v (18 + x) = f (18 + x) := fun q => q_upd_n (by omega)
        have g4 : y = 4 → upd f (18 + d) v x = f x := fun q => q_upd_n (by omega)
        have g5 : y = 5 → upd f (18 + d) v (24 + x) = f (24 + x) := fun q => q_upd_n (by omega)
        have g6 : y = 6 → upd f (18 + d) v (30 + x) = f (30 + x) := fun q => q_upd_n (by omega)
        have g7 : y = 7 → upd f (18 + d) v (36 + x) = f (36 + x) := fun q => q_upd_n (by omega)
        have g8 : y = 8 → upd f (18 + d) v (42 + x) = f (42 + x) := fun q => q_upd_n (by omega)
        have : y = 0 ∨ y = 1 ∨ y = 2 ∨ y = 3 ∨ y = 4 ∨ y = 5 ∨ y = 6 ∨ y = 7 ∨ y = 8 := by omega
        rcases this with q | q | q | q | q | q | q | q | q
        · rw [g0 q]; simp only [q, reduceIte, Nat.reduceEqDiff, if_false, if_true]
        · rw [g1 q]; simp only [q, reduceIte, Nat.reduceEqDiff, if_false, if_true]
        · rw [g2 q]; simp only [q, reduceIte, Nat.reduceEqDiff, if_false, if_true]
        · rw [g3 q]; simp only [q, reduceIte, Nat.reduceEqDiff, if_false, if_true]
        · rw [g4 q]; simp only [q, reduceIte, Nat.reduceEqDiff, if_false, if_true]
        · rw [g5 q]; simp only [q, reduceIte, Nat.reduceEqDiff, if_false, if_true]
        · rw [g6 q]; simp only [q, reduceIte, Nat.reduceEqDiff, if_false, if_true]
        · rw [g7 q]; simp only [q, reduceIte, Nat.reduceEqDiff, if_false, if_true]
        · rw [g8 q]; simp only [q, reduceIte, Nat.reduceEqDiff, if_false, if_true]
      · simp only [h2, if_false]
set_option maxRecDepth 100000 in
set_option maxHeartbeats 4000000 in
theorem m_r4 (f : Nat → Int32) (c : Int32) {d : Nat} (hd : d < 6) : toM f c (10 + 9 * d + 4) = f d := by
  have a1 : ¬ 10 + 9 * d + 4 < 10 := by omega
  have a2 : 10 + 9 * d + 4 < 64 := by omega
  have a3 : (10 + 9 * d + 4 - 10) % 9 = 4 := by omega
  have a4 : (10 + 9 * d + 4 - 10) / 9 = d := by omega
  simp only [toM, a1, a2, a3, a4, if_false, if_true, reduceIte, Nat.reduceEqDiff]
set_option maxRecDepth 100000 in
set_option maxHeartbeats 4000000 in
theorem m_u4 (f : Nat → Int32) (c v : Int32) {d : Nat} (hd : d < 6) : upd (toM f c) (10 + 9 * d + 4) v = toM (upd f d v) c := by
  funext j
  by_cases hj : j = 10 + 9 * d + 4
  · rw [hj, q_upd_s, m_r4 _ _ hd, q_upd_s]
  · rw [q_upd_n hj]
    unfold toM
    by_cases h1 : j < 10
    · simp only [h1, if_true]
      have e58 : upd f d v 58 = f 58 := q_upd_n (by omega)
      have e54 : upd f d v 54 = f 54 := q_upd_n (by omega)
      have e59 : upd f d v 59 = f 59 := q_upd_n (by omega)
      have e60 : upd f d v 60 = f 60 := q_upd_n (by omega)
      have e61 : upd f d v 61 = f 61 := q_upd_n (by omega)
      have e55 : upd f d v 55 = f 55 := q_upd_n (by omega)
      have e56 : upd f d v 56 = f 56 := q_upd_n (by omega)
      have e57 : upd f d v 57 = f 57 := q_upd_n (by omega)
      rw [e58, e54, e59, e60, e61, e55, e56, e57]
    · simp only [h1, if_false]
      by_cases h2 : j < 64
      · simp only [h2, if_true]
        obtain ⟨x, hx⟩ : ∃ x, x = (j - 10) / 9 := ⟨_, rfl⟩
        obtain ⟨y, hy⟩ : ∃ y, y = (j - 10) % 9 := ⟨_, rfl⟩
        have hxy : j = 10 + 9 * x + y := by omega
        have hy9 : y < 9 := by omega
        have hx6 : x < 6 := by omega
        rw [← hx, ← hy]
        have g0 : y = 0 → upd f d v (48 + x) = f (48 + x) := fun q => q_upd_n (by omega)
        have g1 : y = 1 → upd f d v (6 + x) = f (6 + x) := fun q => q_upd_n (by omega)
        have g2 : y = 2 → upd f d v (12 + x) = f (12 + x) := fun q => q_upd_n (by omega)
        have g3 : y = 3 → upd f d v (18 + x) = f (18 + x) := fun q => q_upd_n (by omega)
        have g4 : y = 4 → upd f d v x = f x := fun q => q_upd_n (by omega)
        have g5 : y = 5 → upd f d v (24 + x) = f (24 + x) := fun q => q_upd_n (by omega)
        have g6 : y = 6 → upd f d v (30 + x) = f (30 + x) := fun q => q_upd_n (by omega)
        have g7 : y = 7 → upd f d v (36 + x) = f (36 + x) := fun q => q_upd_n (by omega)
        have g8 : y = 8 → upd f d v (42 + x) = f (42 + x) := fun q => q_upd_n (by omega)
        have : y = 0 ∨ y = 1 ∨ y = 2 ∨ y = 3 ∨ y = 4 ∨ y = 5 ∨ y = 6 ∨ y = 7 ∨ y = 8 := by omega
        rcases this with q | q | q | q | q | q | q | q | q
        · rw [g0 q]; simp only [q, reduceIte, Nat.reduceEqDiff, if_false, if_true]
        · rw [g1 q]; simp only [q, reduceIte, Nat.reduceEqDiff, if_false, if_true]
        · rw [g2 q]; simp only [q, reduceIte, Nat.reduceEqDiff, if_false, if_true]
        · rw [g3 q]; simp only [q, reduceIte, Nat.reduceEqDiff, if_false, if_true]
        · rw [g4 q]; simp only [q, reduceIte, Nat.reduceEqDiff, if_false, if_true]
        · rw [g5 q]; simp only [q, reduceIte, Nat.reduceEqDiff, if_false, if_true]
        · rw [g6 q]; simp only [q, reduceIte, Nat.reduceEqDiff, if_false, if_true]
        · rw [g7 q]; simp only [q, reduceIte, Nat.reduceEqDiff, if_false, if_true]
        · rw [g8 q]; simp only [q, reduceIte, Nat.reduceEqDiff, if_false, if_true]
      · simp only [h2, if_false]
set_option maxRecDepth 100000 in
set_option maxHeartbeats 4000000 in
theorem m_r5 (f : Nat → Int32) (c : Int32) {d : Nat} (hd : d < 6) : toM f c (10 + 9 * d + 5) = f (24 + d) := by
  have a1 : ¬ 10 + 9 * d + 5 < 10 := by omega
  have a2 : 10 + 9 * d + 5 < 64 := by omega
  have a3 : (10 + 9 * d + 5 - 10) % 9 = 5 := by omega
  have a4 : (10 + 9 * d + 5 - 10) / 9 = d := by omega
  simp only [toM, a1, a2, a3, a4, if_false, if_true, reduceIte, Nat.reduceEqDiff]
set_option maxRecDepth 100000 in
set_option maxHeartbeats 4000000 in
theorem m_u5 (f : Nat → Int32) (c v : Int32) {d : Nat} (hd : d < 6) : upd (toM f c) (10 + 9 * d + 5) v = toM (upd f (24 + d) v) c := by
  funext j
  by_cases hj : j = 10 + 9 * d + 5
  · rw [hj, q_upd_s, m_r5 _ _ hd, q_upd_s]
  · rw [q_upd_n hj]
    unfold toM
    by_cases h1 : j < 10
    · simp only [h1, if_true]
      have e58 : upd f (24 + d) v 58 = f 58 := q_upd_n (by omega)
      have e54 : upd f (24 + d) v 54 = f 54 := q_upd_n (by omega)
      have e59 : upd f (24 + d) v 59 = f 59 := q_upd_n (by omega)
      have e60 : upd f (24 + d) v 60 = f 60 := q_upd_n (by omega)
      have e61 : upd f (24 + d) v 61 = f 61 := q_upd_n (by omega)
      have e55 : upd f (24 + d) v 55 = f 55 := q_upd_n (by omega)
      have e56 : upd f (24 + d) v 56 = f 56 := q_upd_n (by omega)
      have e57 : upd f (24 + d) v 57 = f 57 := q_upd_n (by omega)
      rw [e58, e54, e59, e60, e61, e55, e56, e57]
    · simp only [h1, if_false]
      by_cases h2 : j < 64
      · simp only [h2, if_true]
        obtain ⟨x, hx⟩ : ∃ x, x = (j - 10) / 9 := ⟨_, rfl⟩
        obtain ⟨y, hy⟩ : ∃ y, y = (j - 10) % 9 := ⟨_, rfl⟩
        have hxy : j = 10 + 9 * x + y := by omega
        have hy9 : y < 9 := by omega
        have hx6 : x < 6 := by omega
        rw [← hx, ← hy]
        have g0 : y = 0 → upd f (24 + d) v (48 + x) = f (48 + x) := fun q => q_upd_n (by omega)
        have g1 : y = 1 → upd f (24 + d) v (6 + x) = f (6 + x) := fun q => q_upd_n (by omega)
        have g2 : y = 2 → upd f (24 + d) v (12 + x) = f (12 + x) := fun q => q_upd_n (by omega)
        have g3 : y = 3 → upd f (24 + d) v (18 + x) = f (18 + x) := fun q => q_upd_n (by omega)
        have g4 : y = 4 → upd f (24 + d) v x = f x := fun q => q_upd_n (by omega)
        have g5 : y = 5 → upd f (24 + d) v (24 + x) = f (24 + x) := fun q => q_upd_n (by omega)
        have g6 : y = 6 → upd f (24 + d) v (30 + x) = f (30 + x) := fun q => q_upd_n (by omega)
        have g7 : y = 7 → upd f (24 + d) v (36 + x) = f (36 + x) := fun q => q_upd_n (by omega)
        have g8 : y = 8 → upd f (24 + d) v (42 + x) = f (42 + x) := fun q => q_upd_n (by omega)
        have : y = 0 ∨ y = 1 ∨ y = 2 ∨ y = 3 ∨ y = 4 ∨ y = 5 ∨ y = 6 ∨ y = 7 ∨ y = 8 := by omega
        rcases this with q | q | q | q | q | q | q | q | q
        · rw [g0 q]; simp only [q, reduceIte, Nat.reduceEqDiff, if_false, if_true]
        · rw [g1 q]; simp only [q, reduceIte, Nat.reduceEqDiff, if_false, if_true]
        · rw [g2 q]; simp only [q, reduceIte, Nat.reduceEqDiff, if_false, if_true]
        · rw [g3 q]; simp only [q, reduceIte, Nat.reduceEqDiff, if_false, if_true]
        · rw [g4 q]; simp only [q, reduceIte, Nat.reduceEqDiff, if_false, if_true]
        · rw [g5 q]; simp only [q, reduceIte, Nat.reduceEqDiff, if_false, if_true]
        · rw [g6 q]; simp only [q, reduceIte, Nat.reduceEqDiff, if_false, if_true]
        · rw [g7 q]; simp only [q, reduceIte, Nat.reduceEqDiff, if_false, if_true]
        · rw [g8 q]; simp only [q, reduceIte, Nat.reduceEqDiff, if_false, if_true]
      · simp only [h2, if_false]
set_option maxRecDepth 100000 in
set_option maxHeartbeats 4000000 in
theorem m_r6 (f : Nat → Int32) (c : Int32) {d : Nat} (hd : d < 6) : toM f c (10 + 9 * d + 6) = f (30 + d) := by
  have a1 : ¬ 10 + 9 * d + 6 < 10 := by omega
  have a2 : 10 + 9 * d + 6 < 64 := by omega
  have a3 : (10 + 9 * d + 6 - 10) % 9 = 6 := by omega
  have a4 : (10 + 9 * d + 6 - 10) / 9 = d := by omega
  simp only [toM, a1, a2, a3, a4, if_false, if_true, reduceIte, Nat.reduceEqDiff]
set_option maxRecDepth 100000 in
set_option maxHeartbeats 4000000 in
theorem m_u6 (f : Nat → Int32) (c v : Int32) {d : Nat} (hd : d < 6) : upd (toM f c) (10 + 9 * d + 6) v = toM (upd f (30 + d) v) c := by
  funext j
  by_cases hj : j = 10 + 9 * d + 6
  · rw [hj, q_upd_s, m_r6 _ _ hd, q_upd_s]
  · rw [q_upd_n hj]
    unfold toM
    by_cases h1 : j < 10
    · simp only [h1, if_true]
      have e58 : upd f (30 + d) v 58 = f 58 := q_upd_n (by omega)
      have e54 : upd f (30 + d) v 54 = f 54 := q_upd_n (by omega)
      have e59 : upd f (30 + d) v 59 = f 59 := q_upd_n (by omega)
      have e60 : upd f (30 + d) v 60 = f 60 := q_upd_n (by omega)
      have e61 : upd f (30 + d) v 61 = f 61 := q_upd_n (by omega)
      have e55 : upd f (30 + d) v 55 = f 55 := q_upd_n (by omega)
      have e56 : upd f (30 + d) v 56 = f 56 := q_upd_n (by omega)
      have e57 : upd f (30 + d) v 57 = f 57 := q_upd_n (by omega)
      rw [e58, e54, e59, e60, e61, e55, e56, e57]
    · simp only [h1, if_false]
      by_cases h2 : j < 64
      · simp only [h2, if_true]
        obtain ⟨x, hx⟩ : ∃ x, x = (j - 10) / 9 := ⟨_, rfl⟩
        obtain ⟨y, hy⟩ : ∃ y, y = (j - 10) % 9 := ⟨_, rfl⟩
        have hxy : j = 10 + 9 * x + y := by omega
        have hy9 : y < 9 := by omega
        have hx6 : x < 6 := by omega
        rw [← hx, ← hy]
        have g0 : y = 0 → upd f (30 + d) v (48 + x) = f (48 + x) := fun q => q_upd_n (by omega)
        have g1 : y = 1 → upd f (30 + d) v (6 + x) = f (6 + x) := fun q => q_upd_n (by omega)
        have g2 : y = 2 → upd f (30 + d) v (12 + x) = f (12 + x) := fun q => q_upd_n (by omega)
        have g3 : y = 3 → upd f (30 + d) v (18 + x) = f (18 + x) := fun q => q_upd_n (by omega)
        have g4 : y = 4 → upd f (30 + d) v x = f x := fun q => q_upd_n (by omega)
        have g5 : y = 5 → upd f (30 + d) v (24 + x) = f (24 + x) := fun q => q_upd_n (by omega)
        have g6 : y = 6 → upd f (30 + d) v (30 + x) = f (30 + x) := fun q => q_upd_n (by omega)
        have g7 : y = 7 → upd f (30 + d) v (36 + x) = f (36 + x) := fun q => q_upd_n (by omega)
        have g8 : y = 8 → upd f (30 + d) v (42 + x) = f (42 + x) := fun q => q_upd_n (by omega)
        have : y = 0 ∨ y = 1 ∨ y = 2 ∨ y = 3 ∨ y = 4 ∨ y = 5 ∨ y = 6 ∨ y = 7 ∨ y = 8 := by omega
        rcases this with q | q | q | q | q | q | q | q | q
        · rw [g0 q]; simp only [q, reduceIte, Nat.reduceEqDiff, if_false, if_true]
        · rw [g1 q]; simp only [q, reduceIte, Nat.reduceEqDiff, if_false, if_true]
        · rw [g2 q]; simp only [q, reduceIte, Nat.reduceEqDiff, if_false, if_true]
        · rw [g3 q]; simp only [q, reduceIte, Nat.reduceEqDiff, if_false, if_true]
        · rw [g4 q]; simp only [q, reduceIte, Nat.reduceEqDiff, if_false, if_true]
        · rw [g5 q]; simp only [q, reduceIte, Nat.reduceEqDiff, if_false, if_true]
        · rw [g6 q]; simp only [q, reduceIte, Nat.reduceEqDiff, if_false, if_true]
        · rw [g7 q]; simp only [q, reduceIte, Nat.reduceEqDiff, if_false, if_true]
        · rw [g8 q]; simp only [q, reduceIte, Nat.reduceEqDiff, if_false, if_true]
      · simp only [h2, if_false]
set_option maxRecDepth 100000 in
set_option maxHeartbeats 4000000 in
theorem m_r7 (f : Nat → Int32) (c : Int32) {d : Nat} (hd : d < 6) : toM f c (10 + 9 * d + 7) = f (36 + d) := by
  have a1 : ¬ 10 + 9 * d + 7 < 10 := by omega
  have a2 : 10 + 9 * d + 7 < 64 := by omega
  have a3 : (10 + 9 * d + 7 - 10) % 9 = 7 := by omega
  have a4 : (10 + 9 * d + 7 - 10) / 9 = d := by omega
  simp only [toM, a1, a2, a3, a4, if_false, if_true, reduceIte, Nat.reduceEqDiff]
set_option maxRecDepth 100000 in
set_option maxHeartbeats 4000000 in
theorem m_u7 (f : Nat → Int32) (c v : Int32) {d : Nat} (hd : d < 6) : upd (toM f c) (10 + 9 * d + 7) v = toM (upd f (36 + d) v) c := by
  funext j
  by_cases hj : j = 10 + 9 * d + 7
  · rw [hj, q_upd_s, m_r7 _ _ hd, q_upd_s]
  · rw [q_upd_n hj]
    unfold toM
    by_cases h1 : j < 10
    · simp only [h1, if_true]
      have e58 : upd f (36 + d) v 58 = f 58 := q_upd_n (by omega)
      have e54 : upd f (36 + d) v 54 = f 54 := q_upd_n (by omega)
      have e59 : upd f (36 + d) v 59 = f 59 := q_upd_n (by omega)
      have e60 : upd f (36 + d) v 60 = f 60 := q_upd_n (by omega)
      have e61 : upd f (36 + d) v 61 = f 61 := q_upd_n (by omega)
      have e55 : upd f (36 + d) v 55 = f 55 := q_upd_n (by omega)
      have e56 : upd f (36 + d) v 56 = f 56 := q_upd_n (by omega)
      have e57 : upd f (36 + d) v 57 = f 57 := q_upd_n (by omega)
      rw [e58, e54, e59, e60, e61, e55, e56, e57]
    · simp only [h1, if_false]
      by_cases h2 : j < 64
      · simp only [h2, if_true]
        obtain ⟨x, hx⟩ : ∃ x, x = (j - 10) / 9 := ⟨_, rfl⟩
        obtain ⟨y, hy⟩ : ∃ y, y = (j - 10) % 9 := ⟨_, rfl⟩
        have hxy : j = 10 + 9 * x + y := by omega
        have hy9 : y < 9 := by omega
        have hx6 : x < 6 := by omega
        rw [← hx, ← hy]
        have g0 : y = 0 → upd f (36 + d) v (48 + x) = f (48 + x) := fun q => q_upd_n (by omega)
        have g1 : y = 1 → upd f (36 + d) v (6 + x) = f (6 + x) := fun q => q_upd_n (by omega)
        have g2 : y = 2 → upd f (36 + d) v (12 + x) = f (12 + x) := fun q => q_upd_n (by omega)
        have g3 : y = 3 → upd f (36 + d) v (18 + x) = f (18 + x) := fun q => q_upd_n (by omega)
        have g4 : y = 4 → upd f (36 + d) v x = f x := fun q => q_upd_n (by omega)
        have g5 : y = 5 → upd f (36 + d) v (24 + x) = f (24 + x) := fun q => q_upd_n (by omega)
        have g6 : y = 6 → upd f (36 + d) v (30 + x) = f (30 + x) := fun q => q_upd_n (by omega)
        have g7 : y = 7 → upd f (36 + d) v (36 + x) = f (36 + x) := fun q => q_upd_n (by omega)
        have g8 : y = 8 → upd f (36 + d) v (42 + x) = f (42 + x) := fun q => q_upd_n (by omega)
        have : y = 0 ∨ y = 1 ∨ y = 2 ∨ y = 3 ∨ y = 4 ∨ y = 5 ∨ y = 6 ∨ y = 7 ∨ y = 8 := by omega
        rcases this with q | q | q | q | q | q | q | q | q
        · rw [g0 q]; simp only [q, reduceIte, Nat.reduceEqDiff, if_false, if_true]
        · rw [g1 q]; simp only [q, reduceIte, Nat.reduceEqDiff, if_false, if_true]
        · rw [g2 q]; simp only [q, reduceIte, Nat.reduceEqDiff, if_false, if_true]
        · rw [g3 q]; simp only [q, reduceIte, Nat.reduceEqDiff, if_false, if_true]
        · rw [g4 q]; simp only [q, reduceIte, Nat.reduceEqDiff, if_false, if_true]
        · rw [g5 q]; simp only [q, reduceIte, Nat.reduceEqDiff, if_false, if_true]
        · rw [g6 q]; simp only [q, reduceIte, Nat.reduceEqDiff, if_false, if_true]
        · rw [g7 q]; simp only [q, reduceIte, Nat.reduceEqDiff, if_false, if_true]
        · rw [g8 q]; simp only [q, reduceIte, Nat.reduceEqDiff, if_false, if_true]
      · simp only [h2, if_false]
set_option maxRecDepth 100000 in
set_option maxHeartbeats 4000000 in
theorem m_r8 (f : Nat → Int32) (c : Int32) {d : Nat} (hd : d < 6) : toM f c (10 + 9 * d + 8) = f (42 + d) := by
  have a1 : ¬ 10 + 9 * d + 8 < 10 := by omega
  have a2 : 10 + 9 * d + 8 < 64 := by omega
  have a3 : (10 + 9 * d + 8 - 10) % 9 = 8 := by omega
  have a4 : (10 + 9 * d + 8 - 10) / 9 = d := by omega
  simp only [toM, a1, a2, a3, a4, if_false, if_true, reduceIte, Nat.reduceEqDiff]
set_option maxRecDepth 100000 in
set_option maxHeartbeats 4000000 in
theorem m_u8 (f : Nat → Int32) (c v : Int32) {d : Nat} (hd : d < 6) : upd (toM f c) (10 + 9 * d + 8) v = toM (upd f (42 + d) v) c := by
  funext j
  by_cases hj : j = 10 + 9 * d + 8
  · rw [hj, q_upd_s, m_r8 _ _ hd, q_upd_s]
  · rw [q_upd_n hj]
    unfold toM
    by_cases h1 : j < 10
    · simp only [h1, if_true]
      have e58 : upd f (42 + d) v 58 = f 58 := q_upd_n (by omega)
      have e54 : upd f (42 + d) v 54 = f 54 := q_upd_n (by omega)
      have e59 : upd f (42 + d) v 59 = f 59 := q_upd_n (by omega)
      have e60 : upd f (42 + d) v 60 = f 60 := q_upd_n (by omega)
      have e61 : upd f (42 + d) v 61 = f 61 := q_upd_n (by omega)
      have e55 : upd f (42 + d) v 55 = f 55 := q_upd_n (by omega)
      have e56 : upd f (42 + d) v 56 = f 56 := q_upd_n (by omega)
      have e57 : upd f (42 + d) v 57 = f 57 := q_upd_n (by omega)
      rw [e58, e54, e59, e60, e61, e55, e56, e57]
    · simp only [h1, if_false]
      by_cases h2 : j < 64
      · simp only [h2, if_true]
        obtain ⟨x, hx⟩ : ∃ x, x = (j - 10) / 9 := ⟨_, rfl⟩
        obtain ⟨y, hy⟩ : ∃ y, y = (j - 10) % 9 := ⟨_, rfl⟩
        have hxy : j = 10 + 9 * x + y := by omega
        have hy9 : y < 9 := by omega
        have hx6 : x < 6 := by omega
        rw [← hx, ← hy]
        have g0 : y = 0 → upd f (42 + d) v (48 + x) = f (48 + x) := fun q => q_upd_n (by omega)
        have g1 : y = 1 → upd f (42 + d) v (6 + x) = f (6 + x) := fun q => q_upd_n (by omega)
        have g2 : y = 2 → upd f (42 + d) v (12 + x) = f (12 + x) := fun q => q_upd_n (by omega)
        have g3 : y = 3 → upd f (42 + d) v (18 + x) = f (18 + x) := fun q => q_upd_n (by omega)
        have g4 : y = 4 → upd f (42 + d) v x = f x := fun q => q_upd_n (by omega)
        have g5 : y = 5 → upd f (42 + d) v (24 + x) = f (24 + x) := fun q => q_upd_n (by omega)
        have g6 : y = 6 → upd f (42 + d) v (30 + x) = f (30 + x) := fun q => q_upd_n (by omega)
        have g7 : y = 7 → upd f (42 + d) v (36 + x) = f (36 + x) := fun q => q_upd_n (by omega)
        have g8 : y = 8 → upd f (42 + d) v (42 + x) = f (42 + x) := fun q => q_upd_n (by omega)
        have : y = 0 ∨ y = 1 ∨ y = 2 ∨ y = 3 ∨ y = 4 ∨ y = 5 ∨ y = 6 ∨ y = 7 ∨ y = 8 := by omega
        rcases this with q | q | q | q | q | q | q | q | q
        · rw [g0 q]; simp only [q, reduceIte, Nat.reduceEqDiff, if_false, if_true]
        · rw [g1 q]; simp only [q, reduceIte, Nat.reduceEqDiff, if_false, if_true]
        · rw [g2 q]; simp only [q, reduceIte, Nat.reduceEqDiff, if_false, if_true]
        · rw [g3 q]; simp only [q, reduceIte, Nat.reduceEqDiff, if_false, if_true]
        · rw [g4 q]; simp only [q, reduceIte, Nat.reduceEqDiff, if_false, if_true]
        · rw [g5 q]; simp only [q, reduceIte, Nat.reduceEqDiff, if_false, if_true]
        · rw [g6 q]; simp only [q, reduceIte, Nat.reduceEqDiff, if_false, if_true]
        · rw [g7 q]; simp only [q, reduceIte, Nat.reduceEqDiff, if_false, if_true]
        · rw [g8 q]; simp only [q, reduceIte, Nat.reduceEqDiff, if_false, if_true]
      · simp only [h2, if_false]
set_option maxRecDepth 100000 in
set_option maxHeartbeats 4000000 in
theorem m_s1 (f : Nat → Int32) (c : Int32) : toM f c 1 = f 54 := rfl
set_option maxRecDepth 100000 in
set_option maxHeartbeats 4000000 in
theorem m_w1 (f : Nat → Int32) (c v : Int32) : upd (toM f c) 1 v = toM (upd f 54 v) c := by
  funext j
  by_cases hj : j = 1
  · rw [hj, q_upd_s]; exact (q_upd_s f 54 v).symm
  · rw [q_upd_n hj]
    unfold toM
    by_cases h1 : j < 10
    · simp only [h1, if_true]
      have e58 : upd f 54 v 58 = f 58 := q_upd_n (by decide)
      rw [e58]
      have : j = 0 ∨ j = 1 ∨ j = 2 ∨ j = 3 ∨ j = 4 ∨ j = 5 ∨ j = 6 ∨ j = 7 ∨ j = 8 ∨ j = 9 := by omega
      rcases this with q | q | q | q | q | q | q | q | q | q <;> subst q <;> first | exact absurd rfl hj | rfl
    · simp only [h1, if_false]
      by_cases h2 : j < 64
      · simp only [h2, if_true]
        have hx : (j - 10) / 9 < 6 := by omega
        generalize (j - 10) / 9 = x at hx ⊢
        have g : ∀ z, z < 54 → upd f 54 v z = f z := fun z hz => q_upd_n (by omega)
        rw [g (48 + x) (by omega), g (6 + x) (by omega), g (12 + x) (by omega), g (18 + x) (by omega), g x (by omega), g (24 + x) (by omega), g (30 + x) (by omega), g (36 + x) (by omega), g (42 + x) (by omega)]
      · simp only [h2, if_false]
set_option maxRecDepth 100000 in
set_option maxHeartbeats 4000000 in
theorem m_s2 (f : Nat → Int32) (c : Int32) : toM f c 2 = f 59 := rfl
set_option maxRecDepth 100000 in
set_option maxHeartbeats 4000000 in
theorem m_w2 (f : Nat → Int32) (c v : Int32) : upd (toM f c) 2 v = toM (upd f 59 v) c := by
  funext j
  by_cases hj : j = 2
  · rw [hj, q_upd_s]; exact (q_upd_s f 59 v).symm
  · rw [q_upd_n hj]
    unfold toM
    by_cases h1 : j < 10
    · simp only [h1, if_true]
      have e58 : upd f 59 v 58 = f 58 := q_upd_n (by decide)
      rw [e58]
      have : j = 0 ∨ j = 1 ∨ j = 2 ∨ j = 3 ∨ j = 4 ∨ j = 5 ∨ j = 6 ∨ j = 7 ∨ j = 8 ∨ j = 9 := by omega
      rcases this with q | q | q | q | q | q | q | q | q | q <;> subst q <;> first | exact absurd rfl hj | rfl
    · simp only [h1, if_false]
      by_cases h2 : j < 64
      · simp only [h2, if_true]
        have hx : (j - 10) / 9 < 6 := by omega
        generalize (j - 10) / 9 = x at hx ⊢
        have g : ∀ z, z < 54 → upd f 59 v z = f z := fun z hz => q_upd_n (by omega)
        rw [g (48 + x) (by omega), g (6 + x) (by omega), g (12 + x) (by omega), g (18 + x) (by omega), g x (by omega), g (24 + x) (by omega), g (30 + x) (by omega), g (36 + x) (by omega), g (42 + x) (by omega)]
      · simp only [h2, if_false]
set_option maxRecDepth 100000 in
set_option maxHeartbeats 4000000 in
theorem m_s3 (f : Nat → Int32) (c : Int32) : toM f c 3 = f 60 := rfl
set_option maxRecDepth 100000 in
set_option maxHeartbeats 4000000 in
theorem m_w3 (f : Nat → Int32) (c v : Int32) : upd (toM f c) 3 v = toM (upd f 60 v) c := by
  funext j
  by_cases hj : j = 3
  · rw [hj, q_upd_s]; exact (q_upd_s f 60 v).symm
  · rw [q_upd_n hj]
    unfold toM
    by_cases h1 : j < 10
    · simp only [h1, if_true]
      have e58 : upd f 60 v 58 = f 58 := q_upd_n (by decide)
      rw [e58]
      have : j = 0 ∨ j = 1 ∨ j = 2 ∨ j = 3 ∨ j = 4 ∨ j = 5 ∨ j = 6 ∨ j = 7 ∨ j = 8 ∨ j = 9 := by omega
      rcases this with q | q | q | q | q | q | q | q | q | q <;> subst q <;> first | exact absurd rfl hj | rfl
    · simp only [h1, if_false]
      by_cases h2 : j < 64
      · simp only [h2, if_true]
        have hx : (j - 10) / 9 < 6 := by omega
        generalize (j - 10) / 9 = x at hx ⊢
        have g : ∀ z, z < 54 → upd f 60 v z = f z := fun z hz => q_upd_n (by omega)
        rw [g (48 + x) (by omega), g (6 + x) (by omega), g (12 + x) (by omega), g (18 + x) (by omega), g x (by omega), g (24 + x) (by omega), g (30 + x) (by omega), g (36 + x) (by omega), g (42 + x) (by omega)]
      · simp only [h2, if_false]
set_option maxRecDepth 100000 in
set_option maxHeartbeats 4000000 in
theorem m_s4 (f : Nat → Int32) (c : Int32) : toM f c 4 = f 58 := rfl
set_option maxRecDepth 100000 in
set_option maxHeartbeats 4000000 in
theorem m_s5 (f : Nat → Int32) (c : Int32) : toM f c 5 = f 61 := rfl
set_option maxRecDepth 100000 in
set_option maxHeartbeats 4000000 in
theorem m_w5 (f : Nat → Int32) (c v : Int32) : upd (toM f c) 5 v = toM (upd f 61 v) c := by
  funext j
  by_cases hj : j = 5
  · rw [hj, q_upd_s]; exact (q_upd_s f 61 v).symm
  · rw [q_upd_n hj]
    unfold toM
    by_cases h1 : j < 10
    · simp only [h1, if_true]
      have e58 : upd f 61 v 58 = f 58 := q_upd_n (by decide)
      rw [e58]
      have : j = 0 ∨ j = 1 ∨ j = 2 ∨ j = 3 ∨ j = 4 ∨ j = 5 ∨ j = 6 ∨ j = 7 ∨ j = 8 ∨ j = 9 := by omega
      rcases this with q | q | q | q | q | q | q | q | q | q <;> subst q <;> first | exact absurd rfl hj | rfl
    · simp only [h1, if_false]
      by_cases h2 : j < 64
      · simp only [h2, if_true]
        have hx : (j - 10) / 9 < 6 := by omega
        generalize (j - 10) / 9 = x at hx ⊢
        have g : ∀ z, z < 54 → upd f 61 v z = f z := fun z hz => q_upd_n (by omega)
        rw [g (48 + x) (by omega), g (6 + x) (by omega), g (12 + x) (by omega), g (18 + x) (by omega), g x (by omega), g (24 + x) (by omega), g (30 + x) (by omega), g (36 + x) (by omega), g (42 + x) (by omega)]
      · simp only [h2, if_false]
set_option maxRecDepth 100000 in
set_option maxHeartbeats 4000000 in
theorem m_s6 (f : Nat → Int32) (c : Int32) : toM f c 6 = f 55 := rfl
set_option maxRecDepth 100000 in
set_option maxHeartbeats 4000000 in
theorem m_w6 (f : Nat → Int32) (c v : Int32) : upd (toM f c) 6 v = toM (upd f 55 v) c := by
  funext j
  by_cases hj : j = 6
  · rw [hj, q_upd_s]; exact (q_upd_s f 55 v).symm
  · rw [q_upd_n hj]
    unfold toM
    by_cases h1 : j < 10
    · simp only [h1, if_true]
      have e58 : upd f 55 v 58 = f 58 := q_upd_n (by decide)
      rw [e58]
      have : j = 0 ∨ j = 1 ∨ j = 2 ∨ j = 3 ∨ j = 4 ∨ j = 5 ∨ j = 6 ∨ j = 7 ∨ j = 8 ∨ j = 9 := by omega
      rcases this with q | q | q | q | q | q | q | q | q | q <;> subst q <;> first | exact absurd rfl hj | rfl
    · simp only [h1, if_false]
      by_cases h2 : j < 64
      · simp only [h2, if_true]
        have hx : (j - 10) / 9 < 6 := by omega
        generalize (j - 10) / 9 = x at hx ⊢
        have g : ∀ z, z < 54 → upd f 55 v z = f z := fun z hz => q_upd_n (by omega)
        rw [g (48 + x) (by omega), g (6 + x) (by omega), g (12 + x) (by omega), g (18 + x) (by omega), g x (by omega), g (24 + x) (by omega), g (30 + x) (by omega), g (36 + x) (by omega), g (42 + x) (by omega)]
      · simp only [h2, if_false]
set_option maxRecDepth 100000 in
set_option maxHeartbeats 4000000 in
theorem m_s7 (f : Nat → Int32) (c : Int32) : toM f c 7 = f 56 := rfl
set_option maxRecDepth 100000 in
set_option maxHeartbeats 4000000 in
theorem m_w7 (f : Nat → Int32) (c v : Int32) : upd (toM f c) 7 v = toM (upd f 56 v) c := by
  funext j
  by_cases hj : j = 7
  · rw [hj, q_upd_s]; exact (q_upd_s f 56 v).symm
  · rw [q_upd_n hj]
    unfold toM
    by_cases h1 : j < 10
    · simp only [h1, if_true]
      have e58 : upd f 56 v 58 = f 58 := q_upd_n (by decide)
      rw [e58]
      have : j = 0 ∨ j = 1 ∨ j = 2 ∨ j = 3 ∨ j = 4 ∨ j = 5 ∨ j = 6 ∨ j = 7 ∨ j = 8 ∨ j = 9 := by omega
      rcases this with q | q | q | q | q | q | q | q | q | q <;> subst q <;> first | exact absurd rfl hj | rfl
    · simp only [h1, if_false]
      by_cases h2 : j < 64
      · simp only [h2, if_true]
        have hx : (j - 10) / 9 < 6 := by omega
        generalize (j - 10) / 9 = x at hx ⊢
        have g : ∀ z, z < 54 → upd f 56 v z = f z := fun z hz => q_upd_n (by omega)
        rw [g (48 + x) (by omega), g (6 + x) (by omega), g (12 + x) (by omega), g (18 + x) (by omega), g x (by omega), g (24 + x) (by omega), g (30 + x) (by omega), g (36 + x) (by omega), g (42 + x) (by omega)]
      · simp only [h2, if_false]
set_option maxRecDepth 100000 in
set_option maxHeartbeats 4000000 in
theorem m_s8 (f : Nat → Int32) (c : Int32) : toM f c 8 = f 57 := rfl
set_option maxRecDepth 100000 in
set_option maxHeartbeats 4000000 in
theorem m_w8 (f : Nat → Int32) (c v : Int32) : upd (toM f c) 8 v = toM (upd f 57 v) c := by
  funext j
  by_cases hj : j = 8
  · rw [hj, q_upd_s]; exact (q_upd_s f 57 v).symm
  · rw [q_upd_n hj]
    unfold toM
    by_cases h1 : j < 10
    · simp only [h1, if_true]
      have e58 : upd f 57 v 58 = f 58 := q_upd_n (by decide)
      rw [e58]
      have : j = 0 ∨ j = 1 ∨ j = 2 ∨ j = 3 ∨ j = 4 ∨ j = 5 ∨ j = 6 ∨ j = 7 ∨ j = 8 ∨ j = 9 := by omega
      rcases this with q | q | q | q | q | q | q | q | q | q <;> subst q <;> first | exact absurd rfl hj | rfl
    · simp only [h1, if_false]
      by_cases h2 : j < 64
      · simp only [h2, if_true]
        have hx : (j - 10) / 9 < 6 := by omega
        generalize (j - 10) / 9 = x at hx ⊢
        have g : ∀ z, z < 54 → upd f 57 v z = f z := fun z hz => q_upd_n (by omega)
        rw [g (48 + x) (by omega), g (6 + x) (by omega), g (12 + x) (by omega), g (18 + x) (by omega), g x (by omega), g (24 + x) (by omega), g (30 + x) (by omega), g (36 + x) (by omega), g (42 + x) (by omega)]
      · simp only [h2, if_false]
set_option maxRecDepth 100000 in
set_option maxHeartbeats 4000000 in
theorem m_s9 (f : Nat → Int32) (c : Int32) : toM f c 9 = c := rfl
set_option maxRecDepth 100000 in
set_option maxHeartbeats 4000000 in
theorem m_w9 (f : Nat → Int32) (c v : Int32) : upd (toM f c) 9 v = toM f v := by
  funext j
  by_cases hj : j = 9
  · rw [hj, q_upd_s]; rfl
  · rw [q_upd_n hj]
    unfold toM
    by_cases h1 : j < 10
    · simp only [h1, if_true]
      have : j = 0 ∨ j = 1 ∨ j = 2 ∨ j = 3 ∨ j = 4 ∨ j = 5 ∨ j = 6 ∨ j = 7 ∨ j = 8 ∨ j = 9 := by omega
      rcases this with q | q | q | q | q | q | q | q | q | q <;> subst q <;> first | exact absurd rfl hj | rfl
    · simp only [h1, if_false]
set_option maxRecDepth 100000 in
set_option maxHeartbeats 4000000 in
theorem m_z (f : Nat → Int32) (c : Int32) {j : Nat} (hj : 64 ≤ j) : toM f c j = 0 := by
  have a1 : ¬ j < 10 := by omega
  have a2 : ¬ j < 64 := by omega
  simp only [toM, a1, a2, if_false]
