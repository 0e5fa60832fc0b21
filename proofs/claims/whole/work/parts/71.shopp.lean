/-! both readers tell the same -/
section SP
variable {tp : Nat} {T : Nat → Int32}
set_option maxRecDepth 100000 in
set_option maxHeartbeats 4000000 in
theorem val_in {lo hi : Int32} (h : lo.toInt ≤ hi.toInt) (z : Nat × Nat) : lo.toInt ≤ (o_val T tp lo hi z).toInt ∧ (o_val T tp lo hi z).toInt ≤ hi.toInt := by
  rw [o_val]
  split
  · rename_i y; exact (rng_iff _ _ _).mp y.2.2
  · exact ⟨Int.le_refl _, h⟩
set_option maxRecDepth 100000 in
set_option maxHeartbeats 4000000 in
theorem num_0 {lo hi : Int32} {q : Nat} (h : (o_num T tp lo hi (q, 0)).2 = 0) : o_val T tp lo hi (q, 0) = p_va T tp q := by
  rw [o_num, if_pos rfl] at h
  by_cases t : p_tk T tp q = nI 3
  · rw [if_pos t] at h
    by_cases r : o_rng lo hi (p_va T tp q) = true
    · rw [o_val, if_pos ⟨rfl, t, r⟩]
    · rw [if_neg r] at h; change 2 = 0 at h; omega
  · rw [if_neg t] at h; change 1 = 0 at h; omega
set_option maxRecDepth 100000 in
set_option maxHeartbeats 4000000 in
theorem z_eta {z : Nat × Nat} (h : z.2 = 0) : (z.1, 0) = z := by rw [← h]
set_option maxRecDepth 100000 in
set_option maxHeartbeats 4000000 in
theorem M_z {k s pt q : Nat} {row : Nat → Int32} (hs : s % 2 = 1) (hs5 : s ≤ 5) : ((z_1 T tp (p_lo s pt) (p_hi s pt) (if s = 5 then nI 59 else nI 44) (q, 0)).2 = 0 → p_M T tp (k + 2) s pt q row = p_M T tp k (if s = 5 then 0 else s + 2) (if s = 5 then pt + 1 else pt) (z_1 T tp (p_lo s pt) (p_hi s pt) (if s = 5 then nI 59 else nI 44) (q, 0)).1 (upd row (p_pl s pt) (o_val T tp (p_lo s pt) (p_hi s pt) (q, 0)))) ∧ (¬ (z_1 T tp (p_lo s pt) (p_hi s pt) (if s = 5 then nI 59 else nI 44) (q, 0)).2 = 0 → (p_M T tp (k + 2) s pt q row).1 = z_1 T tp (p_lo s pt) (p_hi s pt) (if s = 5 then nI 59 else nI 44) (q, 0)) := by
  have ec : (if s + 1 = 6 then nI 59 else nI 44) = (if s = 5 then nI 59 else nI 44) := by
    by_cases y : s = 5
    · rw [if_pos y, if_pos (by omega)]
    · rw [if_neg y, if_neg (by omega)]
  obtain ⟨y, hy⟩ : ∃ y, y = o_num T tp (p_lo s pt) (p_hi s pt) (q, 0) := ⟨_, rfl⟩
  have e1 : p_tok T tp s pt q row = (y, if y.2 = 0 then upd row (p_pl s pt) (p_va T tp q) else row) := by rw [tok_n hs, hy]
  have st : p_M T tp (k + 2) s pt q row = if y.2 = 0 then p_M T tp (k + 1) (s + 1) pt y.1 (upd row (p_pl s pt) (p_va T tp q)) else p_tok T tp s pt q row := by
    rw [show k + 2 = (k + 1) + 1 from rfl, p_M, if_neg (fun z => by omega), e1]
    by_cases z : y.2 = 0
    · rw [if_pos z]
      show p_M T tp (k + 1) (if s = 6 then 0 else s + 1) (if s = 6 then pt + 1 else pt) y.1 (if y.2 = 0 then upd row (p_pl s pt) (p_va T tp q) else row) = if y.2 = 0 then p_M T tp (k + 1) (s + 1) pt y.1 (upd row (p_pl s pt) (p_va T tp q)) else _
      rw [if_pos z, if_pos z, if_neg (show ¬ s = 6 by omega), if_neg (show ¬ s = 6 by omega)]
    · rw [if_neg z, if_neg z, if_neg z]
  rw [z_1, ← hy, st]
  by_cases z : y.2 = 0
  · rw [if_pos z]
    obtain ⟨x, hx⟩ : ∃ x, x = o_sgn T tp (if s = 5 then nI 59 else nI 44) y := ⟨_, rfl⟩
    have e2 : ∀ row', p_tok T tp (s + 1) pt y.1 row' = (x, row') := fun row' => by
      rw [p_tok, if_neg (by omega), if_neg (by omega), ec, z_eta z, hx]
    have e3 := num_0 (T := T) (tp := tp) (lo := p_lo s pt) (hi := p_hi s pt) (q := q) (by rw [← hy]; exact z)
    rw [← hx, e3, p_M, if_neg (fun z => by omega), e2]
    refine ⟨fun w => ?_, fun w => ?_⟩
    · rw [if_pos w]
      by_cases v : s = 5
      · rw [if_pos (by omega), if_pos (by omega), if_pos v, if_pos v]
      · rw [if_neg (by omega), if_neg (by omega), if_neg v, if_neg v]
    · rw [if_neg w]
  · rw [if_neg z, kp_sgn z, e1]
    exact ⟨fun w => absurd w z, fun _ => rfl⟩
def row_H (T : Nat → Int32) (tp : Nat) : Nat → Int32 := upd (upd (upd (fun _ => 0) 54 (o_val T tp 0 (nI 99) (l_A T tp))) 59 (o_val T tp 0 (nI 20) (l_2 T tp))) 60 (o_val T tp 1 (nI 8) (l_4 T tp))
set_option maxRecDepth 100000 in
set_option maxHeartbeats 4000000 in
theorem M_head (F : Nat) : ((l_6 T tp).2 = 0 → p_M T tp (F + 7) 0 0 0 (fun _ => 0) = p_M T tp F 0 1 (l_6 T tp).1 (row_H T tp)) ∧ (¬ (l_6 T tp).2 = 0 → (p_M T tp (F + 7) 0 0 0 (fun _ => 0)).1 = l_6 T tp) := by
  have e0 : p_tok T tp 0 0 0 (fun _ => 0) = (l_A T tp, fun _ => 0) := rfl
  have st : p_M T tp (F + 7) 0 0 0 (fun _ => 0) = if (l_A T tp).2 = 0 then p_M T tp (F + 6) 1 0 (l_A T tp).1 (fun _ => 0) else (l_A T tp, fun _ => 0) := by
    rw [show F + 7 = (F + 6) + 1 from rfl, p_M, if_neg (fun z => by omega), e0]
    rw [if_neg (show ¬ (0 : Nat) = 6 by omega), if_neg (show ¬ (0 : Nat) = 6 by omega)]
  rw [st]
  by_cases yA : (l_A T tp).2 = 0
  · rw [if_pos yA]
    obtain ⟨a1, a2⟩ := M_z (T := T) (tp := tp) (k := F + 4) (s := 1) (pt := 0) (q := (l_A T tp).1) (row := fun _ => 0) (by omega) (by omega)
    have p1 : p_lo 1 0 = 0 ∧ p_hi 1 0 = nI 99 ∧ p_pl 1 0 = 54 := ⟨rfl, rfl, rfl⟩
    rw [p1.1, p1.2.1, p1.2.2, if_neg (show ¬ 1 = 5 by omega), if_neg (show ¬ 1 = 5 by omega), if_neg (show ¬ 1 = 5 by omega), z_eta yA, ← l_2] at a1
    rw [p1.1, p1.2.1, if_neg (show ¬ 1 = 5 by omega), z_eta yA, ← l_2] at a2
    by_cases y2 : (l_2 T tp).2 = 0
    · rw [a1 y2]
      obtain ⟨b1, b2⟩ := M_z (T := T) (tp := tp) (k := F + 2) (s := 3) (pt := 0) (q := (l_2 T tp).1) (row := upd (fun _ => 0) 54 (o_val T tp 0 (nI 99) (l_A T tp))) (by omega) (by omega)
      have p3 : p_lo 3 0 = 0 ∧ p_hi 3 0 = nI 20 ∧ p_pl 3 0 = 59 := ⟨rfl, rfl, rfl⟩
      rw [p3.1, p3.2.1, p3.2.2, if_neg (show ¬ 3 = 5 by omega), if_neg (show ¬ 3 = 5 by omega), if_neg (show ¬ 3 = 5 by omega), z_eta y2, ← l_4] at b1
      rw [p3.1, p3.2.1, if_neg (show ¬ 3 = 5 by omega), z_eta y2, ← l_4] at b2
      by_cases y4 : (l_4 T tp).2 = 0
      · rw [b1 y4]
        obtain ⟨c1, c2⟩ := M_z (T := T) (tp := tp) (k := F) (s := 5) (pt := 0) (q := (l_4 T tp).1) (row := upd (upd (fun _ => 0) 54 (o_val T tp 0 (nI 99) (l_A T tp))) 59 (o_val T tp 0 (nI 20) (l_2 T tp))) (by omega) (by omega)
        have p5 : p_lo 5 0 = 1 ∧ p_hi 5 0 = nI 8 ∧ p_pl 5 0 = 60 := ⟨rfl, rfl, rfl⟩
        rw [p5.1, p5.2.1, p5.2.2, if_pos rfl, if_pos rfl, if_pos rfl, z_eta y4, ← l_6] at c1
        rw [p5.1, p5.2.1, if_pos rfl, z_eta y4, ← l_6] at c2
        exact ⟨fun y6 => c1 y6, fun y6 => c2 y6⟩
      · have e6 : l_6 T tp = l_4 T tp := by rw [l_6, kp_z y4]
        rw [e6]
        exact ⟨fun w => absurd w y4, fun _ => b2 y4⟩
    · have e4 : l_4 T tp = l_2 T tp := by rw [l_4, kp_z y2]
      have e6 : l_6 T tp = l_2 T tp := by rw [l_6, e4, kp_z y2]
      rw [e6]
      exact ⟨fun w => absurd w y2, fun _ => a2 y2⟩
  · rw [if_neg yA]
    have e2 : l_2 T tp = l_A T tp := by rw [l_2, kp_z yA]
    have e4 : l_4 T tp = l_A T tp := by rw [l_4, e2, kp_z yA]
    have e6 : l_6 T tp = l_A T tp := by rw [l_6, e4, kp_z yA]
    rw [e6]
    exact ⟨fun w => absurd w yA, fun _ => rfl⟩
end SP
