/-! both readers tell the same: all of it -/
section SR
variable {tp : Nat} {T : Nat → Int32}
set_option maxRecDepth 100000 in
set_option maxHeartbeats 4000000 in
theorem tk_1 {q : Nat} (h : q < tp) : ¬ p_tk T tp q = 1 := by
  have n2 : ¬ (nI 2 : Int32) = 1 := by rw [q_k21]; exact fun z => z
  have n3 : ¬ (nI 3 : Int32) = 1 := by rw [q_k31]; exact fun z => z
  have n4 : ¬ (nI 4 : Int32) = 1 := by rw [q_k41]; exact fun z => z
  have n0 : ¬ (0 : Int32) = 1 := by rw [q_01]; exact fun z => z
  rw [p_tk, if_pos h]
  split
  · exact n2
  · split
    · split
      · exact n3
      · exact n0
    · split
      · exact n4
      · exact n0
set_option maxRecDepth 100000 in
set_option maxHeartbeats 4000000 in
theorem srt_lt {q : Nat} (h : o_srt T tp (q, 0) = true) : q < tp ∧ ¬ p_kd (p_va T tp q) = 0 := by
  have z0 : p_tk T tp q = nI 2 ∧ ¬ p_kd (p_va T tp q) = 0 := by simpa [o_srt] using h
  refine ⟨?_, z0.2⟩
  by_cases y : q < tp
  · exact y
  · have := z0.1
    rw [tk_end y] at this
    rw [q_k12] at this
    exact this.elim
set_option maxRecDepth 100000 in
set_option maxHeartbeats 4000000 in
theorem d6_e {q : Nat} : d_6 T tp q 6 = (q, 3) := by
  have n0 : ¬ ((q, 3) : Nat × Nat).2 = 0 := by show ¬ 3 = 0; omega
  rw [d_6, d_4, d_2, d_A, if_pos rfl, kp_must n0, kp_z n0, kp_z n0, kp_z n0]
set_option maxRecDepth 100000 in
set_option maxHeartbeats 4000000 in
theorem fin_k {z : Nat × Nat} (h : ¬ z.2 = 0) : o_fin T tp z = z := by rw [o_fin, if_neg h]
set_option maxRecDepth 100000 in
set_option maxHeartbeats 4000000 in
theorem srt_k {z : Nat × Nat} (h : ¬ z.2 = 0) : o_srt T tp z = false := by simp [o_srt, h]
/-! a debtor: four tokens and more, by the class's machine -/
set_option maxRecDepth 100000 in
set_option maxHeartbeats 4000000 in
theorem M_deb {F m q : Nat} {row : Nat → Int32} (hm : m ≤ 5) (hs : o_srt T tp (q, 0) = true) : ((d_6 T tp q m).2 = 0 → p_M T tp (F + 7) 0 (m + 1) q row = p_M T tp F 0 (m + 2) (d_6 T tp q m).1 (row_D T tp q m row)) ∧ (¬ (d_6 T tp q m).2 = 0 → (p_M T tp (F + 7) 0 (m + 1) q row).1 = d_6 T tp q m) := by
  obtain ⟨hq, hk⟩ := srt_lt hs
  have hA : d_A T tp q m = (p_cu T tp q, 0) := by rw [d_A, if_neg (show ¬ m = 6 by omega), o_must, if_pos rfl, if_pos rfl]
  obtain ⟨r1, hr1⟩ : ∃ r, r = upd (upd row (48 + m) (p_kd (p_va T tp q))) 58 (nI (m + 1)) := ⟨_, rfl⟩
  have e0 : p_tok T tp 0 (m + 1) q row = ((p_cu T tp q, 0), r1) := by
    rw [p_tok, if_pos rfl, if_neg (show ¬ m + 1 = 0 by omega), if_pos hs, if_pos (show m + 1 ≤ 6 by omega), Nat.add_sub_cancel, hr1]
  have st : p_M T tp (F + 7) 0 (m + 1) q row = p_M T tp (F + 6) 1 (m + 1) (p_cu T tp q) r1 := by
    rw [show F + 7 = (F + 6) + 1 from rfl, p_M, if_neg (fun z => by omega), e0]
    rw [if_pos rfl, if_neg (show ¬ (0 : Nat) = 6 by omega), if_neg (show ¬ (0 : Nat) = 6 by omega)]
  have pl : ∀ s, p_lo s (m + 1) = 0 := fun s => by rw [p_lo, if_neg (fun z => by omega)]
  have h1 : p_hi 1 (m + 1) = nI 60 := by rw [p_hi, if_neg (by omega), if_pos rfl]
  have h3 : p_hi 3 (m + 1) = nI 40 := by rw [p_hi, if_neg (by omega), if_neg (show ¬ (3 : Nat) = 1 by omega), if_pos rfl]
  have h5 : p_hi 5 (m + 1) = nI 99 := by rw [p_hi, if_neg (by omega), if_neg (show ¬ (5 : Nat) = 1 by omega), if_neg (show ¬ (5 : Nat) = 3 by omega)]
  have g1 : p_pl 1 (m + 1) = 6 + m := by rw [p_pl, if_neg (by omega), if_pos rfl, Nat.add_sub_cancel]
  have g3 : p_pl 3 (m + 1) = 12 + m := by rw [p_pl, if_neg (by omega), if_neg (show ¬ (3 : Nat) = 1 by omega), if_pos rfl, Nat.add_sub_cancel]
  have g5 : p_pl 5 (m + 1) = 18 + m := by rw [p_pl, if_neg (by omega), if_neg (show ¬ (5 : Nat) = 1 by omega), if_neg (show ¬ (5 : Nat) = 3 by omega), Nat.add_sub_cancel]
  rw [st]
  obtain ⟨a1, a2⟩ := M_z (T := T) (tp := tp) (k := F + 4) (s := 1) (pt := m + 1) (q := p_cu T tp q) (row := r1) (by omega) (by omega)
  rw [pl, h1, g1, if_neg (show ¬ 1 = 5 by omega), if_neg (show ¬ 1 = 5 by omega), if_neg (show ¬ 1 = 5 by omega), ← hA, ← d_2] at a1
  rw [pl, h1, if_neg (show ¬ 1 = 5 by omega), ← hA, ← d_2] at a2
  by_cases y2 : (d_2 T tp q m).2 = 0
  · have a1 := a1 y2
    rw [a1]
    obtain ⟨b1, b2⟩ := M_z (T := T) (tp := tp) (k := F + 2) (s := 3) (pt := m + 1) (q := (d_2 T tp q m).1) (row := upd r1 (6 + m) (o_val T tp 0 (nI 60) (d_A T tp q m))) (by omega) (by omega)
    rw [pl, h3, g3, if_neg (show ¬ 3 = 5 by omega), if_neg (show ¬ 3 = 5 by omega), if_neg (show ¬ 3 = 5 by omega), z_eta y2, ← d_4] at b1
    rw [pl, h3, if_neg (show ¬ 3 = 5 by omega), z_eta y2, ← d_4] at b2
    by_cases y4 : (d_4 T tp q m).2 = 0
    · rw [b1 y4]
      obtain ⟨c1, c2⟩ := M_z (T := T) (tp := tp) (k := F) (s := 5) (pt := m + 1) (q := (d_4 T tp q m).1) (row := upd (upd r1 (6 + m) (o_val T tp 0 (nI 60) (d_A T tp q m))) (12 + m) (o_val T tp 0 (nI 40) (d_2 T tp q m))) (by omega) (by omega)
      rw [pl, h5, g5, if_pos rfl, if_pos rfl, if_pos rfl, z_eta y4, ← d_6] at c1
      rw [pl, h5, if_pos rfl, z_eta y4, ← d_6] at c2
      refine ⟨fun y6 => (c1 y6).trans ?_, fun y6 => c2 y6⟩
      rw [row_D, hr1]
    · have e6 : d_6 T tp q m = d_4 T tp q m := by rw [d_6, kp_z y4]
      rw [e6]
      exact ⟨fun w => absurd w y4, fun _ => b2 y4⟩
  · have e4 : d_4 T tp q m = d_2 T tp q m := by rw [d_4, kp_z y2]
    have e6 : d_6 T tp q m = d_2 T tp q m := by rw [d_6, e4, kp_z y2]
    rw [e6]
    exact ⟨fun w => absurd w y2, fun _ => a2 y2⟩
set_option maxRecDepth 100000 in
set_option maxHeartbeats 4000000 in
theorem M_debs (F : Nat) : ∀ (k m q : Nat) (row : Nat → Int32), m + k = 7 → m ≤ 6 → q ≤ tp → p_gr m row → (1 ≤ m ∨ o_srt T tp (q, 0) = true) → ((o_fin T tp (p_D T tp k m (q, 0) (to1 row)).1).2 = 0 → (p_M T tp (F + 1 + 7 * k) 0 (m + 1) q row).1.2 = 0 ∧ ∃ m', 1 ≤ m' ∧ m' ≤ 6 ∧ p_gr m' (p_M T tp (F + 1 + 7 * k) 0 (m + 1) q row).2 ∧ (p_D T tp k m (q, 0) (to1 row)).2 = to1 (p_M T tp (F + 1 + 7 * k) 0 (m + 1) q row).2) ∧ (¬ (o_fin T tp (p_D T tp k m (q, 0) (to1 row)).1).2 = 0 → (p_M T tp (F + 1 + 7 * k) 0 (m + 1) q row).1 = o_fin T tp (p_D T tp k m (q, 0) (to1 row)).1) := by
  intro k
  induction k with
  | zero => intro m q row h1 h2; omega
  | succ k ih =>
    intro m q row hmk hm6 hq hg hor
    by_cases hs : o_srt T tp (q, 0) = true
    · obtain ⟨hq2, hk⟩ := srt_lt hs
      by_cases h5 : m ≤ 5
      · obtain ⟨a1, a2⟩ := M_deb (F := F + 1 + 7 * k) (row := row) h5 hs
        have ef : F + 1 + 7 * (k + 1) = F + 1 + 7 * k + 7 := by omega
        rw [ef]
        by_cases y : (d_6 T tp q m).2 = 0
        · have eD : p_D T tp (k + 1) m (q, 0) (to1 row) = p_D T tp k (m + 1) ((d_6 T tp q m).1, 0) (to1 (row_D T tp q m row)) := by
            rw [p_D, if_pos hs]
            show (if (d_6 T tp q m).2 = 0 then _ else _) = _
            rw [if_pos y, z_eta y, to1_D (by omega)]
          rw [eD, a1 y]
          exact ih (m + 1) _ _ (by omega) (by omega) (ok_d6 hq).1 (gr_D h5 hk hg) (Or.inl (by omega))
        · have eD : p_D T tp (k + 1) m (q, 0) (to1 row) = (d_6 T tp q m, to1 row) := by
            rw [p_D, if_pos hs]
            show (if (d_6 T tp q m).2 = 0 then _ else _) = _
            rw [if_neg y]
          rw [eD]
          show (((o_fin T tp (d_6 T tp q m)).2 = 0) → _) ∧ (¬ (o_fin T tp (d_6 T tp q m)).2 = 0 → _ = o_fin T tp (d_6 T tp q m))
          rw [fin_k y]
          exact ⟨fun w => absurd w y, fun _ => a2 y⟩
      · have m6 : m = 6 := by omega
        subst m6
        have eD : p_D T tp (k + 1) 6 (q, 0) (to1 row) = ((q, 3), to1 row) := by
          rw [p_D, if_pos hs]
          show (if (d_6 T tp q 6).2 = 0 then _ else (d_6 T tp q 6, _)) = _
          rw [if_neg d6_f, d6_e]
        have e0 : p_tok T tp 0 (6 + 1) q row = ((q, 3), row) := by
          rw [p_tok, if_pos rfl, if_neg (show ¬ 6 + 1 = 0 by omega), if_pos hs, if_neg (show ¬ 6 + 1 ≤ 6 by omega)]
        have eM : p_M T tp (F + 1 + 7 * (k + 1)) 0 (6 + 1) q row = ((q, 3), row) := by
          rw [show F + 1 + 7 * (k + 1) = (F + 7 * (k + 1)) + 1 by omega, p_M, if_neg (fun z => by omega), e0]
          exact if_neg (by show ¬ 3 = 0; omega)
        have n0 : ¬ ((q, 3) : Nat × Nat).2 = 0 := by show ¬ 3 = 0; omega
        rw [eD, eM]
        show (((o_fin T tp (q, 3)).2 = 0) → _) ∧ (¬ (o_fin T tp (q, 3)).2 = 0 → (q, 3) = o_fin T tp (q, 3))
        rw [fin_k n0]
        exact ⟨fun w => absurd w n0, fun _ => rfl⟩
    · have hm1 : 1 ≤ m := hor.resolve_right hs
      have eD : p_D T tp (k + 1) m (q, 0) (to1 row) = ((q, 0), to1 row) := by rw [p_D, if_neg hs]
      rw [eD]
      by_cases hlt : q < tp
      · have e0 : p_tok T tp 0 (m + 1) q row = ((q, 1), row) := by
          rw [p_tok, if_pos rfl, if_neg (show ¬ m + 1 = 0 by omega), if_neg hs]
        have eM : p_M T tp (F + 1 + 7 * (k + 1)) 0 (m + 1) q row = ((q, 1), row) := by
          rw [show F + 1 + 7 * (k + 1) = (F + 7 * (k + 1)) + 1 by omega, p_M, if_neg (fun z => by omega), e0]
          exact if_neg (by show ¬ 1 = 0; omega)
        have eF : o_fin T tp (q, 0) = (q, 1) := by rw [o_fin, if_pos rfl, if_neg (tk_1 hlt)]
        rw [eM]
        show (((o_fin T tp (q, 0)).2 = 0) → _) ∧ (¬ (o_fin T tp (q, 0)).2 = 0 → (q, 1) = o_fin T tp (q, 0))
        rw [eF]
        exact ⟨fun w => by change 1 = 0 at w; omega, fun _ => rfl⟩
      · have eM : p_M T tp (F + 1 + 7 * (k + 1)) 0 (m + 1) q row = ((q, 0), row) := by
          rw [show F + 1 + 7 * (k + 1) = (F + 7 * (k + 1)) + 1 by omega, p_M, if_pos ⟨by omega, rfl, by omega⟩]
        have eF : o_fin T tp (q, 0) = (q, 0) := by rw [o_fin, if_pos rfl, if_pos (tk_end hlt)]
        rw [eM]
        show (((o_fin T tp (q, 0)).2 = 0) → _) ∧ (¬ (o_fin T tp (q, 0)).2 = 0 → (q, 0) = o_fin T tp (q, 0))
        rw [eF]
        exact ⟨fun _ => ⟨rfl, m, hm1, hm6, hg, rfl⟩, fun w => absurd rfl w⟩
set_option maxRecDepth 100000 in
set_option maxHeartbeats 4000000 in
theorem M_all : ((o_fin T tp (p_D T tp 7 0 (l_7 T tp) (l_F T tp)).1).2 = 0 → (p_M T tp 121 0 0 0 (fun _ => 0)).1.2 = 0 ∧ ∃ m', 1 ≤ m' ∧ m' ≤ 6 ∧ p_gr m' (p_M T tp 121 0 0 0 (fun _ => 0)).2 ∧ (p_D T tp 7 0 (l_7 T tp) (l_F T tp)).2 = to1 (p_M T tp 121 0 0 0 (fun _ => 0)).2) ∧ (¬ (o_fin T tp (p_D T tp 7 0 (l_7 T tp) (l_F T tp)).1).2 = 0 → (p_M T tp 121 0 0 0 (fun _ => 0)).1 = o_fin T tp (p_D T tp 7 0 (l_7 T tp) (l_F T tp)).1) := by
  obtain ⟨a1, a2⟩ := M_head (T := T) (tp := tp) 114
  rw [show 114 + 7 = 121 from rfl] at a1 a2
  have hD : ∀ z fr, ¬ z.2 = 0 → p_D T tp 7 0 z fr = (z, fr) := fun z fr hz => by
    rw [p_D, if_neg (by rw [srt_k hz]; decide)]
  by_cases y : (l_6 T tp).2 = 0
  · rw [a1 y, to1_H]
    by_cases hs : o_srt T tp (l_6 T tp) = true
    · have e7 : l_7 T tp = ((l_6 T tp).1, 0) := by rw [l_7, if_pos hs, z_eta y]
      rw [e7]
      exact M_debs (T := T) (tp := tp) 64 7 0 (l_6 T tp).1 (row_H T tp) (by omega) (by omega) ok_l6.1 gr_H (Or.inr (by rw [z_eta y]; exact hs))
    · have e7 : l_7 T tp = ((l_6 T tp).1, 1) := by rw [l_7, if_neg hs, o_bad, if_pos y]
      have n0 : ¬ (((l_6 T tp).1, 1) : Nat × Nat).2 = 0 := by show ¬ 1 = 0; omega
      have hs2 : ¬ o_srt T tp ((l_6 T tp).1, 0) = true := by rw [z_eta y]; exact hs
      have e0 : p_tok T tp 0 1 (l_6 T tp).1 (row_H T tp) = (((l_6 T tp).1, 1), row_H T tp) := by
        rw [p_tok, if_pos rfl, if_neg (show ¬ 1 = 0 by omega), if_neg hs2]
      have eM : p_M T tp 114 0 1 (l_6 T tp).1 (row_H T tp) = (((l_6 T tp).1, 1), row_H T tp) := by
        rw [show 114 = 113 + 1 from rfl, p_M, if_neg (fun z => by omega), e0]
        exact if_neg (by show ¬ 1 = 0; omega)
      rw [e7, hD _ _ n0, eM]
      show (((o_fin T tp ((l_6 T tp).1, 1)).2 = 0) → _) ∧ (¬ (o_fin T tp ((l_6 T tp).1, 1)).2 = 0 → ((l_6 T tp).1, 1) = o_fin T tp ((l_6 T tp).1, 1))
      rw [fin_k n0]
      exact ⟨fun w => absurd w n0, fun _ => rfl⟩
  · have e7 : l_7 T tp = l_6 T tp := by
      rw [l_7, if_neg (by rw [srt_k y]; decide), o_bad, if_neg y]
    rw [e7, hD _ _ y]
    show (((o_fin T tp (l_6 T tp)).2 = 0) → _) ∧ (¬ (o_fin T tp (l_6 T tp)).2 = 0 → _ = o_fin T tp (l_6 T tp))
    rw [fin_k y]
    exact ⟨fun w => absurd w y, fun _ => a2 y⟩
end SR
