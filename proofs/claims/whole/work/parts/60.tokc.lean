/-! the class reads a token: which -/
set_option maxRecDepth 100000 in
set_option maxHeartbeats 4000000 in
theorem isd_iff (x : Int32) : p_isd x = true ↔ 48 ≤ x.toInt ∧ x.toInt ≤ 57 := by simp [p_isd]
set_option maxRecDepth 100000 in
set_option maxHeartbeats 4000000 in
theorem lt_iff (x : Int32) : p_lt x = true ↔ 97 ≤ x.toInt ∧ x.toInt ≤ 122 := by simp [p_lt]
section TC
variable {T : Nat → Int32} {tp q s pt : Nat} {row : Nat → Int32}
set_option maxRecDepth 100000 in
set_option maxHeartbeats 4000000 in
theorem rn_0 (h : q < tp) : p_rn T (tp - q) q = 0 ↔ ¬ p_isd (T q) = true := by
  rw [show tp - q = (tp - q - 1) + 1 by omega, p_rn]
  by_cases z : p_isd (T q) = true
  · rw [if_pos z]; exact ⟨fun y => by omega, fun y => absurd z y⟩
  · rw [if_neg z]; exact ⟨fun _ => z, fun _ => rfl⟩
set_option maxRecDepth 100000 in
set_option maxHeartbeats 4000000 in
theorem tok_n (hs : s % 2 = 1) : p_tok T tp s pt q row = (o_num T tp (p_lo s pt) (p_hi s pt) (q, 0), if (o_num T tp (p_lo s pt) (p_hi s pt) (q, 0)).2 = 0 then upd row (p_pl s pt) (p_va T tp q) else row) := by
  rw [p_tok, if_neg (by omega), if_pos hs]
set_option maxRecDepth 100000 in
set_option maxHeartbeats 4000000 in
theorem tk_3 (h : q < tp) (hr : 1 ≤ p_rn T (tp - q) q ∧ p_rn T (tp - q) q ≤ 2) : p_tk T tp q = nI 3 ∧ p_va T tp q = p_vl T q (p_rn T (tp - q) q) ∧ p_cu T tp q = q + p_rn T (tp - q) q := by
  have hd : p_isd (T q) = true := by
    by_cases z : p_isd (T q) = true
    · exact z
    · have := (rn_0 (T := T) h).mpr z; omega
  have hl : ¬ p_lt (T q) = true := fun z => by rw [isd_iff] at hd; rw [lt_iff] at z; omega
  refine ⟨?_, ?_, ?_⟩
  · rw [p_tk, if_pos h, if_neg hl, if_pos hd, if_pos hr.2]
  · rw [p_va, if_pos h, if_pos hd, vm_vl hr.1 hr.2]
  · rw [p_cu, if_pos h, if_pos hd]
set_option maxRecDepth 100000 in
set_option maxHeartbeats 4000000 in
theorem tk_n3 (h : q < tp) (hr : p_rn T (tp - q) q = 0 ∨ 2 < p_rn T (tp - q) q) : ¬ p_tk T tp q = nI 3 := by
  rw [p_tk, if_pos h]
  have n2 : ¬ (nI 2 : Int32) = nI 3 := by rw [q_k23]; exact fun z => z
  have n4 : ¬ (nI 4 : Int32) = nI 3 := by rw [q_k43]; exact fun z => z
  have n0 : ¬ (0 : Int32) = nI 3 := fun z => by rw [← nI_0, nI_eqn (by omega) (by omega)] at z; omega
  split
  · exact n2
  · split
    · rename_i y
      rw [if_neg (fun z => by
        rcases hr with a | a
        · exact (rn_0 h).mp a y
        · omega)]
      exact n0
    · split
      · exact n4
      · exact n0
set_option maxRecDepth 100000 in
set_option maxHeartbeats 4000000 in
theorem tok_n0 (hs : s % 2 = 1) (h : q < tp) (hr : p_rn T (tp - q) q = 0 ∨ 2 < p_rn T (tp - q) q) : p_tok T tp s pt q row = ((q, 1), row) := by
  have e : ∀ lo hi, o_num T tp lo hi (q, 0) = (q, 1) := fun lo hi => by simp [o_num, tk_n3 h hr]
  rw [tok_n hs, e]; rfl
set_option maxRecDepth 100000 in
set_option maxHeartbeats 4000000 in
theorem tok_n2 (hs : s % 2 = 1) (h : q < tp) (hr : 1 ≤ p_rn T (tp - q) q ∧ p_rn T (tp - q) q ≤ 2) (hv : ¬ o_rng (p_lo s pt) (p_hi s pt) (p_vl T q (p_rn T (tp - q) q)) = true) : p_tok T tp s pt q row = ((q, 2), row) := by
  obtain ⟨a, b, c⟩ := tk_3 h hr
  have e : o_num T tp (p_lo s pt) (p_hi s pt) (q, 0) = (q, 2) := by
    rw [o_num, if_pos rfl, if_pos a, b, if_neg hv]
  rw [tok_n hs, e]; rfl
set_option maxRecDepth 100000 in
set_option maxHeartbeats 4000000 in
theorem tok_n1 (hs : s % 2 = 1) (h : q < tp) (hr : 1 ≤ p_rn T (tp - q) q ∧ p_rn T (tp - q) q ≤ 2) (hv : o_rng (p_lo s pt) (p_hi s pt) (p_vl T q (p_rn T (tp - q) q)) = true) : p_tok T tp s pt q row = ((q + p_rn T (tp - q) q, 0), upd row (p_pl s pt) (p_vl T q (p_rn T (tp - q) q))) := by
  obtain ⟨a, b, c⟩ := tk_3 h hr
  have e : o_num T tp (p_lo s pt) (p_hi s pt) (q, 0) = (q + p_rn T (tp - q) q, 0) := by
    rw [o_num, if_pos rfl, if_pos a, b, if_pos hv, c]
  rw [tok_n hs, e, b]; rfl
/-! signs -/
set_option maxRecDepth 100000 in
set_option maxHeartbeats 4000000 in
theorem sg_c {x c : Int32} (hc : c = nI 44 ∨ c = nI 59) (hx : x = c) : ¬ p_isd x = true ∧ ¬ p_lt x = true ∧ p_sg x = true := by
  subst hx
  have : x.toInt = 44 ∨ x.toInt = 59 := by
    rcases hc with h | h <;> rw [h, q_ti (by omega)]
    · exact Or.inl rfl
    · exact Or.inr rfl
  refine ⟨fun z => ?_, fun z => ?_, by simp [p_sg, hc]⟩
  · rw [isd_iff] at z; omega
  · rw [lt_iff] at z; omega
set_option maxRecDepth 100000 in
set_option maxHeartbeats 4000000 in
theorem isg_iff {c : Int32} (hc : c = nI 44 ∨ c = nI 59) (h : q < tp) : o_isg T tp c (q, 0) = true ↔ T q = c := by
  have n2 : ¬ (nI 2 : Int32) = nI 4 := by rw [q_k24]; exact fun z => z
  have n3 : ¬ (nI 3 : Int32) = nI 4 := by rw [q_k34]; exact fun z => z
  have n0 : ¬ (0 : Int32) = nI 4 := fun z => by rw [← nI_0, nI_eqn (by omega) (by omega)] at z; omega
  rw [o_isg, decide_eq_true_iff]
  constructor
  · intro ⟨a, b⟩
    change p_tk T tp q = nI 4 at a
    change p_va T tp q = c at b
    rw [p_tk, if_pos h] at a
    rw [p_va, if_pos h] at b
    by_cases x : p_lt (T q) = true
    · rw [if_pos x] at a; exact absurd a n2
    · rw [if_neg x] at a
      by_cases y : p_isd (T q) = true
      · rw [if_pos y] at a
        split at a
        · exact absurd a n3
        · exact absurd a n0
      · rw [if_neg y] at b; exact b
  · intro e
    obtain ⟨a, b, d⟩ := sg_c hc e
    refine ⟨?_, ?_⟩
    · show p_tk T tp q = nI 4
      rw [p_tk, if_pos h, if_neg b, if_neg a, if_pos d]
    · show p_va T tp q = c
      rw [p_va, if_pos h, if_neg a, e]
set_option maxRecDepth 100000 in
set_option maxHeartbeats 4000000 in
theorem tok_s (hs : s % 2 = 0) (hs0 : ¬ s = 0) (h : q < tp) : p_tok T tp s pt q row = (if T q = (if s = 6 then nI 59 else nI 44) then ((q + 1, 0), row) else ((q, 1), row)) := by
  rw [p_tok, if_neg hs0, if_neg (by omega)]
  obtain ⟨c, hc⟩ : ∃ c, c = (if s = 6 then nI 59 else nI 44) := ⟨_, rfl⟩
  have hc2 : c = nI 44 ∨ c = nI 59 := by rw [hc]; split; exact Or.inr rfl; exact Or.inl rfl
  rw [← hc, o_sgn, o_must, if_pos rfl]
  by_cases z : T q = c
  · rw [if_pos ((isg_iff hc2 h).mpr z), if_pos z, p_cu, if_pos h, if_neg (sg_c hc2 z).1]
  · rw [if_neg (fun y => z ((isg_iff hc2 h).mp y)), if_neg z]
/-! letters -/
set_option maxRecDepth 100000 in
set_option maxHeartbeats 4000000 in
theorem tk_2 (h : q < tp) (hl : p_lt (T q) = true) : p_tk T tp q = nI 2 ∧ p_va T tp q = T q ∧ p_cu T tp q = q + 1 := by
  have hd : ¬ p_isd (T q) = true := fun z => by rw [isd_iff] at z; rw [lt_iff] at hl; omega
  exact ⟨by rw [p_tk, if_pos h, if_pos hl], by rw [p_va, if_pos h, if_neg hd], by rw [p_cu, if_pos h, if_neg hd]⟩
set_option maxRecDepth 100000 in
set_option maxHeartbeats 4000000 in
theorem tk_n2 (h : q < tp) (hl : ¬ p_lt (T q) = true) : ¬ p_tk T tp q = nI 2 := by
  have n3 : ¬ (nI 3 : Int32) = nI 2 := by rw [q_k32]; exact fun z => z
  have n4 : ¬ (nI 4 : Int32) = nI 2 := by rw [q_k42]; exact fun z => z
  have n0 : ¬ (0 : Int32) = nI 2 := fun z => by rw [← nI_0, nI_eqn (by omega) (by omega)] at z; omega
  rw [p_tk, if_pos h, if_neg hl]
  split
  · split
    · exact n3
    · exact n0
  · split
    · exact n4
    · exact n0
set_option maxRecDepth 100000 in
set_option maxHeartbeats 4000000 in
theorem kd_lt {x : Int32} (h : ¬ p_kd x = 0) : p_lt x = true := by
  by_cases z : p_lt x = true
  · exact z
  · exfalso
    apply h
    have ne : ∀ k : Nat, 97 ≤ k → k ≤ 122 → ¬ x = nI k := fun k h1 h2 e => z (by rw [lt_iff, e, q_ti (by omega)]; omega)
    rw [p_kd, if_neg (ne 115 (by omega) (by omega)), if_neg (ne 114 (by omega) (by omega)), if_neg (ne 104 (by omega) (by omega)), if_neg (ne 116 (by omega) (by omega)), if_neg (ne 103 (by omega) (by omega))]
set_option maxRecDepth 100000 in
set_option maxHeartbeats 4000000 in
theorem tok_f (h : q < tp) : p_tok T tp 0 0 q row = (if T q = nI 102 then ((q + 1, 0), row) else ((q, 1), row)) := by
  have e : p_tok T tp 0 0 q row = (o_must T tp (o_ltr T tp (nI 102) (q, 0)) (q, 0), row) := rfl
  rw [e, o_must, if_pos rfl]
  by_cases z : T q = nI 102
  · obtain ⟨a, b, c⟩ := tk_2 (T := T) h (by rw [lt_iff, z, q_ti (by omega)]; omega)
    rw [if_pos (by simp [o_ltr, a, b, z]), if_pos z, c]
  · rw [if_neg z]
    by_cases l : p_lt (T q) = true
    · obtain ⟨a, b, c⟩ := tk_2 (T := T) h l
      rw [if_neg (by simp [o_ltr, a, b, z])]
    · rw [if_neg (by simp [o_ltr, tk_n2 h l])]
set_option maxRecDepth 100000 in
set_option maxHeartbeats 4000000 in
theorem srt_iff (h : q < tp) : o_srt T tp (q, 0) = true ↔ ¬ p_kd (T q) = 0 := by
  rw [o_srt, decide_eq_true_iff]
  constructor
  · intro zz
    obtain ⟨-, a, b⟩ := zz
    change p_tk T tp q = nI 2 at a
    change ¬ p_kd (p_va T tp q) = 0 at b
    by_cases l : p_lt (T q) = true
    · rw [(tk_2 (T := T) h l).2.1] at b; exact b
    · exact absurd a (tk_n2 h l)
  · intro z
    have l := kd_lt z
    refine ⟨rfl, ?_, ?_⟩
    · exact (tk_2 (T := T) h l).1
    · show ¬ p_kd (p_va T tp q) = 0
      rw [(tk_2 (T := T) h l).2.1]; exact z
set_option maxRecDepth 100000 in
set_option maxHeartbeats 4000000 in
theorem tok_k (h : q < tp) (hp : ¬ pt = 0) : p_tok T tp 0 pt q row = (if p_kd (T q) = 0 then ((q, 1), row) else if pt ≤ 6 then ((q + 1, 0), upd (upd row (48 + (pt - 1)) (p_kd (T q))) 58 (nI pt)) else ((q, 3), row)) := by
  rw [p_tok, if_pos rfl, if_neg hp]
  by_cases z : p_kd (T q) = 0
  · rw [if_neg (fun y => (srt_iff h).mp y z), if_pos z]
  · obtain ⟨a, b, c⟩ := tk_2 (T := T) h (kd_lt z)
    rw [if_pos ((srt_iff h).mpr z), if_neg z, b, c]
end TC
