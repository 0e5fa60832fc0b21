/-! RANGES: what a week does to them -/
set_option maxRecDepth 100000 in
set_option maxHeartbeats 4000000 in
theorem t2n {x : Int32} {m : Nat} (h : 0 ≤ x.toInt ∧ x.toInt ≤ m) (hm : m < 2147483647) : ∃ k, k ≤ m ∧ x = nI k := by
  rcases q_arg x (m + 1) (by omega) with ⟨k, h1, h2⟩ | h1
  · exact ⟨k, by omega, h2⟩
  · exact absurd ⟨h.1, by omega⟩ h1
set_option maxRecDepth 100000 in
set_option maxHeartbeats 4000000 in
theorem n2t {x : Int32} {k m : Nat} (h : x = nI k) (hk : k ≤ m) (hm : m < 2147483648) : 0 ≤ x.toInt ∧ x.toInt ≤ m := by
  rw [h, nI_toInt (by omega)]; omega
set_option maxRecDepth 100000 in
set_option maxHeartbeats 4000000 in
theorem mn_nI {a b : Nat} (ha : a < 2147483648) (hb : b < 2147483648) : sx_mn (nI a) (nI b) = nI (min a b) := by
  unfold sx_mn
  by_cases h : b < a
  · rw [if_pos ((nI_ltI hb ha).mpr h), Nat.min_eq_right (by omega)]
  · rw [if_neg (fun q => h ((nI_ltI hb ha).mp q)), Nat.min_eq_left (by omega)]
set_option maxRecDepth 100000 in
set_option maxHeartbeats 4000000 in
theorem mx_0 {x : Int32} (h : ¬ 0 ≤ x.toInt) : sx_mx 0 x = 0 := by
  unfold sx_mx
  rw [if_neg (fun q => h (by have := Int32.lt_iff_toInt_lt.mp q; rw [q_ti0] at this; omega))]
set_option maxRecDepth 100000 in
set_option maxHeartbeats 4000000 in
theorem mx_p {x : Int32} (h : 0 ≤ x.toInt) : sx_mx 0 x = x := by
  unfold sx_mx
  by_cases q : (0 : Int32) < x
  · rw [if_pos q]
  · rw [if_neg q]
    apply Int32.toInt_inj.mp
    rw [q_lt, q_ti0] at q
    rw [q_ti0]; omega
set_option maxRecDepth 100000 in
set_option maxHeartbeats 4000000 in
theorem mn_comm (a b : Int32) : sx_mn a b = sx_mn b a := by
  unfold sx_mn
  by_cases h : b < a
  · have h2 : ¬ a < b := by rw [q_lt] at h ⊢; omega
    rw [if_pos h, if_neg h2]
  · rw [if_neg h]
    by_cases h2 : a < b
    · rw [if_pos h2]
    · rw [if_neg h2]
      apply Int32.toInt_inj.mp
      rw [q_lt] at h h2; omega
/-! of one debtor -/
def WD (c : Nat) (f : Nat → Int32) (d : Nat) : Prop := (0 ≤ (f d).toInt ∧ (f d).toInt ≤ 200) ∧ (0 ≤ (f (6 + d)).toInt ∧ (f (6 + d)).toInt ≤ 60) ∧ (0 ≤ (f (12 + d)).toInt ∧ (f (12 + d)).toInt ≤ 40) ∧ (0 ≤ (f (18 + d)).toInt ∧ (f (18 + d)).toInt ≤ 99) ∧ (f (24 + d) = 0 ∨ f (24 + d) = 1) ∧ (f (30 + d) = 0 ∨ f (30 + d) = 1) ∧ (d < c → 1 ≤ (f (48 + d)).toInt ∧ (f (48 + d)).toInt ≤ 5) ∧ (c ≤ d → f d = 0 ∧ f (24 + d) = 0 ∧ f (30 + d) = 0)
def WC (c : Nat) (f : Nat → Int32) : Prop := c ≤ 6 ∧ f 58 = nI c ∧ (∀ d, d < 6 → WD c f d) ∧ (0 ≤ (f 59).toInt ∧ (f 59).toInt ≤ 20) ∧ ∀ j, 62 ≤ j → f j = 0
set_option maxRecDepth 100000 in
set_option maxHeartbeats 4000000 in
theorem by_n {c d : Nat} {f : Nat → Int32} (h : WC c f) (hd : d < 6) : ∃ x y, x ≤ 200 ∧ f d = nI x ∧ y ≤ 40 ∧ p_by f d = nI y ∧ (y = 0 ∨ x + 2 * y ≤ 198) := by
  obtain ⟨-, -, hw, -, -⟩ := h
  obtain ⟨h1, h2, h3, h4, -⟩ := hw d hd
  obtain ⟨x, hx, ex⟩ := t2n (m := 200) h1 (by omega)
  obtain ⟨w, hw, ew⟩ := t2n (m := 40) h3 (by omega)
  obtain ⟨s, hs, es⟩ := t2n (m := 99) h4 (by omega)
  refine ⟨x, if x < s then min w (s - x) else 0, hx, ex, ?_, ?_, ?_⟩
  · split <;> omega
  · unfold p_by
    rw [ew, es, ex]
    by_cases q : x < s
    · rw [if_pos q, pk_sub (by omega), mx_p (by rw [nI_toInt (by omega)]; omega), mn_nI (by omega) (by omega)]
    · rw [if_neg q]
      have e : sx_mx 0 (nI s - nI x) = nI 0 := by
        by_cases q2 : s = x
        · rw [q2, pk_sub (Nat.le_refl x), Nat.sub_self, mx_p (by rw [nI_toInt (by omega)]; omega)]
        · rw [mx_0 (by rw [pk_sub_toInt (by omega) (by omega)]; omega), nI_0]
      rw [e, mn_nI (by omega) (by omega), Nat.min_zero]
  · split <;> omega
set_option maxRecDepth 100000 in
set_option maxHeartbeats 4000000 in
theorem WC_take {c d : Nat} {f : Nat → Int32} (h : WC c f) (hd : d < c) : WC c (p_take f d) := by
  have hd6 : d < 6 := by have := h.1; omega
  obtain ⟨x, y, hx, ex, hy, ey, hxy⟩ := by_n h hd6
  obtain ⟨hc, h58, hw, h59, hz⟩ := h
  obtain ⟨z, hz2, ez⟩ := t2n (m := 20) h59 (by omega)
  have hm : y * z ≤ 20 * y := by rw [Nat.mul_comm 20 y]; exact Nat.mul_le_mul_left y hz2
  have hv : f d + (p_by f d + p_by f d * f 59 / nI 20) = nI (x + (y + y * z / 20)) := by
    rw [ex, ey, ez, q_mul, pk_div (by omega) (by omega) (by omega), q_add, q_add]
  have hv2 : x + (y + y * z / 20) ≤ 200 := by omega
  have g : ∀ j, j ≠ d → j ≠ 42 + d → j ≠ 55 → p_take f d j = f j := fun j h1 h2 h3 => by
    unfold p_take; rw [q_upd_n h3, q_upd_n h2, q_upd_n h1]
  have gd : p_take f d d = nI (x + (y + y * z / 20)) := by
    unfold p_take; rw [q_upd_n (by omega), q_upd_n (by omega), q_upd_s, hv]
  refine ⟨hc, by rw [g 58 (by omega) (by omega) (by omega)]; exact h58, fun e he => ?_, by rw [g 59 (by omega) (by omega) (by omega)]; exact h59, fun j hj => by rw [g j (by omega) (by omega) (by omega)]; exact hz j hj⟩
  obtain ⟨k1, k2, k3, k4, k5, k6, k7, k8⟩ := hw e he
  unfold WD
  rw [g (6 + e) (by omega) (by omega) (by omega), g (12 + e) (by omega) (by omega) (by omega), g (18 + e) (by omega) (by omega) (by omega), g (24 + e) (by omega) (by omega) (by omega), g (30 + e) (by omega) (by omega) (by omega), g (48 + e) (by omega) (by omega) (by omega)]
  by_cases q : e = d
  · subst q
    exact ⟨by rw [gd]; exact n2t (m := 200) rfl hv2 (by omega), k2, k3, k4, k5, k6, k7, fun z => absurd z (by omega)⟩
  · rw [g e q (by omega) (by omega)]
    exact ⟨k1, k2, k3, k4, k5, k6, k7, k8⟩
set_option maxRecDepth 100000 in
set_option maxHeartbeats 4000000 in
theorem take_sc {d : Nat} (f : Nat → Int32) (hd : d < 6) {j : Nat} (h1 : 54 ≤ j) (h2 : j ≠ 55) : p_take f d j = f j := by
  unfold p_take; rw [q_upd_n h2, q_upd_n (by omega), q_upd_n (by omega)]
set_option maxRecDepth 100000 in
set_option maxHeartbeats 4000000 in
theorem take_55 {c d : Nat} {f : Nat → Int32} (h : WC c f) (hd : d < 6) : ∃ y, y ≤ 40 ∧ p_take f d 55 = f 55 + nI y := by
  obtain ⟨x, y, hx, ex, hy, ey, hxy⟩ := by_n h hd
  exact ⟨y, hy, by unfold p_take; rw [q_upd_s, ey]⟩
set_option maxRecDepth 100000 in
set_option maxHeartbeats 4000000 in
theorem cmb_c {c d : Nat} {f : Nat → Int32} (h : WC c f) (hd : d < 6) (q : cmb f d = true) : d < c := by
  unfold cmb at q
  have q := (of_decide_eq_true q).1
  rw [h.2.1, nI_toInt (by have := h.1; omega)] at q
  omega
set_option maxRecDepth 100000 in
set_option maxHeartbeats 4000000 in
theorem takes_all {c : Nat} {f : Nat → Int32} (h : WC c f) : ∀ k, k ≤ 6 → WC c (p_takes f k) ∧ (∀ j, 54 ≤ j → j ≠ 55 → p_takes f k j = f j) ∧ ∃ y, y ≤ 40 * k ∧ p_takes f k 55 = f 55 + nI y := by
  intro k
  induction k with
  | zero => intro _; exact ⟨h, fun _ _ _ => rfl, 0, by omega, by rw [nI_0, q_add0]; rfl⟩
  | succ k ih =>
    intro hk
    obtain ⟨a, b, y, hy, ey⟩ := ih (by omega)
    by_cases q : cmb (p_takes f k) k = true
    · have e : p_takes f (k + 1) = p_take (p_takes f k) k := by rw [p_takes, if_pos q]
      obtain ⟨y2, hy2, ey2⟩ := take_55 (d := k) a (by omega)
      rw [e]
      exact ⟨WC_take a (cmb_c a (by omega) q), fun j h1 h2 => by rw [take_sc _ (by omega) h1 h2]; exact b j h1 h2, y + y2, by omega, by rw [ey2, ey, Int32.add_assoc, q_add]⟩
    · have e : p_takes f (k + 1) = p_takes f k := by rw [p_takes, if_neg q]
      rw [e]
      exact ⟨a, b, y, by omega, ey⟩
set_option maxRecDepth 100000 in
set_option maxHeartbeats 4000000 in
theorem pb_n {c d : Nat} {f : Nat → Int32} (h : WC c f) (hd : d < 6) : ∃ x y, x ≤ 200 ∧ f d = nI x ∧ y ≤ 60 ∧ y ≤ x ∧ p_pb f d = nI y := by
  obtain ⟨-, -, hw, -, -⟩ := h
  obtain ⟨h1, h2, h3, h4, -⟩ := hw d hd
  obtain ⟨x, hx, ex⟩ := t2n (m := 200) h1 (by omega)
  obtain ⟨w, hw, ew⟩ := t2n (m := 60) h2 (by omega)
  have h_due : ∃ u, u ≤ x ∧ p_due f d = nI u := by
    unfold p_due
    split
    · exact ⟨x / 2, by omega, by rw [ex, pk_div (by omega) (by omega) (by omega)]⟩
    · exact ⟨x, Nat.le_refl x, ex⟩
  have h_sp : ∃ v, v ≤ 60 ∧ p_sp f (f (48 + d)) (f (6 + d)) = nI v := by
    unfold p_sp
    rw [ew]
    split
    · split
      · exact ⟨w, hw, rfl⟩
      · exact ⟨0, by omega, nI_0.symm⟩
    · split
      · exact ⟨w / 2, by omega, by rw [pk_div (by omega) (by omega) (by omega)]⟩
      · exact ⟨w, hw, rfl⟩
  obtain ⟨u, hu, eu⟩ := h_due
  obtain ⟨v, hv, ev⟩ := h_sp
  exact ⟨x, min v u, hx, ex, by omega, by omega, by unfold p_pb; rw [eu, ev, mn_nI (by omega) (by omega)]⟩
set_option maxRecDepth 100000 in
set_option maxHeartbeats 4000000 in
theorem WC_pay {c d : Nat} {f : Nat → Int32} (h : WC c f) (hd : d < c) : WC c (p_pay f d) := by
  have hd6 : d < 6 := by have := h.1; omega
  obtain ⟨x, y, hx, ex, hy, hyx, ey⟩ := pb_n h hd6
  obtain ⟨hc, h58, hw, h59, hz⟩ := h
  have g : ∀ j, j ≠ d → j ≠ 36 + d → j ≠ 54 → p_pay f d j = f j := fun j h1 h2 h3 => by
    unfold p_pay; rw [q_upd_n h3, q_upd_n h2, q_upd_n h1]
  have gd : p_pay f d d = nI (x - y) := by
    unfold p_pay; rw [q_upd_n (by omega), q_upd_n (by omega), q_upd_s, ex, ey, pk_sub hyx]
  refine ⟨hc, by rw [g 58 (by omega) (by omega) (by omega)]; exact h58, fun e he => ?_, by rw [g 59 (by omega) (by omega) (by omega)]; exact h59, fun j hj => by rw [g j (by omega) (by omega) (by omega)]; exact hz j hj⟩
  obtain ⟨k1, k2, k3, k4, k5, k6, k7, k8⟩ := hw e he
  unfold WD
  rw [g (6 + e) (by omega) (by omega) (by omega), g (12 + e) (by omega) (by omega) (by omega), g (18 + e) (by omega) (by omega) (by omega), g (24 + e) (by omega) (by omega) (by omega), g (30 + e) (by omega) (by omega) (by omega), g (48 + e) (by omega) (by omega) (by omega)]
  by_cases q : e = d
  · subst q
    exact ⟨by rw [gd]; exact n2t (m := 200) rfl (by omega) (by omega), k2, k3, k4, k5, k6, k7, fun z => absurd z (by omega)⟩
  · rw [g e q (by omega) (by omega)]
    exact ⟨k1, k2, k3, k4, k5, k6, k7, k8⟩
set_option maxRecDepth 100000 in
set_option maxHeartbeats 4000000 in
theorem WC_off {c d : Nat} {f : Nat → Int32} (h : WC c f) (hd : d < c) : WC c (upd f (24 + d) 1) := by
  obtain ⟨hc, h58, hw, h59, hz⟩ := h
  have g : ∀ j, j ≠ 24 + d → upd f (24 + d) 1 j = f j := fun j h1 => q_upd_n h1
  refine ⟨hc, by rw [g 58 (by omega)]; exact h58, fun e he => ?_, by rw [g 59 (by omega)]; exact h59, fun j hj => by rw [g j (by omega)]; exact hz j hj⟩
  obtain ⟨k1, k2, k3, k4, k5, k6, k7, k8⟩ := hw e he
  unfold WD
  rw [g e (by omega), g (6 + e) (by omega), g (12 + e) (by omega), g (18 + e) (by omega), g (30 + e) (by omega), g (48 + e) (by omega)]
  by_cases q : e = d
  · subst q
    exact ⟨k1, k2, k3, k4, Or.inr (q_upd_s _ _ _), k6, k7, fun z => absurd z (by omega)⟩
  · rw [g (24 + e) (by omega)]
    exact ⟨k1, k2, k3, k4, k5, k6, k7, k8⟩
set_option maxRecDepth 100000 in
set_option maxHeartbeats 4000000 in
theorem pays_all {c : Nat} {f : Nat → Int32} (h : WC c f) : ∀ k, k ≤ 6 → WC c (p_pays f k).1 ∧ (∀ j, 55 ≤ j → (p_pays f k).1 j = f j) ∧ ∃ y, y ≤ 60 * k ∧ (p_pays f k).1 54 = f 54 + nI y ∧ (p_pays f k).2 = nI y := by
  intro k
  induction k with
  | zero => intro _; exact ⟨h, fun _ _ => rfl, 0, by omega, by rw [nI_0, q_add0]; rfl, nI_0.symm⟩
  | succ k ih =>
    intro hk
    obtain ⟨a, b, y, hy, ey, ey2⟩ := ih (by omega)
    by_cases q : cmb (p_pays f k).1 k = true
    · have hkc := cmb_c a (by omega) q
      by_cases q2 : p_off (p_pays f k).1 k = true
      · have e : p_pays f (k + 1) = (upd (p_pays f k).1 (24 + k) 1, (p_pays f k).2) := by rw [p_pays, if_pos q, if_pos q2]
        rw [e]
        exact ⟨WC_off a hkc, fun j h1 => by dsimp only; rw [q_upd_n (by omega)]; exact b j h1, y, by omega, by dsimp only; rw [q_upd_n (by omega)]; exact ey, ey2⟩
      · have e : p_pays f (k + 1) = (p_pay (p_pays f k).1 k, (p_pays f k).2 + p_pb (p_pays f k).1 k) := by rw [p_pays, if_pos q, if_neg q2]
        obtain ⟨x, y3, hx, ex, hy3, hyx, ey3⟩ := pb_n (d := k) a (by omega)
        rw [e]
        refine ⟨WC_pay a hkc, fun j h1 => ?_, y + y3, by omega, ?_, ?_⟩
        · dsimp only; unfold p_pay; rw [q_upd_n (by omega), q_upd_n (by omega), q_upd_n (by omega)]; exact b j h1
        · dsimp only; unfold p_pay; rw [q_upd_s, ey, ey3, Int32.add_assoc, q_add]
        · dsimp only; rw [ey2, ey3, q_add]
    · have e : p_pays f (k + 1) = p_pays f k := by rw [p_pays, if_neg q]
      rw [e]
      exact ⟨a, b, y, by omega, ey, ey2⟩
set_option maxRecDepth 100000 in
set_option maxHeartbeats 4000000 in
theorem i_bmod {z : Int} (h1 : -2147483648 ≤ z) (h2 : z < 2147483648) : z.bmod (2 ^ 32) = z := Int.bmod_eq_of_le (by omega) (by omega)
set_option maxRecDepth 100000 in
set_option maxHeartbeats 4000000 in
theorem i_add {x y : Int32} (h1 : -2147483648 ≤ x.toInt + y.toInt) (h2 : x.toInt + y.toInt < 2147483648) : (x + y).toInt = x.toInt + y.toInt := by rw [Int32.toInt_add]; exact i_bmod h1 h2
set_option maxRecDepth 100000 in
set_option maxHeartbeats 4000000 in
theorem i_sub {x y : Int32} (h1 : -2147483648 ≤ x.toInt - y.toInt) (h2 : x.toInt - y.toInt < 2147483648) : (x - y).toInt = x.toInt - y.toInt := by rw [Int32.toInt_sub]; exact i_bmod h1 h2
def WE (c w : Nat) (f : Nat → Int32) : Prop := f 61 = nI w ∧ (0 ≤ (f 55).toInt ∧ (f 55).toInt ≤ 240 * w) ∧ (f 54).toInt ≤ 99 + 360 * w ∧ -(240 * w : Int) ≤ (f 54).toInt - (f 55).toInt ∧ (0 ≤ (f 56).toInt ∧ (f 56).toInt ≤ 20) ∧ (f 57 = 0 ∨ f 57 = 1) ∧ (f 57 = 0 → 0 ≤ (f 54).toInt) ∧ (0 < c → 1 ≤ (f 60).toInt ∧ (f 60).toInt ≤ 8)
set_option maxRecDepth 100000 in
set_option maxHeartbeats 4000000 in
theorem WB_iff {W : Nat} {f : Nat → Int32} : WB W f ↔ ∃ c w, w ≤ W ∧ WC c f ∧ WE c w f := by
  constructor
  · rintro ⟨hz, c, w, hc, hw, h58, h61, hd, h55, h54, h5, h56, h57, hs, h59, h60⟩
    exact ⟨c, w, hw, ⟨hc, h58, hd, h59, hz⟩, h61, h55, h54, h5, h56, h57, hs, h60⟩
  · rintro ⟨c, w, hw, ⟨hc, h58, hd, h59, hz⟩, h61, h55, h54, h5, h56, h57, hs, h60⟩
    exact ⟨hz, c, w, hc, hw, h58, h61, hd, h55, h54, h5, h56, h57, hs, h59, h60⟩
set_option maxRecDepth 100000 in
set_option maxHeartbeats 4000000 in
theorem w1_all {c : Nat} {f : Nat → Int32} (h : WC c f) : WC c (p_w1 f) ∧ (∀ j, 54 ≤ j → j ≠ 55 → p_w1 f j = f j) ∧ ∃ y, y ≤ 240 ∧ p_w1 f 55 = f 55 + nI y := by
  unfold p_w1
  split
  · exact takes_all h 6 (by omega)
  · exact ⟨h, fun _ _ _ => rfl, 0, by omega, by rw [nI_0, q_add0]⟩
set_option maxRecDepth 100000 in
set_option maxHeartbeats 4000000 in
theorem WC_sc {c : Nat} {f : Nat → Int32} (h : WC c f) {k : Nat} (v : Int32) (h1 : 54 ≤ k) (h2 : k < 62) (h3 : k ≠ 58) (h4 : k ≠ 59) : WC c (upd f k v) := by
  obtain ⟨hc, h58, hw, h59, hz⟩ := h
  refine ⟨hc, by rw [q_upd_n (by omega)]; exact h58, fun e he => ?_, by rw [q_upd_n (by omega)]; exact h59, fun j hj => by rw [q_upd_n (by omega)]; exact hz j hj⟩
  unfold WD
  rw [q_upd_n (by omega), q_upd_n (by omega), q_upd_n (by omega), q_upd_n (by omega), q_upd_n (by omega), q_upd_n (by omega), q_upd_n (by omega)]
  exact hw e he
set_option maxRecDepth 100000 in
set_option maxHeartbeats 4000000 in
theorem w2_all {c : Nat} {f : Nat → Int32} (h : WC c f) (hs : 0 ≤ (f 56).toInt ∧ (f 56).toInt ≤ 20) : WC c (p_w2 f).1 ∧ (∀ j, 55 ≤ j → j ≠ 56 → (p_w2 f).1 j = f j) ∧ (0 ≤ ((p_w2 f).1 56).toInt ∧ ((p_w2 f).1 56).toInt ≤ 20) ∧ ∃ y, y ≤ 360 ∧ (p_w2 f).1 54 = f 54 + nI y ∧ (p_w2 f).2 = nI y := by
  unfold p_w2
  split
  · obtain ⟨a, b, y, hy, e1, e2⟩ := pays_all h 6 (by omega)
    exact ⟨a, fun j h1 _ => b j h1, by rw [b 56 (by omega)]; exact hs, y, hy, e1, e2⟩
  · rename_i h0
    refine ⟨WC_sc h _ (by omega) (by omega) (by omega) (by omega), fun j h1 h2 => q_upd_n h2, ?_, 0, by omega, by rw [nI_0, q_add0]; exact (q_upd_n (by decide) : upd f 56 (f 56 - 1) 54 = f 54), nI_0.symm⟩
    show 0 ≤ (upd f 56 (f 56 - 1) 56).toInt ∧ _
    rw [q_upd_s]
    have := i_sub (x := f 56) (y := 1) (by rw [q_ti1]; omega) (by rw [q_ti1]; omega)
    rw [q_ti1] at this
    show 0 ≤ (f 56 - 1).toInt ∧ (upd f 56 (f 56 - 1) 56).toInt ≤ 20
    rw [q_upd_s]; omega
/-! a week: what is there ahead of the wholesaler -/
set_option maxRecDepth 100000 in
set_option maxHeartbeats 4000000 in
theorem w3_all {c w : Nat} {f : Nat → Int32} (h : WC c f) (he : WE c w f) (hw : w ≤ 3000) : WC c (upd (p_w2 (p_w1 f)).1 61 ((p_w2 (p_w1 f)).1 61 + 1)) ∧ upd (p_w2 (p_w1 f)).1 61 ((p_w2 (p_w1 f)).1 61 + 1) 61 = nI (w + 1) ∧ (∀ j, 57 ≤ j → j ≠ 61 → upd (p_w2 (p_w1 f)).1 61 ((p_w2 (p_w1 f)).1 61 + 1) j = f j) ∧ (0 ≤ (upd (p_w2 (p_w1 f)).1 61 ((p_w2 (p_w1 f)).1 61 + 1) 56).toInt ∧ (upd (p_w2 (p_w1 f)).1 61 ((p_w2 (p_w1 f)).1 61 + 1) 56).toInt ≤ 20) ∧
    ∃ y z : Nat, y ≤ 240 ∧ z ≤ 360 ∧ (upd (p_w2 (p_w1 f)).1 61 ((p_w2 (p_w1 f)).1 61 + 1) 55).toInt = (f 55).toInt + (y : Int) ∧ (upd (p_w2 (p_w1 f)).1 61 ((p_w2 (p_w1 f)).1 61 + 1) 54).toInt = (f 54).toInt + (z : Int) := by
  obtain ⟨a1, b1, y, hy, ey⟩ := w1_all h
  obtain ⟨h61, h55, h54, h5, h56, h57, hs, h60⟩ := he
  have s1 : p_w1 f 56 = f 56 := b1 56 (by omega) (by omega)
  obtain ⟨a2, b2, c2, z, hz, ez, ez2⟩ := w2_all a1 (by rw [s1]; exact h56)
  have e61 : (p_w2 (p_w1 f)).1 61 = nI w := by rw [b2 61 (by omega) (by omega), b1 61 (by omega) (by omega), h61]
  refine ⟨WC_sc a2 _ (by omega) (by omega) (by omega) (by omega), by rw [q_upd_s, e61, q_add1], fun j h1 h2 => by rw [q_upd_n h2, b2 j (by omega) (by omega), b1 j (by omega) (by omega)], by rw [q_upd_n (by decide)]; exact c2, y, z, hy, hz, ?_, ?_⟩
  · rw [q_upd_n (by decide), b2 55 (by omega) (by omega), ey, i_add (by rw [nI_toInt (by omega)]; omega) (by rw [nI_toInt (by omega)]; omega), nI_toInt (by omega)]
  · rw [q_upd_n (by decide), ez, b1 54 (by omega) (by omega), i_add (by rw [nI_toInt (by omega)]; omega) (by rw [nI_toInt (by omega)]; omega), nI_toInt (by omega)]
set_option maxRecDepth 100000 in
set_option maxHeartbeats 4000000 in
theorem WB_wk {W : Nat} {f : Nat → Int32} (h : WB W f) (hW : W ≤ 3000) : WB (W + 1) (p_wk f).1 := by
  obtain ⟨c, w, hw, hc, he⟩ := WB_iff.mp h
  obtain ⟨a, e61, b, d, y, z, hy, hz, e55, e54⟩ := w3_all hc he (by omega)
  obtain ⟨h61, h55, h54, h5, h56, h57, hs, h60⟩ := he
  show WB (W + 1) (p_w4 (p_w3 (upd (p_w2 (p_w1 f)).1 61 ((p_w2 (p_w1 f)).1 61 + 1))))
  generalize upd (p_w2 (p_w1 f)).1 61 ((p_w2 (p_w1 f)).1 61 + 1) = g at a e61 b d e55 e54 ⊢
  have e57 : g 57 = f 57 := b 57 (by omega) (by omega)
  have e60 : g 60 = f 60 := b 60 (by omega) (by omega)
  -- behind the wholesaler
  have k : WC c (p_w3 g) ∧ p_w3 g 61 = nI (w + 1) ∧ (0 ≤ (p_w3 g 55).toInt ∧ (p_w3 g 55).toInt ≤ 240 * ((w + 1 : Nat) : Int)) ∧ (p_w3 g 54).toInt ≤ 99 + 360 * ((w + 1 : Nat) : Int) ∧ -(240 * ((w + 1 : Nat) : Int)) ≤ (p_w3 g 54).toInt - (p_w3 g 55).toInt ∧ p_w3 g 56 = g 56 ∧ p_w3 g 57 = g 57 ∧ p_w3 g 60 = g 60 := by
    unfold p_w3
    split
    · refine ⟨WC_sc (WC_sc a _ (by omega) (by omega) (by omega) (by omega)) _ (by omega) (by omega) (by omega) (by omega), by rw [q_upd_n (by decide), q_upd_n (by decide), e61], ?_, ?_, ?_, by rw [q_upd_n (by decide), q_upd_n (by decide)], by rw [q_upd_n (by decide), q_upd_n (by decide)], by rw [q_upd_n (by decide), q_upd_n (by decide)]⟩
      · rw [q_upd_s, q_ti0]; omega
      · rw [q_upd_n (by decide), q_upd_s, i_sub (by omega) (by omega)]; omega
      · rw [q_upd_s, q_upd_n (by decide), q_upd_s, i_sub (by omega) (by omega), q_ti0]; omega
    · exact ⟨a, e61, by omega, by omega, by omega, rfl, rfl, rfl⟩
  obtain ⟨k1, k2, k3, k4, k5, k6, k7, k8⟩ := k
  refine WB_iff.mpr ⟨c, w + 1, by omega, ?_⟩
  unfold p_w4
  split
  · rename_i h0
    exact ⟨k1, k2, k3, k4, k5, by rw [k6]; exact d, by rw [k7, e57]; exact h57, fun _ => h0, by rw [k8, e60]; exact h60⟩
  · rename_i h0
    have u : ∀ j, j ≠ 57 → upd (p_w3 g) 57 1 j = p_w3 g j := fun j hj => q_upd_n hj
    refine ⟨WC_sc k1 _ (by omega) (by omega) (by omega) (by omega), ?_⟩
    unfold WE
    rw [u 61 (by decide), u 55 (by decide), u 54 (by decide), u 56 (by decide), u 60 (by decide), q_upd_s]
    exact ⟨k2, k3, k4, k5, by rw [k6]; exact d, Or.inr rfl, fun q => absurd q (by decide +kernel), by rw [k8, e60]; exact h60⟩
