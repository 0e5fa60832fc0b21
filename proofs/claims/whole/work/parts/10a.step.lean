/-! each instruction, applied -/
set_option maxRecDepth 100000 in
set_option maxHeartbeats 4000000 in
theorem e_const (v : Int32) (C : sx_C) (F : sx_K) (J : Nat → sx_K) (Rt : sx_R) (ls : sx_L) (st : List sx_V) (n : Nat) (h : sx_H) (kc ks : Nat) : si_const v C F J Rt ls st n h kc ks = F ls (sx_i v :: st) n h kc ks := rfl
set_option maxRecDepth 100000 in
set_option maxHeartbeats 4000000 in
theorem e_lconst (v : Int64) (C : sx_C) (F : sx_K) (J : Nat → sx_K) (Rt : sx_R) (ls : sx_L) (st : List sx_V) (n : Nat) (h : sx_H) (kc ks : Nat) : si_lconst v C F J Rt ls st n h kc ks = F ls (sx_l v :: st) n h kc ks := rfl
set_option maxRecDepth 100000 in
set_option maxHeartbeats 4000000 in
theorem e_il (k : Nat) (C : sx_C) (F : sx_K) (J : Nat → sx_K) (Rt : sx_R) (ls : sx_L) (st : List sx_V) (n : Nat) (h : sx_H) (kc ks : Nat) : si_il k C F J Rt ls st n h kc ks = (match ls[k]? with | some (some (.inl x)) => F ls (sx_i x :: st) n h kc ks | _ => False) := rfl
set_option maxRecDepth 100000 in
set_option maxHeartbeats 4000000 in
theorem e_ll (k : Nat) (C : sx_C) (F : sx_K) (J : Nat → sx_K) (Rt : sx_R) (ls : sx_L) (st : List sx_V) (n : Nat) (h : sx_H) (kc ks : Nat) : si_ll k C F J Rt ls st n h kc ks = (match ls[k]? with | some (some (.inr (.inl x))) => F ls (sx_l x :: st) n h kc ks | _ => False) := rfl
set_option maxRecDepth 100000 in
set_option maxHeartbeats 4000000 in
theorem e_al (k : Nat) (C : sx_C) (F : sx_K) (J : Nat → sx_K) (Rt : sx_R) (ls : sx_L) (st : List sx_V) (n : Nat) (h : sx_H) (kc ks : Nat) : si_al k C F J Rt ls st n h kc ks = (match ls[k]? with | some (some (.inr (.inr (some x)))) => F ls (sx_r (some x) :: st) n h kc ks | _ => False) := rfl
set_option maxRecDepth 100000 in
set_option maxHeartbeats 4000000 in
theorem e_is (k : Nat) (x : Int32) (C : sx_C) (F : sx_K) (J : Nat → sx_K) (Rt : sx_R) (ls : sx_L) (st : List sx_V) (n : Nat) (h : sx_H) (kc ks : Nat) : si_is k C F J Rt ls (.inl x :: st) n h kc ks = F (sx_set ls k (sx_i x)) st n h kc ks := rfl
set_option maxRecDepth 100000 in
set_option maxHeartbeats 4000000 in
theorem e_as (k x : Nat) (C : sx_C) (F : sx_K) (J : Nat → sx_K) (Rt : sx_R) (ls : sx_L) (st : List sx_V) (n : Nat) (h : sx_H) (kc ks : Nat) : si_as k C F J Rt ls (.inr (.inr (some x)) :: st) n h kc ks = F (sx_set ls k (sx_r (some x))) st n h kc ks := rfl
set_option maxRecDepth 100000 in
set_option maxHeartbeats 4000000 in
theorem e_ls (k : Nat) (x : Int64) (C : sx_C) (F : sx_K) (J : Nat → sx_K) (Rt : sx_R) (ls : sx_L) (st : List sx_V) (n : Nat) (h : sx_H) (kc ks : Nat) : si_ls k C F J Rt ls (.inr (.inl x) :: st) n h kc ks = F (sx_setl ls k (sx_l x)) st n h kc ks := rfl
set_option maxRecDepth 100000 in
set_option maxHeartbeats 4000000 in
theorem e_inc (k : Nat) (d : Int32) (C : sx_C) (F : sx_K) (J : Nat → sx_K) (Rt : sx_R) (ls : sx_L) (st : List sx_V) (n : Nat) (h : sx_H) (kc ks : Nat) : si_inc k d C F J Rt ls st n h kc ks = (match ls[k]? with | some (some (.inl x)) => F (sx_set ls k (sx_i (x + d))) st n h kc ks | _ => False) := rfl
set_option maxRecDepth 100000 in
set_option maxHeartbeats 4000000 in
theorem e_bin (f : Int32 → Int32 → Int32) (x y : Int32) (C : sx_C) (F : sx_K) (J : Nat → sx_K) (Rt : sx_R) (ls : sx_L) (st : List sx_V) (n : Nat) (h : sx_H) (kc ks : Nat) : si_bin f C F J Rt ls (.inl y :: .inl x :: st) n h kc ks = F ls (sx_i (f x y) :: st) n h kc ks := rfl
set_option maxRecDepth 100000 in
set_option maxHeartbeats 4000000 in
theorem e_div (f : Int32 → Int32 → Int32) (x y : Int32) (C : sx_C) (F : sx_K) (J : Nat → sx_K) (Rt : sx_R) (ls : sx_L) (st : List sx_V) (n : Nat) (h : sx_H) (kc ks : Nat) : si_div f C F J Rt ls (.inl y :: .inl x :: st) n h kc ks = (¬ y = 0 ∧ F ls (sx_i (f x y) :: st) n h kc ks) := rfl
set_option maxRecDepth 100000 in
set_option maxHeartbeats 4000000 in
theorem e_un (f : Int32 → Int32) (x : Int32) (C : sx_C) (F : sx_K) (J : Nat → sx_K) (Rt : sx_R) (ls : sx_L) (st : List sx_V) (n : Nat) (h : sx_H) (kc ks : Nat) : si_un f C F J Rt ls (.inl x :: st) n h kc ks = F ls (sx_i (f x) :: st) n h kc ks := rfl
set_option maxRecDepth 100000 in
set_option maxHeartbeats 4000000 in
theorem e_lbin (f : Int64 → Int64 → Int64) (x y : Int64) (C : sx_C) (F : sx_K) (J : Nat → sx_K) (Rt : sx_R) (ls : sx_L) (st : List sx_V) (n : Nat) (h : sx_H) (kc ks : Nat) : si_lbin f C F J Rt ls (.inr (.inl y) :: .inr (.inl x) :: st) n h kc ks = F ls (sx_l (f x y) :: st) n h kc ks := rfl
set_option maxRecDepth 100000 in
set_option maxHeartbeats 4000000 in
theorem e_ldiv (f : Int64 → Int64 → Int64) (x y : Int64) (C : sx_C) (F : sx_K) (J : Nat → sx_K) (Rt : sx_R) (ls : sx_L) (st : List sx_V) (n : Nat) (h : sx_H) (kc ks : Nat) : si_ldiv f C F J Rt ls (.inr (.inl y) :: .inr (.inl x) :: st) n h kc ks = (¬ y = 0 ∧ F ls (sx_l (f x y) :: st) n h kc ks) := rfl
set_option maxRecDepth 100000 in
set_option maxHeartbeats 4000000 in
theorem e_lcmp (x y : Int64) (C : sx_C) (F : sx_K) (J : Nat → sx_K) (Rt : sx_R) (ls : sx_L) (st : List sx_V) (n : Nat) (h : sx_H) (kc ks : Nat) : si_lcmp C F J Rt ls (.inr (.inl y) :: .inr (.inl x) :: st) n h kc ks = F ls (sx_i (lg_cmp x y) :: st) n h kc ks := rfl
set_option maxRecDepth 100000 in
set_option maxHeartbeats 4000000 in
theorem e_i2l (x : Int32) (C : sx_C) (F : sx_K) (J : Nat → sx_K) (Rt : sx_R) (ls : sx_L) (st : List sx_V) (n : Nat) (h : sx_H) (kc ks : Nat) : si_i2l C F J Rt ls (.inl x :: st) n h kc ks = F ls (sx_l x.toInt64 :: st) n h kc ks := rfl
set_option maxRecDepth 100000 in
set_option maxHeartbeats 4000000 in
theorem e_l2i (x : Int64) (C : sx_C) (F : sx_K) (J : Nat → sx_K) (Rt : sx_R) (ls : sx_L) (st : List sx_V) (n : Nat) (h : sx_H) (kc ks : Nat) : si_l2i C F J Rt ls (.inr (.inl x) :: st) n h kc ks = F ls (sx_i x.toInt32 :: st) n h kc ks := rfl
set_option maxRecDepth 100000 in
set_option maxHeartbeats 4000000 in
theorem e_if1 (p : Int32 → Prop) (t : Nat) (m : List Bool) (x : Int32) (C : sx_C) (F : sx_K) (J : Nat → sx_K) (Rt : sx_R) (ls : sx_L) (st : List sx_V) (n : Nat) (h : sx_H) (kc ks : Nat) : si_if1 p t m C F J Rt ls (.inl x :: st) n h kc ks = ((p x → J t (sx_m m ls) st n h kc ks) ∧ (¬ p x → F ls st n h kc ks)) := rfl
set_option maxRecDepth 100000 in
set_option maxHeartbeats 4000000 in
theorem e_if2 (p : Int32 → Int32 → Prop) (t : Nat) (m : List Bool) (x y : Int32) (C : sx_C) (F : sx_K) (J : Nat → sx_K) (Rt : sx_R) (ls : sx_L) (st : List sx_V) (n : Nat) (h : sx_H) (kc ks : Nat) : si_if2 p t m C F J Rt ls (.inl y :: .inl x :: st) n h kc ks = ((p x y → J t (sx_m m ls) st n h kc ks) ∧ (¬ p x y → F ls st n h kc ks)) := rfl
set_option maxRecDepth 100000 in
set_option maxHeartbeats 4000000 in
theorem e_go (t : Nat) (m : List Bool) (C : sx_C) (F : sx_K) (J : Nat → sx_K) (Rt : sx_R) (ls : sx_L) (st : List sx_V) (n : Nat) (h : sx_H) (kc ks : Nat) : si_go t m C F J Rt ls st n h kc ks = J t (sx_m m ls) st n h kc ks := rfl
set_option maxRecDepth 100000 in
set_option maxHeartbeats 4000000 in
theorem e_sw (cs : List (Int32 × Nat × List Bool)) (d : Nat) (m : List Bool) (x : Int32) (C : sx_C) (F : sx_K) (J : Nat → sx_K) (Rt : sx_R) (ls : sx_L) (st : List sx_V) (n : Nat) (h : sx_H) (kc ks : Nat) : si_sw cs d m C F J Rt ls (.inl x :: st) n h kc ks = sx_sw x (J d (sx_m m ls) st n h kc ks) (cs.map (fun q => (q.1, J q.2.1 (sx_m q.2.2 ls) st n h kc ks))) := rfl
set_option maxRecDepth 100000 in
set_option maxHeartbeats 4000000 in
theorem e_dupi (x : Int32) (C : sx_C) (F : sx_K) (J : Nat → sx_K) (Rt : sx_R) (ls : sx_L) (st : List sx_V) (n : Nat) (h : sx_H) (kc ks : Nat) : si_dup C F J Rt ls (.inl x :: st) n h kc ks = F ls (sx_i x :: sx_i x :: st) n h kc ks := rfl
set_option maxRecDepth 100000 in
set_option maxHeartbeats 4000000 in
theorem e_dupr (x : Option Nat) (C : sx_C) (F : sx_K) (J : Nat → sx_K) (Rt : sx_R) (ls : sx_L) (st : List sx_V) (n : Nat) (h : sx_H) (kc ks : Nat) : si_dup C F J Rt ls (.inr (.inr x) :: st) n h kc ks = F ls (sx_r x :: sx_r x :: st) n h kc ks := rfl
set_option maxRecDepth 100000 in
set_option maxHeartbeats 4000000 in
theorem e_dup2 (y : Int32) (x : Option Nat) (C : sx_C) (F : sx_K) (J : Nat → sx_K) (Rt : sx_R) (ls : sx_L) (st : List sx_V) (n : Nat) (h : sx_H) (kc ks : Nat) : si_dup2 C F J Rt ls (.inl y :: .inr (.inr x) :: st) n h kc ks = F ls (sx_i y :: sx_r x :: sx_i y :: sx_r x :: st) n h kc ks := rfl
set_option maxRecDepth 100000 in
set_option maxHeartbeats 4000000 in
theorem e_popi (x : Int32) (C : sx_C) (F : sx_K) (J : Nat → sx_K) (Rt : sx_R) (ls : sx_L) (st : List sx_V) (n : Nat) (h : sx_H) (kc ks : Nat) : si_pop C F J Rt ls (.inl x :: st) n h kc ks = F ls st n h kc ks := rfl
set_option maxRecDepth 100000 in
set_option maxHeartbeats 4000000 in
theorem e_popr (x : Option Nat) (C : sx_C) (F : sx_K) (J : Nat → sx_K) (Rt : sx_R) (ls : sx_L) (st : List sx_V) (n : Nat) (h : sx_H) (kc ks : Nat) : si_pop C F J Rt ls (.inr (.inr x) :: st) n h kc ks = F ls st n h kc ks := rfl
set_option maxRecDepth 100000 in
set_option maxHeartbeats 4000000 in
theorem e_get (ci k a : Nat) (C : sx_C) (F : sx_K) (J : Nat → sx_K) (Rt : sx_R) (ls : sx_L) (st : List sx_V) (n : Nat) (h : sx_H) (kc ks : Nat) : si_get ci k C F J Rt ls (.inr (.inr (some a)) :: st) n h kc ks = (match h a with | .inr (c, fs) => c = ci ∧ a < n ∧ (match fs[k]? with | some v => F ls (v :: st) n h kc ks | none => False) | _ => False) := rfl
set_option maxRecDepth 100000 in
set_option maxHeartbeats 4000000 in
theorem e_put (ci k ty a : Nat) (v : sx_V) (C : sx_C) (F : sx_K) (J : Nat → sx_K) (Rt : sx_R) (ls : sx_L) (st : List sx_V) (n : Nat) (h : sx_H) (kc ks : Nat) : si_put ci k ty C F J Rt ls (v :: .inr (.inr (some a)) :: st) n h kc ks = (match h a with | .inr (c, fs) => c = ci ∧ a < n ∧ k < fs.length ∧ sx_ft ty v ∧ F ls st n (sx_up h a (.inr (c, fs.set k v))) kc ks | _ => False) := rfl
set_option maxRecDepth 100000 in
set_option maxHeartbeats 4000000 in
theorem e_iald (i : Int32) (a : Nat) (C : sx_C) (F : sx_K) (J : Nat → sx_K) (Rt : sx_R) (ls : sx_L) (st : List sx_V) (n : Nat) (h : sx_H) (kc ks : Nat) : si_iald C F J Rt ls (.inl i :: .inr (.inr (some a)) :: st) n h kc ks = (match h a with | .inl (0, len, .inl f) => a < n ∧ vp_in i len ∧ F ls (sx_i (f i.toNatClampNeg) :: st) n h kc ks | _ => False) := rfl
set_option maxRecDepth 100000 in
set_option maxHeartbeats 4000000 in
theorem e_iast (x i : Int32) (a : Nat) (C : sx_C) (F : sx_K) (J : Nat → sx_K) (Rt : sx_R) (ls : sx_L) (st : List sx_V) (n : Nat) (h : sx_H) (kc ks : Nat) : si_iast C F J Rt ls (.inl x :: .inl i :: .inr (.inr (some a)) :: st) n h kc ks = (match h a with | .inl (0, len, .inl f) => a < n ∧ vp_in i len ∧ F ls st n (sx_up h a (sx_ai len (upd f i.toNatClampNeg x))) kc ks | _ => False) := rfl
set_option maxRecDepth 100000 in
set_option maxHeartbeats 4000000 in
theorem e_zald (i : Int32) (a : Nat) (C : sx_C) (F : sx_K) (J : Nat → sx_K) (Rt : sx_R) (ls : sx_L) (st : List sx_V) (n : Nat) (h : sx_H) (kc ks : Nat) : si_zald C F J Rt ls (.inl i :: .inr (.inr (some a)) :: st) n h kc ks = (match h a with | .inl (1, len, .inl f) => a < n ∧ vp_in i len ∧ F ls (sx_i (f i.toNatClampNeg) :: st) n h kc ks | _ => False) := rfl
set_option maxRecDepth 100000 in
set_option maxHeartbeats 4000000 in
theorem e_zast (x i : Int32) (a : Nat) (C : sx_C) (F : sx_K) (J : Nat → sx_K) (Rt : sx_R) (ls : sx_L) (st : List sx_V) (n : Nat) (h : sx_H) (kc ks : Nat) : si_zast C F J Rt ls (.inl x :: .inl i :: .inr (.inr (some a)) :: st) n h kc ks = (match h a with | .inl (1, len, .inl f) => a < n ∧ vp_in i len ∧ x = 1 ∧ F ls st n (sx_up h a (sx_az len (upd f i.toNatClampNeg x))) kc ks | _ => False) := rfl
set_option maxRecDepth 100000 in
set_option maxHeartbeats 4000000 in
theorem e_aald (kd : Nat) (i : Int32) (a : Nat) (C : sx_C) (F : sx_K) (J : Nat → sx_K) (Rt : sx_R) (ls : sx_L) (st : List sx_V) (n : Nat) (h : sx_H) (kc ks : Nat) : si_aald kd C F J Rt ls (.inl i :: .inr (.inr (some a)) :: st) n h kc ks = (match h a with | .inl (k, len, .inr g) => k = kd ∧ a < n ∧ vp_in i len ∧ F ls (sx_r (g i.toNatClampNeg) :: st) n h kc ks | _ => False) := rfl
set_option maxRecDepth 100000 in
set_option maxHeartbeats 4000000 in
theorem e_aast (v : Nat) (i : Int32) (a : Nat) (C : sx_C) (F : sx_K) (J : Nat → sx_K) (Rt : sx_R) (ls : sx_L) (st : List sx_V) (n : Nat) (h : sx_H) (kc ks : Nat) : si_aast C F J Rt ls (.inr (.inr (some v)) :: .inl i :: .inr (.inr (some a)) :: st) n h kc ks = (match h a with | .inl (2, len, .inr g) => a < n ∧ v < n ∧ vp_in i len ∧ (∃ fs, h v = .inr (2, fs)) ∧ F ls st n (sx_up h a (sx_ar 2 len (va_up g i.toNatClampNeg (some v)))) kc ks | _ => False) := rfl
set_option maxRecDepth 100000 in
set_option maxHeartbeats 4000000 in
theorem e_sld (L : Nat) (xs : Nat → Int32) (i : Int32) (a : Nat) (C : sx_C) (F : sx_K) (J : Nat → sx_K) (Rt : sx_R) (ls : sx_L) (st : List sx_V) (n : Nat) (h : sx_H) (kc ks : Nat) : si_sld L xs C F J Rt ls (.inl i :: .inr (.inr (some a)) :: st) n h kc ks = (a = sx_sc ∧ vp_in i L ∧ F ls (sx_i (xs i.toNatClampNeg) :: st) n h kc ks) := rfl
set_option maxRecDepth 100000 in
set_option maxHeartbeats 4000000 in
theorem e_slen (L a : Nat) (C : sx_C) (F : sx_K) (J : Nat → sx_K) (Rt : sx_R) (ls : sx_L) (st : List sx_V) (n : Nat) (h : sx_H) (kc ks : Nat) : si_slen L C F J Rt ls (.inr (.inr (some a)) :: st) n h kc ks = (a = sx_sc ∧ F ls (sx_i (Int32.ofNat L) :: st) n h kc ks) := rfl
set_option maxRecDepth 100000 in
set_option maxHeartbeats 4000000 in
theorem e_newa (kd Rc Rs : Nat) (c : Int32) (C : sx_C) (F : sx_K) (J : Nat → sx_K) (Rt : sx_R) (ls : sx_L) (st : List sx_V) (n : Nat) (h : sx_H) (kc ks : Nat) : si_newa kd Rc Rs C F J Rt ls (.inl c :: st) n h kc ks = (¬ c < 0 ∧ c.toNatClampNeg ≤ 100000 ∧ kc + 1 ≤ Rc ∧ ks + c.toNatClampNeg ≤ Rs ∧ n < sx_sc ∧ sx_wf n ls st h ∧ F ls (sx_r (some n) :: st) (n + 1) (sx_up h n (.inl (kd, c.toNatClampNeg, .inl (fun _ => 0)))) (kc + 1) (ks + c.toNatClampNeg)) := rfl
set_option maxRecDepth 100000 in
set_option maxHeartbeats 4000000 in
theorem e_newq (Rc Rs : Nat) (c : Int32) (C : sx_C) (F : sx_K) (J : Nat → sx_K) (Rt : sx_R) (ls : sx_L) (st : List sx_V) (n : Nat) (h : sx_H) (kc ks : Nat) : si_newq Rc Rs C F J Rt ls (.inl c :: st) n h kc ks = (¬ c < 0 ∧ c.toNatClampNeg ≤ 100000 ∧ kc + 1 ≤ Rc ∧ ks + c.toNatClampNeg ≤ Rs ∧ n < sx_sc ∧ sx_wf n ls st h ∧ F ls (sx_r (some n) :: st) (n + 1) (sx_up h n (sx_ar 2 c.toNatClampNeg (fun _ => none))) (kc + 1) (ks + c.toNatClampNeg)) := rfl
set_option maxRecDepth 100000 in
set_option maxHeartbeats 4000000 in
theorem e_mna (Rc Rs : Nat) (k c : Int32) (C : sx_C) (F : sx_K) (J : Nat → sx_K) (Rt : sx_R) (ls : sx_L) (st : List sx_V) (n : Nat) (h : sx_H) (kc ks : Nat) : si_mna Rc Rs C F J Rt ls (.inl k :: .inl c :: st) n h kc ks = (¬ c < 0 ∧ ¬ k < 0 ∧ c.toNatClampNeg ≤ 1000 ∧ k.toNatClampNeg ≤ 1000 ∧ kc + (1 + c.toNatClampNeg) ≤ Rc ∧ ks + (c.toNatClampNeg + c.toNatClampNeg * k.toNatClampNeg) ≤ Rs ∧ n + c.toNatClampNeg < sx_sc ∧ sx_wf n ls st h ∧ F ls (sx_r (some n) :: st) (n + 1 + c.toNatClampNeg) (sx_hm h n c.toNatClampNeg k.toNatClampNeg) (kc + 1 + c.toNatClampNeg) (ks + c.toNatClampNeg + c.toNatClampNeg * k.toNatClampNeg)) := rfl
set_option maxRecDepth 100000 in
set_option maxHeartbeats 4000000 in
theorem e_new (ci N : Nat) (ds : List sx_V) (Rc Rs : Nat) (C : sx_C) (F : sx_K) (J : Nat → sx_K) (Rt : sx_R) (ls : sx_L) (st : List sx_V) (n : Nat) (h : sx_H) (kc ks : Nat) : si_new ci N ds Rc Rs C F J Rt ls st n h kc ks = (kc + 1 ≤ Rc ∧ ks + N ≤ Rs ∧ n < sx_sc ∧ sx_wf n ls st h ∧ F ls (sx_r (some n) :: st) (n + 1) (sx_up h n (.inr (ci, ds))) (kc + 1) (ks + N)) := rfl
set_option maxRecDepth 100000 in
set_option maxHeartbeats 4000000 in
theorem e_oi (a : Nat) (C : sx_C) (F : sx_K) (J : Nat → sx_K) (Rt : sx_R) (ls : sx_L) (st : List sx_V) (n : Nat) (h : sx_H) (kc ks : Nat) : si_oi C F J Rt ls (.inr (.inr (some a)) :: st) n h kc ks = (sx_cat st ≤ 8 ∧ F ls st n h kc ks) := rfl
set_option maxRecDepth 100000 in
set_option maxHeartbeats 4000000 in
theorem e_cs (mi k mc ms Rc Rs : Nat) (C : sx_C) (F : sx_K) (J : Nat → sx_K) (Rt : sx_R) (ls : sx_L) (st : List sx_V) (n : Nat) (h : sx_H) (kc ks : Nat) : si_cs mi k mc ms Rc Rs C F J Rt ls st n h kc ks = (match sx_tk k [] st with | some (a, st) => sx_cat st ≤ 8 ∧ kc + mc ≤ Rc ∧ ks + ms ≤ Rs ∧ C mi a n h (fun r n' h' => (n' = n ∨ sx_wl n ls st) ∧ F ls (sx_ps r st) n' h' (kc + mc) (ks + ms)) | none => False) := rfl
set_option maxRecDepth 100000 in
set_option maxHeartbeats 4000000 in
theorem e_cv (ci mi k mc ms Rc Rs : Nat) (C : sx_C) (F : sx_K) (J : Nat → sx_K) (Rt : sx_R) (ls : sx_L) (st : List sx_V) (n : Nat) (h : sx_H) (kc ks : Nat) : si_cv ci mi k mc ms Rc Rs C F J Rt ls st n h kc ks = (match sx_tk (k + 1) [] st with | some (.inr (.inr (some b)) :: a, st) => (∃ fs, h b = .inr (ci, fs)) ∧ b < n ∧ sx_cat st ≤ 8 ∧ kc + mc ≤ Rc ∧ ks + ms ≤ Rs ∧ C mi (sx_r (some b) :: a) n h (fun r n' h' => (n' = n ∨ sx_wl n ls st) ∧ F ls (sx_ps r st) n' h' (kc + mc) (ks + ms)) | _ => False) := rfl
set_option maxRecDepth 100000 in
set_option maxHeartbeats 4000000 in
theorem e_ci (mi k mc ms Rc Rs : Nat) (C : sx_C) (F : sx_K) (J : Nat → sx_K) (Rt : sx_R) (ls : sx_L) (st : List sx_V) (n : Nat) (h : sx_H) (kc ks : Nat) : si_ci mi k mc ms Rc Rs C F J Rt ls st n h kc ks = (match sx_tk (k + 1) [] st with | some (.inr (.inr (some b)) :: a, st) => sx_cat st ≤ 8 ∧ kc + mc ≤ Rc ∧ ks + ms ≤ Rs ∧ C mi (sx_r (some b) :: a) n h (fun r n' h' => (n' = n ∨ sx_wl n ls st) ∧ F ls (sx_ps r st) n' h' (kc + mc) (ks + ms)) | _ => False) := rfl
set_option maxRecDepth 100000 in
set_option maxHeartbeats 4000000 in
theorem e_min (Rc Rs : Nat) (x y : Int32) (C : sx_C) (F : sx_K) (J : Nat → sx_K) (Rt : sx_R) (ls : sx_L) (st : List sx_V) (n : Nat) (h : sx_H) (kc ks : Nat) : si_min Rc Rs C F J Rt ls (.inl y :: .inl x :: st) n h kc ks = (sx_cat st ≤ 8 ∧ kc ≤ Rc ∧ ks ≤ Rs ∧ F ls (sx_i (sx_mn x y) :: st) n h kc ks) := rfl
set_option maxRecDepth 100000 in
set_option maxHeartbeats 4000000 in
theorem e_max (Rc Rs : Nat) (x y : Int32) (C : sx_C) (F : sx_K) (J : Nat → sx_K) (Rt : sx_R) (ls : sx_L) (st : List sx_V) (n : Nat) (h : sx_H) (kc ks : Nat) : si_max Rc Rs C F J Rt ls (.inl y :: .inl x :: st) n h kc ks = (sx_cat st ≤ 8 ∧ kc ≤ Rc ∧ ks ≤ Rs ∧ F ls (sx_i (sx_mx x y) :: st) n h kc ks) := rfl
set_option maxRecDepth 100000 in
set_option maxHeartbeats 4000000 in
theorem e_copy (c dp sp : Int32) (a b : Nat) (C : sx_C) (F : sx_K) (J : Nat → sx_K) (Rt : sx_R) (ls : sx_L) (st : List sx_V) (n : Nat) (h : sx_H) (kc ks : Nat) : si_copy C F J Rt ls (.inl c :: .inl dp :: .inr (.inr (some b)) :: .inl sp :: .inr (.inr (some a)) :: st) n h kc ks = (match h a, h b with | .inl (0, n0, .inl f), .inl (0, n1, .inl g) => a < n ∧ b < n ∧ ¬ sp < 0 ∧ ¬ dp < 0 ∧ ¬ c < 0 ∧ sp.toNatClampNeg + c.toNatClampNeg ≤ n0 ∧ dp.toNatClampNeg + c.toNatClampNeg ≤ n1 ∧ sx_cat st ≤ 8 ∧ F ls st n (sx_up h b (sx_ai n1 (va_cpy f g sp.toNatClampNeg dp.toNatClampNeg c.toNatClampNeg))) kc ks | _, _ => False) := rfl
set_option maxRecDepth 100000 in
set_option maxHeartbeats 4000000 in
theorem e_rv  (C : sx_C) (F : sx_K) (J : Nat → sx_K) (Rt : sx_R) (ls : sx_L) (st : List sx_V) (n : Nat) (h : sx_H) (kc ks : Nat) : si_rv C F J Rt ls [] n h kc ks = Rt none n h kc ks := rfl
set_option maxRecDepth 100000 in
set_option maxHeartbeats 4000000 in
theorem e_ri (x : Int32) (C : sx_C) (F : sx_K) (J : Nat → sx_K) (Rt : sx_R) (ls : sx_L) (st : List sx_V) (n : Nat) (h : sx_H) (kc ks : Nat) : si_ri C F J Rt ls [.inl x] n h kc ks = Rt (some (sx_i x)) n h kc ks := rfl
set_option maxRecDepth 100000 in
set_option maxHeartbeats 4000000 in
theorem e_rz (x : Int32) (C : sx_C) (F : sx_K) (J : Nat → sx_K) (Rt : sx_R) (ls : sx_L) (st : List sx_V) (n : Nat) (h : sx_H) (kc ks : Nat) : si_rz C F J Rt ls [.inl x] n h kc ks = ((x = 0 ∨ x = 1) ∧ Rt (some (sx_i x)) n h kc ks) := rfl
set_option maxRecDepth 100000 in
set_option maxHeartbeats 4000000 in
theorem e_rl (x : Int64) (C : sx_C) (F : sx_K) (J : Nat → sx_K) (Rt : sx_R) (ls : sx_L) (st : List sx_V) (n : Nat) (h : sx_H) (kc ks : Nat) : si_rl C F J Rt ls [.inr (.inl x)] n h kc ks = Rt (some (sx_l x)) n h kc ks := rfl
set_option maxRecDepth 100000 in
set_option maxHeartbeats 4000000 in
theorem e_run (I : sx_S) (t : List sx_S) (C : sx_C) (J : Nat → sx_K) (Rt : sx_R) (ls : sx_L) (st : List sx_V) (n : Nat) (h : sx_H) (kc ks : Nat) : sx_run (I :: t) C J Rt ls st n h kc ks = I C (sx_run t C J Rt) J Rt ls st n h kc ks := rfl
