/-! the same steps, told as propositions -/
set_option maxRecDepth 100000 in
set_option maxHeartbeats 4000000 in
theorem z_is (k : Nat) (x : Int32) (C : sx_C) (F : sx_K) (J : Nat → sx_K) (Rt : sx_R) (ls : sx_L) (st : List sx_V) (n : Nat) (h : sx_H) (kc ks : Nat) : si_is k C F J Rt ls (.inl x :: st) n h kc ks = F (sx_set ls k (sx_i x)) st n h kc ks := propext ⟨fun q => q, fun q => q⟩
set_option maxRecDepth 100000 in
set_option maxHeartbeats 4000000 in
theorem z_ls (k : Nat) (x : Int64) (C : sx_C) (F : sx_K) (J : Nat → sx_K) (Rt : sx_R) (ls : sx_L) (st : List sx_V) (n : Nat) (h : sx_H) (kc ks : Nat) : si_ls k C F J Rt ls (.inr (.inl x) :: st) n h kc ks = F (sx_setl ls k (sx_l x)) st n h kc ks := propext ⟨fun q => q, fun q => q⟩
set_option maxRecDepth 100000 in
set_option maxHeartbeats 4000000 in
theorem z_inc (k : Nat) (d : Int32) (C : sx_C) (F : sx_K) (J : Nat → sx_K) (Rt : sx_R) (ls : sx_L) (st : List sx_V) (n : Nat) (h : sx_H) (kc ks : Nat) : si_inc k d C F J Rt ls st n h kc ks = (match ls[k]? with | some (some (.inl x)) => F (sx_set ls k (sx_i (x + d))) st n h kc ks | _ => False) := propext ⟨fun q => q, fun q => q⟩
set_option maxRecDepth 100000 in
set_option maxHeartbeats 4000000 in
theorem z_as (k x : Nat) (C : sx_C) (F : sx_K) (J : Nat → sx_K) (Rt : sx_R) (ls : sx_L) (st : List sx_V) (n : Nat) (h : sx_H) (kc ks : Nat) : si_as k C F J Rt ls (.inr (.inr (some x)) :: st) n h kc ks = F (sx_set ls k (sx_r (some x))) st n h kc ks := propext ⟨fun q => q, fun q => q⟩
set_option maxRecDepth 100000 in
set_option maxHeartbeats 4000000 in
theorem z_go (t : Nat) (m : List Bool) (C : sx_C) (F : sx_K) (J : Nat → sx_K) (Rt : sx_R) (ls : sx_L) (st : List sx_V) (n : Nat) (h : sx_H) (kc ks : Nat) : si_go t m C F J Rt ls st n h kc ks = J t (sx_m m ls) st n h kc ks := propext ⟨fun q => q, fun q => q⟩
set_option maxRecDepth 100000 in
set_option maxHeartbeats 4000000 in
theorem z_run (I : sx_S) (t : List sx_S) (C : sx_C) (J : Nat → sx_K) (Rt : sx_R) (ls : sx_L) (st : List sx_V) (n : Nat) (h : sx_H) (kc ks : Nat) : sx_run (I :: t) C J Rt ls st n h kc ks = I C (sx_run t C J Rt) J Rt ls st n h kc ks := propext ⟨fun q => q, fun q => q⟩
