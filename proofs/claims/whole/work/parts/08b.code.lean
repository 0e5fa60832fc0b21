theorem sx_bk_if {tb : List sx_M} {own : String} {cc : ByteArray} {nL : Nat} {ret : Option FieldType} {R : Room} {ct lw : Bool} {L : Nat} {xs : Nat → Int32} {k pc : Nat} {b r : List sx_S} (h1 : sx_BK tb own cc nL ret R ct lw L xs k b) (h2 : sx_BK tb own cc nL ret R ct lw L xs pc r) : sx_BK tb own cc nL ret R ct lw L xs pc (if pc = k then b else r) := by
  split
  · rename_i e; rw [e]; exact h1
  · exact h2
theorem dX0_init_0 : decode cX0_init 0 = .ok (.aload_n 0, 1) := by decide +kernel
theorem dX0_init_1 : decode cX0_init 1 = .ok (.invokespecial 1, 3) := by decide +kernel
theorem dX0_init_4 : decode cX0_init 4 = .ok (.aload_n 0, 1) := by decide +kernel
theorem dX0_init_5 : decode cX0_init 5 = .ok (.bipush 24, 2) := by decide +kernel
theorem dX0_init_7 : decode cX0_init 7 = .ok (.bipush 62, 2) := by decide +kernel
theorem dX0_init_9 : decode cX0_init 9 = .ok (.multianewarray 11 2, 4) := by decide +kernel
theorem dX0_init_13 : decode cX0_init 13 = .ok (.putfield 13, 3) := by decide +kernel
theorem dX0_init_16 : decode cX0_init 16 = .ok (.aload_n 0, 1) := by decide +kernel
theorem dX0_init_17 : decode cX0_init 17 = .ok (.iconst 0, 1) := by decide +kernel
theorem dX0_init_18 : decode cX0_init 18 = .ok (.putfield 16, 3) := by decide +kernel
theorem dX0_init_21 : decode cX0_init 21 = .ok (.aload_n 0, 1) := by decide +kernel
theorem dX0_init_22 : decode cX0_init 22 = .ok (.iconst 0, 1) := by decide +kernel
theorem dX0_init_23 : decode cX0_init 23 = .ok (.putfield 20, 3) := by decide +kernel
theorem dX0_init_26 : decode cX0_init 26 = .ok (.return_, 1) := by decide +kernel
def bX0_init_0 : List sx_S := [si_al 0, si_oi, si_al 0, si_const (nI 24), si_const (nI 62), si_mna 25 1512, si_put 0 0 1, si_al 0, si_const 0, si_put 0 1 0, si_al 0, si_const 0, si_put 0 2 0, si_rv]
def BX0_init : Nat → List sx_S := fun pc => if pc = 0 then bX0_init_0 else []
set_option maxRecDepth 20000 in
theorem kX0_init_0 : sx_BK sx_tb yX0_init.cls cX0_init 1 (none) ({ frames := 1, cells := 25, slots := 1512, locals := 20 } : Room) true false 0 (fun _ => 0) 0 (bX0_init_0) := ⟨_, ⟨sn_aload_n dX0_init_0 rfl, sm_al _⟩, ⟨_, ⟨sn_oi dX0_init_1 zw_1_89 zw_1_19 zw_1_20 (Nat.le_of_ble_eq_true rfl) (Nat.le_of_ble_eq_true rfl), sm_oi⟩, ⟨_, ⟨sn_aload_n dX0_init_4 rfl, sm_al _⟩, ⟨_, ⟨sn_bipush dX0_init_5 (by decide +kernel), sm_const _⟩, ⟨_, ⟨sn_bipush dX0_init_7 (by decide +kernel), sm_const _⟩, ⟨_, ⟨sn_mna dX0_init_9 zw_1_90 zw_1_44, sm_mna _ _⟩, ⟨_, ⟨sn_putF (C := RX0) (T := TX0) (N := 3) dX0_init_13 rfl zinX0 tyX0_ok nmX0 (Nat.le_of_ble_eq_true rfl) zw_1_91 rfl rfl rfl (tyX0_ok 0 (Nat.le_of_ble_eq_true rfl)) trivial, sm_put _ _ _⟩, ⟨_, ⟨sn_aload_n dX0_init_16 rfl, sm_al _⟩, ⟨_, ⟨sn_iconst dX0_init_17 (by decide +kernel), sm_const _⟩, ⟨_, ⟨sn_put (C := RX0) (T := TX0) (N := 3) dX0_init_18 rfl zinX0 tyX0_ok nmX0 (Nat.le_of_ble_eq_true rfl) zw_1_92 rfl (tyX0_ok 1 (Nat.le_of_ble_eq_true rfl)) trivial, sm_put _ _ _⟩, ⟨_, ⟨sn_aload_n dX0_init_21 rfl, sm_al _⟩, ⟨_, ⟨sn_iconst dX0_init_22 (by decide +kernel), sm_const _⟩, ⟨_, ⟨sn_put (C := RX0) (T := TX0) (N := 3) dX0_init_23 rfl zinX0 tyX0_ok nmX0 (Nat.le_of_ble_eq_true rfl) zw_1_93 rfl (tyX0_ok 2 (Nat.le_of_ble_eq_true rfl)) trivial, sm_put _ _ _⟩, ⟨_, ⟨sn_rv (len := 1) dX0_init_26 rfl, sm_rv⟩, trivial⟩⟩⟩⟩⟩⟩⟩⟩⟩⟩⟩⟩⟩⟩
theorem kX0_init : ∀ pc, sx_BK sx_tb yX0_init.cls cX0_init 1 (none) ({ frames := 1, cells := 25, slots := 1512, locals := 20 } : Room) true false 0 (fun _ => 0) pc (BX0_init pc) := fun pc => sx_bk_if (kX0_init_0) (trivial)
theorem okX0_init : sx_ok sx_tb BX0_init (yX0_init, cX0_init, 1, none, { frames := 1, cells := 25, slots := 1512, locals := 20 }) := ⟨by decide, by decide +kernel, true, (fun _ => rfl), kX0_init⟩
theorem dX0_forget_0 : decode cX0_forget 0 = .ok (.aload_n 0, 1) := by decide +kernel
theorem dX0_forget_1 : decode cX0_forget 1 = .ok (.iconst 0, 1) := by decide +kernel
theorem dX0_forget_2 : decode cX0_forget 2 = .ok (.putfield 20, 3) := by decide +kernel
theorem dX0_forget_5 : decode cX0_forget 5 = .ok (.return_, 1) := by decide +kernel
def bX0_forget_0 : List sx_S := [si_al 0, si_const 0, si_put 0 2 0, si_rv]
def BX0_forget : Nat → List sx_S := fun pc => if pc = 0 then bX0_forget_0 else []
set_option maxRecDepth 20000 in
theorem kX0_forget_0 : sx_BK sx_tb yX0_forget.cls cX0_forget 1 (none) ({ frames := 0, cells := 0, slots := 0, locals := 0 } : Room) false false 0 (fun _ => 0) 0 (bX0_forget_0) := ⟨_, ⟨sn_aload_n dX0_forget_0 rfl, sm_al _⟩, ⟨_, ⟨sn_iconst dX0_forget_1 (by decide +kernel), sm_const _⟩, ⟨_, ⟨sn_put (C := RX0) (T := TX0) (N := 3) dX0_forget_2 rfl zinX0 tyX0_ok nmX0 (Nat.le_of_ble_eq_true rfl) zw_1_93 rfl (tyX0_ok 2 (Nat.le_of_ble_eq_true rfl)) trivial, sm_put _ _ _⟩, ⟨_, ⟨sn_rv (len := 1) dX0_forget_5 rfl, sm_rv⟩, trivial⟩⟩⟩⟩
theorem kX0_forget : ∀ pc, sx_BK sx_tb yX0_forget.cls cX0_forget 1 (none) ({ frames := 0, cells := 0, slots := 0, locals := 0 } : Room) false false 0 (fun _ => 0) pc (BX0_forget pc) := fun pc => sx_bk_if (kX0_forget_0) (trivial)
theorem okX0_forget : sx_ok sx_tb BX0_forget (yX0_forget, cX0_forget, 1, none, { frames := 0, cells := 0, slots := 0, locals := 0 }) := ⟨by decide, by decide +kernel, false, (fun h => by cases h), kX0_forget⟩
theorem dX0_keep_0 : decode cX0_keep 0 = .ok (.aload_n 1, 1) := by decide +kernel
theorem dX0_keep_1 : decode cX0_keep 1 = .ok (.getfield 23, 3) := by decide +kernel
theorem dX0_keep_4 : decode cX0_keep 4 = .ok (.iconst 0, 1) := by decide +kernel
theorem dX0_keep_5 : decode cX0_keep 5 = .ok (.aload_n 0, 1) := by decide +kernel
theorem dX0_keep_6 : decode cX0_keep 6 = .ok (.getfield 13, 3) := by decide +kernel
theorem dX0_keep_9 : decode cX0_keep 9 = .ok (.aload_n 0, 1) := by decide +kernel
theorem dX0_keep_10 : decode cX0_keep 10 = .ok (.getfield 16, 3) := by decide +kernel
theorem dX0_keep_13 : decode cX0_keep 13 = .ok (.aaload, 1) := by decide +kernel
theorem dX0_keep_14 : decode cX0_keep 14 = .ok (.iconst 0, 1) := by decide +kernel
theorem dX0_keep_15 : decode cX0_keep 15 = .ok (.bipush 62, 2) := by decide +kernel
theorem dX0_keep_17 : decode cX0_keep 17 = .ok (.invokestatic 27, 3) := by decide +kernel
theorem dX0_keep_20 : decode cX0_keep 20 = .ok (.aload_n 0, 1) := by decide +kernel
theorem dX0_keep_21 : decode cX0_keep 21 = .ok (.aload_n 0, 1) := by decide +kernel
theorem dX0_keep_22 : decode cX0_keep 22 = .ok (.getfield 16, 3) := by decide +kernel
theorem dX0_keep_25 : decode cX0_keep 25 = .ok (.iconst 1, 1) := by decide +kernel
theorem dX0_keep_26 : decode cX0_keep 26 = .ok (.iadd, 1) := by decide +kernel
theorem dX0_keep_27 : decode cX0_keep 27 = .ok (.bipush 24, 2) := by decide +kernel
theorem dX0_keep_29 : decode cX0_keep 29 = .ok (.irem, 1) := by decide +kernel
theorem dX0_keep_30 : decode cX0_keep 30 = .ok (.putfield 16, 3) := by decide +kernel
theorem dX0_keep_33 : decode cX0_keep 33 = .ok (.aload_n 0, 1) := by decide +kernel
theorem dX0_keep_34 : decode cX0_keep 34 = .ok (.aload_n 0, 1) := by decide +kernel
theorem dX0_keep_35 : decode cX0_keep 35 = .ok (.getfield 20, 3) := by decide +kernel
theorem dX0_keep_38 : decode cX0_keep 38 = .ok (.iconst 1, 1) := by decide +kernel
theorem dX0_keep_39 : decode cX0_keep 39 = .ok (.iadd, 1) := by decide +kernel
theorem dX0_keep_40 : decode cX0_keep 40 = .ok (.bipush 24, 2) := by decide +kernel
theorem dX0_keep_42 : decode cX0_keep 42 = .ok (.invokestatic 33, 3) := by decide +kernel
theorem dX0_keep_45 : decode cX0_keep 45 = .ok (.putfield 20, 3) := by decide +kernel
theorem dX0_keep_48 : decode cX0_keep 48 = .ok (.return_, 1) := by decide +kernel
def bX0_keep_0 : List sx_S := [si_al 1, si_get 2 0, si_const 0, si_al 0, si_get 0 0, si_al 0, si_get 0 1, si_aald 3, si_const 0, si_const (nI 62), si_copy, si_al 0, si_al 0, si_get 0 1, si_const 1, si_bin (fun x y => x + y), si_const (nI 24), si_div (fun x y => x - x / y * y), si_put 0 1 0, si_al 0, si_al 0, si_get 0 2, si_const 1, si_bin (fun x y => x + y), si_const (nI 24), si_min 0 0, si_put 0 2 0, si_rv]
def BX0_keep : Nat → List sx_S := fun pc => if pc = 0 then bX0_keep_0 else []
set_option maxRecDepth 20000 in
theorem kX0_keep_0 : sx_BK sx_tb yX0_keep.cls cX0_keep 2 (none) ({ frames := 1, cells := 0, slots := 0, locals := 26 } : Room) false false 0 (fun _ => 0) 0 (bX0_keep_0) := ⟨_, ⟨sn_aload_n dX0_keep_0 rfl, sm_al _⟩, ⟨_, ⟨sn_get (C := RX2) (T := TX2) (N := 1) dX0_keep_1 rfl zinX2 (Nat.le_of_ble_eq_true rfl) zw_1_77, sm_get _ _⟩, ⟨_, ⟨sn_iconst dX0_keep_4 (by decide +kernel), sm_const _⟩, ⟨_, ⟨sn_aload_n dX0_keep_5 rfl, sm_al _⟩, ⟨_, ⟨sn_get (C := RX0) (T := TX0) (N := 3) dX0_keep_6 rfl zinX0 (Nat.le_of_ble_eq_true rfl) zw_1_91, sm_get _ _⟩, ⟨_, ⟨sn_aload_n dX0_keep_9 rfl, sm_al _⟩, ⟨_, ⟨sn_get (C := RX0) (T := TX0) (N := 3) dX0_keep_10 rfl zinX0 (Nat.le_of_ble_eq_true rfl) zw_1_92, sm_get _ _⟩, ⟨_, ⟨sn_aald3 dX0_keep_13, sm_aald _⟩, ⟨_, ⟨sn_iconst dX0_keep_14 (by decide +kernel), sm_const _⟩, ⟨_, ⟨sn_bipush dX0_keep_15 (by decide +kernel), sm_const _⟩, ⟨_, ⟨sn_copy dX0_keep_17 zw_2_62 zw_1_211 zw_1_210 zw_1_9 (Nat.le_of_ble_eq_true rfl) (by decide +kernel), sm_copy⟩, ⟨_, ⟨sn_aload_n dX0_keep_20 rfl, sm_al _⟩, ⟨_, ⟨sn_aload_n dX0_keep_21 rfl, sm_al _⟩, ⟨_, ⟨sn_get (C := RX0) (T := TX0) (N := 3) dX0_keep_22 rfl zinX0 (Nat.le_of_ble_eq_true rfl) zw_1_92, sm_get _ _⟩, ⟨_, ⟨sn_iconst dX0_keep_25 (by decide +kernel), sm_const _⟩, ⟨_, ⟨sn_iadd dX0_keep_26, sm_bin _⟩, ⟨_, ⟨sn_bipush dX0_keep_27 (by decide +kernel), sm_const _⟩, ⟨_, ⟨sn_irem dX0_keep_29, sm_div _⟩, ⟨_, ⟨sn_put (C := RX0) (T := TX0) (N := 3) dX0_keep_30 rfl zinX0 tyX0_ok nmX0 (Nat.le_of_ble_eq_true rfl) zw_1_92 rfl (tyX0_ok 1 (Nat.le_of_ble_eq_true rfl)) trivial, sm_put _ _ _⟩, ⟨_, ⟨sn_aload_n dX0_keep_33 rfl, sm_al _⟩, ⟨_, ⟨sn_aload_n dX0_keep_34 rfl, sm_al _⟩, ⟨_, ⟨sn_get (C := RX0) (T := TX0) (N := 3) dX0_keep_35 rfl zinX0 (Nat.le_of_ble_eq_true rfl) zw_1_93, sm_get _ _⟩, ⟨_, ⟨sn_iconst dX0_keep_38 (by decide +kernel), sm_const _⟩, ⟨_, ⟨sn_iadd dX0_keep_39, sm_bin _⟩, ⟨_, ⟨sn_bipush dX0_keep_40 (by decide +kernel), sm_const _⟩, ⟨_, ⟨sn_min dX0_keep_42 zw_2_76 zw_2_77 zw_1_10 zw_2_78 (Nat.le_of_ble_eq_true rfl) (Nat.le_of_ble_eq_true rfl), sm_min _ _⟩, ⟨_, ⟨sn_put (C := RX0) (T := TX0) (N := 3) dX0_keep_45 rfl zinX0 tyX0_ok nmX0 (Nat.le_of_ble_eq_true rfl) zw_1_93 rfl (tyX0_ok 2 (Nat.le_of_ble_eq_true rfl)) trivial, sm_put _ _ _⟩, ⟨_, ⟨sn_rv (len := 1) dX0_keep_48 rfl, sm_rv⟩, trivial⟩⟩⟩⟩⟩⟩⟩⟩⟩⟩⟩⟩⟩⟩⟩⟩⟩⟩⟩⟩⟩⟩⟩⟩⟩⟩⟩⟩
theorem kX0_keep : ∀ pc, sx_BK sx_tb yX0_keep.cls cX0_keep 2 (none) ({ frames := 1, cells := 0, slots := 0, locals := 26 } : Room) false false 0 (fun _ => 0) pc (BX0_keep pc) := fun pc => sx_bk_if (kX0_keep_0) (trivial)
theorem okX0_keep : sx_ok sx_tb BX0_keep (yX0_keep, cX0_keep, 2, none, { frames := 1, cells := 0, slots := 0, locals := 26 }) := ⟨by decide, by decide +kernel, false, (fun h => by cases h), kX0_keep⟩
theorem dX0_takeBack_0 : decode cX0_takeBack 0 = .ok (.aload_n 0, 1) := by decide +kernel
theorem dX0_takeBack_1 : decode cX0_takeBack 1 = .ok (.aload_n 0, 1) := by decide +kernel
theorem dX0_takeBack_2 : decode cX0_takeBack 2 = .ok (.getfield 16, 3) := by decide +kernel
theorem dX0_takeBack_5 : decode cX0_takeBack 5 = .ok (.bipush 24, 2) := by decide +kernel
theorem dX0_takeBack_7 : decode cX0_takeBack 7 = .ok (.iadd, 1) := by decide +kernel
theorem dX0_takeBack_8 : decode cX0_takeBack 8 = .ok (.iconst 1, 1) := by decide +kernel
theorem dX0_takeBack_9 : decode cX0_takeBack 9 = .ok (.isub, 1) := by decide +kernel
theorem dX0_takeBack_10 : decode cX0_takeBack 10 = .ok (.bipush 24, 2) := by decide +kernel
theorem dX0_takeBack_12 : decode cX0_takeBack 12 = .ok (.irem, 1) := by decide +kernel
theorem dX0_takeBack_13 : decode cX0_takeBack 13 = .ok (.putfield 16, 3) := by decide +kernel
theorem dX0_takeBack_16 : decode cX0_takeBack 16 = .ok (.aload_n 0, 1) := by decide +kernel
theorem dX0_takeBack_17 : decode cX0_takeBack 17 = .ok (.getfield 13, 3) := by decide +kernel
theorem dX0_takeBack_20 : decode cX0_takeBack 20 = .ok (.aload_n 0, 1) := by decide +kernel
theorem dX0_takeBack_21 : decode cX0_takeBack 21 = .ok (.getfield 16, 3) := by decide +kernel
theorem dX0_takeBack_24 : decode cX0_takeBack 24 = .ok (.aaload, 1) := by decide +kernel
theorem dX0_takeBack_25 : decode cX0_takeBack 25 = .ok (.iconst 0, 1) := by decide +kernel
theorem dX0_takeBack_26 : decode cX0_takeBack 26 = .ok (.aload_n 1, 1) := by decide +kernel
theorem dX0_takeBack_27 : decode cX0_takeBack 27 = .ok (.getfield 23, 3) := by decide +kernel
theorem dX0_takeBack_30 : decode cX0_takeBack 30 = .ok (.iconst 0, 1) := by decide +kernel
theorem dX0_takeBack_31 : decode cX0_takeBack 31 = .ok (.bipush 62, 2) := by decide +kernel
theorem dX0_takeBack_33 : decode cX0_takeBack 33 = .ok (.invokestatic 27, 3) := by decide +kernel
theorem dX0_takeBack_36 : decode cX0_takeBack 36 = .ok (.aload_n 0, 1) := by decide +kernel
theorem dX0_takeBack_37 : decode cX0_takeBack 37 = .ok (.dup, 1) := by decide +kernel
theorem dX0_takeBack_38 : decode cX0_takeBack 38 = .ok (.getfield 20, 3) := by decide +kernel
theorem dX0_takeBack_41 : decode cX0_takeBack 41 = .ok (.iconst 1, 1) := by decide +kernel
theorem dX0_takeBack_42 : decode cX0_takeBack 42 = .ok (.isub, 1) := by decide +kernel
theorem dX0_takeBack_43 : decode cX0_takeBack 43 = .ok (.putfield 20, 3) := by decide +kernel
theorem dX0_takeBack_46 : decode cX0_takeBack 46 = .ok (.aload_n 0, 1) := by decide +kernel
theorem dX0_takeBack_47 : decode cX0_takeBack 47 = .ok (.getfield 20, 3) := by decide +kernel
theorem dX0_takeBack_50 : decode cX0_takeBack 50 = .ok (.ireturn, 1) := by decide +kernel
def bX0_takeBack_0 : List sx_S := [si_al 0, si_al 0, si_get 0 1, si_const (nI 24), si_bin (fun x y => x + y), si_const 1, si_bin (fun x y => x - y), si_const (nI 24), si_div (fun x y => x - x / y * y), si_put 0 1 0, si_al 0, si_get 0 0, si_al 0, si_get 0 1, si_aald 3, si_const 0, si_al 1, si_get 2 0, si_const 0, si_const (nI 62), si_copy, si_al 0, si_dup, si_get 0 2, si_const 1, si_bin (fun x y => x - y), si_put 0 2 0, si_al 0, si_get 0 2, si_ri]
def BX0_takeBack : Nat → List sx_S := fun pc => if pc = 0 then bX0_takeBack_0 else []
set_option maxRecDepth 20000 in
theorem kX0_takeBack_0 : sx_BK sx_tb yX0_takeBack.cls cX0_takeBack 2 (some .int) ({ frames := 1, cells := 0, slots := 0, locals := 26 } : Room) false false 0 (fun _ => 0) 0 (bX0_takeBack_0) := ⟨_, ⟨sn_aload_n dX0_takeBack_0 rfl, sm_al _⟩, ⟨_, ⟨sn_aload_n dX0_takeBack_1 rfl, sm_al _⟩, ⟨_, ⟨sn_get (C := RX0) (T := TX0) (N := 3) dX0_takeBack_2 rfl zinX0 (Nat.le_of_ble_eq_true rfl) zw_1_92, sm_get _ _⟩, ⟨_, ⟨sn_bipush dX0_takeBack_5 (by decide +kernel), sm_const _⟩, ⟨_, ⟨sn_iadd dX0_takeBack_7, sm_bin _⟩, ⟨_, ⟨sn_iconst dX0_takeBack_8 (by decide +kernel), sm_const _⟩, ⟨_, ⟨sn_isub dX0_takeBack_9, sm_bin _⟩, ⟨_, ⟨sn_bipush dX0_takeBack_10 (by decide +kernel), sm_const _⟩, ⟨_, ⟨sn_irem dX0_takeBack_12, sm_div _⟩, ⟨_, ⟨sn_put (C := RX0) (T := TX0) (N := 3) dX0_takeBack_13 rfl zinX0 tyX0_ok nmX0 (Nat.le_of_ble_eq_true rfl) zw_1_92 rfl (tyX0_ok 1 (Nat.le_of_ble_eq_true rfl)) trivial, sm_put _ _ _⟩, ⟨_, ⟨sn_aload_n dX0_takeBack_16 rfl, sm_al _⟩, ⟨_, ⟨sn_get (C := RX0) (T := TX0) (N := 3) dX0_takeBack_17 rfl zinX0 (Nat.le_of_ble_eq_true rfl) zw_1_91, sm_get _ _⟩, ⟨_, ⟨sn_aload_n dX0_takeBack_20 rfl, sm_al _⟩, ⟨_, ⟨sn_get (C := RX0) (T := TX0) (N := 3) dX0_takeBack_21 rfl zinX0 (Nat.le_of_ble_eq_true rfl) zw_1_92, sm_get _ _⟩, ⟨_, ⟨sn_aald3 dX0_takeBack_24, sm_aald _⟩, ⟨_, ⟨sn_iconst dX0_takeBack_25 (by decide +kernel), sm_const _⟩, ⟨_, ⟨sn_aload_n dX0_takeBack_26 rfl, sm_al _⟩, ⟨_, ⟨sn_get (C := RX2) (T := TX2) (N := 1) dX0_takeBack_27 rfl zinX2 (Nat.le_of_ble_eq_true rfl) zw_1_77, sm_get _ _⟩, ⟨_, ⟨sn_iconst dX0_takeBack_30 (by decide +kernel), sm_const _⟩, ⟨_, ⟨sn_bipush dX0_takeBack_31 (by decide +kernel), sm_const _⟩, ⟨_, ⟨sn_copy dX0_takeBack_33 zw_2_62 zw_1_211 zw_1_210 zw_1_9 (Nat.le_of_ble_eq_true rfl) (by decide +kernel), sm_copy⟩, ⟨_, ⟨sn_aload_n dX0_takeBack_36 rfl, sm_al _⟩, ⟨_, ⟨sn_dup dX0_takeBack_37, sm_dup⟩, ⟨_, ⟨sn_get (C := RX0) (T := TX0) (N := 3) dX0_takeBack_38 rfl zinX0 (Nat.le_of_ble_eq_true rfl) zw_1_93, sm_get _ _⟩, ⟨_, ⟨sn_iconst dX0_takeBack_41 (by decide +kernel), sm_const _⟩, ⟨_, ⟨sn_isub dX0_takeBack_42, sm_bin _⟩, ⟨_, ⟨sn_put (C := RX0) (T := TX0) (N := 3) dX0_takeBack_43 rfl zinX0 tyX0_ok nmX0 (Nat.le_of_ble_eq_true rfl) zw_1_93 rfl (tyX0_ok 2 (Nat.le_of_ble_eq_true rfl)) trivial, sm_put _ _ _⟩, ⟨_, ⟨sn_aload_n dX0_takeBack_46 rfl, sm_al _⟩, ⟨_, ⟨sn_get (C := RX0) (T := TX0) (N := 3) dX0_takeBack_47 rfl zinX0 (Nat.le_of_ble_eq_true rfl) zw_1_93, sm_get _ _⟩, ⟨_, ⟨sn_ri (len := 1) dX0_takeBack_50 rfl, sm_ri⟩, trivial⟩⟩⟩⟩⟩⟩⟩⟩⟩⟩⟩⟩⟩⟩⟩⟩⟩⟩⟩⟩⟩⟩⟩⟩⟩⟩⟩⟩⟩⟩
theorem kX0_takeBack : ∀ pc, sx_BK sx_tb yX0_takeBack.cls cX0_takeBack 2 (some .int) ({ frames := 1, cells := 0, slots := 0, locals := 26 } : Room) false false 0 (fun _ => 0) pc (BX0_takeBack pc) := fun pc => sx_bk_if (kX0_takeBack_0) (trivial)
theorem okX0_takeBack : sx_ok sx_tb BX0_takeBack (yX0_takeBack, cX0_takeBack, 2, some .int, { frames := 1, cells := 0, slots := 0, locals := 26 }) := ⟨by decide, by decide +kernel, false, (fun h => by cases h), kX0_takeBack⟩
theorem dX1_init_0 : decode cX1_init 0 = .ok (.aload_n 0, 1) := by decide +kernel
theorem dX1_init_1 : decode cX1_init 1 = .ok (.invokespecial 1, 3) := by decide +kernel
theorem dX1_init_4 : decode cX1_init 4 = .ok (.aload_n 0, 1) := by decide +kernel
theorem dX1_init_5 : decode cX1_init 5 = .ok (.aload_n 1, 1) := by decide +kernel
theorem dX1_init_6 : decode cX1_init 6 = .ok (.putfield 7, 3) := by decide +kernel
theorem dX1_init_9 : decode cX1_init 9 = .ok (.aload_n 0, 1) := by decide +kernel
theorem dX1_init_10 : decode cX1_init 10 = .ok (.bipush 16, 2) := by decide +kernel
theorem dX1_init_12 : decode cX1_init 12 = .ok (.newarray .int, 2) := by decide +kernel
theorem dX1_init_14 : decode cX1_init 14 = .ok (.putfield 13, 3) := by decide +kernel
theorem dX1_init_17 : decode cX1_init 17 = .ok (.aload_n 0, 1) := by decide +kernel
theorem dX1_init_18 : decode cX1_init 18 = .ok (.iconst 0, 1) := by decide +kernel
theorem dX1_init_19 : decode cX1_init 19 = .ok (.putfield 17, 3) := by decide +kernel
theorem dX1_init_22 : decode cX1_init 22 = .ok (.return_, 1) := by decide +kernel
def bX1_init_0 : List sx_S := [si_al 0, si_oi, si_al 0, si_al 1, si_put 1 2 1, si_al 0, si_const (nI 16), si_newa 0 1 16, si_put 1 0 1, si_al 0, si_const 0, si_put 1 1 0, si_rv]
def BX1_init : Nat → List sx_S := fun pc => if pc = 0 then bX1_init_0 else []
set_option maxRecDepth 20000 in
theorem kX1_init_0 : sx_BK sx_tb yX1_init.cls cX1_init 2 (none) ({ frames := 1, cells := 1, slots := 16, locals := 20 } : Room) true false 0 (fun _ => 0) 0 (bX1_init_0) := ⟨_, ⟨sn_aload_n dX1_init_0 rfl, sm_al _⟩, ⟨_, ⟨sn_oi dX1_init_1 zw_1_120 zw_1_19 zw_1_20 (Nat.le_of_ble_eq_true rfl) (Nat.le_of_ble_eq_true rfl), sm_oi⟩, ⟨_, ⟨sn_aload_n dX1_init_4 rfl, sm_al _⟩, ⟨_, ⟨sn_aload_n dX1_init_5 rfl, sm_al _⟩, ⟨_, ⟨sn_putF (C := RX1) (T := TX1) (N := 3) dX1_init_6 rfl zinX1 tyX1_ok nmX1 (Nat.le_of_ble_eq_true rfl) zw_1_125 rfl rfl rfl (tyX1_ok 2 (Nat.le_of_ble_eq_true rfl)) trivial, sm_put _ _ _⟩, ⟨_, ⟨sn_aload_n dX1_init_9 rfl, sm_al _⟩, ⟨_, ⟨sn_bipush dX1_init_10 (by decide +kernel), sm_const _⟩, ⟨_, ⟨sn_newa0 dX1_init_12 zw_1_44, sm_newa _ _ _⟩, ⟨_, ⟨sn_putF (C := RX1) (T := TX1) (N := 3) dX1_init_14 rfl zinX1 tyX1_ok nmX1 (Nat.le_of_ble_eq_true rfl) zw_1_121 rfl rfl rfl (tyX1_ok 0 (Nat.le_of_ble_eq_true rfl)) trivial, sm_put _ _ _⟩, ⟨_, ⟨sn_aload_n dX1_init_17 rfl, sm_al _⟩, ⟨_, ⟨sn_iconst dX1_init_18 (by decide +kernel), sm_const _⟩, ⟨_, ⟨sn_put (C := RX1) (T := TX1) (N := 3) dX1_init_19 rfl zinX1 tyX1_ok nmX1 (Nat.le_of_ble_eq_true rfl) zw_1_123 rfl (tyX1_ok 1 (Nat.le_of_ble_eq_true rfl)) trivial, sm_put _ _ _⟩, ⟨_, ⟨sn_rv (len := 1) dX1_init_22 rfl, sm_rv⟩, trivial⟩⟩⟩⟩⟩⟩⟩⟩⟩⟩⟩⟩⟩
theorem kX1_init : ∀ pc, sx_BK sx_tb yX1_init.cls cX1_init 2 (none) ({ frames := 1, cells := 1, slots := 16, locals := 20 } : Room) true false 0 (fun _ => 0) pc (BX1_init pc) := fun pc => sx_bk_if (kX1_init_0) (trivial)
theorem okX1_init : sx_ok sx_tb BX1_init (yX1_init, cX1_init, 2, none, { frames := 1, cells := 1, slots := 16, locals := 20 }) := ⟨by decide, by decide +kernel, true, (fun _ => rfl), kX1_init⟩
theorem dX1_sizeOf_0 : decode cX1_sizeOf 0 = .ok (.aload_n 0, 1) := by decide +kernel
theorem dX1_sizeOf_1 : decode cX1_sizeOf 1 = .ok (.getfield 7, 3) := by decide +kernel
theorem dX1_sizeOf_4 : decode cX1_sizeOf 4 = .ok (.getfield 21, 3) := by decide +kernel
theorem dX1_sizeOf_7 : decode cX1_sizeOf 7 = .ok (.bipush 48, 2) := by decide +kernel
theorem dX1_sizeOf_9 : decode cX1_sizeOf 9 = .ok (.iload_n 1, 1) := by decide +kernel
theorem dX1_sizeOf_10 : decode cX1_sizeOf 10 = .ok (.iadd, 1) := by decide +kernel
theorem dX1_sizeOf_11 : decode cX1_sizeOf 11 = .ok (.iaload, 1) := by decide +kernel
theorem dX1_sizeOf_12 : decode cX1_sizeOf 12 = .ok (.tableswitch 54 1 5 #[36, 42, 36, 48, 48], 36) := by decide +kernel
theorem dX1_sizeOf_48 : decode cX1_sizeOf 48 = .ok (.aload_n 0, 1) := by decide +kernel
theorem dX1_sizeOf_49 : decode cX1_sizeOf 49 = .ok (.iload_n 1, 1) := by decide +kernel
theorem dX1_sizeOf_50 : decode cX1_sizeOf 50 = .ok (.invokevirtual 26, 3) := by decide +kernel
theorem dX1_sizeOf_53 : decode cX1_sizeOf 53 = .ok (.ireturn, 1) := by decide +kernel
theorem dX1_sizeOf_54 : decode cX1_sizeOf 54 = .ok (.aload_n 0, 1) := by decide +kernel
theorem dX1_sizeOf_55 : decode cX1_sizeOf 55 = .ok (.iload_n 1, 1) := by decide +kernel
theorem dX1_sizeOf_56 : decode cX1_sizeOf 56 = .ok (.invokevirtual 30, 3) := by decide +kernel
theorem dX1_sizeOf_59 : decode cX1_sizeOf 59 = .ok (.ireturn, 1) := by decide +kernel
theorem dX1_sizeOf_60 : decode cX1_sizeOf 60 = .ok (.aload_n 0, 1) := by decide +kernel
theorem dX1_sizeOf_61 : decode cX1_sizeOf 61 = .ok (.iload_n 1, 1) := by decide +kernel
theorem dX1_sizeOf_62 : decode cX1_sizeOf 62 = .ok (.invokevirtual 33, 3) := by decide +kernel
theorem dX1_sizeOf_65 : decode cX1_sizeOf 65 = .ok (.ireturn, 1) := by decide +kernel
theorem dX1_sizeOf_66 : decode cX1_sizeOf 66 = .ok (.aload_n 0, 1) := by decide +kernel
theorem dX1_sizeOf_67 : decode cX1_sizeOf 67 = .ok (.iload_n 1, 1) := by decide +kernel
theorem dX1_sizeOf_68 : decode cX1_sizeOf 68 = .ok (.invokevirtual 36, 3) := by decide +kernel
theorem dX1_sizeOf_71 : decode cX1_sizeOf 71 = .ok (.ireturn, 1) := by decide +kernel
def bX1_sizeOf_0 : List sx_S := [si_al 0, si_get 1 2, si_get 2 0, si_const (nI 48), si_il 1, si_bin (fun x y => x + y), si_iald, si_sw [(1, 48, [true, true]), ((nI 2), 54, [true, true]), ((nI 3), 48, [true, true]), ((nI 4), 60, [true, true]), ((nI 5), 60, [true, true])] 66 [true, true]]
def bX1_sizeOf_48 : List sx_S := [si_al 0, si_il 1, si_cv 1 11 1 0 0 0 0, si_ri]
def bX1_sizeOf_54 : List sx_S := [si_al 0, si_il 1, si_cv 1 12 1 0 0 0 0, si_ri]
def bX1_sizeOf_60 : List sx_S := [si_al 0, si_il 1, si_cv 1 8 1 0 0 0 0, si_ri]
def bX1_sizeOf_66 : List sx_S := [si_al 0, si_il 1, si_cv 1 10 1 0 0 0 0, si_ri]
def BX1_sizeOf : Nat → List sx_S := fun pc => if pc = 0 then bX1_sizeOf_0 else if pc = 48 then bX1_sizeOf_48 else if pc = 54 then bX1_sizeOf_54 else if pc = 60 then bX1_sizeOf_60 else if pc = 66 then bX1_sizeOf_66 else []
set_option maxRecDepth 20000 in
theorem kX1_sizeOf_0 : sx_BK sx_tb yX1_sizeOf.cls cX1_sizeOf 2 (some .int) ({ frames := 6, cells := 0, slots := 0, locals := 127 } : Room) false false 0 (fun _ => 0) 0 (bX1_sizeOf_0) := ⟨_, ⟨sn_aload_n dX1_sizeOf_0 rfl, sm_al _⟩, ⟨_, ⟨sn_get (C := RX1) (T := TX1) (N := 3) dX1_sizeOf_1 rfl zinX1 (Nat.le_of_ble_eq_true rfl) zw_1_125, sm_get _ _⟩, ⟨_, ⟨sn_get (C := RX2) (T := TX2) (N := 1) dX1_sizeOf_4 rfl zinX2 (Nat.le_of_ble_eq_true rfl) zw_1_76, sm_get _ _⟩, ⟨_, ⟨sn_bipush dX1_sizeOf_7 (by decide +kernel), sm_const _⟩, ⟨_, ⟨sn_iload_n dX1_sizeOf_9 rfl, sm_il _⟩, ⟨_, ⟨sn_iadd dX1_sizeOf_10, sm_bin _⟩, ⟨_, ⟨sn_iald dX1_sizeOf_11, sm_iald⟩, ⟨_, ⟨sn_tsw (len := 3) dX1_sizeOf_12 (by decide +kernel) (by decide +kernel) (by decide +kernel) rfl, sm_sw _ _ _⟩, trivial⟩⟩⟩⟩⟩⟩⟩⟩
set_option maxRecDepth 20000 in
theorem kX1_sizeOf_48 : sx_BK sx_tb yX1_sizeOf.cls cX1_sizeOf 2 (some .int) ({ frames := 6, cells := 0, slots := 0, locals := 127 } : Room) false false 0 (fun _ => 0) 48 (bX1_sizeOf_48) := ⟨_, ⟨sn_aload_n dX1_sizeOf_48 rfl, sm_al _⟩, ⟨_, ⟨sn_iload_n dX1_sizeOf_49 rfl, sm_il _⟩, ⟨_, ⟨sn_cv_i (N := 3) (T := TX1) ztb_X1_size11 dX1_sizeOf_50 rfl rfl zw_3_99 zw_3_101 zw_0_21 zw_1_7 zw_3_102 zmh_X1 zpd_X1_size11 (Nat.le_of_ble_eq_true rfl) (Nat.le_of_ble_eq_true rfl) rfl rfl, sm_cv _ _ _ _ _ _ _⟩, ⟨_, ⟨sn_ri (len := 1) dX1_sizeOf_53 rfl, sm_ri⟩, trivial⟩⟩⟩⟩
set_option maxRecDepth 20000 in
theorem kX1_sizeOf_54 : sx_BK sx_tb yX1_sizeOf.cls cX1_sizeOf 2 (some .int) ({ frames := 6, cells := 0, slots := 0, locals := 127 } : Room) false false 0 (fun _ => 0) 54 (bX1_sizeOf_54) := ⟨_, ⟨sn_aload_n dX1_sizeOf_54 rfl, sm_al _⟩, ⟨_, ⟨sn_iload_n dX1_sizeOf_55 rfl, sm_il _⟩, ⟨_, ⟨sn_cv_i (N := 3) (T := TX1) ztb_X1_size12 dX1_sizeOf_56 rfl rfl zw_3_127 zw_3_129 zw_0_28 zw_1_7 zw_3_130 zmh_X1 zpd_X1_size12 (Nat.le_of_ble_eq_true rfl) (Nat.le_of_ble_eq_true rfl) rfl rfl, sm_cv _ _ _ _ _ _ _⟩, ⟨_, ⟨sn_ri (len := 1) dX1_sizeOf_59 rfl, sm_ri⟩, trivial⟩⟩⟩⟩
set_option maxRecDepth 20000 in
theorem kX1_sizeOf_60 : sx_BK sx_tb yX1_sizeOf.cls cX1_sizeOf 2 (some .int) ({ frames := 6, cells := 0, slots := 0, locals := 127 } : Room) false false 0 (fun _ => 0) 60 (bX1_sizeOf_60) := ⟨_, ⟨sn_aload_n dX1_sizeOf_60 rfl, sm_al _⟩, ⟨_, ⟨sn_iload_n dX1_sizeOf_61 rfl, sm_il _⟩, ⟨_, ⟨sn_cv_i (N := 3) (T := TX1) ztb_X1_sizeOfTwice dX1_sizeOf_62 rfl rfl zw_3_131 zw_3_133 zw_0_29 zw_1_7 zw_3_134 zmh_X1 zpd_X1_sizeOfTwice (Nat.le_of_ble_eq_true rfl) (Nat.le_of_ble_eq_true rfl) rfl rfl, sm_cv _ _ _ _ _ _ _⟩, ⟨_, ⟨sn_ri (len := 1) dX1_sizeOf_65 rfl, sm_ri⟩, trivial⟩⟩⟩⟩
set_option maxRecDepth 20000 in
theorem kX1_sizeOf_66 : sx_BK sx_tb yX1_sizeOf.cls cX1_sizeOf 2 (some .int) ({ frames := 6, cells := 0, slots := 0, locals := 127 } : Room) false false 0 (fun _ => 0) 66 (bX1_sizeOf_66) := ⟨_, ⟨sn_aload_n dX1_sizeOf_66 rfl, sm_al _⟩, ⟨_, ⟨sn_iload_n dX1_sizeOf_67 rfl, sm_il _⟩, ⟨_, ⟨sn_cv_i (N := 3) (T := TX1) ztb_X1_size10 dX1_sizeOf_68 rfl rfl zw_3_107 zw_3_109 zw_0_23 zw_1_7 zw_3_110 zmh_X1 zpd_X1_size10 (Nat.le_of_ble_eq_true rfl) (Nat.le_of_ble_eq_true rfl) rfl rfl, sm_cv _ _ _ _ _ _ _⟩, ⟨_, ⟨sn_ri (len := 1) dX1_sizeOf_71 rfl, sm_ri⟩, trivial⟩⟩⟩⟩
theorem kX1_sizeOf : ∀ pc, sx_BK sx_tb yX1_sizeOf.cls cX1_sizeOf 2 (some .int) ({ frames := 6, cells := 0, slots := 0, locals := 127 } : Room) false false 0 (fun _ => 0) pc (BX1_sizeOf pc) := fun pc => sx_bk_if (kX1_sizeOf_0) (sx_bk_if (kX1_sizeOf_48) (sx_bk_if (kX1_sizeOf_54) (sx_bk_if (kX1_sizeOf_60) (sx_bk_if (kX1_sizeOf_66) (trivial)))))
theorem okX1_sizeOf : sx_ok sx_tb BX1_sizeOf (yX1_sizeOf, cX1_sizeOf, 2, some .int, { frames := 6, cells := 0, slots := 0, locals := 127 }) := ⟨by decide, by decide +kernel, false, (fun h => by cases h), kX1_sizeOf⟩
theorem dX1_markOf_0 : decode cX1_markOf 0 = .ok (.aload_n 0, 1) := by decide +kernel
theorem dX1_markOf_1 : decode cX1_markOf 1 = .ok (.getfield 7, 3) := by decide +kernel
theorem dX1_markOf_4 : decode cX1_markOf 4 = .ok (.getfield 21, 3) := by decide +kernel
theorem dX1_markOf_7 : decode cX1_markOf 7 = .ok (.bipush 48, 2) := by decide +kernel
theorem dX1_markOf_9 : decode cX1_markOf 9 = .ok (.iload_n 1, 1) := by decide +kernel
theorem dX1_markOf_10 : decode cX1_markOf 10 = .ok (.iadd, 1) := by decide +kernel
theorem dX1_markOf_11 : decode cX1_markOf 11 = .ok (.iaload, 1) := by decide +kernel
theorem dX1_markOf_12 : decode cX1_markOf 12 = .ok (.tableswitch 48 1 5 #[36, 36, 36, 42, 42], 36) := by decide +kernel
theorem dX1_markOf_48 : decode cX1_markOf 48 = .ok (.aload_n 0, 1) := by decide +kernel
theorem dX1_markOf_49 : decode cX1_markOf 49 = .ok (.iload_n 1, 1) := by decide +kernel
theorem dX1_markOf_50 : decode cX1_markOf 50 = .ok (.invokevirtual 39, 3) := by decide +kernel
theorem dX1_markOf_53 : decode cX1_markOf 53 = .ok (.ireturn, 1) := by decide +kernel
theorem dX1_markOf_54 : decode cX1_markOf 54 = .ok (.aload_n 0, 1) := by decide +kernel
theorem dX1_markOf_55 : decode cX1_markOf 55 = .ok (.iload_n 1, 1) := by decide +kernel
theorem dX1_markOf_56 : decode cX1_markOf 56 = .ok (.invokevirtual 42, 3) := by decide +kernel
theorem dX1_markOf_59 : decode cX1_markOf 59 = .ok (.ireturn, 1) := by decide +kernel
theorem dX1_markOf_60 : decode cX1_markOf 60 = .ok (.aload_n 0, 1) := by decide +kernel
theorem dX1_markOf_61 : decode cX1_markOf 61 = .ok (.iload_n 1, 1) := by decide +kernel
theorem dX1_markOf_62 : decode cX1_markOf 62 = .ok (.invokevirtual 45, 3) := by decide +kernel
theorem dX1_markOf_65 : decode cX1_markOf 65 = .ok (.ireturn, 1) := by decide +kernel
def bX1_markOf_0 : List sx_S := [si_al 0, si_get 1 2, si_get 2 0, si_const (nI 48), si_il 1, si_bin (fun x y => x + y), si_iald, si_sw [(1, 48, [true, true]), ((nI 2), 48, [true, true]), ((nI 3), 48, [true, true]), ((nI 4), 54, [true, true]), ((nI 5), 54, [true, true])] 60 [true, true]]
def bX1_markOf_48 : List sx_S := [si_al 0, si_il 1, si_cv 1 7 1 0 0 0 0, si_ri]
def bX1_markOf_54 : List sx_S := [si_al 0, si_il 1, si_cv 1 18 1 0 0 0 0, si_ri]
def bX1_markOf_60 : List sx_S := [si_al 0, si_il 1, si_cv 1 15 1 0 0 0 0, si_ri]
def BX1_markOf : Nat → List sx_S := fun pc => if pc = 0 then bX1_markOf_0 else if pc = 48 then bX1_markOf_48 else if pc = 54 then bX1_markOf_54 else if pc = 60 then bX1_markOf_60 else []
set_option maxRecDepth 20000 in
theorem kX1_markOf_0 : sx_BK sx_tb yX1_markOf.cls cX1_markOf 2 (some .int) ({ frames := 6, cells := 0, slots := 0, locals := 127 } : Room) false false 0 (fun _ => 0) 0 (bX1_markOf_0) := ⟨_, ⟨sn_aload_n dX1_markOf_0 rfl, sm_al _⟩, ⟨_, ⟨sn_get (C := RX1) (T := TX1) (N := 3) dX1_markOf_1 rfl zinX1 (Nat.le_of_ble_eq_true rfl) zw_1_125, sm_get _ _⟩, ⟨_, ⟨sn_get (C := RX2) (T := TX2) (N := 1) dX1_markOf_4 rfl zinX2 (Nat.le_of_ble_eq_true rfl) zw_1_76, sm_get _ _⟩, ⟨_, ⟨sn_bipush dX1_markOf_7 (by decide +kernel), sm_const _⟩, ⟨_, ⟨sn_iload_n dX1_markOf_9 rfl, sm_il _⟩, ⟨_, ⟨sn_iadd dX1_markOf_10, sm_bin _⟩, ⟨_, ⟨sn_iald dX1_markOf_11, sm_iald⟩, ⟨_, ⟨sn_tsw (len := 3) dX1_markOf_12 (by decide +kernel) (by decide +kernel) (by decide +kernel) rfl, sm_sw _ _ _⟩, trivial⟩⟩⟩⟩⟩⟩⟩⟩
set_option maxRecDepth 20000 in
theorem kX1_markOf_48 : sx_BK sx_tb yX1_markOf.cls cX1_markOf 2 (some .int) ({ frames := 6, cells := 0, slots := 0, locals := 127 } : Room) false false 0 (fun _ => 0) 48 (bX1_markOf_48) := ⟨_, ⟨sn_aload_n dX1_markOf_48 rfl, sm_al _⟩, ⟨_, ⟨sn_iload_n dX1_markOf_49 rfl, sm_il _⟩, ⟨_, ⟨sn_cv_i (N := 3) (T := TX1) ztb_X1_markOfSteady dX1_markOf_50 rfl rfl zw_3_111 zw_3_113 zw_0_24 zw_1_7 zw_3_114 zmh_X1 zpd_X1_markOfSteady (Nat.le_of_ble_eq_true rfl) (Nat.le_of_ble_eq_true rfl) rfl rfl, sm_cv _ _ _ _ _ _ _⟩, ⟨_, ⟨sn_ri (len := 1) dX1_markOf_53 rfl, sm_ri⟩, trivial⟩⟩⟩⟩
set_option maxRecDepth 20000 in
theorem kX1_markOf_54 : sx_BK sx_tb yX1_markOf.cls cX1_markOf 2 (some .int) ({ frames := 6, cells := 0, slots := 0, locals := 127 } : Room) false false 0 (fun _ => 0) 54 (bX1_markOf_54) := ⟨_, ⟨sn_aload_n dX1_markOf_54 rfl, sm_al _⟩, ⟨_, ⟨sn_iload_n dX1_markOf_55 rfl, sm_il _⟩, ⟨_, ⟨sn_cv_i (N := 3) (T := TX1) ztb_X1_mark23 dX1_markOf_56 rfl rfl zw_3_147 zw_3_149 zw_0_32 zw_1_7 zw_3_150 zmh_X1 zpd_X1_mark23 (Nat.le_of_ble_eq_true rfl) (Nat.le_of_ble_eq_true rfl) rfl rfl, sm_cv _ _ _ _ _ _ _⟩, ⟨_, ⟨sn_ri (len := 1) dX1_markOf_59 rfl, sm_ri⟩, trivial⟩⟩⟩⟩
set_option maxRecDepth 20000 in
theorem kX1_markOf_60 : sx_BK sx_tb yX1_markOf.cls cX1_markOf 2 (some .int) ({ frames := 6, cells := 0, slots := 0, locals := 127 } : Room) false false 0 (fun _ => 0) 60 (bX1_markOf_60) := ⟨_, ⟨sn_aload_n dX1_markOf_60 rfl, sm_al _⟩, ⟨_, ⟨sn_iload_n dX1_markOf_61 rfl, sm_il _⟩, ⟨_, ⟨sn_cv_i (N := 3) (T := TX1) ztb_X1_mark20 dX1_markOf_62 rfl rfl zw_3_151 zw_3_153 zw_0_33 zw_1_7 zw_3_154 zmh_X1 zpd_X1_mark20 (Nat.le_of_ble_eq_true rfl) (Nat.le_of_ble_eq_true rfl) rfl rfl, sm_cv _ _ _ _ _ _ _⟩, ⟨_, ⟨sn_ri (len := 1) dX1_markOf_65 rfl, sm_ri⟩, trivial⟩⟩⟩⟩
theorem kX1_markOf : ∀ pc, sx_BK sx_tb yX1_markOf.cls cX1_markOf 2 (some .int) ({ frames := 6, cells := 0, slots := 0, locals := 127 } : Room) false false 0 (fun _ => 0) pc (BX1_markOf pc) := fun pc => sx_bk_if (kX1_markOf_0) (sx_bk_if (kX1_markOf_48) (sx_bk_if (kX1_markOf_54) (sx_bk_if (kX1_markOf_60) (trivial))))
theorem okX1_markOf : sx_ok sx_tb BX1_markOf (yX1_markOf, cX1_markOf, 2, some .int, { frames := 6, cells := 0, slots := 0, locals := 127 }) := ⟨by decide, by decide +kernel, false, (fun h => by cases h), kX1_markOf⟩
theorem dX1_markOfSteady_0 : decode cX1_markOfSteady 0 = .ok (.aload_n 0, 1) := by decide +kernel
theorem dX1_markOfSteady_1 : decode cX1_markOfSteady 1 = .ok (.getfield 7, 3) := by decide +kernel
theorem dX1_markOfSteady_4 : decode cX1_markOfSteady 4 = .ok (.getfield 21, 3) := by decide +kernel
theorem dX1_markOfSteady_7 : decode cX1_markOfSteady 7 = .ok (.bipush 48, 2) := by decide +kernel
theorem dX1_markOfSteady_9 : decode cX1_markOfSteady 9 = .ok (.iload_n 1, 1) := by decide +kernel
theorem dX1_markOfSteady_10 : decode cX1_markOfSteady 10 = .ok (.iadd, 1) := by decide +kernel
theorem dX1_markOfSteady_11 : decode cX1_markOfSteady 11 = .ok (.iaload, 1) := by decide +kernel
theorem dX1_markOfSteady_12 : decode cX1_markOfSteady 12 = .ok (.lookupswitch 40 #[(2, 34), (3, 28)], 28) := by decide +kernel
theorem dX1_markOfSteady_40 : decode cX1_markOfSteady 40 = .ok (.aload_n 0, 1) := by decide +kernel
theorem dX1_markOfSteady_41 : decode cX1_markOfSteady 41 = .ok (.iload_n 1, 1) := by decide +kernel
theorem dX1_markOfSteady_42 : decode cX1_markOfSteady 42 = .ok (.invokevirtual 48, 3) := by decide +kernel
theorem dX1_markOfSteady_45 : decode cX1_markOfSteady 45 = .ok (.ireturn, 1) := by decide +kernel
theorem dX1_markOfSteady_46 : decode cX1_markOfSteady 46 = .ok (.aload_n 0, 1) := by decide +kernel
theorem dX1_markOfSteady_47 : decode cX1_markOfSteady 47 = .ok (.iload_n 1, 1) := by decide +kernel
theorem dX1_markOfSteady_48 : decode cX1_markOfSteady 48 = .ok (.invokevirtual 51, 3) := by decide +kernel
theorem dX1_markOfSteady_51 : decode cX1_markOfSteady 51 = .ok (.ireturn, 1) := by decide +kernel
theorem dX1_markOfSteady_52 : decode cX1_markOfSteady 52 = .ok (.aload_n 0, 1) := by decide +kernel
theorem dX1_markOfSteady_53 : decode cX1_markOfSteady 53 = .ok (.iload_n 1, 1) := by decide +kernel
theorem dX1_markOfSteady_54 : decode cX1_markOfSteady 54 = .ok (.invokevirtual 54, 3) := by decide +kernel
theorem dX1_markOfSteady_57 : decode cX1_markOfSteady 57 = .ok (.ireturn, 1) := by decide +kernel
def bX1_markOfSteady_0 : List sx_S := [si_al 0, si_get 1 2, si_get 2 0, si_const (nI 48), si_il 1, si_bin (fun x y => x + y), si_iald, si_sw [((nI 2), 46, [true, true]), ((nI 3), 40, [true, true])] 52 [true, true]]
def bX1_markOfSteady_40 : List sx_S := [si_al 0, si_il 1, si_cv 1 17 1 0 0 0 0, si_ri]
def bX1_markOfSteady_46 : List sx_S := [si_al 0, si_il 1, si_cv 1 19 1 0 0 0 0, si_ri]
def bX1_markOfSteady_52 : List sx_S := [si_al 0, si_il 1, si_cv 1 16 1 0 0 0 0, si_ri]
def BX1_markOfSteady : Nat → List sx_S := fun pc => if pc = 0 then bX1_markOfSteady_0 else if pc = 40 then bX1_markOfSteady_40 else if pc = 46 then bX1_markOfSteady_46 else if pc = 52 then bX1_markOfSteady_52 else []
set_option maxRecDepth 20000 in
theorem kX1_markOfSteady_0 : sx_BK sx_tb yX1_markOfSteady.cls cX1_markOfSteady 2 (some .int) ({ frames := 3, cells := 0, slots := 0, locals := 63 } : Room) false false 0 (fun _ => 0) 0 (bX1_markOfSteady_0) := ⟨_, ⟨sn_aload_n dX1_markOfSteady_0 rfl, sm_al _⟩, ⟨_, ⟨sn_get (C := RX1) (T := TX1) (N := 3) dX1_markOfSteady_1 rfl zinX1 (Nat.le_of_ble_eq_true rfl) zw_1_125, sm_get _ _⟩, ⟨_, ⟨sn_get (C := RX2) (T := TX2) (N := 1) dX1_markOfSteady_4 rfl zinX2 (Nat.le_of_ble_eq_true rfl) zw_1_76, sm_get _ _⟩, ⟨_, ⟨sn_bipush dX1_markOfSteady_7 (by decide +kernel), sm_const _⟩, ⟨_, ⟨sn_iload_n dX1_markOfSteady_9 rfl, sm_il _⟩, ⟨_, ⟨sn_iadd dX1_markOfSteady_10, sm_bin _⟩, ⟨_, ⟨sn_iald dX1_markOfSteady_11, sm_iald⟩, ⟨_, ⟨sn_lsw (len := 3) dX1_markOfSteady_12 (by decide +kernel) (by decide +kernel) (by decide +kernel) (by decide +kernel) rfl, sm_sw _ _ _⟩, trivial⟩⟩⟩⟩⟩⟩⟩⟩
set_option maxRecDepth 20000 in
theorem kX1_markOfSteady_40 : sx_BK sx_tb yX1_markOfSteady.cls cX1_markOfSteady 2 (some .int) ({ frames := 3, cells := 0, slots := 0, locals := 63 } : Room) false false 0 (fun _ => 0) 40 (bX1_markOfSteady_40) := ⟨_, ⟨sn_aload_n dX1_markOfSteady_40 rfl, sm_al _⟩, ⟨_, ⟨sn_iload_n dX1_markOfSteady_41 rfl, sm_il _⟩, ⟨_, ⟨sn_cv_i (N := 3) (T := TX1) ztb_X1_mark22 dX1_markOfSteady_42 rfl rfl zw_3_115 zw_3_117 zw_0_25 zw_1_7 zw_3_118 zmh_X1 zpd_X1_mark22 (Nat.le_of_ble_eq_true rfl) (Nat.le_of_ble_eq_true rfl) rfl rfl, sm_cv _ _ _ _ _ _ _⟩, ⟨_, ⟨sn_ri (len := 1) dX1_markOfSteady_45 rfl, sm_ri⟩, trivial⟩⟩⟩⟩
set_option maxRecDepth 20000 in
theorem kX1_markOfSteady_46 : sx_BK sx_tb yX1_markOfSteady.cls cX1_markOfSteady 2 (some .int) ({ frames := 3, cells := 0, slots := 0, locals := 63 } : Room) false false 0 (fun _ => 0) 46 (bX1_markOfSteady_46) := ⟨_, ⟨sn_aload_n dX1_markOfSteady_46 rfl, sm_al _⟩, ⟨_, ⟨sn_iload_n dX1_markOfSteady_47 rfl, sm_il _⟩, ⟨_, ⟨sn_cv_i (N := 3) (T := TX1) ztb_X1_mark24 dX1_markOfSteady_48 rfl rfl zw_3_123 zw_3_125 zw_0_27 zw_1_7 zw_3_126 zmh_X1 zpd_X1_mark24 (Nat.le_of_ble_eq_true rfl) (Nat.le_of_ble_eq_true rfl) rfl rfl, sm_cv _ _ _ _ _ _ _⟩, ⟨_, ⟨sn_ri (len := 1) dX1_markOfSteady_51 rfl, sm_ri⟩, trivial⟩⟩⟩⟩
set_option maxRecDepth 20000 in
theorem kX1_markOfSteady_52 : sx_BK sx_tb yX1_markOfSteady.cls cX1_markOfSteady 2 (some .int) ({ frames := 3, cells := 0, slots := 0, locals := 63 } : Room) false false 0 (fun _ => 0) 52 (bX1_markOfSteady_52) := ⟨_, ⟨sn_aload_n dX1_markOfSteady_52 rfl, sm_al _⟩, ⟨_, ⟨sn_iload_n dX1_markOfSteady_53 rfl, sm_il _⟩, ⟨_, ⟨sn_cv_i (N := 3) (T := TX1) ztb_X1_mark21 dX1_markOfSteady_54 rfl rfl zw_3_119 zw_3_121 zw_0_26 zw_1_7 zw_3_122 zmh_X1 zpd_X1_mark21 (Nat.le_of_ble_eq_true rfl) (Nat.le_of_ble_eq_true rfl) rfl rfl, sm_cv _ _ _ _ _ _ _⟩, ⟨_, ⟨sn_ri (len := 1) dX1_markOfSteady_57 rfl, sm_ri⟩, trivial⟩⟩⟩⟩
theorem kX1_markOfSteady : ∀ pc, sx_BK sx_tb yX1_markOfSteady.cls cX1_markOfSteady 2 (some .int) ({ frames := 3, cells := 0, slots := 0, locals := 63 } : Room) false false 0 (fun _ => 0) pc (BX1_markOfSteady pc) := fun pc => sx_bk_if (kX1_markOfSteady_0) (sx_bk_if (kX1_markOfSteady_40) (sx_bk_if (kX1_markOfSteady_46) (sx_bk_if (kX1_markOfSteady_52) (trivial))))
theorem okX1_markOfSteady : sx_ok sx_tb BX1_markOfSteady (yX1_markOfSteady, cX1_markOfSteady, 2, some .int, { frames := 3, cells := 0, slots := 0, locals := 63 }) := ⟨by decide, by decide +kernel, false, (fun h => by cases h), kX1_markOfSteady⟩
theorem dX1_sizeOfTwice_0 : decode cX1_sizeOfTwice 0 = .ok (.aload_n 0, 1) := by decide +kernel
theorem dX1_sizeOfTwice_1 : decode cX1_sizeOfTwice 1 = .ok (.getfield 7, 3) := by decide +kernel
theorem dX1_sizeOfTwice_4 : decode cX1_sizeOfTwice 4 = .ok (.getfield 21, 3) := by decide +kernel
theorem dX1_sizeOfTwice_7 : decode cX1_sizeOfTwice 7 = .ok (.bipush 48, 2) := by decide +kernel
theorem dX1_sizeOfTwice_9 : decode cX1_sizeOfTwice 9 = .ok (.iload_n 1, 1) := by decide +kernel
theorem dX1_sizeOfTwice_10 : decode cX1_sizeOfTwice 10 = .ok (.iadd, 1) := by decide +kernel
theorem dX1_sizeOfTwice_11 : decode cX1_sizeOfTwice 11 = .ok (.iaload, 1) := by decide +kernel
theorem dX1_sizeOfTwice_12 : decode cX1_sizeOfTwice 12 = .ok (.iconst 5, 1) := by decide +kernel
theorem dX1_sizeOfTwice_13 : decode cX1_sizeOfTwice 13 = .ok (.if_icmp .ne 11, 3) := by decide +kernel
theorem dX1_sizeOfTwice_16 : decode cX1_sizeOfTwice 16 = .ok (.aload_n 0, 1) := by decide +kernel
theorem dX1_sizeOfTwice_17 : decode cX1_sizeOfTwice 17 = .ok (.iload_n 1, 1) := by decide +kernel
theorem dX1_sizeOfTwice_18 : decode cX1_sizeOfTwice 18 = .ok (.invokevirtual 57, 3) := by decide +kernel
theorem dX1_sizeOfTwice_21 : decode cX1_sizeOfTwice 21 = .ok (.goto 8, 3) := by decide +kernel
theorem dX1_sizeOfTwice_24 : decode cX1_sizeOfTwice 24 = .ok (.aload_n 0, 1) := by decide +kernel
theorem dX1_sizeOfTwice_25 : decode cX1_sizeOfTwice 25 = .ok (.iload_n 1, 1) := by decide +kernel
theorem dX1_sizeOfTwice_26 : decode cX1_sizeOfTwice 26 = .ok (.invokevirtual 60, 3) := by decide +kernel
theorem dX1_sizeOfTwice_29 : decode cX1_sizeOfTwice 29 = .ok (.ireturn, 1) := by decide +kernel
def bX1_sizeOfTwice_0 : List sx_S := [si_al 0, si_get 1 2, si_get 2 0, si_const (nI 48), si_il 1, si_bin (fun x y => x + y), si_iald, si_const (nI 5), si_if2 (fun x y => ¬ x = y) 24 [true, true], si_al 0, si_il 1, si_cv 1 14 1 0 0 0 0, si_go 29 [false, false]]
def bX1_sizeOfTwice_24 : List sx_S := [si_al 0, si_il 1, si_cv 1 13 1 0 0 0 0, si_go 29 [false, false]]
def bX1_sizeOfTwice_29 : List sx_S := [si_ri]
def BX1_sizeOfTwice : Nat → List sx_S := fun pc => if pc = 0 then bX1_sizeOfTwice_0 else if pc = 24 then bX1_sizeOfTwice_24 else if pc = 29 then bX1_sizeOfTwice_29 else []
set_option maxRecDepth 20000 in
theorem kX1_sizeOfTwice_0 : sx_BK sx_tb yX1_sizeOfTwice.cls cX1_sizeOfTwice 2 (some .int) ({ frames := 4, cells := 0, slots := 0, locals := 84 } : Room) false false 0 (fun _ => 0) 0 (bX1_sizeOfTwice_0) := ⟨_, ⟨sn_aload_n dX1_sizeOfTwice_0 rfl, sm_al _⟩, ⟨_, ⟨sn_get (C := RX1) (T := TX1) (N := 3) dX1_sizeOfTwice_1 rfl zinX1 (Nat.le_of_ble_eq_true rfl) zw_1_125, sm_get _ _⟩, ⟨_, ⟨sn_get (C := RX2) (T := TX2) (N := 1) dX1_sizeOfTwice_4 rfl zinX2 (Nat.le_of_ble_eq_true rfl) zw_1_76, sm_get _ _⟩, ⟨_, ⟨sn_bipush dX1_sizeOfTwice_7 (by decide +kernel), sm_const _⟩, ⟨_, ⟨sn_iload_n dX1_sizeOfTwice_9 rfl, sm_il _⟩, ⟨_, ⟨sn_iadd dX1_sizeOfTwice_10, sm_bin _⟩, ⟨_, ⟨sn_iald dX1_sizeOfTwice_11, sm_iald⟩, ⟨_, ⟨sn_iconst dX1_sizeOfTwice_12 (by decide +kernel), sm_const _⟩, ⟨_, ⟨sn_ic_ne dX1_sizeOfTwice_13 (by decide +kernel) rfl, sm_if2 _ _ _⟩, ⟨_, ⟨sn_aload_n dX1_sizeOfTwice_16 rfl, sm_al _⟩, ⟨_, ⟨sn_iload_n dX1_sizeOfTwice_17 rfl, sm_il _⟩, ⟨_, ⟨sn_cv_i (N := 3) (T := TX1) ztb_X1_size14 dX1_sizeOfTwice_18 rfl rfl zw_3_135 zw_3_137 zw_0_30 zw_1_7 zw_3_138 zmh_X1 zpd_X1_size14 (Nat.le_of_ble_eq_true rfl) (Nat.le_of_ble_eq_true rfl) rfl rfl, sm_cv _ _ _ _ _ _ _⟩, ⟨_, ⟨sn_goto (len := 3) dX1_sizeOfTwice_21 (by decide +kernel) rfl, sm_go _ _⟩, trivial⟩⟩⟩⟩⟩⟩⟩⟩⟩⟩⟩⟩⟩
set_option maxRecDepth 20000 in
theorem kX1_sizeOfTwice_24 : sx_BK sx_tb yX1_sizeOfTwice.cls cX1_sizeOfTwice 2 (some .int) ({ frames := 4, cells := 0, slots := 0, locals := 84 } : Room) false false 0 (fun _ => 0) 24 (bX1_sizeOfTwice_24) := ⟨_, ⟨sn_aload_n dX1_sizeOfTwice_24 rfl, sm_al _⟩, ⟨_, ⟨sn_iload_n dX1_sizeOfTwice_25 rfl, sm_il _⟩, ⟨_, ⟨sn_cv_i (N := 3) (T := TX1) ztb_X1_size13 dX1_sizeOfTwice_26 rfl rfl zw_3_139 zw_3_141 zw_0_31 zw_1_7 zw_3_142 zmh_X1 zpd_X1_size13 (Nat.le_of_ble_eq_true rfl) (Nat.le_of_ble_eq_true rfl) rfl rfl, sm_cv _ _ _ _ _ _ _⟩, ⟨_, ⟨sn_fall (len := 0) rfl rfl, sm_go _ _⟩, trivial⟩⟩⟩⟩
set_option maxRecDepth 20000 in
theorem kX1_sizeOfTwice_29 : sx_BK sx_tb yX1_sizeOfTwice.cls cX1_sizeOfTwice 2 (some .int) ({ frames := 4, cells := 0, slots := 0, locals := 84 } : Room) false false 0 (fun _ => 0) 29 (bX1_sizeOfTwice_29) := ⟨_, ⟨sn_ri (len := 1) dX1_sizeOfTwice_29 rfl, sm_ri⟩, trivial⟩
theorem kX1_sizeOfTwice : ∀ pc, sx_BK sx_tb yX1_sizeOfTwice.cls cX1_sizeOfTwice 2 (some .int) ({ frames := 4, cells := 0, slots := 0, locals := 84 } : Room) false false 0 (fun _ => 0) pc (BX1_sizeOfTwice pc) := fun pc => sx_bk_if (kX1_sizeOfTwice_0) (sx_bk_if (kX1_sizeOfTwice_24) (sx_bk_if (kX1_sizeOfTwice_29) (trivial)))
theorem okX1_sizeOfTwice : sx_ok sx_tb BX1_sizeOfTwice (yX1_sizeOfTwice, cX1_sizeOfTwice, 2, some .int, { frames := 4, cells := 0, slots := 0, locals := 84 }) := ⟨by decide, by decide +kernel, false, (fun h => by cases h), kX1_sizeOfTwice⟩
theorem dX1_begin_0 : decode cX1_begin 0 = .ok (.aload_n 0, 1) := by decide +kernel
theorem dX1_begin_1 : decode cX1_begin 1 = .ok (.getfield 17, 3) := by decide +kernel
theorem dX1_begin_4 : decode cX1_begin 4 = .ok (.bipush 16, 2) := by decide +kernel
theorem dX1_begin_6 : decode cX1_begin 6 = .ok (.if_icmp .ge 23, 3) := by decide +kernel
theorem dX1_begin_9 : decode cX1_begin 9 = .ok (.aload_n 0, 1) := by decide +kernel
theorem dX1_begin_10 : decode cX1_begin 10 = .ok (.getfield 13, 3) := by decide +kernel
theorem dX1_begin_13 : decode cX1_begin 13 = .ok (.aload_n 0, 1) := by decide +kernel
theorem dX1_begin_14 : decode cX1_begin 14 = .ok (.getfield 17, 3) := by decide +kernel
theorem dX1_begin_17 : decode cX1_begin 17 = .ok (.iload_n 1, 1) := by decide +kernel
theorem dX1_begin_18 : decode cX1_begin 18 = .ok (.iastore, 1) := by decide +kernel
theorem dX1_begin_19 : decode cX1_begin 19 = .ok (.aload_n 0, 1) := by decide +kernel
theorem dX1_begin_20 : decode cX1_begin 20 = .ok (.dup, 1) := by decide +kernel
theorem dX1_begin_21 : decode cX1_begin 21 = .ok (.getfield 17, 3) := by decide +kernel
theorem dX1_begin_24 : decode cX1_begin 24 = .ok (.iconst 1, 1) := by decide +kernel
theorem dX1_begin_25 : decode cX1_begin 25 = .ok (.iadd, 1) := by decide +kernel
theorem dX1_begin_26 : decode cX1_begin 26 = .ok (.putfield 17, 3) := by decide +kernel
theorem dX1_begin_29 : decode cX1_begin 29 = .ok (.return_, 1) := by decide +kernel
def bX1_begin_0 : List sx_S := [si_al 0, si_get 1 1, si_const (nI 16), si_if2 (fun x y => y ≤ x) 29 [false, false], si_al 0, si_get 1 0, si_al 0, si_get 1 1, si_il 1, si_iast, si_al 0, si_dup, si_get 1 1, si_const 1, si_bin (fun x y => x + y), si_put 1 1 0, si_go 29 [false, false]]
def bX1_begin_29 : List sx_S := [si_rv]
def BX1_begin : Nat → List sx_S := fun pc => if pc = 0 then bX1_begin_0 else if pc = 29 then bX1_begin_29 else []
set_option maxRecDepth 20000 in
theorem kX1_begin_0 : sx_BK sx_tb yX1_begin.cls cX1_begin 2 (none) ({ frames := 0, cells := 0, slots := 0, locals := 0 } : Room) false false 0 (fun _ => 0) 0 (bX1_begin_0) := ⟨_, ⟨sn_aload_n dX1_begin_0 rfl, sm_al _⟩, ⟨_, ⟨sn_get (C := RX1) (T := TX1) (N := 3) dX1_begin_1 rfl zinX1 (Nat.le_of_ble_eq_true rfl) zw_1_123, sm_get _ _⟩, ⟨_, ⟨sn_bipush dX1_begin_4 (by decide +kernel), sm_const _⟩, ⟨_, ⟨sn_ic_ge dX1_begin_6 (by decide +kernel) rfl, sm_if2 _ _ _⟩, ⟨_, ⟨sn_aload_n dX1_begin_9 rfl, sm_al _⟩, ⟨_, ⟨sn_get (C := RX1) (T := TX1) (N := 3) dX1_begin_10 rfl zinX1 (Nat.le_of_ble_eq_true rfl) zw_1_121, sm_get _ _⟩, ⟨_, ⟨sn_aload_n dX1_begin_13 rfl, sm_al _⟩, ⟨_, ⟨sn_get (C := RX1) (T := TX1) (N := 3) dX1_begin_14 rfl zinX1 (Nat.le_of_ble_eq_true rfl) zw_1_123, sm_get _ _⟩, ⟨_, ⟨sn_iload_n dX1_begin_17 rfl, sm_il _⟩, ⟨_, ⟨sn_iast dX1_begin_18, sm_iast⟩, ⟨_, ⟨sn_aload_n dX1_begin_19 rfl, sm_al _⟩, ⟨_, ⟨sn_dup dX1_begin_20, sm_dup⟩, ⟨_, ⟨sn_get (C := RX1) (T := TX1) (N := 3) dX1_begin_21 rfl zinX1 (Nat.le_of_ble_eq_true rfl) zw_1_123, sm_get _ _⟩, ⟨_, ⟨sn_iconst dX1_begin_24 (by decide +kernel), sm_const _⟩, ⟨_, ⟨sn_iadd dX1_begin_25, sm_bin _⟩, ⟨_, ⟨sn_put (C := RX1) (T := TX1) (N := 3) dX1_begin_26 rfl zinX1 tyX1_ok nmX1 (Nat.le_of_ble_eq_true rfl) zw_1_123 rfl (tyX1_ok 1 (Nat.le_of_ble_eq_true rfl)) trivial, sm_put _ _ _⟩, ⟨_, ⟨sn_fall (len := 0) rfl rfl, sm_go _ _⟩, trivial⟩⟩⟩⟩⟩⟩⟩⟩⟩⟩⟩⟩⟩⟩⟩⟩⟩
set_option maxRecDepth 20000 in
theorem kX1_begin_29 : sx_BK sx_tb yX1_begin.cls cX1_begin 2 (none) ({ frames := 0, cells := 0, slots := 0, locals := 0 } : Room) false false 0 (fun _ => 0) 29 (bX1_begin_29) := ⟨_, ⟨sn_rv (len := 1) dX1_begin_29 rfl, sm_rv⟩, trivial⟩
theorem kX1_begin : ∀ pc, sx_BK sx_tb yX1_begin.cls cX1_begin 2 (none) ({ frames := 0, cells := 0, slots := 0, locals := 0 } : Room) false false 0 (fun _ => 0) pc (BX1_begin pc) := fun pc => sx_bk_if (kX1_begin_0) (sx_bk_if (kX1_begin_29) (trivial))
theorem okX1_begin : sx_ok sx_tb BX1_begin (yX1_begin, cX1_begin, 2, none, { frames := 0, cells := 0, slots := 0, locals := 0 }) := ⟨by decide, by decide +kernel, false, (fun h => by cases h), kX1_begin⟩
theorem dX1_size10_0 : decode cX1_size10 0 = .ok (.aload_n 0, 1) := by decide +kernel
theorem dX1_size10_1 : decode cX1_size10 1 = .ok (.bipush 10, 2) := by decide +kernel
theorem dX1_size10_3 : decode cX1_size10 3 = .ok (.invokevirtual 63, 3) := by decide +kernel
theorem dX1_size10_6 : decode cX1_size10 6 = .ok (.aload_n 0, 1) := by decide +kernel
theorem dX1_size10_7 : decode cX1_size10 7 = .ok (.getfield 7, 3) := by decide +kernel
theorem dX1_size10_10 : decode cX1_size10 10 = .ok (.getfield 21, 3) := by decide +kernel
theorem dX1_size10_13 : decode cX1_size10 13 = .ok (.iconst 0, 1) := by decide +kernel
theorem dX1_size10_14 : decode cX1_size10 14 = .ok (.iload_n 1, 1) := by decide +kernel
theorem dX1_size10_15 : decode cX1_size10 15 = .ok (.iadd, 1) := by decide +kernel
theorem dX1_size10_16 : decode cX1_size10 16 = .ok (.iaload, 1) := by decide +kernel
theorem dX1_size10_17 : decode cX1_size10 17 = .ok (.ireturn, 1) := by decide +kernel
def bX1_size10_0 : List sx_S := [si_al 0, si_const (nI 10), si_cv 1 9 1 0 0 0 0, si_al 0, si_get 1 2, si_get 2 0, si_const 0, si_il 1, si_bin (fun x y => x + y), si_iald, si_ri]
def BX1_size10 : Nat → List sx_S := fun pc => if pc = 0 then bX1_size10_0 else []
set_option maxRecDepth 20000 in
theorem kX1_size10_0 : sx_BK sx_tb yX1_size10.cls cX1_size10 2 (some .int) ({ frames := 1, cells := 0, slots := 0, locals := 21 } : Room) false false 0 (fun _ => 0) 0 (bX1_size10_0) := ⟨_, ⟨sn_aload_n dX1_size10_0 rfl, sm_al _⟩, ⟨_, ⟨sn_bipush dX1_size10_1 (by decide +kernel), sm_const _⟩, ⟨_, ⟨sn_cv_v (N := 3) (T := TX1) ztb_X1_begin dX1_size10_3 rfl rfl zw_3_103 zw_3_105 zw_0_22 zw_1_7 zw_3_106 zmh_X1 zpd_X1_begin (Nat.le_of_ble_eq_true rfl) (Nat.le_of_ble_eq_true rfl) rfl rfl, sm_cv _ _ _ _ _ _ _⟩, ⟨_, ⟨sn_aload_n dX1_size10_6 rfl, sm_al _⟩, ⟨_, ⟨sn_get (C := RX1) (T := TX1) (N := 3) dX1_size10_7 rfl zinX1 (Nat.le_of_ble_eq_true rfl) zw_1_125, sm_get _ _⟩, ⟨_, ⟨sn_get (C := RX2) (T := TX2) (N := 1) dX1_size10_10 rfl zinX2 (Nat.le_of_ble_eq_true rfl) zw_1_76, sm_get _ _⟩, ⟨_, ⟨sn_iconst dX1_size10_13 (by decide +kernel), sm_const _⟩, ⟨_, ⟨sn_iload_n dX1_size10_14 rfl, sm_il _⟩, ⟨_, ⟨sn_iadd dX1_size10_15, sm_bin _⟩, ⟨_, ⟨sn_iald dX1_size10_16, sm_iald⟩, ⟨_, ⟨sn_ri (len := 1) dX1_size10_17 rfl, sm_ri⟩, trivial⟩⟩⟩⟩⟩⟩⟩⟩⟩⟩⟩
theorem kX1_size10 : ∀ pc, sx_BK sx_tb yX1_size10.cls cX1_size10 2 (some .int) ({ frames := 1, cells := 0, slots := 0, locals := 21 } : Room) false false 0 (fun _ => 0) pc (BX1_size10 pc) := fun pc => sx_bk_if (kX1_size10_0) (trivial)
theorem okX1_size10 : sx_ok sx_tb BX1_size10 (yX1_size10, cX1_size10, 2, some .int, { frames := 1, cells := 0, slots := 0, locals := 21 }) := ⟨by decide, by decide +kernel, false, (fun h => by cases h), kX1_size10⟩
theorem dX1_size11_0 : decode cX1_size11 0 = .ok (.aload_n 0, 1) := by decide +kernel
theorem dX1_size11_1 : decode cX1_size11 1 = .ok (.bipush 11, 2) := by decide +kernel
theorem dX1_size11_3 : decode cX1_size11 3 = .ok (.invokevirtual 63, 3) := by decide +kernel
theorem dX1_size11_6 : decode cX1_size11 6 = .ok (.aload_n 0, 1) := by decide +kernel
theorem dX1_size11_7 : decode cX1_size11 7 = .ok (.iload_n 1, 1) := by decide +kernel
theorem dX1_size11_8 : decode cX1_size11 8 = .ok (.invokevirtual 36, 3) := by decide +kernel
theorem dX1_size11_11 : decode cX1_size11 11 = .ok (.istore_n 2, 1) := by decide +kernel
theorem dX1_size11_12 : decode cX1_size11 12 = .ok (.iload_n 2, 1) := by decide +kernel
theorem dX1_size11_13 : decode cX1_size11 13 = .ok (.aload_n 0, 1) := by decide +kernel
theorem dX1_size11_14 : decode cX1_size11 14 = .ok (.iload_n 1, 1) := by decide +kernel
theorem dX1_size11_15 : decode cX1_size11 15 = .ok (.invokevirtual 39, 3) := by decide +kernel
theorem dX1_size11_18 : decode cX1_size11 18 = .ok (.iadd, 1) := by decide +kernel
theorem dX1_size11_19 : decode cX1_size11 19 = .ok (.ireturn, 1) := by decide +kernel
def bX1_size11_0 : List sx_S := [si_al 0, si_const (nI 11), si_cv 1 9 1 0 0 0 0, si_al 0, si_il 1, si_cv 1 10 1 0 0 0 0, si_is 2, si_il 2, si_al 0, si_il 1, si_cv 1 7 1 0 0 0 0, si_bin (fun x y => x + y), si_ri]
def BX1_size11 : Nat → List sx_S := fun pc => if pc = 0 then bX1_size11_0 else []
set_option maxRecDepth 20000 in
theorem kX1_size11_0 : sx_BK sx_tb yX1_size11.cls cX1_size11 3 (some .int) ({ frames := 4, cells := 0, slots := 0, locals := 84 } : Room) false false 0 (fun _ => 0) 0 (bX1_size11_0) := ⟨_, ⟨sn_aload_n dX1_size11_0 rfl, sm_al _⟩, ⟨_, ⟨sn_bipush dX1_size11_1 (by decide +kernel), sm_const _⟩, ⟨_, ⟨sn_cv_v (N := 3) (T := TX1) ztb_X1_begin dX1_size11_3 rfl rfl zw_3_103 zw_3_105 zw_0_22 zw_1_7 zw_3_106 zmh_X1 zpd_X1_begin (Nat.le_of_ble_eq_true rfl) (Nat.le_of_ble_eq_true rfl) rfl rfl, sm_cv _ _ _ _ _ _ _⟩, ⟨_, ⟨sn_aload_n dX1_size11_6 rfl, sm_al _⟩, ⟨_, ⟨sn_iload_n dX1_size11_7 rfl, sm_il _⟩, ⟨_, ⟨sn_cv_i (N := 3) (T := TX1) ztb_X1_size10 dX1_size11_8 rfl rfl zw_3_107 zw_3_109 zw_0_23 zw_1_7 zw_3_110 zmh_X1 zpd_X1_size10 (Nat.le_of_ble_eq_true rfl) (Nat.le_of_ble_eq_true rfl) rfl rfl, sm_cv _ _ _ _ _ _ _⟩, ⟨_, ⟨sn_istore_n dX1_size11_11 rfl (Nat.le_of_ble_eq_true rfl), sm_is _⟩, ⟨_, ⟨sn_iload_n dX1_size11_12 rfl, sm_il _⟩, ⟨_, ⟨sn_aload_n dX1_size11_13 rfl, sm_al _⟩, ⟨_, ⟨sn_iload_n dX1_size11_14 rfl, sm_il _⟩, ⟨_, ⟨sn_cv_i (N := 3) (T := TX1) ztb_X1_markOfSteady dX1_size11_15 rfl rfl zw_3_111 zw_3_113 zw_0_24 zw_1_7 zw_3_114 zmh_X1 zpd_X1_markOfSteady (Nat.le_of_ble_eq_true rfl) (Nat.le_of_ble_eq_true rfl) rfl rfl, sm_cv _ _ _ _ _ _ _⟩, ⟨_, ⟨sn_iadd dX1_size11_18, sm_bin _⟩, ⟨_, ⟨sn_ri (len := 1) dX1_size11_19 rfl, sm_ri⟩, trivial⟩⟩⟩⟩⟩⟩⟩⟩⟩⟩⟩⟩⟩
theorem kX1_size11 : ∀ pc, sx_BK sx_tb yX1_size11.cls cX1_size11 3 (some .int) ({ frames := 4, cells := 0, slots := 0, locals := 84 } : Room) false false 0 (fun _ => 0) pc (BX1_size11 pc) := fun pc => sx_bk_if (kX1_size11_0) (trivial)
theorem okX1_size11 : sx_ok sx_tb BX1_size11 (yX1_size11, cX1_size11, 3, some .int, { frames := 4, cells := 0, slots := 0, locals := 84 }) := ⟨by decide, by decide +kernel, false, (fun h => by cases h), kX1_size11⟩
theorem dX1_size12_0 : decode cX1_size12 0 = .ok (.aload_n 0, 1) := by decide +kernel
theorem dX1_size12_1 : decode cX1_size12 1 = .ok (.bipush 12, 2) := by decide +kernel
theorem dX1_size12_3 : decode cX1_size12 3 = .ok (.invokevirtual 63, 3) := by decide +kernel
theorem dX1_size12_6 : decode cX1_size12 6 = .ok (.aload_n 0, 1) := by decide +kernel
theorem dX1_size12_7 : decode cX1_size12 7 = .ok (.iload_n 1, 1) := by decide +kernel
theorem dX1_size12_8 : decode cX1_size12 8 = .ok (.invokevirtual 26, 3) := by decide +kernel
theorem dX1_size12_11 : decode cX1_size12 11 = .ok (.ineg, 1) := by decide +kernel
theorem dX1_size12_12 : decode cX1_size12 12 = .ok (.ireturn, 1) := by decide +kernel
def bX1_size12_0 : List sx_S := [si_al 0, si_const (nI 12), si_cv 1 9 1 0 0 0 0, si_al 0, si_il 1, si_cv 1 11 1 0 0 0 0, si_un (fun x => -x), si_ri]
def BX1_size12 : Nat → List sx_S := fun pc => if pc = 0 then bX1_size12_0 else []
set_option maxRecDepth 20000 in
theorem kX1_size12_0 : sx_BK sx_tb yX1_size12.cls cX1_size12 2 (some .int) ({ frames := 5, cells := 0, slots := 0, locals := 106 } : Room) false false 0 (fun _ => 0) 0 (bX1_size12_0) := ⟨_, ⟨sn_aload_n dX1_size12_0 rfl, sm_al _⟩, ⟨_, ⟨sn_bipush dX1_size12_1 (by decide +kernel), sm_const _⟩, ⟨_, ⟨sn_cv_v (N := 3) (T := TX1) ztb_X1_begin dX1_size12_3 rfl rfl zw_3_103 zw_3_105 zw_0_22 zw_1_7 zw_3_106 zmh_X1 zpd_X1_begin (Nat.le_of_ble_eq_true rfl) (Nat.le_of_ble_eq_true rfl) rfl rfl, sm_cv _ _ _ _ _ _ _⟩, ⟨_, ⟨sn_aload_n dX1_size12_6 rfl, sm_al _⟩, ⟨_, ⟨sn_iload_n dX1_size12_7 rfl, sm_il _⟩, ⟨_, ⟨sn_cv_i (N := 3) (T := TX1) ztb_X1_size11 dX1_size12_8 rfl rfl zw_3_99 zw_3_101 zw_0_21 zw_1_7 zw_3_102 zmh_X1 zpd_X1_size11 (Nat.le_of_ble_eq_true rfl) (Nat.le_of_ble_eq_true rfl) rfl rfl, sm_cv _ _ _ _ _ _ _⟩, ⟨_, ⟨sn_ineg dX1_size12_11, sm_un _⟩, ⟨_, ⟨sn_ri (len := 1) dX1_size12_12 rfl, sm_ri⟩, trivial⟩⟩⟩⟩⟩⟩⟩⟩
theorem kX1_size12 : ∀ pc, sx_BK sx_tb yX1_size12.cls cX1_size12 2 (some .int) ({ frames := 5, cells := 0, slots := 0, locals := 106 } : Room) false false 0 (fun _ => 0) pc (BX1_size12 pc) := fun pc => sx_bk_if (kX1_size12_0) (trivial)
theorem okX1_size12 : sx_ok sx_tb BX1_size12 (yX1_size12, cX1_size12, 2, some .int, { frames := 5, cells := 0, slots := 0, locals := 106 }) := ⟨by decide, by decide +kernel, false, (fun h => by cases h), kX1_size12⟩
theorem dX1_size13_0 : decode cX1_size13 0 = .ok (.aload_n 0, 1) := by decide +kernel
theorem dX1_size13_1 : decode cX1_size13 1 = .ok (.bipush 13, 2) := by decide +kernel
theorem dX1_size13_3 : decode cX1_size13 3 = .ok (.invokevirtual 63, 3) := by decide +kernel
theorem dX1_size13_6 : decode cX1_size13 6 = .ok (.aload_n 0, 1) := by decide +kernel
theorem dX1_size13_7 : decode cX1_size13 7 = .ok (.iload_n 1, 1) := by decide +kernel
theorem dX1_size13_8 : decode cX1_size13 8 = .ok (.invokevirtual 36, 3) := by decide +kernel
theorem dX1_size13_11 : decode cX1_size13 11 = .ok (.bipush 100, 2) := by decide +kernel
theorem dX1_size13_13 : decode cX1_size13 13 = .ok (.isub, 1) := by decide +kernel
theorem dX1_size13_14 : decode cX1_size13 14 = .ok (.ireturn, 1) := by decide +kernel
def bX1_size13_0 : List sx_S := [si_al 0, si_const (nI 13), si_cv 1 9 1 0 0 0 0, si_al 0, si_il 1, si_cv 1 10 1 0 0 0 0, si_const (nI 100), si_bin (fun x y => x - y), si_ri]
def BX1_size13 : Nat → List sx_S := fun pc => if pc = 0 then bX1_size13_0 else []
set_option maxRecDepth 20000 in
theorem kX1_size13_0 : sx_BK sx_tb yX1_size13.cls cX1_size13 2 (some .int) ({ frames := 2, cells := 0, slots := 0, locals := 42 } : Room) false false 0 (fun _ => 0) 0 (bX1_size13_0) := ⟨_, ⟨sn_aload_n dX1_size13_0 rfl, sm_al _⟩, ⟨_, ⟨sn_bipush dX1_size13_1 (by decide +kernel), sm_const _⟩, ⟨_, ⟨sn_cv_v (N := 3) (T := TX1) ztb_X1_begin dX1_size13_3 rfl rfl zw_3_103 zw_3_105 zw_0_22 zw_1_7 zw_3_106 zmh_X1 zpd_X1_begin (Nat.le_of_ble_eq_true rfl) (Nat.le_of_ble_eq_true rfl) rfl rfl, sm_cv _ _ _ _ _ _ _⟩, ⟨_, ⟨sn_aload_n dX1_size13_6 rfl, sm_al _⟩, ⟨_, ⟨sn_iload_n dX1_size13_7 rfl, sm_il _⟩, ⟨_, ⟨sn_cv_i (N := 3) (T := TX1) ztb_X1_size10 dX1_size13_8 rfl rfl zw_3_107 zw_3_109 zw_0_23 zw_1_7 zw_3_110 zmh_X1 zpd_X1_size10 (Nat.le_of_ble_eq_true rfl) (Nat.le_of_ble_eq_true rfl) rfl rfl, sm_cv _ _ _ _ _ _ _⟩, ⟨_, ⟨sn_bipush dX1_size13_11 (by decide +kernel), sm_const _⟩, ⟨_, ⟨sn_isub dX1_size13_13, sm_bin _⟩, ⟨_, ⟨sn_ri (len := 1) dX1_size13_14 rfl, sm_ri⟩, trivial⟩⟩⟩⟩⟩⟩⟩⟩⟩
theorem kX1_size13 : ∀ pc, sx_BK sx_tb yX1_size13.cls cX1_size13 2 (some .int) ({ frames := 2, cells := 0, slots := 0, locals := 42 } : Room) false false 0 (fun _ => 0) pc (BX1_size13 pc) := fun pc => sx_bk_if (kX1_size13_0) (trivial)
theorem okX1_size13 : sx_ok sx_tb BX1_size13 (yX1_size13, cX1_size13, 2, some .int, { frames := 2, cells := 0, slots := 0, locals := 42 }) := ⟨by decide, by decide +kernel, false, (fun h => by cases h), kX1_size13⟩
theorem dX1_size14_0 : decode cX1_size14 0 = .ok (.aload_n 0, 1) := by decide +kernel
theorem dX1_size14_1 : decode cX1_size14 1 = .ok (.bipush 14, 2) := by decide +kernel
theorem dX1_size14_3 : decode cX1_size14 3 = .ok (.invokevirtual 63, 3) := by decide +kernel
theorem dX1_size14_6 : decode cX1_size14 6 = .ok (.iconst 2, 1) := by decide +kernel
theorem dX1_size14_7 : decode cX1_size14 7 = .ok (.aload_n 0, 1) := by decide +kernel
theorem dX1_size14_8 : decode cX1_size14 8 = .ok (.iload_n 1, 1) := by decide +kernel
theorem dX1_size14_9 : decode cX1_size14 9 = .ok (.invokevirtual 60, 3) := by decide +kernel
theorem dX1_size14_12 : decode cX1_size14 12 = .ok (.imul, 1) := by decide +kernel
theorem dX1_size14_13 : decode cX1_size14 13 = .ok (.ireturn, 1) := by decide +kernel
def bX1_size14_0 : List sx_S := [si_al 0, si_const (nI 14), si_cv 1 9 1 0 0 0 0, si_const (nI 2), si_al 0, si_il 1, si_cv 1 13 1 0 0 0 0, si_bin (fun x y => x * y), si_ri]
def BX1_size14 : Nat → List sx_S := fun pc => if pc = 0 then bX1_size14_0 else []
set_option maxRecDepth 20000 in
theorem kX1_size14_0 : sx_BK sx_tb yX1_size14.cls cX1_size14 2 (some .int) ({ frames := 3, cells := 0, slots := 0, locals := 63 } : Room) false false 0 (fun _ => 0) 0 (bX1_size14_0) := ⟨_, ⟨sn_aload_n dX1_size14_0 rfl, sm_al _⟩, ⟨_, ⟨sn_bipush dX1_size14_1 (by decide +kernel), sm_const _⟩, ⟨_, ⟨sn_cv_v (N := 3) (T := TX1) ztb_X1_begin dX1_size14_3 rfl rfl zw_3_103 zw_3_105 zw_0_22 zw_1_7 zw_3_106 zmh_X1 zpd_X1_begin (Nat.le_of_ble_eq_true rfl) (Nat.le_of_ble_eq_true rfl) rfl rfl, sm_cv _ _ _ _ _ _ _⟩, ⟨_, ⟨sn_iconst dX1_size14_6 (by decide +kernel), sm_const _⟩, ⟨_, ⟨sn_aload_n dX1_size14_7 rfl, sm_al _⟩, ⟨_, ⟨sn_iload_n dX1_size14_8 rfl, sm_il _⟩, ⟨_, ⟨sn_cv_i (N := 3) (T := TX1) ztb_X1_size13 dX1_size14_9 rfl rfl zw_3_139 zw_3_141 zw_0_31 zw_1_7 zw_3_142 zmh_X1 zpd_X1_size13 (Nat.le_of_ble_eq_true rfl) (Nat.le_of_ble_eq_true rfl) rfl rfl, sm_cv _ _ _ _ _ _ _⟩, ⟨_, ⟨sn_imul dX1_size14_12, sm_bin _⟩, ⟨_, ⟨sn_ri (len := 1) dX1_size14_13 rfl, sm_ri⟩, trivial⟩⟩⟩⟩⟩⟩⟩⟩⟩
theorem kX1_size14 : ∀ pc, sx_BK sx_tb yX1_size14.cls cX1_size14 2 (some .int) ({ frames := 3, cells := 0, slots := 0, locals := 63 } : Room) false false 0 (fun _ => 0) pc (BX1_size14 pc) := fun pc => sx_bk_if (kX1_size14_0) (trivial)
theorem okX1_size14 : sx_ok sx_tb BX1_size14 (yX1_size14, cX1_size14, 2, some .int, { frames := 3, cells := 0, slots := 0, locals := 63 }) := ⟨by decide, by decide +kernel, false, (fun h => by cases h), kX1_size14⟩
theorem dX1_mark20_0 : decode cX1_mark20 0 = .ok (.aload_n 0, 1) := by decide +kernel
theorem dX1_mark20_1 : decode cX1_mark20 1 = .ok (.bipush 20, 2) := by decide +kernel
theorem dX1_mark20_3 : decode cX1_mark20 3 = .ok (.invokevirtual 63, 3) := by decide +kernel
theorem dX1_mark20_6 : decode cX1_mark20 6 = .ok (.iload_n 1, 1) := by decide +kernel
theorem dX1_mark20_7 : decode cX1_mark20 7 = .ok (.ireturn, 1) := by decide +kernel
def bX1_mark20_0 : List sx_S := [si_al 0, si_const (nI 20), si_cv 1 9 1 0 0 0 0, si_il 1, si_ri]
def BX1_mark20 : Nat → List sx_S := fun pc => if pc = 0 then bX1_mark20_0 else []
set_option maxRecDepth 20000 in
theorem kX1_mark20_0 : sx_BK sx_tb yX1_mark20.cls cX1_mark20 2 (some .int) ({ frames := 1, cells := 0, slots := 0, locals := 21 } : Room) false false 0 (fun _ => 0) 0 (bX1_mark20_0) := ⟨_, ⟨sn_aload_n dX1_mark20_0 rfl, sm_al _⟩, ⟨_, ⟨sn_bipush dX1_mark20_1 (by decide +kernel), sm_const _⟩, ⟨_, ⟨sn_cv_v (N := 3) (T := TX1) ztb_X1_begin dX1_mark20_3 rfl rfl zw_3_103 zw_3_105 zw_0_22 zw_1_7 zw_3_106 zmh_X1 zpd_X1_begin (Nat.le_of_ble_eq_true rfl) (Nat.le_of_ble_eq_true rfl) rfl rfl, sm_cv _ _ _ _ _ _ _⟩, ⟨_, ⟨sn_iload_n dX1_mark20_6 rfl, sm_il _⟩, ⟨_, ⟨sn_ri (len := 1) dX1_mark20_7 rfl, sm_ri⟩, trivial⟩⟩⟩⟩⟩
theorem kX1_mark20 : ∀ pc, sx_BK sx_tb yX1_mark20.cls cX1_mark20 2 (some .int) ({ frames := 1, cells := 0, slots := 0, locals := 21 } : Room) false false 0 (fun _ => 0) pc (BX1_mark20 pc) := fun pc => sx_bk_if (kX1_mark20_0) (trivial)
theorem okX1_mark20 : sx_ok sx_tb BX1_mark20 (yX1_mark20, cX1_mark20, 2, some .int, { frames := 1, cells := 0, slots := 0, locals := 21 }) := ⟨by decide, by decide +kernel, false, (fun h => by cases h), kX1_mark20⟩
theorem dX1_mark21_0 : decode cX1_mark21 0 = .ok (.aload_n 0, 1) := by decide +kernel
theorem dX1_mark21_1 : decode cX1_mark21 1 = .ok (.bipush 21, 2) := by decide +kernel
theorem dX1_mark21_3 : decode cX1_mark21 3 = .ok (.invokevirtual 63, 3) := by decide +kernel
theorem dX1_mark21_6 : decode cX1_mark21 6 = .ok (.aload_n 0, 1) := by decide +kernel
theorem dX1_mark21_7 : decode cX1_mark21 7 = .ok (.bipush 20, 2) := by decide +kernel
theorem dX1_mark21_9 : decode cX1_mark21 9 = .ok (.invokevirtual 63, 3) := by decide +kernel
theorem dX1_mark21_12 : decode cX1_mark21 12 = .ok (.iload_n 1, 1) := by decide +kernel
theorem dX1_mark21_13 : decode cX1_mark21 13 = .ok (.aload_n 0, 1) := by decide +kernel
theorem dX1_mark21_14 : decode cX1_mark21 14 = .ok (.getfield 7, 3) := by decide +kernel
theorem dX1_mark21_17 : decode cX1_mark21 17 = .ok (.getfield 21, 3) := by decide +kernel
theorem dX1_mark21_20 : decode cX1_mark21 20 = .ok (.bipush 6, 2) := by decide +kernel
theorem dX1_mark21_22 : decode cX1_mark21 22 = .ok (.iload_n 1, 1) := by decide +kernel
theorem dX1_mark21_23 : decode cX1_mark21 23 = .ok (.iadd, 1) := by decide +kernel
theorem dX1_mark21_24 : decode cX1_mark21 24 = .ok (.iaload, 1) := by decide +kernel
theorem dX1_mark21_25 : decode cX1_mark21 25 = .ok (.iadd, 1) := by decide +kernel
theorem dX1_mark21_26 : decode cX1_mark21 26 = .ok (.ireturn, 1) := by decide +kernel
def bX1_mark21_0 : List sx_S := [si_al 0, si_const (nI 21), si_cv 1 9 1 0 0 0 0, si_al 0, si_const (nI 20), si_cv 1 9 1 0 0 0 0, si_il 1, si_al 0, si_get 1 2, si_get 2 0, si_const (nI 6), si_il 1, si_bin (fun x y => x + y), si_iald, si_bin (fun x y => x + y), si_ri]
def BX1_mark21 : Nat → List sx_S := fun pc => if pc = 0 then bX1_mark21_0 else []
set_option maxRecDepth 20000 in
theorem kX1_mark21_0 : sx_BK sx_tb yX1_mark21.cls cX1_mark21 2 (some .int) ({ frames := 1, cells := 0, slots := 0, locals := 21 } : Room) false false 0 (fun _ => 0) 0 (bX1_mark21_0) := ⟨_, ⟨sn_aload_n dX1_mark21_0 rfl, sm_al _⟩, ⟨_, ⟨sn_bipush dX1_mark21_1 (by decide +kernel), sm_const _⟩, ⟨_, ⟨sn_cv_v (N := 3) (T := TX1) ztb_X1_begin dX1_mark21_3 rfl rfl zw_3_103 zw_3_105 zw_0_22 zw_1_7 zw_3_106 zmh_X1 zpd_X1_begin (Nat.le_of_ble_eq_true rfl) (Nat.le_of_ble_eq_true rfl) rfl rfl, sm_cv _ _ _ _ _ _ _⟩, ⟨_, ⟨sn_aload_n dX1_mark21_6 rfl, sm_al _⟩, ⟨_, ⟨sn_bipush dX1_mark21_7 (by decide +kernel), sm_const _⟩, ⟨_, ⟨sn_cv_v (N := 3) (T := TX1) ztb_X1_begin dX1_mark21_9 rfl rfl zw_3_103 zw_3_105 zw_0_22 zw_1_7 zw_3_106 zmh_X1 zpd_X1_begin (Nat.le_of_ble_eq_true rfl) (Nat.le_of_ble_eq_true rfl) rfl rfl, sm_cv _ _ _ _ _ _ _⟩, ⟨_, ⟨sn_iload_n dX1_mark21_12 rfl, sm_il _⟩, ⟨_, ⟨sn_aload_n dX1_mark21_13 rfl, sm_al _⟩, ⟨_, ⟨sn_get (C := RX1) (T := TX1) (N := 3) dX1_mark21_14 rfl zinX1 (Nat.le_of_ble_eq_true rfl) zw_1_125, sm_get _ _⟩, ⟨_, ⟨sn_get (C := RX2) (T := TX2) (N := 1) dX1_mark21_17 rfl zinX2 (Nat.le_of_ble_eq_true rfl) zw_1_76, sm_get _ _⟩, ⟨_, ⟨sn_bipush dX1_mark21_20 (by decide +kernel), sm_const _⟩, ⟨_, ⟨sn_iload_n dX1_mark21_22 rfl, sm_il _⟩, ⟨_, ⟨sn_iadd dX1_mark21_23, sm_bin _⟩, ⟨_, ⟨sn_iald dX1_mark21_24, sm_iald⟩, ⟨_, ⟨sn_iadd dX1_mark21_25, sm_bin _⟩, ⟨_, ⟨sn_ri (len := 1) dX1_mark21_26 rfl, sm_ri⟩, trivial⟩⟩⟩⟩⟩⟩⟩⟩⟩⟩⟩⟩⟩⟩⟩⟩
theorem kX1_mark21 : ∀ pc, sx_BK sx_tb yX1_mark21.cls cX1_mark21 2 (some .int) ({ frames := 1, cells := 0, slots := 0, locals := 21 } : Room) false false 0 (fun _ => 0) pc (BX1_mark21 pc) := fun pc => sx_bk_if (kX1_mark21_0) (trivial)
theorem okX1_mark21 : sx_ok sx_tb BX1_mark21 (yX1_mark21, cX1_mark21, 2, some .int, { frames := 1, cells := 0, slots := 0, locals := 21 }) := ⟨by decide, by decide +kernel, false, (fun h => by cases h), kX1_mark21⟩
theorem dX1_mark22_0 : decode cX1_mark22 0 = .ok (.aload_n 0, 1) := by decide +kernel
theorem dX1_mark22_1 : decode cX1_mark22 1 = .ok (.bipush 22, 2) := by decide +kernel
theorem dX1_mark22_3 : decode cX1_mark22 3 = .ok (.invokevirtual 63, 3) := by decide +kernel
theorem dX1_mark22_6 : decode cX1_mark22 6 = .ok (.aload_n 0, 1) := by decide +kernel
theorem dX1_mark22_7 : decode cX1_mark22 7 = .ok (.iload_n 1, 1) := by decide +kernel
theorem dX1_mark22_8 : decode cX1_mark22 8 = .ok (.invokevirtual 54, 3) := by decide +kernel
theorem dX1_mark22_11 : decode cX1_mark22 11 = .ok (.sipush 1000, 3) := by decide +kernel
theorem dX1_mark22_14 : decode cX1_mark22 14 = .ok (.isub, 1) := by decide +kernel
theorem dX1_mark22_15 : decode cX1_mark22 15 = .ok (.ireturn, 1) := by decide +kernel
def bX1_mark22_0 : List sx_S := [si_al 0, si_const (nI 22), si_cv 1 9 1 0 0 0 0, si_al 0, si_il 1, si_cv 1 16 1 0 0 0 0, si_const (nI 1000), si_bin (fun x y => x - y), si_ri]
def BX1_mark22 : Nat → List sx_S := fun pc => if pc = 0 then bX1_mark22_0 else []
set_option maxRecDepth 20000 in
theorem kX1_mark22_0 : sx_BK sx_tb yX1_mark22.cls cX1_mark22 2 (some .int) ({ frames := 2, cells := 0, slots := 0, locals := 42 } : Room) false false 0 (fun _ => 0) 0 (bX1_mark22_0) := ⟨_, ⟨sn_aload_n dX1_mark22_0 rfl, sm_al _⟩, ⟨_, ⟨sn_bipush dX1_mark22_1 (by decide +kernel), sm_const _⟩, ⟨_, ⟨sn_cv_v (N := 3) (T := TX1) ztb_X1_begin dX1_mark22_3 rfl rfl zw_3_103 zw_3_105 zw_0_22 zw_1_7 zw_3_106 zmh_X1 zpd_X1_begin (Nat.le_of_ble_eq_true rfl) (Nat.le_of_ble_eq_true rfl) rfl rfl, sm_cv _ _ _ _ _ _ _⟩, ⟨_, ⟨sn_aload_n dX1_mark22_6 rfl, sm_al _⟩, ⟨_, ⟨sn_iload_n dX1_mark22_7 rfl, sm_il _⟩, ⟨_, ⟨sn_cv_i (N := 3) (T := TX1) ztb_X1_mark21 dX1_mark22_8 rfl rfl zw_3_119 zw_3_121 zw_0_26 zw_1_7 zw_3_122 zmh_X1 zpd_X1_mark21 (Nat.le_of_ble_eq_true rfl) (Nat.le_of_ble_eq_true rfl) rfl rfl, sm_cv _ _ _ _ _ _ _⟩, ⟨_, ⟨sn_sipush dX1_mark22_11 (by decide +kernel), sm_const _⟩, ⟨_, ⟨sn_isub dX1_mark22_14, sm_bin _⟩, ⟨_, ⟨sn_ri (len := 1) dX1_mark22_15 rfl, sm_ri⟩, trivial⟩⟩⟩⟩⟩⟩⟩⟩⟩
theorem kX1_mark22 : ∀ pc, sx_BK sx_tb yX1_mark22.cls cX1_mark22 2 (some .int) ({ frames := 2, cells := 0, slots := 0, locals := 42 } : Room) false false 0 (fun _ => 0) pc (BX1_mark22 pc) := fun pc => sx_bk_if (kX1_mark22_0) (trivial)
theorem okX1_mark22 : sx_ok sx_tb BX1_mark22 (yX1_mark22, cX1_mark22, 2, some .int, { frames := 2, cells := 0, slots := 0, locals := 42 }) := ⟨by decide, by decide +kernel, false, (fun h => by cases h), kX1_mark22⟩
theorem dX1_mark23_0 : decode cX1_mark23 0 = .ok (.aload_n 0, 1) := by decide +kernel
theorem dX1_mark23_1 : decode cX1_mark23 1 = .ok (.bipush 23, 2) := by decide +kernel
theorem dX1_mark23_3 : decode cX1_mark23 3 = .ok (.invokevirtual 63, 3) := by decide +kernel
theorem dX1_mark23_6 : decode cX1_mark23 6 = .ok (.aload_n 0, 1) := by decide +kernel
theorem dX1_mark23_7 : decode cX1_mark23 7 = .ok (.iload_n 1, 1) := by decide +kernel
theorem dX1_mark23_8 : decode cX1_mark23 8 = .ok (.invokevirtual 45, 3) := by decide +kernel
theorem dX1_mark23_11 : decode cX1_mark23 11 = .ok (.istore_n 2, 1) := by decide +kernel
theorem dX1_mark23_12 : decode cX1_mark23 12 = .ok (.iload_n 2, 1) := by decide +kernel
theorem dX1_mark23_13 : decode cX1_mark23 13 = .ok (.aload_n 0, 1) := by decide +kernel
theorem dX1_mark23_14 : decode cX1_mark23 14 = .ok (.iload_n 1, 1) := by decide +kernel
theorem dX1_mark23_15 : decode cX1_mark23 15 = .ok (.invokevirtual 33, 3) := by decide +kernel
theorem dX1_mark23_18 : decode cX1_mark23 18 = .ok (.isub, 1) := by decide +kernel
theorem dX1_mark23_19 : decode cX1_mark23 19 = .ok (.ireturn, 1) := by decide +kernel
def bX1_mark23_0 : List sx_S := [si_al 0, si_const (nI 23), si_cv 1 9 1 0 0 0 0, si_al 0, si_il 1, si_cv 1 15 1 0 0 0 0, si_is 2, si_il 2, si_al 0, si_il 1, si_cv 1 8 1 0 0 0 0, si_bin (fun x y => x - y), si_ri]
def BX1_mark23 : Nat → List sx_S := fun pc => if pc = 0 then bX1_mark23_0 else []
set_option maxRecDepth 20000 in
theorem kX1_mark23_0 : sx_BK sx_tb yX1_mark23.cls cX1_mark23 3 (some .int) ({ frames := 5, cells := 0, slots := 0, locals := 105 } : Room) false false 0 (fun _ => 0) 0 (bX1_mark23_0) := ⟨_, ⟨sn_aload_n dX1_mark23_0 rfl, sm_al _⟩, ⟨_, ⟨sn_bipush dX1_mark23_1 (by decide +kernel), sm_const _⟩, ⟨_, ⟨sn_cv_v (N := 3) (T := TX1) ztb_X1_begin dX1_mark23_3 rfl rfl zw_3_103 zw_3_105 zw_0_22 zw_1_7 zw_3_106 zmh_X1 zpd_X1_begin (Nat.le_of_ble_eq_true rfl) (Nat.le_of_ble_eq_true rfl) rfl rfl, sm_cv _ _ _ _ _ _ _⟩, ⟨_, ⟨sn_aload_n dX1_mark23_6 rfl, sm_al _⟩, ⟨_, ⟨sn_iload_n dX1_mark23_7 rfl, sm_il _⟩, ⟨_, ⟨sn_cv_i (N := 3) (T := TX1) ztb_X1_mark20 dX1_mark23_8 rfl rfl zw_3_151 zw_3_153 zw_0_33 zw_1_7 zw_3_154 zmh_X1 zpd_X1_mark20 (Nat.le_of_ble_eq_true rfl) (Nat.le_of_ble_eq_true rfl) rfl rfl, sm_cv _ _ _ _ _ _ _⟩, ⟨_, ⟨sn_istore_n dX1_mark23_11 rfl (Nat.le_of_ble_eq_true rfl), sm_is _⟩, ⟨_, ⟨sn_iload_n dX1_mark23_12 rfl, sm_il _⟩, ⟨_, ⟨sn_aload_n dX1_mark23_13 rfl, sm_al _⟩, ⟨_, ⟨sn_iload_n dX1_mark23_14 rfl, sm_il _⟩, ⟨_, ⟨sn_cv_i (N := 3) (T := TX1) ztb_X1_sizeOfTwice dX1_mark23_15 rfl rfl zw_3_131 zw_3_133 zw_0_29 zw_1_7 zw_3_134 zmh_X1 zpd_X1_sizeOfTwice (Nat.le_of_ble_eq_true rfl) (Nat.le_of_ble_eq_true rfl) rfl rfl, sm_cv _ _ _ _ _ _ _⟩, ⟨_, ⟨sn_isub dX1_mark23_18, sm_bin _⟩, ⟨_, ⟨sn_ri (len := 1) dX1_mark23_19 rfl, sm_ri⟩, trivial⟩⟩⟩⟩⟩⟩⟩⟩⟩⟩⟩⟩⟩
theorem kX1_mark23 : ∀ pc, sx_BK sx_tb yX1_mark23.cls cX1_mark23 3 (some .int) ({ frames := 5, cells := 0, slots := 0, locals := 105 } : Room) false false 0 (fun _ => 0) pc (BX1_mark23 pc) := fun pc => sx_bk_if (kX1_mark23_0) (trivial)
theorem okX1_mark23 : sx_ok sx_tb BX1_mark23 (yX1_mark23, cX1_mark23, 3, some .int, { frames := 5, cells := 0, slots := 0, locals := 105 }) := ⟨by decide, by decide +kernel, false, (fun h => by cases h), kX1_mark23⟩
theorem dX1_mark24_0 : decode cX1_mark24 0 = .ok (.aload_n 0, 1) := by decide +kernel
theorem dX1_mark24_1 : decode cX1_mark24 1 = .ok (.bipush 24, 2) := by decide +kernel
theorem dX1_mark24_3 : decode cX1_mark24 3 = .ok (.invokevirtual 63, 3) := by decide +kernel
theorem dX1_mark24_6 : decode cX1_mark24 6 = .ok (.iconst 2, 1) := by decide +kernel
theorem dX1_mark24_7 : decode cX1_mark24 7 = .ok (.aload_n 0, 1) := by decide +kernel
theorem dX1_mark24_8 : decode cX1_mark24 8 = .ok (.iload_n 1, 1) := by decide +kernel
theorem dX1_mark24_9 : decode cX1_mark24 9 = .ok (.invokevirtual 54, 3) := by decide +kernel
theorem dX1_mark24_12 : decode cX1_mark24 12 = .ok (.imul, 1) := by decide +kernel
theorem dX1_mark24_13 : decode cX1_mark24 13 = .ok (.ireturn, 1) := by decide +kernel
def bX1_mark24_0 : List sx_S := [si_al 0, si_const (nI 24), si_cv 1 9 1 0 0 0 0, si_const (nI 2), si_al 0, si_il 1, si_cv 1 16 1 0 0 0 0, si_bin (fun x y => x * y), si_ri]
def BX1_mark24 : Nat → List sx_S := fun pc => if pc = 0 then bX1_mark24_0 else []
set_option maxRecDepth 20000 in
theorem kX1_mark24_0 : sx_BK sx_tb yX1_mark24.cls cX1_mark24 2 (some .int) ({ frames := 2, cells := 0, slots := 0, locals := 42 } : Room) false false 0 (fun _ => 0) 0 (bX1_mark24_0) := ⟨_, ⟨sn_aload_n dX1_mark24_0 rfl, sm_al _⟩, ⟨_, ⟨sn_bipush dX1_mark24_1 (by decide +kernel), sm_const _⟩, ⟨_, ⟨sn_cv_v (N := 3) (T := TX1) ztb_X1_begin dX1_mark24_3 rfl rfl zw_3_103 zw_3_105 zw_0_22 zw_1_7 zw_3_106 zmh_X1 zpd_X1_begin (Nat.le_of_ble_eq_true rfl) (Nat.le_of_ble_eq_true rfl) rfl rfl, sm_cv _ _ _ _ _ _ _⟩, ⟨_, ⟨sn_iconst dX1_mark24_6 (by decide +kernel), sm_const _⟩, ⟨_, ⟨sn_aload_n dX1_mark24_7 rfl, sm_al _⟩, ⟨_, ⟨sn_iload_n dX1_mark24_8 rfl, sm_il _⟩, ⟨_, ⟨sn_cv_i (N := 3) (T := TX1) ztb_X1_mark21 dX1_mark24_9 rfl rfl zw_3_119 zw_3_121 zw_0_26 zw_1_7 zw_3_122 zmh_X1 zpd_X1_mark21 (Nat.le_of_ble_eq_true rfl) (Nat.le_of_ble_eq_true rfl) rfl rfl, sm_cv _ _ _ _ _ _ _⟩, ⟨_, ⟨sn_imul dX1_mark24_12, sm_bin _⟩, ⟨_, ⟨sn_ri (len := 1) dX1_mark24_13 rfl, sm_ri⟩, trivial⟩⟩⟩⟩⟩⟩⟩⟩⟩
theorem kX1_mark24 : ∀ pc, sx_BK sx_tb yX1_mark24.cls cX1_mark24 2 (some .int) ({ frames := 2, cells := 0, slots := 0, locals := 42 } : Room) false false 0 (fun _ => 0) pc (BX1_mark24 pc) := fun pc => sx_bk_if (kX1_mark24_0) (trivial)
theorem okX1_mark24 : sx_ok sx_tb BX1_mark24 (yX1_mark24, cX1_mark24, 2, some .int, { frames := 2, cells := 0, slots := 0, locals := 42 }) := ⟨by decide, by decide +kernel, false, (fun h => by cases h), kX1_mark24⟩
theorem dX2_init_0 : decode cX2_init 0 = .ok (.aload_n 0, 1) := by decide +kernel
theorem dX2_init_1 : decode cX2_init 1 = .ok (.invokespecial 3, 3) := by decide +kernel
theorem dX2_init_4 : decode cX2_init 4 = .ok (.aload_n 0, 1) := by decide +kernel
theorem dX2_init_5 : decode cX2_init 5 = .ok (.bipush 62, 2) := by decide +kernel
theorem dX2_init_7 : decode cX2_init 7 = .ok (.newarray .int, 2) := by decide +kernel
theorem dX2_init_9 : decode cX2_init 9 = .ok (.putfield 11, 3) := by decide +kernel
theorem dX2_init_12 : decode cX2_init 12 = .ok (.return_, 1) := by decide +kernel
def bX2_init_0 : List sx_S := [si_al 0, si_oi, si_al 0, si_const (nI 62), si_newa 0 1 62, si_put 2 0 1, si_rv]
def BX2_init : Nat → List sx_S := fun pc => if pc = 0 then bX2_init_0 else []
set_option maxRecDepth 20000 in
theorem kX2_init_0 : sx_BK sx_tb yX2_init.cls cX2_init 1 (none) ({ frames := 1, cells := 1, slots := 62, locals := 20 } : Room) true false 0 (fun _ => 0) 0 (bX2_init_0) := ⟨_, ⟨sn_aload_n dX2_init_0 rfl, sm_al _⟩, ⟨_, ⟨sn_oi dX2_init_1 zw_1_74 zw_1_19 zw_1_20 (Nat.le_of_ble_eq_true rfl) (Nat.le_of_ble_eq_true rfl), sm_oi⟩, ⟨_, ⟨sn_aload_n dX2_init_4 rfl, sm_al _⟩, ⟨_, ⟨sn_bipush dX2_init_5 (by decide +kernel), sm_const _⟩, ⟨_, ⟨sn_newa0 dX2_init_7 zw_1_44, sm_newa _ _ _⟩, ⟨_, ⟨sn_putF (C := RX2) (T := TX2) (N := 1) dX2_init_9 rfl zinX2 tyX2_ok nmX2 (Nat.le_of_ble_eq_true rfl) zw_1_75 rfl rfl rfl (tyX2_ok 0 (Nat.le_of_ble_eq_true rfl)) trivial, sm_put _ _ _⟩, ⟨_, ⟨sn_rv (len := 1) dX2_init_12 rfl, sm_rv⟩, trivial⟩⟩⟩⟩⟩⟩⟩
theorem kX2_init : ∀ pc, sx_BK sx_tb yX2_init.cls cX2_init 1 (none) ({ frames := 1, cells := 1, slots := 62, locals := 20 } : Room) true false 0 (fun _ => 0) pc (BX2_init pc) := fun pc => sx_bk_if (kX2_init_0) (trivial)
theorem okX2_init : sx_ok sx_tb BX2_init (yX2_init, cX2_init, 1, none, { frames := 1, cells := 1, slots := 62, locals := 20 }) := ⟨by decide, by decide +kernel, true, (fun _ => rfl), kX2_init⟩
theorem dX2_clear_0 : decode cX2_clear 0 = .ok (.iconst 0, 1) := by decide +kernel
theorem dX2_clear_1 : decode cX2_clear 1 = .ok (.istore_n 1, 1) := by decide +kernel
theorem dX2_clear_2 : decode cX2_clear 2 = .ok (.iload_n 1, 1) := by decide +kernel
theorem dX2_clear_3 : decode cX2_clear 3 = .ok (.bipush 62, 2) := by decide +kernel
theorem dX2_clear_5 : decode cX2_clear 5 = .ok (.if_icmp .ge 16, 3) := by decide +kernel
theorem dX2_clear_8 : decode cX2_clear 8 = .ok (.aload_n 0, 1) := by decide +kernel
theorem dX2_clear_9 : decode cX2_clear 9 = .ok (.getfield 11, 3) := by decide +kernel
theorem dX2_clear_12 : decode cX2_clear 12 = .ok (.iload_n 1, 1) := by decide +kernel
theorem dX2_clear_13 : decode cX2_clear 13 = .ok (.iconst 0, 1) := by decide +kernel
theorem dX2_clear_14 : decode cX2_clear 14 = .ok (.iastore, 1) := by decide +kernel
theorem dX2_clear_15 : decode cX2_clear 15 = .ok (.iinc 1 1, 3) := by decide +kernel
theorem dX2_clear_18 : decode cX2_clear 18 = .ok (.goto (-16), 3) := by decide +kernel
theorem dX2_clear_21 : decode cX2_clear 21 = .ok (.return_, 1) := by decide +kernel
def bX2_clear_0 : List sx_S := [si_const 0, si_is 1, si_go 2 [true, true]]
def bX2_clear_2 : List sx_S := [si_il 1, si_const (nI 62), si_if2 (fun x y => y ≤ x) 21 [false, false], si_al 0, si_get 2 0, si_il 1, si_const 0, si_iast, si_inc 1 1, si_go 2 [true, true]]
def bX2_clear_21 : List sx_S := [si_rv]
def BX2_clear : Nat → List sx_S := fun pc => if pc = 0 then bX2_clear_0 else if pc = 2 then bX2_clear_2 else if pc = 21 then bX2_clear_21 else []
set_option maxRecDepth 20000 in
theorem kX2_clear_0 : sx_BK sx_tb yX2_clear.cls cX2_clear 2 (none) ({ frames := 0, cells := 0, slots := 0, locals := 0 } : Room) false false 0 (fun _ => 0) 0 (bX2_clear_0) := ⟨_, ⟨sn_iconst dX2_clear_0 (by decide +kernel), sm_const _⟩, ⟨_, ⟨sn_istore_n dX2_clear_1 rfl (Nat.le_of_ble_eq_true rfl), sm_is _⟩, ⟨_, ⟨sn_fall (len := 0) rfl rfl, sm_go _ _⟩, trivial⟩⟩⟩
set_option maxRecDepth 20000 in
theorem kX2_clear_2 : sx_BK sx_tb yX2_clear.cls cX2_clear 2 (none) ({ frames := 0, cells := 0, slots := 0, locals := 0 } : Room) false false 0 (fun _ => 0) 2 (bX2_clear_2) := ⟨_, ⟨sn_iload_n dX2_clear_2 rfl, sm_il _⟩, ⟨_, ⟨sn_bipush dX2_clear_3 (by decide +kernel), sm_const _⟩, ⟨_, ⟨sn_ic_ge dX2_clear_5 (by decide +kernel) rfl, sm_if2 _ _ _⟩, ⟨_, ⟨sn_aload_n dX2_clear_8 rfl, sm_al _⟩, ⟨_, ⟨sn_get (C := RX2) (T := TX2) (N := 1) dX2_clear_9 rfl zinX2 (Nat.le_of_ble_eq_true rfl) zw_1_75, sm_get _ _⟩, ⟨_, ⟨sn_iload_n dX2_clear_12 rfl, sm_il _⟩, ⟨_, ⟨sn_iconst dX2_clear_13 (by decide +kernel), sm_const _⟩, ⟨_, ⟨sn_iast dX2_clear_14, sm_iast⟩, ⟨_, ⟨sn_iinc dX2_clear_15 (by decide +kernel) (Nat.le_of_ble_eq_true rfl), sm_inc _ _⟩, ⟨_, ⟨sn_goto (len := 3) dX2_clear_18 (by decide +kernel) rfl, sm_go _ _⟩, trivial⟩⟩⟩⟩⟩⟩⟩⟩⟩⟩
set_option maxRecDepth 20000 in
theorem kX2_clear_21 : sx_BK sx_tb yX2_clear.cls cX2_clear 2 (none) ({ frames := 0, cells := 0, slots := 0, locals := 0 } : Room) false false 0 (fun _ => 0) 21 (bX2_clear_21) := ⟨_, ⟨sn_rv (len := 1) dX2_clear_21 rfl, sm_rv⟩, trivial⟩
theorem kX2_clear : ∀ pc, sx_BK sx_tb yX2_clear.cls cX2_clear 2 (none) ({ frames := 0, cells := 0, slots := 0, locals := 0 } : Room) false false 0 (fun _ => 0) pc (BX2_clear pc) := fun pc => sx_bk_if (kX2_clear_0) (sx_bk_if (kX2_clear_2) (sx_bk_if (kX2_clear_21) (trivial)))
theorem okX2_clear : sx_ok sx_tb BX2_clear (yX2_clear, cX2_clear, 2, none, { frames := 0, cells := 0, slots := 0, locals := 0 }) := ⟨by decide, by decide +kernel, false, (fun h => by cases h), kX2_clear⟩
theorem dX2_becomes_0 : decode cX2_becomes 0 = .ok (.aload_n 1, 1) := by decide +kernel
theorem dX2_becomes_1 : decode cX2_becomes 1 = .ok (.getfield 11, 3) := by decide +kernel
theorem dX2_becomes_4 : decode cX2_becomes 4 = .ok (.iconst 0, 1) := by decide +kernel
theorem dX2_becomes_5 : decode cX2_becomes 5 = .ok (.aload_n 0, 1) := by decide +kernel
theorem dX2_becomes_6 : decode cX2_becomes 6 = .ok (.getfield 11, 3) := by decide +kernel
theorem dX2_becomes_9 : decode cX2_becomes 9 = .ok (.iconst 0, 1) := by decide +kernel
theorem dX2_becomes_10 : decode cX2_becomes 10 = .ok (.bipush 62, 2) := by decide +kernel
theorem dX2_becomes_12 : decode cX2_becomes 12 = .ok (.invokestatic 15, 3) := by decide +kernel
theorem dX2_becomes_15 : decode cX2_becomes 15 = .ok (.return_, 1) := by decide +kernel
def bX2_becomes_0 : List sx_S := [si_al 1, si_get 2 0, si_const 0, si_al 0, si_get 2 0, si_const 0, si_const (nI 62), si_copy, si_rv]
def BX2_becomes : Nat → List sx_S := fun pc => if pc = 0 then bX2_becomes_0 else []
set_option maxRecDepth 20000 in
theorem kX2_becomes_0 : sx_BK sx_tb yX2_becomes.cls cX2_becomes 2 (none) ({ frames := 1, cells := 0, slots := 0, locals := 26 } : Room) false false 0 (fun _ => 0) 0 (bX2_becomes_0) := ⟨_, ⟨sn_aload_n dX2_becomes_0 rfl, sm_al _⟩, ⟨_, ⟨sn_get (C := RX2) (T := TX2) (N := 1) dX2_becomes_1 rfl zinX2 (Nat.le_of_ble_eq_true rfl) zw_1_75, sm_get _ _⟩, ⟨_, ⟨sn_iconst dX2_becomes_4 (by decide +kernel), sm_const _⟩, ⟨_, ⟨sn_aload_n dX2_becomes_5 rfl, sm_al _⟩, ⟨_, ⟨sn_get (C := RX2) (T := TX2) (N := 1) dX2_becomes_6 rfl zinX2 (Nat.le_of_ble_eq_true rfl) zw_1_75, sm_get _ _⟩, ⟨_, ⟨sn_iconst dX2_becomes_9 (by decide +kernel), sm_const _⟩, ⟨_, ⟨sn_bipush dX2_becomes_10 (by decide +kernel), sm_const _⟩, ⟨_, ⟨sn_copy dX2_becomes_12 zw_2_44 zw_1_211 zw_1_210 zw_1_9 (Nat.le_of_ble_eq_true rfl) (by decide +kernel), sm_copy⟩, ⟨_, ⟨sn_rv (len := 1) dX2_becomes_15 rfl, sm_rv⟩, trivial⟩⟩⟩⟩⟩⟩⟩⟩⟩
theorem kX2_becomes : ∀ pc, sx_BK sx_tb yX2_becomes.cls cX2_becomes 2 (none) ({ frames := 1, cells := 0, slots := 0, locals := 26 } : Room) false false 0 (fun _ => 0) pc (BX2_becomes pc) := fun pc => sx_bk_if (kX2_becomes_0) (trivial)
theorem okX2_becomes : sx_ok sx_tb BX2_becomes (yX2_becomes, cX2_becomes, 2, none, { frames := 1, cells := 0, slots := 0, locals := 26 }) := ⟨by decide, by decide +kernel, false, (fun h => by cases h), kX2_becomes⟩
theorem dX2_isThere_0 : decode cX2_isThere 0 = .ok (.aload_n 0, 1) := by decide +kernel
theorem dX2_isThere_1 : decode cX2_isThere 1 = .ok (.getfield 11, 3) := by decide +kernel
theorem dX2_isThere_4 : decode cX2_isThere 4 = .ok (.bipush 58, 2) := by decide +kernel
theorem dX2_isThere_6 : decode cX2_isThere 6 = .ok (.iaload, 1) := by decide +kernel
theorem dX2_isThere_7 : decode cX2_isThere 7 = .ok (.ifCond .le 7, 3) := by decide +kernel
theorem dX2_isThere_10 : decode cX2_isThere 10 = .ok (.iconst 1, 1) := by decide +kernel
theorem dX2_isThere_11 : decode cX2_isThere 11 = .ok (.goto 4, 3) := by decide +kernel
theorem dX2_isThere_14 : decode cX2_isThere 14 = .ok (.iconst 0, 1) := by decide +kernel
theorem dX2_isThere_15 : decode cX2_isThere 15 = .ok (.ireturn, 1) := by decide +kernel
def bX2_isThere_0 : List sx_S := [si_al 0, si_get 2 0, si_const (nI 58), si_iald, si_if1 (fun x => x ≤ 0) 14 [false], si_const 1, si_go 15 [false]]
def bX2_isThere_14 : List sx_S := [si_const 0, si_go 15 [false]]
def bX2_isThere_15 : List sx_S := [si_rz]
def BX2_isThere : Nat → List sx_S := fun pc => if pc = 0 then bX2_isThere_0 else if pc = 14 then bX2_isThere_14 else if pc = 15 then bX2_isThere_15 else []
set_option maxRecDepth 20000 in
theorem kX2_isThere_0 : sx_BK sx_tb yX2_isThere.cls cX2_isThere 1 (some .boolean) ({ frames := 0, cells := 0, slots := 0, locals := 0 } : Room) false false 0 (fun _ => 0) 0 (bX2_isThere_0) := ⟨_, ⟨sn_aload_n dX2_isThere_0 rfl, sm_al _⟩, ⟨_, ⟨sn_get (C := RX2) (T := TX2) (N := 1) dX2_isThere_1 rfl zinX2 (Nat.le_of_ble_eq_true rfl) zw_1_75, sm_get _ _⟩, ⟨_, ⟨sn_bipush dX2_isThere_4 (by decide +kernel), sm_const _⟩, ⟨_, ⟨sn_iald dX2_isThere_6, sm_iald⟩, ⟨_, ⟨sn_if_le dX2_isThere_7 (by decide +kernel) rfl, sm_if1 _ _ _⟩, ⟨_, ⟨sn_iconst dX2_isThere_10 (by decide +kernel), sm_const _⟩, ⟨_, ⟨sn_goto (len := 3) dX2_isThere_11 (by decide +kernel) rfl, sm_go _ _⟩, trivial⟩⟩⟩⟩⟩⟩⟩
set_option maxRecDepth 20000 in
theorem kX2_isThere_14 : sx_BK sx_tb yX2_isThere.cls cX2_isThere 1 (some .boolean) ({ frames := 0, cells := 0, slots := 0, locals := 0 } : Room) false false 0 (fun _ => 0) 14 (bX2_isThere_14) := ⟨_, ⟨sn_iconst dX2_isThere_14 (by decide +kernel), sm_const _⟩, ⟨_, ⟨sn_fall (len := 0) rfl rfl, sm_go _ _⟩, trivial⟩⟩
set_option maxRecDepth 20000 in
theorem kX2_isThere_15 : sx_BK sx_tb yX2_isThere.cls cX2_isThere 1 (some .boolean) ({ frames := 0, cells := 0, slots := 0, locals := 0 } : Room) false false 0 (fun _ => 0) 15 (bX2_isThere_15) := ⟨_, ⟨sn_rz (len := 1) dX2_isThere_15 rfl, sm_rz⟩, trivial⟩
theorem kX2_isThere : ∀ pc, sx_BK sx_tb yX2_isThere.cls cX2_isThere 1 (some .boolean) ({ frames := 0, cells := 0, slots := 0, locals := 0 } : Room) false false 0 (fun _ => 0) pc (BX2_isThere pc) := fun pc => sx_bk_if (kX2_isThere_0) (sx_bk_if (kX2_isThere_14) (sx_bk_if (kX2_isThere_15) (trivial)))
theorem okX2_isThere : sx_ok sx_tb BX2_isThere (yX2_isThere, cX2_isThere, 1, some .boolean, { frames := 0, cells := 0, slots := 0, locals := 0 }) := ⟨by decide, by decide +kernel, false, (fun h => by cases h), kX2_isThere⟩
theorem dX2_has_0 : decode cX2_has 0 = .ok (.iload_n 1, 1) := by decide +kernel
theorem dX2_has_1 : decode cX2_has 1 = .ok (.ifCond .lt 24, 3) := by decide +kernel
theorem dX2_has_4 : decode cX2_has 4 = .ok (.iload_n 1, 1) := by decide +kernel
theorem dX2_has_5 : decode cX2_has 5 = .ok (.bipush 6, 2) := by decide +kernel
theorem dX2_has_7 : decode cX2_has 7 = .ok (.if_icmp .ge 18, 3) := by decide +kernel
theorem dX2_has_10 : decode cX2_has 10 = .ok (.iload_n 1, 1) := by decide +kernel
theorem dX2_has_11 : decode cX2_has 11 = .ok (.aload_n 0, 1) := by decide +kernel
theorem dX2_has_12 : decode cX2_has 12 = .ok (.getfield 11, 3) := by decide +kernel
theorem dX2_has_15 : decode cX2_has 15 = .ok (.bipush 58, 2) := by decide +kernel
theorem dX2_has_17 : decode cX2_has 17 = .ok (.iaload, 1) := by decide +kernel
theorem dX2_has_18 : decode cX2_has 18 = .ok (.if_icmp .ge 7, 3) := by decide +kernel
theorem dX2_has_21 : decode cX2_has 21 = .ok (.iconst 1, 1) := by decide +kernel
theorem dX2_has_22 : decode cX2_has 22 = .ok (.goto 4, 3) := by decide +kernel
theorem dX2_has_25 : decode cX2_has 25 = .ok (.iconst 0, 1) := by decide +kernel
theorem dX2_has_26 : decode cX2_has 26 = .ok (.ireturn, 1) := by decide +kernel
def bX2_has_0 : List sx_S := [si_il 1, si_if1 (fun x => x < 0) 25 [false, false], si_il 1, si_const (nI 6), si_if2 (fun x y => y ≤ x) 25 [false, false], si_il 1, si_al 0, si_get 2 0, si_const (nI 58), si_iald, si_if2 (fun x y => y ≤ x) 25 [false, false], si_const 1, si_go 26 [false, false]]
def bX2_has_25 : List sx_S := [si_const 0, si_go 26 [false, false]]
def bX2_has_26 : List sx_S := [si_rz]
def BX2_has : Nat → List sx_S := fun pc => if pc = 0 then bX2_has_0 else if pc = 25 then bX2_has_25 else if pc = 26 then bX2_has_26 else []
set_option maxRecDepth 20000 in
theorem kX2_has_0 : sx_BK sx_tb yX2_has.cls cX2_has 2 (some .boolean) ({ frames := 0, cells := 0, slots := 0, locals := 0 } : Room) false false 0 (fun _ => 0) 0 (bX2_has_0) := ⟨_, ⟨sn_iload_n dX2_has_0 rfl, sm_il _⟩, ⟨_, ⟨sn_if_lt dX2_has_1 (by decide +kernel) rfl, sm_if1 _ _ _⟩, ⟨_, ⟨sn_iload_n dX2_has_4 rfl, sm_il _⟩, ⟨_, ⟨sn_bipush dX2_has_5 (by decide +kernel), sm_const _⟩, ⟨_, ⟨sn_ic_ge dX2_has_7 (by decide +kernel) rfl, sm_if2 _ _ _⟩, ⟨_, ⟨sn_iload_n dX2_has_10 rfl, sm_il _⟩, ⟨_, ⟨sn_aload_n dX2_has_11 rfl, sm_al _⟩, ⟨_, ⟨sn_get (C := RX2) (T := TX2) (N := 1) dX2_has_12 rfl zinX2 (Nat.le_of_ble_eq_true rfl) zw_1_75, sm_get _ _⟩, ⟨_, ⟨sn_bipush dX2_has_15 (by decide +kernel), sm_const _⟩, ⟨_, ⟨sn_iald dX2_has_17, sm_iald⟩, ⟨_, ⟨sn_ic_ge dX2_has_18 (by decide +kernel) rfl, sm_if2 _ _ _⟩, ⟨_, ⟨sn_iconst dX2_has_21 (by decide +kernel), sm_const _⟩, ⟨_, ⟨sn_goto (len := 3) dX2_has_22 (by decide +kernel) rfl, sm_go _ _⟩, trivial⟩⟩⟩⟩⟩⟩⟩⟩⟩⟩⟩⟩⟩
set_option maxRecDepth 20000 in
theorem kX2_has_25 : sx_BK sx_tb yX2_has.cls cX2_has 2 (some .boolean) ({ frames := 0, cells := 0, slots := 0, locals := 0 } : Room) false false 0 (fun _ => 0) 25 (bX2_has_25) := ⟨_, ⟨sn_iconst dX2_has_25 (by decide +kernel), sm_const _⟩, ⟨_, ⟨sn_fall (len := 0) rfl rfl, sm_go _ _⟩, trivial⟩⟩
set_option maxRecDepth 20000 in
theorem kX2_has_26 : sx_BK sx_tb yX2_has.cls cX2_has 2 (some .boolean) ({ frames := 0, cells := 0, slots := 0, locals := 0 } : Room) false false 0 (fun _ => 0) 26 (bX2_has_26) := ⟨_, ⟨sn_rz (len := 1) dX2_has_26 rfl, sm_rz⟩, trivial⟩
theorem kX2_has : ∀ pc, sx_BK sx_tb yX2_has.cls cX2_has 2 (some .boolean) ({ frames := 0, cells := 0, slots := 0, locals := 0 } : Room) false false 0 (fun _ => 0) pc (BX2_has pc) := fun pc => sx_bk_if (kX2_has_0) (sx_bk_if (kX2_has_25) (sx_bk_if (kX2_has_26) (trivial)))
theorem okX2_has : sx_ok sx_tb BX2_has (yX2_has, cX2_has, 2, some .boolean, { frames := 0, cells := 0, slots := 0, locals := 0 }) := ⟨by decide, by decide +kernel, false, (fun h => by cases h), kX2_has⟩
theorem dX2_comes_0 : decode cX2_comes 0 = .ok (.aload_n 0, 1) := by decide +kernel
theorem dX2_comes_1 : decode cX2_comes 1 = .ok (.iload_n 1, 1) := by decide +kernel
theorem dX2_comes_2 : decode cX2_comes 2 = .ok (.invokevirtual 21, 3) := by decide +kernel
theorem dX2_comes_5 : decode cX2_comes 5 = .ok (.ifCond .eq 31, 3) := by decide +kernel
theorem dX2_comes_8 : decode cX2_comes 8 = .ok (.aload_n 0, 1) := by decide +kernel
theorem dX2_comes_9 : decode cX2_comes 9 = .ok (.getfield 11, 3) := by decide +kernel
theorem dX2_comes_12 : decode cX2_comes 12 = .ok (.bipush 30, 2) := by decide +kernel
theorem dX2_comes_14 : decode cX2_comes 14 = .ok (.iload_n 1, 1) := by decide +kernel
theorem dX2_comes_15 : decode cX2_comes 15 = .ok (.iadd, 1) := by decide +kernel
theorem dX2_comes_16 : decode cX2_comes 16 = .ok (.iaload, 1) := by decide +kernel
theorem dX2_comes_17 : decode cX2_comes 17 = .ok (.ifCond .ne 19, 3) := by decide +kernel
theorem dX2_comes_20 : decode cX2_comes 20 = .ok (.aload_n 0, 1) := by decide +kernel
theorem dX2_comes_21 : decode cX2_comes 21 = .ok (.getfield 11, 3) := by decide +kernel
theorem dX2_comes_24 : decode cX2_comes 24 = .ok (.bipush 24, 2) := by decide +kernel
theorem dX2_comes_26 : decode cX2_comes 26 = .ok (.iload_n 1, 1) := by decide +kernel
theorem dX2_comes_27 : decode cX2_comes 27 = .ok (.iadd, 1) := by decide +kernel
theorem dX2_comes_28 : decode cX2_comes 28 = .ok (.iaload, 1) := by decide +kernel
theorem dX2_comes_29 : decode cX2_comes 29 = .ok (.ifCond .ne 7, 3) := by decide +kernel
theorem dX2_comes_32 : decode cX2_comes 32 = .ok (.iconst 1, 1) := by decide +kernel
theorem dX2_comes_33 : decode cX2_comes 33 = .ok (.goto 4, 3) := by decide +kernel
theorem dX2_comes_36 : decode cX2_comes 36 = .ok (.iconst 0, 1) := by decide +kernel
theorem dX2_comes_37 : decode cX2_comes 37 = .ok (.ireturn, 1) := by decide +kernel
def bX2_comes_0 : List sx_S := [si_al 0, si_il 1, si_cv 2 24 1 0 0 0 0, si_if1 (fun x => x = 0) 36 [false, false], si_al 0, si_get 2 0, si_const (nI 30), si_il 1, si_bin (fun x y => x + y), si_iald, si_if1 (fun x => ¬ x = 0) 36 [false, false], si_al 0, si_get 2 0, si_const (nI 24), si_il 1, si_bin (fun x y => x + y), si_iald, si_if1 (fun x => ¬ x = 0) 36 [false, false], si_const 1, si_go 37 [false, false]]
def bX2_comes_36 : List sx_S := [si_const 0, si_go 37 [false, false]]
def bX2_comes_37 : List sx_S := [si_rz]
def BX2_comes : Nat → List sx_S := fun pc => if pc = 0 then bX2_comes_0 else if pc = 36 then bX2_comes_36 else if pc = 37 then bX2_comes_37 else []
set_option maxRecDepth 20000 in
theorem kX2_comes_0 : sx_BK sx_tb yX2_comes.cls cX2_comes 2 (some .boolean) ({ frames := 1, cells := 0, slots := 0, locals := 21 } : Room) false false 0 (fun _ => 0) 0 (bX2_comes_0) := ⟨_, ⟨sn_aload_n dX2_comes_0 rfl, sm_al _⟩, ⟨_, ⟨sn_iload_n dX2_comes_1 rfl, sm_il _⟩, ⟨_, ⟨sn_cv_z (N := 1) (T := TX2) ztb_X2_has dX2_comes_2 rfl rfl zw_2_91 zw_2_92 zw_2_93 zw_1_4 zw_2_94 zmh_X2 zpd_X2_has (Nat.le_of_ble_eq_true rfl) (Nat.le_of_ble_eq_true rfl) rfl rfl, sm_cv _ _ _ _ _ _ _⟩, ⟨_, ⟨sn_if_eq dX2_comes_5 (by decide +kernel) rfl, sm_if1 _ _ _⟩, ⟨_, ⟨sn_aload_n dX2_comes_8 rfl, sm_al _⟩, ⟨_, ⟨sn_get (C := RX2) (T := TX2) (N := 1) dX2_comes_9 rfl zinX2 (Nat.le_of_ble_eq_true rfl) zw_1_75, sm_get _ _⟩, ⟨_, ⟨sn_bipush dX2_comes_12 (by decide +kernel), sm_const _⟩, ⟨_, ⟨sn_iload_n dX2_comes_14 rfl, sm_il _⟩, ⟨_, ⟨sn_iadd dX2_comes_15, sm_bin _⟩, ⟨_, ⟨sn_iald dX2_comes_16, sm_iald⟩, ⟨_, ⟨sn_if_ne dX2_comes_17 (by decide +kernel) rfl, sm_if1 _ _ _⟩, ⟨_, ⟨sn_aload_n dX2_comes_20 rfl, sm_al _⟩, ⟨_, ⟨sn_get (C := RX2) (T := TX2) (N := 1) dX2_comes_21 rfl zinX2 (Nat.le_of_ble_eq_true rfl) zw_1_75, sm_get _ _⟩, ⟨_, ⟨sn_bipush dX2_comes_24 (by decide +kernel), sm_const _⟩, ⟨_, ⟨sn_iload_n dX2_comes_26 rfl, sm_il _⟩, ⟨_, ⟨sn_iadd dX2_comes_27, sm_bin _⟩, ⟨_, ⟨sn_iald dX2_comes_28, sm_iald⟩, ⟨_, ⟨sn_if_ne dX2_comes_29 (by decide +kernel) rfl, sm_if1 _ _ _⟩, ⟨_, ⟨sn_iconst dX2_comes_32 (by decide +kernel), sm_const _⟩, ⟨_, ⟨sn_goto (len := 3) dX2_comes_33 (by decide +kernel) rfl, sm_go _ _⟩, trivial⟩⟩⟩⟩⟩⟩⟩⟩⟩⟩⟩⟩⟩⟩⟩⟩⟩⟩⟩⟩
set_option maxRecDepth 20000 in
theorem kX2_comes_36 : sx_BK sx_tb yX2_comes.cls cX2_comes 2 (some .boolean) ({ frames := 1, cells := 0, slots := 0, locals := 21 } : Room) false false 0 (fun _ => 0) 36 (bX2_comes_36) := ⟨_, ⟨sn_iconst dX2_comes_36 (by decide +kernel), sm_const _⟩, ⟨_, ⟨sn_fall (len := 0) rfl rfl, sm_go _ _⟩, trivial⟩⟩
set_option maxRecDepth 20000 in
theorem kX2_comes_37 : sx_BK sx_tb yX2_comes.cls cX2_comes 2 (some .boolean) ({ frames := 1, cells := 0, slots := 0, locals := 21 } : Room) false false 0 (fun _ => 0) 37 (bX2_comes_37) := ⟨_, ⟨sn_rz (len := 1) dX2_comes_37 rfl, sm_rz⟩, trivial⟩
theorem kX2_comes : ∀ pc, sx_BK sx_tb yX2_comes.cls cX2_comes 2 (some .boolean) ({ frames := 1, cells := 0, slots := 0, locals := 21 } : Room) false false 0 (fun _ => 0) pc (BX2_comes pc) := fun pc => sx_bk_if (kX2_comes_0) (sx_bk_if (kX2_comes_36) (sx_bk_if (kX2_comes_37) (trivial)))
theorem okX2_comes : sx_ok sx_tb BX2_comes (yX2_comes, cX2_comes, 2, some .boolean, { frames := 1, cells := 0, slots := 0, locals := 21 }) := ⟨by decide, by decide +kernel, false, (fun h => by cases h), kX2_comes⟩
theorem dX2_isKind_0 : decode cX2_isKind 0 = .ok (.iload_n 0, 1) := by decide +kernel
theorem dX2_isKind_1 : decode cX2_isKind 1 = .ok (.invokestatic 25, 3) := by decide +kernel
theorem dX2_isKind_4 : decode cX2_isKind 4 = .ok (.istore_n 2, 1) := by decide +kernel
theorem dX2_isKind_5 : decode cX2_isKind 5 = .ok (.iload_n 0, 1) := by decide +kernel
theorem dX2_isKind_6 : decode cX2_isKind 6 = .ok (.iload_n 1, 1) := by decide +kernel
theorem dX2_isKind_7 : decode cX2_isKind 7 = .ok (.if_icmp .eq 16, 3) := by decide +kernel
theorem dX2_isKind_10 : decode cX2_isKind 10 = .ok (.iload_n 2, 1) := by decide +kernel
theorem dX2_isKind_11 : decode cX2_isKind 11 = .ok (.iload_n 1, 1) := by decide +kernel
theorem dX2_isKind_12 : decode cX2_isKind 12 = .ok (.if_icmp .eq 11, 3) := by decide +kernel
theorem dX2_isKind_15 : decode cX2_isKind 15 = .ok (.iload_n 2, 1) := by decide +kernel
theorem dX2_isKind_16 : decode cX2_isKind 16 = .ok (.invokestatic 25, 3) := by decide +kernel
theorem dX2_isKind_19 : decode cX2_isKind 19 = .ok (.iload_n 1, 1) := by decide +kernel
theorem dX2_isKind_20 : decode cX2_isKind 20 = .ok (.if_icmp .ne 7, 3) := by decide +kernel
theorem dX2_isKind_23 : decode cX2_isKind 23 = .ok (.iconst 1, 1) := by decide +kernel
theorem dX2_isKind_24 : decode cX2_isKind 24 = .ok (.goto 4, 3) := by decide +kernel
theorem dX2_isKind_27 : decode cX2_isKind 27 = .ok (.iconst 0, 1) := by decide +kernel
theorem dX2_isKind_28 : decode cX2_isKind 28 = .ok (.ireturn, 1) := by decide +kernel
def bX2_isKind_0 : List sx_S := [si_il 0, si_cs 27 1 0 0 0 0, si_is 2, si_il 0, si_il 1, si_if2 (fun x y => x = y) 23 [false, false, false], si_il 2, si_il 1, si_if2 (fun x y => x = y) 23 [false, false, false], si_il 2, si_cs 27 1 0 0 0 0, si_il 1, si_if2 (fun x y => ¬ x = y) 27 [false, false, false], si_go 23 [false, false, false]]
def bX2_isKind_23 : List sx_S := [si_const 1, si_go 28 [false, false, false]]
def bX2_isKind_27 : List sx_S := [si_const 0, si_go 28 [false, false, false]]
def bX2_isKind_28 : List sx_S := [si_rz]
def BX2_isKind : Nat → List sx_S := fun pc => if pc = 0 then bX2_isKind_0 else if pc = 23 then bX2_isKind_23 else if pc = 27 then bX2_isKind_27 else if pc = 28 then bX2_isKind_28 else []
set_option maxRecDepth 20000 in
theorem kX2_isKind_0 : sx_BK sx_tb yX2_isKind.cls cX2_isKind 3 (some .boolean) ({ frames := 1, cells := 0, slots := 0, locals := 20 } : Room) false false 0 (fun _ => 0) 0 (bX2_isKind_0) := ⟨_, ⟨sn_iload_n dX2_isKind_0 rfl, sm_il _⟩, ⟨_, ⟨sn_cs_i ztb_X2_nearestKind dX2_isKind_1 zw_3_87 zw_3_88 zw_1_4 zw_3_89 zmh_X2 zpd_X2_nearestKind (Nat.le_of_ble_eq_true rfl) (Nat.le_of_ble_eq_true rfl) rfl rfl, sm_cs _ _ _ _ _ _⟩, ⟨_, ⟨sn_istore_n dX2_isKind_4 rfl (Nat.le_of_ble_eq_true rfl), sm_is _⟩, ⟨_, ⟨sn_iload_n dX2_isKind_5 rfl, sm_il _⟩, ⟨_, ⟨sn_iload_n dX2_isKind_6 rfl, sm_il _⟩, ⟨_, ⟨sn_ic_eq dX2_isKind_7 (by decide +kernel) rfl, sm_if2 _ _ _⟩, ⟨_, ⟨sn_iload_n dX2_isKind_10 rfl, sm_il _⟩, ⟨_, ⟨sn_iload_n dX2_isKind_11 rfl, sm_il _⟩, ⟨_, ⟨sn_ic_eq dX2_isKind_12 (by decide +kernel) rfl, sm_if2 _ _ _⟩, ⟨_, ⟨sn_iload_n dX2_isKind_15 rfl, sm_il _⟩, ⟨_, ⟨sn_cs_i ztb_X2_nearestKind dX2_isKind_16 zw_3_87 zw_3_88 zw_1_4 zw_3_89 zmh_X2 zpd_X2_nearestKind (Nat.le_of_ble_eq_true rfl) (Nat.le_of_ble_eq_true rfl) rfl rfl, sm_cs _ _ _ _ _ _⟩, ⟨_, ⟨sn_iload_n dX2_isKind_19 rfl, sm_il _⟩, ⟨_, ⟨sn_ic_ne dX2_isKind_20 (by decide +kernel) rfl, sm_if2 _ _ _⟩, ⟨_, ⟨sn_fall (len := 0) rfl rfl, sm_go _ _⟩, trivial⟩⟩⟩⟩⟩⟩⟩⟩⟩⟩⟩⟩⟩⟩
set_option maxRecDepth 20000 in
theorem kX2_isKind_23 : sx_BK sx_tb yX2_isKind.cls cX2_isKind 3 (some .boolean) ({ frames := 1, cells := 0, slots := 0, locals := 20 } : Room) false false 0 (fun _ => 0) 23 (bX2_isKind_23) := ⟨_, ⟨sn_iconst dX2_isKind_23 (by decide +kernel), sm_const _⟩, ⟨_, ⟨sn_goto (len := 3) dX2_isKind_24 (by decide +kernel) rfl, sm_go _ _⟩, trivial⟩⟩
set_option maxRecDepth 20000 in
theorem kX2_isKind_27 : sx_BK sx_tb yX2_isKind.cls cX2_isKind 3 (some .boolean) ({ frames := 1, cells := 0, slots := 0, locals := 20 } : Room) false false 0 (fun _ => 0) 27 (bX2_isKind_27) := ⟨_, ⟨sn_iconst dX2_isKind_27 (by decide +kernel), sm_const _⟩, ⟨_, ⟨sn_fall (len := 0) rfl rfl, sm_go _ _⟩, trivial⟩⟩
set_option maxRecDepth 20000 in
theorem kX2_isKind_28 : sx_BK sx_tb yX2_isKind.cls cX2_isKind 3 (some .boolean) ({ frames := 1, cells := 0, slots := 0, locals := 20 } : Room) false false 0 (fun _ => 0) 28 (bX2_isKind_28) := ⟨_, ⟨sn_rz (len := 1) dX2_isKind_28 rfl, sm_rz⟩, trivial⟩
theorem kX2_isKind : ∀ pc, sx_BK sx_tb yX2_isKind.cls cX2_isKind 3 (some .boolean) ({ frames := 1, cells := 0, slots := 0, locals := 20 } : Room) false false 0 (fun _ => 0) pc (BX2_isKind pc) := fun pc => sx_bk_if (kX2_isKind_0) (sx_bk_if (kX2_isKind_23) (sx_bk_if (kX2_isKind_27) (sx_bk_if (kX2_isKind_28) (trivial))))
theorem okX2_isKind : sx_ok sx_tb BX2_isKind (yX2_isKind, cX2_isKind, 3, some .boolean, { frames := 1, cells := 0, slots := 0, locals := 20 }) := ⟨by decide, by decide +kernel, false, (fun h => by cases h), kX2_isKind⟩
theorem dX2_nearestKind_0 : decode cX2_nearestKind 0 = .ok (.iload_n 0, 1) := by decide +kernel
theorem dX2_nearestKind_1 : decode cX2_nearestKind 1 = .ok (.tableswitch 35 2 5 #[31, 31, 35, 33], 31) := by decide +kernel
theorem dX2_nearestKind_32 : decode cX2_nearestKind 32 = .ok (.iconst 1, 1) := by decide +kernel
theorem dX2_nearestKind_33 : decode cX2_nearestKind 33 = .ok (.ireturn, 1) := by decide +kernel
theorem dX2_nearestKind_34 : decode cX2_nearestKind 34 = .ok (.iconst 4, 1) := by decide +kernel
theorem dX2_nearestKind_35 : decode cX2_nearestKind 35 = .ok (.ireturn, 1) := by decide +kernel
theorem dX2_nearestKind_36 : decode cX2_nearestKind 36 = .ok (.iconst 0, 1) := by decide +kernel
theorem dX2_nearestKind_37 : decode cX2_nearestKind 37 = .ok (.ireturn, 1) := by decide +kernel
def bX2_nearestKind_0 : List sx_S := [si_il 0, si_sw [((nI 2), 32, [false]), ((nI 3), 32, [false]), ((nI 4), 36, [false]), ((nI 5), 34, [false])] 36 [false]]
def bX2_nearestKind_32 : List sx_S := [si_const 1, si_ri]
def bX2_nearestKind_34 : List sx_S := [si_const (nI 4), si_ri]
def bX2_nearestKind_36 : List sx_S := [si_const 0, si_ri]
def BX2_nearestKind : Nat → List sx_S := fun pc => if pc = 0 then bX2_nearestKind_0 else if pc = 32 then bX2_nearestKind_32 else if pc = 34 then bX2_nearestKind_34 else if pc = 36 then bX2_nearestKind_36 else []
set_option maxRecDepth 20000 in
theorem kX2_nearestKind_0 : sx_BK sx_tb yX2_nearestKind.cls cX2_nearestKind 1 (some .int) ({ frames := 0, cells := 0, slots := 0, locals := 0 } : Room) false false 0 (fun _ => 0) 0 (bX2_nearestKind_0) := ⟨_, ⟨sn_iload_n dX2_nearestKind_0 rfl, sm_il _⟩, ⟨_, ⟨sn_tsw (len := 3) dX2_nearestKind_1 (by decide +kernel) (by decide +kernel) (by decide +kernel) rfl, sm_sw _ _ _⟩, trivial⟩⟩
set_option maxRecDepth 20000 in
theorem kX2_nearestKind_32 : sx_BK sx_tb yX2_nearestKind.cls cX2_nearestKind 1 (some .int) ({ frames := 0, cells := 0, slots := 0, locals := 0 } : Room) false false 0 (fun _ => 0) 32 (bX2_nearestKind_32) := ⟨_, ⟨sn_iconst dX2_nearestKind_32 (by decide +kernel), sm_const _⟩, ⟨_, ⟨sn_ri (len := 1) dX2_nearestKind_33 rfl, sm_ri⟩, trivial⟩⟩
set_option maxRecDepth 20000 in
theorem kX2_nearestKind_34 : sx_BK sx_tb yX2_nearestKind.cls cX2_nearestKind 1 (some .int) ({ frames := 0, cells := 0, slots := 0, locals := 0 } : Room) false false 0 (fun _ => 0) 34 (bX2_nearestKind_34) := ⟨_, ⟨sn_iconst dX2_nearestKind_34 (by decide +kernel), sm_const _⟩, ⟨_, ⟨sn_ri (len := 1) dX2_nearestKind_35 rfl, sm_ri⟩, trivial⟩⟩
set_option maxRecDepth 20000 in
theorem kX2_nearestKind_36 : sx_BK sx_tb yX2_nearestKind.cls cX2_nearestKind 1 (some .int) ({ frames := 0, cells := 0, slots := 0, locals := 0 } : Room) false false 0 (fun _ => 0) 36 (bX2_nearestKind_36) := ⟨_, ⟨sn_iconst dX2_nearestKind_36 (by decide +kernel), sm_const _⟩, ⟨_, ⟨sn_ri (len := 1) dX2_nearestKind_37 rfl, sm_ri⟩, trivial⟩⟩
theorem kX2_nearestKind : ∀ pc, sx_BK sx_tb yX2_nearestKind.cls cX2_nearestKind 1 (some .int) ({ frames := 0, cells := 0, slots := 0, locals := 0 } : Room) false false 0 (fun _ => 0) pc (BX2_nearestKind pc) := fun pc => sx_bk_if (kX2_nearestKind_0) (sx_bk_if (kX2_nearestKind_32) (sx_bk_if (kX2_nearestKind_34) (sx_bk_if (kX2_nearestKind_36) (trivial))))
theorem okX2_nearestKind : sx_ok sx_tb BX2_nearestKind (yX2_nearestKind, cX2_nearestKind, 1, some .int, { frames := 0, cells := 0, slots := 0, locals := 0 }) := ⟨by decide, by decide +kernel, false, (fun h => by cases h), kX2_nearestKind⟩
theorem dX2_passWeek_0 : decode cX2_passWeek 0 = .ok (.aload_n 0, 1) := by decide +kernel
theorem dX2_passWeek_1 : decode cX2_passWeek 1 = .ok (.getfield 11, 3) := by decide +kernel
theorem dX2_passWeek_4 : decode cX2_passWeek 4 = .ok (.bipush 57, 2) := by decide +kernel
theorem dX2_passWeek_6 : decode cX2_passWeek 6 = .ok (.iaload, 1) := by decide +kernel
theorem dX2_passWeek_7 : decode cX2_passWeek 7 = .ok (.ifCond .ne 7, 3) := by decide +kernel
theorem dX2_passWeek_10 : decode cX2_passWeek 10 = .ok (.aload_n 0, 1) := by decide +kernel
theorem dX2_passWeek_11 : decode cX2_passWeek 11 = .ok (.invokevirtual 29, 3) := by decide +kernel
theorem dX2_passWeek_14 : decode cX2_passWeek 14 = .ok (.iconst 0, 1) := by decide +kernel
theorem dX2_passWeek_15 : decode cX2_passWeek 15 = .ok (.istore_n 1, 1) := by decide +kernel
theorem dX2_passWeek_16 : decode cX2_passWeek 16 = .ok (.aload_n 0, 1) := by decide +kernel
theorem dX2_passWeek_17 : decode cX2_passWeek 17 = .ok (.getfield 11, 3) := by decide +kernel
theorem dX2_passWeek_20 : decode cX2_passWeek 20 = .ok (.bipush 56, 2) := by decide +kernel
theorem dX2_passWeek_22 : decode cX2_passWeek 22 = .ok (.iaload, 1) := by decide +kernel
theorem dX2_passWeek_23 : decode cX2_passWeek 23 = .ok (.ifCond .le 17, 3) := by decide +kernel
theorem dX2_passWeek_26 : decode cX2_passWeek 26 = .ok (.aload_n 0, 1) := by decide +kernel
theorem dX2_passWeek_27 : decode cX2_passWeek 27 = .ok (.getfield 11, 3) := by decide +kernel
theorem dX2_passWeek_30 : decode cX2_passWeek 30 = .ok (.bipush 56, 2) := by decide +kernel
theorem dX2_passWeek_32 : decode cX2_passWeek 32 = .ok (.dup2, 1) := by decide +kernel
theorem dX2_passWeek_33 : decode cX2_passWeek 33 = .ok (.iaload, 1) := by decide +kernel
theorem dX2_passWeek_34 : decode cX2_passWeek 34 = .ok (.iconst 1, 1) := by decide +kernel
theorem dX2_passWeek_35 : decode cX2_passWeek 35 = .ok (.isub, 1) := by decide +kernel
theorem dX2_passWeek_36 : decode cX2_passWeek 36 = .ok (.iastore, 1) := by decide +kernel
theorem dX2_passWeek_37 : decode cX2_passWeek 37 = .ok (.goto 8, 3) := by decide +kernel
theorem dX2_passWeek_40 : decode cX2_passWeek 40 = .ok (.aload_n 0, 1) := by decide +kernel
theorem dX2_passWeek_41 : decode cX2_passWeek 41 = .ok (.invokevirtual 32, 3) := by decide +kernel
theorem dX2_passWeek_44 : decode cX2_passWeek 44 = .ok (.istore_n 1, 1) := by decide +kernel
theorem dX2_passWeek_45 : decode cX2_passWeek 45 = .ok (.aload_n 0, 1) := by decide +kernel
theorem dX2_passWeek_46 : decode cX2_passWeek 46 = .ok (.getfield 11, 3) := by decide +kernel
theorem dX2_passWeek_49 : decode cX2_passWeek 49 = .ok (.bipush 61, 2) := by decide +kernel
theorem dX2_passWeek_51 : decode cX2_passWeek 51 = .ok (.dup2, 1) := by decide +kernel
theorem dX2_passWeek_52 : decode cX2_passWeek 52 = .ok (.iaload, 1) := by decide +kernel
theorem dX2_passWeek_53 : decode cX2_passWeek 53 = .ok (.iconst 1, 1) := by decide +kernel
theorem dX2_passWeek_54 : decode cX2_passWeek 54 = .ok (.iadd, 1) := by decide +kernel
theorem dX2_passWeek_55 : decode cX2_passWeek 55 = .ok (.iastore, 1) := by decide +kernel
theorem dX2_passWeek_56 : decode cX2_passWeek 56 = .ok (.aload_n 0, 1) := by decide +kernel
theorem dX2_passWeek_57 : decode cX2_passWeek 57 = .ok (.getfield 11, 3) := by decide +kernel
theorem dX2_passWeek_60 : decode cX2_passWeek 60 = .ok (.bipush 60, 2) := by decide +kernel
theorem dX2_passWeek_62 : decode cX2_passWeek 62 = .ok (.iaload, 1) := by decide +kernel
theorem dX2_passWeek_63 : decode cX2_passWeek 63 = .ok (.ifCond .le 46, 3) := by decide +kernel
theorem dX2_passWeek_66 : decode cX2_passWeek 66 = .ok (.aload_n 0, 1) := by decide +kernel
theorem dX2_passWeek_67 : decode cX2_passWeek 67 = .ok (.getfield 11, 3) := by decide +kernel
theorem dX2_passWeek_70 : decode cX2_passWeek 70 = .ok (.bipush 61, 2) := by decide +kernel
theorem dX2_passWeek_72 : decode cX2_passWeek 72 = .ok (.iaload, 1) := by decide +kernel
theorem dX2_passWeek_73 : decode cX2_passWeek 73 = .ok (.aload_n 0, 1) := by decide +kernel
theorem dX2_passWeek_74 : decode cX2_passWeek 74 = .ok (.getfield 11, 3) := by decide +kernel
theorem dX2_passWeek_77 : decode cX2_passWeek 77 = .ok (.bipush 60, 2) := by decide +kernel
theorem dX2_passWeek_79 : decode cX2_passWeek 79 = .ok (.iaload, 1) := by decide +kernel
theorem dX2_passWeek_80 : decode cX2_passWeek 80 = .ok (.irem, 1) := by decide +kernel
theorem dX2_passWeek_81 : decode cX2_passWeek 81 = .ok (.ifCond .ne 28, 3) := by decide +kernel
theorem dX2_passWeek_84 : decode cX2_passWeek 84 = .ok (.aload_n 0, 1) := by decide +kernel
theorem dX2_passWeek_85 : decode cX2_passWeek 85 = .ok (.getfield 11, 3) := by decide +kernel
theorem dX2_passWeek_88 : decode cX2_passWeek 88 = .ok (.bipush 54, 2) := by decide +kernel
theorem dX2_passWeek_90 : decode cX2_passWeek 90 = .ok (.dup2, 1) := by decide +kernel
theorem dX2_passWeek_91 : decode cX2_passWeek 91 = .ok (.iaload, 1) := by decide +kernel
theorem dX2_passWeek_92 : decode cX2_passWeek 92 = .ok (.aload_n 0, 1) := by decide +kernel
theorem dX2_passWeek_93 : decode cX2_passWeek 93 = .ok (.getfield 11, 3) := by decide +kernel
theorem dX2_passWeek_96 : decode cX2_passWeek 96 = .ok (.bipush 55, 2) := by decide +kernel
theorem dX2_passWeek_98 : decode cX2_passWeek 98 = .ok (.iaload, 1) := by decide +kernel
theorem dX2_passWeek_99 : decode cX2_passWeek 99 = .ok (.isub, 1) := by decide +kernel
theorem dX2_passWeek_100 : decode cX2_passWeek 100 = .ok (.iastore, 1) := by decide +kernel
theorem dX2_passWeek_101 : decode cX2_passWeek 101 = .ok (.aload_n 0, 1) := by decide +kernel
theorem dX2_passWeek_102 : decode cX2_passWeek 102 = .ok (.getfield 11, 3) := by decide +kernel
theorem dX2_passWeek_105 : decode cX2_passWeek 105 = .ok (.bipush 55, 2) := by decide +kernel
theorem dX2_passWeek_107 : decode cX2_passWeek 107 = .ok (.iconst 0, 1) := by decide +kernel
theorem dX2_passWeek_108 : decode cX2_passWeek 108 = .ok (.iastore, 1) := by decide +kernel
theorem dX2_passWeek_109 : decode cX2_passWeek 109 = .ok (.aload_n 0, 1) := by decide +kernel
theorem dX2_passWeek_110 : decode cX2_passWeek 110 = .ok (.getfield 11, 3) := by decide +kernel
theorem dX2_passWeek_113 : decode cX2_passWeek 113 = .ok (.bipush 54, 2) := by decide +kernel
theorem dX2_passWeek_115 : decode cX2_passWeek 115 = .ok (.iaload, 1) := by decide +kernel
theorem dX2_passWeek_116 : decode cX2_passWeek 116 = .ok (.ifCond .ge 11, 3) := by decide +kernel
theorem dX2_passWeek_119 : decode cX2_passWeek 119 = .ok (.aload_n 0, 1) := by decide +kernel
theorem dX2_passWeek_120 : decode cX2_passWeek 120 = .ok (.getfield 11, 3) := by decide +kernel
theorem dX2_passWeek_123 : decode cX2_passWeek 123 = .ok (.bipush 57, 2) := by decide +kernel
theorem dX2_passWeek_125 : decode cX2_passWeek 125 = .ok (.iconst 1, 1) := by decide +kernel
theorem dX2_passWeek_126 : decode cX2_passWeek 126 = .ok (.iastore, 1) := by decide +kernel
theorem dX2_passWeek_127 : decode cX2_passWeek 127 = .ok (.iload_n 1, 1) := by decide +kernel
theorem dX2_passWeek_128 : decode cX2_passWeek 128 = .ok (.ireturn, 1) := by decide +kernel
def bX2_passWeek_0 : List sx_S := [si_al 0, si_get 2 0, si_const (nI 57), si_iald, si_if1 (fun x => ¬ x = 0) 14 [true, false], si_al 0, si_cv 2 29 0 0 0 0 0, si_go 14 [true, false]]
def bX2_passWeek_14 : List sx_S := [si_const 0, si_is 1, si_al 0, si_get 2 0, si_const (nI 56), si_iald, si_if1 (fun x => x ≤ 0) 40 [true, false], si_al 0, si_get 2 0, si_const (nI 56), si_dup2, si_iald, si_const 1, si_bin (fun x y => x - y), si_iast, si_go 45 [true, true]]
def bX2_passWeek_40 : List sx_S := [si_al 0, si_cv 2 31 0 0 0 0 0, si_is 1, si_go 45 [true, true]]
def bX2_passWeek_45 : List sx_S := [si_al 0, si_get 2 0, si_const (nI 61), si_dup2, si_iald, si_const 1, si_bin (fun x y => x + y), si_iast, si_al 0, si_get 2 0, si_const (nI 60), si_iald, si_if1 (fun x => x ≤ 0) 109 [true, true], si_al 0, si_get 2 0, si_const (nI 61), si_iald, si_al 0, si_get 2 0, si_const (nI 60), si_iald, si_div (fun x y => x - x / y * y), si_if1 (fun x => ¬ x = 0) 109 [true, true], si_al 0, si_get 2 0, si_const (nI 54), si_dup2, si_iald, si_al 0, si_get 2 0, si_const (nI 55), si_iald, si_bin (fun x y => x - y), si_iast, si_al 0, si_get 2 0, si_const (nI 55), si_const 0, si_iast, si_go 109 [true, true]]
def bX2_passWeek_109 : List sx_S := [si_al 0, si_get 2 0, si_const (nI 54), si_iald, si_if1 (fun x => 0 ≤ x) 127 [false, true], si_al 0, si_get 2 0, si_const (nI 57), si_const 1, si_iast, si_go 127 [false, true]]
def bX2_passWeek_127 : List sx_S := [si_il 1, si_ri]
def BX2_passWeek : Nat → List sx_S := fun pc => if pc = 0 then bX2_passWeek_0 else if pc = 14 then bX2_passWeek_14 else if pc = 40 then bX2_passWeek_40 else if pc = 45 then bX2_passWeek_45 else if pc = 109 then bX2_passWeek_109 else if pc = 127 then bX2_passWeek_127 else []
set_option maxRecDepth 20000 in
theorem kX2_passWeek_0 : sx_BK sx_tb yX2_passWeek.cls cX2_passWeek 2 (some .int) ({ frames := 3, cells := 0, slots := 0, locals := 68 } : Room) false false 0 (fun _ => 0) 0 (bX2_passWeek_0) := ⟨_, ⟨sn_aload_n dX2_passWeek_0 rfl, sm_al _⟩, ⟨_, ⟨sn_get (C := RX2) (T := TX2) (N := 1) dX2_passWeek_1 rfl zinX2 (Nat.le_of_ble_eq_true rfl) zw_1_75, sm_get _ _⟩, ⟨_, ⟨sn_bipush dX2_passWeek_4 (by decide +kernel), sm_const _⟩, ⟨_, ⟨sn_iald dX2_passWeek_6, sm_iald⟩, ⟨_, ⟨sn_if_ne dX2_passWeek_7 (by decide +kernel) rfl, sm_if1 _ _ _⟩, ⟨_, ⟨sn_aload_n dX2_passWeek_10 rfl, sm_al _⟩, ⟨_, ⟨sn_cv_v (N := 1) (T := TX2) ztb_X2_takeAll dX2_passWeek_11 rfl rfl zw_2_83 zw_2_85 zw_0_8 zw_1_4 zw_2_86 zmh_X2 zpd_X2_takeAll (Nat.le_of_ble_eq_true rfl) (Nat.le_of_ble_eq_true rfl) rfl rfl, sm_cv _ _ _ _ _ _ _⟩, ⟨_, ⟨sn_fall (len := 0) rfl rfl, sm_go _ _⟩, trivial⟩⟩⟩⟩⟩⟩⟩⟩
set_option maxRecDepth 20000 in
theorem kX2_passWeek_14 : sx_BK sx_tb yX2_passWeek.cls cX2_passWeek 2 (some .int) ({ frames := 3, cells := 0, slots := 0, locals := 68 } : Room) false false 0 (fun _ => 0) 14 (bX2_passWeek_14) := ⟨_, ⟨sn_iconst dX2_passWeek_14 (by decide +kernel), sm_const _⟩, ⟨_, ⟨sn_istore_n dX2_passWeek_15 rfl (Nat.le_of_ble_eq_true rfl), sm_is _⟩, ⟨_, ⟨sn_aload_n dX2_passWeek_16 rfl, sm_al _⟩, ⟨_, ⟨sn_get (C := RX2) (T := TX2) (N := 1) dX2_passWeek_17 rfl zinX2 (Nat.le_of_ble_eq_true rfl) zw_1_75, sm_get _ _⟩, ⟨_, ⟨sn_bipush dX2_passWeek_20 (by decide +kernel), sm_const _⟩, ⟨_, ⟨sn_iald dX2_passWeek_22, sm_iald⟩, ⟨_, ⟨sn_if_le dX2_passWeek_23 (by decide +kernel) rfl, sm_if1 _ _ _⟩, ⟨_, ⟨sn_aload_n dX2_passWeek_26 rfl, sm_al _⟩, ⟨_, ⟨sn_get (C := RX2) (T := TX2) (N := 1) dX2_passWeek_27 rfl zinX2 (Nat.le_of_ble_eq_true rfl) zw_1_75, sm_get _ _⟩, ⟨_, ⟨sn_bipush dX2_passWeek_30 (by decide +kernel), sm_const _⟩, ⟨_, ⟨sn_dup2 dX2_passWeek_32, sm_dup2⟩, ⟨_, ⟨sn_iald dX2_passWeek_33, sm_iald⟩, ⟨_, ⟨sn_iconst dX2_passWeek_34 (by decide +kernel), sm_const _⟩, ⟨_, ⟨sn_isub dX2_passWeek_35, sm_bin _⟩, ⟨_, ⟨sn_iast dX2_passWeek_36, sm_iast⟩, ⟨_, ⟨sn_goto (len := 3) dX2_passWeek_37 (by decide +kernel) rfl, sm_go _ _⟩, trivial⟩⟩⟩⟩⟩⟩⟩⟩⟩⟩⟩⟩⟩⟩⟩⟩
set_option maxRecDepth 20000 in
theorem kX2_passWeek_40 : sx_BK sx_tb yX2_passWeek.cls cX2_passWeek 2 (some .int) ({ frames := 3, cells := 0, slots := 0, locals := 68 } : Room) false false 0 (fun _ => 0) 40 (bX2_passWeek_40) := ⟨_, ⟨sn_aload_n dX2_passWeek_40 rfl, sm_al _⟩, ⟨_, ⟨sn_cv_i (N := 1) (T := TX2) ztb_X2_payAll dX2_passWeek_41 rfl rfl zw_2_103 zw_2_105 zw_0_10 zw_1_4 zw_2_106 zmh_X2 zpd_X2_payAll (Nat.le_of_ble_eq_true rfl) (Nat.le_of_ble_eq_true rfl) rfl rfl, sm_cv _ _ _ _ _ _ _⟩, ⟨_, ⟨sn_istore_n dX2_passWeek_44 rfl (Nat.le_of_ble_eq_true rfl), sm_is _⟩, ⟨_, ⟨sn_fall (len := 0) rfl rfl, sm_go _ _⟩, trivial⟩⟩⟩⟩
set_option maxRecDepth 20000 in
theorem kX2_passWeek_45 : sx_BK sx_tb yX2_passWeek.cls cX2_passWeek 2 (some .int) ({ frames := 3, cells := 0, slots := 0, locals := 68 } : Room) false false 0 (fun _ => 0) 45 (bX2_passWeek_45) := ⟨_, ⟨sn_aload_n dX2_passWeek_45 rfl, sm_al _⟩, ⟨_, ⟨sn_get (C := RX2) (T := TX2) (N := 1) dX2_passWeek_46 rfl zinX2 (Nat.le_of_ble_eq_true rfl) zw_1_75, sm_get _ _⟩, ⟨_, ⟨sn_bipush dX2_passWeek_49 (by decide +kernel), sm_const _⟩, ⟨_, ⟨sn_dup2 dX2_passWeek_51, sm_dup2⟩, ⟨_, ⟨sn_iald dX2_passWeek_52, sm_iald⟩, ⟨_, ⟨sn_iconst dX2_passWeek_53 (by decide +kernel), sm_const _⟩, ⟨_, ⟨sn_iadd dX2_passWeek_54, sm_bin _⟩, ⟨_, ⟨sn_iast dX2_passWeek_55, sm_iast⟩, ⟨_, ⟨sn_aload_n dX2_passWeek_56 rfl, sm_al _⟩, ⟨_, ⟨sn_get (C := RX2) (T := TX2) (N := 1) dX2_passWeek_57 rfl zinX2 (Nat.le_of_ble_eq_true rfl) zw_1_75, sm_get _ _⟩, ⟨_, ⟨sn_bipush dX2_passWeek_60 (by decide +kernel), sm_const _⟩, ⟨_, ⟨sn_iald dX2_passWeek_62, sm_iald⟩, ⟨_, ⟨sn_if_le dX2_passWeek_63 (by decide +kernel) rfl, sm_if1 _ _ _⟩, ⟨_, ⟨sn_aload_n dX2_passWeek_66 rfl, sm_al _⟩, ⟨_, ⟨sn_get (C := RX2) (T := TX2) (N := 1) dX2_passWeek_67 rfl zinX2 (Nat.le_of_ble_eq_true rfl) zw_1_75, sm_get _ _⟩, ⟨_, ⟨sn_bipush dX2_passWeek_70 (by decide +kernel), sm_const _⟩, ⟨_, ⟨sn_iald dX2_passWeek_72, sm_iald⟩, ⟨_, ⟨sn_aload_n dX2_passWeek_73 rfl, sm_al _⟩, ⟨_, ⟨sn_get (C := RX2) (T := TX2) (N := 1) dX2_passWeek_74 rfl zinX2 (Nat.le_of_ble_eq_true rfl) zw_1_75, sm_get _ _⟩, ⟨_, ⟨sn_bipush dX2_passWeek_77 (by decide +kernel), sm_const _⟩, ⟨_, ⟨sn_iald dX2_passWeek_79, sm_iald⟩, ⟨_, ⟨sn_irem dX2_passWeek_80, sm_div _⟩, ⟨_, ⟨sn_if_ne dX2_passWeek_81 (by decide +kernel) rfl, sm_if1 _ _ _⟩, ⟨_, ⟨sn_aload_n dX2_passWeek_84 rfl, sm_al _⟩, ⟨_, ⟨sn_get (C := RX2) (T := TX2) (N := 1) dX2_passWeek_85 rfl zinX2 (Nat.le_of_ble_eq_true rfl) zw_1_75, sm_get _ _⟩, ⟨_, ⟨sn_bipush dX2_passWeek_88 (by decide +kernel), sm_const _⟩, ⟨_, ⟨sn_dup2 dX2_passWeek_90, sm_dup2⟩, ⟨_, ⟨sn_iald dX2_passWeek_91, sm_iald⟩, ⟨_, ⟨sn_aload_n dX2_passWeek_92 rfl, sm_al _⟩, ⟨_, ⟨sn_get (C := RX2) (T := TX2) (N := 1) dX2_passWeek_93 rfl zinX2 (Nat.le_of_ble_eq_true rfl) zw_1_75, sm_get _ _⟩, ⟨_, ⟨sn_bipush dX2_passWeek_96 (by decide +kernel), sm_const _⟩, ⟨_, ⟨sn_iald dX2_passWeek_98, sm_iald⟩, ⟨_, ⟨sn_isub dX2_passWeek_99, sm_bin _⟩, ⟨_, ⟨sn_iast dX2_passWeek_100, sm_iast⟩, ⟨_, ⟨sn_aload_n dX2_passWeek_101 rfl, sm_al _⟩, ⟨_, ⟨sn_get (C := RX2) (T := TX2) (N := 1) dX2_passWeek_102 rfl zinX2 (Nat.le_of_ble_eq_true rfl) zw_1_75, sm_get _ _⟩, ⟨_, ⟨sn_bipush dX2_passWeek_105 (by decide +kernel), sm_const _⟩, ⟨_, ⟨sn_iconst dX2_passWeek_107 (by decide +kernel), sm_const _⟩, ⟨_, ⟨sn_iast dX2_passWeek_108, sm_iast⟩, ⟨_, ⟨sn_fall (len := 0) rfl rfl, sm_go _ _⟩, trivial⟩⟩⟩⟩⟩⟩⟩⟩⟩⟩⟩⟩⟩⟩⟩⟩⟩⟩⟩⟩⟩⟩⟩⟩⟩⟩⟩⟩⟩⟩⟩⟩⟩⟩⟩⟩⟩⟩⟩⟩
set_option maxRecDepth 20000 in
theorem kX2_passWeek_109 : sx_BK sx_tb yX2_passWeek.cls cX2_passWeek 2 (some .int) ({ frames := 3, cells := 0, slots := 0, locals := 68 } : Room) false false 0 (fun _ => 0) 109 (bX2_passWeek_109) := ⟨_, ⟨sn_aload_n dX2_passWeek_109 rfl, sm_al _⟩, ⟨_, ⟨sn_get (C := RX2) (T := TX2) (N := 1) dX2_passWeek_110 rfl zinX2 (Nat.le_of_ble_eq_true rfl) zw_1_75, sm_get _ _⟩, ⟨_, ⟨sn_bipush dX2_passWeek_113 (by decide +kernel), sm_const _⟩, ⟨_, ⟨sn_iald dX2_passWeek_115, sm_iald⟩, ⟨_, ⟨sn_if_ge dX2_passWeek_116 (by decide +kernel) rfl, sm_if1 _ _ _⟩, ⟨_, ⟨sn_aload_n dX2_passWeek_119 rfl, sm_al _⟩, ⟨_, ⟨sn_get (C := RX2) (T := TX2) (N := 1) dX2_passWeek_120 rfl zinX2 (Nat.le_of_ble_eq_true rfl) zw_1_75, sm_get _ _⟩, ⟨_, ⟨sn_bipush dX2_passWeek_123 (by decide +kernel), sm_const _⟩, ⟨_, ⟨sn_iconst dX2_passWeek_125 (by decide +kernel), sm_const _⟩, ⟨_, ⟨sn_iast dX2_passWeek_126, sm_iast⟩, ⟨_, ⟨sn_fall (len := 0) rfl rfl, sm_go _ _⟩, trivial⟩⟩⟩⟩⟩⟩⟩⟩⟩⟩⟩
set_option maxRecDepth 20000 in
theorem kX2_passWeek_127 : sx_BK sx_tb yX2_passWeek.cls cX2_passWeek 2 (some .int) ({ frames := 3, cells := 0, slots := 0, locals := 68 } : Room) false false 0 (fun _ => 0) 127 (bX2_passWeek_127) := ⟨_, ⟨sn_iload_n dX2_passWeek_127 rfl, sm_il _⟩, ⟨_, ⟨sn_ri (len := 1) dX2_passWeek_128 rfl, sm_ri⟩, trivial⟩⟩
theorem kX2_passWeek : ∀ pc, sx_BK sx_tb yX2_passWeek.cls cX2_passWeek 2 (some .int) ({ frames := 3, cells := 0, slots := 0, locals := 68 } : Room) false false 0 (fun _ => 0) pc (BX2_passWeek pc) := fun pc => sx_bk_if (kX2_passWeek_0) (sx_bk_if (kX2_passWeek_14) (sx_bk_if (kX2_passWeek_40) (sx_bk_if (kX2_passWeek_45) (sx_bk_if (kX2_passWeek_109) (sx_bk_if (kX2_passWeek_127) (trivial))))))
theorem okX2_passWeek : sx_ok sx_tb BX2_passWeek (yX2_passWeek, cX2_passWeek, 2, some .int, { frames := 3, cells := 0, slots := 0, locals := 68 }) := ⟨by decide, by decide +kernel, false, (fun h => by cases h), kX2_passWeek⟩
theorem dX2_takeAll_0 : decode cX2_takeAll 0 = .ok (.iconst 0, 1) := by decide +kernel
theorem dX2_takeAll_1 : decode cX2_takeAll 1 = .ok (.istore_n 1, 1) := by decide +kernel
theorem dX2_takeAll_2 : decode cX2_takeAll 2 = .ok (.iload_n 1, 1) := by decide +kernel
theorem dX2_takeAll_3 : decode cX2_takeAll 3 = .ok (.bipush 6, 2) := by decide +kernel
theorem dX2_takeAll_5 : decode cX2_takeAll 5 = .ok (.if_icmp .ge 22, 3) := by decide +kernel
theorem dX2_takeAll_8 : decode cX2_takeAll 8 = .ok (.aload_n 0, 1) := by decide +kernel
theorem dX2_takeAll_9 : decode cX2_takeAll 9 = .ok (.iload_n 1, 1) := by decide +kernel
theorem dX2_takeAll_10 : decode cX2_takeAll 10 = .ok (.invokevirtual 36, 3) := by decide +kernel
theorem dX2_takeAll_13 : decode cX2_takeAll 13 = .ok (.ifCond .eq 8, 3) := by decide +kernel
theorem dX2_takeAll_16 : decode cX2_takeAll 16 = .ok (.aload_n 0, 1) := by decide +kernel
theorem dX2_takeAll_17 : decode cX2_takeAll 17 = .ok (.iload_n 1, 1) := by decide +kernel
theorem dX2_takeAll_18 : decode cX2_takeAll 18 = .ok (.invokevirtual 39, 3) := by decide +kernel
theorem dX2_takeAll_21 : decode cX2_takeAll 21 = .ok (.iinc 1 1, 3) := by decide +kernel
theorem dX2_takeAll_24 : decode cX2_takeAll 24 = .ok (.goto (-22), 3) := by decide +kernel
theorem dX2_takeAll_27 : decode cX2_takeAll 27 = .ok (.return_, 1) := by decide +kernel
def bX2_takeAll_0 : List sx_S := [si_const 0, si_is 1, si_go 2 [true, true]]
def bX2_takeAll_2 : List sx_S := [si_il 1, si_const (nI 6), si_if2 (fun x y => y ≤ x) 27 [false, false], si_al 0, si_il 1, si_cv 2 25 1 0 0 0 0, si_if1 (fun x => x = 0) 21 [true, true], si_al 0, si_il 1, si_cv 2 30 1 0 0 0 0, si_go 21 [true, true]]
def bX2_takeAll_21 : List sx_S := [si_inc 1 1, si_go 2 [true, true]]
def bX2_takeAll_27 : List sx_S := [si_rv]
def BX2_takeAll : Nat → List sx_S := fun pc => if pc = 0 then bX2_takeAll_0 else if pc = 2 then bX2_takeAll_2 else if pc = 21 then bX2_takeAll_21 else if pc = 27 then bX2_takeAll_27 else []
set_option maxRecDepth 20000 in
theorem kX2_takeAll_0 : sx_BK sx_tb yX2_takeAll.cls cX2_takeAll 2 (none) ({ frames := 2, cells := 0, slots := 0, locals := 44 } : Room) false false 0 (fun _ => 0) 0 (bX2_takeAll_0) := ⟨_, ⟨sn_iconst dX2_takeAll_0 (by decide +kernel), sm_const _⟩, ⟨_, ⟨sn_istore_n dX2_takeAll_1 rfl (Nat.le_of_ble_eq_true rfl), sm_is _⟩, ⟨_, ⟨sn_fall (len := 0) rfl rfl, sm_go _ _⟩, trivial⟩⟩⟩
set_option maxRecDepth 20000 in
theorem kX2_takeAll_2 : sx_BK sx_tb yX2_takeAll.cls cX2_takeAll 2 (none) ({ frames := 2, cells := 0, slots := 0, locals := 44 } : Room) false false 0 (fun _ => 0) 2 (bX2_takeAll_2) := ⟨_, ⟨sn_iload_n dX2_takeAll_2 rfl, sm_il _⟩, ⟨_, ⟨sn_bipush dX2_takeAll_3 (by decide +kernel), sm_const _⟩, ⟨_, ⟨sn_ic_ge dX2_takeAll_5 (by decide +kernel) rfl, sm_if2 _ _ _⟩, ⟨_, ⟨sn_aload_n dX2_takeAll_8 rfl, sm_al _⟩, ⟨_, ⟨sn_iload_n dX2_takeAll_9 rfl, sm_il _⟩, ⟨_, ⟨sn_cv_z (N := 1) (T := TX2) ztb_X2_comes dX2_takeAll_10 rfl rfl zw_2_87 zw_2_88 zw_2_89 zw_1_4 zw_2_90 zmh_X2 zpd_X2_comes (Nat.le_of_ble_eq_true rfl) (Nat.le_of_ble_eq_true rfl) rfl rfl, sm_cv _ _ _ _ _ _ _⟩, ⟨_, ⟨sn_if_eq dX2_takeAll_13 (by decide +kernel) rfl, sm_if1 _ _ _⟩, ⟨_, ⟨sn_aload_n dX2_takeAll_16 rfl, sm_al _⟩, ⟨_, ⟨sn_iload_n dX2_takeAll_17 rfl, sm_il _⟩, ⟨_, ⟨sn_cv_v (N := 1) (T := TX2) ztb_X2_take dX2_takeAll_18 rfl rfl zw_2_95 zw_2_97 zw_0_9 zw_1_4 zw_2_98 zmh_X2 zpd_X2_take (Nat.le_of_ble_eq_true rfl) (Nat.le_of_ble_eq_true rfl) rfl rfl, sm_cv _ _ _ _ _ _ _⟩, ⟨_, ⟨sn_fall (len := 0) rfl rfl, sm_go _ _⟩, trivial⟩⟩⟩⟩⟩⟩⟩⟩⟩⟩⟩
set_option maxRecDepth 20000 in
theorem kX2_takeAll_21 : sx_BK sx_tb yX2_takeAll.cls cX2_takeAll 2 (none) ({ frames := 2, cells := 0, slots := 0, locals := 44 } : Room) false false 0 (fun _ => 0) 21 (bX2_takeAll_21) := ⟨_, ⟨sn_iinc dX2_takeAll_21 (by decide +kernel) (Nat.le_of_ble_eq_true rfl), sm_inc _ _⟩, ⟨_, ⟨sn_goto (len := 3) dX2_takeAll_24 (by decide +kernel) rfl, sm_go _ _⟩, trivial⟩⟩
set_option maxRecDepth 20000 in
theorem kX2_takeAll_27 : sx_BK sx_tb yX2_takeAll.cls cX2_takeAll 2 (none) ({ frames := 2, cells := 0, slots := 0, locals := 44 } : Room) false false 0 (fun _ => 0) 27 (bX2_takeAll_27) := ⟨_, ⟨sn_rv (len := 1) dX2_takeAll_27 rfl, sm_rv⟩, trivial⟩
theorem kX2_takeAll : ∀ pc, sx_BK sx_tb yX2_takeAll.cls cX2_takeAll 2 (none) ({ frames := 2, cells := 0, slots := 0, locals := 44 } : Room) false false 0 (fun _ => 0) pc (BX2_takeAll pc) := fun pc => sx_bk_if (kX2_takeAll_0) (sx_bk_if (kX2_takeAll_2) (sx_bk_if (kX2_takeAll_21) (sx_bk_if (kX2_takeAll_27) (trivial))))
theorem okX2_takeAll : sx_ok sx_tb BX2_takeAll (yX2_takeAll, cX2_takeAll, 2, none, { frames := 2, cells := 0, slots := 0, locals := 44 }) := ⟨by decide, by decide +kernel, false, (fun h => by cases h), kX2_takeAll⟩
theorem dX2_take_0 : decode cX2_take 0 = .ok (.iconst 0, 1) := by decide +kernel
theorem dX2_take_1 : decode cX2_take 1 = .ok (.aload_n 0, 1) := by decide +kernel
theorem dX2_take_2 : decode cX2_take 2 = .ok (.getfield 11, 3) := by decide +kernel
theorem dX2_take_5 : decode cX2_take 5 = .ok (.bipush 18, 2) := by decide +kernel
theorem dX2_take_7 : decode cX2_take 7 = .ok (.iload_n 1, 1) := by decide +kernel
theorem dX2_take_8 : decode cX2_take 8 = .ok (.iadd, 1) := by decide +kernel
theorem dX2_take_9 : decode cX2_take 9 = .ok (.iaload, 1) := by decide +kernel
theorem dX2_take_10 : decode cX2_take 10 = .ok (.aload_n 0, 1) := by decide +kernel
theorem dX2_take_11 : decode cX2_take 11 = .ok (.getfield 11, 3) := by decide +kernel
theorem dX2_take_14 : decode cX2_take 14 = .ok (.iconst 0, 1) := by decide +kernel
theorem dX2_take_15 : decode cX2_take 15 = .ok (.iload_n 1, 1) := by decide +kernel
theorem dX2_take_16 : decode cX2_take 16 = .ok (.iadd, 1) := by decide +kernel
theorem dX2_take_17 : decode cX2_take 17 = .ok (.iaload, 1) := by decide +kernel
theorem dX2_take_18 : decode cX2_take 18 = .ok (.isub, 1) := by decide +kernel
theorem dX2_take_19 : decode cX2_take 19 = .ok (.invokestatic 43, 3) := by decide +kernel
theorem dX2_take_22 : decode cX2_take 22 = .ok (.istore_n 2, 1) := by decide +kernel
theorem dX2_take_23 : decode cX2_take 23 = .ok (.aload_n 0, 1) := by decide +kernel
theorem dX2_take_24 : decode cX2_take 24 = .ok (.getfield 11, 3) := by decide +kernel
theorem dX2_take_27 : decode cX2_take 27 = .ok (.bipush 12, 2) := by decide +kernel
theorem dX2_take_29 : decode cX2_take 29 = .ok (.iload_n 1, 1) := by decide +kernel
theorem dX2_take_30 : decode cX2_take 30 = .ok (.iadd, 1) := by decide +kernel
theorem dX2_take_31 : decode cX2_take 31 = .ok (.iaload, 1) := by decide +kernel
theorem dX2_take_32 : decode cX2_take 32 = .ok (.iload_n 2, 1) := by decide +kernel
theorem dX2_take_33 : decode cX2_take 33 = .ok (.invokestatic 49, 3) := by decide +kernel
theorem dX2_take_36 : decode cX2_take 36 = .ok (.istore_n 3, 1) := by decide +kernel
theorem dX2_take_37 : decode cX2_take 37 = .ok (.aload_n 0, 1) := by decide +kernel
theorem dX2_take_38 : decode cX2_take 38 = .ok (.getfield 11, 3) := by decide +kernel
theorem dX2_take_41 : decode cX2_take 41 = .ok (.iconst 0, 1) := by decide +kernel
theorem dX2_take_42 : decode cX2_take 42 = .ok (.iload_n 1, 1) := by decide +kernel
theorem dX2_take_43 : decode cX2_take 43 = .ok (.iadd, 1) := by decide +kernel
theorem dX2_take_44 : decode cX2_take 44 = .ok (.dup2, 1) := by decide +kernel
theorem dX2_take_45 : decode cX2_take 45 = .ok (.iaload, 1) := by decide +kernel
theorem dX2_take_46 : decode cX2_take 46 = .ok (.iload_n 3, 1) := by decide +kernel
theorem dX2_take_47 : decode cX2_take 47 = .ok (.iload_n 3, 1) := by decide +kernel
theorem dX2_take_48 : decode cX2_take 48 = .ok (.aload_n 0, 1) := by decide +kernel
theorem dX2_take_49 : decode cX2_take 49 = .ok (.getfield 11, 3) := by decide +kernel
theorem dX2_take_52 : decode cX2_take 52 = .ok (.bipush 59, 2) := by decide +kernel
theorem dX2_take_54 : decode cX2_take 54 = .ok (.iaload, 1) := by decide +kernel
theorem dX2_take_55 : decode cX2_take 55 = .ok (.imul, 1) := by decide +kernel
theorem dX2_take_56 : decode cX2_take 56 = .ok (.bipush 20, 2) := by decide +kernel
theorem dX2_take_58 : decode cX2_take 58 = .ok (.idiv, 1) := by decide +kernel
theorem dX2_take_59 : decode cX2_take 59 = .ok (.iadd, 1) := by decide +kernel
theorem dX2_take_60 : decode cX2_take 60 = .ok (.iadd, 1) := by decide +kernel
theorem dX2_take_61 : decode cX2_take 61 = .ok (.iastore, 1) := by decide +kernel
theorem dX2_take_62 : decode cX2_take 62 = .ok (.aload_n 0, 1) := by decide +kernel
theorem dX2_take_63 : decode cX2_take 63 = .ok (.getfield 11, 3) := by decide +kernel
theorem dX2_take_66 : decode cX2_take 66 = .ok (.bipush 42, 2) := by decide +kernel
theorem dX2_take_68 : decode cX2_take 68 = .ok (.iload_n 1, 1) := by decide +kernel
theorem dX2_take_69 : decode cX2_take 69 = .ok (.iadd, 1) := by decide +kernel
theorem dX2_take_70 : decode cX2_take 70 = .ok (.dup2, 1) := by decide +kernel
theorem dX2_take_71 : decode cX2_take 71 = .ok (.iaload, 1) := by decide +kernel
theorem dX2_take_72 : decode cX2_take 72 = .ok (.iload_n 3, 1) := by decide +kernel
theorem dX2_take_73 : decode cX2_take 73 = .ok (.iadd, 1) := by decide +kernel
theorem dX2_take_74 : decode cX2_take 74 = .ok (.iastore, 1) := by decide +kernel
theorem dX2_take_75 : decode cX2_take 75 = .ok (.aload_n 0, 1) := by decide +kernel
theorem dX2_take_76 : decode cX2_take 76 = .ok (.getfield 11, 3) := by decide +kernel
theorem dX2_take_79 : decode cX2_take 79 = .ok (.bipush 55, 2) := by decide +kernel
theorem dX2_take_81 : decode cX2_take 81 = .ok (.dup2, 1) := by decide +kernel
theorem dX2_take_82 : decode cX2_take 82 = .ok (.iaload, 1) := by decide +kernel
theorem dX2_take_83 : decode cX2_take 83 = .ok (.iload_n 3, 1) := by decide +kernel
theorem dX2_take_84 : decode cX2_take 84 = .ok (.iadd, 1) := by decide +kernel
theorem dX2_take_85 : decode cX2_take 85 = .ok (.iastore, 1) := by decide +kernel
theorem dX2_take_86 : decode cX2_take 86 = .ok (.return_, 1) := by decide +kernel
def bX2_take_0 : List sx_S := [si_const 0, si_al 0, si_get 2 0, si_const (nI 18), si_il 1, si_bin (fun x y => x + y), si_iald, si_al 0, si_get 2 0, si_const 0, si_il 1, si_bin (fun x y => x + y), si_iald, si_bin (fun x y => x - y), si_max 0 0, si_is 2, si_al 0, si_get 2 0, si_const (nI 12), si_il 1, si_bin (fun x y => x + y), si_iald, si_il 2, si_min 0 0, si_is 3, si_al 0, si_get 2 0, si_const 0, si_il 1, si_bin (fun x y => x + y), si_dup2, si_iald, si_il 3, si_il 3, si_al 0, si_get 2 0, si_const (nI 59), si_iald, si_bin (fun x y => x * y), si_const (nI 20), si_div (fun x y => x / y), si_bin (fun x y => x + y), si_bin (fun x y => x + y), si_iast, si_al 0, si_get 2 0, si_const (nI 42), si_il 1, si_bin (fun x y => x + y), si_dup2, si_iald, si_il 3, si_bin (fun x y => x + y), si_iast, si_al 0, si_get 2 0, si_const (nI 55), si_dup2, si_iald, si_il 3, si_bin (fun x y => x + y), si_iast, si_rv]
def BX2_take : Nat → List sx_S := fun pc => if pc = 0 then bX2_take_0 else []
set_option maxRecDepth 20000 in
theorem kX2_take_0 : sx_BK sx_tb yX2_take.cls cX2_take 4 (none) ({ frames := 1, cells := 0, slots := 0, locals := 21 } : Room) false false 0 (fun _ => 0) 0 (bX2_take_0) := ⟨_, ⟨sn_iconst dX2_take_0 (by decide +kernel), sm_const _⟩, ⟨_, ⟨sn_aload_n dX2_take_1 rfl, sm_al _⟩, ⟨_, ⟨sn_get (C := RX2) (T := TX2) (N := 1) dX2_take_2 rfl zinX2 (Nat.le_of_ble_eq_true rfl) zw_1_75, sm_get _ _⟩, ⟨_, ⟨sn_bipush dX2_take_5 (by decide +kernel), sm_const _⟩, ⟨_, ⟨sn_iload_n dX2_take_7 rfl, sm_il _⟩, ⟨_, ⟨sn_iadd dX2_take_8, sm_bin _⟩, ⟨_, ⟨sn_iald dX2_take_9, sm_iald⟩, ⟨_, ⟨sn_aload_n dX2_take_10 rfl, sm_al _⟩, ⟨_, ⟨sn_get (C := RX2) (T := TX2) (N := 1) dX2_take_11 rfl zinX2 (Nat.le_of_ble_eq_true rfl) zw_1_75, sm_get _ _⟩, ⟨_, ⟨sn_iconst dX2_take_14 (by decide +kernel), sm_const _⟩, ⟨_, ⟨sn_iload_n dX2_take_15 rfl, sm_il _⟩, ⟨_, ⟨sn_iadd dX2_take_16, sm_bin _⟩, ⟨_, ⟨sn_iald dX2_take_17, sm_iald⟩, ⟨_, ⟨sn_isub dX2_take_18, sm_bin _⟩, ⟨_, ⟨sn_max dX2_take_19 zw_2_99 zw_2_100 zw_1_10 zw_2_101 (Nat.le_of_ble_eq_true rfl) (Nat.le_of_ble_eq_true rfl), sm_max _ _⟩, ⟨_, ⟨sn_istore_n dX2_take_22 rfl (Nat.le_of_ble_eq_true rfl), sm_is _⟩, ⟨_, ⟨sn_aload_n dX2_take_23 rfl, sm_al _⟩, ⟨_, ⟨sn_get (C := RX2) (T := TX2) (N := 1) dX2_take_24 rfl zinX2 (Nat.le_of_ble_eq_true rfl) zw_1_75, sm_get _ _⟩, ⟨_, ⟨sn_bipush dX2_take_27 (by decide +kernel), sm_const _⟩, ⟨_, ⟨sn_iload_n dX2_take_29 rfl, sm_il _⟩, ⟨_, ⟨sn_iadd dX2_take_30, sm_bin _⟩, ⟨_, ⟨sn_iald dX2_take_31, sm_iald⟩, ⟨_, ⟨sn_iload_n dX2_take_32 rfl, sm_il _⟩, ⟨_, ⟨sn_min dX2_take_33 zw_2_102 zw_2_77 zw_1_10 zw_2_78 (Nat.le_of_ble_eq_true rfl) (Nat.le_of_ble_eq_true rfl), sm_min _ _⟩, ⟨_, ⟨sn_istore_n dX2_take_36 rfl (Nat.le_of_ble_eq_true rfl), sm_is _⟩, ⟨_, ⟨sn_aload_n dX2_take_37 rfl, sm_al _⟩, ⟨_, ⟨sn_get (C := RX2) (T := TX2) (N := 1) dX2_take_38 rfl zinX2 (Nat.le_of_ble_eq_true rfl) zw_1_75, sm_get _ _⟩, ⟨_, ⟨sn_iconst dX2_take_41 (by decide +kernel), sm_const _⟩, ⟨_, ⟨sn_iload_n dX2_take_42 rfl, sm_il _⟩, ⟨_, ⟨sn_iadd dX2_take_43, sm_bin _⟩, ⟨_, ⟨sn_dup2 dX2_take_44, sm_dup2⟩, ⟨_, ⟨sn_iald dX2_take_45, sm_iald⟩, ⟨_, ⟨sn_iload_n dX2_take_46 rfl, sm_il _⟩, ⟨_, ⟨sn_iload_n dX2_take_47 rfl, sm_il _⟩, ⟨_, ⟨sn_aload_n dX2_take_48 rfl, sm_al _⟩, ⟨_, ⟨sn_get (C := RX2) (T := TX2) (N := 1) dX2_take_49 rfl zinX2 (Nat.le_of_ble_eq_true rfl) zw_1_75, sm_get _ _⟩, ⟨_, ⟨sn_bipush dX2_take_52 (by decide +kernel), sm_const _⟩, ⟨_, ⟨sn_iald dX2_take_54, sm_iald⟩, ⟨_, ⟨sn_imul dX2_take_55, sm_bin _⟩, ⟨_, ⟨sn_bipush dX2_take_56 (by decide +kernel), sm_const _⟩, ⟨_, ⟨sn_idiv dX2_take_58, sm_div _⟩, ⟨_, ⟨sn_iadd dX2_take_59, sm_bin _⟩, ⟨_, ⟨sn_iadd dX2_take_60, sm_bin _⟩, ⟨_, ⟨sn_iast dX2_take_61, sm_iast⟩, ⟨_, ⟨sn_aload_n dX2_take_62 rfl, sm_al _⟩, ⟨_, ⟨sn_get (C := RX2) (T := TX2) (N := 1) dX2_take_63 rfl zinX2 (Nat.le_of_ble_eq_true rfl) zw_1_75, sm_get _ _⟩, ⟨_, ⟨sn_bipush dX2_take_66 (by decide +kernel), sm_const _⟩, ⟨_, ⟨sn_iload_n dX2_take_68 rfl, sm_il _⟩, ⟨_, ⟨sn_iadd dX2_take_69, sm_bin _⟩, ⟨_, ⟨sn_dup2 dX2_take_70, sm_dup2⟩, ⟨_, ⟨sn_iald dX2_take_71, sm_iald⟩, ⟨_, ⟨sn_iload_n dX2_take_72 rfl, sm_il _⟩, ⟨_, ⟨sn_iadd dX2_take_73, sm_bin _⟩, ⟨_, ⟨sn_iast dX2_take_74, sm_iast⟩, ⟨_, ⟨sn_aload_n dX2_take_75 rfl, sm_al _⟩, ⟨_, ⟨sn_get (C := RX2) (T := TX2) (N := 1) dX2_take_76 rfl zinX2 (Nat.le_of_ble_eq_true rfl) zw_1_75, sm_get _ _⟩, ⟨_, ⟨sn_bipush dX2_take_79 (by decide +kernel), sm_const _⟩, ⟨_, ⟨sn_dup2 dX2_take_81, sm_dup2⟩, ⟨_, ⟨sn_iald dX2_take_82, sm_iald⟩, ⟨_, ⟨sn_iload_n dX2_take_83 rfl, sm_il _⟩, ⟨_, ⟨sn_iadd dX2_take_84, sm_bin _⟩, ⟨_, ⟨sn_iast dX2_take_85, sm_iast⟩, ⟨_, ⟨sn_rv (len := 1) dX2_take_86 rfl, sm_rv⟩, trivial⟩⟩⟩⟩⟩⟩⟩⟩⟩⟩⟩⟩⟩⟩⟩⟩⟩⟩⟩⟩⟩⟩⟩⟩⟩⟩⟩⟩⟩⟩⟩⟩⟩⟩⟩⟩⟩⟩⟩⟩⟩⟩⟩⟩⟩⟩⟩⟩⟩⟩⟩⟩⟩⟩⟩⟩⟩⟩⟩⟩⟩⟩⟩
theorem kX2_take : ∀ pc, sx_BK sx_tb yX2_take.cls cX2_take 4 (none) ({ frames := 1, cells := 0, slots := 0, locals := 21 } : Room) false false 0 (fun _ => 0) pc (BX2_take pc) := fun pc => sx_bk_if (kX2_take_0) (trivial)
theorem okX2_take : sx_ok sx_tb BX2_take (yX2_take, cX2_take, 4, none, { frames := 1, cells := 0, slots := 0, locals := 21 }) := ⟨by decide, by decide +kernel, false, (fun h => by cases h), kX2_take⟩
theorem dX2_payAll_0 : decode cX2_payAll 0 = .ok (.iconst 0, 1) := by decide +kernel
theorem dX2_payAll_1 : decode cX2_payAll 1 = .ok (.istore_n 1, 1) := by decide +kernel
theorem dX2_payAll_2 : decode cX2_payAll 2 = .ok (.iconst 0, 1) := by decide +kernel
theorem dX2_payAll_3 : decode cX2_payAll 3 = .ok (.istore_n 2, 1) := by decide +kernel
theorem dX2_payAll_4 : decode cX2_payAll 4 = .ok (.iload_n 2, 1) := by decide +kernel
theorem dX2_payAll_5 : decode cX2_payAll 5 = .ok (.bipush 6, 2) := by decide +kernel
theorem dX2_payAll_7 : decode cX2_payAll 7 = .ok (.if_icmp .ge 49, 3) := by decide +kernel
theorem dX2_payAll_10 : decode cX2_payAll 10 = .ok (.aload_n 0, 1) := by decide +kernel
theorem dX2_payAll_11 : decode cX2_payAll 11 = .ok (.iload_n 2, 1) := by decide +kernel
theorem dX2_payAll_12 : decode cX2_payAll 12 = .ok (.invokevirtual 36, 3) := by decide +kernel
theorem dX2_payAll_15 : decode cX2_payAll 15 = .ok (.ifCond .ne 6, 3) := by decide +kernel
theorem dX2_payAll_18 : decode cX2_payAll 18 = .ok (.goto 32, 3) := by decide +kernel
theorem dX2_payAll_21 : decode cX2_payAll 21 = .ok (.aload_n 0, 1) := by decide +kernel
theorem dX2_payAll_22 : decode cX2_payAll 22 = .ok (.iload_n 2, 1) := by decide +kernel
theorem dX2_payAll_23 : decode cX2_payAll 23 = .ok (.invokevirtual 52, 3) := by decide +kernel
theorem dX2_payAll_26 : decode cX2_payAll 26 = .ok (.ifCond .eq 16, 3) := by decide +kernel
theorem dX2_payAll_29 : decode cX2_payAll 29 = .ok (.aload_n 0, 1) := by decide +kernel
theorem dX2_payAll_30 : decode cX2_payAll 30 = .ok (.getfield 11, 3) := by decide +kernel
theorem dX2_payAll_33 : decode cX2_payAll 33 = .ok (.bipush 24, 2) := by decide +kernel
theorem dX2_payAll_35 : decode cX2_payAll 35 = .ok (.iload_n 2, 1) := by decide +kernel
theorem dX2_payAll_36 : decode cX2_payAll 36 = .ok (.iadd, 1) := by decide +kernel
theorem dX2_payAll_37 : decode cX2_payAll 37 = .ok (.iconst 1, 1) := by decide +kernel
theorem dX2_payAll_38 : decode cX2_payAll 38 = .ok (.iastore, 1) := by decide +kernel
theorem dX2_payAll_39 : decode cX2_payAll 39 = .ok (.goto 11, 3) := by decide +kernel
theorem dX2_payAll_42 : decode cX2_payAll 42 = .ok (.iload_n 1, 1) := by decide +kernel
theorem dX2_payAll_43 : decode cX2_payAll 43 = .ok (.aload_n 0, 1) := by decide +kernel
theorem dX2_payAll_44 : decode cX2_payAll 44 = .ok (.iload_n 2, 1) := by decide +kernel
theorem dX2_payAll_45 : decode cX2_payAll 45 = .ok (.invokevirtual 55, 3) := by decide +kernel
theorem dX2_payAll_48 : decode cX2_payAll 48 = .ok (.iadd, 1) := by decide +kernel
theorem dX2_payAll_49 : decode cX2_payAll 49 = .ok (.istore_n 1, 1) := by decide +kernel
theorem dX2_payAll_50 : decode cX2_payAll 50 = .ok (.iinc 2 1, 3) := by decide +kernel
theorem dX2_payAll_53 : decode cX2_payAll 53 = .ok (.goto (-49), 3) := by decide +kernel
theorem dX2_payAll_56 : decode cX2_payAll 56 = .ok (.iload_n 1, 1) := by decide +kernel
theorem dX2_payAll_57 : decode cX2_payAll 57 = .ok (.ireturn, 1) := by decide +kernel
def bX2_payAll_0 : List sx_S := [si_const 0, si_is 1, si_const 0, si_is 2, si_go 4 [true, true, true]]
def bX2_payAll_4 : List sx_S := [si_il 2, si_const (nI 6), si_if2 (fun x y => y ≤ x) 56 [false, true, false], si_al 0, si_il 2, si_cv 2 25 1 0 0 0 0, si_if1 (fun x => ¬ x = 0) 21 [true, true, true], si_go 50 [true, true, true]]
def bX2_payAll_21 : List sx_S := [si_al 0, si_il 2, si_cv 2 32 1 0 0 0 0, si_if1 (fun x => x = 0) 42 [true, true, true], si_al 0, si_get 2 0, si_const (nI 24), si_il 2, si_bin (fun x y => x + y), si_const 1, si_iast, si_go 50 [true, true, true]]
def bX2_payAll_42 : List sx_S := [si_il 1, si_al 0, si_il 2, si_cv 2 33 1 0 0 0 0, si_bin (fun x y => x + y), si_is 1, si_go 50 [true, true, true]]
def bX2_payAll_50 : List sx_S := [si_inc 2 1, si_go 4 [true, true, true]]
def bX2_payAll_56 : List sx_S := [si_il 1, si_ri]
def BX2_payAll : Nat → List sx_S := fun pc => if pc = 0 then bX2_payAll_0 else if pc = 4 then bX2_payAll_4 else if pc = 21 then bX2_payAll_21 else if pc = 42 then bX2_payAll_42 else if pc = 50 then bX2_payAll_50 else if pc = 56 then bX2_payAll_56 else []
set_option maxRecDepth 20000 in
theorem kX2_payAll_0 : sx_BK sx_tb yX2_payAll.cls cX2_payAll 3 (some .int) ({ frames := 2, cells := 0, slots := 0, locals := 46 } : Room) false false 0 (fun _ => 0) 0 (bX2_payAll_0) := ⟨_, ⟨sn_iconst dX2_payAll_0 (by decide +kernel), sm_const _⟩, ⟨_, ⟨sn_istore_n dX2_payAll_1 rfl (Nat.le_of_ble_eq_true rfl), sm_is _⟩, ⟨_, ⟨sn_iconst dX2_payAll_2 (by decide +kernel), sm_const _⟩, ⟨_, ⟨sn_istore_n dX2_payAll_3 rfl (Nat.le_of_ble_eq_true rfl), sm_is _⟩, ⟨_, ⟨sn_fall (len := 0) rfl rfl, sm_go _ _⟩, trivial⟩⟩⟩⟩⟩
set_option maxRecDepth 20000 in
theorem kX2_payAll_4 : sx_BK sx_tb yX2_payAll.cls cX2_payAll 3 (some .int) ({ frames := 2, cells := 0, slots := 0, locals := 46 } : Room) false false 0 (fun _ => 0) 4 (bX2_payAll_4) := ⟨_, ⟨sn_iload_n dX2_payAll_4 rfl, sm_il _⟩, ⟨_, ⟨sn_bipush dX2_payAll_5 (by decide +kernel), sm_const _⟩, ⟨_, ⟨sn_ic_ge dX2_payAll_7 (by decide +kernel) rfl, sm_if2 _ _ _⟩, ⟨_, ⟨sn_aload_n dX2_payAll_10 rfl, sm_al _⟩, ⟨_, ⟨sn_iload_n dX2_payAll_11 rfl, sm_il _⟩, ⟨_, ⟨sn_cv_z (N := 1) (T := TX2) ztb_X2_comes dX2_payAll_12 rfl rfl zw_2_87 zw_2_88 zw_2_89 zw_1_4 zw_2_90 zmh_X2 zpd_X2_comes (Nat.le_of_ble_eq_true rfl) (Nat.le_of_ble_eq_true rfl) rfl rfl, sm_cv _ _ _ _ _ _ _⟩, ⟨_, ⟨sn_if_ne dX2_payAll_15 (by decide +kernel) rfl, sm_if1 _ _ _⟩, ⟨_, ⟨sn_goto (len := 3) dX2_payAll_18 (by decide +kernel) rfl, sm_go _ _⟩, trivial⟩⟩⟩⟩⟩⟩⟩⟩
set_option maxRecDepth 20000 in
theorem kX2_payAll_21 : sx_BK sx_tb yX2_payAll.cls cX2_payAll 3 (some .int) ({ frames := 2, cells := 0, slots := 0, locals := 46 } : Room) false false 0 (fun _ => 0) 21 (bX2_payAll_21) := ⟨_, ⟨sn_aload_n dX2_payAll_21 rfl, sm_al _⟩, ⟨_, ⟨sn_iload_n dX2_payAll_22 rfl, sm_il _⟩, ⟨_, ⟨sn_cv_z (N := 1) (T := TX2) ztb_X2_makesOff dX2_payAll_23 rfl rfl zw_2_107 zw_2_109 zw_0_11 zw_1_4 zw_2_110 zmh_X2 zpd_X2_makesOff (Nat.le_of_ble_eq_true rfl) (Nat.le_of_ble_eq_true rfl) rfl rfl, sm_cv _ _ _ _ _ _ _⟩, ⟨_, ⟨sn_if_eq dX2_payAll_26 (by decide +kernel) rfl, sm_if1 _ _ _⟩, ⟨_, ⟨sn_aload_n dX2_payAll_29 rfl, sm_al _⟩, ⟨_, ⟨sn_get (C := RX2) (T := TX2) (N := 1) dX2_payAll_30 rfl zinX2 (Nat.le_of_ble_eq_true rfl) zw_1_75, sm_get _ _⟩, ⟨_, ⟨sn_bipush dX2_payAll_33 (by decide +kernel), sm_const _⟩, ⟨_, ⟨sn_iload_n dX2_payAll_35 rfl, sm_il _⟩, ⟨_, ⟨sn_iadd dX2_payAll_36, sm_bin _⟩, ⟨_, ⟨sn_iconst dX2_payAll_37 (by decide +kernel), sm_const _⟩, ⟨_, ⟨sn_iast dX2_payAll_38, sm_iast⟩, ⟨_, ⟨sn_goto (len := 3) dX2_payAll_39 (by decide +kernel) rfl, sm_go _ _⟩, trivial⟩⟩⟩⟩⟩⟩⟩⟩⟩⟩⟩⟩
set_option maxRecDepth 20000 in
theorem kX2_payAll_42 : sx_BK sx_tb yX2_payAll.cls cX2_payAll 3 (some .int) ({ frames := 2, cells := 0, slots := 0, locals := 46 } : Room) false false 0 (fun _ => 0) 42 (bX2_payAll_42) := ⟨_, ⟨sn_iload_n dX2_payAll_42 rfl, sm_il _⟩, ⟨_, ⟨sn_aload_n dX2_payAll_43 rfl, sm_al _⟩, ⟨_, ⟨sn_iload_n dX2_payAll_44 rfl, sm_il _⟩, ⟨_, ⟨sn_cv_i (N := 1) (T := TX2) ztb_X2_pay dX2_payAll_45 rfl rfl zw_2_111 zw_2_113 zw_0_12 zw_1_4 zw_2_114 zmh_X2 zpd_X2_pay (Nat.le_of_ble_eq_true rfl) (Nat.le_of_ble_eq_true rfl) rfl rfl, sm_cv _ _ _ _ _ _ _⟩, ⟨_, ⟨sn_iadd dX2_payAll_48, sm_bin _⟩, ⟨_, ⟨sn_istore_n dX2_payAll_49 rfl (Nat.le_of_ble_eq_true rfl), sm_is _⟩, ⟨_, ⟨sn_fall (len := 0) rfl rfl, sm_go _ _⟩, trivial⟩⟩⟩⟩⟩⟩⟩
set_option maxRecDepth 20000 in
theorem kX2_payAll_50 : sx_BK sx_tb yX2_payAll.cls cX2_payAll 3 (some .int) ({ frames := 2, cells := 0, slots := 0, locals := 46 } : Room) false false 0 (fun _ => 0) 50 (bX2_payAll_50) := ⟨_, ⟨sn_iinc dX2_payAll_50 (by decide +kernel) (Nat.le_of_ble_eq_true rfl), sm_inc _ _⟩, ⟨_, ⟨sn_goto (len := 3) dX2_payAll_53 (by decide +kernel) rfl, sm_go _ _⟩, trivial⟩⟩
set_option maxRecDepth 20000 in
theorem kX2_payAll_56 : sx_BK sx_tb yX2_payAll.cls cX2_payAll 3 (some .int) ({ frames := 2, cells := 0, slots := 0, locals := 46 } : Room) false false 0 (fun _ => 0) 56 (bX2_payAll_56) := ⟨_, ⟨sn_iload_n dX2_payAll_56 rfl, sm_il _⟩, ⟨_, ⟨sn_ri (len := 1) dX2_payAll_57 rfl, sm_ri⟩, trivial⟩⟩
theorem kX2_payAll : ∀ pc, sx_BK sx_tb yX2_payAll.cls cX2_payAll 3 (some .int) ({ frames := 2, cells := 0, slots := 0, locals := 46 } : Room) false false 0 (fun _ => 0) pc (BX2_payAll pc) := fun pc => sx_bk_if (kX2_payAll_0) (sx_bk_if (kX2_payAll_4) (sx_bk_if (kX2_payAll_21) (sx_bk_if (kX2_payAll_42) (sx_bk_if (kX2_payAll_50) (sx_bk_if (kX2_payAll_56) (trivial))))))
theorem okX2_payAll : sx_ok sx_tb BX2_payAll (yX2_payAll, cX2_payAll, 3, some .int, { frames := 2, cells := 0, slots := 0, locals := 46 }) := ⟨by decide, by decide +kernel, false, (fun h => by cases h), kX2_payAll⟩
theorem dX2_makesOff_0 : decode cX2_makesOff 0 = .ok (.aload_n 0, 1) := by decide +kernel
theorem dX2_makesOff_1 : decode cX2_makesOff 1 = .ok (.getfield 11, 3) := by decide +kernel
theorem dX2_makesOff_4 : decode cX2_makesOff 4 = .ok (.iconst 0, 1) := by decide +kernel
theorem dX2_makesOff_5 : decode cX2_makesOff 5 = .ok (.iload_n 1, 1) := by decide +kernel
theorem dX2_makesOff_6 : decode cX2_makesOff 6 = .ok (.iadd, 1) := by decide +kernel
theorem dX2_makesOff_7 : decode cX2_makesOff 7 = .ok (.iaload, 1) := by decide +kernel
theorem dX2_makesOff_8 : decode cX2_makesOff 8 = .ok (.istore_n 2, 1) := by decide +kernel
theorem dX2_makesOff_9 : decode cX2_makesOff 9 = .ok (.aload_n 0, 1) := by decide +kernel
theorem dX2_makesOff_10 : decode cX2_makesOff 10 = .ok (.getfield 11, 3) := by decide +kernel
theorem dX2_makesOff_13 : decode cX2_makesOff 13 = .ok (.bipush 48, 2) := by decide +kernel
theorem dX2_makesOff_15 : decode cX2_makesOff 15 = .ok (.iload_n 1, 1) := by decide +kernel
theorem dX2_makesOff_16 : decode cX2_makesOff 16 = .ok (.iadd, 1) := by decide +kernel
theorem dX2_makesOff_17 : decode cX2_makesOff 17 = .ok (.iaload, 1) := by decide +kernel
theorem dX2_makesOff_18 : decode cX2_makesOff 18 = .ok (.iconst 5, 1) := by decide +kernel
theorem dX2_makesOff_19 : decode cX2_makesOff 19 = .ok (.if_icmp .ne 24, 3) := by decide +kernel
theorem dX2_makesOff_22 : decode cX2_makesOff 22 = .ok (.iload_n 2, 1) := by decide +kernel
theorem dX2_makesOff_23 : decode cX2_makesOff 23 = .ok (.ifCond .le 20, 3) := by decide +kernel
theorem dX2_makesOff_26 : decode cX2_makesOff 26 = .ok (.iload_n 2, 1) := by decide +kernel
theorem dX2_makesOff_27 : decode cX2_makesOff 27 = .ok (.aload_n 0, 1) := by decide +kernel
theorem dX2_makesOff_28 : decode cX2_makesOff 28 = .ok (.getfield 11, 3) := by decide +kernel
theorem dX2_makesOff_31 : decode cX2_makesOff 31 = .ok (.bipush 18, 2) := by decide +kernel
theorem dX2_makesOff_33 : decode cX2_makesOff 33 = .ok (.iload_n 1, 1) := by decide +kernel
theorem dX2_makesOff_34 : decode cX2_makesOff 34 = .ok (.iadd, 1) := by decide +kernel
theorem dX2_makesOff_35 : decode cX2_makesOff 35 = .ok (.iaload, 1) := by decide +kernel
theorem dX2_makesOff_36 : decode cX2_makesOff 36 = .ok (.if_icmp .lt 7, 3) := by decide +kernel
theorem dX2_makesOff_39 : decode cX2_makesOff 39 = .ok (.iconst 1, 1) := by decide +kernel
theorem dX2_makesOff_40 : decode cX2_makesOff 40 = .ok (.goto 4, 3) := by decide +kernel
theorem dX2_makesOff_43 : decode cX2_makesOff 43 = .ok (.iconst 0, 1) := by decide +kernel
theorem dX2_makesOff_44 : decode cX2_makesOff 44 = .ok (.ireturn, 1) := by decide +kernel
def bX2_makesOff_0 : List sx_S := [si_al 0, si_get 2 0, si_const 0, si_il 1, si_bin (fun x y => x + y), si_iald, si_is 2, si_al 0, si_get 2 0, si_const (nI 48), si_il 1, si_bin (fun x y => x + y), si_iald, si_const (nI 5), si_if2 (fun x y => ¬ x = y) 43 [false, false, false], si_il 2, si_if1 (fun x => x ≤ 0) 43 [false, false, false], si_il 2, si_al 0, si_get 2 0, si_const (nI 18), si_il 1, si_bin (fun x y => x + y), si_iald, si_if2 (fun x y => x < y) 43 [false, false, false], si_const 1, si_go 44 [false, false, false]]
def bX2_makesOff_43 : List sx_S := [si_const 0, si_go 44 [false, false, false]]
def bX2_makesOff_44 : List sx_S := [si_rz]
def BX2_makesOff : Nat → List sx_S := fun pc => if pc = 0 then bX2_makesOff_0 else if pc = 43 then bX2_makesOff_43 else if pc = 44 then bX2_makesOff_44 else []
set_option maxRecDepth 20000 in
theorem kX2_makesOff_0 : sx_BK sx_tb yX2_makesOff.cls cX2_makesOff 3 (some .boolean) ({ frames := 0, cells := 0, slots := 0, locals := 0 } : Room) false false 0 (fun _ => 0) 0 (bX2_makesOff_0) := ⟨_, ⟨sn_aload_n dX2_makesOff_0 rfl, sm_al _⟩, ⟨_, ⟨sn_get (C := RX2) (T := TX2) (N := 1) dX2_makesOff_1 rfl zinX2 (Nat.le_of_ble_eq_true rfl) zw_1_75, sm_get _ _⟩, ⟨_, ⟨sn_iconst dX2_makesOff_4 (by decide +kernel), sm_const _⟩, ⟨_, ⟨sn_iload_n dX2_makesOff_5 rfl, sm_il _⟩, ⟨_, ⟨sn_iadd dX2_makesOff_6, sm_bin _⟩, ⟨_, ⟨sn_iald dX2_makesOff_7, sm_iald⟩, ⟨_, ⟨sn_istore_n dX2_makesOff_8 rfl (Nat.le_of_ble_eq_true rfl), sm_is _⟩, ⟨_, ⟨sn_aload_n dX2_makesOff_9 rfl, sm_al _⟩, ⟨_, ⟨sn_get (C := RX2) (T := TX2) (N := 1) dX2_makesOff_10 rfl zinX2 (Nat.le_of_ble_eq_true rfl) zw_1_75, sm_get _ _⟩, ⟨_, ⟨sn_bipush dX2_makesOff_13 (by decide +kernel), sm_const _⟩, ⟨_, ⟨sn_iload_n dX2_makesOff_15 rfl, sm_il _⟩, ⟨_, ⟨sn_iadd dX2_makesOff_16, sm_bin _⟩, ⟨_, ⟨sn_iald dX2_makesOff_17, sm_iald⟩, ⟨_, ⟨sn_iconst dX2_makesOff_18 (by decide +kernel), sm_const _⟩, ⟨_, ⟨sn_ic_ne dX2_makesOff_19 (by decide +kernel) rfl, sm_if2 _ _ _⟩, ⟨_, ⟨sn_iload_n dX2_makesOff_22 rfl, sm_il _⟩, ⟨_, ⟨sn_if_le dX2_makesOff_23 (by decide +kernel) rfl, sm_if1 _ _ _⟩, ⟨_, ⟨sn_iload_n dX2_makesOff_26 rfl, sm_il _⟩, ⟨_, ⟨sn_aload_n dX2_makesOff_27 rfl, sm_al _⟩, ⟨_, ⟨sn_get (C := RX2) (T := TX2) (N := 1) dX2_makesOff_28 rfl zinX2 (Nat.le_of_ble_eq_true rfl) zw_1_75, sm_get _ _⟩, ⟨_, ⟨sn_bipush dX2_makesOff_31 (by decide +kernel), sm_const _⟩, ⟨_, ⟨sn_iload_n dX2_makesOff_33 rfl, sm_il _⟩, ⟨_, ⟨sn_iadd dX2_makesOff_34, sm_bin _⟩, ⟨_, ⟨sn_iald dX2_makesOff_35, sm_iald⟩, ⟨_, ⟨sn_ic_lt dX2_makesOff_36 (by decide +kernel) rfl, sm_if2 _ _ _⟩, ⟨_, ⟨sn_iconst dX2_makesOff_39 (by decide +kernel), sm_const _⟩, ⟨_, ⟨sn_goto (len := 3) dX2_makesOff_40 (by decide +kernel) rfl, sm_go _ _⟩, trivial⟩⟩⟩⟩⟩⟩⟩⟩⟩⟩⟩⟩⟩⟩⟩⟩⟩⟩⟩⟩⟩⟩⟩⟩⟩⟩⟩
set_option maxRecDepth 20000 in
theorem kX2_makesOff_43 : sx_BK sx_tb yX2_makesOff.cls cX2_makesOff 3 (some .boolean) ({ frames := 0, cells := 0, slots := 0, locals := 0 } : Room) false false 0 (fun _ => 0) 43 (bX2_makesOff_43) := ⟨_, ⟨sn_iconst dX2_makesOff_43 (by decide +kernel), sm_const _⟩, ⟨_, ⟨sn_fall (len := 0) rfl rfl, sm_go _ _⟩, trivial⟩⟩
set_option maxRecDepth 20000 in
theorem kX2_makesOff_44 : sx_BK sx_tb yX2_makesOff.cls cX2_makesOff 3 (some .boolean) ({ frames := 0, cells := 0, slots := 0, locals := 0 } : Room) false false 0 (fun _ => 0) 44 (bX2_makesOff_44) := ⟨_, ⟨sn_rz (len := 1) dX2_makesOff_44 rfl, sm_rz⟩, trivial⟩
theorem kX2_makesOff : ∀ pc, sx_BK sx_tb yX2_makesOff.cls cX2_makesOff 3 (some .boolean) ({ frames := 0, cells := 0, slots := 0, locals := 0 } : Room) false false 0 (fun _ => 0) pc (BX2_makesOff pc) := fun pc => sx_bk_if (kX2_makesOff_0) (sx_bk_if (kX2_makesOff_43) (sx_bk_if (kX2_makesOff_44) (trivial)))
theorem okX2_makesOff : sx_ok sx_tb BX2_makesOff (yX2_makesOff, cX2_makesOff, 3, some .boolean, { frames := 0, cells := 0, slots := 0, locals := 0 }) := ⟨by decide, by decide +kernel, false, (fun h => by cases h), kX2_makesOff⟩
theorem dX2_pay_0 : decode cX2_pay 0 = .ok (.aload_n 0, 1) := by decide +kernel
theorem dX2_pay_1 : decode cX2_pay 1 = .ok (.getfield 11, 3) := by decide +kernel
theorem dX2_pay_4 : decode cX2_pay 4 = .ok (.iconst 0, 1) := by decide +kernel
theorem dX2_pay_5 : decode cX2_pay 5 = .ok (.iload_n 1, 1) := by decide +kernel
theorem dX2_pay_6 : decode cX2_pay 6 = .ok (.iadd, 1) := by decide +kernel
theorem dX2_pay_7 : decode cX2_pay 7 = .ok (.iaload, 1) := by decide +kernel
theorem dX2_pay_8 : decode cX2_pay 8 = .ok (.istore_n 2, 1) := by decide +kernel
theorem dX2_pay_9 : decode cX2_pay 9 = .ok (.aload_n 0, 1) := by decide +kernel
theorem dX2_pay_10 : decode cX2_pay 10 = .ok (.getfield 11, 3) := by decide +kernel
theorem dX2_pay_13 : decode cX2_pay 13 = .ok (.bipush 48, 2) := by decide +kernel
theorem dX2_pay_15 : decode cX2_pay 15 = .ok (.iload_n 1, 1) := by decide +kernel
theorem dX2_pay_16 : decode cX2_pay 16 = .ok (.iadd, 1) := by decide +kernel
theorem dX2_pay_17 : decode cX2_pay 17 = .ok (.iaload, 1) := by decide +kernel
theorem dX2_pay_18 : decode cX2_pay 18 = .ok (.iconst 2, 1) := by decide +kernel
theorem dX2_pay_19 : decode cX2_pay 19 = .ok (.if_icmp .ne 9, 3) := by decide +kernel
theorem dX2_pay_22 : decode cX2_pay 22 = .ok (.iload_n 2, 1) := by decide +kernel
theorem dX2_pay_23 : decode cX2_pay 23 = .ok (.iconst 2, 1) := by decide +kernel
theorem dX2_pay_24 : decode cX2_pay 24 = .ok (.idiv, 1) := by decide +kernel
theorem dX2_pay_25 : decode cX2_pay 25 = .ok (.goto 4, 3) := by decide +kernel
theorem dX2_pay_28 : decode cX2_pay 28 = .ok (.iload_n 2, 1) := by decide +kernel
theorem dX2_pay_29 : decode cX2_pay 29 = .ok (.istore_n 3, 1) := by decide +kernel
theorem dX2_pay_30 : decode cX2_pay 30 = .ok (.aload_n 0, 1) := by decide +kernel
theorem dX2_pay_31 : decode cX2_pay 31 = .ok (.aload_n 0, 1) := by decide +kernel
theorem dX2_pay_32 : decode cX2_pay 32 = .ok (.getfield 11, 3) := by decide +kernel
theorem dX2_pay_35 : decode cX2_pay 35 = .ok (.bipush 48, 2) := by decide +kernel
theorem dX2_pay_37 : decode cX2_pay 37 = .ok (.iload_n 1, 1) := by decide +kernel
theorem dX2_pay_38 : decode cX2_pay 38 = .ok (.iadd, 1) := by decide +kernel
theorem dX2_pay_39 : decode cX2_pay 39 = .ok (.iaload, 1) := by decide +kernel
theorem dX2_pay_40 : decode cX2_pay 40 = .ok (.aload_n 0, 1) := by decide +kernel
theorem dX2_pay_41 : decode cX2_pay 41 = .ok (.getfield 11, 3) := by decide +kernel
theorem dX2_pay_44 : decode cX2_pay 44 = .ok (.bipush 6, 2) := by decide +kernel
theorem dX2_pay_46 : decode cX2_pay 46 = .ok (.iload_n 1, 1) := by decide +kernel
theorem dX2_pay_47 : decode cX2_pay 47 = .ok (.iadd, 1) := by decide +kernel
theorem dX2_pay_48 : decode cX2_pay 48 = .ok (.iaload, 1) := by decide +kernel
theorem dX2_pay_49 : decode cX2_pay 49 = .ok (.invokevirtual 58, 3) := by decide +kernel
theorem dX2_pay_52 : decode cX2_pay 52 = .ok (.iload_n 3, 1) := by decide +kernel
theorem dX2_pay_53 : decode cX2_pay 53 = .ok (.invokestatic 49, 3) := by decide +kernel
theorem dX2_pay_56 : decode cX2_pay 56 = .ok (.istore 4, 2) := by decide +kernel
theorem dX2_pay_58 : decode cX2_pay 58 = .ok (.aload_n 0, 1) := by decide +kernel
theorem dX2_pay_59 : decode cX2_pay 59 = .ok (.getfield 11, 3) := by decide +kernel
theorem dX2_pay_62 : decode cX2_pay 62 = .ok (.iconst 0, 1) := by decide +kernel
theorem dX2_pay_63 : decode cX2_pay 63 = .ok (.iload_n 1, 1) := by decide +kernel
theorem dX2_pay_64 : decode cX2_pay 64 = .ok (.iadd, 1) := by decide +kernel
theorem dX2_pay_65 : decode cX2_pay 65 = .ok (.dup2, 1) := by decide +kernel
theorem dX2_pay_66 : decode cX2_pay 66 = .ok (.iaload, 1) := by decide +kernel
theorem dX2_pay_67 : decode cX2_pay 67 = .ok (.iload 4, 2) := by decide +kernel
theorem dX2_pay_69 : decode cX2_pay 69 = .ok (.isub, 1) := by decide +kernel
theorem dX2_pay_70 : decode cX2_pay 70 = .ok (.iastore, 1) := by decide +kernel
theorem dX2_pay_71 : decode cX2_pay 71 = .ok (.aload_n 0, 1) := by decide +kernel
theorem dX2_pay_72 : decode cX2_pay 72 = .ok (.getfield 11, 3) := by decide +kernel
theorem dX2_pay_75 : decode cX2_pay 75 = .ok (.bipush 36, 2) := by decide +kernel
theorem dX2_pay_77 : decode cX2_pay 77 = .ok (.iload_n 1, 1) := by decide +kernel
theorem dX2_pay_78 : decode cX2_pay 78 = .ok (.iadd, 1) := by decide +kernel
theorem dX2_pay_79 : decode cX2_pay 79 = .ok (.dup2, 1) := by decide +kernel
theorem dX2_pay_80 : decode cX2_pay 80 = .ok (.iaload, 1) := by decide +kernel
theorem dX2_pay_81 : decode cX2_pay 81 = .ok (.iload 4, 2) := by decide +kernel
theorem dX2_pay_83 : decode cX2_pay 83 = .ok (.iadd, 1) := by decide +kernel
theorem dX2_pay_84 : decode cX2_pay 84 = .ok (.iastore, 1) := by decide +kernel
theorem dX2_pay_85 : decode cX2_pay 85 = .ok (.aload_n 0, 1) := by decide +kernel
theorem dX2_pay_86 : decode cX2_pay 86 = .ok (.getfield 11, 3) := by decide +kernel
theorem dX2_pay_89 : decode cX2_pay 89 = .ok (.bipush 54, 2) := by decide +kernel
theorem dX2_pay_91 : decode cX2_pay 91 = .ok (.dup2, 1) := by decide +kernel
theorem dX2_pay_92 : decode cX2_pay 92 = .ok (.iaload, 1) := by decide +kernel
theorem dX2_pay_93 : decode cX2_pay 93 = .ok (.iload 4, 2) := by decide +kernel
theorem dX2_pay_95 : decode cX2_pay 95 = .ok (.iadd, 1) := by decide +kernel
theorem dX2_pay_96 : decode cX2_pay 96 = .ok (.iastore, 1) := by decide +kernel
theorem dX2_pay_97 : decode cX2_pay 97 = .ok (.iload 4, 2) := by decide +kernel
theorem dX2_pay_99 : decode cX2_pay 99 = .ok (.ireturn, 1) := by decide +kernel
def bX2_pay_0 : List sx_S := [si_al 0, si_get 2 0, si_const 0, si_il 1, si_bin (fun x y => x + y), si_iald, si_is 2, si_al 0, si_get 2 0, si_const (nI 48), si_il 1, si_bin (fun x y => x + y), si_iald, si_const (nI 2), si_if2 (fun x y => ¬ x = y) 28 [true, true, true, false, false], si_il 2, si_const (nI 2), si_div (fun x y => x / y), si_go 29 [true, true, false, false, false]]
def bX2_pay_28 : List sx_S := [si_il 2, si_go 29 [true, true, false, false, false]]
def bX2_pay_29 : List sx_S := [si_is 3, si_al 0, si_al 0, si_get 2 0, si_const (nI 48), si_il 1, si_bin (fun x y => x + y), si_iald, si_al 0, si_get 2 0, si_const (nI 6), si_il 1, si_bin (fun x y => x + y), si_iald, si_cv 2 34 2 0 0 0 0, si_il 3, si_min 0 0, si_is 4, si_al 0, si_get 2 0, si_const 0, si_il 1, si_bin (fun x y => x + y), si_dup2, si_iald, si_il 4, si_bin (fun x y => x - y), si_iast, si_al 0, si_get 2 0, si_const (nI 36), si_il 1, si_bin (fun x y => x + y), si_dup2, si_iald, si_il 4, si_bin (fun x y => x + y), si_iast, si_al 0, si_get 2 0, si_const (nI 54), si_dup2, si_iald, si_il 4, si_bin (fun x y => x + y), si_iast, si_il 4, si_ri]
def BX2_pay : Nat → List sx_S := fun pc => if pc = 0 then bX2_pay_0 else if pc = 28 then bX2_pay_28 else if pc = 29 then bX2_pay_29 else []
set_option maxRecDepth 20000 in
theorem kX2_pay_0 : sx_BK sx_tb yX2_pay.cls cX2_pay 5 (some .int) ({ frames := 1, cells := 0, slots := 0, locals := 22 } : Room) false false 0 (fun _ => 0) 0 (bX2_pay_0) := ⟨_, ⟨sn_aload_n dX2_pay_0 rfl, sm_al _⟩, ⟨_, ⟨sn_get (C := RX2) (T := TX2) (N := 1) dX2_pay_1 rfl zinX2 (Nat.le_of_ble_eq_true rfl) zw_1_75, sm_get _ _⟩, ⟨_, ⟨sn_iconst dX2_pay_4 (by decide +kernel), sm_const _⟩, ⟨_, ⟨sn_iload_n dX2_pay_5 rfl, sm_il _⟩, ⟨_, ⟨sn_iadd dX2_pay_6, sm_bin _⟩, ⟨_, ⟨sn_iald dX2_pay_7, sm_iald⟩, ⟨_, ⟨sn_istore_n dX2_pay_8 rfl (Nat.le_of_ble_eq_true rfl), sm_is _⟩, ⟨_, ⟨sn_aload_n dX2_pay_9 rfl, sm_al _⟩, ⟨_, ⟨sn_get (C := RX2) (T := TX2) (N := 1) dX2_pay_10 rfl zinX2 (Nat.le_of_ble_eq_true rfl) zw_1_75, sm_get _ _⟩, ⟨_, ⟨sn_bipush dX2_pay_13 (by decide +kernel), sm_const _⟩, ⟨_, ⟨sn_iload_n dX2_pay_15 rfl, sm_il _⟩, ⟨_, ⟨sn_iadd dX2_pay_16, sm_bin _⟩, ⟨_, ⟨sn_iald dX2_pay_17, sm_iald⟩, ⟨_, ⟨sn_iconst dX2_pay_18 (by decide +kernel), sm_const _⟩, ⟨_, ⟨sn_ic_ne dX2_pay_19 (by decide +kernel) rfl, sm_if2 _ _ _⟩, ⟨_, ⟨sn_iload_n dX2_pay_22 rfl, sm_il _⟩, ⟨_, ⟨sn_iconst dX2_pay_23 (by decide +kernel), sm_const _⟩, ⟨_, ⟨sn_idiv dX2_pay_24, sm_div _⟩, ⟨_, ⟨sn_goto (len := 3) dX2_pay_25 (by decide +kernel) rfl, sm_go _ _⟩, trivial⟩⟩⟩⟩⟩⟩⟩⟩⟩⟩⟩⟩⟩⟩⟩⟩⟩⟩⟩
set_option maxRecDepth 20000 in
theorem kX2_pay_28 : sx_BK sx_tb yX2_pay.cls cX2_pay 5 (some .int) ({ frames := 1, cells := 0, slots := 0, locals := 22 } : Room) false false 0 (fun _ => 0) 28 (bX2_pay_28) := ⟨_, ⟨sn_iload_n dX2_pay_28 rfl, sm_il _⟩, ⟨_, ⟨sn_fall (len := 0) rfl rfl, sm_go _ _⟩, trivial⟩⟩
set_option maxRecDepth 20000 in
theorem kX2_pay_29 : sx_BK sx_tb yX2_pay.cls cX2_pay 5 (some .int) ({ frames := 1, cells := 0, slots := 0, locals := 22 } : Room) false false 0 (fun _ => 0) 29 (bX2_pay_29) := ⟨_, ⟨sn_istore_n dX2_pay_29 rfl (Nat.le_of_ble_eq_true rfl), sm_is _⟩, ⟨_, ⟨sn_aload_n dX2_pay_30 rfl, sm_al _⟩, ⟨_, ⟨sn_aload_n dX2_pay_31 rfl, sm_al _⟩, ⟨_, ⟨sn_get (C := RX2) (T := TX2) (N := 1) dX2_pay_32 rfl zinX2 (Nat.le_of_ble_eq_true rfl) zw_1_75, sm_get _ _⟩, ⟨_, ⟨sn_bipush dX2_pay_35 (by decide +kernel), sm_const _⟩, ⟨_, ⟨sn_iload_n dX2_pay_37 rfl, sm_il _⟩, ⟨_, ⟨sn_iadd dX2_pay_38, sm_bin _⟩, ⟨_, ⟨sn_iald dX2_pay_39, sm_iald⟩, ⟨_, ⟨sn_aload_n dX2_pay_40 rfl, sm_al _⟩, ⟨_, ⟨sn_get (C := RX2) (T := TX2) (N := 1) dX2_pay_41 rfl zinX2 (Nat.le_of_ble_eq_true rfl) zw_1_75, sm_get _ _⟩, ⟨_, ⟨sn_bipush dX2_pay_44 (by decide +kernel), sm_const _⟩, ⟨_, ⟨sn_iload_n dX2_pay_46 rfl, sm_il _⟩, ⟨_, ⟨sn_iadd dX2_pay_47, sm_bin _⟩, ⟨_, ⟨sn_iald dX2_pay_48, sm_iald⟩, ⟨_, ⟨sn_cv_i (N := 1) (T := TX2) ztb_X2_spared dX2_pay_49 rfl rfl zw_2_115 zw_2_117 zw_0_13 zw_1_4 zw_2_118 zmh_X2 zpd_X2_spared (Nat.le_of_ble_eq_true rfl) (Nat.le_of_ble_eq_true rfl) rfl rfl, sm_cv _ _ _ _ _ _ _⟩, ⟨_, ⟨sn_iload_n dX2_pay_52 rfl, sm_il _⟩, ⟨_, ⟨sn_min dX2_pay_53 zw_2_102 zw_2_77 zw_1_10 zw_2_78 (Nat.le_of_ble_eq_true rfl) (Nat.le_of_ble_eq_true rfl), sm_min _ _⟩, ⟨_, ⟨sn_istore dX2_pay_56 (Nat.le_of_ble_eq_true rfl), sm_is _⟩, ⟨_, ⟨sn_aload_n dX2_pay_58 rfl, sm_al _⟩, ⟨_, ⟨sn_get (C := RX2) (T := TX2) (N := 1) dX2_pay_59 rfl zinX2 (Nat.le_of_ble_eq_true rfl) zw_1_75, sm_get _ _⟩, ⟨_, ⟨sn_iconst dX2_pay_62 (by decide +kernel), sm_const _⟩, ⟨_, ⟨sn_iload_n dX2_pay_63 rfl, sm_il _⟩, ⟨_, ⟨sn_iadd dX2_pay_64, sm_bin _⟩, ⟨_, ⟨sn_dup2 dX2_pay_65, sm_dup2⟩, ⟨_, ⟨sn_iald dX2_pay_66, sm_iald⟩, ⟨_, ⟨sn_iload dX2_pay_67, sm_il _⟩, ⟨_, ⟨sn_isub dX2_pay_69, sm_bin _⟩, ⟨_, ⟨sn_iast dX2_pay_70, sm_iast⟩, ⟨_, ⟨sn_aload_n dX2_pay_71 rfl, sm_al _⟩, ⟨_, ⟨sn_get (C := RX2) (T := TX2) (N := 1) dX2_pay_72 rfl zinX2 (Nat.le_of_ble_eq_true rfl) zw_1_75, sm_get _ _⟩, ⟨_, ⟨sn_bipush dX2_pay_75 (by decide +kernel), sm_const _⟩, ⟨_, ⟨sn_iload_n dX2_pay_77 rfl, sm_il _⟩, ⟨_, ⟨sn_iadd dX2_pay_78, sm_bin _⟩, ⟨_, ⟨sn_dup2 dX2_pay_79, sm_dup2⟩, ⟨_, ⟨sn_iald dX2_pay_80, sm_iald⟩, ⟨_, ⟨sn_iload dX2_pay_81, sm_il _⟩, ⟨_, ⟨sn_iadd dX2_pay_83, sm_bin _⟩, ⟨_, ⟨sn_iast dX2_pay_84, sm_iast⟩, ⟨_, ⟨sn_aload_n dX2_pay_85 rfl, sm_al _⟩, ⟨_, ⟨sn_get (C := RX2) (T := TX2) (N := 1) dX2_pay_86 rfl zinX2 (Nat.le_of_ble_eq_true rfl) zw_1_75, sm_get _ _⟩, ⟨_, ⟨sn_bipush dX2_pay_89 (by decide +kernel), sm_const _⟩, ⟨_, ⟨sn_dup2 dX2_pay_91, sm_dup2⟩, ⟨_, ⟨sn_iald dX2_pay_92, sm_iald⟩, ⟨_, ⟨sn_iload dX2_pay_93, sm_il _⟩, ⟨_, ⟨sn_iadd dX2_pay_95, sm_bin _⟩, ⟨_, ⟨sn_iast dX2_pay_96, sm_iast⟩, ⟨_, ⟨sn_iload dX2_pay_97, sm_il _⟩, ⟨_, ⟨sn_ri (len := 1) dX2_pay_99 rfl, sm_ri⟩, trivial⟩⟩⟩⟩⟩⟩⟩⟩⟩⟩⟩⟩⟩⟩⟩⟩⟩⟩⟩⟩⟩⟩⟩⟩⟩⟩⟩⟩⟩⟩⟩⟩⟩⟩⟩⟩⟩⟩⟩⟩⟩⟩⟩⟩⟩⟩⟩⟩
theorem kX2_pay : ∀ pc, sx_BK sx_tb yX2_pay.cls cX2_pay 5 (some .int) ({ frames := 1, cells := 0, slots := 0, locals := 22 } : Room) false false 0 (fun _ => 0) pc (BX2_pay pc) := fun pc => sx_bk_if (kX2_pay_0) (sx_bk_if (kX2_pay_28) (sx_bk_if (kX2_pay_29) (trivial)))
theorem okX2_pay : sx_ok sx_tb BX2_pay (yX2_pay, cX2_pay, 5, some .int, { frames := 1, cells := 0, slots := 0, locals := 22 }) := ⟨by decide, by decide +kernel, false, (fun h => by cases h), kX2_pay⟩
theorem dX2_spared_0 : decode cX2_spared 0 = .ok (.iload_n 1, 1) := by decide +kernel
theorem dX2_spared_1 : decode cX2_spared 1 = .ok (.tableswitch 50 3 5 #[27, 46, 46], 27) := by decide +kernel
theorem dX2_spared_28 : decode cX2_spared 28 = .ok (.aload_n 0, 1) := by decide +kernel
theorem dX2_spared_29 : decode cX2_spared 29 = .ok (.getfield 11, 3) := by decide +kernel
theorem dX2_spared_32 : decode cX2_spared 32 = .ok (.bipush 61, 2) := by decide +kernel
theorem dX2_spared_34 : decode cX2_spared 34 = .ok (.iaload, 1) := by decide +kernel
theorem dX2_spared_35 : decode cX2_spared 35 = .ok (.iconst 4, 1) := by decide +kernel
theorem dX2_spared_36 : decode cX2_spared 36 = .ok (.irem, 1) := by decide +kernel
theorem dX2_spared_37 : decode cX2_spared 37 = .ok (.iconst 3, 1) := by decide +kernel
theorem dX2_spared_38 : decode cX2_spared 38 = .ok (.if_icmp .ne 7, 3) := by decide +kernel
theorem dX2_spared_41 : decode cX2_spared 41 = .ok (.iload_n 2, 1) := by decide +kernel
theorem dX2_spared_42 : decode cX2_spared 42 = .ok (.goto 4, 3) := by decide +kernel
theorem dX2_spared_45 : decode cX2_spared 45 = .ok (.iconst 0, 1) := by decide +kernel
theorem dX2_spared_46 : decode cX2_spared 46 = .ok (.ireturn, 1) := by decide +kernel
theorem dX2_spared_47 : decode cX2_spared 47 = .ok (.iload_n 2, 1) := by decide +kernel
theorem dX2_spared_48 : decode cX2_spared 48 = .ok (.iconst 2, 1) := by decide +kernel
theorem dX2_spared_49 : decode cX2_spared 49 = .ok (.idiv, 1) := by decide +kernel
theorem dX2_spared_50 : decode cX2_spared 50 = .ok (.ireturn, 1) := by decide +kernel
theorem dX2_spared_51 : decode cX2_spared 51 = .ok (.iload_n 2, 1) := by decide +kernel
theorem dX2_spared_52 : decode cX2_spared 52 = .ok (.ireturn, 1) := by decide +kernel
def bX2_spared_0 : List sx_S := [si_il 1, si_sw [((nI 3), 28, [true, false, true]), ((nI 4), 47, [false, false, true]), ((nI 5), 47, [false, false, true])] 51 [false, false, true]]
def bX2_spared_28 : List sx_S := [si_al 0, si_get 2 0, si_const (nI 61), si_iald, si_const (nI 4), si_div (fun x y => x - x / y * y), si_const (nI 3), si_if2 (fun x y => ¬ x = y) 45 [false, false, false], si_il 2, si_go 46 [false, false, false]]
def bX2_spared_45 : List sx_S := [si_const 0, si_go 46 [false, false, false]]
def bX2_spared_46 : List sx_S := [si_ri]
def bX2_spared_47 : List sx_S := [si_il 2, si_const (nI 2), si_div (fun x y => x / y), si_ri]
def bX2_spared_51 : List sx_S := [si_il 2, si_ri]
def BX2_spared : Nat → List sx_S := fun pc => if pc = 0 then bX2_spared_0 else if pc = 28 then bX2_spared_28 else if pc = 45 then bX2_spared_45 else if pc = 46 then bX2_spared_46 else if pc = 47 then bX2_spared_47 else if pc = 51 then bX2_spared_51 else []
set_option maxRecDepth 20000 in
theorem kX2_spared_0 : sx_BK sx_tb yX2_spared.cls cX2_spared 3 (some .int) ({ frames := 0, cells := 0, slots := 0, locals := 0 } : Room) false false 0 (fun _ => 0) 0 (bX2_spared_0) := ⟨_, ⟨sn_iload_n dX2_spared_0 rfl, sm_il _⟩, ⟨_, ⟨sn_tsw (len := 3) dX2_spared_1 (by decide +kernel) (by decide +kernel) (by decide +kernel) rfl, sm_sw _ _ _⟩, trivial⟩⟩
set_option maxRecDepth 20000 in
theorem kX2_spared_28 : sx_BK sx_tb yX2_spared.cls cX2_spared 3 (some .int) ({ frames := 0, cells := 0, slots := 0, locals := 0 } : Room) false false 0 (fun _ => 0) 28 (bX2_spared_28) := ⟨_, ⟨sn_aload_n dX2_spared_28 rfl, sm_al _⟩, ⟨_, ⟨sn_get (C := RX2) (T := TX2) (N := 1) dX2_spared_29 rfl zinX2 (Nat.le_of_ble_eq_true rfl) zw_1_75, sm_get _ _⟩, ⟨_, ⟨sn_bipush dX2_spared_32 (by decide +kernel), sm_const _⟩, ⟨_, ⟨sn_iald dX2_spared_34, sm_iald⟩, ⟨_, ⟨sn_iconst dX2_spared_35 (by decide +kernel), sm_const _⟩, ⟨_, ⟨sn_irem dX2_spared_36, sm_div _⟩, ⟨_, ⟨sn_iconst dX2_spared_37 (by decide +kernel), sm_const _⟩, ⟨_, ⟨sn_ic_ne dX2_spared_38 (by decide +kernel) rfl, sm_if2 _ _ _⟩, ⟨_, ⟨sn_iload_n dX2_spared_41 rfl, sm_il _⟩, ⟨_, ⟨sn_goto (len := 3) dX2_spared_42 (by decide +kernel) rfl, sm_go _ _⟩, trivial⟩⟩⟩⟩⟩⟩⟩⟩⟩⟩
set_option maxRecDepth 20000 in
theorem kX2_spared_45 : sx_BK sx_tb yX2_spared.cls cX2_spared 3 (some .int) ({ frames := 0, cells := 0, slots := 0, locals := 0 } : Room) false false 0 (fun _ => 0) 45 (bX2_spared_45) := ⟨_, ⟨sn_iconst dX2_spared_45 (by decide +kernel), sm_const _⟩, ⟨_, ⟨sn_fall (len := 0) rfl rfl, sm_go _ _⟩, trivial⟩⟩
set_option maxRecDepth 20000 in
theorem kX2_spared_46 : sx_BK sx_tb yX2_spared.cls cX2_spared 3 (some .int) ({ frames := 0, cells := 0, slots := 0, locals := 0 } : Room) false false 0 (fun _ => 0) 46 (bX2_spared_46) := ⟨_, ⟨sn_ri (len := 1) dX2_spared_46 rfl, sm_ri⟩, trivial⟩
set_option maxRecDepth 20000 in
theorem kX2_spared_47 : sx_BK sx_tb yX2_spared.cls cX2_spared 3 (some .int) ({ frames := 0, cells := 0, slots := 0, locals := 0 } : Room) false false 0 (fun _ => 0) 47 (bX2_spared_47) := ⟨_, ⟨sn_iload_n dX2_spared_47 rfl, sm_il _⟩, ⟨_, ⟨sn_iconst dX2_spared_48 (by decide +kernel), sm_const _⟩, ⟨_, ⟨sn_idiv dX2_spared_49, sm_div _⟩, ⟨_, ⟨sn_ri (len := 1) dX2_spared_50 rfl, sm_ri⟩, trivial⟩⟩⟩⟩
set_option maxRecDepth 20000 in
theorem kX2_spared_51 : sx_BK sx_tb yX2_spared.cls cX2_spared 3 (some .int) ({ frames := 0, cells := 0, slots := 0, locals := 0 } : Room) false false 0 (fun _ => 0) 51 (bX2_spared_51) := ⟨_, ⟨sn_iload_n dX2_spared_51 rfl, sm_il _⟩, ⟨_, ⟨sn_ri (len := 1) dX2_spared_52 rfl, sm_ri⟩, trivial⟩⟩
theorem kX2_spared : ∀ pc, sx_BK sx_tb yX2_spared.cls cX2_spared 3 (some .int) ({ frames := 0, cells := 0, slots := 0, locals := 0 } : Room) false false 0 (fun _ => 0) pc (BX2_spared pc) := fun pc => sx_bk_if (kX2_spared_0) (sx_bk_if (kX2_spared_28) (sx_bk_if (kX2_spared_45) (sx_bk_if (kX2_spared_46) (sx_bk_if (kX2_spared_47) (sx_bk_if (kX2_spared_51) (trivial))))))
theorem okX2_spared : sx_ok sx_tb BX2_spared (yX2_spared, cX2_spared, 3, some .int, { frames := 0, cells := 0, slots := 0, locals := 0 }) := ⟨by decide, by decide +kernel, false, (fun h => by cases h), kX2_spared⟩
theorem dX2_worth_0 : decode cX2_worth 0 = .ok (.aload_n 0, 1) := by decide +kernel
theorem dX2_worth_1 : decode cX2_worth 1 = .ok (.getfield 11, 3) := by decide +kernel
theorem dX2_worth_4 : decode cX2_worth 4 = .ok (.bipush 54, 2) := by decide +kernel
theorem dX2_worth_6 : decode cX2_worth 6 = .ok (.iaload, 1) := by decide +kernel
theorem dX2_worth_7 : decode cX2_worth 7 = .ok (.aload_n 0, 1) := by decide +kernel
theorem dX2_worth_8 : decode cX2_worth 8 = .ok (.getfield 11, 3) := by decide +kernel
theorem dX2_worth_11 : decode cX2_worth 11 = .ok (.bipush 55, 2) := by decide +kernel
theorem dX2_worth_13 : decode cX2_worth 13 = .ok (.iaload, 1) := by decide +kernel
theorem dX2_worth_14 : decode cX2_worth 14 = .ok (.isub, 1) := by decide +kernel
theorem dX2_worth_15 : decode cX2_worth 15 = .ok (.ireturn, 1) := by decide +kernel
def bX2_worth_0 : List sx_S := [si_al 0, si_get 2 0, si_const (nI 54), si_iald, si_al 0, si_get 2 0, si_const (nI 55), si_iald, si_bin (fun x y => x - y), si_ri]
def BX2_worth : Nat → List sx_S := fun pc => if pc = 0 then bX2_worth_0 else []
set_option maxRecDepth 20000 in
theorem kX2_worth_0 : sx_BK sx_tb yX2_worth.cls cX2_worth 1 (some .int) ({ frames := 0, cells := 0, slots := 0, locals := 0 } : Room) false false 0 (fun _ => 0) 0 (bX2_worth_0) := ⟨_, ⟨sn_aload_n dX2_worth_0 rfl, sm_al _⟩, ⟨_, ⟨sn_get (C := RX2) (T := TX2) (N := 1) dX2_worth_1 rfl zinX2 (Nat.le_of_ble_eq_true rfl) zw_1_75, sm_get _ _⟩, ⟨_, ⟨sn_bipush dX2_worth_4 (by decide +kernel), sm_const _⟩, ⟨_, ⟨sn_iald dX2_worth_6, sm_iald⟩, ⟨_, ⟨sn_aload_n dX2_worth_7 rfl, sm_al _⟩, ⟨_, ⟨sn_get (C := RX2) (T := TX2) (N := 1) dX2_worth_8 rfl zinX2 (Nat.le_of_ble_eq_true rfl) zw_1_75, sm_get _ _⟩, ⟨_, ⟨sn_bipush dX2_worth_11 (by decide +kernel), sm_const _⟩, ⟨_, ⟨sn_iald dX2_worth_13, sm_iald⟩, ⟨_, ⟨sn_isub dX2_worth_14, sm_bin _⟩, ⟨_, ⟨sn_ri (len := 1) dX2_worth_15 rfl, sm_ri⟩, trivial⟩⟩⟩⟩⟩⟩⟩⟩⟩⟩
theorem kX2_worth : ∀ pc, sx_BK sx_tb yX2_worth.cls cX2_worth 1 (some .int) ({ frames := 0, cells := 0, slots := 0, locals := 0 } : Room) false false 0 (fun _ => 0) pc (BX2_worth pc) := fun pc => sx_bk_if (kX2_worth_0) (trivial)
theorem okX2_worth : sx_ok sx_tb BX2_worth (yX2_worth, cX2_worth, 1, some .int, { frames := 0, cells := 0, slots := 0, locals := 0 }) := ⟨by decide, by decide +kernel, false, (fun h => by cases h), kX2_worth⟩
theorem dX2_allDebts_0 : decode cX2_allDebts 0 = .ok (.iconst 0, 1) := by decide +kernel
theorem dX2_allDebts_1 : decode cX2_allDebts 1 = .ok (.istore_n 1, 1) := by decide +kernel
theorem dX2_allDebts_2 : decode cX2_allDebts 2 = .ok (.iconst 0, 1) := by decide +kernel
theorem dX2_allDebts_3 : decode cX2_allDebts 3 = .ok (.istore_n 2, 1) := by decide +kernel
theorem dX2_allDebts_4 : decode cX2_allDebts 4 = .ok (.iload_n 2, 1) := by decide +kernel
theorem dX2_allDebts_5 : decode cX2_allDebts 5 = .ok (.bipush 6, 2) := by decide +kernel
theorem dX2_allDebts_7 : decode cX2_allDebts 7 = .ok (.if_icmp .ge 32, 3) := by decide +kernel
theorem dX2_allDebts_10 : decode cX2_allDebts 10 = .ok (.aload_n 0, 1) := by decide +kernel
theorem dX2_allDebts_11 : decode cX2_allDebts 11 = .ok (.getfield 11, 3) := by decide +kernel
theorem dX2_allDebts_14 : decode cX2_allDebts 14 = .ok (.bipush 30, 2) := by decide +kernel
theorem dX2_allDebts_16 : decode cX2_allDebts 16 = .ok (.iload_n 2, 1) := by decide +kernel
theorem dX2_allDebts_17 : decode cX2_allDebts 17 = .ok (.iadd, 1) := by decide +kernel
theorem dX2_allDebts_18 : decode cX2_allDebts 18 = .ok (.iaload, 1) := by decide +kernel
theorem dX2_allDebts_19 : decode cX2_allDebts 19 = .ok (.ifCond .ne 14, 3) := by decide +kernel
theorem dX2_allDebts_22 : decode cX2_allDebts 22 = .ok (.iload_n 1, 1) := by decide +kernel
theorem dX2_allDebts_23 : decode cX2_allDebts 23 = .ok (.aload_n 0, 1) := by decide +kernel
theorem dX2_allDebts_24 : decode cX2_allDebts 24 = .ok (.getfield 11, 3) := by decide +kernel
theorem dX2_allDebts_27 : decode cX2_allDebts 27 = .ok (.iconst 0, 1) := by decide +kernel
theorem dX2_allDebts_28 : decode cX2_allDebts 28 = .ok (.iload_n 2, 1) := by decide +kernel
theorem dX2_allDebts_29 : decode cX2_allDebts 29 = .ok (.iadd, 1) := by decide +kernel
theorem dX2_allDebts_30 : decode cX2_allDebts 30 = .ok (.iaload, 1) := by decide +kernel
theorem dX2_allDebts_31 : decode cX2_allDebts 31 = .ok (.iadd, 1) := by decide +kernel
theorem dX2_allDebts_32 : decode cX2_allDebts 32 = .ok (.istore_n 1, 1) := by decide +kernel
theorem dX2_allDebts_33 : decode cX2_allDebts 33 = .ok (.iinc 2 1, 3) := by decide +kernel
theorem dX2_allDebts_36 : decode cX2_allDebts 36 = .ok (.goto (-32), 3) := by decide +kernel
theorem dX2_allDebts_39 : decode cX2_allDebts 39 = .ok (.iload_n 1, 1) := by decide +kernel
theorem dX2_allDebts_40 : decode cX2_allDebts 40 = .ok (.ireturn, 1) := by decide +kernel
def bX2_allDebts_0 : List sx_S := [si_const 0, si_is 1, si_const 0, si_is 2, si_go 4 [true, true, true]]
def bX2_allDebts_4 : List sx_S := [si_il 2, si_const (nI 6), si_if2 (fun x y => y ≤ x) 39 [false, true, false], si_al 0, si_get 2 0, si_const (nI 30), si_il 2, si_bin (fun x y => x + y), si_iald, si_if1 (fun x => ¬ x = 0) 33 [true, true, true], si_il 1, si_al 0, si_get 2 0, si_const 0, si_il 2, si_bin (fun x y => x + y), si_iald, si_bin (fun x y => x + y), si_is 1, si_go 33 [true, true, true]]
def bX2_allDebts_33 : List sx_S := [si_inc 2 1, si_go 4 [true, true, true]]
def bX2_allDebts_39 : List sx_S := [si_il 1, si_ri]
def BX2_allDebts : Nat → List sx_S := fun pc => if pc = 0 then bX2_allDebts_0 else if pc = 4 then bX2_allDebts_4 else if pc = 33 then bX2_allDebts_33 else if pc = 39 then bX2_allDebts_39 else []
set_option maxRecDepth 20000 in
theorem kX2_allDebts_0 : sx_BK sx_tb yX2_allDebts.cls cX2_allDebts 3 (some .int) ({ frames := 0, cells := 0, slots := 0, locals := 0 } : Room) false false 0 (fun _ => 0) 0 (bX2_allDebts_0) := ⟨_, ⟨sn_iconst dX2_allDebts_0 (by decide +kernel), sm_const _⟩, ⟨_, ⟨sn_istore_n dX2_allDebts_1 rfl (Nat.le_of_ble_eq_true rfl), sm_is _⟩, ⟨_, ⟨sn_iconst dX2_allDebts_2 (by decide +kernel), sm_const _⟩, ⟨_, ⟨sn_istore_n dX2_allDebts_3 rfl (Nat.le_of_ble_eq_true rfl), sm_is _⟩, ⟨_, ⟨sn_fall (len := 0) rfl rfl, sm_go _ _⟩, trivial⟩⟩⟩⟩⟩
set_option maxRecDepth 20000 in
theorem kX2_allDebts_4 : sx_BK sx_tb yX2_allDebts.cls cX2_allDebts 3 (some .int) ({ frames := 0, cells := 0, slots := 0, locals := 0 } : Room) false false 0 (fun _ => 0) 4 (bX2_allDebts_4) := ⟨_, ⟨sn_iload_n dX2_allDebts_4 rfl, sm_il _⟩, ⟨_, ⟨sn_bipush dX2_allDebts_5 (by decide +kernel), sm_const _⟩, ⟨_, ⟨sn_ic_ge dX2_allDebts_7 (by decide +kernel) rfl, sm_if2 _ _ _⟩, ⟨_, ⟨sn_aload_n dX2_allDebts_10 rfl, sm_al _⟩, ⟨_, ⟨sn_get (C := RX2) (T := TX2) (N := 1) dX2_allDebts_11 rfl zinX2 (Nat.le_of_ble_eq_true rfl) zw_1_75, sm_get _ _⟩, ⟨_, ⟨sn_bipush dX2_allDebts_14 (by decide +kernel), sm_const _⟩, ⟨_, ⟨sn_iload_n dX2_allDebts_16 rfl, sm_il _⟩, ⟨_, ⟨sn_iadd dX2_allDebts_17, sm_bin _⟩, ⟨_, ⟨sn_iald dX2_allDebts_18, sm_iald⟩, ⟨_, ⟨sn_if_ne dX2_allDebts_19 (by decide +kernel) rfl, sm_if1 _ _ _⟩, ⟨_, ⟨sn_iload_n dX2_allDebts_22 rfl, sm_il _⟩, ⟨_, ⟨sn_aload_n dX2_allDebts_23 rfl, sm_al _⟩, ⟨_, ⟨sn_get (C := RX2) (T := TX2) (N := 1) dX2_allDebts_24 rfl zinX2 (Nat.le_of_ble_eq_true rfl) zw_1_75, sm_get _ _⟩, ⟨_, ⟨sn_iconst dX2_allDebts_27 (by decide +kernel), sm_const _⟩, ⟨_, ⟨sn_iload_n dX2_allDebts_28 rfl, sm_il _⟩, ⟨_, ⟨sn_iadd dX2_allDebts_29, sm_bin _⟩, ⟨_, ⟨sn_iald dX2_allDebts_30, sm_iald⟩, ⟨_, ⟨sn_iadd dX2_allDebts_31, sm_bin _⟩, ⟨_, ⟨sn_istore_n dX2_allDebts_32 rfl (Nat.le_of_ble_eq_true rfl), sm_is _⟩, ⟨_, ⟨sn_fall (len := 0) rfl rfl, sm_go _ _⟩, trivial⟩⟩⟩⟩⟩⟩⟩⟩⟩⟩⟩⟩⟩⟩⟩⟩⟩⟩⟩⟩
set_option maxRecDepth 20000 in
theorem kX2_allDebts_33 : sx_BK sx_tb yX2_allDebts.cls cX2_allDebts 3 (some .int) ({ frames := 0, cells := 0, slots := 0, locals := 0 } : Room) false false 0 (fun _ => 0) 33 (bX2_allDebts_33) := ⟨_, ⟨sn_iinc dX2_allDebts_33 (by decide +kernel) (Nat.le_of_ble_eq_true rfl), sm_inc _ _⟩, ⟨_, ⟨sn_goto (len := 3) dX2_allDebts_36 (by decide +kernel) rfl, sm_go _ _⟩, trivial⟩⟩
set_option maxRecDepth 20000 in
theorem kX2_allDebts_39 : sx_BK sx_tb yX2_allDebts.cls cX2_allDebts 3 (some .int) ({ frames := 0, cells := 0, slots := 0, locals := 0 } : Room) false false 0 (fun _ => 0) 39 (bX2_allDebts_39) := ⟨_, ⟨sn_iload_n dX2_allDebts_39 rfl, sm_il _⟩, ⟨_, ⟨sn_ri (len := 1) dX2_allDebts_40 rfl, sm_ri⟩, trivial⟩⟩
theorem kX2_allDebts : ∀ pc, sx_BK sx_tb yX2_allDebts.cls cX2_allDebts 3 (some .int) ({ frames := 0, cells := 0, slots := 0, locals := 0 } : Room) false false 0 (fun _ => 0) pc (BX2_allDebts pc) := fun pc => sx_bk_if (kX2_allDebts_0) (sx_bk_if (kX2_allDebts_4) (sx_bk_if (kX2_allDebts_33) (sx_bk_if (kX2_allDebts_39) (trivial))))
theorem okX2_allDebts : sx_ok sx_tb BX2_allDebts (yX2_allDebts, cX2_allDebts, 3, some .int, { frames := 0, cells := 0, slots := 0, locals := 0 }) := ⟨by decide, by decide +kernel, false, (fun h => by cases h), kX2_allDebts⟩
theorem dX2_lost_0 : decode cX2_lost 0 = .ok (.iconst 0, 1) := by decide +kernel
theorem dX2_lost_1 : decode cX2_lost 1 = .ok (.istore_n 1, 1) := by decide +kernel
theorem dX2_lost_2 : decode cX2_lost 2 = .ok (.iconst 0, 1) := by decide +kernel
theorem dX2_lost_3 : decode cX2_lost 3 = .ok (.istore_n 2, 1) := by decide +kernel
theorem dX2_lost_4 : decode cX2_lost 4 = .ok (.iload_n 2, 1) := by decide +kernel
theorem dX2_lost_5 : decode cX2_lost 5 = .ok (.bipush 6, 2) := by decide +kernel
theorem dX2_lost_7 : decode cX2_lost 7 = .ok (.if_icmp .ge 36, 3) := by decide +kernel
theorem dX2_lost_10 : decode cX2_lost 10 = .ok (.aload_n 0, 1) := by decide +kernel
theorem dX2_lost_11 : decode cX2_lost 11 = .ok (.iload_n 2, 1) := by decide +kernel
theorem dX2_lost_12 : decode cX2_lost 12 = .ok (.invokevirtual 21, 3) := by decide +kernel
theorem dX2_lost_15 : decode cX2_lost 15 = .ok (.ifCond .eq 22, 3) := by decide +kernel
theorem dX2_lost_18 : decode cX2_lost 18 = .ok (.aload_n 0, 1) := by decide +kernel
theorem dX2_lost_19 : decode cX2_lost 19 = .ok (.iload_n 2, 1) := by decide +kernel
theorem dX2_lost_20 : decode cX2_lost 20 = .ok (.invokevirtual 36, 3) := by decide +kernel
theorem dX2_lost_23 : decode cX2_lost 23 = .ok (.ifCond .ne 14, 3) := by decide +kernel
theorem dX2_lost_26 : decode cX2_lost 26 = .ok (.iload_n 1, 1) := by decide +kernel
theorem dX2_lost_27 : decode cX2_lost 27 = .ok (.aload_n 0, 1) := by decide +kernel
theorem dX2_lost_28 : decode cX2_lost 28 = .ok (.getfield 11, 3) := by decide +kernel
theorem dX2_lost_31 : decode cX2_lost 31 = .ok (.iconst 0, 1) := by decide +kernel
theorem dX2_lost_32 : decode cX2_lost 32 = .ok (.iload_n 2, 1) := by decide +kernel
theorem dX2_lost_33 : decode cX2_lost 33 = .ok (.iadd, 1) := by decide +kernel
theorem dX2_lost_34 : decode cX2_lost 34 = .ok (.iaload, 1) := by decide +kernel
theorem dX2_lost_35 : decode cX2_lost 35 = .ok (.iadd, 1) := by decide +kernel
theorem dX2_lost_36 : decode cX2_lost 36 = .ok (.istore_n 1, 1) := by decide +kernel
theorem dX2_lost_37 : decode cX2_lost 37 = .ok (.iinc 2 1, 3) := by decide +kernel
theorem dX2_lost_40 : decode cX2_lost 40 = .ok (.goto (-36), 3) := by decide +kernel
theorem dX2_lost_43 : decode cX2_lost 43 = .ok (.iload_n 1, 1) := by decide +kernel
theorem dX2_lost_44 : decode cX2_lost 44 = .ok (.ireturn, 1) := by decide +kernel
def bX2_lost_0 : List sx_S := [si_const 0, si_is 1, si_const 0, si_is 2, si_go 4 [true, true, true]]
def bX2_lost_4 : List sx_S := [si_il 2, si_const (nI 6), si_if2 (fun x y => y ≤ x) 43 [false, true, false], si_al 0, si_il 2, si_cv 2 24 1 0 0 0 0, si_if1 (fun x => x = 0) 37 [true, true, true], si_al 0, si_il 2, si_cv 2 25 1 0 0 0 0, si_if1 (fun x => ¬ x = 0) 37 [true, true, true], si_il 1, si_al 0, si_get 2 0, si_const 0, si_il 2, si_bin (fun x y => x + y), si_iald, si_bin (fun x y => x + y), si_is 1, si_go 37 [true, true, true]]
def bX2_lost_37 : List sx_S := [si_inc 2 1, si_go 4 [true, true, true]]
def bX2_lost_43 : List sx_S := [si_il 1, si_ri]
def BX2_lost : Nat → List sx_S := fun pc => if pc = 0 then bX2_lost_0 else if pc = 4 then bX2_lost_4 else if pc = 37 then bX2_lost_37 else if pc = 43 then bX2_lost_43 else []
set_option maxRecDepth 20000 in
theorem kX2_lost_0 : sx_BK sx_tb yX2_lost.cls cX2_lost 3 (some .int) ({ frames := 2, cells := 0, slots := 0, locals := 42 } : Room) false false 0 (fun _ => 0) 0 (bX2_lost_0) := ⟨_, ⟨sn_iconst dX2_lost_0 (by decide +kernel), sm_const _⟩, ⟨_, ⟨sn_istore_n dX2_lost_1 rfl (Nat.le_of_ble_eq_true rfl), sm_is _⟩, ⟨_, ⟨sn_iconst dX2_lost_2 (by decide +kernel), sm_const _⟩, ⟨_, ⟨sn_istore_n dX2_lost_3 rfl (Nat.le_of_ble_eq_true rfl), sm_is _⟩, ⟨_, ⟨sn_fall (len := 0) rfl rfl, sm_go _ _⟩, trivial⟩⟩⟩⟩⟩
set_option maxRecDepth 20000 in
theorem kX2_lost_4 : sx_BK sx_tb yX2_lost.cls cX2_lost 3 (some .int) ({ frames := 2, cells := 0, slots := 0, locals := 42 } : Room) false false 0 (fun _ => 0) 4 (bX2_lost_4) := ⟨_, ⟨sn_iload_n dX2_lost_4 rfl, sm_il _⟩, ⟨_, ⟨sn_bipush dX2_lost_5 (by decide +kernel), sm_const _⟩, ⟨_, ⟨sn_ic_ge dX2_lost_7 (by decide +kernel) rfl, sm_if2 _ _ _⟩, ⟨_, ⟨sn_aload_n dX2_lost_10 rfl, sm_al _⟩, ⟨_, ⟨sn_iload_n dX2_lost_11 rfl, sm_il _⟩, ⟨_, ⟨sn_cv_z (N := 1) (T := TX2) ztb_X2_has dX2_lost_12 rfl rfl zw_2_91 zw_2_92 zw_2_93 zw_1_4 zw_2_94 zmh_X2 zpd_X2_has (Nat.le_of_ble_eq_true rfl) (Nat.le_of_ble_eq_true rfl) rfl rfl, sm_cv _ _ _ _ _ _ _⟩, ⟨_, ⟨sn_if_eq dX2_lost_15 (by decide +kernel) rfl, sm_if1 _ _ _⟩, ⟨_, ⟨sn_aload_n dX2_lost_18 rfl, sm_al _⟩, ⟨_, ⟨sn_iload_n dX2_lost_19 rfl, sm_il _⟩, ⟨_, ⟨sn_cv_z (N := 1) (T := TX2) ztb_X2_comes dX2_lost_20 rfl rfl zw_2_87 zw_2_88 zw_2_89 zw_1_4 zw_2_90 zmh_X2 zpd_X2_comes (Nat.le_of_ble_eq_true rfl) (Nat.le_of_ble_eq_true rfl) rfl rfl, sm_cv _ _ _ _ _ _ _⟩, ⟨_, ⟨sn_if_ne dX2_lost_23 (by decide +kernel) rfl, sm_if1 _ _ _⟩, ⟨_, ⟨sn_iload_n dX2_lost_26 rfl, sm_il _⟩, ⟨_, ⟨sn_aload_n dX2_lost_27 rfl, sm_al _⟩, ⟨_, ⟨sn_get (C := RX2) (T := TX2) (N := 1) dX2_lost_28 rfl zinX2 (Nat.le_of_ble_eq_true rfl) zw_1_75, sm_get _ _⟩, ⟨_, ⟨sn_iconst dX2_lost_31 (by decide +kernel), sm_const _⟩, ⟨_, ⟨sn_iload_n dX2_lost_32 rfl, sm_il _⟩, ⟨_, ⟨sn_iadd dX2_lost_33, sm_bin _⟩, ⟨_, ⟨sn_iald dX2_lost_34, sm_iald⟩, ⟨_, ⟨sn_iadd dX2_lost_35, sm_bin _⟩, ⟨_, ⟨sn_istore_n dX2_lost_36 rfl (Nat.le_of_ble_eq_true rfl), sm_is _⟩, ⟨_, ⟨sn_fall (len := 0) rfl rfl, sm_go _ _⟩, trivial⟩⟩⟩⟩⟩⟩⟩⟩⟩⟩⟩⟩⟩⟩⟩⟩⟩⟩⟩⟩⟩
set_option maxRecDepth 20000 in
theorem kX2_lost_37 : sx_BK sx_tb yX2_lost.cls cX2_lost 3 (some .int) ({ frames := 2, cells := 0, slots := 0, locals := 42 } : Room) false false 0 (fun _ => 0) 37 (bX2_lost_37) := ⟨_, ⟨sn_iinc dX2_lost_37 (by decide +kernel) (Nat.le_of_ble_eq_true rfl), sm_inc _ _⟩, ⟨_, ⟨sn_goto (len := 3) dX2_lost_40 (by decide +kernel) rfl, sm_go _ _⟩, trivial⟩⟩
set_option maxRecDepth 20000 in
theorem kX2_lost_43 : sx_BK sx_tb yX2_lost.cls cX2_lost 3 (some .int) ({ frames := 2, cells := 0, slots := 0, locals := 42 } : Room) false false 0 (fun _ => 0) 43 (bX2_lost_43) := ⟨_, ⟨sn_iload_n dX2_lost_43 rfl, sm_il _⟩, ⟨_, ⟨sn_ri (len := 1) dX2_lost_44 rfl, sm_ri⟩, trivial⟩⟩
theorem kX2_lost : ∀ pc, sx_BK sx_tb yX2_lost.cls cX2_lost 3 (some .int) ({ frames := 2, cells := 0, slots := 0, locals := 42 } : Room) false false 0 (fun _ => 0) pc (BX2_lost pc) := fun pc => sx_bk_if (kX2_lost_0) (sx_bk_if (kX2_lost_4) (sx_bk_if (kX2_lost_37) (sx_bk_if (kX2_lost_43) (trivial))))
theorem okX2_lost : sx_ok sx_tb BX2_lost (yX2_lost, cX2_lost, 3, some .int, { frames := 2, cells := 0, slots := 0, locals := 42 }) := ⟨by decide, by decide +kernel, false, (fun h => by cases h), kX2_lost⟩
theorem dX2_bits_0 : decode cX2_bits 0 = .ok (.iconst 0, 1) := by decide +kernel
theorem dX2_bits_1 : decode cX2_bits 1 = .ok (.istore_n 2, 1) := by decide +kernel
theorem dX2_bits_2 : decode cX2_bits 2 = .ok (.iconst 0, 1) := by decide +kernel
theorem dX2_bits_3 : decode cX2_bits 3 = .ok (.istore_n 3, 1) := by decide +kernel
theorem dX2_bits_4 : decode cX2_bits 4 = .ok (.iload_n 3, 1) := by decide +kernel
theorem dX2_bits_5 : decode cX2_bits 5 = .ok (.bipush 6, 2) := by decide +kernel
theorem dX2_bits_7 : decode cX2_bits 7 = .ok (.if_icmp .ge 26, 3) := by decide +kernel
theorem dX2_bits_10 : decode cX2_bits 10 = .ok (.aload_n 0, 1) := by decide +kernel
theorem dX2_bits_11 : decode cX2_bits 11 = .ok (.getfield 11, 3) := by decide +kernel
theorem dX2_bits_14 : decode cX2_bits 14 = .ok (.iload_n 1, 1) := by decide +kernel
theorem dX2_bits_15 : decode cX2_bits 15 = .ok (.iload_n 3, 1) := by decide +kernel
theorem dX2_bits_16 : decode cX2_bits 16 = .ok (.iadd, 1) := by decide +kernel
theorem dX2_bits_17 : decode cX2_bits 17 = .ok (.iaload, 1) := by decide +kernel
theorem dX2_bits_18 : decode cX2_bits 18 = .ok (.ifCond .eq 9, 3) := by decide +kernel
theorem dX2_bits_21 : decode cX2_bits 21 = .ok (.iload_n 2, 1) := by decide +kernel
theorem dX2_bits_22 : decode cX2_bits 22 = .ok (.iconst 1, 1) := by decide +kernel
theorem dX2_bits_23 : decode cX2_bits 23 = .ok (.iload_n 3, 1) := by decide +kernel
theorem dX2_bits_24 : decode cX2_bits 24 = .ok (.ishl, 1) := by decide +kernel
theorem dX2_bits_25 : decode cX2_bits 25 = .ok (.ior, 1) := by decide +kernel
theorem dX2_bits_26 : decode cX2_bits 26 = .ok (.istore_n 2, 1) := by decide +kernel
theorem dX2_bits_27 : decode cX2_bits 27 = .ok (.iinc 3 1, 3) := by decide +kernel
theorem dX2_bits_30 : decode cX2_bits 30 = .ok (.goto (-26), 3) := by decide +kernel
theorem dX2_bits_33 : decode cX2_bits 33 = .ok (.iload_n 2, 1) := by decide +kernel
theorem dX2_bits_34 : decode cX2_bits 34 = .ok (.ireturn, 1) := by decide +kernel
def bX2_bits_0 : List sx_S := [si_const 0, si_is 2, si_const 0, si_is 3, si_go 4 [true, true, true, true]]
def bX2_bits_4 : List sx_S := [si_il 3, si_const (nI 6), si_if2 (fun x y => y ≤ x) 33 [false, false, true, false], si_al 0, si_get 2 0, si_il 1, si_il 3, si_bin (fun x y => x + y), si_iald, si_if1 (fun x => x = 0) 27 [true, true, true, true], si_il 2, si_const 1, si_il 3, si_bin (fun x y => x <<< (y &&& 31)), si_bin (fun x y => x ||| y), si_is 2, si_go 27 [true, true, true, true]]
def bX2_bits_27 : List sx_S := [si_inc 3 1, si_go 4 [true, true, true, true]]
def bX2_bits_33 : List sx_S := [si_il 2, si_ri]
def BX2_bits : Nat → List sx_S := fun pc => if pc = 0 then bX2_bits_0 else if pc = 4 then bX2_bits_4 else if pc = 27 then bX2_bits_27 else if pc = 33 then bX2_bits_33 else []
set_option maxRecDepth 20000 in
theorem kX2_bits_0 : sx_BK sx_tb yX2_bits.cls cX2_bits 4 (some .int) ({ frames := 0, cells := 0, slots := 0, locals := 0 } : Room) false false 0 (fun _ => 0) 0 (bX2_bits_0) := ⟨_, ⟨sn_iconst dX2_bits_0 (by decide +kernel), sm_const _⟩, ⟨_, ⟨sn_istore_n dX2_bits_1 rfl (Nat.le_of_ble_eq_true rfl), sm_is _⟩, ⟨_, ⟨sn_iconst dX2_bits_2 (by decide +kernel), sm_const _⟩, ⟨_, ⟨sn_istore_n dX2_bits_3 rfl (Nat.le_of_ble_eq_true rfl), sm_is _⟩, ⟨_, ⟨sn_fall (len := 0) rfl rfl, sm_go _ _⟩, trivial⟩⟩⟩⟩⟩
set_option maxRecDepth 20000 in
theorem kX2_bits_4 : sx_BK sx_tb yX2_bits.cls cX2_bits 4 (some .int) ({ frames := 0, cells := 0, slots := 0, locals := 0 } : Room) false false 0 (fun _ => 0) 4 (bX2_bits_4) := ⟨_, ⟨sn_iload_n dX2_bits_4 rfl, sm_il _⟩, ⟨_, ⟨sn_bipush dX2_bits_5 (by decide +kernel), sm_const _⟩, ⟨_, ⟨sn_ic_ge dX2_bits_7 (by decide +kernel) rfl, sm_if2 _ _ _⟩, ⟨_, ⟨sn_aload_n dX2_bits_10 rfl, sm_al _⟩, ⟨_, ⟨sn_get (C := RX2) (T := TX2) (N := 1) dX2_bits_11 rfl zinX2 (Nat.le_of_ble_eq_true rfl) zw_1_75, sm_get _ _⟩, ⟨_, ⟨sn_iload_n dX2_bits_14 rfl, sm_il _⟩, ⟨_, ⟨sn_iload_n dX2_bits_15 rfl, sm_il _⟩, ⟨_, ⟨sn_iadd dX2_bits_16, sm_bin _⟩, ⟨_, ⟨sn_iald dX2_bits_17, sm_iald⟩, ⟨_, ⟨sn_if_eq dX2_bits_18 (by decide +kernel) rfl, sm_if1 _ _ _⟩, ⟨_, ⟨sn_iload_n dX2_bits_21 rfl, sm_il _⟩, ⟨_, ⟨sn_iconst dX2_bits_22 (by decide +kernel), sm_const _⟩, ⟨_, ⟨sn_iload_n dX2_bits_23 rfl, sm_il _⟩, ⟨_, ⟨sn_ishl dX2_bits_24, sm_bin _⟩, ⟨_, ⟨sn_ior dX2_bits_25, sm_bin _⟩, ⟨_, ⟨sn_istore_n dX2_bits_26 rfl (Nat.le_of_ble_eq_true rfl), sm_is _⟩, ⟨_, ⟨sn_fall (len := 0) rfl rfl, sm_go _ _⟩, trivial⟩⟩⟩⟩⟩⟩⟩⟩⟩⟩⟩⟩⟩⟩⟩⟩⟩
set_option maxRecDepth 20000 in
theorem kX2_bits_27 : sx_BK sx_tb yX2_bits.cls cX2_bits 4 (some .int) ({ frames := 0, cells := 0, slots := 0, locals := 0 } : Room) false false 0 (fun _ => 0) 27 (bX2_bits_27) := ⟨_, ⟨sn_iinc dX2_bits_27 (by decide +kernel) (Nat.le_of_ble_eq_true rfl), sm_inc _ _⟩, ⟨_, ⟨sn_goto (len := 3) dX2_bits_30 (by decide +kernel) rfl, sm_go _ _⟩, trivial⟩⟩
set_option maxRecDepth 20000 in
theorem kX2_bits_33 : sx_BK sx_tb yX2_bits.cls cX2_bits 4 (some .int) ({ frames := 0, cells := 0, slots := 0, locals := 0 } : Room) false false 0 (fun _ => 0) 33 (bX2_bits_33) := ⟨_, ⟨sn_iload_n dX2_bits_33 rfl, sm_il _⟩, ⟨_, ⟨sn_ri (len := 1) dX2_bits_34 rfl, sm_ri⟩, trivial⟩⟩
theorem kX2_bits : ∀ pc, sx_BK sx_tb yX2_bits.cls cX2_bits 4 (some .int) ({ frames := 0, cells := 0, slots := 0, locals := 0 } : Room) false false 0 (fun _ => 0) pc (BX2_bits pc) := fun pc => sx_bk_if (kX2_bits_0) (sx_bk_if (kX2_bits_4) (sx_bk_if (kX2_bits_27) (sx_bk_if (kX2_bits_33) (trivial))))
theorem okX2_bits : sx_ok sx_tb BX2_bits (yX2_bits, cX2_bits, 4, some .int, { frames := 0, cells := 0, slots := 0, locals := 0 }) := ⟨by decide, by decide +kernel, false, (fun h => by cases h), kX2_bits⟩
theorem dX2_howManyCome_0 : decode cX2_howManyCome 0 = .ok (.iconst 0, 1) := by decide +kernel
theorem dX2_howManyCome_1 : decode cX2_howManyCome 1 = .ok (.istore_n 1, 1) := by decide +kernel
theorem dX2_howManyCome_2 : decode cX2_howManyCome 2 = .ok (.iconst 0, 1) := by decide +kernel
theorem dX2_howManyCome_3 : decode cX2_howManyCome 3 = .ok (.istore_n 2, 1) := by decide +kernel
theorem dX2_howManyCome_4 : decode cX2_howManyCome 4 = .ok (.iload_n 2, 1) := by decide +kernel
theorem dX2_howManyCome_5 : decode cX2_howManyCome 5 = .ok (.bipush 6, 2) := by decide +kernel
theorem dX2_howManyCome_7 : decode cX2_howManyCome 7 = .ok (.if_icmp .ge 20, 3) := by decide +kernel
theorem dX2_howManyCome_10 : decode cX2_howManyCome 10 = .ok (.aload_n 0, 1) := by decide +kernel
theorem dX2_howManyCome_11 : decode cX2_howManyCome 11 = .ok (.iload_n 2, 1) := by decide +kernel
theorem dX2_howManyCome_12 : decode cX2_howManyCome 12 = .ok (.invokevirtual 36, 3) := by decide +kernel
theorem dX2_howManyCome_15 : decode cX2_howManyCome 15 = .ok (.ifCond .eq 6, 3) := by decide +kernel
theorem dX2_howManyCome_18 : decode cX2_howManyCome 18 = .ok (.iinc 1 1, 3) := by decide +kernel
theorem dX2_howManyCome_21 : decode cX2_howManyCome 21 = .ok (.iinc 2 1, 3) := by decide +kernel
theorem dX2_howManyCome_24 : decode cX2_howManyCome 24 = .ok (.goto (-20), 3) := by decide +kernel
theorem dX2_howManyCome_27 : decode cX2_howManyCome 27 = .ok (.iload_n 1, 1) := by decide +kernel
theorem dX2_howManyCome_28 : decode cX2_howManyCome 28 = .ok (.ireturn, 1) := by decide +kernel
def bX2_howManyCome_0 : List sx_S := [si_const 0, si_is 1, si_const 0, si_is 2, si_go 4 [true, true, true]]
def bX2_howManyCome_4 : List sx_S := [si_il 2, si_const (nI 6), si_if2 (fun x y => y ≤ x) 27 [false, true, false], si_al 0, si_il 2, si_cv 2 25 1 0 0 0 0, si_if1 (fun x => x = 0) 21 [true, true, true], si_inc 1 1, si_go 21 [true, true, true]]
def bX2_howManyCome_21 : List sx_S := [si_inc 2 1, si_go 4 [true, true, true]]
def bX2_howManyCome_27 : List sx_S := [si_il 1, si_ri]
def BX2_howManyCome : Nat → List sx_S := fun pc => if pc = 0 then bX2_howManyCome_0 else if pc = 4 then bX2_howManyCome_4 else if pc = 21 then bX2_howManyCome_21 else if pc = 27 then bX2_howManyCome_27 else []
set_option maxRecDepth 20000 in
theorem kX2_howManyCome_0 : sx_BK sx_tb yX2_howManyCome.cls cX2_howManyCome 3 (some .int) ({ frames := 2, cells := 0, slots := 0, locals := 42 } : Room) false false 0 (fun _ => 0) 0 (bX2_howManyCome_0) := ⟨_, ⟨sn_iconst dX2_howManyCome_0 (by decide +kernel), sm_const _⟩, ⟨_, ⟨sn_istore_n dX2_howManyCome_1 rfl (Nat.le_of_ble_eq_true rfl), sm_is _⟩, ⟨_, ⟨sn_iconst dX2_howManyCome_2 (by decide +kernel), sm_const _⟩, ⟨_, ⟨sn_istore_n dX2_howManyCome_3 rfl (Nat.le_of_ble_eq_true rfl), sm_is _⟩, ⟨_, ⟨sn_fall (len := 0) rfl rfl, sm_go _ _⟩, trivial⟩⟩⟩⟩⟩
set_option maxRecDepth 20000 in
theorem kX2_howManyCome_4 : sx_BK sx_tb yX2_howManyCome.cls cX2_howManyCome 3 (some .int) ({ frames := 2, cells := 0, slots := 0, locals := 42 } : Room) false false 0 (fun _ => 0) 4 (bX2_howManyCome_4) := ⟨_, ⟨sn_iload_n dX2_howManyCome_4 rfl, sm_il _⟩, ⟨_, ⟨sn_bipush dX2_howManyCome_5 (by decide +kernel), sm_const _⟩, ⟨_, ⟨sn_ic_ge dX2_howManyCome_7 (by decide +kernel) rfl, sm_if2 _ _ _⟩, ⟨_, ⟨sn_aload_n dX2_howManyCome_10 rfl, sm_al _⟩, ⟨_, ⟨sn_iload_n dX2_howManyCome_11 rfl, sm_il _⟩, ⟨_, ⟨sn_cv_z (N := 1) (T := TX2) ztb_X2_comes dX2_howManyCome_12 rfl rfl zw_2_87 zw_2_88 zw_2_89 zw_1_4 zw_2_90 zmh_X2 zpd_X2_comes (Nat.le_of_ble_eq_true rfl) (Nat.le_of_ble_eq_true rfl) rfl rfl, sm_cv _ _ _ _ _ _ _⟩, ⟨_, ⟨sn_if_eq dX2_howManyCome_15 (by decide +kernel) rfl, sm_if1 _ _ _⟩, ⟨_, ⟨sn_iinc dX2_howManyCome_18 (by decide +kernel) (Nat.le_of_ble_eq_true rfl), sm_inc _ _⟩, ⟨_, ⟨sn_fall (len := 0) rfl rfl, sm_go _ _⟩, trivial⟩⟩⟩⟩⟩⟩⟩⟩⟩
set_option maxRecDepth 20000 in
theorem kX2_howManyCome_21 : sx_BK sx_tb yX2_howManyCome.cls cX2_howManyCome 3 (some .int) ({ frames := 2, cells := 0, slots := 0, locals := 42 } : Room) false false 0 (fun _ => 0) 21 (bX2_howManyCome_21) := ⟨_, ⟨sn_iinc dX2_howManyCome_21 (by decide +kernel) (Nat.le_of_ble_eq_true rfl), sm_inc _ _⟩, ⟨_, ⟨sn_goto (len := 3) dX2_howManyCome_24 (by decide +kernel) rfl, sm_go _ _⟩, trivial⟩⟩
set_option maxRecDepth 20000 in
theorem kX2_howManyCome_27 : sx_BK sx_tb yX2_howManyCome.cls cX2_howManyCome 3 (some .int) ({ frames := 2, cells := 0, slots := 0, locals := 42 } : Room) false false 0 (fun _ => 0) 27 (bX2_howManyCome_27) := ⟨_, ⟨sn_iload_n dX2_howManyCome_27 rfl, sm_il _⟩, ⟨_, ⟨sn_ri (len := 1) dX2_howManyCome_28 rfl, sm_ri⟩, trivial⟩⟩
theorem kX2_howManyCome : ∀ pc, sx_BK sx_tb yX2_howManyCome.cls cX2_howManyCome 3 (some .int) ({ frames := 2, cells := 0, slots := 0, locals := 42 } : Room) false false 0 (fun _ => 0) pc (BX2_howManyCome pc) := fun pc => sx_bk_if (kX2_howManyCome_0) (sx_bk_if (kX2_howManyCome_4) (sx_bk_if (kX2_howManyCome_21) (sx_bk_if (kX2_howManyCome_27) (trivial))))
theorem okX2_howManyCome : sx_ok sx_tb BX2_howManyCome (yX2_howManyCome, cX2_howManyCome, 3, some .int, { frames := 2, cells := 0, slots := 0, locals := 42 }) := ⟨by decide, by decide +kernel, false, (fun h => by cases h), kX2_howManyCome⟩
theorem dX2_owingMost_0 : decode cX2_owingMost 0 = .ok (.iconst 0, 1) := by decide +kernel
theorem dX2_owingMost_1 : decode cX2_owingMost 1 = .ok (.istore_n 2, 1) := by decide +kernel
theorem dX2_owingMost_2 : decode cX2_owingMost 2 = .ok (.iload_n 2, 1) := by decide +kernel
theorem dX2_owingMost_3 : decode cX2_owingMost 3 = .ok (.bipush 6, 2) := by decide +kernel
theorem dX2_owingMost_5 : decode cX2_owingMost 5 = .ok (.if_icmp .ge 28, 3) := by decide +kernel
theorem dX2_owingMost_8 : decode cX2_owingMost 8 = .ok (.aload_n 0, 1) := by decide +kernel
theorem dX2_owingMost_9 : decode cX2_owingMost 9 = .ok (.iload_n 2, 1) := by decide +kernel
theorem dX2_owingMost_10 : decode cX2_owingMost 10 = .ok (.invokevirtual 36, 3) := by decide +kernel
theorem dX2_owingMost_13 : decode cX2_owingMost 13 = .ok (.ifCond .eq 14, 3) := by decide +kernel
theorem dX2_owingMost_16 : decode cX2_owingMost 16 = .ok (.aload_n 0, 1) := by decide +kernel
theorem dX2_owingMost_17 : decode cX2_owingMost 17 = .ok (.iload_n 2, 1) := by decide +kernel
theorem dX2_owingMost_18 : decode cX2_owingMost 18 = .ok (.invokevirtual 61, 3) := by decide +kernel
theorem dX2_owingMost_21 : decode cX2_owingMost 21 = .ok (.iload_n 1, 1) := by decide +kernel
theorem dX2_owingMost_22 : decode cX2_owingMost 22 = .ok (.if_icmp .ne 5, 3) := by decide +kernel
theorem dX2_owingMost_25 : decode cX2_owingMost 25 = .ok (.iload_n 2, 1) := by decide +kernel
theorem dX2_owingMost_26 : decode cX2_owingMost 26 = .ok (.ireturn, 1) := by decide +kernel
theorem dX2_owingMost_27 : decode cX2_owingMost 27 = .ok (.iinc 2 1, 3) := by decide +kernel
theorem dX2_owingMost_30 : decode cX2_owingMost 30 = .ok (.goto (-28), 3) := by decide +kernel
theorem dX2_owingMost_33 : decode cX2_owingMost 33 = .ok (.ldc 64, 2) := by decide +kernel
theorem dX2_owingMost_35 : decode cX2_owingMost 35 = .ok (.ireturn, 1) := by decide +kernel
def bX2_owingMost_0 : List sx_S := [si_const 0, si_is 2, si_go 2 [true, true, true]]
def bX2_owingMost_2 : List sx_S := [si_il 2, si_const (nI 6), si_if2 (fun x y => y ≤ x) 33 [false, false, false], si_al 0, si_il 2, si_cv 2 25 1 0 0 0 0, si_if1 (fun x => x = 0) 27 [true, true, true], si_al 0, si_il 2, si_cv 2 41 1 0 0 0 0, si_il 1, si_if2 (fun x y => ¬ x = y) 27 [true, true, true], si_il 2, si_ri]
def bX2_owingMost_27 : List sx_S := [si_inc 2 1, si_go 2 [true, true, true]]
def bX2_owingMost_33 : List sx_S := [si_const (-1000000), si_ri]
def BX2_owingMost : Nat → List sx_S := fun pc => if pc = 0 then bX2_owingMost_0 else if pc = 2 then bX2_owingMost_2 else if pc = 27 then bX2_owingMost_27 else if pc = 33 then bX2_owingMost_33 else []
set_option maxRecDepth 20000 in
theorem kX2_owingMost_0 : sx_BK sx_tb yX2_owingMost.cls cX2_owingMost 3 (some .int) ({ frames := 3, cells := 0, slots := 0, locals := 66 } : Room) false false 0 (fun _ => 0) 0 (bX2_owingMost_0) := ⟨_, ⟨sn_iconst dX2_owingMost_0 (by decide +kernel), sm_const _⟩, ⟨_, ⟨sn_istore_n dX2_owingMost_1 rfl (Nat.le_of_ble_eq_true rfl), sm_is _⟩, ⟨_, ⟨sn_fall (len := 0) rfl rfl, sm_go _ _⟩, trivial⟩⟩⟩
set_option maxRecDepth 20000 in
theorem kX2_owingMost_2 : sx_BK sx_tb yX2_owingMost.cls cX2_owingMost 3 (some .int) ({ frames := 3, cells := 0, slots := 0, locals := 66 } : Room) false false 0 (fun _ => 0) 2 (bX2_owingMost_2) := ⟨_, ⟨sn_iload_n dX2_owingMost_2 rfl, sm_il _⟩, ⟨_, ⟨sn_bipush dX2_owingMost_3 (by decide +kernel), sm_const _⟩, ⟨_, ⟨sn_ic_ge dX2_owingMost_5 (by decide +kernel) rfl, sm_if2 _ _ _⟩, ⟨_, ⟨sn_aload_n dX2_owingMost_8 rfl, sm_al _⟩, ⟨_, ⟨sn_iload_n dX2_owingMost_9 rfl, sm_il _⟩, ⟨_, ⟨sn_cv_z (N := 1) (T := TX2) ztb_X2_comes dX2_owingMost_10 rfl rfl zw_2_87 zw_2_88 zw_2_89 zw_1_4 zw_2_90 zmh_X2 zpd_X2_comes (Nat.le_of_ble_eq_true rfl) (Nat.le_of_ble_eq_true rfl) rfl rfl, sm_cv _ _ _ _ _ _ _⟩, ⟨_, ⟨sn_if_eq dX2_owingMost_13 (by decide +kernel) rfl, sm_if1 _ _ _⟩, ⟨_, ⟨sn_aload_n dX2_owingMost_16 rfl, sm_al _⟩, ⟨_, ⟨sn_iload_n dX2_owingMost_17 rfl, sm_il _⟩, ⟨_, ⟨sn_cv_i (N := 1) (T := TX2) ztb_X2_aheadOf dX2_owingMost_18 rfl rfl zw_3_27 zw_3_29 zw_0_20 zw_1_4 zw_3_30 zmh_X2 zpd_X2_aheadOf (Nat.le_of_ble_eq_true rfl) (Nat.le_of_ble_eq_true rfl) rfl rfl, sm_cv _ _ _ _ _ _ _⟩, ⟨_, ⟨sn_iload_n dX2_owingMost_21 rfl, sm_il _⟩, ⟨_, ⟨sn_ic_ne dX2_owingMost_22 (by decide +kernel) rfl, sm_if2 _ _ _⟩, ⟨_, ⟨sn_iload_n dX2_owingMost_25 rfl, sm_il _⟩, ⟨_, ⟨sn_ri (len := 1) dX2_owingMost_26 rfl, sm_ri⟩, trivial⟩⟩⟩⟩⟩⟩⟩⟩⟩⟩⟩⟩⟩⟩
set_option maxRecDepth 20000 in
theorem kX2_owingMost_27 : sx_BK sx_tb yX2_owingMost.cls cX2_owingMost 3 (some .int) ({ frames := 3, cells := 0, slots := 0, locals := 66 } : Room) false false 0 (fun _ => 0) 27 (bX2_owingMost_27) := ⟨_, ⟨sn_iinc dX2_owingMost_27 (by decide +kernel) (Nat.le_of_ble_eq_true rfl), sm_inc _ _⟩, ⟨_, ⟨sn_goto (len := 3) dX2_owingMost_30 (by decide +kernel) rfl, sm_go _ _⟩, trivial⟩⟩
set_option maxRecDepth 20000 in
theorem kX2_owingMost_33 : sx_BK sx_tb yX2_owingMost.cls cX2_owingMost 3 (some .int) ({ frames := 3, cells := 0, slots := 0, locals := 66 } : Room) false false 0 (fun _ => 0) 33 (bX2_owingMost_33) := ⟨_, ⟨sn_ldc dX2_owingMost_33 zw_3_31, sm_const _⟩, ⟨_, ⟨sn_ri (len := 1) dX2_owingMost_35 rfl, sm_ri⟩, trivial⟩⟩
theorem kX2_owingMost : ∀ pc, sx_BK sx_tb yX2_owingMost.cls cX2_owingMost 3 (some .int) ({ frames := 3, cells := 0, slots := 0, locals := 66 } : Room) false false 0 (fun _ => 0) pc (BX2_owingMost pc) := fun pc => sx_bk_if (kX2_owingMost_0) (sx_bk_if (kX2_owingMost_2) (sx_bk_if (kX2_owingMost_27) (sx_bk_if (kX2_owingMost_33) (trivial))))
theorem okX2_owingMost : sx_ok sx_tb BX2_owingMost (yX2_owingMost, cX2_owingMost, 3, some .int, { frames := 3, cells := 0, slots := 0, locals := 66 }) := ⟨by decide, by decide +kernel, false, (fun h => by cases h), kX2_owingMost⟩
theorem dX2_aheadOf_0 : decode cX2_aheadOf 0 = .ok (.iconst 0, 1) := by decide +kernel
theorem dX2_aheadOf_1 : decode cX2_aheadOf 1 = .ok (.istore_n 2, 1) := by decide +kernel
theorem dX2_aheadOf_2 : decode cX2_aheadOf 2 = .ok (.iconst 0, 1) := by decide +kernel
theorem dX2_aheadOf_3 : decode cX2_aheadOf 3 = .ok (.istore_n 3, 1) := by decide +kernel
theorem dX2_aheadOf_4 : decode cX2_aheadOf 4 = .ok (.iload_n 3, 1) := by decide +kernel
theorem dX2_aheadOf_5 : decode cX2_aheadOf 5 = .ok (.bipush 6, 2) := by decide +kernel
theorem dX2_aheadOf_7 : decode cX2_aheadOf 7 = .ok (.if_icmp .ge 54, 3) := by decide +kernel
theorem dX2_aheadOf_10 : decode cX2_aheadOf 10 = .ok (.aload_n 0, 1) := by decide +kernel
theorem dX2_aheadOf_11 : decode cX2_aheadOf 11 = .ok (.getfield 11, 3) := by decide +kernel
theorem dX2_aheadOf_14 : decode cX2_aheadOf 14 = .ok (.iconst 0, 1) := by decide +kernel
theorem dX2_aheadOf_15 : decode cX2_aheadOf 15 = .ok (.iload_n 3, 1) := by decide +kernel
theorem dX2_aheadOf_16 : decode cX2_aheadOf 16 = .ok (.iadd, 1) := by decide +kernel
theorem dX2_aheadOf_17 : decode cX2_aheadOf 17 = .ok (.iaload, 1) := by decide +kernel
theorem dX2_aheadOf_18 : decode cX2_aheadOf 18 = .ok (.aload_n 0, 1) := by decide +kernel
theorem dX2_aheadOf_19 : decode cX2_aheadOf 19 = .ok (.getfield 11, 3) := by decide +kernel
theorem dX2_aheadOf_22 : decode cX2_aheadOf 22 = .ok (.iconst 0, 1) := by decide +kernel
theorem dX2_aheadOf_23 : decode cX2_aheadOf 23 = .ok (.iload_n 1, 1) := by decide +kernel
theorem dX2_aheadOf_24 : decode cX2_aheadOf 24 = .ok (.iadd, 1) := by decide +kernel
theorem dX2_aheadOf_25 : decode cX2_aheadOf 25 = .ok (.iaload, 1) := by decide +kernel
theorem dX2_aheadOf_26 : decode cX2_aheadOf 26 = .ok (.isub, 1) := by decide +kernel
theorem dX2_aheadOf_27 : decode cX2_aheadOf 27 = .ok (.istore 4, 2) := by decide +kernel
theorem dX2_aheadOf_29 : decode cX2_aheadOf 29 = .ok (.aload_n 0, 1) := by decide +kernel
theorem dX2_aheadOf_30 : decode cX2_aheadOf 30 = .ok (.iload_n 3, 1) := by decide +kernel
theorem dX2_aheadOf_31 : decode cX2_aheadOf 31 = .ok (.invokevirtual 36, 3) := by decide +kernel
theorem dX2_aheadOf_34 : decode cX2_aheadOf 34 = .ok (.ifCond .eq 21, 3) := by decide +kernel
theorem dX2_aheadOf_37 : decode cX2_aheadOf 37 = .ok (.iload 4, 2) := by decide +kernel
theorem dX2_aheadOf_39 : decode cX2_aheadOf 39 = .ok (.ifCond .gt 13, 3) := by decide +kernel
theorem dX2_aheadOf_42 : decode cX2_aheadOf 42 = .ok (.iload 4, 2) := by decide +kernel
theorem dX2_aheadOf_44 : decode cX2_aheadOf 44 = .ok (.ifCond .ne 11, 3) := by decide +kernel
theorem dX2_aheadOf_47 : decode cX2_aheadOf 47 = .ok (.iload_n 3, 1) := by decide +kernel
theorem dX2_aheadOf_48 : decode cX2_aheadOf 48 = .ok (.iload_n 1, 1) := by decide +kernel
theorem dX2_aheadOf_49 : decode cX2_aheadOf 49 = .ok (.if_icmp .ge 6, 3) := by decide +kernel
theorem dX2_aheadOf_52 : decode cX2_aheadOf 52 = .ok (.iinc 2 1, 3) := by decide +kernel
theorem dX2_aheadOf_55 : decode cX2_aheadOf 55 = .ok (.iinc 3 1, 3) := by decide +kernel
theorem dX2_aheadOf_58 : decode cX2_aheadOf 58 = .ok (.goto (-54), 3) := by decide +kernel
theorem dX2_aheadOf_61 : decode cX2_aheadOf 61 = .ok (.iload_n 2, 1) := by decide +kernel
theorem dX2_aheadOf_62 : decode cX2_aheadOf 62 = .ok (.ireturn, 1) := by decide +kernel
def bX2_aheadOf_0 : List sx_S := [si_const 0, si_is 2, si_const 0, si_is 3, si_go 4 [true, true, true, true, false]]
def bX2_aheadOf_4 : List sx_S := [si_il 3, si_const (nI 6), si_if2 (fun x y => y ≤ x) 61 [false, false, true, false, false], si_al 0, si_get 2 0, si_const 0, si_il 3, si_bin (fun x y => x + y), si_iald, si_al 0, si_get 2 0, si_const 0, si_il 1, si_bin (fun x y => x + y), si_iald, si_bin (fun x y => x - y), si_is 4, si_al 0, si_il 3, si_cv 2 25 1 0 0 0 0, si_if1 (fun x => x = 0) 55 [true, true, true, true, false], si_il 4, si_if1 (fun x => 0 < x) 52 [true, true, true, true, false], si_il 4, si_if1 (fun x => ¬ x = 0) 55 [true, true, true, true, false], si_il 3, si_il 1, si_if2 (fun x y => y ≤ x) 55 [true, true, true, true, false], si_go 52 [true, true, true, true, false]]
def bX2_aheadOf_52 : List sx_S := [si_inc 2 1, si_go 55 [true, true, true, true, false]]
def bX2_aheadOf_55 : List sx_S := [si_inc 3 1, si_go 4 [true, true, true, true, false]]
def bX2_aheadOf_61 : List sx_S := [si_il 2, si_ri]
def BX2_aheadOf : Nat → List sx_S := fun pc => if pc = 0 then bX2_aheadOf_0 else if pc = 4 then bX2_aheadOf_4 else if pc = 52 then bX2_aheadOf_52 else if pc = 55 then bX2_aheadOf_55 else if pc = 61 then bX2_aheadOf_61 else []
set_option maxRecDepth 20000 in
theorem kX2_aheadOf_0 : sx_BK sx_tb yX2_aheadOf.cls cX2_aheadOf 5 (some .int) ({ frames := 2, cells := 0, slots := 0, locals := 42 } : Room) false false 0 (fun _ => 0) 0 (bX2_aheadOf_0) := ⟨_, ⟨sn_iconst dX2_aheadOf_0 (by decide +kernel), sm_const _⟩, ⟨_, ⟨sn_istore_n dX2_aheadOf_1 rfl (Nat.le_of_ble_eq_true rfl), sm_is _⟩, ⟨_, ⟨sn_iconst dX2_aheadOf_2 (by decide +kernel), sm_const _⟩, ⟨_, ⟨sn_istore_n dX2_aheadOf_3 rfl (Nat.le_of_ble_eq_true rfl), sm_is _⟩, ⟨_, ⟨sn_fall (len := 0) rfl rfl, sm_go _ _⟩, trivial⟩⟩⟩⟩⟩
set_option maxRecDepth 20000 in
theorem kX2_aheadOf_4 : sx_BK sx_tb yX2_aheadOf.cls cX2_aheadOf 5 (some .int) ({ frames := 2, cells := 0, slots := 0, locals := 42 } : Room) false false 0 (fun _ => 0) 4 (bX2_aheadOf_4) := ⟨_, ⟨sn_iload_n dX2_aheadOf_4 rfl, sm_il _⟩, ⟨_, ⟨sn_bipush dX2_aheadOf_5 (by decide +kernel), sm_const _⟩, ⟨_, ⟨sn_ic_ge dX2_aheadOf_7 (by decide +kernel) rfl, sm_if2 _ _ _⟩, ⟨_, ⟨sn_aload_n dX2_aheadOf_10 rfl, sm_al _⟩, ⟨_, ⟨sn_get (C := RX2) (T := TX2) (N := 1) dX2_aheadOf_11 rfl zinX2 (Nat.le_of_ble_eq_true rfl) zw_1_75, sm_get _ _⟩, ⟨_, ⟨sn_iconst dX2_aheadOf_14 (by decide +kernel), sm_const _⟩, ⟨_, ⟨sn_iload_n dX2_aheadOf_15 rfl, sm_il _⟩, ⟨_, ⟨sn_iadd dX2_aheadOf_16, sm_bin _⟩, ⟨_, ⟨sn_iald dX2_aheadOf_17, sm_iald⟩, ⟨_, ⟨sn_aload_n dX2_aheadOf_18 rfl, sm_al _⟩, ⟨_, ⟨sn_get (C := RX2) (T := TX2) (N := 1) dX2_aheadOf_19 rfl zinX2 (Nat.le_of_ble_eq_true rfl) zw_1_75, sm_get _ _⟩, ⟨_, ⟨sn_iconst dX2_aheadOf_22 (by decide +kernel), sm_const _⟩, ⟨_, ⟨sn_iload_n dX2_aheadOf_23 rfl, sm_il _⟩, ⟨_, ⟨sn_iadd dX2_aheadOf_24, sm_bin _⟩, ⟨_, ⟨sn_iald dX2_aheadOf_25, sm_iald⟩, ⟨_, ⟨sn_isub dX2_aheadOf_26, sm_bin _⟩, ⟨_, ⟨sn_istore dX2_aheadOf_27 (Nat.le_of_ble_eq_true rfl), sm_is _⟩, ⟨_, ⟨sn_aload_n dX2_aheadOf_29 rfl, sm_al _⟩, ⟨_, ⟨sn_iload_n dX2_aheadOf_30 rfl, sm_il _⟩, ⟨_, ⟨sn_cv_z (N := 1) (T := TX2) ztb_X2_comes dX2_aheadOf_31 rfl rfl zw_2_87 zw_2_88 zw_2_89 zw_1_4 zw_2_90 zmh_X2 zpd_X2_comes (Nat.le_of_ble_eq_true rfl) (Nat.le_of_ble_eq_true rfl) rfl rfl, sm_cv _ _ _ _ _ _ _⟩, ⟨_, ⟨sn_if_eq dX2_aheadOf_34 (by decide +kernel) rfl, sm_if1 _ _ _⟩, ⟨_, ⟨sn_iload dX2_aheadOf_37, sm_il _⟩, ⟨_, ⟨sn_if_gt dX2_aheadOf_39 (by decide +kernel) rfl, sm_if1 _ _ _⟩, ⟨_, ⟨sn_iload dX2_aheadOf_42, sm_il _⟩, ⟨_, ⟨sn_if_ne dX2_aheadOf_44 (by decide +kernel) rfl, sm_if1 _ _ _⟩, ⟨_, ⟨sn_iload_n dX2_aheadOf_47 rfl, sm_il _⟩, ⟨_, ⟨sn_iload_n dX2_aheadOf_48 rfl, sm_il _⟩, ⟨_, ⟨sn_ic_ge dX2_aheadOf_49 (by decide +kernel) rfl, sm_if2 _ _ _⟩, ⟨_, ⟨sn_fall (len := 0) rfl rfl, sm_go _ _⟩, trivial⟩⟩⟩⟩⟩⟩⟩⟩⟩⟩⟩⟩⟩⟩⟩⟩⟩⟩⟩⟩⟩⟩⟩⟩⟩⟩⟩⟩⟩
set_option maxRecDepth 20000 in
theorem kX2_aheadOf_52 : sx_BK sx_tb yX2_aheadOf.cls cX2_aheadOf 5 (some .int) ({ frames := 2, cells := 0, slots := 0, locals := 42 } : Room) false false 0 (fun _ => 0) 52 (bX2_aheadOf_52) := ⟨_, ⟨sn_iinc dX2_aheadOf_52 (by decide +kernel) (Nat.le_of_ble_eq_true rfl), sm_inc _ _⟩, ⟨_, ⟨sn_fall (len := 0) rfl rfl, sm_go _ _⟩, trivial⟩⟩
set_option maxRecDepth 20000 in
theorem kX2_aheadOf_55 : sx_BK sx_tb yX2_aheadOf.cls cX2_aheadOf 5 (some .int) ({ frames := 2, cells := 0, slots := 0, locals := 42 } : Room) false false 0 (fun _ => 0) 55 (bX2_aheadOf_55) := ⟨_, ⟨sn_iinc dX2_aheadOf_55 (by decide +kernel) (Nat.le_of_ble_eq_true rfl), sm_inc _ _⟩, ⟨_, ⟨sn_goto (len := 3) dX2_aheadOf_58 (by decide +kernel) rfl, sm_go _ _⟩, trivial⟩⟩
set_option maxRecDepth 20000 in
theorem kX2_aheadOf_61 : sx_BK sx_tb yX2_aheadOf.cls cX2_aheadOf 5 (some .int) ({ frames := 2, cells := 0, slots := 0, locals := 42 } : Room) false false 0 (fun _ => 0) 61 (bX2_aheadOf_61) := ⟨_, ⟨sn_iload_n dX2_aheadOf_61 rfl, sm_il _⟩, ⟨_, ⟨sn_ri (len := 1) dX2_aheadOf_62 rfl, sm_ri⟩, trivial⟩⟩
theorem kX2_aheadOf : ∀ pc, sx_BK sx_tb yX2_aheadOf.cls cX2_aheadOf 5 (some .int) ({ frames := 2, cells := 0, slots := 0, locals := 42 } : Room) false false 0 (fun _ => 0) pc (BX2_aheadOf pc) := fun pc => sx_bk_if (kX2_aheadOf_0) (sx_bk_if (kX2_aheadOf_4) (sx_bk_if (kX2_aheadOf_52) (sx_bk_if (kX2_aheadOf_55) (sx_bk_if (kX2_aheadOf_61) (trivial)))))
theorem okX2_aheadOf : sx_ok sx_tb BX2_aheadOf (yX2_aheadOf, cX2_aheadOf, 5, some .int, { frames := 2, cells := 0, slots := 0, locals := 42 }) := ⟨by decide, by decide +kernel, false, (fun h => by cases h), kX2_aheadOf⟩
theorem dX3_atLeast_0 : decode cX3_atLeast 0 = .ok (.lconst 0, 1) := by decide +kernel
theorem dX3_atLeast_1 : decode cX3_atLeast 1 = .ok (.lstore 4, 2) := by decide +kernel
theorem dX3_atLeast_3 : decode cX3_atLeast 3 = .ok (.iload_n 0, 1) := by decide +kernel
theorem dX3_atLeast_4 : decode cX3_atLeast 4 = .ok (.istore 6, 2) := by decide +kernel
theorem dX3_atLeast_6 : decode cX3_atLeast 6 = .ok (.iload 6, 2) := by decide +kernel
theorem dX3_atLeast_8 : decode cX3_atLeast 8 = .ok (.iload_n 1, 1) := by decide +kernel
theorem dX3_atLeast_9 : decode cX3_atLeast 9 = .ok (.if_icmp .gt 39, 3) := by decide +kernel
theorem dX3_atLeast_12 : decode cX3_atLeast 12 = .ok (.lload 4, 2) := by decide +kernel
theorem dX3_atLeast_14 : decode cX3_atLeast 14 = .ok (.iload 6, 2) := by decide +kernel
theorem dX3_atLeast_16 : decode cX3_atLeast 16 = .ok (.iload_n 1, 1) := by decide +kernel
theorem dX3_atLeast_17 : decode cX3_atLeast 17 = .ok (.invokestatic 9, 3) := by decide +kernel
theorem dX3_atLeast_20 : decode cX3_atLeast 20 = .ok (.iload_n 2, 1) := by decide +kernel
theorem dX3_atLeast_21 : decode cX3_atLeast 21 = .ok (.iload 6, 2) := by decide +kernel
theorem dX3_atLeast_23 : decode cX3_atLeast 23 = .ok (.invokestatic 15, 3) := by decide +kernel
theorem dX3_atLeast_26 : decode cX3_atLeast 26 = .ok (.lmul, 1) := by decide +kernel
theorem dX3_atLeast_27 : decode cX3_atLeast 27 = .ok (.bipush 10, 2) := by decide +kernel
theorem dX3_atLeast_29 : decode cX3_atLeast 29 = .ok (.iload_n 2, 1) := by decide +kernel
theorem dX3_atLeast_30 : decode cX3_atLeast 30 = .ok (.isub, 1) := by decide +kernel
theorem dX3_atLeast_31 : decode cX3_atLeast 31 = .ok (.iload_n 1, 1) := by decide +kernel
theorem dX3_atLeast_32 : decode cX3_atLeast 32 = .ok (.iload 6, 2) := by decide +kernel
theorem dX3_atLeast_34 : decode cX3_atLeast 34 = .ok (.isub, 1) := by decide +kernel
theorem dX3_atLeast_35 : decode cX3_atLeast 35 = .ok (.invokestatic 15, 3) := by decide +kernel
theorem dX3_atLeast_38 : decode cX3_atLeast 38 = .ok (.lmul, 1) := by decide +kernel
theorem dX3_atLeast_39 : decode cX3_atLeast 39 = .ok (.ladd, 1) := by decide +kernel
theorem dX3_atLeast_40 : decode cX3_atLeast 40 = .ok (.lstore 4, 2) := by decide +kernel
theorem dX3_atLeast_42 : decode cX3_atLeast 42 = .ok (.iinc 6 1, 3) := by decide +kernel
theorem dX3_atLeast_45 : decode cX3_atLeast 45 = .ok (.goto (-39), 3) := by decide +kernel
theorem dX3_atLeast_48 : decode cX3_atLeast 48 = .ok (.bipush 10, 2) := by decide +kernel
theorem dX3_atLeast_50 : decode cX3_atLeast 50 = .ok (.iload_n 1, 1) := by decide +kernel
theorem dX3_atLeast_51 : decode cX3_atLeast 51 = .ok (.invokestatic 15, 3) := by decide +kernel
theorem dX3_atLeast_54 : decode cX3_atLeast 54 = .ok (.lstore 6, 2) := by decide +kernel
theorem dX3_atLeast_56 : decode cX3_atLeast 56 = .ok (.lload 4, 2) := by decide +kernel
theorem dX3_atLeast_58 : decode cX3_atLeast 58 = .ok (.lload 6, 2) := by decide +kernel
theorem dX3_atLeast_60 : decode cX3_atLeast 60 = .ok (.invokestatic 18, 3) := by decide +kernel
theorem dX3_atLeast_63 : decode cX3_atLeast 63 = .ok (.lstore 8, 2) := by decide +kernel
theorem dX3_atLeast_65 : decode cX3_atLeast 65 = .ok (.lload 8, 2) := by decide +kernel
theorem dX3_atLeast_67 : decode cX3_atLeast 67 = .ok (.lconst 0, 1) := by decide +kernel
theorem dX3_atLeast_68 : decode cX3_atLeast 68 = .ok (.lcmp, 1) := by decide +kernel
theorem dX3_atLeast_69 : decode cX3_atLeast 69 = .ok (.ifCond .ne 7, 3) := by decide +kernel
theorem dX3_atLeast_72 : decode cX3_atLeast 72 = .ok (.ldc2_w 22, 3) := by decide +kernel
theorem dX3_atLeast_75 : decode cX3_atLeast 75 = .ok (.lreturn, 1) := by decide +kernel
theorem dX3_atLeast_76 : decode cX3_atLeast 76 = .ok (.iload_n 3, 1) := by decide +kernel
theorem dX3_atLeast_77 : decode cX3_atLeast 77 = .ok (.ifCond .ne 11, 3) := by decide +kernel
theorem dX3_atLeast_80 : decode cX3_atLeast 80 = .ok (.lload 4, 2) := by decide +kernel
theorem dX3_atLeast_82 : decode cX3_atLeast 82 = .ok (.lload 8, 2) := by decide +kernel
theorem dX3_atLeast_84 : decode cX3_atLeast 84 = .ok (.ldiv, 1) := by decide +kernel
theorem dX3_atLeast_85 : decode cX3_atLeast 85 = .ok (.goto 8, 3) := by decide +kernel
theorem dX3_atLeast_88 : decode cX3_atLeast 88 = .ok (.lload 6, 2) := by decide +kernel
theorem dX3_atLeast_90 : decode cX3_atLeast 90 = .ok (.lload 8, 2) := by decide +kernel
theorem dX3_atLeast_92 : decode cX3_atLeast 92 = .ok (.ldiv, 1) := by decide +kernel
theorem dX3_atLeast_93 : decode cX3_atLeast 93 = .ok (.lreturn, 1) := by decide +kernel
def bX3_atLeast_0 : List sx_S := [si_lconst 0, si_ls 4, si_il 0, si_is 6, si_go 6 [false, true, true, true, true, false, true, false, false, false]]
def bX3_atLeast_6 : List sx_S := [si_il 6, si_il 1, si_if2 (fun x y => y < x) 48 [false, true, false, true, true, false, false, false, false, false], si_ll 4, si_il 6, si_il 1, si_cs 43 2 0 0 0 0, si_il 2, si_il 6, si_cs 44 2 0 0 0 0, si_lbin (fun x y => x * y), si_const (nI 10), si_il 2, si_bin (fun x y => x - y), si_il 1, si_il 6, si_bin (fun x y => x - y), si_cs 44 2 0 0 0 0, si_lbin (fun x y => x * y), si_lbin (fun x y => x + y), si_ls 4, si_inc 6 1, si_go 6 [false, true, true, true, true, false, true, false, false, false]]
def bX3_atLeast_48 : List sx_S := [si_const (nI 10), si_il 1, si_cs 44 2 0 0 0 0, si_ls 6, si_ll 4, si_ll 6, si_cs 45 2 0 0 0 0, si_ls 8, si_ll 8, si_lconst 0, si_lcmp, si_if1 (fun x => ¬ x = 0) 76 [false, false, false, true, true, false, true, false, true, false], si_lconst (-1000001), si_rl]
def bX3_atLeast_76 : List sx_S := [si_il 3, si_if1 (fun x => ¬ x = 0) 88 [false, false, false, false, false, false, true, false, true, false], si_ll 4, si_ll 8, si_ldiv (fun x y => x / y), si_go 93 [false, false, false, false, false, false, false, false, false, false]]
def bX3_atLeast_88 : List sx_S := [si_ll 6, si_ll 8, si_ldiv (fun x y => x / y), si_go 93 [false, false, false, false, false, false, false, false, false, false]]
def bX3_atLeast_93 : List sx_S := [si_rl]
def BX3_atLeast : Nat → List sx_S := fun pc => if pc = 0 then bX3_atLeast_0 else if pc = 6 then bX3_atLeast_6 else if pc = 48 then bX3_atLeast_48 else if pc = 76 then bX3_atLeast_76 else if pc = 88 then bX3_atLeast_88 else if pc = 93 then bX3_atLeast_93 else []
set_option maxRecDepth 20000 in
theorem kX3_atLeast_0 : sx_BK sx_tb yX3_atLeast.cls cX3_atLeast 10 (some .long) ({ frames := 1, cells := 0, slots := 0, locals := 26 } : Room) false false 0 (fun _ => 0) 0 (bX3_atLeast_0) := ⟨_, ⟨sn_lconst dX3_atLeast_0 (by decide +kernel), sm_lconst _⟩, ⟨_, ⟨sn_lstore dX3_atLeast_1 (Nat.le_of_ble_eq_true rfl), sm_ls _⟩, ⟨_, ⟨sn_iload_n dX3_atLeast_3 rfl, sm_il _⟩, ⟨_, ⟨sn_istore dX3_atLeast_4 (Nat.le_of_ble_eq_true rfl), sm_is _⟩, ⟨_, ⟨sn_fall (len := 0) rfl rfl, sm_go _ _⟩, trivial⟩⟩⟩⟩⟩
set_option maxRecDepth 20000 in
theorem kX3_atLeast_6 : sx_BK sx_tb yX3_atLeast.cls cX3_atLeast 10 (some .long) ({ frames := 1, cells := 0, slots := 0, locals := 26 } : Room) false false 0 (fun _ => 0) 6 (bX3_atLeast_6) := ⟨_, ⟨sn_iload dX3_atLeast_6, sm_il _⟩, ⟨_, ⟨sn_iload_n dX3_atLeast_8 rfl, sm_il _⟩, ⟨_, ⟨sn_ic_gt dX3_atLeast_9 (by decide +kernel) rfl, sm_if2 _ _ _⟩, ⟨_, ⟨sn_lload dX3_atLeast_12, sm_ll _⟩, ⟨_, ⟨sn_iload dX3_atLeast_14, sm_il _⟩, ⟨_, ⟨sn_iload_n dX3_atLeast_16 rfl, sm_il _⟩, ⟨_, ⟨sn_cs_l ztb_X3_choices dX3_atLeast_17 zw_3_45 zw_3_46 zw_1_12 zw_3_47 zmh_X3 zpd_X3_choices (Nat.le_of_ble_eq_true rfl) (Nat.le_of_ble_eq_true rfl) rfl rfl, sm_cs _ _ _ _ _ _⟩, ⟨_, ⟨sn_iload_n dX3_atLeast_20 rfl, sm_il _⟩, ⟨_, ⟨sn_iload dX3_atLeast_21, sm_il _⟩, ⟨_, ⟨sn_cs_l ztb_X3_power dX3_atLeast_23 zw_3_48 zw_3_49 zw_1_12 zw_3_50 zmh_X3 zpd_X3_power (Nat.le_of_ble_eq_true rfl) (Nat.le_of_ble_eq_true rfl) rfl rfl, sm_cs _ _ _ _ _ _⟩, ⟨_, ⟨sn_lmul dX3_atLeast_26, sm_lbin _⟩, ⟨_, ⟨sn_bipush dX3_atLeast_27 (by decide +kernel), sm_const _⟩, ⟨_, ⟨sn_iload_n dX3_atLeast_29 rfl, sm_il _⟩, ⟨_, ⟨sn_isub dX3_atLeast_30, sm_bin _⟩, ⟨_, ⟨sn_iload_n dX3_atLeast_31 rfl, sm_il _⟩, ⟨_, ⟨sn_iload dX3_atLeast_32, sm_il _⟩, ⟨_, ⟨sn_isub dX3_atLeast_34, sm_bin _⟩, ⟨_, ⟨sn_cs_l ztb_X3_power dX3_atLeast_35 zw_3_48 zw_3_49 zw_1_12 zw_3_50 zmh_X3 zpd_X3_power (Nat.le_of_ble_eq_true rfl) (Nat.le_of_ble_eq_true rfl) rfl rfl, sm_cs _ _ _ _ _ _⟩, ⟨_, ⟨sn_lmul dX3_atLeast_38, sm_lbin _⟩, ⟨_, ⟨sn_ladd dX3_atLeast_39, sm_lbin _⟩, ⟨_, ⟨sn_lstore dX3_atLeast_40 (Nat.le_of_ble_eq_true rfl), sm_ls _⟩, ⟨_, ⟨sn_iinc dX3_atLeast_42 (by decide +kernel) (Nat.le_of_ble_eq_true rfl), sm_inc _ _⟩, ⟨_, ⟨sn_goto (len := 3) dX3_atLeast_45 (by decide +kernel) rfl, sm_go _ _⟩, trivial⟩⟩⟩⟩⟩⟩⟩⟩⟩⟩⟩⟩⟩⟩⟩⟩⟩⟩⟩⟩⟩⟩⟩
set_option maxRecDepth 20000 in
theorem kX3_atLeast_48 : sx_BK sx_tb yX3_atLeast.cls cX3_atLeast 10 (some .long) ({ frames := 1, cells := 0, slots := 0, locals := 26 } : Room) false false 0 (fun _ => 0) 48 (bX3_atLeast_48) := ⟨_, ⟨sn_bipush dX3_atLeast_48 (by decide +kernel), sm_const _⟩, ⟨_, ⟨sn_iload_n dX3_atLeast_50 rfl, sm_il _⟩, ⟨_, ⟨sn_cs_l ztb_X3_power dX3_atLeast_51 zw_3_48 zw_3_49 zw_1_12 zw_3_50 zmh_X3 zpd_X3_power (Nat.le_of_ble_eq_true rfl) (Nat.le_of_ble_eq_true rfl) rfl rfl, sm_cs _ _ _ _ _ _⟩, ⟨_, ⟨sn_lstore dX3_atLeast_54 (Nat.le_of_ble_eq_true rfl), sm_ls _⟩, ⟨_, ⟨sn_lload dX3_atLeast_56, sm_ll _⟩, ⟨_, ⟨sn_lload dX3_atLeast_58, sm_ll _⟩, ⟨_, ⟨sn_cs_l ztb_X3_commonDivisor dX3_atLeast_60 zw_3_51 zw_3_52 zw_1_12 zw_3_53 zmh_X3 zpd_X3_commonDivisor (Nat.le_of_ble_eq_true rfl) (Nat.le_of_ble_eq_true rfl) rfl rfl, sm_cs _ _ _ _ _ _⟩, ⟨_, ⟨sn_lstore dX3_atLeast_63 (Nat.le_of_ble_eq_true rfl), sm_ls _⟩, ⟨_, ⟨sn_lload dX3_atLeast_65, sm_ll _⟩, ⟨_, ⟨sn_lconst dX3_atLeast_67 (by decide +kernel), sm_lconst _⟩, ⟨_, ⟨sn_lcmp dX3_atLeast_68, sm_lcmp⟩, ⟨_, ⟨sn_if_ne dX3_atLeast_69 (by decide +kernel) rfl, sm_if1 _ _ _⟩, ⟨_, ⟨sn_ldc2 dX3_atLeast_72 zw_3_54, sm_lconst _⟩, ⟨_, ⟨sn_rl (len := 1) dX3_atLeast_75 rfl, sm_rl⟩, trivial⟩⟩⟩⟩⟩⟩⟩⟩⟩⟩⟩⟩⟩⟩
set_option maxRecDepth 20000 in
theorem kX3_atLeast_76 : sx_BK sx_tb yX3_atLeast.cls cX3_atLeast 10 (some .long) ({ frames := 1, cells := 0, slots := 0, locals := 26 } : Room) false false 0 (fun _ => 0) 76 (bX3_atLeast_76) := ⟨_, ⟨sn_iload_n dX3_atLeast_76 rfl, sm_il _⟩, ⟨_, ⟨sn_if_ne dX3_atLeast_77 (by decide +kernel) rfl, sm_if1 _ _ _⟩, ⟨_, ⟨sn_lload dX3_atLeast_80, sm_ll _⟩, ⟨_, ⟨sn_lload dX3_atLeast_82, sm_ll _⟩, ⟨_, ⟨sn_ldiv dX3_atLeast_84, sm_ldiv _⟩, ⟨_, ⟨sn_goto (len := 3) dX3_atLeast_85 (by decide +kernel) rfl, sm_go _ _⟩, trivial⟩⟩⟩⟩⟩⟩
set_option maxRecDepth 20000 in
theorem kX3_atLeast_88 : sx_BK sx_tb yX3_atLeast.cls cX3_atLeast 10 (some .long) ({ frames := 1, cells := 0, slots := 0, locals := 26 } : Room) false false 0 (fun _ => 0) 88 (bX3_atLeast_88) := ⟨_, ⟨sn_lload dX3_atLeast_88, sm_ll _⟩, ⟨_, ⟨sn_lload dX3_atLeast_90, sm_ll _⟩, ⟨_, ⟨sn_ldiv dX3_atLeast_92, sm_ldiv _⟩, ⟨_, ⟨sn_fall (len := 0) rfl rfl, sm_go _ _⟩, trivial⟩⟩⟩⟩
set_option maxRecDepth 20000 in
theorem kX3_atLeast_93 : sx_BK sx_tb yX3_atLeast.cls cX3_atLeast 10 (some .long) ({ frames := 1, cells := 0, slots := 0, locals := 26 } : Room) false false 0 (fun _ => 0) 93 (bX3_atLeast_93) := ⟨_, ⟨sn_rl (len := 1) dX3_atLeast_93 rfl, sm_rl⟩, trivial⟩
theorem kX3_atLeast : ∀ pc, sx_BK sx_tb yX3_atLeast.cls cX3_atLeast 10 (some .long) ({ frames := 1, cells := 0, slots := 0, locals := 26 } : Room) false false 0 (fun _ => 0) pc (BX3_atLeast pc) := fun pc => sx_bk_if (kX3_atLeast_0) (sx_bk_if (kX3_atLeast_6) (sx_bk_if (kX3_atLeast_48) (sx_bk_if (kX3_atLeast_76) (sx_bk_if (kX3_atLeast_88) (sx_bk_if (kX3_atLeast_93) (trivial))))))
theorem okX3_atLeast : sx_ok sx_tb BX3_atLeast (yX3_atLeast, cX3_atLeast, 10, some .long, { frames := 1, cells := 0, slots := 0, locals := 26 }) := ⟨by decide, by decide +kernel, false, (fun h => by cases h), kX3_atLeast⟩
theorem dX3_choices_0 : decode cX3_choices 0 = .ok (.lconst 1, 1) := by decide +kernel
theorem dX3_choices_1 : decode cX3_choices 1 = .ok (.lstore_n 2, 1) := by decide +kernel
theorem dX3_choices_2 : decode cX3_choices 2 = .ok (.iconst 1, 1) := by decide +kernel
theorem dX3_choices_3 : decode cX3_choices 3 = .ok (.istore 4, 2) := by decide +kernel
theorem dX3_choices_5 : decode cX3_choices 5 = .ok (.iload 4, 2) := by decide +kernel
theorem dX3_choices_7 : decode cX3_choices 7 = .ok (.iload_n 0, 1) := by decide +kernel
theorem dX3_choices_8 : decode cX3_choices 8 = .ok (.if_icmp .gt 23, 3) := by decide +kernel
theorem dX3_choices_11 : decode cX3_choices 11 = .ok (.lload_n 2, 1) := by decide +kernel
theorem dX3_choices_12 : decode cX3_choices 12 = .ok (.iload_n 1, 1) := by decide +kernel
theorem dX3_choices_13 : decode cX3_choices 13 = .ok (.iload_n 0, 1) := by decide +kernel
theorem dX3_choices_14 : decode cX3_choices 14 = .ok (.isub, 1) := by decide +kernel
theorem dX3_choices_15 : decode cX3_choices 15 = .ok (.iload 4, 2) := by decide +kernel
theorem dX3_choices_17 : decode cX3_choices 17 = .ok (.iadd, 1) := by decide +kernel
theorem dX3_choices_18 : decode cX3_choices 18 = .ok (.i2l, 1) := by decide +kernel
theorem dX3_choices_19 : decode cX3_choices 19 = .ok (.lmul, 1) := by decide +kernel
theorem dX3_choices_20 : decode cX3_choices 20 = .ok (.iload 4, 2) := by decide +kernel
theorem dX3_choices_22 : decode cX3_choices 22 = .ok (.i2l, 1) := by decide +kernel
theorem dX3_choices_23 : decode cX3_choices 23 = .ok (.ldiv, 1) := by decide +kernel
theorem dX3_choices_24 : decode cX3_choices 24 = .ok (.lstore_n 2, 1) := by decide +kernel
theorem dX3_choices_25 : decode cX3_choices 25 = .ok (.iinc 4 1, 3) := by decide +kernel
theorem dX3_choices_28 : decode cX3_choices 28 = .ok (.goto (-23), 3) := by decide +kernel
theorem dX3_choices_31 : decode cX3_choices 31 = .ok (.lload_n 2, 1) := by decide +kernel
theorem dX3_choices_32 : decode cX3_choices 32 = .ok (.lreturn, 1) := by decide +kernel
def bX3_choices_0 : List sx_S := [si_lconst 1, si_ls 2, si_const 1, si_is 4, si_go 5 [true, true, true, false, true]]
def bX3_choices_5 : List sx_S := [si_il 4, si_il 0, si_if2 (fun x y => y < x) 31 [false, false, true, false, false], si_ll 2, si_il 1, si_il 0, si_bin (fun x y => x - y), si_il 4, si_bin (fun x y => x + y), si_i2l, si_lbin (fun x y => x * y), si_il 4, si_i2l, si_ldiv (fun x y => x / y), si_ls 2, si_inc 4 1, si_go 5 [true, true, true, false, true]]
def bX3_choices_31 : List sx_S := [si_ll 2, si_rl]
def BX3_choices : Nat → List sx_S := fun pc => if pc = 0 then bX3_choices_0 else if pc = 5 then bX3_choices_5 else if pc = 31 then bX3_choices_31 else []
set_option maxRecDepth 20000 in
theorem kX3_choices_0 : sx_BK sx_tb yX3_choices.cls cX3_choices 5 (some .long) ({ frames := 0, cells := 0, slots := 0, locals := 0 } : Room) false false 0 (fun _ => 0) 0 (bX3_choices_0) := ⟨_, ⟨sn_lconst dX3_choices_0 (by decide +kernel), sm_lconst _⟩, ⟨_, ⟨sn_lstore_n dX3_choices_1 rfl (Nat.le_of_ble_eq_true rfl), sm_ls _⟩, ⟨_, ⟨sn_iconst dX3_choices_2 (by decide +kernel), sm_const _⟩, ⟨_, ⟨sn_istore dX3_choices_3 (Nat.le_of_ble_eq_true rfl), sm_is _⟩, ⟨_, ⟨sn_fall (len := 0) rfl rfl, sm_go _ _⟩, trivial⟩⟩⟩⟩⟩
set_option maxRecDepth 20000 in
theorem kX3_choices_5 : sx_BK sx_tb yX3_choices.cls cX3_choices 5 (some .long) ({ frames := 0, cells := 0, slots := 0, locals := 0 } : Room) false false 0 (fun _ => 0) 5 (bX3_choices_5) := ⟨_, ⟨sn_iload dX3_choices_5, sm_il _⟩, ⟨_, ⟨sn_iload_n dX3_choices_7 rfl, sm_il _⟩, ⟨_, ⟨sn_ic_gt dX3_choices_8 (by decide +kernel) rfl, sm_if2 _ _ _⟩, ⟨_, ⟨sn_lload_n dX3_choices_11 rfl, sm_ll _⟩, ⟨_, ⟨sn_iload_n dX3_choices_12 rfl, sm_il _⟩, ⟨_, ⟨sn_iload_n dX3_choices_13 rfl, sm_il _⟩, ⟨_, ⟨sn_isub dX3_choices_14, sm_bin _⟩, ⟨_, ⟨sn_iload dX3_choices_15, sm_il _⟩, ⟨_, ⟨sn_iadd dX3_choices_17, sm_bin _⟩, ⟨_, ⟨sn_i2l dX3_choices_18, sm_i2l⟩, ⟨_, ⟨sn_lmul dX3_choices_19, sm_lbin _⟩, ⟨_, ⟨sn_iload dX3_choices_20, sm_il _⟩, ⟨_, ⟨sn_i2l dX3_choices_22, sm_i2l⟩, ⟨_, ⟨sn_ldiv dX3_choices_23, sm_ldiv _⟩, ⟨_, ⟨sn_lstore_n dX3_choices_24 rfl (Nat.le_of_ble_eq_true rfl), sm_ls _⟩, ⟨_, ⟨sn_iinc dX3_choices_25 (by decide +kernel) (Nat.le_of_ble_eq_true rfl), sm_inc _ _⟩, ⟨_, ⟨sn_goto (len := 3) dX3_choices_28 (by decide +kernel) rfl, sm_go _ _⟩, trivial⟩⟩⟩⟩⟩⟩⟩⟩⟩⟩⟩⟩⟩⟩⟩⟩⟩
set_option maxRecDepth 20000 in
theorem kX3_choices_31 : sx_BK sx_tb yX3_choices.cls cX3_choices 5 (some .long) ({ frames := 0, cells := 0, slots := 0, locals := 0 } : Room) false false 0 (fun _ => 0) 31 (bX3_choices_31) := ⟨_, ⟨sn_lload_n dX3_choices_31 rfl, sm_ll _⟩, ⟨_, ⟨sn_rl (len := 1) dX3_choices_32 rfl, sm_rl⟩, trivial⟩⟩
theorem kX3_choices : ∀ pc, sx_BK sx_tb yX3_choices.cls cX3_choices 5 (some .long) ({ frames := 0, cells := 0, slots := 0, locals := 0 } : Room) false false 0 (fun _ => 0) pc (BX3_choices pc) := fun pc => sx_bk_if (kX3_choices_0) (sx_bk_if (kX3_choices_5) (sx_bk_if (kX3_choices_31) (trivial)))
theorem okX3_choices : sx_ok sx_tb BX3_choices (yX3_choices, cX3_choices, 5, some .long, { frames := 0, cells := 0, slots := 0, locals := 0 }) := ⟨by decide, by decide +kernel, false, (fun h => by cases h), kX3_choices⟩
theorem dX3_power_0 : decode cX3_power 0 = .ok (.lconst 1, 1) := by decide +kernel
theorem dX3_power_1 : decode cX3_power 1 = .ok (.lstore_n 2, 1) := by decide +kernel
theorem dX3_power_2 : decode cX3_power 2 = .ok (.iconst 0, 1) := by decide +kernel
theorem dX3_power_3 : decode cX3_power 3 = .ok (.istore 4, 2) := by decide +kernel
theorem dX3_power_5 : decode cX3_power 5 = .ok (.iload 4, 2) := by decide +kernel
theorem dX3_power_7 : decode cX3_power 7 = .ok (.iload_n 1, 1) := by decide +kernel
theorem dX3_power_8 : decode cX3_power 8 = .ok (.if_icmp .ge 14, 3) := by decide +kernel
theorem dX3_power_11 : decode cX3_power 11 = .ok (.lload_n 2, 1) := by decide +kernel
theorem dX3_power_12 : decode cX3_power 12 = .ok (.iload_n 0, 1) := by decide +kernel
theorem dX3_power_13 : decode cX3_power 13 = .ok (.i2l, 1) := by decide +kernel
theorem dX3_power_14 : decode cX3_power 14 = .ok (.lmul, 1) := by decide +kernel
theorem dX3_power_15 : decode cX3_power 15 = .ok (.lstore_n 2, 1) := by decide +kernel
theorem dX3_power_16 : decode cX3_power 16 = .ok (.iinc 4 1, 3) := by decide +kernel
theorem dX3_power_19 : decode cX3_power 19 = .ok (.goto (-14), 3) := by decide +kernel
theorem dX3_power_22 : decode cX3_power 22 = .ok (.lload_n 2, 1) := by decide +kernel
theorem dX3_power_23 : decode cX3_power 23 = .ok (.lreturn, 1) := by decide +kernel
def bX3_power_0 : List sx_S := [si_lconst 1, si_ls 2, si_const 0, si_is 4, si_go 5 [true, true, true, false, true]]
def bX3_power_5 : List sx_S := [si_il 4, si_il 1, si_if2 (fun x y => y ≤ x) 22 [false, false, true, false, false], si_ll 2, si_il 0, si_i2l, si_lbin (fun x y => x * y), si_ls 2, si_inc 4 1, si_go 5 [true, true, true, false, true]]
def bX3_power_22 : List sx_S := [si_ll 2, si_rl]
def BX3_power : Nat → List sx_S := fun pc => if pc = 0 then bX3_power_0 else if pc = 5 then bX3_power_5 else if pc = 22 then bX3_power_22 else []
set_option maxRecDepth 20000 in
theorem kX3_power_0 : sx_BK sx_tb yX3_power.cls cX3_power 5 (some .long) ({ frames := 0, cells := 0, slots := 0, locals := 0 } : Room) false false 0 (fun _ => 0) 0 (bX3_power_0) := ⟨_, ⟨sn_lconst dX3_power_0 (by decide +kernel), sm_lconst _⟩, ⟨_, ⟨sn_lstore_n dX3_power_1 rfl (Nat.le_of_ble_eq_true rfl), sm_ls _⟩, ⟨_, ⟨sn_iconst dX3_power_2 (by decide +kernel), sm_const _⟩, ⟨_, ⟨sn_istore dX3_power_3 (Nat.le_of_ble_eq_true rfl), sm_is _⟩, ⟨_, ⟨sn_fall (len := 0) rfl rfl, sm_go _ _⟩, trivial⟩⟩⟩⟩⟩
set_option maxRecDepth 20000 in
theorem kX3_power_5 : sx_BK sx_tb yX3_power.cls cX3_power 5 (some .long) ({ frames := 0, cells := 0, slots := 0, locals := 0 } : Room) false false 0 (fun _ => 0) 5 (bX3_power_5) := ⟨_, ⟨sn_iload dX3_power_5, sm_il _⟩, ⟨_, ⟨sn_iload_n dX3_power_7 rfl, sm_il _⟩, ⟨_, ⟨sn_ic_ge dX3_power_8 (by decide +kernel) rfl, sm_if2 _ _ _⟩, ⟨_, ⟨sn_lload_n dX3_power_11 rfl, sm_ll _⟩, ⟨_, ⟨sn_iload_n dX3_power_12 rfl, sm_il _⟩, ⟨_, ⟨sn_i2l dX3_power_13, sm_i2l⟩, ⟨_, ⟨sn_lmul dX3_power_14, sm_lbin _⟩, ⟨_, ⟨sn_lstore_n dX3_power_15 rfl (Nat.le_of_ble_eq_true rfl), sm_ls _⟩, ⟨_, ⟨sn_iinc dX3_power_16 (by decide +kernel) (Nat.le_of_ble_eq_true rfl), sm_inc _ _⟩, ⟨_, ⟨sn_goto (len := 3) dX3_power_19 (by decide +kernel) rfl, sm_go _ _⟩, trivial⟩⟩⟩⟩⟩⟩⟩⟩⟩⟩
set_option maxRecDepth 20000 in
theorem kX3_power_22 : sx_BK sx_tb yX3_power.cls cX3_power 5 (some .long) ({ frames := 0, cells := 0, slots := 0, locals := 0 } : Room) false false 0 (fun _ => 0) 22 (bX3_power_22) := ⟨_, ⟨sn_lload_n dX3_power_22 rfl, sm_ll _⟩, ⟨_, ⟨sn_rl (len := 1) dX3_power_23 rfl, sm_rl⟩, trivial⟩⟩
theorem kX3_power : ∀ pc, sx_BK sx_tb yX3_power.cls cX3_power 5 (some .long) ({ frames := 0, cells := 0, slots := 0, locals := 0 } : Room) false false 0 (fun _ => 0) pc (BX3_power pc) := fun pc => sx_bk_if (kX3_power_0) (sx_bk_if (kX3_power_5) (sx_bk_if (kX3_power_22) (trivial)))
theorem okX3_power : sx_ok sx_tb BX3_power (yX3_power, cX3_power, 5, some .long, { frames := 0, cells := 0, slots := 0, locals := 0 }) := ⟨by decide, by decide +kernel, false, (fun h => by cases h), kX3_power⟩
theorem dX3_commonDivisor_0 : decode cX3_commonDivisor 0 = .ok (.iconst 0, 1) := by decide +kernel
theorem dX3_commonDivisor_1 : decode cX3_commonDivisor 1 = .ok (.istore 4, 2) := by decide +kernel
theorem dX3_commonDivisor_3 : decode cX3_commonDivisor 3 = .ok (.iload 4, 2) := by decide +kernel
theorem dX3_commonDivisor_5 : decode cX3_commonDivisor 5 = .ok (.bipush 100, 2) := by decide +kernel
theorem dX3_commonDivisor_7 : decode cX3_commonDivisor 7 = .ok (.if_icmp .ge 25, 3) := by decide +kernel
theorem dX3_commonDivisor_10 : decode cX3_commonDivisor 10 = .ok (.lload_n 2, 1) := by decide +kernel
theorem dX3_commonDivisor_11 : decode cX3_commonDivisor 11 = .ok (.lconst 0, 1) := by decide +kernel
theorem dX3_commonDivisor_12 : decode cX3_commonDivisor 12 = .ok (.lcmp, 1) := by decide +kernel
theorem dX3_commonDivisor_13 : decode cX3_commonDivisor 13 = .ok (.ifCond .eq 19, 3) := by decide +kernel
theorem dX3_commonDivisor_16 : decode cX3_commonDivisor 16 = .ok (.lload_n 0, 1) := by decide +kernel
theorem dX3_commonDivisor_17 : decode cX3_commonDivisor 17 = .ok (.lload_n 2, 1) := by decide +kernel
theorem dX3_commonDivisor_18 : decode cX3_commonDivisor 18 = .ok (.lrem, 1) := by decide +kernel
theorem dX3_commonDivisor_19 : decode cX3_commonDivisor 19 = .ok (.lstore 5, 2) := by decide +kernel
theorem dX3_commonDivisor_21 : decode cX3_commonDivisor 21 = .ok (.lload_n 2, 1) := by decide +kernel
theorem dX3_commonDivisor_22 : decode cX3_commonDivisor 22 = .ok (.lstore_n 0, 1) := by decide +kernel
theorem dX3_commonDivisor_23 : decode cX3_commonDivisor 23 = .ok (.lload 5, 2) := by decide +kernel
theorem dX3_commonDivisor_25 : decode cX3_commonDivisor 25 = .ok (.lstore_n 2, 1) := by decide +kernel
theorem dX3_commonDivisor_26 : decode cX3_commonDivisor 26 = .ok (.iinc 4 1, 3) := by decide +kernel
theorem dX3_commonDivisor_29 : decode cX3_commonDivisor 29 = .ok (.goto (-26), 3) := by decide +kernel
theorem dX3_commonDivisor_32 : decode cX3_commonDivisor 32 = .ok (.lload_n 0, 1) := by decide +kernel
theorem dX3_commonDivisor_33 : decode cX3_commonDivisor 33 = .ok (.lreturn, 1) := by decide +kernel
def bX3_commonDivisor_0 : List sx_S := [si_const 0, si_is 4, si_go 3 [true, false, true, false, true, false, false]]
def bX3_commonDivisor_3 : List sx_S := [si_il 4, si_const (nI 100), si_if2 (fun x y => y ≤ x) 32 [true, false, false, false, false, false, false], si_ll 2, si_lconst 0, si_lcmp, si_if1 (fun x => x = 0) 32 [true, false, false, false, false, false, false], si_ll 0, si_ll 2, si_ldiv (fun x y => x - x / y * y), si_ls 5, si_ll 2, si_ls 0, si_ll 5, si_ls 2, si_inc 4 1, si_go 3 [true, false, true, false, true, false, false]]
def bX3_commonDivisor_32 : List sx_S := [si_ll 0, si_rl]
def BX3_commonDivisor : Nat → List sx_S := fun pc => if pc = 0 then bX3_commonDivisor_0 else if pc = 3 then bX3_commonDivisor_3 else if pc = 32 then bX3_commonDivisor_32 else []
set_option maxRecDepth 20000 in
theorem kX3_commonDivisor_0 : sx_BK sx_tb yX3_commonDivisor.cls cX3_commonDivisor 7 (some .long) ({ frames := 0, cells := 0, slots := 0, locals := 0 } : Room) false false 0 (fun _ => 0) 0 (bX3_commonDivisor_0) := ⟨_, ⟨sn_iconst dX3_commonDivisor_0 (by decide +kernel), sm_const _⟩, ⟨_, ⟨sn_istore dX3_commonDivisor_1 (Nat.le_of_ble_eq_true rfl), sm_is _⟩, ⟨_, ⟨sn_fall (len := 0) rfl rfl, sm_go _ _⟩, trivial⟩⟩⟩
set_option maxRecDepth 20000 in
theorem kX3_commonDivisor_3 : sx_BK sx_tb yX3_commonDivisor.cls cX3_commonDivisor 7 (some .long) ({ frames := 0, cells := 0, slots := 0, locals := 0 } : Room) false false 0 (fun _ => 0) 3 (bX3_commonDivisor_3) := ⟨_, ⟨sn_iload dX3_commonDivisor_3, sm_il _⟩, ⟨_, ⟨sn_bipush dX3_commonDivisor_5 (by decide +kernel), sm_const _⟩, ⟨_, ⟨sn_ic_ge dX3_commonDivisor_7 (by decide +kernel) rfl, sm_if2 _ _ _⟩, ⟨_, ⟨sn_lload_n dX3_commonDivisor_10 rfl, sm_ll _⟩, ⟨_, ⟨sn_lconst dX3_commonDivisor_11 (by decide +kernel), sm_lconst _⟩, ⟨_, ⟨sn_lcmp dX3_commonDivisor_12, sm_lcmp⟩, ⟨_, ⟨sn_if_eq dX3_commonDivisor_13 (by decide +kernel) rfl, sm_if1 _ _ _⟩, ⟨_, ⟨sn_lload_n dX3_commonDivisor_16 rfl, sm_ll _⟩, ⟨_, ⟨sn_lload_n dX3_commonDivisor_17 rfl, sm_ll _⟩, ⟨_, ⟨sn_lrem dX3_commonDivisor_18, sm_ldiv _⟩, ⟨_, ⟨sn_lstore dX3_commonDivisor_19 (Nat.le_of_ble_eq_true rfl), sm_ls _⟩, ⟨_, ⟨sn_lload_n dX3_commonDivisor_21 rfl, sm_ll _⟩, ⟨_, ⟨sn_lstore_n dX3_commonDivisor_22 rfl (Nat.le_of_ble_eq_true rfl), sm_ls _⟩, ⟨_, ⟨sn_lload dX3_commonDivisor_23, sm_ll _⟩, ⟨_, ⟨sn_lstore_n dX3_commonDivisor_25 rfl (Nat.le_of_ble_eq_true rfl), sm_ls _⟩, ⟨_, ⟨sn_iinc dX3_commonDivisor_26 (by decide +kernel) (Nat.le_of_ble_eq_true rfl), sm_inc _ _⟩, ⟨_, ⟨sn_goto (len := 3) dX3_commonDivisor_29 (by decide +kernel) rfl, sm_go _ _⟩, trivial⟩⟩⟩⟩⟩⟩⟩⟩⟩⟩⟩⟩⟩⟩⟩⟩⟩
set_option maxRecDepth 20000 in
theorem kX3_commonDivisor_32 : sx_BK sx_tb yX3_commonDivisor.cls cX3_commonDivisor 7 (some .long) ({ frames := 0, cells := 0, slots := 0, locals := 0 } : Room) false false 0 (fun _ => 0) 32 (bX3_commonDivisor_32) := ⟨_, ⟨sn_lload_n dX3_commonDivisor_32 rfl, sm_ll _⟩, ⟨_, ⟨sn_rl (len := 1) dX3_commonDivisor_33 rfl, sm_rl⟩, trivial⟩⟩
theorem kX3_commonDivisor : ∀ pc, sx_BK sx_tb yX3_commonDivisor.cls cX3_commonDivisor 7 (some .long) ({ frames := 0, cells := 0, slots := 0, locals := 0 } : Room) false false 0 (fun _ => 0) pc (BX3_commonDivisor pc) := fun pc => sx_bk_if (kX3_commonDivisor_0) (sx_bk_if (kX3_commonDivisor_3) (sx_bk_if (kX3_commonDivisor_32) (trivial)))
theorem okX3_commonDivisor : sx_ok sx_tb BX3_commonDivisor (yX3_commonDivisor, cX3_commonDivisor, 7, some .long, { frames := 0, cells := 0, slots := 0, locals := 0 }) := ⟨by decide, by decide +kernel, false, (fun h => by cases h), kX3_commonDivisor⟩
theorem dX4_init_0 : decode cX4_init 0 = .ok (.aload_n 0, 1) := by decide +kernel
theorem dX4_init_1 : decode cX4_init 1 = .ok (.invokespecial 3, 3) := by decide +kernel
theorem dX4_init_4 : decode cX4_init 4 = .ok (.aload_n 0, 1) := by decide +kernel
theorem dX4_init_5 : decode cX4_init 5 = .ok (.aload_n 1, 1) := by decide +kernel
theorem dX4_init_6 : decode cX4_init 6 = .ok (.putfield 9, 3) := by decide +kernel
theorem dX4_init_9 : decode cX4_init 9 = .ok (.aload_n 0, 1) := by decide +kernel
theorem dX4_init_10 : decode cX4_init 10 = .ok (.aload_n 2, 1) := by decide +kernel
theorem dX4_init_11 : decode cX4_init 11 = .ok (.putfield 15, 3) := by decide +kernel
theorem dX4_init_14 : decode cX4_init 14 = .ok (.return_, 1) := by decide +kernel
def bX4_init_0 : List sx_S := [si_al 0, si_oi, si_al 0, si_al 1, si_put 3 0 1, si_al 0, si_al 2, si_put 3 1 1, si_rv]
def BX4_init : Nat → List sx_S := fun pc => if pc = 0 then bX4_init_0 else []
set_option maxRecDepth 20000 in
theorem kX4_init_0 : sx_BK sx_tb yX4_init.cls cX4_init 3 (none) ({ frames := 1, cells := 0, slots := 0, locals := 20 } : Room) true false 0 (fun _ => 0) 0 (bX4_init_0) := ⟨_, ⟨sn_aload_n dX4_init_0 rfl, sm_al _⟩, ⟨_, ⟨sn_oi dX4_init_1 zw_1_107 zw_1_19 zw_1_20 (Nat.le_of_ble_eq_true rfl) (Nat.le_of_ble_eq_true rfl), sm_oi⟩, ⟨_, ⟨sn_aload_n dX4_init_4 rfl, sm_al _⟩, ⟨_, ⟨sn_aload_n dX4_init_5 rfl, sm_al _⟩, ⟨_, ⟨sn_putF (C := RX4) (T := TX4) (N := 2) dX4_init_6 rfl zinX4 tyX4_ok nmX4 (Nat.le_of_ble_eq_true rfl) zw_1_108 rfl rfl rfl (tyX4_ok 0 (Nat.le_of_ble_eq_true rfl)) trivial, sm_put _ _ _⟩, ⟨_, ⟨sn_aload_n dX4_init_9 rfl, sm_al _⟩, ⟨_, ⟨sn_aload_n dX4_init_10 rfl, sm_al _⟩, ⟨_, ⟨sn_putF (C := RX4) (T := TX4) (N := 2) dX4_init_11 rfl zinX4 tyX4_ok nmX4 (Nat.le_of_ble_eq_true rfl) zw_1_109 rfl rfl rfl (tyX4_ok 1 (Nat.le_of_ble_eq_true rfl)) trivial, sm_put _ _ _⟩, ⟨_, ⟨sn_rv (len := 1) dX4_init_14 rfl, sm_rv⟩, trivial⟩⟩⟩⟩⟩⟩⟩⟩⟩
theorem kX4_init : ∀ pc, sx_BK sx_tb yX4_init.cls cX4_init 3 (none) ({ frames := 1, cells := 0, slots := 0, locals := 20 } : Room) true false 0 (fun _ => 0) pc (BX4_init pc) := fun pc => sx_bk_if (kX4_init_0) (trivial)
theorem okX4_init : sx_ok sx_tb BX4_init (yX4_init, cX4_init, 3, none, { frames := 1, cells := 0, slots := 0, locals := 20 }) := ⟨by decide, by decide +kernel, true, (fun _ => rfl), kX4_init⟩
theorem dX4_look_0 : decode cX4_look 0 = .ok (.aload_n 0, 1) := by decide +kernel
theorem dX4_look_1 : decode cX4_look 1 = .ok (.getfield 15, 3) := by decide +kernel
theorem dX4_look_4 : decode cX4_look 4 = .ok (.aload_n 0, 1) := by decide +kernel
theorem dX4_look_5 : decode cX4_look 5 = .ok (.getfield 9, 3) := by decide +kernel
theorem dX4_look_8 : decode cX4_look 8 = .ok (.invokevirtual 18, 3) := by decide +kernel
theorem dX4_look_11 : decode cX4_look 11 = .ok (.aload_n 0, 1) := by decide +kernel
theorem dX4_look_12 : decode cX4_look 12 = .ok (.iload_n 1, 1) := by decide +kernel
theorem dX4_look_13 : decode cX4_look 13 = .ok (.invokevirtual 24, 3) := by decide +kernel
theorem dX4_look_16 : decode cX4_look 16 = .ok (.return_, 1) := by decide +kernel
def bX4_look_0 : List sx_S := [si_al 0, si_get 3 1, si_al 0, si_get 3 0, si_cv 2 22 1 0 0 0 0, si_al 0, si_il 1, si_cv 3 48 1 0 0 0 0, si_rv]
def BX4_look : Nat → List sx_S := fun pc => if pc = 0 then bX4_look_0 else []
set_option maxRecDepth 20000 in
theorem kX4_look_0 : sx_BK sx_tb yX4_look.cls cX4_look 2 (none) ({ frames := 5, cells := 0, slots := 0, locals := 111 } : Room) false false 0 (fun _ => 0) 0 (bX4_look_0) := ⟨_, ⟨sn_aload_n dX4_look_0 rfl, sm_al _⟩, ⟨_, ⟨sn_get (C := RX4) (T := TX4) (N := 2) dX4_look_1 rfl zinX4 (Nat.le_of_ble_eq_true rfl) zw_1_109, sm_get _ _⟩, ⟨_, ⟨sn_aload_n dX4_look_4 rfl, sm_al _⟩, ⟨_, ⟨sn_get (C := RX4) (T := TX4) (N := 2) dX4_look_5 rfl zinX4 (Nat.le_of_ble_eq_true rfl) zw_1_108, sm_get _ _⟩, ⟨_, ⟨sn_cv_v (N := 1) (T := TX2) ztb_X2_becomes dX4_look_8 rfl rfl zw_2_164 zw_2_41 zw_2_42 zw_1_4 zw_2_43 zmh_X2 zpd_X2_becomes (Nat.le_of_ble_eq_true rfl) (Nat.le_of_ble_eq_true rfl) rfl rfl, sm_cv _ _ _ _ _ _ _⟩, ⟨_, ⟨sn_aload_n dX4_look_11 rfl, sm_al _⟩, ⟨_, ⟨sn_iload_n dX4_look_12 rfl, sm_il _⟩, ⟨_, ⟨sn_cv_v (N := 2) (T := TX4) ztb_X4_pass dX4_look_13 rfl rfl zw_2_165 zw_2_167 zw_0_15 zw_1_6 zw_2_168 zmh_X4 zpd_X4_pass (Nat.le_of_ble_eq_true rfl) (Nat.le_of_ble_eq_true rfl) rfl rfl, sm_cv _ _ _ _ _ _ _⟩, ⟨_, ⟨sn_rv (len := 1) dX4_look_16 rfl, sm_rv⟩, trivial⟩⟩⟩⟩⟩⟩⟩⟩⟩
theorem kX4_look : ∀ pc, sx_BK sx_tb yX4_look.cls cX4_look 2 (none) ({ frames := 5, cells := 0, slots := 0, locals := 111 } : Room) false false 0 (fun _ => 0) pc (BX4_look pc) := fun pc => sx_bk_if (kX4_look_0) (trivial)
theorem okX4_look : sx_ok sx_tb BX4_look (yX4_look, cX4_look, 2, none, { frames := 5, cells := 0, slots := 0, locals := 111 }) := ⟨by decide, by decide +kernel, false, (fun h => by cases h), kX4_look⟩
theorem dX4_pass_0 : decode cX4_pass 0 = .ok (.iconst 0, 1) := by decide +kernel
theorem dX4_pass_1 : decode cX4_pass 1 = .ok (.istore_n 2, 1) := by decide +kernel
theorem dX4_pass_2 : decode cX4_pass 2 = .ok (.iload_n 2, 1) := by decide +kernel
theorem dX4_pass_3 : decode cX4_pass 3 = .ok (.iload_n 1, 1) := by decide +kernel
theorem dX4_pass_4 : decode cX4_pass 4 = .ok (.if_icmp .ge 17, 3) := by decide +kernel
theorem dX4_pass_7 : decode cX4_pass 7 = .ok (.aload_n 0, 1) := by decide +kernel
theorem dX4_pass_8 : decode cX4_pass 8 = .ok (.getfield 15, 3) := by decide +kernel
theorem dX4_pass_11 : decode cX4_pass 11 = .ok (.invokevirtual 28, 3) := by decide +kernel
theorem dX4_pass_14 : decode cX4_pass 14 = .ok (.pop, 1) := by decide +kernel
theorem dX4_pass_15 : decode cX4_pass 15 = .ok (.iinc 2 1, 3) := by decide +kernel
theorem dX4_pass_18 : decode cX4_pass 18 = .ok (.goto (-16), 3) := by decide +kernel
theorem dX4_pass_21 : decode cX4_pass 21 = .ok (.return_, 1) := by decide +kernel
def bX4_pass_0 : List sx_S := [si_const 0, si_is 2, si_go 2 [true, true, true]]
def bX4_pass_2 : List sx_S := [si_il 2, si_il 1, si_if2 (fun x y => y ≤ x) 21 [false, false, false], si_al 0, si_get 3 1, si_cv 2 28 0 0 0 0 0, si_pop, si_inc 2 1, si_go 2 [true, true, true]]
def bX4_pass_21 : List sx_S := [si_rv]
def BX4_pass : Nat → List sx_S := fun pc => if pc = 0 then bX4_pass_0 else if pc = 2 then bX4_pass_2 else if pc = 21 then bX4_pass_21 else []
set_option maxRecDepth 20000 in
theorem kX4_pass_0 : sx_BK sx_tb yX4_pass.cls cX4_pass 3 (none) ({ frames := 4, cells := 0, slots := 0, locals := 89 } : Room) false false 0 (fun _ => 0) 0 (bX4_pass_0) := ⟨_, ⟨sn_iconst dX4_pass_0 (by decide +kernel), sm_const _⟩, ⟨_, ⟨sn_istore_n dX4_pass_1 rfl (Nat.le_of_ble_eq_true rfl), sm_is _⟩, ⟨_, ⟨sn_fall (len := 0) rfl rfl, sm_go _ _⟩, trivial⟩⟩⟩
set_option maxRecDepth 20000 in
theorem kX4_pass_2 : sx_BK sx_tb yX4_pass.cls cX4_pass 3 (none) ({ frames := 4, cells := 0, slots := 0, locals := 89 } : Room) false false 0 (fun _ => 0) 2 (bX4_pass_2) := ⟨_, ⟨sn_iload_n dX4_pass_2 rfl, sm_il _⟩, ⟨_, ⟨sn_iload_n dX4_pass_3 rfl, sm_il _⟩, ⟨_, ⟨sn_ic_ge dX4_pass_4 (by decide +kernel) rfl, sm_if2 _ _ _⟩, ⟨_, ⟨sn_aload_n dX4_pass_7 rfl, sm_al _⟩, ⟨_, ⟨sn_get (C := RX4) (T := TX4) (N := 2) dX4_pass_8 rfl zinX4 (Nat.le_of_ble_eq_true rfl) zw_1_109, sm_get _ _⟩, ⟨_, ⟨sn_cv_i (N := 1) (T := TX2) ztb_X2_passWeek dX4_pass_11 rfl rfl zw_2_169 zw_2_80 zw_2_81 zw_1_4 zw_2_82 zmh_X2 zpd_X2_passWeek (Nat.le_of_ble_eq_true rfl) (Nat.le_of_ble_eq_true rfl) rfl rfl, sm_cv _ _ _ _ _ _ _⟩, ⟨_, ⟨sn_pop dX4_pass_14, sm_pop⟩, ⟨_, ⟨sn_iinc dX4_pass_15 (by decide +kernel) (Nat.le_of_ble_eq_true rfl), sm_inc _ _⟩, ⟨_, ⟨sn_goto (len := 3) dX4_pass_18 (by decide +kernel) rfl, sm_go _ _⟩, trivial⟩⟩⟩⟩⟩⟩⟩⟩⟩
set_option maxRecDepth 20000 in
theorem kX4_pass_21 : sx_BK sx_tb yX4_pass.cls cX4_pass 3 (none) ({ frames := 4, cells := 0, slots := 0, locals := 89 } : Room) false false 0 (fun _ => 0) 21 (bX4_pass_21) := ⟨_, ⟨sn_rv (len := 1) dX4_pass_21 rfl, sm_rv⟩, trivial⟩
theorem kX4_pass : ∀ pc, sx_BK sx_tb yX4_pass.cls cX4_pass 3 (none) ({ frames := 4, cells := 0, slots := 0, locals := 89 } : Room) false false 0 (fun _ => 0) pc (BX4_pass pc) := fun pc => sx_bk_if (kX4_pass_0) (sx_bk_if (kX4_pass_2) (sx_bk_if (kX4_pass_21) (trivial)))
theorem okX4_pass : sx_ok sx_tb BX4_pass (yX4_pass, cX4_pass, 3, none, { frames := 4, cells := 0, slots := 0, locals := 89 }) := ⟨by decide, by decide +kernel, false, (fun h => by cases h), kX4_pass⟩
theorem dX4_weeksUntilShut_0 : decode cX4_weeksUntilShut 0 = .ok (.aload_n 0, 1) := by decide +kernel
theorem dX4_weeksUntilShut_1 : decode cX4_weeksUntilShut 1 = .ok (.getfield 15, 3) := by decide +kernel
theorem dX4_weeksUntilShut_4 : decode cX4_weeksUntilShut 4 = .ok (.aload_n 0, 1) := by decide +kernel
theorem dX4_weeksUntilShut_5 : decode cX4_weeksUntilShut 5 = .ok (.getfield 9, 3) := by decide +kernel
theorem dX4_weeksUntilShut_8 : decode cX4_weeksUntilShut 8 = .ok (.invokevirtual 18, 3) := by decide +kernel
theorem dX4_weeksUntilShut_11 : decode cX4_weeksUntilShut 11 = .ok (.iconst 0, 1) := by decide +kernel
theorem dX4_weeksUntilShut_12 : decode cX4_weeksUntilShut 12 = .ok (.istore_n 2, 1) := by decide +kernel
theorem dX4_weeksUntilShut_13 : decode cX4_weeksUntilShut 13 = .ok (.iload_n 2, 1) := by decide +kernel
theorem dX4_weeksUntilShut_14 : decode cX4_weeksUntilShut 14 = .ok (.iload_n 1, 1) := by decide +kernel
theorem dX4_weeksUntilShut_15 : decode cX4_weeksUntilShut 15 = .ok (.if_icmp .gt 33, 3) := by decide +kernel
theorem dX4_weeksUntilShut_18 : decode cX4_weeksUntilShut 18 = .ok (.aload_n 0, 1) := by decide +kernel
theorem dX4_weeksUntilShut_19 : decode cX4_weeksUntilShut 19 = .ok (.getfield 15, 3) := by decide +kernel
theorem dX4_weeksUntilShut_22 : decode cX4_weeksUntilShut 22 = .ok (.getfield 32, 3) := by decide +kernel
theorem dX4_weeksUntilShut_25 : decode cX4_weeksUntilShut 25 = .ok (.bipush 57, 2) := by decide +kernel
theorem dX4_weeksUntilShut_27 : decode cX4_weeksUntilShut 27 = .ok (.iaload, 1) := by decide +kernel
theorem dX4_weeksUntilShut_28 : decode cX4_weeksUntilShut 28 = .ok (.iconst 1, 1) := by decide +kernel
theorem dX4_weeksUntilShut_29 : decode cX4_weeksUntilShut 29 = .ok (.if_icmp .ne 5, 3) := by decide +kernel
theorem dX4_weeksUntilShut_32 : decode cX4_weeksUntilShut 32 = .ok (.iload_n 2, 1) := by decide +kernel
theorem dX4_weeksUntilShut_33 : decode cX4_weeksUntilShut 33 = .ok (.ireturn, 1) := by decide +kernel
theorem dX4_weeksUntilShut_34 : decode cX4_weeksUntilShut 34 = .ok (.aload_n 0, 1) := by decide +kernel
theorem dX4_weeksUntilShut_35 : decode cX4_weeksUntilShut 35 = .ok (.getfield 15, 3) := by decide +kernel
theorem dX4_weeksUntilShut_38 : decode cX4_weeksUntilShut 38 = .ok (.invokevirtual 28, 3) := by decide +kernel
theorem dX4_weeksUntilShut_41 : decode cX4_weeksUntilShut 41 = .ok (.pop, 1) := by decide +kernel
theorem dX4_weeksUntilShut_42 : decode cX4_weeksUntilShut 42 = .ok (.iinc 2 1, 3) := by decide +kernel
theorem dX4_weeksUntilShut_45 : decode cX4_weeksUntilShut 45 = .ok (.goto (-32), 3) := by decide +kernel
theorem dX4_weeksUntilShut_48 : decode cX4_weeksUntilShut 48 = .ok (.ldc 36, 2) := by decide +kernel
theorem dX4_weeksUntilShut_50 : decode cX4_weeksUntilShut 50 = .ok (.ireturn, 1) := by decide +kernel
def bX4_weeksUntilShut_0 : List sx_S := [si_al 0, si_get 3 1, si_al 0, si_get 3 0, si_cv 2 22 1 0 0 0 0, si_const 0, si_is 2, si_go 13 [true, true, true]]
def bX4_weeksUntilShut_13 : List sx_S := [si_il 2, si_il 1, si_if2 (fun x y => y < x) 48 [false, false, false], si_al 0, si_get 3 1, si_get 2 0, si_const (nI 57), si_iald, si_const 1, si_if2 (fun x y => ¬ x = y) 34 [true, true, true], si_il 2, si_ri]
def bX4_weeksUntilShut_34 : List sx_S := [si_al 0, si_get 3 1, si_cv 2 28 0 0 0 0 0, si_pop, si_inc 2 1, si_go 13 [true, true, true]]
def bX4_weeksUntilShut_48 : List sx_S := [si_const (-1000000), si_ri]
def BX4_weeksUntilShut : Nat → List sx_S := fun pc => if pc = 0 then bX4_weeksUntilShut_0 else if pc = 13 then bX4_weeksUntilShut_13 else if pc = 34 then bX4_weeksUntilShut_34 else if pc = 48 then bX4_weeksUntilShut_48 else []
set_option maxRecDepth 20000 in
theorem kX4_weeksUntilShut_0 : sx_BK sx_tb yX4_weeksUntilShut.cls cX4_weeksUntilShut 3 (some .int) ({ frames := 4, cells := 0, slots := 0, locals := 89 } : Room) false false 0 (fun _ => 0) 0 (bX4_weeksUntilShut_0) := ⟨_, ⟨sn_aload_n dX4_weeksUntilShut_0 rfl, sm_al _⟩, ⟨_, ⟨sn_get (C := RX4) (T := TX4) (N := 2) dX4_weeksUntilShut_1 rfl zinX4 (Nat.le_of_ble_eq_true rfl) zw_1_109, sm_get _ _⟩, ⟨_, ⟨sn_aload_n dX4_weeksUntilShut_4 rfl, sm_al _⟩, ⟨_, ⟨sn_get (C := RX4) (T := TX4) (N := 2) dX4_weeksUntilShut_5 rfl zinX4 (Nat.le_of_ble_eq_true rfl) zw_1_108, sm_get _ _⟩, ⟨_, ⟨sn_cv_v (N := 1) (T := TX2) ztb_X2_becomes dX4_weeksUntilShut_8 rfl rfl zw_2_164 zw_2_41 zw_2_42 zw_1_4 zw_2_43 zmh_X2 zpd_X2_becomes (Nat.le_of_ble_eq_true rfl) (Nat.le_of_ble_eq_true rfl) rfl rfl, sm_cv _ _ _ _ _ _ _⟩, ⟨_, ⟨sn_iconst dX4_weeksUntilShut_11 (by decide +kernel), sm_const _⟩, ⟨_, ⟨sn_istore_n dX4_weeksUntilShut_12 rfl (Nat.le_of_ble_eq_true rfl), sm_is _⟩, ⟨_, ⟨sn_fall (len := 0) rfl rfl, sm_go _ _⟩, trivial⟩⟩⟩⟩⟩⟩⟩⟩
set_option maxRecDepth 20000 in
theorem kX4_weeksUntilShut_13 : sx_BK sx_tb yX4_weeksUntilShut.cls cX4_weeksUntilShut 3 (some .int) ({ frames := 4, cells := 0, slots := 0, locals := 89 } : Room) false false 0 (fun _ => 0) 13 (bX4_weeksUntilShut_13) := ⟨_, ⟨sn_iload_n dX4_weeksUntilShut_13 rfl, sm_il _⟩, ⟨_, ⟨sn_iload_n dX4_weeksUntilShut_14 rfl, sm_il _⟩, ⟨_, ⟨sn_ic_gt dX4_weeksUntilShut_15 (by decide +kernel) rfl, sm_if2 _ _ _⟩, ⟨_, ⟨sn_aload_n dX4_weeksUntilShut_18 rfl, sm_al _⟩, ⟨_, ⟨sn_get (C := RX4) (T := TX4) (N := 2) dX4_weeksUntilShut_19 rfl zinX4 (Nat.le_of_ble_eq_true rfl) zw_1_109, sm_get _ _⟩, ⟨_, ⟨sn_get (C := RX2) (T := TX2) (N := 1) dX4_weeksUntilShut_22 rfl zinX2 (Nat.le_of_ble_eq_true rfl) zw_1_78, sm_get _ _⟩, ⟨_, ⟨sn_bipush dX4_weeksUntilShut_25 (by decide +kernel), sm_const _⟩, ⟨_, ⟨sn_iald dX4_weeksUntilShut_27, sm_iald⟩, ⟨_, ⟨sn_iconst dX4_weeksUntilShut_28 (by decide +kernel), sm_const _⟩, ⟨_, ⟨sn_ic_ne dX4_weeksUntilShut_29 (by decide +kernel) rfl, sm_if2 _ _ _⟩, ⟨_, ⟨sn_iload_n dX4_weeksUntilShut_32 rfl, sm_il _⟩, ⟨_, ⟨sn_ri (len := 1) dX4_weeksUntilShut_33 rfl, sm_ri⟩, trivial⟩⟩⟩⟩⟩⟩⟩⟩⟩⟩⟩⟩
set_option maxRecDepth 20000 in
theorem kX4_weeksUntilShut_34 : sx_BK sx_tb yX4_weeksUntilShut.cls cX4_weeksUntilShut 3 (some .int) ({ frames := 4, cells := 0, slots := 0, locals := 89 } : Room) false false 0 (fun _ => 0) 34 (bX4_weeksUntilShut_34) := ⟨_, ⟨sn_aload_n dX4_weeksUntilShut_34 rfl, sm_al _⟩, ⟨_, ⟨sn_get (C := RX4) (T := TX4) (N := 2) dX4_weeksUntilShut_35 rfl zinX4 (Nat.le_of_ble_eq_true rfl) zw_1_109, sm_get _ _⟩, ⟨_, ⟨sn_cv_i (N := 1) (T := TX2) ztb_X2_passWeek dX4_weeksUntilShut_38 rfl rfl zw_2_169 zw_2_80 zw_2_81 zw_1_4 zw_2_82 zmh_X2 zpd_X2_passWeek (Nat.le_of_ble_eq_true rfl) (Nat.le_of_ble_eq_true rfl) rfl rfl, sm_cv _ _ _ _ _ _ _⟩, ⟨_, ⟨sn_pop dX4_weeksUntilShut_41, sm_pop⟩, ⟨_, ⟨sn_iinc dX4_weeksUntilShut_42 (by decide +kernel) (Nat.le_of_ble_eq_true rfl), sm_inc _ _⟩, ⟨_, ⟨sn_goto (len := 3) dX4_weeksUntilShut_45 (by decide +kernel) rfl, sm_go _ _⟩, trivial⟩⟩⟩⟩⟩⟩
set_option maxRecDepth 20000 in
theorem kX4_weeksUntilShut_48 : sx_BK sx_tb yX4_weeksUntilShut.cls cX4_weeksUntilShut 3 (some .int) ({ frames := 4, cells := 0, slots := 0, locals := 89 } : Room) false false 0 (fun _ => 0) 48 (bX4_weeksUntilShut_48) := ⟨_, ⟨sn_ldc dX4_weeksUntilShut_48 zw_2_182, sm_const _⟩, ⟨_, ⟨sn_ri (len := 1) dX4_weeksUntilShut_50 rfl, sm_ri⟩, trivial⟩⟩
theorem kX4_weeksUntilShut : ∀ pc, sx_BK sx_tb yX4_weeksUntilShut.cls cX4_weeksUntilShut 3 (some .int) ({ frames := 4, cells := 0, slots := 0, locals := 89 } : Room) false false 0 (fun _ => 0) pc (BX4_weeksUntilShut pc) := fun pc => sx_bk_if (kX4_weeksUntilShut_0) (sx_bk_if (kX4_weeksUntilShut_13) (sx_bk_if (kX4_weeksUntilShut_34) (sx_bk_if (kX4_weeksUntilShut_48) (trivial))))
theorem okX4_weeksUntilShut : sx_ok sx_tb BX4_weeksUntilShut (yX4_weeksUntilShut, cX4_weeksUntilShut, 3, some .int, { frames := 4, cells := 0, slots := 0, locals := 89 }) := ⟨by decide, by decide +kernel, false, (fun h => by cases h), kX4_weeksUntilShut⟩
theorem dX4_stopForShop_0 : decode cX4_stopForShop 0 = .ok (.iconst 0, 1) := by decide +kernel
theorem dX4_stopForShop_1 : decode cX4_stopForShop 1 = .ok (.istore 4, 2) := by decide +kernel
theorem dX4_stopForShop_3 : decode cX4_stopForShop 3 = .ok (.iconst 0, 1) := by decide +kernel
theorem dX4_stopForShop_4 : decode cX4_stopForShop 4 = .ok (.istore 5, 2) := by decide +kernel
theorem dX4_stopForShop_6 : decode cX4_stopForShop 6 = .ok (.iconst 0, 1) := by decide +kernel
theorem dX4_stopForShop_7 : decode cX4_stopForShop 7 = .ok (.istore 6, 2) := by decide +kernel
theorem dX4_stopForShop_9 : decode cX4_stopForShop 9 = .ok (.iload 6, 2) := by decide +kernel
theorem dX4_stopForShop_11 : decode cX4_stopForShop 11 = .ok (.bipush 99, 2) := by decide +kernel
theorem dX4_stopForShop_13 : decode cX4_stopForShop 13 = .ok (.if_icmp .gt 68, 3) := by decide +kernel
theorem dX4_stopForShop_16 : decode cX4_stopForShop 16 = .ok (.aload_n 0, 1) := by decide +kernel
theorem dX4_stopForShop_17 : decode cX4_stopForShop 17 = .ok (.getfield 15, 3) := by decide +kernel
theorem dX4_stopForShop_20 : decode cX4_stopForShop 20 = .ok (.aload_n 0, 1) := by decide +kernel
theorem dX4_stopForShop_21 : decode cX4_stopForShop 21 = .ok (.getfield 9, 3) := by decide +kernel
theorem dX4_stopForShop_24 : decode cX4_stopForShop 24 = .ok (.invokevirtual 18, 3) := by decide +kernel
theorem dX4_stopForShop_27 : decode cX4_stopForShop 27 = .ok (.aload_n 0, 1) := by decide +kernel
theorem dX4_stopForShop_28 : decode cX4_stopForShop 28 = .ok (.getfield 15, 3) := by decide +kernel
theorem dX4_stopForShop_31 : decode cX4_stopForShop 31 = .ok (.getfield 32, 3) := by decide +kernel
theorem dX4_stopForShop_34 : decode cX4_stopForShop 34 = .ok (.bipush 18, 2) := by decide +kernel
theorem dX4_stopForShop_36 : decode cX4_stopForShop 36 = .ok (.iload_n 1, 1) := by decide +kernel
theorem dX4_stopForShop_37 : decode cX4_stopForShop 37 = .ok (.iadd, 1) := by decide +kernel
theorem dX4_stopForShop_38 : decode cX4_stopForShop 38 = .ok (.iload 6, 2) := by decide +kernel
theorem dX4_stopForShop_40 : decode cX4_stopForShop 40 = .ok (.iastore, 1) := by decide +kernel
theorem dX4_stopForShop_41 : decode cX4_stopForShop 41 = .ok (.aload_n 0, 1) := by decide +kernel
theorem dX4_stopForShop_42 : decode cX4_stopForShop 42 = .ok (.iload_n 2, 1) := by decide +kernel
theorem dX4_stopForShop_43 : decode cX4_stopForShop 43 = .ok (.invokevirtual 24, 3) := by decide +kernel
theorem dX4_stopForShop_46 : decode cX4_stopForShop 46 = .ok (.aload_n 0, 1) := by decide +kernel
theorem dX4_stopForShop_47 : decode cX4_stopForShop 47 = .ok (.getfield 15, 3) := by decide +kernel
theorem dX4_stopForShop_50 : decode cX4_stopForShop 50 = .ok (.invokevirtual 37, 3) := by decide +kernel
theorem dX4_stopForShop_53 : decode cX4_stopForShop 53 = .ok (.istore 7, 2) := by decide +kernel
theorem dX4_stopForShop_55 : decode cX4_stopForShop 55 = .ok (.iload 6, 2) := by decide +kernel
theorem dX4_stopForShop_57 : decode cX4_stopForShop 57 = .ok (.ifCond .eq 10, 3) := by decide +kernel
theorem dX4_stopForShop_60 : decode cX4_stopForShop 60 = .ok (.iload 7, 2) := by decide +kernel
theorem dX4_stopForShop_62 : decode cX4_stopForShop 62 = .ok (.iload 5, 2) := by decide +kernel
theorem dX4_stopForShop_64 : decode cX4_stopForShop 64 = .ok (.if_icmp .le 11, 3) := by decide +kernel
theorem dX4_stopForShop_67 : decode cX4_stopForShop 67 = .ok (.iload 6, 2) := by decide +kernel
theorem dX4_stopForShop_69 : decode cX4_stopForShop 69 = .ok (.istore 4, 2) := by decide +kernel
theorem dX4_stopForShop_71 : decode cX4_stopForShop 71 = .ok (.iload 7, 2) := by decide +kernel
theorem dX4_stopForShop_73 : decode cX4_stopForShop 73 = .ok (.istore 5, 2) := by decide +kernel
theorem dX4_stopForShop_75 : decode cX4_stopForShop 75 = .ok (.iinc 6 1, 3) := by decide +kernel
theorem dX4_stopForShop_78 : decode cX4_stopForShop 78 = .ok (.goto (-69), 3) := by decide +kernel
theorem dX4_stopForShop_81 : decode cX4_stopForShop 81 = .ok (.iload_n 3, 1) := by decide +kernel
theorem dX4_stopForShop_82 : decode cX4_stopForShop 82 = .ok (.ifCond .ne 8, 3) := by decide +kernel
theorem dX4_stopForShop_85 : decode cX4_stopForShop 85 = .ok (.iload 4, 2) := by decide +kernel
theorem dX4_stopForShop_87 : decode cX4_stopForShop 87 = .ok (.goto 5, 3) := by decide +kernel
theorem dX4_stopForShop_90 : decode cX4_stopForShop 90 = .ok (.iload 5, 2) := by decide +kernel
theorem dX4_stopForShop_92 : decode cX4_stopForShop 92 = .ok (.ireturn, 1) := by decide +kernel
def bX4_stopForShop_0 : List sx_S := [si_const 0, si_is 4, si_const 0, si_is 5, si_const 0, si_is 6, si_go 9 [true, true, true, true, true, true, true, false]]
def bX4_stopForShop_9 : List sx_S := [si_il 6, si_const (nI 99), si_if2 (fun x y => y < x) 81 [false, false, false, true, true, true, false, false], si_al 0, si_get 3 1, si_al 0, si_get 3 0, si_cv 2 22 1 0 0 0 0, si_al 0, si_get 3 1, si_get 2 0, si_const (nI 18), si_il 1, si_bin (fun x y => x + y), si_il 6, si_iast, si_al 0, si_il 2, si_cv 3 48 1 0 0 0 0, si_al 0, si_get 3 1, si_cv 2 35 0 0 0 0 0, si_is 7, si_il 6, si_if1 (fun x => x = 0) 67 [true, true, true, true, false, false, true, true], si_il 7, si_il 5, si_if2 (fun x y => x ≤ y) 75 [true, true, true, true, true, true, true, false], si_go 67 [true, true, true, true, false, false, true, true]]
def bX4_stopForShop_67 : List sx_S := [si_il 6, si_is 4, si_il 7, si_is 5, si_go 75 [true, true, true, true, true, true, true, false]]
def bX4_stopForShop_75 : List sx_S := [si_inc 6 1, si_go 9 [true, true, true, true, true, true, true, false]]
def bX4_stopForShop_81 : List sx_S := [si_il 3, si_if1 (fun x => ¬ x = 0) 90 [false, false, false, false, false, true, false, false], si_il 4, si_go 92 [false, false, false, false, false, false, false, false]]
def bX4_stopForShop_90 : List sx_S := [si_il 5, si_go 92 [false, false, false, false, false, false, false, false]]
def bX4_stopForShop_92 : List sx_S := [si_ri]
def BX4_stopForShop : Nat → List sx_S := fun pc => if pc = 0 then bX4_stopForShop_0 else if pc = 9 then bX4_stopForShop_9 else if pc = 67 then bX4_stopForShop_67 else if pc = 75 then bX4_stopForShop_75 else if pc = 81 then bX4_stopForShop_81 else if pc = 90 then bX4_stopForShop_90 else if pc = 92 then bX4_stopForShop_92 else []
set_option maxRecDepth 20000 in
theorem kX4_stopForShop_0 : sx_BK sx_tb yX4_stopForShop.cls cX4_stopForShop 8 (some .int) ({ frames := 5, cells := 0, slots := 0, locals := 111 } : Room) false false 0 (fun _ => 0) 0 (bX4_stopForShop_0) := ⟨_, ⟨sn_iconst dX4_stopForShop_0 (by decide +kernel), sm_const _⟩, ⟨_, ⟨sn_istore dX4_stopForShop_1 (Nat.le_of_ble_eq_true rfl), sm_is _⟩, ⟨_, ⟨sn_iconst dX4_stopForShop_3 (by decide +kernel), sm_const _⟩, ⟨_, ⟨sn_istore dX4_stopForShop_4 (Nat.le_of_ble_eq_true rfl), sm_is _⟩, ⟨_, ⟨sn_iconst dX4_stopForShop_6 (by decide +kernel), sm_const _⟩, ⟨_, ⟨sn_istore dX4_stopForShop_7 (Nat.le_of_ble_eq_true rfl), sm_is _⟩, ⟨_, ⟨sn_fall (len := 0) rfl rfl, sm_go _ _⟩, trivial⟩⟩⟩⟩⟩⟩⟩
set_option maxRecDepth 20000 in
theorem kX4_stopForShop_9 : sx_BK sx_tb yX4_stopForShop.cls cX4_stopForShop 8 (some .int) ({ frames := 5, cells := 0, slots := 0, locals := 111 } : Room) false false 0 (fun _ => 0) 9 (bX4_stopForShop_9) := ⟨_, ⟨sn_iload dX4_stopForShop_9, sm_il _⟩, ⟨_, ⟨sn_bipush dX4_stopForShop_11 (by decide +kernel), sm_const _⟩, ⟨_, ⟨sn_ic_gt dX4_stopForShop_13 (by decide +kernel) rfl, sm_if2 _ _ _⟩, ⟨_, ⟨sn_aload_n dX4_stopForShop_16 rfl, sm_al _⟩, ⟨_, ⟨sn_get (C := RX4) (T := TX4) (N := 2) dX4_stopForShop_17 rfl zinX4 (Nat.le_of_ble_eq_true rfl) zw_1_109, sm_get _ _⟩, ⟨_, ⟨sn_aload_n dX4_stopForShop_20 rfl, sm_al _⟩, ⟨_, ⟨sn_get (C := RX4) (T := TX4) (N := 2) dX4_stopForShop_21 rfl zinX4 (Nat.le_of_ble_eq_true rfl) zw_1_108, sm_get _ _⟩, ⟨_, ⟨sn_cv_v (N := 1) (T := TX2) ztb_X2_becomes dX4_stopForShop_24 rfl rfl zw_2_164 zw_2_41 zw_2_42 zw_1_4 zw_2_43 zmh_X2 zpd_X2_becomes (Nat.le_of_ble_eq_true rfl) (Nat.le_of_ble_eq_true rfl) rfl rfl, sm_cv _ _ _ _ _ _ _⟩, ⟨_, ⟨sn_aload_n dX4_stopForShop_27 rfl, sm_al _⟩, ⟨_, ⟨sn_get (C := RX4) (T := TX4) (N := 2) dX4_stopForShop_28 rfl zinX4 (Nat.le_of_ble_eq_true rfl) zw_1_109, sm_get _ _⟩, ⟨_, ⟨sn_get (C := RX2) (T := TX2) (N := 1) dX4_stopForShop_31 rfl zinX2 (Nat.le_of_ble_eq_true rfl) zw_1_78, sm_get _ _⟩, ⟨_, ⟨sn_bipush dX4_stopForShop_34 (by decide +kernel), sm_const _⟩, ⟨_, ⟨sn_iload_n dX4_stopForShop_36 rfl, sm_il _⟩, ⟨_, ⟨sn_iadd dX4_stopForShop_37, sm_bin _⟩, ⟨_, ⟨sn_iload dX4_stopForShop_38, sm_il _⟩, ⟨_, ⟨sn_iast dX4_stopForShop_40, sm_iast⟩, ⟨_, ⟨sn_aload_n dX4_stopForShop_41 rfl, sm_al _⟩, ⟨_, ⟨sn_iload_n dX4_stopForShop_42 rfl, sm_il _⟩, ⟨_, ⟨sn_cv_v (N := 2) (T := TX4) ztb_X4_pass dX4_stopForShop_43 rfl rfl zw_2_165 zw_2_167 zw_0_15 zw_1_6 zw_2_168 zmh_X4 zpd_X4_pass (Nat.le_of_ble_eq_true rfl) (Nat.le_of_ble_eq_true rfl) rfl rfl, sm_cv _ _ _ _ _ _ _⟩, ⟨_, ⟨sn_aload_n dX4_stopForShop_46 rfl, sm_al _⟩, ⟨_, ⟨sn_get (C := RX4) (T := TX4) (N := 2) dX4_stopForShop_47 rfl zinX4 (Nat.le_of_ble_eq_true rfl) zw_1_109, sm_get _ _⟩, ⟨_, ⟨sn_cv_i (N := 1) (T := TX2) ztb_X2_worth dX4_stopForShop_50 rfl rfl zw_2_191 zw_2_192 zw_2_193 zw_1_4 zw_2_194 zmh_X2 zpd_X2_worth (Nat.le_of_ble_eq_true rfl) (Nat.le_of_ble_eq_true rfl) rfl rfl, sm_cv _ _ _ _ _ _ _⟩, ⟨_, ⟨sn_istore dX4_stopForShop_53 (Nat.le_of_ble_eq_true rfl), sm_is _⟩, ⟨_, ⟨sn_iload dX4_stopForShop_55, sm_il _⟩, ⟨_, ⟨sn_if_eq dX4_stopForShop_57 (by decide +kernel) rfl, sm_if1 _ _ _⟩, ⟨_, ⟨sn_iload dX4_stopForShop_60, sm_il _⟩, ⟨_, ⟨sn_iload dX4_stopForShop_62, sm_il _⟩, ⟨_, ⟨sn_ic_le dX4_stopForShop_64 (by decide +kernel) rfl, sm_if2 _ _ _⟩, ⟨_, ⟨sn_fall (len := 0) rfl rfl, sm_go _ _⟩, trivial⟩⟩⟩⟩⟩⟩⟩⟩⟩⟩⟩⟩⟩⟩⟩⟩⟩⟩⟩⟩⟩⟩⟩⟩⟩⟩⟩⟩⟩
set_option maxRecDepth 20000 in
theorem kX4_stopForShop_67 : sx_BK sx_tb yX4_stopForShop.cls cX4_stopForShop 8 (some .int) ({ frames := 5, cells := 0, slots := 0, locals := 111 } : Room) false false 0 (fun _ => 0) 67 (bX4_stopForShop_67) := ⟨_, ⟨sn_iload dX4_stopForShop_67, sm_il _⟩, ⟨_, ⟨sn_istore dX4_stopForShop_69 (Nat.le_of_ble_eq_true rfl), sm_is _⟩, ⟨_, ⟨sn_iload dX4_stopForShop_71, sm_il _⟩, ⟨_, ⟨sn_istore dX4_stopForShop_73 (Nat.le_of_ble_eq_true rfl), sm_is _⟩, ⟨_, ⟨sn_fall (len := 0) rfl rfl, sm_go _ _⟩, trivial⟩⟩⟩⟩⟩
set_option maxRecDepth 20000 in
theorem kX4_stopForShop_75 : sx_BK sx_tb yX4_stopForShop.cls cX4_stopForShop 8 (some .int) ({ frames := 5, cells := 0, slots := 0, locals := 111 } : Room) false false 0 (fun _ => 0) 75 (bX4_stopForShop_75) := ⟨_, ⟨sn_iinc dX4_stopForShop_75 (by decide +kernel) (Nat.le_of_ble_eq_true rfl), sm_inc _ _⟩, ⟨_, ⟨sn_goto (len := 3) dX4_stopForShop_78 (by decide +kernel) rfl, sm_go _ _⟩, trivial⟩⟩
set_option maxRecDepth 20000 in
theorem kX4_stopForShop_81 : sx_BK sx_tb yX4_stopForShop.cls cX4_stopForShop 8 (some .int) ({ frames := 5, cells := 0, slots := 0, locals := 111 } : Room) false false 0 (fun _ => 0) 81 (bX4_stopForShop_81) := ⟨_, ⟨sn_iload_n dX4_stopForShop_81 rfl, sm_il _⟩, ⟨_, ⟨sn_if_ne dX4_stopForShop_82 (by decide +kernel) rfl, sm_if1 _ _ _⟩, ⟨_, ⟨sn_iload dX4_stopForShop_85, sm_il _⟩, ⟨_, ⟨sn_goto (len := 3) dX4_stopForShop_87 (by decide +kernel) rfl, sm_go _ _⟩, trivial⟩⟩⟩⟩
set_option maxRecDepth 20000 in
theorem kX4_stopForShop_90 : sx_BK sx_tb yX4_stopForShop.cls cX4_stopForShop 8 (some .int) ({ frames := 5, cells := 0, slots := 0, locals := 111 } : Room) false false 0 (fun _ => 0) 90 (bX4_stopForShop_90) := ⟨_, ⟨sn_iload dX4_stopForShop_90, sm_il _⟩, ⟨_, ⟨sn_fall (len := 0) rfl rfl, sm_go _ _⟩, trivial⟩⟩
set_option maxRecDepth 20000 in
theorem kX4_stopForShop_92 : sx_BK sx_tb yX4_stopForShop.cls cX4_stopForShop 8 (some .int) ({ frames := 5, cells := 0, slots := 0, locals := 111 } : Room) false false 0 (fun _ => 0) 92 (bX4_stopForShop_92) := ⟨_, ⟨sn_ri (len := 1) dX4_stopForShop_92 rfl, sm_ri⟩, trivial⟩
theorem kX4_stopForShop : ∀ pc, sx_BK sx_tb yX4_stopForShop.cls cX4_stopForShop 8 (some .int) ({ frames := 5, cells := 0, slots := 0, locals := 111 } : Room) false false 0 (fun _ => 0) pc (BX4_stopForShop pc) := fun pc => sx_bk_if (kX4_stopForShop_0) (sx_bk_if (kX4_stopForShop_9) (sx_bk_if (kX4_stopForShop_67) (sx_bk_if (kX4_stopForShop_75) (sx_bk_if (kX4_stopForShop_81) (sx_bk_if (kX4_stopForShop_90) (sx_bk_if (kX4_stopForShop_92) (trivial)))))))
theorem okX4_stopForShop : sx_ok sx_tb BX4_stopForShop (yX4_stopForShop, cX4_stopForShop, 8, some .int, { frames := 5, cells := 0, slots := 0, locals := 111 }) := ⟨by decide, by decide +kernel, false, (fun h => by cases h), kX4_stopForShop⟩
theorem dX4_stopForRogue_0 : decode cX4_stopForRogue 0 = .ok (.iconst 0, 1) := by decide +kernel
theorem dX4_stopForRogue_1 : decode cX4_stopForRogue 1 = .ok (.istore 4, 2) := by decide +kernel
theorem dX4_stopForRogue_3 : decode cX4_stopForRogue 3 = .ok (.iconst 0, 1) := by decide +kernel
theorem dX4_stopForRogue_4 : decode cX4_stopForRogue 4 = .ok (.istore 5, 2) := by decide +kernel
theorem dX4_stopForRogue_6 : decode cX4_stopForRogue 6 = .ok (.iconst 0, 1) := by decide +kernel
theorem dX4_stopForRogue_7 : decode cX4_stopForRogue 7 = .ok (.istore 6, 2) := by decide +kernel
theorem dX4_stopForRogue_9 : decode cX4_stopForRogue 9 = .ok (.iload 6, 2) := by decide +kernel
theorem dX4_stopForRogue_11 : decode cX4_stopForRogue 11 = .ok (.bipush 99, 2) := by decide +kernel
theorem dX4_stopForRogue_13 : decode cX4_stopForRogue 13 = .ok (.if_icmp .gt 91, 3) := by decide +kernel
theorem dX4_stopForRogue_16 : decode cX4_stopForRogue 16 = .ok (.aload_n 0, 1) := by decide +kernel
theorem dX4_stopForRogue_17 : decode cX4_stopForRogue 17 = .ok (.getfield 15, 3) := by decide +kernel
theorem dX4_stopForRogue_20 : decode cX4_stopForRogue 20 = .ok (.aload_n 0, 1) := by decide +kernel
theorem dX4_stopForRogue_21 : decode cX4_stopForRogue 21 = .ok (.getfield 9, 3) := by decide +kernel
theorem dX4_stopForRogue_24 : decode cX4_stopForRogue 24 = .ok (.invokevirtual 18, 3) := by decide +kernel
theorem dX4_stopForRogue_27 : decode cX4_stopForRogue 27 = .ok (.aload_n 0, 1) := by decide +kernel
theorem dX4_stopForRogue_28 : decode cX4_stopForRogue 28 = .ok (.getfield 15, 3) := by decide +kernel
theorem dX4_stopForRogue_31 : decode cX4_stopForRogue 31 = .ok (.getfield 32, 3) := by decide +kernel
theorem dX4_stopForRogue_34 : decode cX4_stopForRogue 34 = .ok (.bipush 48, 2) := by decide +kernel
theorem dX4_stopForRogue_36 : decode cX4_stopForRogue 36 = .ok (.iload_n 1, 1) := by decide +kernel
theorem dX4_stopForRogue_37 : decode cX4_stopForRogue 37 = .ok (.iadd, 1) := by decide +kernel
theorem dX4_stopForRogue_38 : decode cX4_stopForRogue 38 = .ok (.iconst 5, 1) := by decide +kernel
theorem dX4_stopForRogue_39 : decode cX4_stopForRogue 39 = .ok (.iastore, 1) := by decide +kernel
theorem dX4_stopForRogue_40 : decode cX4_stopForRogue 40 = .ok (.aload_n 0, 1) := by decide +kernel
theorem dX4_stopForRogue_41 : decode cX4_stopForRogue 41 = .ok (.getfield 15, 3) := by decide +kernel
theorem dX4_stopForRogue_44 : decode cX4_stopForRogue 44 = .ok (.getfield 32, 3) := by decide +kernel
theorem dX4_stopForRogue_47 : decode cX4_stopForRogue 47 = .ok (.bipush 18, 2) := by decide +kernel
theorem dX4_stopForRogue_49 : decode cX4_stopForRogue 49 = .ok (.iload_n 1, 1) := by decide +kernel
theorem dX4_stopForRogue_50 : decode cX4_stopForRogue 50 = .ok (.iadd, 1) := by decide +kernel
theorem dX4_stopForRogue_51 : decode cX4_stopForRogue 51 = .ok (.iload 6, 2) := by decide +kernel
theorem dX4_stopForRogue_53 : decode cX4_stopForRogue 53 = .ok (.iastore, 1) := by decide +kernel
theorem dX4_stopForRogue_54 : decode cX4_stopForRogue 54 = .ok (.aload_n 0, 1) := by decide +kernel
theorem dX4_stopForRogue_55 : decode cX4_stopForRogue 55 = .ok (.iload_n 2, 1) := by decide +kernel
theorem dX4_stopForRogue_56 : decode cX4_stopForRogue 56 = .ok (.invokevirtual 24, 3) := by decide +kernel
theorem dX4_stopForRogue_59 : decode cX4_stopForRogue 59 = .ok (.aload_n 0, 1) := by decide +kernel
theorem dX4_stopForRogue_60 : decode cX4_stopForRogue 60 = .ok (.bipush 42, 2) := by decide +kernel
theorem dX4_stopForRogue_62 : decode cX4_stopForRogue 62 = .ok (.iload_n 1, 1) := by decide +kernel
theorem dX4_stopForRogue_63 : decode cX4_stopForRogue 63 = .ok (.iadd, 1) := by decide +kernel
theorem dX4_stopForRogue_64 : decode cX4_stopForRogue 64 = .ok (.invokevirtual 40, 3) := by decide +kernel
theorem dX4_stopForRogue_67 : decode cX4_stopForRogue 67 = .ok (.aload_n 0, 1) := by decide +kernel
theorem dX4_stopForRogue_68 : decode cX4_stopForRogue 68 = .ok (.bipush 36, 2) := by decide +kernel
theorem dX4_stopForRogue_70 : decode cX4_stopForRogue 70 = .ok (.iload_n 1, 1) := by decide +kernel
theorem dX4_stopForRogue_71 : decode cX4_stopForRogue 71 = .ok (.iadd, 1) := by decide +kernel
theorem dX4_stopForRogue_72 : decode cX4_stopForRogue 72 = .ok (.invokevirtual 40, 3) := by decide +kernel
theorem dX4_stopForRogue_75 : decode cX4_stopForRogue 75 = .ok (.isub, 1) := by decide +kernel
theorem dX4_stopForRogue_76 : decode cX4_stopForRogue 76 = .ok (.istore 7, 2) := by decide +kernel
theorem dX4_stopForRogue_78 : decode cX4_stopForRogue 78 = .ok (.iload 6, 2) := by decide +kernel
theorem dX4_stopForRogue_80 : decode cX4_stopForRogue 80 = .ok (.ifCond .eq 10, 3) := by decide +kernel
theorem dX4_stopForRogue_83 : decode cX4_stopForRogue 83 = .ok (.iload 7, 2) := by decide +kernel
theorem dX4_stopForRogue_85 : decode cX4_stopForRogue 85 = .ok (.iload 5, 2) := by decide +kernel
theorem dX4_stopForRogue_87 : decode cX4_stopForRogue 87 = .ok (.if_icmp .le 11, 3) := by decide +kernel
theorem dX4_stopForRogue_90 : decode cX4_stopForRogue 90 = .ok (.iload 6, 2) := by decide +kernel
theorem dX4_stopForRogue_92 : decode cX4_stopForRogue 92 = .ok (.istore 4, 2) := by decide +kernel
theorem dX4_stopForRogue_94 : decode cX4_stopForRogue 94 = .ok (.iload 7, 2) := by decide +kernel
theorem dX4_stopForRogue_96 : decode cX4_stopForRogue 96 = .ok (.istore 5, 2) := by decide +kernel
theorem dX4_stopForRogue_98 : decode cX4_stopForRogue 98 = .ok (.iinc 6 1, 3) := by decide +kernel
theorem dX4_stopForRogue_101 : decode cX4_stopForRogue 101 = .ok (.goto (-92), 3) := by decide +kernel
theorem dX4_stopForRogue_104 : decode cX4_stopForRogue 104 = .ok (.iload_n 3, 1) := by decide +kernel
theorem dX4_stopForRogue_105 : decode cX4_stopForRogue 105 = .ok (.ifCond .ne 8, 3) := by decide +kernel
theorem dX4_stopForRogue_108 : decode cX4_stopForRogue 108 = .ok (.iload 4, 2) := by decide +kernel
theorem dX4_stopForRogue_110 : decode cX4_stopForRogue 110 = .ok (.goto 5, 3) := by decide +kernel
theorem dX4_stopForRogue_113 : decode cX4_stopForRogue 113 = .ok (.iload 5, 2) := by decide +kernel
theorem dX4_stopForRogue_115 : decode cX4_stopForRogue 115 = .ok (.ireturn, 1) := by decide +kernel
def bX4_stopForRogue_0 : List sx_S := [si_const 0, si_is 4, si_const 0, si_is 5, si_const 0, si_is 6, si_go 9 [true, true, true, true, true, true, true, false]]
def bX4_stopForRogue_9 : List sx_S := [si_il 6, si_const (nI 99), si_if2 (fun x y => y < x) 104 [false, false, false, true, true, true, false, false], si_al 0, si_get 3 1, si_al 0, si_get 3 0, si_cv 2 22 1 0 0 0 0, si_al 0, si_get 3 1, si_get 2 0, si_const (nI 48), si_il 1, si_bin (fun x y => x + y), si_const (nI 5), si_iast, si_al 0, si_get 3 1, si_get 2 0, si_const (nI 18), si_il 1, si_bin (fun x y => x + y), si_il 6, si_iast, si_al 0, si_il 2, si_cv 3 48 1 0 0 0 0, si_al 0, si_const (nI 42), si_il 1, si_bin (fun x y => x + y), si_cv 3 52 1 0 0 0 0, si_al 0, si_const (nI 36), si_il 1, si_bin (fun x y => x + y), si_cv 3 52 1 0 0 0 0, si_bin (fun x y => x - y), si_is 7, si_il 6, si_if1 (fun x => x = 0) 90 [true, true, true, true, false, false, true, true], si_il 7, si_il 5, si_if2 (fun x y => x ≤ y) 98 [true, true, true, true, true, true, true, false], si_go 90 [true, true, true, true, false, false, true, true]]
def bX4_stopForRogue_90 : List sx_S := [si_il 6, si_is 4, si_il 7, si_is 5, si_go 98 [true, true, true, true, true, true, true, false]]
def bX4_stopForRogue_98 : List sx_S := [si_inc 6 1, si_go 9 [true, true, true, true, true, true, true, false]]
def bX4_stopForRogue_104 : List sx_S := [si_il 3, si_if1 (fun x => ¬ x = 0) 113 [false, false, false, false, false, true, false, false], si_il 4, si_go 115 [false, false, false, false, false, false, false, false]]
def bX4_stopForRogue_113 : List sx_S := [si_il 5, si_go 115 [false, false, false, false, false, false, false, false]]
def bX4_stopForRogue_115 : List sx_S := [si_ri]
def BX4_stopForRogue : Nat → List sx_S := fun pc => if pc = 0 then bX4_stopForRogue_0 else if pc = 9 then bX4_stopForRogue_9 else if pc = 90 then bX4_stopForRogue_90 else if pc = 98 then bX4_stopForRogue_98 else if pc = 104 then bX4_stopForRogue_104 else if pc = 113 then bX4_stopForRogue_113 else if pc = 115 then bX4_stopForRogue_115 else []
set_option maxRecDepth 20000 in
theorem kX4_stopForRogue_0 : sx_BK sx_tb yX4_stopForRogue.cls cX4_stopForRogue 8 (some .int) ({ frames := 5, cells := 0, slots := 0, locals := 111 } : Room) false false 0 (fun _ => 0) 0 (bX4_stopForRogue_0) := ⟨_, ⟨sn_iconst dX4_stopForRogue_0 (by decide +kernel), sm_const _⟩, ⟨_, ⟨sn_istore dX4_stopForRogue_1 (Nat.le_of_ble_eq_true rfl), sm_is _⟩, ⟨_, ⟨sn_iconst dX4_stopForRogue_3 (by decide +kernel), sm_const _⟩, ⟨_, ⟨sn_istore dX4_stopForRogue_4 (Nat.le_of_ble_eq_true rfl), sm_is _⟩, ⟨_, ⟨sn_iconst dX4_stopForRogue_6 (by decide +kernel), sm_const _⟩, ⟨_, ⟨sn_istore dX4_stopForRogue_7 (Nat.le_of_ble_eq_true rfl), sm_is _⟩, ⟨_, ⟨sn_fall (len := 0) rfl rfl, sm_go _ _⟩, trivial⟩⟩⟩⟩⟩⟩⟩
set_option maxRecDepth 20000 in
theorem kX4_stopForRogue_9 : sx_BK sx_tb yX4_stopForRogue.cls cX4_stopForRogue 8 (some .int) ({ frames := 5, cells := 0, slots := 0, locals := 111 } : Room) false false 0 (fun _ => 0) 9 (bX4_stopForRogue_9) := ⟨_, ⟨sn_iload dX4_stopForRogue_9, sm_il _⟩, ⟨_, ⟨sn_bipush dX4_stopForRogue_11 (by decide +kernel), sm_const _⟩, ⟨_, ⟨sn_ic_gt dX4_stopForRogue_13 (by decide +kernel) rfl, sm_if2 _ _ _⟩, ⟨_, ⟨sn_aload_n dX4_stopForRogue_16 rfl, sm_al _⟩, ⟨_, ⟨sn_get (C := RX4) (T := TX4) (N := 2) dX4_stopForRogue_17 rfl zinX4 (Nat.le_of_ble_eq_true rfl) zw_1_109, sm_get _ _⟩, ⟨_, ⟨sn_aload_n dX4_stopForRogue_20 rfl, sm_al _⟩, ⟨_, ⟨sn_get (C := RX4) (T := TX4) (N := 2) dX4_stopForRogue_21 rfl zinX4 (Nat.le_of_ble_eq_true rfl) zw_1_108, sm_get _ _⟩, ⟨_, ⟨sn_cv_v (N := 1) (T := TX2) ztb_X2_becomes dX4_stopForRogue_24 rfl rfl zw_2_164 zw_2_41 zw_2_42 zw_1_4 zw_2_43 zmh_X2 zpd_X2_becomes (Nat.le_of_ble_eq_true rfl) (Nat.le_of_ble_eq_true rfl) rfl rfl, sm_cv _ _ _ _ _ _ _⟩, ⟨_, ⟨sn_aload_n dX4_stopForRogue_27 rfl, sm_al _⟩, ⟨_, ⟨sn_get (C := RX4) (T := TX4) (N := 2) dX4_stopForRogue_28 rfl zinX4 (Nat.le_of_ble_eq_true rfl) zw_1_109, sm_get _ _⟩, ⟨_, ⟨sn_get (C := RX2) (T := TX2) (N := 1) dX4_stopForRogue_31 rfl zinX2 (Nat.le_of_ble_eq_true rfl) zw_1_78, sm_get _ _⟩, ⟨_, ⟨sn_bipush dX4_stopForRogue_34 (by decide +kernel), sm_const _⟩, ⟨_, ⟨sn_iload_n dX4_stopForRogue_36 rfl, sm_il _⟩, ⟨_, ⟨sn_iadd dX4_stopForRogue_37, sm_bin _⟩, ⟨_, ⟨sn_iconst dX4_stopForRogue_38 (by decide +kernel), sm_const _⟩, ⟨_, ⟨sn_iast dX4_stopForRogue_39, sm_iast⟩, ⟨_, ⟨sn_aload_n dX4_stopForRogue_40 rfl, sm_al _⟩, ⟨_, ⟨sn_get (C := RX4) (T := TX4) (N := 2) dX4_stopForRogue_41 rfl zinX4 (Nat.le_of_ble_eq_true rfl) zw_1_109, sm_get _ _⟩, ⟨_, ⟨sn_get (C := RX2) (T := TX2) (N := 1) dX4_stopForRogue_44 rfl zinX2 (Nat.le_of_ble_eq_true rfl) zw_1_78, sm_get _ _⟩, ⟨_, ⟨sn_bipush dX4_stopForRogue_47 (by decide +kernel), sm_const _⟩, ⟨_, ⟨sn_iload_n dX4_stopForRogue_49 rfl, sm_il _⟩, ⟨_, ⟨sn_iadd dX4_stopForRogue_50, sm_bin _⟩, ⟨_, ⟨sn_iload dX4_stopForRogue_51, sm_il _⟩, ⟨_, ⟨sn_iast dX4_stopForRogue_53, sm_iast⟩, ⟨_, ⟨sn_aload_n dX4_stopForRogue_54 rfl, sm_al _⟩, ⟨_, ⟨sn_iload_n dX4_stopForRogue_55 rfl, sm_il _⟩, ⟨_, ⟨sn_cv_v (N := 2) (T := TX4) ztb_X4_pass dX4_stopForRogue_56 rfl rfl zw_2_165 zw_2_167 zw_0_15 zw_1_6 zw_2_168 zmh_X4 zpd_X4_pass (Nat.le_of_ble_eq_true rfl) (Nat.le_of_ble_eq_true rfl) rfl rfl, sm_cv _ _ _ _ _ _ _⟩, ⟨_, ⟨sn_aload_n dX4_stopForRogue_59 rfl, sm_al _⟩, ⟨_, ⟨sn_bipush dX4_stopForRogue_60 (by decide +kernel), sm_const _⟩, ⟨_, ⟨sn_iload_n dX4_stopForRogue_62 rfl, sm_il _⟩, ⟨_, ⟨sn_iadd dX4_stopForRogue_63, sm_bin _⟩, ⟨_, ⟨sn_cv_i (N := 2) (T := TX4) ztb_X4_grown dX4_stopForRogue_64 rfl rfl zw_3_2 zw_3_4 zw_0_18 zw_1_6 zw_3_5 zmh_X4 zpd_X4_grown (Nat.le_of_ble_eq_true rfl) (Nat.le_of_ble_eq_true rfl) rfl rfl, sm_cv _ _ _ _ _ _ _⟩, ⟨_, ⟨sn_aload_n dX4_stopForRogue_67 rfl, sm_al _⟩, ⟨_, ⟨sn_bipush dX4_stopForRogue_68 (by decide +kernel), sm_const _⟩, ⟨_, ⟨sn_iload_n dX4_stopForRogue_70 rfl, sm_il _⟩, ⟨_, ⟨sn_iadd dX4_stopForRogue_71, sm_bin _⟩, ⟨_, ⟨sn_cv_i (N := 2) (T := TX4) ztb_X4_grown dX4_stopForRogue_72 rfl rfl zw_3_2 zw_3_4 zw_0_18 zw_1_6 zw_3_5 zmh_X4 zpd_X4_grown (Nat.le_of_ble_eq_true rfl) (Nat.le_of_ble_eq_true rfl) rfl rfl, sm_cv _ _ _ _ _ _ _⟩, ⟨_, ⟨sn_isub dX4_stopForRogue_75, sm_bin _⟩, ⟨_, ⟨sn_istore dX4_stopForRogue_76 (Nat.le_of_ble_eq_true rfl), sm_is _⟩, ⟨_, ⟨sn_iload dX4_stopForRogue_78, sm_il _⟩, ⟨_, ⟨sn_if_eq dX4_stopForRogue_80 (by decide +kernel) rfl, sm_if1 _ _ _⟩, ⟨_, ⟨sn_iload dX4_stopForRogue_83, sm_il _⟩, ⟨_, ⟨sn_iload dX4_stopForRogue_85, sm_il _⟩, ⟨_, ⟨sn_ic_le dX4_stopForRogue_87 (by decide +kernel) rfl, sm_if2 _ _ _⟩, ⟨_, ⟨sn_fall (len := 0) rfl rfl, sm_go _ _⟩, trivial⟩⟩⟩⟩⟩⟩⟩⟩⟩⟩⟩⟩⟩⟩⟩⟩⟩⟩⟩⟩⟩⟩⟩⟩⟩⟩⟩⟩⟩⟩⟩⟩⟩⟩⟩⟩⟩⟩⟩⟩⟩⟩⟩⟩⟩
set_option maxRecDepth 20000 in
theorem kX4_stopForRogue_90 : sx_BK sx_tb yX4_stopForRogue.cls cX4_stopForRogue 8 (some .int) ({ frames := 5, cells := 0, slots := 0, locals := 111 } : Room) false false 0 (fun _ => 0) 90 (bX4_stopForRogue_90) := ⟨_, ⟨sn_iload dX4_stopForRogue_90, sm_il _⟩, ⟨_, ⟨sn_istore dX4_stopForRogue_92 (Nat.le_of_ble_eq_true rfl), sm_is _⟩, ⟨_, ⟨sn_iload dX4_stopForRogue_94, sm_il _⟩, ⟨_, ⟨sn_istore dX4_stopForRogue_96 (Nat.le_of_ble_eq_true rfl), sm_is _⟩, ⟨_, ⟨sn_fall (len := 0) rfl rfl, sm_go _ _⟩, trivial⟩⟩⟩⟩⟩
set_option maxRecDepth 20000 in
theorem kX4_stopForRogue_98 : sx_BK sx_tb yX4_stopForRogue.cls cX4_stopForRogue 8 (some .int) ({ frames := 5, cells := 0, slots := 0, locals := 111 } : Room) false false 0 (fun _ => 0) 98 (bX4_stopForRogue_98) := ⟨_, ⟨sn_iinc dX4_stopForRogue_98 (by decide +kernel) (Nat.le_of_ble_eq_true rfl), sm_inc _ _⟩, ⟨_, ⟨sn_goto (len := 3) dX4_stopForRogue_101 (by decide +kernel) rfl, sm_go _ _⟩, trivial⟩⟩
set_option maxRecDepth 20000 in
theorem kX4_stopForRogue_104 : sx_BK sx_tb yX4_stopForRogue.cls cX4_stopForRogue 8 (some .int) ({ frames := 5, cells := 0, slots := 0, locals := 111 } : Room) false false 0 (fun _ => 0) 104 (bX4_stopForRogue_104) := ⟨_, ⟨sn_iload_n dX4_stopForRogue_104 rfl, sm_il _⟩, ⟨_, ⟨sn_if_ne dX4_stopForRogue_105 (by decide +kernel) rfl, sm_if1 _ _ _⟩, ⟨_, ⟨sn_iload dX4_stopForRogue_108, sm_il _⟩, ⟨_, ⟨sn_goto (len := 3) dX4_stopForRogue_110 (by decide +kernel) rfl, sm_go _ _⟩, trivial⟩⟩⟩⟩
set_option maxRecDepth 20000 in
theorem kX4_stopForRogue_113 : sx_BK sx_tb yX4_stopForRogue.cls cX4_stopForRogue 8 (some .int) ({ frames := 5, cells := 0, slots := 0, locals := 111 } : Room) false false 0 (fun _ => 0) 113 (bX4_stopForRogue_113) := ⟨_, ⟨sn_iload dX4_stopForRogue_113, sm_il _⟩, ⟨_, ⟨sn_fall (len := 0) rfl rfl, sm_go _ _⟩, trivial⟩⟩
set_option maxRecDepth 20000 in
theorem kX4_stopForRogue_115 : sx_BK sx_tb yX4_stopForRogue.cls cX4_stopForRogue 8 (some .int) ({ frames := 5, cells := 0, slots := 0, locals := 111 } : Room) false false 0 (fun _ => 0) 115 (bX4_stopForRogue_115) := ⟨_, ⟨sn_ri (len := 1) dX4_stopForRogue_115 rfl, sm_ri⟩, trivial⟩
theorem kX4_stopForRogue : ∀ pc, sx_BK sx_tb yX4_stopForRogue.cls cX4_stopForRogue 8 (some .int) ({ frames := 5, cells := 0, slots := 0, locals := 111 } : Room) false false 0 (fun _ => 0) pc (BX4_stopForRogue pc) := fun pc => sx_bk_if (kX4_stopForRogue_0) (sx_bk_if (kX4_stopForRogue_9) (sx_bk_if (kX4_stopForRogue_90) (sx_bk_if (kX4_stopForRogue_98) (sx_bk_if (kX4_stopForRogue_104) (sx_bk_if (kX4_stopForRogue_113) (sx_bk_if (kX4_stopForRogue_115) (trivial)))))))
theorem okX4_stopForRogue : sx_ok sx_tb BX4_stopForRogue (yX4_stopForRogue, cX4_stopForRogue, 8, some .int, { frames := 5, cells := 0, slots := 0, locals := 111 }) := ⟨by decide, by decide +kernel, false, (fun h => by cases h), kX4_stopForRogue⟩
theorem dX4_grown_0 : decode cX4_grown 0 = .ok (.aload_n 0, 1) := by decide +kernel
theorem dX4_grown_1 : decode cX4_grown 1 = .ok (.getfield 15, 3) := by decide +kernel
theorem dX4_grown_4 : decode cX4_grown 4 = .ok (.getfield 32, 3) := by decide +kernel
theorem dX4_grown_7 : decode cX4_grown 7 = .ok (.iload_n 1, 1) := by decide +kernel
theorem dX4_grown_8 : decode cX4_grown 8 = .ok (.iaload, 1) := by decide +kernel
theorem dX4_grown_9 : decode cX4_grown 9 = .ok (.aload_n 0, 1) := by decide +kernel
theorem dX4_grown_10 : decode cX4_grown 10 = .ok (.getfield 9, 3) := by decide +kernel
theorem dX4_grown_13 : decode cX4_grown 13 = .ok (.getfield 32, 3) := by decide +kernel
theorem dX4_grown_16 : decode cX4_grown 16 = .ok (.iload_n 1, 1) := by decide +kernel
theorem dX4_grown_17 : decode cX4_grown 17 = .ok (.iaload, 1) := by decide +kernel
theorem dX4_grown_18 : decode cX4_grown 18 = .ok (.isub, 1) := by decide +kernel
theorem dX4_grown_19 : decode cX4_grown 19 = .ok (.ireturn, 1) := by decide +kernel
def bX4_grown_0 : List sx_S := [si_al 0, si_get 3 1, si_get 2 0, si_il 1, si_iald, si_al 0, si_get 3 0, si_get 2 0, si_il 1, si_iald, si_bin (fun x y => x - y), si_ri]
def BX4_grown : Nat → List sx_S := fun pc => if pc = 0 then bX4_grown_0 else []
set_option maxRecDepth 20000 in
theorem kX4_grown_0 : sx_BK sx_tb yX4_grown.cls cX4_grown 2 (some .int) ({ frames := 0, cells := 0, slots := 0, locals := 0 } : Room) false false 0 (fun _ => 0) 0 (bX4_grown_0) := ⟨_, ⟨sn_aload_n dX4_grown_0 rfl, sm_al _⟩, ⟨_, ⟨sn_get (C := RX4) (T := TX4) (N := 2) dX4_grown_1 rfl zinX4 (Nat.le_of_ble_eq_true rfl) zw_1_109, sm_get _ _⟩, ⟨_, ⟨sn_get (C := RX2) (T := TX2) (N := 1) dX4_grown_4 rfl zinX2 (Nat.le_of_ble_eq_true rfl) zw_1_78, sm_get _ _⟩, ⟨_, ⟨sn_iload_n dX4_grown_7 rfl, sm_il _⟩, ⟨_, ⟨sn_iald dX4_grown_8, sm_iald⟩, ⟨_, ⟨sn_aload_n dX4_grown_9 rfl, sm_al _⟩, ⟨_, ⟨sn_get (C := RX4) (T := TX4) (N := 2) dX4_grown_10 rfl zinX4 (Nat.le_of_ble_eq_true rfl) zw_1_108, sm_get _ _⟩, ⟨_, ⟨sn_get (C := RX2) (T := TX2) (N := 1) dX4_grown_13 rfl zinX2 (Nat.le_of_ble_eq_true rfl) zw_1_78, sm_get _ _⟩, ⟨_, ⟨sn_iload_n dX4_grown_16 rfl, sm_il _⟩, ⟨_, ⟨sn_iald dX4_grown_17, sm_iald⟩, ⟨_, ⟨sn_isub dX4_grown_18, sm_bin _⟩, ⟨_, ⟨sn_ri (len := 1) dX4_grown_19 rfl, sm_ri⟩, trivial⟩⟩⟩⟩⟩⟩⟩⟩⟩⟩⟩⟩
theorem kX4_grown : ∀ pc, sx_BK sx_tb yX4_grown.cls cX4_grown 2 (some .int) ({ frames := 0, cells := 0, slots := 0, locals := 0 } : Room) false false 0 (fun _ => 0) pc (BX4_grown pc) := fun pc => sx_bk_if (kX4_grown_0) (trivial)
theorem okX4_grown : sx_ok sx_tb BX4_grown (yX4_grown, cX4_grown, 2, some .int, { frames := 0, cells := 0, slots := 0, locals := 0 }) := ⟨by decide, by decide +kernel, false, (fun h => by cases h), kX4_grown⟩
theorem dX4_bestSet_0 : decode cX4_bestSet 0 = .ok (.iconst 1, 1) := by decide +kernel
theorem dX4_bestSet_1 : decode cX4_bestSet 1 = .ok (.aload_n 0, 1) := by decide +kernel
theorem dX4_bestSet_2 : decode cX4_bestSet 2 = .ok (.getfield 9, 3) := by decide +kernel
theorem dX4_bestSet_5 : decode cX4_bestSet 5 = .ok (.getfield 32, 3) := by decide +kernel
theorem dX4_bestSet_8 : decode cX4_bestSet 8 = .ok (.bipush 58, 2) := by decide +kernel
theorem dX4_bestSet_10 : decode cX4_bestSet 10 = .ok (.iaload, 1) := by decide +kernel
theorem dX4_bestSet_11 : decode cX4_bestSet 11 = .ok (.ishl, 1) := by decide +kernel
theorem dX4_bestSet_12 : decode cX4_bestSet 12 = .ok (.istore_n 3, 1) := by decide +kernel
theorem dX4_bestSet_13 : decode cX4_bestSet 13 = .ok (.ldc 36, 2) := by decide +kernel
theorem dX4_bestSet_15 : decode cX4_bestSet 15 = .ok (.istore 4, 2) := by decide +kernel
theorem dX4_bestSet_17 : decode cX4_bestSet 17 = .ok (.iconst 0, 1) := by decide +kernel
theorem dX4_bestSet_18 : decode cX4_bestSet 18 = .ok (.istore 5, 2) := by decide +kernel
theorem dX4_bestSet_20 : decode cX4_bestSet 20 = .ok (.iconst 0, 1) := by decide +kernel
theorem dX4_bestSet_21 : decode cX4_bestSet 21 = .ok (.istore 6, 2) := by decide +kernel
theorem dX4_bestSet_23 : decode cX4_bestSet 23 = .ok (.iload 6, 2) := by decide +kernel
theorem dX4_bestSet_25 : decode cX4_bestSet 25 = .ok (.iload_n 3, 1) := by decide +kernel
theorem dX4_bestSet_26 : decode cX4_bestSet 26 = .ok (.if_icmp .ge 96, 3) := by decide +kernel
theorem dX4_bestSet_29 : decode cX4_bestSet 29 = .ok (.aload_n 0, 1) := by decide +kernel
theorem dX4_bestSet_30 : decode cX4_bestSet 30 = .ok (.iload 6, 2) := by decide +kernel
theorem dX4_bestSet_32 : decode cX4_bestSet 32 = .ok (.iload_n 1, 1) := by decide +kernel
theorem dX4_bestSet_33 : decode cX4_bestSet 33 = .ok (.invokevirtual 44, 3) := by decide +kernel
theorem dX4_bestSet_36 : decode cX4_bestSet 36 = .ok (.aload_n 0, 1) := by decide +kernel
theorem dX4_bestSet_37 : decode cX4_bestSet 37 = .ok (.getfield 15, 3) := by decide +kernel
theorem dX4_bestSet_40 : decode cX4_bestSet 40 = .ok (.getfield 32, 3) := by decide +kernel
theorem dX4_bestSet_43 : decode cX4_bestSet 43 = .ok (.bipush 57, 2) := by decide +kernel
theorem dX4_bestSet_45 : decode cX4_bestSet 45 = .ok (.iaload, 1) := by decide +kernel
theorem dX4_bestSet_46 : decode cX4_bestSet 46 = .ok (.iconst 1, 1) := by decide +kernel
theorem dX4_bestSet_47 : decode cX4_bestSet 47 = .ok (.if_icmp .ne 6, 3) := by decide +kernel
theorem dX4_bestSet_50 : decode cX4_bestSet 50 = .ok (.goto 66, 3) := by decide +kernel
theorem dX4_bestSet_53 : decode cX4_bestSet 53 = .ok (.aload_n 0, 1) := by decide +kernel
theorem dX4_bestSet_54 : decode cX4_bestSet 54 = .ok (.getfield 15, 3) := by decide +kernel
theorem dX4_bestSet_57 : decode cX4_bestSet 57 = .ok (.invokevirtual 37, 3) := by decide +kernel
theorem dX4_bestSet_60 : decode cX4_bestSet 60 = .ok (.istore 7, 2) := by decide +kernel
theorem dX4_bestSet_62 : decode cX4_bestSet 62 = .ok (.iload 6, 2) := by decide +kernel
theorem dX4_bestSet_64 : decode cX4_bestSet 64 = .ok (.invokestatic 48, 3) := by decide +kernel
theorem dX4_bestSet_67 : decode cX4_bestSet 67 = .ok (.iload 4, 2) := by decide +kernel
theorem dX4_bestSet_69 : decode cX4_bestSet 69 = .ok (.invokestatic 48, 3) := by decide +kernel
theorem dX4_bestSet_72 : decode cX4_bestSet 72 = .ok (.if_icmp .ge 7, 3) := by decide +kernel
theorem dX4_bestSet_75 : decode cX4_bestSet 75 = .ok (.iconst 1, 1) := by decide +kernel
theorem dX4_bestSet_76 : decode cX4_bestSet 76 = .ok (.goto 4, 3) := by decide +kernel
theorem dX4_bestSet_79 : decode cX4_bestSet 79 = .ok (.iconst 0, 1) := by decide +kernel
theorem dX4_bestSet_80 : decode cX4_bestSet 80 = .ok (.istore 8, 2) := by decide +kernel
theorem dX4_bestSet_82 : decode cX4_bestSet 82 = .ok (.iload 4, 2) := by decide +kernel
theorem dX4_bestSet_84 : decode cX4_bestSet 84 = .ok (.ldc 36, 2) := by decide +kernel
theorem dX4_bestSet_86 : decode cX4_bestSet 86 = .ok (.if_icmp .eq 22, 3) := by decide +kernel
theorem dX4_bestSet_89 : decode cX4_bestSet 89 = .ok (.iload 7, 2) := by decide +kernel
theorem dX4_bestSet_91 : decode cX4_bestSet 91 = .ok (.iload 5, 2) := by decide +kernel
theorem dX4_bestSet_93 : decode cX4_bestSet 93 = .ok (.if_icmp .gt 15, 3) := by decide +kernel
theorem dX4_bestSet_96 : decode cX4_bestSet 96 = .ok (.iload 7, 2) := by decide +kernel
theorem dX4_bestSet_98 : decode cX4_bestSet 98 = .ok (.iload 5, 2) := by decide +kernel
theorem dX4_bestSet_100 : decode cX4_bestSet 100 = .ok (.if_icmp .ne 16, 3) := by decide +kernel
theorem dX4_bestSet_103 : decode cX4_bestSet 103 = .ok (.iload 8, 2) := by decide +kernel
theorem dX4_bestSet_105 : decode cX4_bestSet 105 = .ok (.ifCond .eq 11, 3) := by decide +kernel
theorem dX4_bestSet_108 : decode cX4_bestSet 108 = .ok (.iload 6, 2) := by decide +kernel
theorem dX4_bestSet_110 : decode cX4_bestSet 110 = .ok (.istore 4, 2) := by decide +kernel
theorem dX4_bestSet_112 : decode cX4_bestSet 112 = .ok (.iload 7, 2) := by decide +kernel
theorem dX4_bestSet_114 : decode cX4_bestSet 114 = .ok (.istore 5, 2) := by decide +kernel
theorem dX4_bestSet_116 : decode cX4_bestSet 116 = .ok (.iinc 6 1, 3) := by decide +kernel
theorem dX4_bestSet_119 : decode cX4_bestSet 119 = .ok (.goto (-96), 3) := by decide +kernel
theorem dX4_bestSet_122 : decode cX4_bestSet 122 = .ok (.iload 4, 2) := by decide +kernel
theorem dX4_bestSet_124 : decode cX4_bestSet 124 = .ok (.ldc 36, 2) := by decide +kernel
theorem dX4_bestSet_126 : decode cX4_bestSet 126 = .ok (.if_icmp .eq 7, 3) := by decide +kernel
theorem dX4_bestSet_129 : decode cX4_bestSet 129 = .ok (.iload_n 2, 1) := by decide +kernel
theorem dX4_bestSet_130 : decode cX4_bestSet 130 = .ok (.ifCond .ne 8, 3) := by decide +kernel
theorem dX4_bestSet_133 : decode cX4_bestSet 133 = .ok (.iload 4, 2) := by decide +kernel
theorem dX4_bestSet_135 : decode cX4_bestSet 135 = .ok (.goto 5, 3) := by decide +kernel
theorem dX4_bestSet_138 : decode cX4_bestSet 138 = .ok (.iload 5, 2) := by decide +kernel
theorem dX4_bestSet_140 : decode cX4_bestSet 140 = .ok (.ireturn, 1) := by decide +kernel
def bX4_bestSet_0 : List sx_S := [si_const 1, si_al 0, si_get 3 0, si_get 2 0, si_const (nI 58), si_iald, si_bin (fun x y => x <<< (y &&& 31)), si_is 3, si_const (-1000000), si_is 4, si_const 0, si_is 5, si_const 0, si_is 6, si_go 23 [true, true, true, true, true, true, true, false, false]]
def bX4_bestSet_23 : List sx_S := [si_il 6, si_il 3, si_if2 (fun x y => y ≤ x) 122 [false, false, true, false, true, true, false, false, false], si_al 0, si_il 6, si_il 1, si_cv 3 54 2 0 0 0 0, si_al 0, si_get 3 1, si_get 2 0, si_const (nI 57), si_iald, si_const 1, si_if2 (fun x y => ¬ x = y) 53 [true, true, true, true, true, true, true, false, false], si_go 116 [true, true, true, true, true, true, true, false, false]]
def bX4_bestSet_53 : List sx_S := [si_al 0, si_get 3 1, si_cv 2 35 0 0 0 0 0, si_is 7, si_il 6, si_cs 195 1 0 0 0 0, si_il 4, si_cs 195 1 0 0 0 0, si_if2 (fun x y => y ≤ x) 79 [true, true, true, true, true, true, true, true, false], si_const 1, si_go 80 [true, true, true, true, true, true, true, true, false]]
def bX4_bestSet_79 : List sx_S := [si_const 0, si_go 80 [true, true, true, true, true, true, true, true, false]]
def bX4_bestSet_80 : List sx_S := [si_is 8, si_il 4, si_const (-1000000), si_if2 (fun x y => x = y) 108 [true, true, true, true, false, false, true, true, false], si_il 7, si_il 5, si_if2 (fun x y => y < x) 108 [true, true, true, true, false, false, true, true, false], si_il 7, si_il 5, si_if2 (fun x y => ¬ x = y) 116 [true, true, true, true, true, true, true, false, false], si_il 8, si_if1 (fun x => x = 0) 116 [true, true, true, true, true, true, true, false, false], si_go 108 [true, true, true, true, false, false, true, true, false]]
def bX4_bestSet_108 : List sx_S := [si_il 6, si_is 4, si_il 7, si_is 5, si_go 116 [true, true, true, true, true, true, true, false, false]]
def bX4_bestSet_116 : List sx_S := [si_inc 6 1, si_go 23 [true, true, true, true, true, true, true, false, false]]
def bX4_bestSet_122 : List sx_S := [si_il 4, si_const (-1000000), si_if2 (fun x y => x = y) 133 [false, false, false, false, true, false, false, false, false], si_il 2, si_if1 (fun x => ¬ x = 0) 138 [false, false, false, false, false, true, false, false, false], si_go 133 [false, false, false, false, true, false, false, false, false]]
def bX4_bestSet_133 : List sx_S := [si_il 4, si_go 140 [false, false, false, false, false, false, false, false, false]]
def bX4_bestSet_138 : List sx_S := [si_il 5, si_go 140 [false, false, false, false, false, false, false, false, false]]
def bX4_bestSet_140 : List sx_S := [si_ri]
def BX4_bestSet : Nat → List sx_S := fun pc => if pc = 0 then bX4_bestSet_0 else if pc = 23 then bX4_bestSet_23 else if pc = 53 then bX4_bestSet_53 else if pc = 79 then bX4_bestSet_79 else if pc = 80 then bX4_bestSet_80 else if pc = 108 then bX4_bestSet_108 else if pc = 116 then bX4_bestSet_116 else if pc = 122 then bX4_bestSet_122 else if pc = 133 then bX4_bestSet_133 else if pc = 138 then bX4_bestSet_138 else if pc = 140 then bX4_bestSet_140 else []
set_option maxRecDepth 20000 in
theorem kX4_bestSet_0 : sx_BK sx_tb yX4_bestSet.cls cX4_bestSet 9 (some .int) ({ frames := 6, cells := 0, slots := 0, locals := 134 } : Room) false false 0 (fun _ => 0) 0 (bX4_bestSet_0) := ⟨_, ⟨sn_iconst dX4_bestSet_0 (by decide +kernel), sm_const _⟩, ⟨_, ⟨sn_aload_n dX4_bestSet_1 rfl, sm_al _⟩, ⟨_, ⟨sn_get (C := RX4) (T := TX4) (N := 2) dX4_bestSet_2 rfl zinX4 (Nat.le_of_ble_eq_true rfl) zw_1_108, sm_get _ _⟩, ⟨_, ⟨sn_get (C := RX2) (T := TX2) (N := 1) dX4_bestSet_5 rfl zinX2 (Nat.le_of_ble_eq_true rfl) zw_1_78, sm_get _ _⟩, ⟨_, ⟨sn_bipush dX4_bestSet_8 (by decide +kernel), sm_const _⟩, ⟨_, ⟨sn_iald dX4_bestSet_10, sm_iald⟩, ⟨_, ⟨sn_ishl dX4_bestSet_11, sm_bin _⟩, ⟨_, ⟨sn_istore_n dX4_bestSet_12 rfl (Nat.le_of_ble_eq_true rfl), sm_is _⟩, ⟨_, ⟨sn_ldc dX4_bestSet_13 zw_2_182, sm_const _⟩, ⟨_, ⟨sn_istore dX4_bestSet_15 (Nat.le_of_ble_eq_true rfl), sm_is _⟩, ⟨_, ⟨sn_iconst dX4_bestSet_17 (by decide +kernel), sm_const _⟩, ⟨_, ⟨sn_istore dX4_bestSet_18 (Nat.le_of_ble_eq_true rfl), sm_is _⟩, ⟨_, ⟨sn_iconst dX4_bestSet_20 (by decide +kernel), sm_const _⟩, ⟨_, ⟨sn_istore dX4_bestSet_21 (Nat.le_of_ble_eq_true rfl), sm_is _⟩, ⟨_, ⟨sn_fall (len := 0) rfl rfl, sm_go _ _⟩, trivial⟩⟩⟩⟩⟩⟩⟩⟩⟩⟩⟩⟩⟩⟩⟩
set_option maxRecDepth 20000 in
theorem kX4_bestSet_23 : sx_BK sx_tb yX4_bestSet.cls cX4_bestSet 9 (some .int) ({ frames := 6, cells := 0, slots := 0, locals := 134 } : Room) false false 0 (fun _ => 0) 23 (bX4_bestSet_23) := ⟨_, ⟨sn_iload dX4_bestSet_23, sm_il _⟩, ⟨_, ⟨sn_iload_n dX4_bestSet_25 rfl, sm_il _⟩, ⟨_, ⟨sn_ic_ge dX4_bestSet_26 (by decide +kernel) rfl, sm_if2 _ _ _⟩, ⟨_, ⟨sn_aload_n dX4_bestSet_29 rfl, sm_al _⟩, ⟨_, ⟨sn_iload dX4_bestSet_30, sm_il _⟩, ⟨_, ⟨sn_iload_n dX4_bestSet_32 rfl, sm_il _⟩, ⟨_, ⟨sn_cv_v (N := 2) (T := TX4) ztb_X4_giveOnlyTo dX4_bestSet_33 rfl rfl zw_2_203 zw_2_205 zw_0_16 zw_1_6 zw_2_206 zmh_X4 zpd_X4_giveOnlyTo (Nat.le_of_ble_eq_true rfl) (Nat.le_of_ble_eq_true rfl) rfl rfl, sm_cv _ _ _ _ _ _ _⟩, ⟨_, ⟨sn_aload_n dX4_bestSet_36 rfl, sm_al _⟩, ⟨_, ⟨sn_get (C := RX4) (T := TX4) (N := 2) dX4_bestSet_37 rfl zinX4 (Nat.le_of_ble_eq_true rfl) zw_1_109, sm_get _ _⟩, ⟨_, ⟨sn_get (C := RX2) (T := TX2) (N := 1) dX4_bestSet_40 rfl zinX2 (Nat.le_of_ble_eq_true rfl) zw_1_78, sm_get _ _⟩, ⟨_, ⟨sn_bipush dX4_bestSet_43 (by decide +kernel), sm_const _⟩, ⟨_, ⟨sn_iald dX4_bestSet_45, sm_iald⟩, ⟨_, ⟨sn_iconst dX4_bestSet_46 (by decide +kernel), sm_const _⟩, ⟨_, ⟨sn_ic_ne dX4_bestSet_47 (by decide +kernel) rfl, sm_if2 _ _ _⟩, ⟨_, ⟨sn_goto (len := 3) dX4_bestSet_50 (by decide +kernel) rfl, sm_go _ _⟩, trivial⟩⟩⟩⟩⟩⟩⟩⟩⟩⟩⟩⟩⟩⟩⟩
set_option maxRecDepth 20000 in
theorem kX4_bestSet_53 : sx_BK sx_tb yX4_bestSet.cls cX4_bestSet 9 (some .int) ({ frames := 6, cells := 0, slots := 0, locals := 134 } : Room) false false 0 (fun _ => 0) 53 (bX4_bestSet_53) := ⟨_, ⟨sn_aload_n dX4_bestSet_53 rfl, sm_al _⟩, ⟨_, ⟨sn_get (C := RX4) (T := TX4) (N := 2) dX4_bestSet_54 rfl zinX4 (Nat.le_of_ble_eq_true rfl) zw_1_109, sm_get _ _⟩, ⟨_, ⟨sn_cv_i (N := 1) (T := TX2) ztb_X2_worth dX4_bestSet_57 rfl rfl zw_2_191 zw_2_192 zw_2_193 zw_1_4 zw_2_194 zmh_X2 zpd_X2_worth (Nat.le_of_ble_eq_true rfl) (Nat.le_of_ble_eq_true rfl) rfl rfl, sm_cv _ _ _ _ _ _ _⟩, ⟨_, ⟨sn_istore dX4_bestSet_60 (Nat.le_of_ble_eq_true rfl), sm_is _⟩, ⟨_, ⟨sn_iload dX4_bestSet_62, sm_il _⟩, ⟨_, ⟨sn_cs_i ztb_J6_bitCount_0f7a4 dX4_bestSet_64 zw_2_207 zw_2_208 zw_1_11 zw_2_209 zmh_J6 zpd_J6_bitCount_0f7a4 (Nat.le_of_ble_eq_true rfl) (Nat.le_of_ble_eq_true rfl) rfl rfl, sm_cs _ _ _ _ _ _⟩, ⟨_, ⟨sn_iload dX4_bestSet_67, sm_il _⟩, ⟨_, ⟨sn_cs_i ztb_J6_bitCount_0f7a4 dX4_bestSet_69 zw_2_207 zw_2_208 zw_1_11 zw_2_209 zmh_J6 zpd_J6_bitCount_0f7a4 (Nat.le_of_ble_eq_true rfl) (Nat.le_of_ble_eq_true rfl) rfl rfl, sm_cs _ _ _ _ _ _⟩, ⟨_, ⟨sn_ic_ge dX4_bestSet_72 (by decide +kernel) rfl, sm_if2 _ _ _⟩, ⟨_, ⟨sn_iconst dX4_bestSet_75 (by decide +kernel), sm_const _⟩, ⟨_, ⟨sn_goto (len := 3) dX4_bestSet_76 (by decide +kernel) rfl, sm_go _ _⟩, trivial⟩⟩⟩⟩⟩⟩⟩⟩⟩⟩⟩
set_option maxRecDepth 20000 in
theorem kX4_bestSet_79 : sx_BK sx_tb yX4_bestSet.cls cX4_bestSet 9 (some .int) ({ frames := 6, cells := 0, slots := 0, locals := 134 } : Room) false false 0 (fun _ => 0) 79 (bX4_bestSet_79) := ⟨_, ⟨sn_iconst dX4_bestSet_79 (by decide +kernel), sm_const _⟩, ⟨_, ⟨sn_fall (len := 0) rfl rfl, sm_go _ _⟩, trivial⟩⟩
set_option maxRecDepth 20000 in
theorem kX4_bestSet_80 : sx_BK sx_tb yX4_bestSet.cls cX4_bestSet 9 (some .int) ({ frames := 6, cells := 0, slots := 0, locals := 134 } : Room) false false 0 (fun _ => 0) 80 (bX4_bestSet_80) := ⟨_, ⟨sn_istore dX4_bestSet_80 (Nat.le_of_ble_eq_true rfl), sm_is _⟩, ⟨_, ⟨sn_iload dX4_bestSet_82, sm_il _⟩, ⟨_, ⟨sn_ldc dX4_bestSet_84 zw_2_182, sm_const _⟩, ⟨_, ⟨sn_ic_eq dX4_bestSet_86 (by decide +kernel) rfl, sm_if2 _ _ _⟩, ⟨_, ⟨sn_iload dX4_bestSet_89, sm_il _⟩, ⟨_, ⟨sn_iload dX4_bestSet_91, sm_il _⟩, ⟨_, ⟨sn_ic_gt dX4_bestSet_93 (by decide +kernel) rfl, sm_if2 _ _ _⟩, ⟨_, ⟨sn_iload dX4_bestSet_96, sm_il _⟩, ⟨_, ⟨sn_iload dX4_bestSet_98, sm_il _⟩, ⟨_, ⟨sn_ic_ne dX4_bestSet_100 (by decide +kernel) rfl, sm_if2 _ _ _⟩, ⟨_, ⟨sn_iload dX4_bestSet_103, sm_il _⟩, ⟨_, ⟨sn_if_eq dX4_bestSet_105 (by decide +kernel) rfl, sm_if1 _ _ _⟩, ⟨_, ⟨sn_fall (len := 0) rfl rfl, sm_go _ _⟩, trivial⟩⟩⟩⟩⟩⟩⟩⟩⟩⟩⟩⟩⟩
set_option maxRecDepth 20000 in
theorem kX4_bestSet_108 : sx_BK sx_tb yX4_bestSet.cls cX4_bestSet 9 (some .int) ({ frames := 6, cells := 0, slots := 0, locals := 134 } : Room) false false 0 (fun _ => 0) 108 (bX4_bestSet_108) := ⟨_, ⟨sn_iload dX4_bestSet_108, sm_il _⟩, ⟨_, ⟨sn_istore dX4_bestSet_110 (Nat.le_of_ble_eq_true rfl), sm_is _⟩, ⟨_, ⟨sn_iload dX4_bestSet_112, sm_il _⟩, ⟨_, ⟨sn_istore dX4_bestSet_114 (Nat.le_of_ble_eq_true rfl), sm_is _⟩, ⟨_, ⟨sn_fall (len := 0) rfl rfl, sm_go _ _⟩, trivial⟩⟩⟩⟩⟩
set_option maxRecDepth 20000 in
theorem kX4_bestSet_116 : sx_BK sx_tb yX4_bestSet.cls cX4_bestSet 9 (some .int) ({ frames := 6, cells := 0, slots := 0, locals := 134 } : Room) false false 0 (fun _ => 0) 116 (bX4_bestSet_116) := ⟨_, ⟨sn_iinc dX4_bestSet_116 (by decide +kernel) (Nat.le_of_ble_eq_true rfl), sm_inc _ _⟩, ⟨_, ⟨sn_goto (len := 3) dX4_bestSet_119 (by decide +kernel) rfl, sm_go _ _⟩, trivial⟩⟩
set_option maxRecDepth 20000 in
theorem kX4_bestSet_122 : sx_BK sx_tb yX4_bestSet.cls cX4_bestSet 9 (some .int) ({ frames := 6, cells := 0, slots := 0, locals := 134 } : Room) false false 0 (fun _ => 0) 122 (bX4_bestSet_122) := ⟨_, ⟨sn_iload dX4_bestSet_122, sm_il _⟩, ⟨_, ⟨sn_ldc dX4_bestSet_124 zw_2_182, sm_const _⟩, ⟨_, ⟨sn_ic_eq dX4_bestSet_126 (by decide +kernel) rfl, sm_if2 _ _ _⟩, ⟨_, ⟨sn_iload_n dX4_bestSet_129 rfl, sm_il _⟩, ⟨_, ⟨sn_if_ne dX4_bestSet_130 (by decide +kernel) rfl, sm_if1 _ _ _⟩, ⟨_, ⟨sn_fall (len := 0) rfl rfl, sm_go _ _⟩, trivial⟩⟩⟩⟩⟩⟩
set_option maxRecDepth 20000 in
theorem kX4_bestSet_133 : sx_BK sx_tb yX4_bestSet.cls cX4_bestSet 9 (some .int) ({ frames := 6, cells := 0, slots := 0, locals := 134 } : Room) false false 0 (fun _ => 0) 133 (bX4_bestSet_133) := ⟨_, ⟨sn_iload dX4_bestSet_133, sm_il _⟩, ⟨_, ⟨sn_goto (len := 3) dX4_bestSet_135 (by decide +kernel) rfl, sm_go _ _⟩, trivial⟩⟩
set_option maxRecDepth 20000 in
theorem kX4_bestSet_138 : sx_BK sx_tb yX4_bestSet.cls cX4_bestSet 9 (some .int) ({ frames := 6, cells := 0, slots := 0, locals := 134 } : Room) false false 0 (fun _ => 0) 138 (bX4_bestSet_138) := ⟨_, ⟨sn_iload dX4_bestSet_138, sm_il _⟩, ⟨_, ⟨sn_fall (len := 0) rfl rfl, sm_go _ _⟩, trivial⟩⟩
set_option maxRecDepth 20000 in
theorem kX4_bestSet_140 : sx_BK sx_tb yX4_bestSet.cls cX4_bestSet 9 (some .int) ({ frames := 6, cells := 0, slots := 0, locals := 134 } : Room) false false 0 (fun _ => 0) 140 (bX4_bestSet_140) := ⟨_, ⟨sn_ri (len := 1) dX4_bestSet_140 rfl, sm_ri⟩, trivial⟩
theorem kX4_bestSet : ∀ pc, sx_BK sx_tb yX4_bestSet.cls cX4_bestSet 9 (some .int) ({ frames := 6, cells := 0, slots := 0, locals := 134 } : Room) false false 0 (fun _ => 0) pc (BX4_bestSet pc) := fun pc => sx_bk_if (kX4_bestSet_0) (sx_bk_if (kX4_bestSet_23) (sx_bk_if (kX4_bestSet_53) (sx_bk_if (kX4_bestSet_79) (sx_bk_if (kX4_bestSet_80) (sx_bk_if (kX4_bestSet_108) (sx_bk_if (kX4_bestSet_116) (sx_bk_if (kX4_bestSet_122) (sx_bk_if (kX4_bestSet_133) (sx_bk_if (kX4_bestSet_138) (sx_bk_if (kX4_bestSet_140) (trivial)))))))))))
theorem okX4_bestSet : sx_ok sx_tb BX4_bestSet (yX4_bestSet, cX4_bestSet, 9, some .int, { frames := 6, cells := 0, slots := 0, locals := 134 }) := ⟨by decide, by decide +kernel, false, (fun h => by cases h), kX4_bestSet⟩
theorem dX4_giveOnlyTo_0 : decode cX4_giveOnlyTo 0 = .ok (.aload_n 0, 1) := by decide +kernel
theorem dX4_giveOnlyTo_1 : decode cX4_giveOnlyTo 1 = .ok (.getfield 15, 3) := by decide +kernel
theorem dX4_giveOnlyTo_4 : decode cX4_giveOnlyTo 4 = .ok (.aload_n 0, 1) := by decide +kernel
theorem dX4_giveOnlyTo_5 : decode cX4_giveOnlyTo 5 = .ok (.getfield 9, 3) := by decide +kernel
theorem dX4_giveOnlyTo_8 : decode cX4_giveOnlyTo 8 = .ok (.invokevirtual 18, 3) := by decide +kernel
theorem dX4_giveOnlyTo_11 : decode cX4_giveOnlyTo 11 = .ok (.iconst 0, 1) := by decide +kernel
theorem dX4_giveOnlyTo_12 : decode cX4_giveOnlyTo 12 = .ok (.istore_n 3, 1) := by decide +kernel
theorem dX4_giveOnlyTo_13 : decode cX4_giveOnlyTo 13 = .ok (.iload_n 3, 1) := by decide +kernel
theorem dX4_giveOnlyTo_14 : decode cX4_giveOnlyTo 14 = .ok (.bipush 6, 2) := by decide +kernel
theorem dX4_giveOnlyTo_16 : decode cX4_giveOnlyTo 16 = .ok (.if_icmp .ge 30, 3) := by decide +kernel
theorem dX4_giveOnlyTo_19 : decode cX4_giveOnlyTo 19 = .ok (.iload_n 1, 1) := by decide +kernel
theorem dX4_giveOnlyTo_20 : decode cX4_giveOnlyTo 20 = .ok (.iload_n 3, 1) := by decide +kernel
theorem dX4_giveOnlyTo_21 : decode cX4_giveOnlyTo 21 = .ok (.ishr, 1) := by decide +kernel
theorem dX4_giveOnlyTo_22 : decode cX4_giveOnlyTo 22 = .ok (.iconst 1, 1) := by decide +kernel
theorem dX4_giveOnlyTo_23 : decode cX4_giveOnlyTo 23 = .ok (.iand, 1) := by decide +kernel
theorem dX4_giveOnlyTo_24 : decode cX4_giveOnlyTo 24 = .ok (.ifCond .ne 16, 3) := by decide +kernel
theorem dX4_giveOnlyTo_27 : decode cX4_giveOnlyTo 27 = .ok (.aload_n 0, 1) := by decide +kernel
theorem dX4_giveOnlyTo_28 : decode cX4_giveOnlyTo 28 = .ok (.getfield 15, 3) := by decide +kernel
theorem dX4_giveOnlyTo_31 : decode cX4_giveOnlyTo 31 = .ok (.getfield 32, 3) := by decide +kernel
theorem dX4_giveOnlyTo_34 : decode cX4_giveOnlyTo 34 = .ok (.bipush 18, 2) := by decide +kernel
theorem dX4_giveOnlyTo_36 : decode cX4_giveOnlyTo 36 = .ok (.iload_n 3, 1) := by decide +kernel
theorem dX4_giveOnlyTo_37 : decode cX4_giveOnlyTo 37 = .ok (.iadd, 1) := by decide +kernel
theorem dX4_giveOnlyTo_38 : decode cX4_giveOnlyTo 38 = .ok (.iconst 0, 1) := by decide +kernel
theorem dX4_giveOnlyTo_39 : decode cX4_giveOnlyTo 39 = .ok (.iastore, 1) := by decide +kernel
theorem dX4_giveOnlyTo_40 : decode cX4_giveOnlyTo 40 = .ok (.iinc 3 1, 3) := by decide +kernel
theorem dX4_giveOnlyTo_43 : decode cX4_giveOnlyTo 43 = .ok (.goto (-30), 3) := by decide +kernel
theorem dX4_giveOnlyTo_46 : decode cX4_giveOnlyTo 46 = .ok (.aload_n 0, 1) := by decide +kernel
theorem dX4_giveOnlyTo_47 : decode cX4_giveOnlyTo 47 = .ok (.iload_n 2, 1) := by decide +kernel
theorem dX4_giveOnlyTo_48 : decode cX4_giveOnlyTo 48 = .ok (.invokevirtual 24, 3) := by decide +kernel
theorem dX4_giveOnlyTo_51 : decode cX4_giveOnlyTo 51 = .ok (.return_, 1) := by decide +kernel
def bX4_giveOnlyTo_0 : List sx_S := [si_al 0, si_get 3 1, si_al 0, si_get 3 0, si_cv 2 22 1 0 0 0 0, si_const 0, si_is 3, si_go 13 [true, true, true, true]]
def bX4_giveOnlyTo_13 : List sx_S := [si_il 3, si_const (nI 6), si_if2 (fun x y => y ≤ x) 46 [true, false, true, false], si_il 1, si_il 3, si_bin (fun x y => x >>> (y &&& 31)), si_const 1, si_bin (fun x y => x &&& y), si_if1 (fun x => ¬ x = 0) 40 [true, true, true, true], si_al 0, si_get 3 1, si_get 2 0, si_const (nI 18), si_il 3, si_bin (fun x y => x + y), si_const 0, si_iast, si_go 40 [true, true, true, true]]
def bX4_giveOnlyTo_40 : List sx_S := [si_inc 3 1, si_go 13 [true, true, true, true]]
def bX4_giveOnlyTo_46 : List sx_S := [si_al 0, si_il 2, si_cv 3 48 1 0 0 0 0, si_rv]
def BX4_giveOnlyTo : Nat → List sx_S := fun pc => if pc = 0 then bX4_giveOnlyTo_0 else if pc = 13 then bX4_giveOnlyTo_13 else if pc = 40 then bX4_giveOnlyTo_40 else if pc = 46 then bX4_giveOnlyTo_46 else []
set_option maxRecDepth 20000 in
theorem kX4_giveOnlyTo_0 : sx_BK sx_tb yX4_giveOnlyTo.cls cX4_giveOnlyTo 4 (none) ({ frames := 5, cells := 0, slots := 0, locals := 111 } : Room) false false 0 (fun _ => 0) 0 (bX4_giveOnlyTo_0) := ⟨_, ⟨sn_aload_n dX4_giveOnlyTo_0 rfl, sm_al _⟩, ⟨_, ⟨sn_get (C := RX4) (T := TX4) (N := 2) dX4_giveOnlyTo_1 rfl zinX4 (Nat.le_of_ble_eq_true rfl) zw_1_109, sm_get _ _⟩, ⟨_, ⟨sn_aload_n dX4_giveOnlyTo_4 rfl, sm_al _⟩, ⟨_, ⟨sn_get (C := RX4) (T := TX4) (N := 2) dX4_giveOnlyTo_5 rfl zinX4 (Nat.le_of_ble_eq_true rfl) zw_1_108, sm_get _ _⟩, ⟨_, ⟨sn_cv_v (N := 1) (T := TX2) ztb_X2_becomes dX4_giveOnlyTo_8 rfl rfl zw_2_164 zw_2_41 zw_2_42 zw_1_4 zw_2_43 zmh_X2 zpd_X2_becomes (Nat.le_of_ble_eq_true rfl) (Nat.le_of_ble_eq_true rfl) rfl rfl, sm_cv _ _ _ _ _ _ _⟩, ⟨_, ⟨sn_iconst dX4_giveOnlyTo_11 (by decide +kernel), sm_const _⟩, ⟨_, ⟨sn_istore_n dX4_giveOnlyTo_12 rfl (Nat.le_of_ble_eq_true rfl), sm_is _⟩, ⟨_, ⟨sn_fall (len := 0) rfl rfl, sm_go _ _⟩, trivial⟩⟩⟩⟩⟩⟩⟩⟩
set_option maxRecDepth 20000 in
theorem kX4_giveOnlyTo_13 : sx_BK sx_tb yX4_giveOnlyTo.cls cX4_giveOnlyTo 4 (none) ({ frames := 5, cells := 0, slots := 0, locals := 111 } : Room) false false 0 (fun _ => 0) 13 (bX4_giveOnlyTo_13) := ⟨_, ⟨sn_iload_n dX4_giveOnlyTo_13 rfl, sm_il _⟩, ⟨_, ⟨sn_bipush dX4_giveOnlyTo_14 (by decide +kernel), sm_const _⟩, ⟨_, ⟨sn_ic_ge dX4_giveOnlyTo_16 (by decide +kernel) rfl, sm_if2 _ _ _⟩, ⟨_, ⟨sn_iload_n dX4_giveOnlyTo_19 rfl, sm_il _⟩, ⟨_, ⟨sn_iload_n dX4_giveOnlyTo_20 rfl, sm_il _⟩, ⟨_, ⟨sn_ishr dX4_giveOnlyTo_21, sm_bin _⟩, ⟨_, ⟨sn_iconst dX4_giveOnlyTo_22 (by decide +kernel), sm_const _⟩, ⟨_, ⟨sn_iand dX4_giveOnlyTo_23, sm_bin _⟩, ⟨_, ⟨sn_if_ne dX4_giveOnlyTo_24 (by decide +kernel) rfl, sm_if1 _ _ _⟩, ⟨_, ⟨sn_aload_n dX4_giveOnlyTo_27 rfl, sm_al _⟩, ⟨_, ⟨sn_get (C := RX4) (T := TX4) (N := 2) dX4_giveOnlyTo_28 rfl zinX4 (Nat.le_of_ble_eq_true rfl) zw_1_109, sm_get _ _⟩, ⟨_, ⟨sn_get (C := RX2) (T := TX2) (N := 1) dX4_giveOnlyTo_31 rfl zinX2 (Nat.le_of_ble_eq_true rfl) zw_1_78, sm_get _ _⟩, ⟨_, ⟨sn_bipush dX4_giveOnlyTo_34 (by decide +kernel), sm_const _⟩, ⟨_, ⟨sn_iload_n dX4_giveOnlyTo_36 rfl, sm_il _⟩, ⟨_, ⟨sn_iadd dX4_giveOnlyTo_37, sm_bin _⟩, ⟨_, ⟨sn_iconst dX4_giveOnlyTo_38 (by decide +kernel), sm_const _⟩, ⟨_, ⟨sn_iast dX4_giveOnlyTo_39, sm_iast⟩, ⟨_, ⟨sn_fall (len := 0) rfl rfl, sm_go _ _⟩, trivial⟩⟩⟩⟩⟩⟩⟩⟩⟩⟩⟩⟩⟩⟩⟩⟩⟩⟩
set_option maxRecDepth 20000 in
theorem kX4_giveOnlyTo_40 : sx_BK sx_tb yX4_giveOnlyTo.cls cX4_giveOnlyTo 4 (none) ({ frames := 5, cells := 0, slots := 0, locals := 111 } : Room) false false 0 (fun _ => 0) 40 (bX4_giveOnlyTo_40) := ⟨_, ⟨sn_iinc dX4_giveOnlyTo_40 (by decide +kernel) (Nat.le_of_ble_eq_true rfl), sm_inc _ _⟩, ⟨_, ⟨sn_goto (len := 3) dX4_giveOnlyTo_43 (by decide +kernel) rfl, sm_go _ _⟩, trivial⟩⟩
set_option maxRecDepth 20000 in
theorem kX4_giveOnlyTo_46 : sx_BK sx_tb yX4_giveOnlyTo.cls cX4_giveOnlyTo 4 (none) ({ frames := 5, cells := 0, slots := 0, locals := 111 } : Room) false false 0 (fun _ => 0) 46 (bX4_giveOnlyTo_46) := ⟨_, ⟨sn_aload_n dX4_giveOnlyTo_46 rfl, sm_al _⟩, ⟨_, ⟨sn_iload_n dX4_giveOnlyTo_47 rfl, sm_il _⟩, ⟨_, ⟨sn_cv_v (N := 2) (T := TX4) ztb_X4_pass dX4_giveOnlyTo_48 rfl rfl zw_2_165 zw_2_167 zw_0_15 zw_1_6 zw_2_168 zmh_X4 zpd_X4_pass (Nat.le_of_ble_eq_true rfl) (Nat.le_of_ble_eq_true rfl) rfl rfl, sm_cv _ _ _ _ _ _ _⟩, ⟨_, ⟨sn_rv (len := 1) dX4_giveOnlyTo_51 rfl, sm_rv⟩, trivial⟩⟩⟩⟩
theorem kX4_giveOnlyTo : ∀ pc, sx_BK sx_tb yX4_giveOnlyTo.cls cX4_giveOnlyTo 4 (none) ({ frames := 5, cells := 0, slots := 0, locals := 111 } : Room) false false 0 (fun _ => 0) pc (BX4_giveOnlyTo pc) := fun pc => sx_bk_if (kX4_giveOnlyTo_0) (sx_bk_if (kX4_giveOnlyTo_13) (sx_bk_if (kX4_giveOnlyTo_40) (sx_bk_if (kX4_giveOnlyTo_46) (trivial))))
theorem okX4_giveOnlyTo : sx_ok sx_tb BX4_giveOnlyTo (yX4_giveOnlyTo, cX4_giveOnlyTo, 4, none, { frames := 5, cells := 0, slots := 0, locals := 111 }) := ⟨by decide, by decide +kernel, false, (fun h => by cases h), kX4_giveOnlyTo⟩
theorem dX4_longestStrike_0 : decode cX4_longestStrike 0 = .ok (.bipush 20, 2) := by decide +kernel
theorem dX4_longestStrike_2 : decode cX4_longestStrike 2 = .ok (.istore_n 1, 1) := by decide +kernel
theorem dX4_longestStrike_3 : decode cX4_longestStrike 3 = .ok (.iload_n 1, 1) := by decide +kernel
theorem dX4_longestStrike_4 : decode cX4_longestStrike 4 = .ok (.ifCond .lt 23, 3) := by decide +kernel
theorem dX4_longestStrike_7 : decode cX4_longestStrike 7 = .ok (.aload_n 0, 1) := by decide +kernel
theorem dX4_longestStrike_8 : decode cX4_longestStrike 8 = .ok (.bipush 56, 2) := by decide +kernel
theorem dX4_longestStrike_10 : decode cX4_longestStrike 10 = .ok (.iload_n 1, 1) := by decide +kernel
theorem dX4_longestStrike_11 : decode cX4_longestStrike 11 = .ok (.bipush 40, 2) := by decide +kernel
theorem dX4_longestStrike_13 : decode cX4_longestStrike 13 = .ok (.invokevirtual 53, 3) := by decide +kernel
theorem dX4_longestStrike_16 : decode cX4_longestStrike 16 = .ok (.ifCond .eq 5, 3) := by decide +kernel
theorem dX4_longestStrike_19 : decode cX4_longestStrike 19 = .ok (.iload_n 1, 1) := by decide +kernel
theorem dX4_longestStrike_20 : decode cX4_longestStrike 20 = .ok (.ireturn, 1) := by decide +kernel
theorem dX4_longestStrike_21 : decode cX4_longestStrike 21 = .ok (.iinc 1 (-1), 3) := by decide +kernel
theorem dX4_longestStrike_24 : decode cX4_longestStrike 24 = .ok (.goto (-21), 3) := by decide +kernel
theorem dX4_longestStrike_27 : decode cX4_longestStrike 27 = .ok (.ldc 36, 2) := by decide +kernel
theorem dX4_longestStrike_29 : decode cX4_longestStrike 29 = .ok (.ireturn, 1) := by decide +kernel
def bX4_longestStrike_0 : List sx_S := [si_const (nI 20), si_is 1, si_go 3 [true, true]]
def bX4_longestStrike_3 : List sx_S := [si_il 1, si_if1 (fun x => x < 0) 27 [false, false], si_al 0, si_const (nI 56), si_il 1, si_const (nI 40), si_cv 3 57 3 0 0 0 0, si_if1 (fun x => x = 0) 21 [true, true], si_il 1, si_ri]
def bX4_longestStrike_21 : List sx_S := [si_inc 1 (-1), si_go 3 [true, true]]
def bX4_longestStrike_27 : List sx_S := [si_const (-1000000), si_ri]
def BX4_longestStrike : Nat → List sx_S := fun pc => if pc = 0 then bX4_longestStrike_0 else if pc = 3 then bX4_longestStrike_3 else if pc = 21 then bX4_longestStrike_21 else if pc = 27 then bX4_longestStrike_27 else []
set_option maxRecDepth 20000 in
theorem kX4_longestStrike_0 : sx_BK sx_tb yX4_longestStrike.cls cX4_longestStrike 2 (some .int) ({ frames := 6, cells := 0, slots := 0, locals := 134 } : Room) false false 0 (fun _ => 0) 0 (bX4_longestStrike_0) := ⟨_, ⟨sn_bipush dX4_longestStrike_0 (by decide +kernel), sm_const _⟩, ⟨_, ⟨sn_istore_n dX4_longestStrike_2 rfl (Nat.le_of_ble_eq_true rfl), sm_is _⟩, ⟨_, ⟨sn_fall (len := 0) rfl rfl, sm_go _ _⟩, trivial⟩⟩⟩
set_option maxRecDepth 20000 in
theorem kX4_longestStrike_3 : sx_BK sx_tb yX4_longestStrike.cls cX4_longestStrike 2 (some .int) ({ frames := 6, cells := 0, slots := 0, locals := 134 } : Room) false false 0 (fun _ => 0) 3 (bX4_longestStrike_3) := ⟨_, ⟨sn_iload_n dX4_longestStrike_3 rfl, sm_il _⟩, ⟨_, ⟨sn_if_lt dX4_longestStrike_4 (by decide +kernel) rfl, sm_if1 _ _ _⟩, ⟨_, ⟨sn_aload_n dX4_longestStrike_7 rfl, sm_al _⟩, ⟨_, ⟨sn_bipush dX4_longestStrike_8 (by decide +kernel), sm_const _⟩, ⟨_, ⟨sn_iload_n dX4_longestStrike_10 rfl, sm_il _⟩, ⟨_, ⟨sn_bipush dX4_longestStrike_11 (by decide +kernel), sm_const _⟩, ⟨_, ⟨sn_cv_z (N := 2) (T := TX4) ztb_X4_lasts dX4_longestStrike_13 rfl rfl zw_2_221 zw_2_223 zw_0_17 zw_1_6 zw_2_224 zmh_X4 zpd_X4_lasts (Nat.le_of_ble_eq_true rfl) (Nat.le_of_ble_eq_true rfl) rfl rfl, sm_cv _ _ _ _ _ _ _⟩, ⟨_, ⟨sn_if_eq dX4_longestStrike_16 (by decide +kernel) rfl, sm_if1 _ _ _⟩, ⟨_, ⟨sn_iload_n dX4_longestStrike_19 rfl, sm_il _⟩, ⟨_, ⟨sn_ri (len := 1) dX4_longestStrike_20 rfl, sm_ri⟩, trivial⟩⟩⟩⟩⟩⟩⟩⟩⟩⟩
set_option maxRecDepth 20000 in
theorem kX4_longestStrike_21 : sx_BK sx_tb yX4_longestStrike.cls cX4_longestStrike 2 (some .int) ({ frames := 6, cells := 0, slots := 0, locals := 134 } : Room) false false 0 (fun _ => 0) 21 (bX4_longestStrike_21) := ⟨_, ⟨sn_iinc dX4_longestStrike_21 (by decide +kernel) (Nat.le_of_ble_eq_true rfl), sm_inc _ _⟩, ⟨_, ⟨sn_goto (len := 3) dX4_longestStrike_24 (by decide +kernel) rfl, sm_go _ _⟩, trivial⟩⟩
set_option maxRecDepth 20000 in
theorem kX4_longestStrike_27 : sx_BK sx_tb yX4_longestStrike.cls cX4_longestStrike 2 (some .int) ({ frames := 6, cells := 0, slots := 0, locals := 134 } : Room) false false 0 (fun _ => 0) 27 (bX4_longestStrike_27) := ⟨_, ⟨sn_ldc dX4_longestStrike_27 zw_2_182, sm_const _⟩, ⟨_, ⟨sn_ri (len := 1) dX4_longestStrike_29 rfl, sm_ri⟩, trivial⟩⟩
theorem kX4_longestStrike : ∀ pc, sx_BK sx_tb yX4_longestStrike.cls cX4_longestStrike 2 (some .int) ({ frames := 6, cells := 0, slots := 0, locals := 134 } : Room) false false 0 (fun _ => 0) pc (BX4_longestStrike pc) := fun pc => sx_bk_if (kX4_longestStrike_0) (sx_bk_if (kX4_longestStrike_3) (sx_bk_if (kX4_longestStrike_21) (sx_bk_if (kX4_longestStrike_27) (trivial))))
theorem okX4_longestStrike : sx_ok sx_tb BX4_longestStrike (yX4_longestStrike, cX4_longestStrike, 2, some .int, { frames := 6, cells := 0, slots := 0, locals := 134 }) := ⟨by decide, by decide +kernel, false, (fun h => by cases h), kX4_longestStrike⟩
theorem dX4_leastDearer_0 : decode cX4_leastDearer 0 = .ok (.iconst 0, 1) := by decide +kernel
theorem dX4_leastDearer_1 : decode cX4_leastDearer 1 = .ok (.istore_n 2, 1) := by decide +kernel
theorem dX4_leastDearer_2 : decode cX4_leastDearer 2 = .ok (.iload_n 2, 1) := by decide +kernel
theorem dX4_leastDearer_3 : decode cX4_leastDearer 3 = .ok (.bipush 20, 2) := by decide +kernel
theorem dX4_leastDearer_5 : decode cX4_leastDearer 5 = .ok (.if_icmp .gt 22, 3) := by decide +kernel
theorem dX4_leastDearer_8 : decode cX4_leastDearer 8 = .ok (.aload_n 0, 1) := by decide +kernel
theorem dX4_leastDearer_9 : decode cX4_leastDearer 9 = .ok (.bipush 59, 2) := by decide +kernel
theorem dX4_leastDearer_11 : decode cX4_leastDearer 11 = .ok (.iload_n 2, 1) := by decide +kernel
theorem dX4_leastDearer_12 : decode cX4_leastDearer 12 = .ok (.iload_n 1, 1) := by decide +kernel
theorem dX4_leastDearer_13 : decode cX4_leastDearer 13 = .ok (.invokevirtual 53, 3) := by decide +kernel
theorem dX4_leastDearer_16 : decode cX4_leastDearer 16 = .ok (.ifCond .eq 5, 3) := by decide +kernel
theorem dX4_leastDearer_19 : decode cX4_leastDearer 19 = .ok (.iload_n 2, 1) := by decide +kernel
theorem dX4_leastDearer_20 : decode cX4_leastDearer 20 = .ok (.ireturn, 1) := by decide +kernel
theorem dX4_leastDearer_21 : decode cX4_leastDearer 21 = .ok (.iinc 2 1, 3) := by decide +kernel
theorem dX4_leastDearer_24 : decode cX4_leastDearer 24 = .ok (.goto (-22), 3) := by decide +kernel
theorem dX4_leastDearer_27 : decode cX4_leastDearer 27 = .ok (.ldc 36, 2) := by decide +kernel
theorem dX4_leastDearer_29 : decode cX4_leastDearer 29 = .ok (.ireturn, 1) := by decide +kernel
def bX4_leastDearer_0 : List sx_S := [si_const 0, si_is 2, si_go 2 [true, true, true]]
def bX4_leastDearer_2 : List sx_S := [si_il 2, si_const (nI 20), si_if2 (fun x y => y < x) 27 [false, false, false], si_al 0, si_const (nI 59), si_il 2, si_il 1, si_cv 3 57 3 0 0 0 0, si_if1 (fun x => x = 0) 21 [true, true, true], si_il 2, si_ri]
def bX4_leastDearer_21 : List sx_S := [si_inc 2 1, si_go 2 [true, true, true]]
def bX4_leastDearer_27 : List sx_S := [si_const (-1000000), si_ri]
def BX4_leastDearer : Nat → List sx_S := fun pc => if pc = 0 then bX4_leastDearer_0 else if pc = 2 then bX4_leastDearer_2 else if pc = 21 then bX4_leastDearer_21 else if pc = 27 then bX4_leastDearer_27 else []
set_option maxRecDepth 20000 in
theorem kX4_leastDearer_0 : sx_BK sx_tb yX4_leastDearer.cls cX4_leastDearer 3 (some .int) ({ frames := 6, cells := 0, slots := 0, locals := 134 } : Room) false false 0 (fun _ => 0) 0 (bX4_leastDearer_0) := ⟨_, ⟨sn_iconst dX4_leastDearer_0 (by decide +kernel), sm_const _⟩, ⟨_, ⟨sn_istore_n dX4_leastDearer_1 rfl (Nat.le_of_ble_eq_true rfl), sm_is _⟩, ⟨_, ⟨sn_fall (len := 0) rfl rfl, sm_go _ _⟩, trivial⟩⟩⟩
set_option maxRecDepth 20000 in
theorem kX4_leastDearer_2 : sx_BK sx_tb yX4_leastDearer.cls cX4_leastDearer 3 (some .int) ({ frames := 6, cells := 0, slots := 0, locals := 134 } : Room) false false 0 (fun _ => 0) 2 (bX4_leastDearer_2) := ⟨_, ⟨sn_iload_n dX4_leastDearer_2 rfl, sm_il _⟩, ⟨_, ⟨sn_bipush dX4_leastDearer_3 (by decide +kernel), sm_const _⟩, ⟨_, ⟨sn_ic_gt dX4_leastDearer_5 (by decide +kernel) rfl, sm_if2 _ _ _⟩, ⟨_, ⟨sn_aload_n dX4_leastDearer_8 rfl, sm_al _⟩, ⟨_, ⟨sn_bipush dX4_leastDearer_9 (by decide +kernel), sm_const _⟩, ⟨_, ⟨sn_iload_n dX4_leastDearer_11 rfl, sm_il _⟩, ⟨_, ⟨sn_iload_n dX4_leastDearer_12 rfl, sm_il _⟩, ⟨_, ⟨sn_cv_z (N := 2) (T := TX4) ztb_X4_lasts dX4_leastDearer_13 rfl rfl zw_2_221 zw_2_223 zw_0_17 zw_1_6 zw_2_224 zmh_X4 zpd_X4_lasts (Nat.le_of_ble_eq_true rfl) (Nat.le_of_ble_eq_true rfl) rfl rfl, sm_cv _ _ _ _ _ _ _⟩, ⟨_, ⟨sn_if_eq dX4_leastDearer_16 (by decide +kernel) rfl, sm_if1 _ _ _⟩, ⟨_, ⟨sn_iload_n dX4_leastDearer_19 rfl, sm_il _⟩, ⟨_, ⟨sn_ri (len := 1) dX4_leastDearer_20 rfl, sm_ri⟩, trivial⟩⟩⟩⟩⟩⟩⟩⟩⟩⟩⟩
set_option maxRecDepth 20000 in
theorem kX4_leastDearer_21 : sx_BK sx_tb yX4_leastDearer.cls cX4_leastDearer 3 (some .int) ({ frames := 6, cells := 0, slots := 0, locals := 134 } : Room) false false 0 (fun _ => 0) 21 (bX4_leastDearer_21) := ⟨_, ⟨sn_iinc dX4_leastDearer_21 (by decide +kernel) (Nat.le_of_ble_eq_true rfl), sm_inc _ _⟩, ⟨_, ⟨sn_goto (len := 3) dX4_leastDearer_24 (by decide +kernel) rfl, sm_go _ _⟩, trivial⟩⟩
set_option maxRecDepth 20000 in
theorem kX4_leastDearer_27 : sx_BK sx_tb yX4_leastDearer.cls cX4_leastDearer 3 (some .int) ({ frames := 6, cells := 0, slots := 0, locals := 134 } : Room) false false 0 (fun _ => 0) 27 (bX4_leastDearer_27) := ⟨_, ⟨sn_ldc dX4_leastDearer_27 zw_2_182, sm_const _⟩, ⟨_, ⟨sn_ri (len := 1) dX4_leastDearer_29 rfl, sm_ri⟩, trivial⟩⟩
theorem kX4_leastDearer : ∀ pc, sx_BK sx_tb yX4_leastDearer.cls cX4_leastDearer 3 (some .int) ({ frames := 6, cells := 0, slots := 0, locals := 134 } : Room) false false 0 (fun _ => 0) pc (BX4_leastDearer pc) := fun pc => sx_bk_if (kX4_leastDearer_0) (sx_bk_if (kX4_leastDearer_2) (sx_bk_if (kX4_leastDearer_21) (sx_bk_if (kX4_leastDearer_27) (trivial))))
theorem okX4_leastDearer : sx_ok sx_tb BX4_leastDearer (yX4_leastDearer, cX4_leastDearer, 3, some .int, { frames := 6, cells := 0, slots := 0, locals := 134 }) := ⟨by decide, by decide +kernel, false, (fun h => by cases h), kX4_leastDearer⟩
theorem dX4_lasts_0 : decode cX4_lasts 0 = .ok (.aload_n 0, 1) := by decide +kernel
theorem dX4_lasts_1 : decode cX4_lasts 1 = .ok (.getfield 15, 3) := by decide +kernel
theorem dX4_lasts_4 : decode cX4_lasts 4 = .ok (.aload_n 0, 1) := by decide +kernel
theorem dX4_lasts_5 : decode cX4_lasts 5 = .ok (.getfield 9, 3) := by decide +kernel
theorem dX4_lasts_8 : decode cX4_lasts 8 = .ok (.invokevirtual 18, 3) := by decide +kernel
theorem dX4_lasts_11 : decode cX4_lasts 11 = .ok (.aload_n 0, 1) := by decide +kernel
theorem dX4_lasts_12 : decode cX4_lasts 12 = .ok (.getfield 15, 3) := by decide +kernel
theorem dX4_lasts_15 : decode cX4_lasts 15 = .ok (.getfield 32, 3) := by decide +kernel
theorem dX4_lasts_18 : decode cX4_lasts 18 = .ok (.iload_n 1, 1) := by decide +kernel
theorem dX4_lasts_19 : decode cX4_lasts 19 = .ok (.iload_n 2, 1) := by decide +kernel
theorem dX4_lasts_20 : decode cX4_lasts 20 = .ok (.iastore, 1) := by decide +kernel
theorem dX4_lasts_21 : decode cX4_lasts 21 = .ok (.aload_n 0, 1) := by decide +kernel
theorem dX4_lasts_22 : decode cX4_lasts 22 = .ok (.iload_n 3, 1) := by decide +kernel
theorem dX4_lasts_23 : decode cX4_lasts 23 = .ok (.invokevirtual 24, 3) := by decide +kernel
theorem dX4_lasts_26 : decode cX4_lasts 26 = .ok (.aload_n 0, 1) := by decide +kernel
theorem dX4_lasts_27 : decode cX4_lasts 27 = .ok (.getfield 15, 3) := by decide +kernel
theorem dX4_lasts_30 : decode cX4_lasts 30 = .ok (.getfield 32, 3) := by decide +kernel
theorem dX4_lasts_33 : decode cX4_lasts 33 = .ok (.bipush 57, 2) := by decide +kernel
theorem dX4_lasts_35 : decode cX4_lasts 35 = .ok (.iaload, 1) := by decide +kernel
theorem dX4_lasts_36 : decode cX4_lasts 36 = .ok (.ifCond .ne 7, 3) := by decide +kernel
theorem dX4_lasts_39 : decode cX4_lasts 39 = .ok (.iconst 1, 1) := by decide +kernel
theorem dX4_lasts_40 : decode cX4_lasts 40 = .ok (.goto 4, 3) := by decide +kernel
theorem dX4_lasts_43 : decode cX4_lasts 43 = .ok (.iconst 0, 1) := by decide +kernel
theorem dX4_lasts_44 : decode cX4_lasts 44 = .ok (.ireturn, 1) := by decide +kernel
def bX4_lasts_0 : List sx_S := [si_al 0, si_get 3 1, si_al 0, si_get 3 0, si_cv 2 22 1 0 0 0 0, si_al 0, si_get 3 1, si_get 2 0, si_il 1, si_il 2, si_iast, si_al 0, si_il 3, si_cv 3 48 1 0 0 0 0, si_al 0, si_get 3 1, si_get 2 0, si_const (nI 57), si_iald, si_if1 (fun x => ¬ x = 0) 43 [false, false, false, false], si_const 1, si_go 44 [false, false, false, false]]
def bX4_lasts_43 : List sx_S := [si_const 0, si_go 44 [false, false, false, false]]
def bX4_lasts_44 : List sx_S := [si_rz]
def BX4_lasts : Nat → List sx_S := fun pc => if pc = 0 then bX4_lasts_0 else if pc = 43 then bX4_lasts_43 else if pc = 44 then bX4_lasts_44 else []
set_option maxRecDepth 20000 in
theorem kX4_lasts_0 : sx_BK sx_tb yX4_lasts.cls cX4_lasts 4 (some .boolean) ({ frames := 5, cells := 0, slots := 0, locals := 111 } : Room) false false 0 (fun _ => 0) 0 (bX4_lasts_0) := ⟨_, ⟨sn_aload_n dX4_lasts_0 rfl, sm_al _⟩, ⟨_, ⟨sn_get (C := RX4) (T := TX4) (N := 2) dX4_lasts_1 rfl zinX4 (Nat.le_of_ble_eq_true rfl) zw_1_109, sm_get _ _⟩, ⟨_, ⟨sn_aload_n dX4_lasts_4 rfl, sm_al _⟩, ⟨_, ⟨sn_get (C := RX4) (T := TX4) (N := 2) dX4_lasts_5 rfl zinX4 (Nat.le_of_ble_eq_true rfl) zw_1_108, sm_get _ _⟩, ⟨_, ⟨sn_cv_v (N := 1) (T := TX2) ztb_X2_becomes dX4_lasts_8 rfl rfl zw_2_164 zw_2_41 zw_2_42 zw_1_4 zw_2_43 zmh_X2 zpd_X2_becomes (Nat.le_of_ble_eq_true rfl) (Nat.le_of_ble_eq_true rfl) rfl rfl, sm_cv _ _ _ _ _ _ _⟩, ⟨_, ⟨sn_aload_n dX4_lasts_11 rfl, sm_al _⟩, ⟨_, ⟨sn_get (C := RX4) (T := TX4) (N := 2) dX4_lasts_12 rfl zinX4 (Nat.le_of_ble_eq_true rfl) zw_1_109, sm_get _ _⟩, ⟨_, ⟨sn_get (C := RX2) (T := TX2) (N := 1) dX4_lasts_15 rfl zinX2 (Nat.le_of_ble_eq_true rfl) zw_1_78, sm_get _ _⟩, ⟨_, ⟨sn_iload_n dX4_lasts_18 rfl, sm_il _⟩, ⟨_, ⟨sn_iload_n dX4_lasts_19 rfl, sm_il _⟩, ⟨_, ⟨sn_iast dX4_lasts_20, sm_iast⟩, ⟨_, ⟨sn_aload_n dX4_lasts_21 rfl, sm_al _⟩, ⟨_, ⟨sn_iload_n dX4_lasts_22 rfl, sm_il _⟩, ⟨_, ⟨sn_cv_v (N := 2) (T := TX4) ztb_X4_pass dX4_lasts_23 rfl rfl zw_2_165 zw_2_167 zw_0_15 zw_1_6 zw_2_168 zmh_X4 zpd_X4_pass (Nat.le_of_ble_eq_true rfl) (Nat.le_of_ble_eq_true rfl) rfl rfl, sm_cv _ _ _ _ _ _ _⟩, ⟨_, ⟨sn_aload_n dX4_lasts_26 rfl, sm_al _⟩, ⟨_, ⟨sn_get (C := RX4) (T := TX4) (N := 2) dX4_lasts_27 rfl zinX4 (Nat.le_of_ble_eq_true rfl) zw_1_109, sm_get _ _⟩, ⟨_, ⟨sn_get (C := RX2) (T := TX2) (N := 1) dX4_lasts_30 rfl zinX2 (Nat.le_of_ble_eq_true rfl) zw_1_78, sm_get _ _⟩, ⟨_, ⟨sn_bipush dX4_lasts_33 (by decide +kernel), sm_const _⟩, ⟨_, ⟨sn_iald dX4_lasts_35, sm_iald⟩, ⟨_, ⟨sn_if_ne dX4_lasts_36 (by decide +kernel) rfl, sm_if1 _ _ _⟩, ⟨_, ⟨sn_iconst dX4_lasts_39 (by decide +kernel), sm_const _⟩, ⟨_, ⟨sn_goto (len := 3) dX4_lasts_40 (by decide +kernel) rfl, sm_go _ _⟩, trivial⟩⟩⟩⟩⟩⟩⟩⟩⟩⟩⟩⟩⟩⟩⟩⟩⟩⟩⟩⟩⟩⟩
set_option maxRecDepth 20000 in
theorem kX4_lasts_43 : sx_BK sx_tb yX4_lasts.cls cX4_lasts 4 (some .boolean) ({ frames := 5, cells := 0, slots := 0, locals := 111 } : Room) false false 0 (fun _ => 0) 43 (bX4_lasts_43) := ⟨_, ⟨sn_iconst dX4_lasts_43 (by decide +kernel), sm_const _⟩, ⟨_, ⟨sn_fall (len := 0) rfl rfl, sm_go _ _⟩, trivial⟩⟩
set_option maxRecDepth 20000 in
theorem kX4_lasts_44 : sx_BK sx_tb yX4_lasts.cls cX4_lasts 4 (some .boolean) ({ frames := 5, cells := 0, slots := 0, locals := 111 } : Room) false false 0 (fun _ => 0) 44 (bX4_lasts_44) := ⟨_, ⟨sn_rz (len := 1) dX4_lasts_44 rfl, sm_rz⟩, trivial⟩
theorem kX4_lasts : ∀ pc, sx_BK sx_tb yX4_lasts.cls cX4_lasts 4 (some .boolean) ({ frames := 5, cells := 0, slots := 0, locals := 111 } : Room) false false 0 (fun _ => 0) pc (BX4_lasts pc) := fun pc => sx_bk_if (kX4_lasts_0) (sx_bk_if (kX4_lasts_43) (sx_bk_if (kX4_lasts_44) (trivial)))
theorem okX4_lasts : sx_ok sx_tb BX4_lasts (yX4_lasts, cX4_lasts, 4, some .boolean, { frames := 5, cells := 0, slots := 0, locals := 111 }) := ⟨by decide, by decide +kernel, false, (fun h => by cases h), kX4_lasts⟩
theorem dX4_kindsThatPay_0 : decode cX4_kindsThatPay 0 = .ok (.iconst 0, 1) := by decide +kernel
theorem dX4_kindsThatPay_1 : decode cX4_kindsThatPay 1 = .ok (.istore 5, 2) := by decide +kernel
theorem dX4_kindsThatPay_3 : decode cX4_kindsThatPay 3 = .ok (.iconst 1, 1) := by decide +kernel
theorem dX4_kindsThatPay_4 : decode cX4_kindsThatPay 4 = .ok (.istore 6, 2) := by decide +kernel
theorem dX4_kindsThatPay_6 : decode cX4_kindsThatPay 6 = .ok (.iload 6, 2) := by decide +kernel
theorem dX4_kindsThatPay_8 : decode cX4_kindsThatPay 8 = .ok (.iconst 5, 1) := by decide +kernel
theorem dX4_kindsThatPay_9 : decode cX4_kindsThatPay 9 = .ok (.if_icmp .gt 55, 3) := by decide +kernel
theorem dX4_kindsThatPay_12 : decode cX4_kindsThatPay 12 = .ok (.aload_n 0, 1) := by decide +kernel
theorem dX4_kindsThatPay_13 : decode cX4_kindsThatPay 13 = .ok (.getfield 15, 3) := by decide +kernel
theorem dX4_kindsThatPay_16 : decode cX4_kindsThatPay 16 = .ok (.aload_n 0, 1) := by decide +kernel
theorem dX4_kindsThatPay_17 : decode cX4_kindsThatPay 17 = .ok (.getfield 9, 3) := by decide +kernel
theorem dX4_kindsThatPay_20 : decode cX4_kindsThatPay 20 = .ok (.invokevirtual 18, 3) := by decide +kernel
theorem dX4_kindsThatPay_23 : decode cX4_kindsThatPay 23 = .ok (.aload_n 0, 1) := by decide +kernel
theorem dX4_kindsThatPay_24 : decode cX4_kindsThatPay 24 = .ok (.getfield 15, 3) := by decide +kernel
theorem dX4_kindsThatPay_27 : decode cX4_kindsThatPay 27 = .ok (.getfield 32, 3) := by decide +kernel
theorem dX4_kindsThatPay_30 : decode cX4_kindsThatPay 30 = .ok (.bipush 48, 2) := by decide +kernel
theorem dX4_kindsThatPay_32 : decode cX4_kindsThatPay 32 = .ok (.iload_n 1, 1) := by decide +kernel
theorem dX4_kindsThatPay_33 : decode cX4_kindsThatPay 33 = .ok (.iadd, 1) := by decide +kernel
theorem dX4_kindsThatPay_34 : decode cX4_kindsThatPay 34 = .ok (.iload 6, 2) := by decide +kernel
theorem dX4_kindsThatPay_36 : decode cX4_kindsThatPay 36 = .ok (.iastore, 1) := by decide +kernel
theorem dX4_kindsThatPay_37 : decode cX4_kindsThatPay 37 = .ok (.aload_n 0, 1) := by decide +kernel
theorem dX4_kindsThatPay_38 : decode cX4_kindsThatPay 38 = .ok (.iload_n 1, 1) := by decide +kernel
theorem dX4_kindsThatPay_39 : decode cX4_kindsThatPay 39 = .ok (.aload_n 2, 1) := by decide +kernel
theorem dX4_kindsThatPay_40 : decode cX4_kindsThatPay 40 = .ok (.iload_n 3, 1) := by decide +kernel
theorem dX4_kindsThatPay_41 : decode cX4_kindsThatPay 41 = .ok (.iload 4, 2) := by decide +kernel
theorem dX4_kindsThatPay_43 : decode cX4_kindsThatPay 43 = .ok (.invokevirtual 57, 3) := by decide +kernel
theorem dX4_kindsThatPay_46 : decode cX4_kindsThatPay 46 = .ok (.ifCond .eq 12, 3) := by decide +kernel
theorem dX4_kindsThatPay_49 : decode cX4_kindsThatPay 49 = .ok (.iload 5, 2) := by decide +kernel
theorem dX4_kindsThatPay_51 : decode cX4_kindsThatPay 51 = .ok (.iconst 1, 1) := by decide +kernel
theorem dX4_kindsThatPay_52 : decode cX4_kindsThatPay 52 = .ok (.iload 6, 2) := by decide +kernel
theorem dX4_kindsThatPay_54 : decode cX4_kindsThatPay 54 = .ok (.ishl, 1) := by decide +kernel
theorem dX4_kindsThatPay_55 : decode cX4_kindsThatPay 55 = .ok (.ior, 1) := by decide +kernel
theorem dX4_kindsThatPay_56 : decode cX4_kindsThatPay 56 = .ok (.istore 5, 2) := by decide +kernel
theorem dX4_kindsThatPay_58 : decode cX4_kindsThatPay 58 = .ok (.iinc 6 1, 3) := by decide +kernel
theorem dX4_kindsThatPay_61 : decode cX4_kindsThatPay 61 = .ok (.goto (-55), 3) := by decide +kernel
theorem dX4_kindsThatPay_64 : decode cX4_kindsThatPay 64 = .ok (.iload 5, 2) := by decide +kernel
theorem dX4_kindsThatPay_66 : decode cX4_kindsThatPay 66 = .ok (.ireturn, 1) := by decide +kernel
def bX4_kindsThatPay_0 : List sx_S := [si_const 0, si_is 5, si_const 1, si_is 6, si_go 6 [true, true, true, true, true, true, true]]
def bX4_kindsThatPay_6 : List sx_S := [si_il 6, si_const (nI 5), si_if2 (fun x y => y < x) 64 [false, false, false, false, false, true, false], si_al 0, si_get 3 1, si_al 0, si_get 3 0, si_cv 2 22 1 0 0 0 0, si_al 0, si_get 3 1, si_get 2 0, si_const (nI 48), si_il 1, si_bin (fun x y => x + y), si_il 6, si_iast, si_al 0, si_il 1, si_al 2, si_il 3, si_il 4, si_cv 3 59 4 0 0 0 0, si_if1 (fun x => x = 0) 58 [true, true, true, true, true, true, true], si_il 5, si_const 1, si_il 6, si_bin (fun x y => x <<< (y &&& 31)), si_bin (fun x y => x ||| y), si_is 5, si_go 58 [true, true, true, true, true, true, true]]
def bX4_kindsThatPay_58 : List sx_S := [si_inc 6 1, si_go 6 [true, true, true, true, true, true, true]]
def bX4_kindsThatPay_64 : List sx_S := [si_il 5, si_ri]
def BX4_kindsThatPay : Nat → List sx_S := fun pc => if pc = 0 then bX4_kindsThatPay_0 else if pc = 6 then bX4_kindsThatPay_6 else if pc = 58 then bX4_kindsThatPay_58 else if pc = 64 then bX4_kindsThatPay_64 else []
set_option maxRecDepth 20000 in
theorem kX4_kindsThatPay_0 : sx_BK sx_tb yX4_kindsThatPay.cls cX4_kindsThatPay 7 (some .int) ({ frames := 5, cells := 0, slots := 0, locals := 115 } : Room) false false 0 (fun _ => 0) 0 (bX4_kindsThatPay_0) := ⟨_, ⟨sn_iconst dX4_kindsThatPay_0 (by decide +kernel), sm_const _⟩, ⟨_, ⟨sn_istore dX4_kindsThatPay_1 (Nat.le_of_ble_eq_true rfl), sm_is _⟩, ⟨_, ⟨sn_iconst dX4_kindsThatPay_3 (by decide +kernel), sm_const _⟩, ⟨_, ⟨sn_istore dX4_kindsThatPay_4 (Nat.le_of_ble_eq_true rfl), sm_is _⟩, ⟨_, ⟨sn_fall (len := 0) rfl rfl, sm_go _ _⟩, trivial⟩⟩⟩⟩⟩
set_option maxRecDepth 20000 in
theorem kX4_kindsThatPay_6 : sx_BK sx_tb yX4_kindsThatPay.cls cX4_kindsThatPay 7 (some .int) ({ frames := 5, cells := 0, slots := 0, locals := 115 } : Room) false false 0 (fun _ => 0) 6 (bX4_kindsThatPay_6) := ⟨_, ⟨sn_iload dX4_kindsThatPay_6, sm_il _⟩, ⟨_, ⟨sn_iconst dX4_kindsThatPay_8 (by decide +kernel), sm_const _⟩, ⟨_, ⟨sn_ic_gt dX4_kindsThatPay_9 (by decide +kernel) rfl, sm_if2 _ _ _⟩, ⟨_, ⟨sn_aload_n dX4_kindsThatPay_12 rfl, sm_al _⟩, ⟨_, ⟨sn_get (C := RX4) (T := TX4) (N := 2) dX4_kindsThatPay_13 rfl zinX4 (Nat.le_of_ble_eq_true rfl) zw_1_109, sm_get _ _⟩, ⟨_, ⟨sn_aload_n dX4_kindsThatPay_16 rfl, sm_al _⟩, ⟨_, ⟨sn_get (C := RX4) (T := TX4) (N := 2) dX4_kindsThatPay_17 rfl zinX4 (Nat.le_of_ble_eq_true rfl) zw_1_108, sm_get _ _⟩, ⟨_, ⟨sn_cv_v (N := 1) (T := TX2) ztb_X2_becomes dX4_kindsThatPay_20 rfl rfl zw_2_164 zw_2_41 zw_2_42 zw_1_4 zw_2_43 zmh_X2 zpd_X2_becomes (Nat.le_of_ble_eq_true rfl) (Nat.le_of_ble_eq_true rfl) rfl rfl, sm_cv _ _ _ _ _ _ _⟩, ⟨_, ⟨sn_aload_n dX4_kindsThatPay_23 rfl, sm_al _⟩, ⟨_, ⟨sn_get (C := RX4) (T := TX4) (N := 2) dX4_kindsThatPay_24 rfl zinX4 (Nat.le_of_ble_eq_true rfl) zw_1_109, sm_get _ _⟩, ⟨_, ⟨sn_get (C := RX2) (T := TX2) (N := 1) dX4_kindsThatPay_27 rfl zinX2 (Nat.le_of_ble_eq_true rfl) zw_1_78, sm_get _ _⟩, ⟨_, ⟨sn_bipush dX4_kindsThatPay_30 (by decide +kernel), sm_const _⟩, ⟨_, ⟨sn_iload_n dX4_kindsThatPay_32 rfl, sm_il _⟩, ⟨_, ⟨sn_iadd dX4_kindsThatPay_33, sm_bin _⟩, ⟨_, ⟨sn_iload dX4_kindsThatPay_34, sm_il _⟩, ⟨_, ⟨sn_iast dX4_kindsThatPay_36, sm_iast⟩, ⟨_, ⟨sn_aload_n dX4_kindsThatPay_37 rfl, sm_al _⟩, ⟨_, ⟨sn_iload_n dX4_kindsThatPay_38 rfl, sm_il _⟩, ⟨_, ⟨sn_aload_n dX4_kindsThatPay_39 rfl, sm_al _⟩, ⟨_, ⟨sn_iload_n dX4_kindsThatPay_40 rfl, sm_il _⟩, ⟨_, ⟨sn_iload dX4_kindsThatPay_41, sm_il _⟩, ⟨_, ⟨sn_cv_z (N := 2) (T := TX4) ztb_X4_paysAsTold dX4_kindsThatPay_43 rfl rfl zw_3_15 zw_3_17 zw_0_19 zw_1_6 zw_3_18 zmh_X4 zpd_X4_paysAsTold (Nat.le_of_ble_eq_true rfl) (Nat.le_of_ble_eq_true rfl) rfl rfl, sm_cv _ _ _ _ _ _ _⟩, ⟨_, ⟨sn_if_eq dX4_kindsThatPay_46 (by decide +kernel) rfl, sm_if1 _ _ _⟩, ⟨_, ⟨sn_iload dX4_kindsThatPay_49, sm_il _⟩, ⟨_, ⟨sn_iconst dX4_kindsThatPay_51 (by decide +kernel), sm_const _⟩, ⟨_, ⟨sn_iload dX4_kindsThatPay_52, sm_il _⟩, ⟨_, ⟨sn_ishl dX4_kindsThatPay_54, sm_bin _⟩, ⟨_, ⟨sn_ior dX4_kindsThatPay_55, sm_bin _⟩, ⟨_, ⟨sn_istore dX4_kindsThatPay_56 (Nat.le_of_ble_eq_true rfl), sm_is _⟩, ⟨_, ⟨sn_fall (len := 0) rfl rfl, sm_go _ _⟩, trivial⟩⟩⟩⟩⟩⟩⟩⟩⟩⟩⟩⟩⟩⟩⟩⟩⟩⟩⟩⟩⟩⟩⟩⟩⟩⟩⟩⟩⟩⟩
set_option maxRecDepth 20000 in
theorem kX4_kindsThatPay_58 : sx_BK sx_tb yX4_kindsThatPay.cls cX4_kindsThatPay 7 (some .int) ({ frames := 5, cells := 0, slots := 0, locals := 115 } : Room) false false 0 (fun _ => 0) 58 (bX4_kindsThatPay_58) := ⟨_, ⟨sn_iinc dX4_kindsThatPay_58 (by decide +kernel) (Nat.le_of_ble_eq_true rfl), sm_inc _ _⟩, ⟨_, ⟨sn_goto (len := 3) dX4_kindsThatPay_61 (by decide +kernel) rfl, sm_go _ _⟩, trivial⟩⟩
set_option maxRecDepth 20000 in
theorem kX4_kindsThatPay_64 : sx_BK sx_tb yX4_kindsThatPay.cls cX4_kindsThatPay 7 (some .int) ({ frames := 5, cells := 0, slots := 0, locals := 115 } : Room) false false 0 (fun _ => 0) 64 (bX4_kindsThatPay_64) := ⟨_, ⟨sn_iload dX4_kindsThatPay_64, sm_il _⟩, ⟨_, ⟨sn_ri (len := 1) dX4_kindsThatPay_66 rfl, sm_ri⟩, trivial⟩⟩
theorem kX4_kindsThatPay : ∀ pc, sx_BK sx_tb yX4_kindsThatPay.cls cX4_kindsThatPay 7 (some .int) ({ frames := 5, cells := 0, slots := 0, locals := 115 } : Room) false false 0 (fun _ => 0) pc (BX4_kindsThatPay pc) := fun pc => sx_bk_if (kX4_kindsThatPay_0) (sx_bk_if (kX4_kindsThatPay_6) (sx_bk_if (kX4_kindsThatPay_58) (sx_bk_if (kX4_kindsThatPay_64) (trivial))))
theorem okX4_kindsThatPay : sx_ok sx_tb BX4_kindsThatPay (yX4_kindsThatPay, cX4_kindsThatPay, 7, some .int, { frames := 5, cells := 0, slots := 0, locals := 115 }) := ⟨by decide, by decide +kernel, false, (fun h => by cases h), kX4_kindsThatPay⟩
theorem dX4_paysAsTold_0 : decode cX4_paysAsTold 0 = .ok (.iconst 0, 1) := by decide +kernel
theorem dX4_paysAsTold_1 : decode cX4_paysAsTold 1 = .ok (.istore 5, 2) := by decide +kernel
theorem dX4_paysAsTold_3 : decode cX4_paysAsTold 3 = .ok (.iload 5, 2) := by decide +kernel
theorem dX4_paysAsTold_5 : decode cX4_paysAsTold 5 = .ok (.iload 4, 2) := by decide +kernel
theorem dX4_paysAsTold_7 : decode cX4_paysAsTold 7 = .ok (.if_icmp .ge 57, 3) := by decide +kernel
theorem dX4_paysAsTold_10 : decode cX4_paysAsTold 10 = .ok (.aload_n 0, 1) := by decide +kernel
theorem dX4_paysAsTold_11 : decode cX4_paysAsTold 11 = .ok (.getfield 15, 3) := by decide +kernel
theorem dX4_paysAsTold_14 : decode cX4_paysAsTold 14 = .ok (.getfield 32, 3) := by decide +kernel
theorem dX4_paysAsTold_17 : decode cX4_paysAsTold 17 = .ok (.bipush 36, 2) := by decide +kernel
theorem dX4_paysAsTold_19 : decode cX4_paysAsTold 19 = .ok (.iload_n 1, 1) := by decide +kernel
theorem dX4_paysAsTold_20 : decode cX4_paysAsTold 20 = .ok (.iadd, 1) := by decide +kernel
theorem dX4_paysAsTold_21 : decode cX4_paysAsTold 21 = .ok (.iaload, 1) := by decide +kernel
theorem dX4_paysAsTold_22 : decode cX4_paysAsTold 22 = .ok (.istore 6, 2) := by decide +kernel
theorem dX4_paysAsTold_24 : decode cX4_paysAsTold 24 = .ok (.aload_n 0, 1) := by decide +kernel
theorem dX4_paysAsTold_25 : decode cX4_paysAsTold 25 = .ok (.getfield 15, 3) := by decide +kernel
theorem dX4_paysAsTold_28 : decode cX4_paysAsTold 28 = .ok (.invokevirtual 28, 3) := by decide +kernel
theorem dX4_paysAsTold_31 : decode cX4_paysAsTold 31 = .ok (.pop, 1) := by decide +kernel
theorem dX4_paysAsTold_32 : decode cX4_paysAsTold 32 = .ok (.aload_n 0, 1) := by decide +kernel
theorem dX4_paysAsTold_33 : decode cX4_paysAsTold 33 = .ok (.getfield 15, 3) := by decide +kernel
theorem dX4_paysAsTold_36 : decode cX4_paysAsTold 36 = .ok (.getfield 32, 3) := by decide +kernel
theorem dX4_paysAsTold_39 : decode cX4_paysAsTold 39 = .ok (.bipush 36, 2) := by decide +kernel
theorem dX4_paysAsTold_41 : decode cX4_paysAsTold 41 = .ok (.iload_n 1, 1) := by decide +kernel
theorem dX4_paysAsTold_42 : decode cX4_paysAsTold 42 = .ok (.iadd, 1) := by decide +kernel
theorem dX4_paysAsTold_43 : decode cX4_paysAsTold 43 = .ok (.iaload, 1) := by decide +kernel
theorem dX4_paysAsTold_44 : decode cX4_paysAsTold 44 = .ok (.iload 6, 2) := by decide +kernel
theorem dX4_paysAsTold_46 : decode cX4_paysAsTold 46 = .ok (.isub, 1) := by decide +kernel
theorem dX4_paysAsTold_47 : decode cX4_paysAsTold 47 = .ok (.aload_n 2, 1) := by decide +kernel
theorem dX4_paysAsTold_48 : decode cX4_paysAsTold 48 = .ok (.iload_n 3, 1) := by decide +kernel
theorem dX4_paysAsTold_49 : decode cX4_paysAsTold 49 = .ok (.iload 5, 2) := by decide +kernel
theorem dX4_paysAsTold_51 : decode cX4_paysAsTold 51 = .ok (.iadd, 1) := by decide +kernel
theorem dX4_paysAsTold_52 : decode cX4_paysAsTold 52 = .ok (.iaload, 1) := by decide +kernel
theorem dX4_paysAsTold_53 : decode cX4_paysAsTold 53 = .ok (.if_icmp .eq 5, 3) := by decide +kernel
theorem dX4_paysAsTold_56 : decode cX4_paysAsTold 56 = .ok (.iconst 0, 1) := by decide +kernel
theorem dX4_paysAsTold_57 : decode cX4_paysAsTold 57 = .ok (.ireturn, 1) := by decide +kernel
theorem dX4_paysAsTold_58 : decode cX4_paysAsTold 58 = .ok (.iinc 5 1, 3) := by decide +kernel
theorem dX4_paysAsTold_61 : decode cX4_paysAsTold 61 = .ok (.goto (-58), 3) := by decide +kernel
theorem dX4_paysAsTold_64 : decode cX4_paysAsTold 64 = .ok (.iconst 1, 1) := by decide +kernel
theorem dX4_paysAsTold_65 : decode cX4_paysAsTold 65 = .ok (.ireturn, 1) := by decide +kernel
def bX4_paysAsTold_0 : List sx_S := [si_const 0, si_is 5, si_go 3 [true, true, true, true, true, true, false]]
def bX4_paysAsTold_3 : List sx_S := [si_il 5, si_il 4, si_if2 (fun x y => y ≤ x) 64 [false, false, false, false, false, false, false], si_al 0, si_get 3 1, si_get 2 0, si_const (nI 36), si_il 1, si_bin (fun x y => x + y), si_iald, si_is 6, si_al 0, si_get 3 1, si_cv 2 28 0 0 0 0 0, si_pop, si_al 0, si_get 3 1, si_get 2 0, si_const (nI 36), si_il 1, si_bin (fun x y => x + y), si_iald, si_il 6, si_bin (fun x y => x - y), si_al 2, si_il 3, si_il 5, si_bin (fun x y => x + y), si_iald, si_if2 (fun x y => x = y) 58 [true, true, true, true, true, true, false], si_const 0, si_rz]
def bX4_paysAsTold_58 : List sx_S := [si_inc 5 1, si_go 3 [true, true, true, true, true, true, false]]
def bX4_paysAsTold_64 : List sx_S := [si_const 1, si_rz]
def BX4_paysAsTold : Nat → List sx_S := fun pc => if pc = 0 then bX4_paysAsTold_0 else if pc = 3 then bX4_paysAsTold_3 else if pc = 58 then bX4_paysAsTold_58 else if pc = 64 then bX4_paysAsTold_64 else []
set_option maxRecDepth 20000 in
theorem kX4_paysAsTold_0 : sx_BK sx_tb yX4_paysAsTold.cls cX4_paysAsTold 7 (some .boolean) ({ frames := 4, cells := 0, slots := 0, locals := 89 } : Room) false false 0 (fun _ => 0) 0 (bX4_paysAsTold_0) := ⟨_, ⟨sn_iconst dX4_paysAsTold_0 (by decide +kernel), sm_const _⟩, ⟨_, ⟨sn_istore dX4_paysAsTold_1 (Nat.le_of_ble_eq_true rfl), sm_is _⟩, ⟨_, ⟨sn_fall (len := 0) rfl rfl, sm_go _ _⟩, trivial⟩⟩⟩
set_option maxRecDepth 20000 in
theorem kX4_paysAsTold_3 : sx_BK sx_tb yX4_paysAsTold.cls cX4_paysAsTold 7 (some .boolean) ({ frames := 4, cells := 0, slots := 0, locals := 89 } : Room) false false 0 (fun _ => 0) 3 (bX4_paysAsTold_3) := ⟨_, ⟨sn_iload dX4_paysAsTold_3, sm_il _⟩, ⟨_, ⟨sn_iload dX4_paysAsTold_5, sm_il _⟩, ⟨_, ⟨sn_ic_ge dX4_paysAsTold_7 (by decide +kernel) rfl, sm_if2 _ _ _⟩, ⟨_, ⟨sn_aload_n dX4_paysAsTold_10 rfl, sm_al _⟩, ⟨_, ⟨sn_get (C := RX4) (T := TX4) (N := 2) dX4_paysAsTold_11 rfl zinX4 (Nat.le_of_ble_eq_true rfl) zw_1_109, sm_get _ _⟩, ⟨_, ⟨sn_get (C := RX2) (T := TX2) (N := 1) dX4_paysAsTold_14 rfl zinX2 (Nat.le_of_ble_eq_true rfl) zw_1_78, sm_get _ _⟩, ⟨_, ⟨sn_bipush dX4_paysAsTold_17 (by decide +kernel), sm_const _⟩, ⟨_, ⟨sn_iload_n dX4_paysAsTold_19 rfl, sm_il _⟩, ⟨_, ⟨sn_iadd dX4_paysAsTold_20, sm_bin _⟩, ⟨_, ⟨sn_iald dX4_paysAsTold_21, sm_iald⟩, ⟨_, ⟨sn_istore dX4_paysAsTold_22 (Nat.le_of_ble_eq_true rfl), sm_is _⟩, ⟨_, ⟨sn_aload_n dX4_paysAsTold_24 rfl, sm_al _⟩, ⟨_, ⟨sn_get (C := RX4) (T := TX4) (N := 2) dX4_paysAsTold_25 rfl zinX4 (Nat.le_of_ble_eq_true rfl) zw_1_109, sm_get _ _⟩, ⟨_, ⟨sn_cv_i (N := 1) (T := TX2) ztb_X2_passWeek dX4_paysAsTold_28 rfl rfl zw_2_169 zw_2_80 zw_2_81 zw_1_4 zw_2_82 zmh_X2 zpd_X2_passWeek (Nat.le_of_ble_eq_true rfl) (Nat.le_of_ble_eq_true rfl) rfl rfl, sm_cv _ _ _ _ _ _ _⟩, ⟨_, ⟨sn_pop dX4_paysAsTold_31, sm_pop⟩, ⟨_, ⟨sn_aload_n dX4_paysAsTold_32 rfl, sm_al _⟩, ⟨_, ⟨sn_get (C := RX4) (T := TX4) (N := 2) dX4_paysAsTold_33 rfl zinX4 (Nat.le_of_ble_eq_true rfl) zw_1_109, sm_get _ _⟩, ⟨_, ⟨sn_get (C := RX2) (T := TX2) (N := 1) dX4_paysAsTold_36 rfl zinX2 (Nat.le_of_ble_eq_true rfl) zw_1_78, sm_get _ _⟩, ⟨_, ⟨sn_bipush dX4_paysAsTold_39 (by decide +kernel), sm_const _⟩, ⟨_, ⟨sn_iload_n dX4_paysAsTold_41 rfl, sm_il _⟩, ⟨_, ⟨sn_iadd dX4_paysAsTold_42, sm_bin _⟩, ⟨_, ⟨sn_iald dX4_paysAsTold_43, sm_iald⟩, ⟨_, ⟨sn_iload dX4_paysAsTold_44, sm_il _⟩, ⟨_, ⟨sn_isub dX4_paysAsTold_46, sm_bin _⟩, ⟨_, ⟨sn_aload_n dX4_paysAsTold_47 rfl, sm_al _⟩, ⟨_, ⟨sn_iload_n dX4_paysAsTold_48 rfl, sm_il _⟩, ⟨_, ⟨sn_iload dX4_paysAsTold_49, sm_il _⟩, ⟨_, ⟨sn_iadd dX4_paysAsTold_51, sm_bin _⟩, ⟨_, ⟨sn_iald dX4_paysAsTold_52, sm_iald⟩, ⟨_, ⟨sn_ic_eq dX4_paysAsTold_53 (by decide +kernel) rfl, sm_if2 _ _ _⟩, ⟨_, ⟨sn_iconst dX4_paysAsTold_56 (by decide +kernel), sm_const _⟩, ⟨_, ⟨sn_rz (len := 1) dX4_paysAsTold_57 rfl, sm_rz⟩, trivial⟩⟩⟩⟩⟩⟩⟩⟩⟩⟩⟩⟩⟩⟩⟩⟩⟩⟩⟩⟩⟩⟩⟩⟩⟩⟩⟩⟩⟩⟩⟩⟩
set_option maxRecDepth 20000 in
theorem kX4_paysAsTold_58 : sx_BK sx_tb yX4_paysAsTold.cls cX4_paysAsTold 7 (some .boolean) ({ frames := 4, cells := 0, slots := 0, locals := 89 } : Room) false false 0 (fun _ => 0) 58 (bX4_paysAsTold_58) := ⟨_, ⟨sn_iinc dX4_paysAsTold_58 (by decide +kernel) (Nat.le_of_ble_eq_true rfl), sm_inc _ _⟩, ⟨_, ⟨sn_goto (len := 3) dX4_paysAsTold_61 (by decide +kernel) rfl, sm_go _ _⟩, trivial⟩⟩
set_option maxRecDepth 20000 in
theorem kX4_paysAsTold_64 : sx_BK sx_tb yX4_paysAsTold.cls cX4_paysAsTold 7 (some .boolean) ({ frames := 4, cells := 0, slots := 0, locals := 89 } : Room) false false 0 (fun _ => 0) 64 (bX4_paysAsTold_64) := ⟨_, ⟨sn_iconst dX4_paysAsTold_64 (by decide +kernel), sm_const _⟩, ⟨_, ⟨sn_rz (len := 1) dX4_paysAsTold_65 rfl, sm_rz⟩, trivial⟩⟩
theorem kX4_paysAsTold : ∀ pc, sx_BK sx_tb yX4_paysAsTold.cls cX4_paysAsTold 7 (some .boolean) ({ frames := 4, cells := 0, slots := 0, locals := 89 } : Room) false false 0 (fun _ => 0) pc (BX4_paysAsTold pc) := fun pc => sx_bk_if (kX4_paysAsTold_0) (sx_bk_if (kX4_paysAsTold_3) (sx_bk_if (kX4_paysAsTold_58) (sx_bk_if (kX4_paysAsTold_64) (trivial))))
theorem okX4_paysAsTold : sx_ok sx_tb BX4_paysAsTold (yX4_paysAsTold, cX4_paysAsTold, 7, some .boolean, { frames := 4, cells := 0, slots := 0, locals := 89 }) := ⟨by decide, by decide +kernel, false, (fun h => by cases h), kX4_paysAsTold⟩
theorem dX4_idleWeeks_0 : decode cX4_idleWeeks 0 = .ok (.aload_n 0, 1) := by decide +kernel
theorem dX4_idleWeeks_1 : decode cX4_idleWeeks 1 = .ok (.getfield 15, 3) := by decide +kernel
theorem dX4_idleWeeks_4 : decode cX4_idleWeeks 4 = .ok (.aload_n 0, 1) := by decide +kernel
theorem dX4_idleWeeks_5 : decode cX4_idleWeeks 5 = .ok (.getfield 9, 3) := by decide +kernel
theorem dX4_idleWeeks_8 : decode cX4_idleWeeks 8 = .ok (.invokevirtual 18, 3) := by decide +kernel
theorem dX4_idleWeeks_11 : decode cX4_idleWeeks 11 = .ok (.iload_n 2, 1) := by decide +kernel
theorem dX4_idleWeeks_12 : decode cX4_idleWeeks 12 = .ok (.i2l, 1) := by decide +kernel
theorem dX4_idleWeeks_13 : decode cX4_idleWeeks 13 = .ok (.lstore_n 3, 1) := by decide +kernel
theorem dX4_idleWeeks_14 : decode cX4_idleWeeks 14 = .ok (.iconst 0, 1) := by decide +kernel
theorem dX4_idleWeeks_15 : decode cX4_idleWeeks 15 = .ok (.istore 5, 2) := by decide +kernel
theorem dX4_idleWeeks_17 : decode cX4_idleWeeks 17 = .ok (.iconst 0, 1) := by decide +kernel
theorem dX4_idleWeeks_18 : decode cX4_idleWeeks 18 = .ok (.istore 6, 2) := by decide +kernel
theorem dX4_idleWeeks_20 : decode cX4_idleWeeks 20 = .ok (.iload 6, 2) := by decide +kernel
theorem dX4_idleWeeks_22 : decode cX4_idleWeeks 22 = .ok (.iload_n 1, 1) := by decide +kernel
theorem dX4_idleWeeks_23 : decode cX4_idleWeeks 23 = .ok (.if_icmp .ge 73, 3) := by decide +kernel
theorem dX4_idleWeeks_26 : decode cX4_idleWeeks 26 = .ok (.lload_n 3, 1) := by decide +kernel
theorem dX4_idleWeeks_27 : decode cX4_idleWeeks 27 = .ok (.ldc2_w 61, 3) := by decide +kernel
theorem dX4_idleWeeks_30 : decode cX4_idleWeeks 30 = .ok (.lmul, 1) := by decide +kernel
theorem dX4_idleWeeks_31 : decode cX4_idleWeeks 31 = .ok (.ldc2_w 63, 3) := by decide +kernel
theorem dX4_idleWeeks_34 : decode cX4_idleWeeks 34 = .ok (.lrem, 1) := by decide +kernel
theorem dX4_idleWeeks_35 : decode cX4_idleWeeks 35 = .ok (.lstore_n 3, 1) := by decide +kernel
theorem dX4_idleWeeks_36 : decode cX4_idleWeeks 36 = .ok (.lload_n 3, 1) := by decide +kernel
theorem dX4_idleWeeks_37 : decode cX4_idleWeeks 37 = .ok (.ldc2_w 65, 3) := by decide +kernel
theorem dX4_idleWeeks_40 : decode cX4_idleWeeks 40 = .ok (.lrem, 1) := by decide +kernel
theorem dX4_idleWeeks_41 : decode cX4_idleWeeks 41 = .ok (.lconst 0, 1) := by decide +kernel
theorem dX4_idleWeeks_42 : decode cX4_idleWeeks 42 = .ok (.lcmp, 1) := by decide +kernel
theorem dX4_idleWeeks_43 : decode cX4_idleWeeks 43 = .ok (.ifCond .ne 34, 3) := by decide +kernel
theorem dX4_idleWeeks_46 : decode cX4_idleWeeks 46 = .ok (.aload_n 0, 1) := by decide +kernel
theorem dX4_idleWeeks_47 : decode cX4_idleWeeks 47 = .ok (.getfield 15, 3) := by decide +kernel
theorem dX4_idleWeeks_50 : decode cX4_idleWeeks 50 = .ok (.getfield 32, 3) := by decide +kernel
theorem dX4_idleWeeks_53 : decode cX4_idleWeeks 53 = .ok (.bipush 56, 2) := by decide +kernel
theorem dX4_idleWeeks_55 : decode cX4_idleWeeks 55 = .ok (.iaload, 1) := by decide +kernel
theorem dX4_idleWeeks_56 : decode cX4_idleWeeks 56 = .ok (.ifCond .ne 21, 3) := by decide +kernel
theorem dX4_idleWeeks_59 : decode cX4_idleWeeks 59 = .ok (.aload_n 0, 1) := by decide +kernel
theorem dX4_idleWeeks_60 : decode cX4_idleWeeks 60 = .ok (.getfield 15, 3) := by decide +kernel
theorem dX4_idleWeeks_63 : decode cX4_idleWeeks 63 = .ok (.getfield 32, 3) := by decide +kernel
theorem dX4_idleWeeks_66 : decode cX4_idleWeeks 66 = .ok (.bipush 56, 2) := by decide +kernel
theorem dX4_idleWeeks_68 : decode cX4_idleWeeks 68 = .ok (.lload_n 3, 1) := by decide +kernel
theorem dX4_idleWeeks_69 : decode cX4_idleWeeks 69 = .ok (.ldc2_w 67, 3) := by decide +kernel
theorem dX4_idleWeeks_72 : decode cX4_idleWeeks 72 = .ok (.lrem, 1) := by decide +kernel
theorem dX4_idleWeeks_73 : decode cX4_idleWeeks 73 = .ok (.l2i, 1) := by decide +kernel
theorem dX4_idleWeeks_74 : decode cX4_idleWeeks 74 = .ok (.iconst 1, 1) := by decide +kernel
theorem dX4_idleWeeks_75 : decode cX4_idleWeeks 75 = .ok (.iadd, 1) := by decide +kernel
theorem dX4_idleWeeks_76 : decode cX4_idleWeeks 76 = .ok (.iastore, 1) := by decide +kernel
theorem dX4_idleWeeks_77 : decode cX4_idleWeeks 77 = .ok (.aload_n 0, 1) := by decide +kernel
theorem dX4_idleWeeks_78 : decode cX4_idleWeeks 78 = .ok (.getfield 15, 3) := by decide +kernel
theorem dX4_idleWeeks_81 : decode cX4_idleWeeks 81 = .ok (.invokevirtual 28, 3) := by decide +kernel
theorem dX4_idleWeeks_84 : decode cX4_idleWeeks 84 = .ok (.ifCond .ne 6, 3) := by decide +kernel
theorem dX4_idleWeeks_87 : decode cX4_idleWeeks 87 = .ok (.iinc 5 1, 3) := by decide +kernel
theorem dX4_idleWeeks_90 : decode cX4_idleWeeks 90 = .ok (.iinc 6 1, 3) := by decide +kernel
theorem dX4_idleWeeks_93 : decode cX4_idleWeeks 93 = .ok (.goto (-73), 3) := by decide +kernel
theorem dX4_idleWeeks_96 : decode cX4_idleWeeks 96 = .ok (.iload 5, 2) := by decide +kernel
theorem dX4_idleWeeks_98 : decode cX4_idleWeeks 98 = .ok (.ireturn, 1) := by decide +kernel
def bX4_idleWeeks_0 : List sx_S := [si_al 0, si_get 3 1, si_al 0, si_get 3 0, si_cv 2 22 1 0 0 0 0, si_il 2, si_i2l, si_ls 3, si_const 0, si_is 5, si_const 0, si_is 6, si_go 20 [true, true, false, true, false, true, true]]
def bX4_idleWeeks_20 : List sx_S := [si_il 6, si_il 1, si_if2 (fun x y => y ≤ x) 96 [false, false, false, false, false, true, false], si_ll 3, si_lconst (lN 16807), si_lbin (fun x y => x * y), si_lconst (lN 2147483647), si_ldiv (fun x y => x - x / y * y), si_ls 3, si_ll 3, si_lconst (lN 10), si_ldiv (fun x y => x - x / y * y), si_lconst 0, si_lcmp, si_if1 (fun x => ¬ x = 0) 77 [true, true, false, true, false, true, true], si_al 0, si_get 3 1, si_get 2 0, si_const (nI 56), si_iald, si_if1 (fun x => ¬ x = 0) 77 [true, true, false, true, false, true, true], si_al 0, si_get 3 1, si_get 2 0, si_const (nI 56), si_ll 3, si_lconst (lN 5), si_ldiv (fun x y => x - x / y * y), si_l2i, si_const 1, si_bin (fun x y => x + y), si_iast, si_go 77 [true, true, false, true, false, true, true]]
def bX4_idleWeeks_77 : List sx_S := [si_al 0, si_get 3 1, si_cv 2 28 0 0 0 0 0, si_if1 (fun x => ¬ x = 0) 90 [true, true, false, true, false, true, true], si_inc 5 1, si_go 90 [true, true, false, true, false, true, true]]
def bX4_idleWeeks_90 : List sx_S := [si_inc 6 1, si_go 20 [true, true, false, true, false, true, true]]
def bX4_idleWeeks_96 : List sx_S := [si_il 5, si_ri]
def BX4_idleWeeks : Nat → List sx_S := fun pc => if pc = 0 then bX4_idleWeeks_0 else if pc = 20 then bX4_idleWeeks_20 else if pc = 77 then bX4_idleWeeks_77 else if pc = 90 then bX4_idleWeeks_90 else if pc = 96 then bX4_idleWeeks_96 else []
set_option maxRecDepth 20000 in
theorem kX4_idleWeeks_0 : sx_BK sx_tb yX4_idleWeeks.cls cX4_idleWeeks 7 (some .int) ({ frames := 4, cells := 0, slots := 0, locals := 89 } : Room) false false 0 (fun _ => 0) 0 (bX4_idleWeeks_0) := ⟨_, ⟨sn_aload_n dX4_idleWeeks_0 rfl, sm_al _⟩, ⟨_, ⟨sn_get (C := RX4) (T := TX4) (N := 2) dX4_idleWeeks_1 rfl zinX4 (Nat.le_of_ble_eq_true rfl) zw_1_109, sm_get _ _⟩, ⟨_, ⟨sn_aload_n dX4_idleWeeks_4 rfl, sm_al _⟩, ⟨_, ⟨sn_get (C := RX4) (T := TX4) (N := 2) dX4_idleWeeks_5 rfl zinX4 (Nat.le_of_ble_eq_true rfl) zw_1_108, sm_get _ _⟩, ⟨_, ⟨sn_cv_v (N := 1) (T := TX2) ztb_X2_becomes dX4_idleWeeks_8 rfl rfl zw_2_164 zw_2_41 zw_2_42 zw_1_4 zw_2_43 zmh_X2 zpd_X2_becomes (Nat.le_of_ble_eq_true rfl) (Nat.le_of_ble_eq_true rfl) rfl rfl, sm_cv _ _ _ _ _ _ _⟩, ⟨_, ⟨sn_iload_n dX4_idleWeeks_11 rfl, sm_il _⟩, ⟨_, ⟨sn_i2l dX4_idleWeeks_12, sm_i2l⟩, ⟨_, ⟨sn_lstore_n dX4_idleWeeks_13 rfl (Nat.le_of_ble_eq_true rfl), sm_ls _⟩, ⟨_, ⟨sn_iconst dX4_idleWeeks_14 (by decide +kernel), sm_const _⟩, ⟨_, ⟨sn_istore dX4_idleWeeks_15 (Nat.le_of_ble_eq_true rfl), sm_is _⟩, ⟨_, ⟨sn_iconst dX4_idleWeeks_17 (by decide +kernel), sm_const _⟩, ⟨_, ⟨sn_istore dX4_idleWeeks_18 (Nat.le_of_ble_eq_true rfl), sm_is _⟩, ⟨_, ⟨sn_fall (len := 0) rfl rfl, sm_go _ _⟩, trivial⟩⟩⟩⟩⟩⟩⟩⟩⟩⟩⟩⟩⟩
set_option maxRecDepth 20000 in
theorem kX4_idleWeeks_20 : sx_BK sx_tb yX4_idleWeeks.cls cX4_idleWeeks 7 (some .int) ({ frames := 4, cells := 0, slots := 0, locals := 89 } : Room) false false 0 (fun _ => 0) 20 (bX4_idleWeeks_20) := ⟨_, ⟨sn_iload dX4_idleWeeks_20, sm_il _⟩, ⟨_, ⟨sn_iload_n dX4_idleWeeks_22 rfl, sm_il _⟩, ⟨_, ⟨sn_ic_ge dX4_idleWeeks_23 (by decide +kernel) rfl, sm_if2 _ _ _⟩, ⟨_, ⟨sn_lload_n dX4_idleWeeks_26 rfl, sm_ll _⟩, ⟨_, ⟨sn_ldc2 dX4_idleWeeks_27 zw_3_64, sm_lconst _⟩, ⟨_, ⟨sn_lmul dX4_idleWeeks_30, sm_lbin _⟩, ⟨_, ⟨sn_ldc2 dX4_idleWeeks_31 zw_3_65, sm_lconst _⟩, ⟨_, ⟨sn_lrem dX4_idleWeeks_34, sm_ldiv _⟩, ⟨_, ⟨sn_lstore_n dX4_idleWeeks_35 rfl (Nat.le_of_ble_eq_true rfl), sm_ls _⟩, ⟨_, ⟨sn_lload_n dX4_idleWeeks_36 rfl, sm_ll _⟩, ⟨_, ⟨sn_ldc2 dX4_idleWeeks_37 zw_3_66, sm_lconst _⟩, ⟨_, ⟨sn_lrem dX4_idleWeeks_40, sm_ldiv _⟩, ⟨_, ⟨sn_lconst dX4_idleWeeks_41 (by decide +kernel), sm_lconst _⟩, ⟨_, ⟨sn_lcmp dX4_idleWeeks_42, sm_lcmp⟩, ⟨_, ⟨sn_if_ne dX4_idleWeeks_43 (by decide +kernel) rfl, sm_if1 _ _ _⟩, ⟨_, ⟨sn_aload_n dX4_idleWeeks_46 rfl, sm_al _⟩, ⟨_, ⟨sn_get (C := RX4) (T := TX4) (N := 2) dX4_idleWeeks_47 rfl zinX4 (Nat.le_of_ble_eq_true rfl) zw_1_109, sm_get _ _⟩, ⟨_, ⟨sn_get (C := RX2) (T := TX2) (N := 1) dX4_idleWeeks_50 rfl zinX2 (Nat.le_of_ble_eq_true rfl) zw_1_78, sm_get _ _⟩, ⟨_, ⟨sn_bipush dX4_idleWeeks_53 (by decide +kernel), sm_const _⟩, ⟨_, ⟨sn_iald dX4_idleWeeks_55, sm_iald⟩, ⟨_, ⟨sn_if_ne dX4_idleWeeks_56 (by decide +kernel) rfl, sm_if1 _ _ _⟩, ⟨_, ⟨sn_aload_n dX4_idleWeeks_59 rfl, sm_al _⟩, ⟨_, ⟨sn_get (C := RX4) (T := TX4) (N := 2) dX4_idleWeeks_60 rfl zinX4 (Nat.le_of_ble_eq_true rfl) zw_1_109, sm_get _ _⟩, ⟨_, ⟨sn_get (C := RX2) (T := TX2) (N := 1) dX4_idleWeeks_63 rfl zinX2 (Nat.le_of_ble_eq_true rfl) zw_1_78, sm_get _ _⟩, ⟨_, ⟨sn_bipush dX4_idleWeeks_66 (by decide +kernel), sm_const _⟩, ⟨_, ⟨sn_lload_n dX4_idleWeeks_68 rfl, sm_ll _⟩, ⟨_, ⟨sn_ldc2 dX4_idleWeeks_69 zw_3_67, sm_lconst _⟩, ⟨_, ⟨sn_lrem dX4_idleWeeks_72, sm_ldiv _⟩, ⟨_, ⟨sn_l2i dX4_idleWeeks_73, sm_l2i⟩, ⟨_, ⟨sn_iconst dX4_idleWeeks_74 (by decide +kernel), sm_const _⟩, ⟨_, ⟨sn_iadd dX4_idleWeeks_75, sm_bin _⟩, ⟨_, ⟨sn_iast dX4_idleWeeks_76, sm_iast⟩, ⟨_, ⟨sn_fall (len := 0) rfl rfl, sm_go _ _⟩, trivial⟩⟩⟩⟩⟩⟩⟩⟩⟩⟩⟩⟩⟩⟩⟩⟩⟩⟩⟩⟩⟩⟩⟩⟩⟩⟩⟩⟩⟩⟩⟩⟩⟩
set_option maxRecDepth 20000 in
theorem kX4_idleWeeks_77 : sx_BK sx_tb yX4_idleWeeks.cls cX4_idleWeeks 7 (some .int) ({ frames := 4, cells := 0, slots := 0, locals := 89 } : Room) false false 0 (fun _ => 0) 77 (bX4_idleWeeks_77) := ⟨_, ⟨sn_aload_n dX4_idleWeeks_77 rfl, sm_al _⟩, ⟨_, ⟨sn_get (C := RX4) (T := TX4) (N := 2) dX4_idleWeeks_78 rfl zinX4 (Nat.le_of_ble_eq_true rfl) zw_1_109, sm_get _ _⟩, ⟨_, ⟨sn_cv_i (N := 1) (T := TX2) ztb_X2_passWeek dX4_idleWeeks_81 rfl rfl zw_2_169 zw_2_80 zw_2_81 zw_1_4 zw_2_82 zmh_X2 zpd_X2_passWeek (Nat.le_of_ble_eq_true rfl) (Nat.le_of_ble_eq_true rfl) rfl rfl, sm_cv _ _ _ _ _ _ _⟩, ⟨_, ⟨sn_if_ne dX4_idleWeeks_84 (by decide +kernel) rfl, sm_if1 _ _ _⟩, ⟨_, ⟨sn_iinc dX4_idleWeeks_87 (by decide +kernel) (Nat.le_of_ble_eq_true rfl), sm_inc _ _⟩, ⟨_, ⟨sn_fall (len := 0) rfl rfl, sm_go _ _⟩, trivial⟩⟩⟩⟩⟩⟩
set_option maxRecDepth 20000 in
theorem kX4_idleWeeks_90 : sx_BK sx_tb yX4_idleWeeks.cls cX4_idleWeeks 7 (some .int) ({ frames := 4, cells := 0, slots := 0, locals := 89 } : Room) false false 0 (fun _ => 0) 90 (bX4_idleWeeks_90) := ⟨_, ⟨sn_iinc dX4_idleWeeks_90 (by decide +kernel) (Nat.le_of_ble_eq_true rfl), sm_inc _ _⟩, ⟨_, ⟨sn_goto (len := 3) dX4_idleWeeks_93 (by decide +kernel) rfl, sm_go _ _⟩, trivial⟩⟩
set_option maxRecDepth 20000 in
theorem kX4_idleWeeks_96 : sx_BK sx_tb yX4_idleWeeks.cls cX4_idleWeeks 7 (some .int) ({ frames := 4, cells := 0, slots := 0, locals := 89 } : Room) false false 0 (fun _ => 0) 96 (bX4_idleWeeks_96) := ⟨_, ⟨sn_iload dX4_idleWeeks_96, sm_il _⟩, ⟨_, ⟨sn_ri (len := 1) dX4_idleWeeks_98 rfl, sm_ri⟩, trivial⟩⟩
theorem kX4_idleWeeks : ∀ pc, sx_BK sx_tb yX4_idleWeeks.cls cX4_idleWeeks 7 (some .int) ({ frames := 4, cells := 0, slots := 0, locals := 89 } : Room) false false 0 (fun _ => 0) pc (BX4_idleWeeks pc) := fun pc => sx_bk_if (kX4_idleWeeks_0) (sx_bk_if (kX4_idleWeeks_20) (sx_bk_if (kX4_idleWeeks_77) (sx_bk_if (kX4_idleWeeks_90) (sx_bk_if (kX4_idleWeeks_96) (trivial)))))
theorem okX4_idleWeeks : sx_ok sx_tb BX4_idleWeeks (yX4_idleWeeks, cX4_idleWeeks, 7, some .int, { frames := 4, cells := 0, slots := 0, locals := 89 }) := ⟨by decide, by decide +kernel, false, (fun h => by cases h), kX4_idleWeeks⟩
