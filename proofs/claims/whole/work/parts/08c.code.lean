theorem dX5_init_0 : decode cX5_init 0 = .ok (.aload_n 0, 1) := by decide +kernel
theorem dX5_init_1 : decode cX5_init 1 = .ok (.invokespecial 1, 3) := by decide +kernel
theorem dX5_init_4 : decode cX5_init 4 = .ok (.aload_n 0, 1) := by decide +kernel
theorem dX5_init_5 : decode cX5_init 5 = .ok (.bipush 8, 2) := by decide +kernel
theorem dX5_init_7 : decode cX5_init 7 = .ok (.bipush 40, 2) := by decide +kernel
theorem dX5_init_9 : decode cX5_init 9 = .ok (.multianewarray 9 2, 4) := by decide +kernel
theorem dX5_init_13 : decode cX5_init 13 = .ok (.putfield 11, 3) := by decide +kernel
theorem dX5_init_16 : decode cX5_init 16 = .ok (.aload_n 0, 1) := by decide +kernel
theorem dX5_init_17 : decode cX5_init 17 = .ok (.bipush 8, 2) := by decide +kernel
theorem dX5_init_19 : decode cX5_init 19 = .ok (.newarray .int, 2) := by decide +kernel
theorem dX5_init_21 : decode cX5_init 21 = .ok (.putfield 14, 3) := by decide +kernel
theorem dX5_init_24 : decode cX5_init 24 = .ok (.aload_n 0, 1) := by decide +kernel
theorem dX5_init_25 : decode cX5_init 25 = .ok (.bipush 8, 2) := by decide +kernel
theorem dX5_init_27 : decode cX5_init 27 = .ok (.newarray .int, 2) := by decide +kernel
theorem dX5_init_29 : decode cX5_init 29 = .ok (.putfield 18, 3) := by decide +kernel
theorem dX5_init_32 : decode cX5_init 32 = .ok (.iconst 0, 1) := by decide +kernel
theorem dX5_init_33 : decode cX5_init 33 = .ok (.istore_n 1, 1) := by decide +kernel
theorem dX5_init_34 : decode cX5_init 34 = .ok (.iload_n 1, 1) := by decide +kernel
theorem dX5_init_35 : decode cX5_init 35 = .ok (.bipush 8, 2) := by decide +kernel
theorem dX5_init_37 : decode cX5_init 37 = .ok (.if_icmp .ge 16, 3) := by decide +kernel
theorem dX5_init_40 : decode cX5_init 40 = .ok (.aload_n 0, 1) := by decide +kernel
theorem dX5_init_41 : decode cX5_init 41 = .ok (.getfield 18, 3) := by decide +kernel
theorem dX5_init_44 : decode cX5_init 44 = .ok (.iload_n 1, 1) := by decide +kernel
theorem dX5_init_45 : decode cX5_init 45 = .ok (.iconst (-1), 1) := by decide +kernel
theorem dX5_init_46 : decode cX5_init 46 = .ok (.iastore, 1) := by decide +kernel
theorem dX5_init_47 : decode cX5_init 47 = .ok (.iinc 1 1, 3) := by decide +kernel
theorem dX5_init_50 : decode cX5_init 50 = .ok (.goto (-16), 3) := by decide +kernel
theorem dX5_init_53 : decode cX5_init 53 = .ok (.aload_n 0, 1) := by decide +kernel
theorem dX5_init_54 : decode cX5_init 54 = .ok (.iconst 0, 1) := by decide +kernel
theorem dX5_init_55 : decode cX5_init 55 = .ok (.putfield 21, 3) := by decide +kernel
theorem dX5_init_58 : decode cX5_init 58 = .ok (.return_, 1) := by decide +kernel
def bX5_init_0 : List sx_S := [si_al 0, si_oi, si_al 0, si_const (nI 8), si_const (nI 40), si_mna 11 344, si_put 4 0 1, si_al 0, si_const (nI 8), si_newa 0 11 344, si_put 4 1 1, si_al 0, si_const (nI 8), si_newa 0 11 344, si_put 4 2 1, si_const 0, si_is 1, si_go 34 [true, true]]
def bX5_init_34 : List sx_S := [si_il 1, si_const (nI 8), si_if2 (fun x y => y ≤ x) 53 [true, false], si_al 0, si_get 4 2, si_il 1, si_const (-1), si_iast, si_inc 1 1, si_go 34 [true, true]]
def bX5_init_53 : List sx_S := [si_al 0, si_const 0, si_put 4 3 0, si_rv]
def BX5_init : Nat → List sx_S := fun pc => if pc = 0 then bX5_init_0 else if pc = 34 then bX5_init_34 else if pc = 53 then bX5_init_53 else []
set_option maxRecDepth 20000 in
theorem kX5_init_0 : sx_BK sx_tb yX5_init.cls cX5_init 2 (none) ({ frames := 1, cells := 11, slots := 344, locals := 20 } : Room) true false 0 (fun _ => 0) 0 (bX5_init_0) := ⟨_, ⟨sn_aload_n dX5_init_0 rfl, sm_al _⟩, ⟨_, ⟨sn_oi dX5_init_1 zw_1_26 zw_1_19 zw_1_20 (Nat.le_of_ble_eq_true rfl) (Nat.le_of_ble_eq_true rfl), sm_oi⟩, ⟨_, ⟨sn_aload_n dX5_init_4 rfl, sm_al _⟩, ⟨_, ⟨sn_bipush dX5_init_5 (by decide +kernel), sm_const _⟩, ⟨_, ⟨sn_bipush dX5_init_7 (by decide +kernel), sm_const _⟩, ⟨_, ⟨sn_mna dX5_init_9 zw_1_27 zw_1_44, sm_mna _ _⟩, ⟨_, ⟨sn_putF (C := RX5) (T := TX5) (N := 4) dX5_init_13 rfl zinX5 tyX5_ok nmX5 (Nat.le_of_ble_eq_true rfl) zw_1_29 rfl rfl rfl (tyX5_ok 0 (Nat.le_of_ble_eq_true rfl)) trivial, sm_put _ _ _⟩, ⟨_, ⟨sn_aload_n dX5_init_16 rfl, sm_al _⟩, ⟨_, ⟨sn_bipush dX5_init_17 (by decide +kernel), sm_const _⟩, ⟨_, ⟨sn_newa0 dX5_init_19 zw_1_44, sm_newa _ _ _⟩, ⟨_, ⟨sn_putF (C := RX5) (T := TX5) (N := 4) dX5_init_21 rfl zinX5 tyX5_ok nmX5 (Nat.le_of_ble_eq_true rfl) zw_1_31 rfl rfl rfl (tyX5_ok 1 (Nat.le_of_ble_eq_true rfl)) trivial, sm_put _ _ _⟩, ⟨_, ⟨sn_aload_n dX5_init_24 rfl, sm_al _⟩, ⟨_, ⟨sn_bipush dX5_init_25 (by decide +kernel), sm_const _⟩, ⟨_, ⟨sn_newa0 dX5_init_27 zw_1_44, sm_newa _ _ _⟩, ⟨_, ⟨sn_putF (C := RX5) (T := TX5) (N := 4) dX5_init_29 rfl zinX5 tyX5_ok nmX5 (Nat.le_of_ble_eq_true rfl) zw_1_32 rfl rfl rfl (tyX5_ok 2 (Nat.le_of_ble_eq_true rfl)) trivial, sm_put _ _ _⟩, ⟨_, ⟨sn_iconst dX5_init_32 (by decide +kernel), sm_const _⟩, ⟨_, ⟨sn_istore_n dX5_init_33 rfl (Nat.le_of_ble_eq_true rfl), sm_is _⟩, ⟨_, ⟨sn_fall (len := 0) rfl rfl, sm_go _ _⟩, trivial⟩⟩⟩⟩⟩⟩⟩⟩⟩⟩⟩⟩⟩⟩⟩⟩⟩⟩
set_option maxRecDepth 20000 in
theorem kX5_init_34 : sx_BK sx_tb yX5_init.cls cX5_init 2 (none) ({ frames := 1, cells := 11, slots := 344, locals := 20 } : Room) true false 0 (fun _ => 0) 34 (bX5_init_34) := ⟨_, ⟨sn_iload_n dX5_init_34 rfl, sm_il _⟩, ⟨_, ⟨sn_bipush dX5_init_35 (by decide +kernel), sm_const _⟩, ⟨_, ⟨sn_ic_ge dX5_init_37 (by decide +kernel) rfl, sm_if2 _ _ _⟩, ⟨_, ⟨sn_aload_n dX5_init_40 rfl, sm_al _⟩, ⟨_, ⟨sn_get (C := RX5) (T := TX5) (N := 4) dX5_init_41 rfl zinX5 (Nat.le_of_ble_eq_true rfl) zw_1_32, sm_get _ _⟩, ⟨_, ⟨sn_iload_n dX5_init_44 rfl, sm_il _⟩, ⟨_, ⟨sn_iconst dX5_init_45 (by decide +kernel), sm_const _⟩, ⟨_, ⟨sn_iast dX5_init_46, sm_iast⟩, ⟨_, ⟨sn_iinc dX5_init_47 (by decide +kernel) (Nat.le_of_ble_eq_true rfl), sm_inc _ _⟩, ⟨_, ⟨sn_goto (len := 3) dX5_init_50 (by decide +kernel) rfl, sm_go _ _⟩, trivial⟩⟩⟩⟩⟩⟩⟩⟩⟩⟩
set_option maxRecDepth 20000 in
theorem kX5_init_53 : sx_BK sx_tb yX5_init.cls cX5_init 2 (none) ({ frames := 1, cells := 11, slots := 344, locals := 20 } : Room) true false 0 (fun _ => 0) 53 (bX5_init_53) := ⟨_, ⟨sn_aload_n dX5_init_53 rfl, sm_al _⟩, ⟨_, ⟨sn_iconst dX5_init_54 (by decide +kernel), sm_const _⟩, ⟨_, ⟨sn_put (C := RX5) (T := TX5) (N := 4) dX5_init_55 rfl zinX5 tyX5_ok nmX5 (Nat.le_of_ble_eq_true rfl) zw_1_33 rfl (tyX5_ok 3 (Nat.le_of_ble_eq_true rfl)) trivial, sm_put _ _ _⟩, ⟨_, ⟨sn_rv (len := 1) dX5_init_58 rfl, sm_rv⟩, trivial⟩⟩⟩⟩
theorem kX5_init : ∀ pc, sx_BK sx_tb yX5_init.cls cX5_init 2 (none) ({ frames := 1, cells := 11, slots := 344, locals := 20 } : Room) true false 0 (fun _ => 0) pc (BX5_init pc) := fun pc => sx_bk_if (kX5_init_0) (sx_bk_if (kX5_init_34) (sx_bk_if (kX5_init_53) (trivial)))
theorem okX5_init : sx_ok sx_tb BX5_init (yX5_init, cX5_init, 2, none, { frames := 1, cells := 11, slots := 344, locals := 20 }) := ⟨by decide, by decide +kernel, true, (fun _ => rfl), kX5_init⟩
theorem dX5_isRow_0 : decode cX5_isRow 0 = .ok (.iload_n 0, 1) := by decide +kernel
theorem dX5_isRow_1 : decode cX5_isRow 1 = .ok (.ifCond .lt 13, 3) := by decide +kernel
theorem dX5_isRow_4 : decode cX5_isRow 4 = .ok (.iload_n 0, 1) := by decide +kernel
theorem dX5_isRow_5 : decode cX5_isRow 5 = .ok (.bipush 8, 2) := by decide +kernel
theorem dX5_isRow_7 : decode cX5_isRow 7 = .ok (.if_icmp .ge 7, 3) := by decide +kernel
theorem dX5_isRow_10 : decode cX5_isRow 10 = .ok (.iconst 1, 1) := by decide +kernel
theorem dX5_isRow_11 : decode cX5_isRow 11 = .ok (.goto 4, 3) := by decide +kernel
theorem dX5_isRow_14 : decode cX5_isRow 14 = .ok (.iconst 0, 1) := by decide +kernel
theorem dX5_isRow_15 : decode cX5_isRow 15 = .ok (.ireturn, 1) := by decide +kernel
def bX5_isRow_0 : List sx_S := [si_il 0, si_if1 (fun x => x < 0) 14 [false], si_il 0, si_const (nI 8), si_if2 (fun x y => y ≤ x) 14 [false], si_const 1, si_go 15 [false]]
def bX5_isRow_14 : List sx_S := [si_const 0, si_go 15 [false]]
def bX5_isRow_15 : List sx_S := [si_rz]
def BX5_isRow : Nat → List sx_S := fun pc => if pc = 0 then bX5_isRow_0 else if pc = 14 then bX5_isRow_14 else if pc = 15 then bX5_isRow_15 else []
set_option maxRecDepth 20000 in
theorem kX5_isRow_0 : sx_BK sx_tb yX5_isRow.cls cX5_isRow 1 (some .boolean) ({ frames := 0, cells := 0, slots := 0, locals := 0 } : Room) false false 0 (fun _ => 0) 0 (bX5_isRow_0) := ⟨_, ⟨sn_iload_n dX5_isRow_0 rfl, sm_il _⟩, ⟨_, ⟨sn_if_lt dX5_isRow_1 (by decide +kernel) rfl, sm_if1 _ _ _⟩, ⟨_, ⟨sn_iload_n dX5_isRow_4 rfl, sm_il _⟩, ⟨_, ⟨sn_bipush dX5_isRow_5 (by decide +kernel), sm_const _⟩, ⟨_, ⟨sn_ic_ge dX5_isRow_7 (by decide +kernel) rfl, sm_if2 _ _ _⟩, ⟨_, ⟨sn_iconst dX5_isRow_10 (by decide +kernel), sm_const _⟩, ⟨_, ⟨sn_goto (len := 3) dX5_isRow_11 (by decide +kernel) rfl, sm_go _ _⟩, trivial⟩⟩⟩⟩⟩⟩⟩
set_option maxRecDepth 20000 in
theorem kX5_isRow_14 : sx_BK sx_tb yX5_isRow.cls cX5_isRow 1 (some .boolean) ({ frames := 0, cells := 0, slots := 0, locals := 0 } : Room) false false 0 (fun _ => 0) 14 (bX5_isRow_14) := ⟨_, ⟨sn_iconst dX5_isRow_14 (by decide +kernel), sm_const _⟩, ⟨_, ⟨sn_fall (len := 0) rfl rfl, sm_go _ _⟩, trivial⟩⟩
set_option maxRecDepth 20000 in
theorem kX5_isRow_15 : sx_BK sx_tb yX5_isRow.cls cX5_isRow 1 (some .boolean) ({ frames := 0, cells := 0, slots := 0, locals := 0 } : Room) false false 0 (fun _ => 0) 15 (bX5_isRow_15) := ⟨_, ⟨sn_rz (len := 1) dX5_isRow_15 rfl, sm_rz⟩, trivial⟩
theorem kX5_isRow : ∀ pc, sx_BK sx_tb yX5_isRow.cls cX5_isRow 1 (some .boolean) ({ frames := 0, cells := 0, slots := 0, locals := 0 } : Room) false false 0 (fun _ => 0) pc (BX5_isRow pc) := fun pc => sx_bk_if (kX5_isRow_0) (sx_bk_if (kX5_isRow_14) (sx_bk_if (kX5_isRow_15) (trivial)))
theorem okX5_isRow : sx_ok sx_tb BX5_isRow (yX5_isRow, cX5_isRow, 1, some .boolean, { frames := 0, cells := 0, slots := 0, locals := 0 }) := ⟨by decide, by decide +kernel, false, (fun h => by cases h), kX5_isRow⟩
theorem dX5_find_0 : decode cX5_find 0 = .ok (.aload_n 0, 1) := by decide +kernel
theorem dX5_find_1 : decode cX5_find 1 = .ok (.iload_n 1, 1) := by decide +kernel
theorem dX5_find_2 : decode cX5_find 2 = .ok (.putfield 21, 3) := by decide +kernel
theorem dX5_find_5 : decode cX5_find 5 = .ok (.ldc 25, 2) := by decide +kernel
theorem dX5_find_7 : decode cX5_find 7 = .ok (.iload_n 1, 1) := by decide +kernel
theorem dX5_find_8 : decode cX5_find 8 = .ok (.isub, 1) := by decide +kernel
theorem dX5_find_9 : decode cX5_find 9 = .ok (.ireturn, 1) := by decide +kernel
def bX5_find_0 : List sx_S := [si_al 0, si_il 1, si_put 4 3 0, si_const (-1000010), si_il 1, si_bin (fun x y => x - y), si_ri]
def BX5_find : Nat → List sx_S := fun pc => if pc = 0 then bX5_find_0 else []
set_option maxRecDepth 20000 in
theorem kX5_find_0 : sx_BK sx_tb yX5_find.cls cX5_find 2 (some .int) ({ frames := 0, cells := 0, slots := 0, locals := 0 } : Room) false false 0 (fun _ => 0) 0 (bX5_find_0) := ⟨_, ⟨sn_aload_n dX5_find_0 rfl, sm_al _⟩, ⟨_, ⟨sn_iload_n dX5_find_1 rfl, sm_il _⟩, ⟨_, ⟨sn_put (C := RX5) (T := TX5) (N := 4) dX5_find_2 rfl zinX5 tyX5_ok nmX5 (Nat.le_of_ble_eq_true rfl) zw_1_33 rfl (tyX5_ok 3 (Nat.le_of_ble_eq_true rfl)) trivial, sm_put _ _ _⟩, ⟨_, ⟨sn_ldc dX5_find_5 zw_1_181, sm_const _⟩, ⟨_, ⟨sn_iload_n dX5_find_7 rfl, sm_il _⟩, ⟨_, ⟨sn_isub dX5_find_8, sm_bin _⟩, ⟨_, ⟨sn_ri (len := 1) dX5_find_9 rfl, sm_ri⟩, trivial⟩⟩⟩⟩⟩⟩⟩
theorem kX5_find : ∀ pc, sx_BK sx_tb yX5_find.cls cX5_find 2 (some .int) ({ frames := 0, cells := 0, slots := 0, locals := 0 } : Room) false false 0 (fun _ => 0) pc (BX5_find pc) := fun pc => sx_bk_if (kX5_find_0) (trivial)
theorem okX5_find : sx_ok sx_tb BX5_find (yX5_find, cX5_find, 2, some .int, { frames := 0, cells := 0, slots := 0, locals := 0 }) := ⟨by decide, by decide +kernel, false, (fun h => by cases h), kX5_find⟩
theorem dX5_make_0 : decode cX5_make 0 = .ok (.iload_n 3, 1) := by decide +kernel
theorem dX5_make_1 : decode cX5_make 1 = .ok (.ifCond .ge 9, 3) := by decide +kernel
theorem dX5_make_4 : decode cX5_make 4 = .ok (.aload_n 0, 1) := by decide +kernel
theorem dX5_make_5 : decode cX5_make 5 = .ok (.iconst 4, 1) := by decide +kernel
theorem dX5_make_6 : decode cX5_make 6 = .ok (.invokevirtual 26, 3) := by decide +kernel
theorem dX5_make_9 : decode cX5_make 9 = .ok (.ireturn, 1) := by decide +kernel
theorem dX5_make_10 : decode cX5_make 10 = .ok (.iconst 0, 1) := by decide +kernel
theorem dX5_make_11 : decode cX5_make 11 = .ok (.istore 4, 2) := by decide +kernel
theorem dX5_make_13 : decode cX5_make 13 = .ok (.iload 4, 2) := by decide +kernel
theorem dX5_make_15 : decode cX5_make 15 = .ok (.bipush 40, 2) := by decide +kernel
theorem dX5_make_17 : decode cX5_make 17 = .ok (.if_icmp .ge 19, 3) := by decide +kernel
theorem dX5_make_20 : decode cX5_make 20 = .ok (.aload_n 0, 1) := by decide +kernel
theorem dX5_make_21 : decode cX5_make 21 = .ok (.getfield 11, 3) := by decide +kernel
theorem dX5_make_24 : decode cX5_make 24 = .ok (.iload_n 1, 1) := by decide +kernel
theorem dX5_make_25 : decode cX5_make 25 = .ok (.aaload, 1) := by decide +kernel
theorem dX5_make_26 : decode cX5_make 26 = .ok (.iload 4, 2) := by decide +kernel
theorem dX5_make_28 : decode cX5_make 28 = .ok (.iconst 0, 1) := by decide +kernel
theorem dX5_make_29 : decode cX5_make 29 = .ok (.iastore, 1) := by decide +kernel
theorem dX5_make_30 : decode cX5_make 30 = .ok (.iinc 4 1, 3) := by decide +kernel
theorem dX5_make_33 : decode cX5_make 33 = .ok (.goto (-20), 3) := by decide +kernel
theorem dX5_make_36 : decode cX5_make 36 = .ok (.aload_n 0, 1) := by decide +kernel
theorem dX5_make_37 : decode cX5_make 37 = .ok (.getfield 14, 3) := by decide +kernel
theorem dX5_make_40 : decode cX5_make 40 = .ok (.iload_n 1, 1) := by decide +kernel
theorem dX5_make_41 : decode cX5_make 41 = .ok (.iload_n 2, 1) := by decide +kernel
theorem dX5_make_42 : decode cX5_make 42 = .ok (.iastore, 1) := by decide +kernel
theorem dX5_make_43 : decode cX5_make 43 = .ok (.aload_n 0, 1) := by decide +kernel
theorem dX5_make_44 : decode cX5_make 44 = .ok (.getfield 18, 3) := by decide +kernel
theorem dX5_make_47 : decode cX5_make 47 = .ok (.iload_n 1, 1) := by decide +kernel
theorem dX5_make_48 : decode cX5_make 48 = .ok (.iload_n 3, 1) := by decide +kernel
theorem dX5_make_49 : decode cX5_make 49 = .ok (.iastore, 1) := by decide +kernel
theorem dX5_make_50 : decode cX5_make 50 = .ok (.aload_n 0, 1) := by decide +kernel
theorem dX5_make_51 : decode cX5_make 51 = .ok (.iconst 0, 1) := by decide +kernel
theorem dX5_make_52 : decode cX5_make 52 = .ok (.putfield 21, 3) := by decide +kernel
theorem dX5_make_55 : decode cX5_make 55 = .ok (.iload_n 3, 1) := by decide +kernel
theorem dX5_make_56 : decode cX5_make 56 = .ok (.ireturn, 1) := by decide +kernel
def bX5_make_0 : List sx_S := [si_il 3, si_if1 (fun x => 0 ≤ x) 10 [true, true, true, true, false], si_al 0, si_const (nI 4), si_cv 4 63 1 0 0 0 0, si_ri]
def bX5_make_10 : List sx_S := [si_const 0, si_is 4, si_go 13 [true, true, true, true, true]]
def bX5_make_13 : List sx_S := [si_il 4, si_const (nI 40), si_if2 (fun x y => y ≤ x) 36 [true, true, true, true, false], si_al 0, si_get 4 0, si_il 1, si_aald 3, si_il 4, si_const 0, si_iast, si_inc 4 1, si_go 13 [true, true, true, true, true]]
def bX5_make_36 : List sx_S := [si_al 0, si_get 4 1, si_il 1, si_il 2, si_iast, si_al 0, si_get 4 2, si_il 1, si_il 3, si_iast, si_al 0, si_const 0, si_put 4 3 0, si_il 3, si_ri]
def BX5_make : Nat → List sx_S := fun pc => if pc = 0 then bX5_make_0 else if pc = 10 then bX5_make_10 else if pc = 13 then bX5_make_13 else if pc = 36 then bX5_make_36 else []
set_option maxRecDepth 20000 in
theorem kX5_make_0 : sx_BK sx_tb yX5_make.cls cX5_make 5 (some .int) ({ frames := 1, cells := 0, slots := 0, locals := 21 } : Room) false false 0 (fun _ => 0) 0 (bX5_make_0) := ⟨_, ⟨sn_iload_n dX5_make_0 rfl, sm_il _⟩, ⟨_, ⟨sn_if_ge dX5_make_1 (by decide +kernel) rfl, sm_if1 _ _ _⟩, ⟨_, ⟨sn_aload_n dX5_make_4 rfl, sm_al _⟩, ⟨_, ⟨sn_iconst dX5_make_5 (by decide +kernel), sm_const _⟩, ⟨_, ⟨sn_cv_i (N := 4) (T := TX5) ztb_X5_find dX5_make_6 rfl rfl zw_1_177 zw_1_178 zw_1_179 zw_1_2 zw_1_180 zmh_X5 zpd_X5_find (Nat.le_of_ble_eq_true rfl) (Nat.le_of_ble_eq_true rfl) rfl rfl, sm_cv _ _ _ _ _ _ _⟩, ⟨_, ⟨sn_ri (len := 1) dX5_make_9 rfl, sm_ri⟩, trivial⟩⟩⟩⟩⟩⟩
set_option maxRecDepth 20000 in
theorem kX5_make_10 : sx_BK sx_tb yX5_make.cls cX5_make 5 (some .int) ({ frames := 1, cells := 0, slots := 0, locals := 21 } : Room) false false 0 (fun _ => 0) 10 (bX5_make_10) := ⟨_, ⟨sn_iconst dX5_make_10 (by decide +kernel), sm_const _⟩, ⟨_, ⟨sn_istore dX5_make_11 (Nat.le_of_ble_eq_true rfl), sm_is _⟩, ⟨_, ⟨sn_fall (len := 0) rfl rfl, sm_go _ _⟩, trivial⟩⟩⟩
set_option maxRecDepth 20000 in
theorem kX5_make_13 : sx_BK sx_tb yX5_make.cls cX5_make 5 (some .int) ({ frames := 1, cells := 0, slots := 0, locals := 21 } : Room) false false 0 (fun _ => 0) 13 (bX5_make_13) := ⟨_, ⟨sn_iload dX5_make_13, sm_il _⟩, ⟨_, ⟨sn_bipush dX5_make_15 (by decide +kernel), sm_const _⟩, ⟨_, ⟨sn_ic_ge dX5_make_17 (by decide +kernel) rfl, sm_if2 _ _ _⟩, ⟨_, ⟨sn_aload_n dX5_make_20 rfl, sm_al _⟩, ⟨_, ⟨sn_get (C := RX5) (T := TX5) (N := 4) dX5_make_21 rfl zinX5 (Nat.le_of_ble_eq_true rfl) zw_1_29, sm_get _ _⟩, ⟨_, ⟨sn_iload_n dX5_make_24 rfl, sm_il _⟩, ⟨_, ⟨sn_aald3 dX5_make_25, sm_aald _⟩, ⟨_, ⟨sn_iload dX5_make_26, sm_il _⟩, ⟨_, ⟨sn_iconst dX5_make_28 (by decide +kernel), sm_const _⟩, ⟨_, ⟨sn_iast dX5_make_29, sm_iast⟩, ⟨_, ⟨sn_iinc dX5_make_30 (by decide +kernel) (Nat.le_of_ble_eq_true rfl), sm_inc _ _⟩, ⟨_, ⟨sn_goto (len := 3) dX5_make_33 (by decide +kernel) rfl, sm_go _ _⟩, trivial⟩⟩⟩⟩⟩⟩⟩⟩⟩⟩⟩⟩
set_option maxRecDepth 20000 in
theorem kX5_make_36 : sx_BK sx_tb yX5_make.cls cX5_make 5 (some .int) ({ frames := 1, cells := 0, slots := 0, locals := 21 } : Room) false false 0 (fun _ => 0) 36 (bX5_make_36) := ⟨_, ⟨sn_aload_n dX5_make_36 rfl, sm_al _⟩, ⟨_, ⟨sn_get (C := RX5) (T := TX5) (N := 4) dX5_make_37 rfl zinX5 (Nat.le_of_ble_eq_true rfl) zw_1_31, sm_get _ _⟩, ⟨_, ⟨sn_iload_n dX5_make_40 rfl, sm_il _⟩, ⟨_, ⟨sn_iload_n dX5_make_41 rfl, sm_il _⟩, ⟨_, ⟨sn_iast dX5_make_42, sm_iast⟩, ⟨_, ⟨sn_aload_n dX5_make_43 rfl, sm_al _⟩, ⟨_, ⟨sn_get (C := RX5) (T := TX5) (N := 4) dX5_make_44 rfl zinX5 (Nat.le_of_ble_eq_true rfl) zw_1_32, sm_get _ _⟩, ⟨_, ⟨sn_iload_n dX5_make_47 rfl, sm_il _⟩, ⟨_, ⟨sn_iload_n dX5_make_48 rfl, sm_il _⟩, ⟨_, ⟨sn_iast dX5_make_49, sm_iast⟩, ⟨_, ⟨sn_aload_n dX5_make_50 rfl, sm_al _⟩, ⟨_, ⟨sn_iconst dX5_make_51 (by decide +kernel), sm_const _⟩, ⟨_, ⟨sn_put (C := RX5) (T := TX5) (N := 4) dX5_make_52 rfl zinX5 tyX5_ok nmX5 (Nat.le_of_ble_eq_true rfl) zw_1_33 rfl (tyX5_ok 3 (Nat.le_of_ble_eq_true rfl)) trivial, sm_put _ _ _⟩, ⟨_, ⟨sn_iload_n dX5_make_55 rfl, sm_il _⟩, ⟨_, ⟨sn_ri (len := 1) dX5_make_56 rfl, sm_ri⟩, trivial⟩⟩⟩⟩⟩⟩⟩⟩⟩⟩⟩⟩⟩⟩⟩
theorem kX5_make : ∀ pc, sx_BK sx_tb yX5_make.cls cX5_make 5 (some .int) ({ frames := 1, cells := 0, slots := 0, locals := 21 } : Room) false false 0 (fun _ => 0) pc (BX5_make pc) := fun pc => sx_bk_if (kX5_make_0) (sx_bk_if (kX5_make_10) (sx_bk_if (kX5_make_13) (sx_bk_if (kX5_make_36) (trivial))))
theorem okX5_make : sx_ok sx_tb BX5_make (yX5_make, cX5_make, 5, some .int, { frames := 1, cells := 0, slots := 0, locals := 21 }) := ⟨by decide, by decide +kernel, false, (fun h => by cases h), kX5_make⟩
theorem dX5_put_0 : decode cX5_put 0 = .ok (.aload_n 0, 1) := by decide +kernel
theorem dX5_put_1 : decode cX5_put 1 = .ok (.iload_n 1, 1) := by decide +kernel
theorem dX5_put_2 : decode cX5_put 2 = .ok (.iload_n 2, 1) := by decide +kernel
theorem dX5_put_3 : decode cX5_put 3 = .ok (.iconst 1, 1) := by decide +kernel
theorem dX5_put_4 : decode cX5_put 4 = .ok (.invokevirtual 30, 3) := by decide +kernel
theorem dX5_put_7 : decode cX5_put 7 = .ok (.istore 4, 2) := by decide +kernel
theorem dX5_put_9 : decode cX5_put 9 = .ok (.iload 4, 2) := by decide +kernel
theorem dX5_put_11 : decode cX5_put 11 = .ok (.ifCond .eq 6, 3) := by decide +kernel
theorem dX5_put_14 : decode cX5_put 14 = .ok (.iload 4, 2) := by decide +kernel
theorem dX5_put_16 : decode cX5_put 16 = .ok (.ireturn, 1) := by decide +kernel
theorem dX5_put_17 : decode cX5_put 17 = .ok (.aload_n 0, 1) := by decide +kernel
theorem dX5_put_18 : decode cX5_put 18 = .ok (.getfield 11, 3) := by decide +kernel
theorem dX5_put_21 : decode cX5_put 21 = .ok (.iload_n 1, 1) := by decide +kernel
theorem dX5_put_22 : decode cX5_put 22 = .ok (.aaload, 1) := by decide +kernel
theorem dX5_put_23 : decode cX5_put 23 = .ok (.iload_n 2, 1) := by decide +kernel
theorem dX5_put_24 : decode cX5_put 24 = .ok (.iload_n 3, 1) := by decide +kernel
theorem dX5_put_25 : decode cX5_put 25 = .ok (.aload_n 0, 1) := by decide +kernel
theorem dX5_put_26 : decode cX5_put 26 = .ok (.getfield 14, 3) := by decide +kernel
theorem dX5_put_29 : decode cX5_put 29 = .ok (.iload_n 1, 1) := by decide +kernel
theorem dX5_put_30 : decode cX5_put 30 = .ok (.iaload, 1) := by decide +kernel
theorem dX5_put_31 : decode cX5_put 31 = .ok (.invokestatic 34, 3) := by decide +kernel
theorem dX5_put_34 : decode cX5_put 34 = .ok (.iastore, 1) := by decide +kernel
theorem dX5_put_35 : decode cX5_put 35 = .ok (.aload_n 0, 1) := by decide +kernel
theorem dX5_put_36 : decode cX5_put 36 = .ok (.getfield 11, 3) := by decide +kernel
theorem dX5_put_39 : decode cX5_put 39 = .ok (.iload_n 1, 1) := by decide +kernel
theorem dX5_put_40 : decode cX5_put 40 = .ok (.aaload, 1) := by decide +kernel
theorem dX5_put_41 : decode cX5_put 41 = .ok (.iload_n 2, 1) := by decide +kernel
theorem dX5_put_42 : decode cX5_put 42 = .ok (.iaload, 1) := by decide +kernel
theorem dX5_put_43 : decode cX5_put 43 = .ok (.ireturn, 1) := by decide +kernel
def bX5_put_0 : List sx_S := [si_al 0, si_il 1, si_il 2, si_const 1, si_cv 4 68 3 0 0 0 0, si_is 4, si_il 4, si_if1 (fun x => x = 0) 17 [true, true, true, true, false], si_il 4, si_ri]
def bX5_put_17 : List sx_S := [si_al 0, si_get 4 0, si_il 1, si_aald 3, si_il 2, si_il 3, si_al 0, si_get 4 1, si_il 1, si_iald, si_cs 71 2 0 0 0 0, si_iast, si_al 0, si_get 4 0, si_il 1, si_aald 3, si_il 2, si_iald, si_ri]
def BX5_put : Nat → List sx_S := fun pc => if pc = 0 then bX5_put_0 else if pc = 17 then bX5_put_17 else []
set_option maxRecDepth 20000 in
theorem kX5_put_0 : sx_BK sx_tb yX5_put.cls cX5_put 5 (some .int) ({ frames := 2, cells := 0, slots := 0, locals := 46 } : Room) false false 0 (fun _ => 0) 0 (bX5_put_0) := ⟨_, ⟨sn_aload_n dX5_put_0 rfl, sm_al _⟩, ⟨_, ⟨sn_iload_n dX5_put_1 rfl, sm_il _⟩, ⟨_, ⟨sn_iload_n dX5_put_2 rfl, sm_il _⟩, ⟨_, ⟨sn_iconst dX5_put_3 (by decide +kernel), sm_const _⟩, ⟨_, ⟨sn_cv_i (N := 4) (T := TX5) ztb_X5_look dX5_put_4 rfl rfl zw_1_190 zw_1_191 zw_1_192 zw_1_2 zw_1_193 zmh_X5 zpd_X5_look (Nat.le_of_ble_eq_true rfl) (Nat.le_of_ble_eq_true rfl) rfl rfl, sm_cv _ _ _ _ _ _ _⟩, ⟨_, ⟨sn_istore dX5_put_7 (Nat.le_of_ble_eq_true rfl), sm_is _⟩, ⟨_, ⟨sn_iload dX5_put_9, sm_il _⟩, ⟨_, ⟨sn_if_eq dX5_put_11 (by decide +kernel) rfl, sm_if1 _ _ _⟩, ⟨_, ⟨sn_iload dX5_put_14, sm_il _⟩, ⟨_, ⟨sn_ri (len := 1) dX5_put_16 rfl, sm_ri⟩, trivial⟩⟩⟩⟩⟩⟩⟩⟩⟩⟩
set_option maxRecDepth 20000 in
theorem kX5_put_17 : sx_BK sx_tb yX5_put.cls cX5_put 5 (some .int) ({ frames := 2, cells := 0, slots := 0, locals := 46 } : Room) false false 0 (fun _ => 0) 17 (bX5_put_17) := ⟨_, ⟨sn_aload_n dX5_put_17 rfl, sm_al _⟩, ⟨_, ⟨sn_get (C := RX5) (T := TX5) (N := 4) dX5_put_18 rfl zinX5 (Nat.le_of_ble_eq_true rfl) zw_1_29, sm_get _ _⟩, ⟨_, ⟨sn_iload_n dX5_put_21 rfl, sm_il _⟩, ⟨_, ⟨sn_aald3 dX5_put_22, sm_aald _⟩, ⟨_, ⟨sn_iload_n dX5_put_23 rfl, sm_il _⟩, ⟨_, ⟨sn_iload_n dX5_put_24 rfl, sm_il _⟩, ⟨_, ⟨sn_aload_n dX5_put_25 rfl, sm_al _⟩, ⟨_, ⟨sn_get (C := RX5) (T := TX5) (N := 4) dX5_put_26 rfl zinX5 (Nat.le_of_ble_eq_true rfl) zw_1_31, sm_get _ _⟩, ⟨_, ⟨sn_iload_n dX5_put_29 rfl, sm_il _⟩, ⟨_, ⟨sn_iald dX5_put_30, sm_iald⟩, ⟨_, ⟨sn_cs_i ztb_X5_narrowed dX5_put_31 zw_1_198 zw_1_199 zw_1_2 zw_1_200 zmh_X5 zpd_X5_narrowed (Nat.le_of_ble_eq_true rfl) (Nat.le_of_ble_eq_true rfl) rfl rfl, sm_cs _ _ _ _ _ _⟩, ⟨_, ⟨sn_iast dX5_put_34, sm_iast⟩, ⟨_, ⟨sn_aload_n dX5_put_35 rfl, sm_al _⟩, ⟨_, ⟨sn_get (C := RX5) (T := TX5) (N := 4) dX5_put_36 rfl zinX5 (Nat.le_of_ble_eq_true rfl) zw_1_29, sm_get _ _⟩, ⟨_, ⟨sn_iload_n dX5_put_39 rfl, sm_il _⟩, ⟨_, ⟨sn_aald3 dX5_put_40, sm_aald _⟩, ⟨_, ⟨sn_iload_n dX5_put_41 rfl, sm_il _⟩, ⟨_, ⟨sn_iald dX5_put_42, sm_iald⟩, ⟨_, ⟨sn_ri (len := 1) dX5_put_43 rfl, sm_ri⟩, trivial⟩⟩⟩⟩⟩⟩⟩⟩⟩⟩⟩⟩⟩⟩⟩⟩⟩⟩⟩
theorem kX5_put : ∀ pc, sx_BK sx_tb yX5_put.cls cX5_put 5 (some .int) ({ frames := 2, cells := 0, slots := 0, locals := 46 } : Room) false false 0 (fun _ => 0) pc (BX5_put pc) := fun pc => sx_bk_if (kX5_put_0) (sx_bk_if (kX5_put_17) (trivial))
theorem okX5_put : sx_ok sx_tb BX5_put (yX5_put, cX5_put, 5, some .int, { frames := 2, cells := 0, slots := 0, locals := 46 }) := ⟨by decide, by decide +kernel, false, (fun h => by cases h), kX5_put⟩
theorem dX5_carry_0 : decode cX5_carry 0 = .ok (.aload_n 0, 1) := by decide +kernel
theorem dX5_carry_1 : decode cX5_carry 1 = .ok (.getfield 18, 3) := by decide +kernel
theorem dX5_carry_4 : decode cX5_carry 4 = .ok (.iload_n 1, 1) := by decide +kernel
theorem dX5_carry_5 : decode cX5_carry 5 = .ok (.iaload, 1) := by decide +kernel
theorem dX5_carry_6 : decode cX5_carry 6 = .ok (.iconst (-1), 1) := by decide +kernel
theorem dX5_carry_7 : decode cX5_carry 7 = .ok (.if_icmp .eq 13, 3) := by decide +kernel
theorem dX5_carry_10 : decode cX5_carry 10 = .ok (.aload_n 0, 1) := by decide +kernel
theorem dX5_carry_11 : decode cX5_carry 11 = .ok (.getfield 18, 3) := by decide +kernel
theorem dX5_carry_14 : decode cX5_carry 14 = .ok (.iload_n 3, 1) := by decide +kernel
theorem dX5_carry_15 : decode cX5_carry 15 = .ok (.iaload, 1) := by decide +kernel
theorem dX5_carry_16 : decode cX5_carry 16 = .ok (.iconst (-1), 1) := by decide +kernel
theorem dX5_carry_17 : decode cX5_carry 17 = .ok (.if_icmp .ne 9, 3) := by decide +kernel
theorem dX5_carry_20 : decode cX5_carry 20 = .ok (.aload_n 0, 1) := by decide +kernel
theorem dX5_carry_21 : decode cX5_carry 21 = .ok (.iconst 1, 1) := by decide +kernel
theorem dX5_carry_22 : decode cX5_carry 22 = .ok (.invokevirtual 26, 3) := by decide +kernel
theorem dX5_carry_25 : decode cX5_carry 25 = .ok (.ireturn, 1) := by decide +kernel
theorem dX5_carry_26 : decode cX5_carry 26 = .ok (.aload_n 0, 1) := by decide +kernel
theorem dX5_carry_27 : decode cX5_carry 27 = .ok (.getfield 14, 3) := by decide +kernel
theorem dX5_carry_30 : decode cX5_carry 30 = .ok (.iload_n 1, 1) := by decide +kernel
theorem dX5_carry_31 : decode cX5_carry 31 = .ok (.iaload, 1) := by decide +kernel
theorem dX5_carry_32 : decode cX5_carry 32 = .ok (.aload_n 0, 1) := by decide +kernel
theorem dX5_carry_33 : decode cX5_carry 33 = .ok (.getfield 14, 3) := by decide +kernel
theorem dX5_carry_36 : decode cX5_carry 36 = .ok (.iload_n 3, 1) := by decide +kernel
theorem dX5_carry_37 : decode cX5_carry 37 = .ok (.iaload, 1) := by decide +kernel
theorem dX5_carry_38 : decode cX5_carry 38 = .ok (.if_icmp .eq 9, 3) := by decide +kernel
theorem dX5_carry_41 : decode cX5_carry 41 = .ok (.aload_n 0, 1) := by decide +kernel
theorem dX5_carry_42 : decode cX5_carry 42 = .ok (.iconst 5, 1) := by decide +kernel
theorem dX5_carry_43 : decode cX5_carry 43 = .ok (.invokevirtual 26, 3) := by decide +kernel
theorem dX5_carry_46 : decode cX5_carry 46 = .ok (.ireturn, 1) := by decide +kernel
theorem dX5_carry_47 : decode cX5_carry 47 = .ok (.aload_n 0, 1) := by decide +kernel
theorem dX5_carry_48 : decode cX5_carry 48 = .ok (.iload_n 1, 1) := by decide +kernel
theorem dX5_carry_49 : decode cX5_carry 49 = .ok (.iload_n 2, 1) := by decide +kernel
theorem dX5_carry_50 : decode cX5_carry 50 = .ok (.iload 5, 2) := by decide +kernel
theorem dX5_carry_52 : decode cX5_carry 52 = .ok (.invokevirtual 38, 3) := by decide +kernel
theorem dX5_carry_55 : decode cX5_carry 55 = .ok (.ifCond .eq 15, 3) := by decide +kernel
theorem dX5_carry_58 : decode cX5_carry 58 = .ok (.aload_n 0, 1) := by decide +kernel
theorem dX5_carry_59 : decode cX5_carry 59 = .ok (.iload_n 3, 1) := by decide +kernel
theorem dX5_carry_60 : decode cX5_carry 60 = .ok (.iload 4, 2) := by decide +kernel
theorem dX5_carry_62 : decode cX5_carry 62 = .ok (.iload 5, 2) := by decide +kernel
theorem dX5_carry_64 : decode cX5_carry 64 = .ok (.invokevirtual 38, 3) := by decide +kernel
theorem dX5_carry_67 : decode cX5_carry 67 = .ok (.ifCond .ne 9, 3) := by decide +kernel
theorem dX5_carry_70 : decode cX5_carry 70 = .ok (.aload_n 0, 1) := by decide +kernel
theorem dX5_carry_71 : decode cX5_carry 71 = .ok (.iconst 2, 1) := by decide +kernel
theorem dX5_carry_72 : decode cX5_carry 72 = .ok (.invokevirtual 26, 3) := by decide +kernel
theorem dX5_carry_75 : decode cX5_carry 75 = .ok (.ireturn, 1) := by decide +kernel
theorem dX5_carry_76 : decode cX5_carry 76 = .ok (.aload_n 0, 1) := by decide +kernel
theorem dX5_carry_77 : decode cX5_carry 77 = .ok (.getfield 11, 3) := by decide +kernel
theorem dX5_carry_80 : decode cX5_carry 80 = .ok (.iload_n 1, 1) := by decide +kernel
theorem dX5_carry_81 : decode cX5_carry 81 = .ok (.aaload, 1) := by decide +kernel
theorem dX5_carry_82 : decode cX5_carry 82 = .ok (.iload_n 2, 1) := by decide +kernel
theorem dX5_carry_83 : decode cX5_carry 83 = .ok (.aload_n 0, 1) := by decide +kernel
theorem dX5_carry_84 : decode cX5_carry 84 = .ok (.getfield 11, 3) := by decide +kernel
theorem dX5_carry_87 : decode cX5_carry 87 = .ok (.iload_n 3, 1) := by decide +kernel
theorem dX5_carry_88 : decode cX5_carry 88 = .ok (.aaload, 1) := by decide +kernel
theorem dX5_carry_89 : decode cX5_carry 89 = .ok (.iload 4, 2) := by decide +kernel
theorem dX5_carry_91 : decode cX5_carry 91 = .ok (.iload 5, 2) := by decide +kernel
theorem dX5_carry_93 : decode cX5_carry 93 = .ok (.invokestatic 42, 3) := by decide +kernel
theorem dX5_carry_96 : decode cX5_carry 96 = .ok (.aload_n 0, 1) := by decide +kernel
theorem dX5_carry_97 : decode cX5_carry 97 = .ok (.iconst 0, 1) := by decide +kernel
theorem dX5_carry_98 : decode cX5_carry 98 = .ok (.putfield 21, 3) := by decide +kernel
theorem dX5_carry_101 : decode cX5_carry 101 = .ok (.iload 5, 2) := by decide +kernel
theorem dX5_carry_103 : decode cX5_carry 103 = .ok (.ireturn, 1) := by decide +kernel
def bX5_carry_0 : List sx_S := [si_al 0, si_get 4 2, si_il 1, si_iald, si_const (-1), si_if2 (fun x y => x = y) 20 [true, false, false, false, false, false], si_al 0, si_get 4 2, si_il 3, si_iald, si_const (-1), si_if2 (fun x y => ¬ x = y) 26 [true, true, true, true, true, true], si_go 20 [true, false, false, false, false, false]]
def bX5_carry_20 : List sx_S := [si_al 0, si_const 1, si_cv 4 63 1 0 0 0 0, si_ri]
def bX5_carry_26 : List sx_S := [si_al 0, si_get 4 1, si_il 1, si_iald, si_al 0, si_get 4 1, si_il 3, si_iald, si_if2 (fun x y => x = y) 47 [true, true, true, true, true, true], si_al 0, si_const (nI 5), si_cv 4 63 1 0 0 0 0, si_ri]
def bX5_carry_47 : List sx_S := [si_al 0, si_il 1, si_il 2, si_il 5, si_cv 4 70 3 0 0 0 0, si_if1 (fun x => x = 0) 70 [true, false, false, false, false, false], si_al 0, si_il 3, si_il 4, si_il 5, si_cv 4 70 3 0 0 0 0, si_if1 (fun x => ¬ x = 0) 76 [true, true, true, true, true, true], si_go 70 [true, false, false, false, false, false]]
def bX5_carry_70 : List sx_S := [si_al 0, si_const (nI 2), si_cv 4 63 1 0 0 0 0, si_ri]
def bX5_carry_76 : List sx_S := [si_al 0, si_get 4 0, si_il 1, si_aald 3, si_il 2, si_al 0, si_get 4 0, si_il 3, si_aald 3, si_il 4, si_il 5, si_copy, si_al 0, si_const 0, si_put 4 3 0, si_il 5, si_ri]
def BX5_carry : Nat → List sx_S := fun pc => if pc = 0 then bX5_carry_0 else if pc = 20 then bX5_carry_20 else if pc = 26 then bX5_carry_26 else if pc = 47 then bX5_carry_47 else if pc = 70 then bX5_carry_70 else if pc = 76 then bX5_carry_76 else []
set_option maxRecDepth 20000 in
theorem kX5_carry_0 : sx_BK sx_tb yX5_carry.cls cX5_carry 6 (some .int) ({ frames := 1, cells := 0, slots := 0, locals := 26 } : Room) false false 0 (fun _ => 0) 0 (bX5_carry_0) := ⟨_, ⟨sn_aload_n dX5_carry_0 rfl, sm_al _⟩, ⟨_, ⟨sn_get (C := RX5) (T := TX5) (N := 4) dX5_carry_1 rfl zinX5 (Nat.le_of_ble_eq_true rfl) zw_1_32, sm_get _ _⟩, ⟨_, ⟨sn_iload_n dX5_carry_4 rfl, sm_il _⟩, ⟨_, ⟨sn_iald dX5_carry_5, sm_iald⟩, ⟨_, ⟨sn_iconst dX5_carry_6 (by decide +kernel), sm_const _⟩, ⟨_, ⟨sn_ic_eq dX5_carry_7 (by decide +kernel) rfl, sm_if2 _ _ _⟩, ⟨_, ⟨sn_aload_n dX5_carry_10 rfl, sm_al _⟩, ⟨_, ⟨sn_get (C := RX5) (T := TX5) (N := 4) dX5_carry_11 rfl zinX5 (Nat.le_of_ble_eq_true rfl) zw_1_32, sm_get _ _⟩, ⟨_, ⟨sn_iload_n dX5_carry_14 rfl, sm_il _⟩, ⟨_, ⟨sn_iald dX5_carry_15, sm_iald⟩, ⟨_, ⟨sn_iconst dX5_carry_16 (by decide +kernel), sm_const _⟩, ⟨_, ⟨sn_ic_ne dX5_carry_17 (by decide +kernel) rfl, sm_if2 _ _ _⟩, ⟨_, ⟨sn_fall (len := 0) rfl rfl, sm_go _ _⟩, trivial⟩⟩⟩⟩⟩⟩⟩⟩⟩⟩⟩⟩⟩
set_option maxRecDepth 20000 in
theorem kX5_carry_20 : sx_BK sx_tb yX5_carry.cls cX5_carry 6 (some .int) ({ frames := 1, cells := 0, slots := 0, locals := 26 } : Room) false false 0 (fun _ => 0) 20 (bX5_carry_20) := ⟨_, ⟨sn_aload_n dX5_carry_20 rfl, sm_al _⟩, ⟨_, ⟨sn_iconst dX5_carry_21 (by decide +kernel), sm_const _⟩, ⟨_, ⟨sn_cv_i (N := 4) (T := TX5) ztb_X5_find dX5_carry_22 rfl rfl zw_1_177 zw_1_178 zw_1_179 zw_1_2 zw_1_180 zmh_X5 zpd_X5_find (Nat.le_of_ble_eq_true rfl) (Nat.le_of_ble_eq_true rfl) rfl rfl, sm_cv _ _ _ _ _ _ _⟩, ⟨_, ⟨sn_ri (len := 1) dX5_carry_25 rfl, sm_ri⟩, trivial⟩⟩⟩⟩
set_option maxRecDepth 20000 in
theorem kX5_carry_26 : sx_BK sx_tb yX5_carry.cls cX5_carry 6 (some .int) ({ frames := 1, cells := 0, slots := 0, locals := 26 } : Room) false false 0 (fun _ => 0) 26 (bX5_carry_26) := ⟨_, ⟨sn_aload_n dX5_carry_26 rfl, sm_al _⟩, ⟨_, ⟨sn_get (C := RX5) (T := TX5) (N := 4) dX5_carry_27 rfl zinX5 (Nat.le_of_ble_eq_true rfl) zw_1_31, sm_get _ _⟩, ⟨_, ⟨sn_iload_n dX5_carry_30 rfl, sm_il _⟩, ⟨_, ⟨sn_iald dX5_carry_31, sm_iald⟩, ⟨_, ⟨sn_aload_n dX5_carry_32 rfl, sm_al _⟩, ⟨_, ⟨sn_get (C := RX5) (T := TX5) (N := 4) dX5_carry_33 rfl zinX5 (Nat.le_of_ble_eq_true rfl) zw_1_31, sm_get _ _⟩, ⟨_, ⟨sn_iload_n dX5_carry_36 rfl, sm_il _⟩, ⟨_, ⟨sn_iald dX5_carry_37, sm_iald⟩, ⟨_, ⟨sn_ic_eq dX5_carry_38 (by decide +kernel) rfl, sm_if2 _ _ _⟩, ⟨_, ⟨sn_aload_n dX5_carry_41 rfl, sm_al _⟩, ⟨_, ⟨sn_iconst dX5_carry_42 (by decide +kernel), sm_const _⟩, ⟨_, ⟨sn_cv_i (N := 4) (T := TX5) ztb_X5_find dX5_carry_43 rfl rfl zw_1_177 zw_1_178 zw_1_179 zw_1_2 zw_1_180 zmh_X5 zpd_X5_find (Nat.le_of_ble_eq_true rfl) (Nat.le_of_ble_eq_true rfl) rfl rfl, sm_cv _ _ _ _ _ _ _⟩, ⟨_, ⟨sn_ri (len := 1) dX5_carry_46 rfl, sm_ri⟩, trivial⟩⟩⟩⟩⟩⟩⟩⟩⟩⟩⟩⟩⟩
set_option maxRecDepth 20000 in
theorem kX5_carry_47 : sx_BK sx_tb yX5_carry.cls cX5_carry 6 (some .int) ({ frames := 1, cells := 0, slots := 0, locals := 26 } : Room) false false 0 (fun _ => 0) 47 (bX5_carry_47) := ⟨_, ⟨sn_aload_n dX5_carry_47 rfl, sm_al _⟩, ⟨_, ⟨sn_iload_n dX5_carry_48 rfl, sm_il _⟩, ⟨_, ⟨sn_iload_n dX5_carry_49 rfl, sm_il _⟩, ⟨_, ⟨sn_iload dX5_carry_50, sm_il _⟩, ⟨_, ⟨sn_cv_z (N := 4) (T := TX5) ztb_X5_fits dX5_carry_52 rfl rfl zw_1_194 zw_1_196 zw_0_0 zw_1_2 zw_1_197 zmh_X5 zpd_X5_fits (Nat.le_of_ble_eq_true rfl) (Nat.le_of_ble_eq_true rfl) rfl rfl, sm_cv _ _ _ _ _ _ _⟩, ⟨_, ⟨sn_if_eq dX5_carry_55 (by decide +kernel) rfl, sm_if1 _ _ _⟩, ⟨_, ⟨sn_aload_n dX5_carry_58 rfl, sm_al _⟩, ⟨_, ⟨sn_iload_n dX5_carry_59 rfl, sm_il _⟩, ⟨_, ⟨sn_iload dX5_carry_60, sm_il _⟩, ⟨_, ⟨sn_iload dX5_carry_62, sm_il _⟩, ⟨_, ⟨sn_cv_z (N := 4) (T := TX5) ztb_X5_fits dX5_carry_64 rfl rfl zw_1_194 zw_1_196 zw_0_0 zw_1_2 zw_1_197 zmh_X5 zpd_X5_fits (Nat.le_of_ble_eq_true rfl) (Nat.le_of_ble_eq_true rfl) rfl rfl, sm_cv _ _ _ _ _ _ _⟩, ⟨_, ⟨sn_if_ne dX5_carry_67 (by decide +kernel) rfl, sm_if1 _ _ _⟩, ⟨_, ⟨sn_fall (len := 0) rfl rfl, sm_go _ _⟩, trivial⟩⟩⟩⟩⟩⟩⟩⟩⟩⟩⟩⟩⟩
set_option maxRecDepth 20000 in
theorem kX5_carry_70 : sx_BK sx_tb yX5_carry.cls cX5_carry 6 (some .int) ({ frames := 1, cells := 0, slots := 0, locals := 26 } : Room) false false 0 (fun _ => 0) 70 (bX5_carry_70) := ⟨_, ⟨sn_aload_n dX5_carry_70 rfl, sm_al _⟩, ⟨_, ⟨sn_iconst dX5_carry_71 (by decide +kernel), sm_const _⟩, ⟨_, ⟨sn_cv_i (N := 4) (T := TX5) ztb_X5_find dX5_carry_72 rfl rfl zw_1_177 zw_1_178 zw_1_179 zw_1_2 zw_1_180 zmh_X5 zpd_X5_find (Nat.le_of_ble_eq_true rfl) (Nat.le_of_ble_eq_true rfl) rfl rfl, sm_cv _ _ _ _ _ _ _⟩, ⟨_, ⟨sn_ri (len := 1) dX5_carry_75 rfl, sm_ri⟩, trivial⟩⟩⟩⟩
set_option maxRecDepth 20000 in
theorem kX5_carry_76 : sx_BK sx_tb yX5_carry.cls cX5_carry 6 (some .int) ({ frames := 1, cells := 0, slots := 0, locals := 26 } : Room) false false 0 (fun _ => 0) 76 (bX5_carry_76) := ⟨_, ⟨sn_aload_n dX5_carry_76 rfl, sm_al _⟩, ⟨_, ⟨sn_get (C := RX5) (T := TX5) (N := 4) dX5_carry_77 rfl zinX5 (Nat.le_of_ble_eq_true rfl) zw_1_29, sm_get _ _⟩, ⟨_, ⟨sn_iload_n dX5_carry_80 rfl, sm_il _⟩, ⟨_, ⟨sn_aald3 dX5_carry_81, sm_aald _⟩, ⟨_, ⟨sn_iload_n dX5_carry_82 rfl, sm_il _⟩, ⟨_, ⟨sn_aload_n dX5_carry_83 rfl, sm_al _⟩, ⟨_, ⟨sn_get (C := RX5) (T := TX5) (N := 4) dX5_carry_84 rfl zinX5 (Nat.le_of_ble_eq_true rfl) zw_1_29, sm_get _ _⟩, ⟨_, ⟨sn_iload_n dX5_carry_87 rfl, sm_il _⟩, ⟨_, ⟨sn_aald3 dX5_carry_88, sm_aald _⟩, ⟨_, ⟨sn_iload dX5_carry_89, sm_il _⟩, ⟨_, ⟨sn_iload dX5_carry_91, sm_il _⟩, ⟨_, ⟨sn_copy dX5_carry_93 zw_1_209 zw_1_211 zw_1_210 zw_1_9 (Nat.le_of_ble_eq_true rfl) (by decide +kernel), sm_copy⟩, ⟨_, ⟨sn_aload_n dX5_carry_96 rfl, sm_al _⟩, ⟨_, ⟨sn_iconst dX5_carry_97 (by decide +kernel), sm_const _⟩, ⟨_, ⟨sn_put (C := RX5) (T := TX5) (N := 4) dX5_carry_98 rfl zinX5 tyX5_ok nmX5 (Nat.le_of_ble_eq_true rfl) zw_1_33 rfl (tyX5_ok 3 (Nat.le_of_ble_eq_true rfl)) trivial, sm_put _ _ _⟩, ⟨_, ⟨sn_iload dX5_carry_101, sm_il _⟩, ⟨_, ⟨sn_ri (len := 1) dX5_carry_103 rfl, sm_ri⟩, trivial⟩⟩⟩⟩⟩⟩⟩⟩⟩⟩⟩⟩⟩⟩⟩⟩⟩
theorem kX5_carry : ∀ pc, sx_BK sx_tb yX5_carry.cls cX5_carry 6 (some .int) ({ frames := 1, cells := 0, slots := 0, locals := 26 } : Room) false false 0 (fun _ => 0) pc (BX5_carry pc) := fun pc => sx_bk_if (kX5_carry_0) (sx_bk_if (kX5_carry_20) (sx_bk_if (kX5_carry_26) (sx_bk_if (kX5_carry_47) (sx_bk_if (kX5_carry_70) (sx_bk_if (kX5_carry_76) (trivial))))))
theorem okX5_carry : sx_ok sx_tb BX5_carry (yX5_carry, cX5_carry, 6, some .int, { frames := 1, cells := 0, slots := 0, locals := 26 }) := ⟨by decide, by decide +kernel, false, (fun h => by cases h), kX5_carry⟩
theorem dX5_lose_0 : decode cX5_lose 0 = .ok (.aload_n 0, 1) := by decide +kernel
theorem dX5_lose_1 : decode cX5_lose 1 = .ok (.getfield 18, 3) := by decide +kernel
theorem dX5_lose_4 : decode cX5_lose 4 = .ok (.iload_n 1, 1) := by decide +kernel
theorem dX5_lose_5 : decode cX5_lose 5 = .ok (.iaload, 1) := by decide +kernel
theorem dX5_lose_6 : decode cX5_lose 6 = .ok (.iconst (-1), 1) := by decide +kernel
theorem dX5_lose_7 : decode cX5_lose 7 = .ok (.if_icmp .ne 9, 3) := by decide +kernel
theorem dX5_lose_10 : decode cX5_lose 10 = .ok (.aload_n 0, 1) := by decide +kernel
theorem dX5_lose_11 : decode cX5_lose 11 = .ok (.iconst 1, 1) := by decide +kernel
theorem dX5_lose_12 : decode cX5_lose 12 = .ok (.invokevirtual 26, 3) := by decide +kernel
theorem dX5_lose_15 : decode cX5_lose 15 = .ok (.ireturn, 1) := by decide +kernel
theorem dX5_lose_16 : decode cX5_lose 16 = .ok (.aload_n 0, 1) := by decide +kernel
theorem dX5_lose_17 : decode cX5_lose 17 = .ok (.getfield 18, 3) := by decide +kernel
theorem dX5_lose_20 : decode cX5_lose 20 = .ok (.iload_n 1, 1) := by decide +kernel
theorem dX5_lose_21 : decode cX5_lose 21 = .ok (.iaload, 1) := by decide +kernel
theorem dX5_lose_22 : decode cX5_lose 22 = .ok (.istore_n 2, 1) := by decide +kernel
theorem dX5_lose_23 : decode cX5_lose 23 = .ok (.aload_n 0, 1) := by decide +kernel
theorem dX5_lose_24 : decode cX5_lose 24 = .ok (.getfield 18, 3) := by decide +kernel
theorem dX5_lose_27 : decode cX5_lose 27 = .ok (.iload_n 1, 1) := by decide +kernel
theorem dX5_lose_28 : decode cX5_lose 28 = .ok (.iconst (-1), 1) := by decide +kernel
theorem dX5_lose_29 : decode cX5_lose 29 = .ok (.iastore, 1) := by decide +kernel
theorem dX5_lose_30 : decode cX5_lose 30 = .ok (.aload_n 0, 1) := by decide +kernel
theorem dX5_lose_31 : decode cX5_lose 31 = .ok (.iconst 0, 1) := by decide +kernel
theorem dX5_lose_32 : decode cX5_lose 32 = .ok (.putfield 21, 3) := by decide +kernel
theorem dX5_lose_35 : decode cX5_lose 35 = .ok (.iload_n 2, 1) := by decide +kernel
theorem dX5_lose_36 : decode cX5_lose 36 = .ok (.ireturn, 1) := by decide +kernel
def bX5_lose_0 : List sx_S := [si_al 0, si_get 4 2, si_il 1, si_iald, si_const (-1), si_if2 (fun x y => ¬ x = y) 16 [true, true, false], si_al 0, si_const 1, si_cv 4 63 1 0 0 0 0, si_ri]
def bX5_lose_16 : List sx_S := [si_al 0, si_get 4 2, si_il 1, si_iald, si_is 2, si_al 0, si_get 4 2, si_il 1, si_const (-1), si_iast, si_al 0, si_const 0, si_put 4 3 0, si_il 2, si_ri]
def BX5_lose : Nat → List sx_S := fun pc => if pc = 0 then bX5_lose_0 else if pc = 16 then bX5_lose_16 else []
set_option maxRecDepth 20000 in
theorem kX5_lose_0 : sx_BK sx_tb yX5_lose.cls cX5_lose 3 (some .int) ({ frames := 1, cells := 0, slots := 0, locals := 21 } : Room) false false 0 (fun _ => 0) 0 (bX5_lose_0) := ⟨_, ⟨sn_aload_n dX5_lose_0 rfl, sm_al _⟩, ⟨_, ⟨sn_get (C := RX5) (T := TX5) (N := 4) dX5_lose_1 rfl zinX5 (Nat.le_of_ble_eq_true rfl) zw_1_32, sm_get _ _⟩, ⟨_, ⟨sn_iload_n dX5_lose_4 rfl, sm_il _⟩, ⟨_, ⟨sn_iald dX5_lose_5, sm_iald⟩, ⟨_, ⟨sn_iconst dX5_lose_6 (by decide +kernel), sm_const _⟩, ⟨_, ⟨sn_ic_ne dX5_lose_7 (by decide +kernel) rfl, sm_if2 _ _ _⟩, ⟨_, ⟨sn_aload_n dX5_lose_10 rfl, sm_al _⟩, ⟨_, ⟨sn_iconst dX5_lose_11 (by decide +kernel), sm_const _⟩, ⟨_, ⟨sn_cv_i (N := 4) (T := TX5) ztb_X5_find dX5_lose_12 rfl rfl zw_1_177 zw_1_178 zw_1_179 zw_1_2 zw_1_180 zmh_X5 zpd_X5_find (Nat.le_of_ble_eq_true rfl) (Nat.le_of_ble_eq_true rfl) rfl rfl, sm_cv _ _ _ _ _ _ _⟩, ⟨_, ⟨sn_ri (len := 1) dX5_lose_15 rfl, sm_ri⟩, trivial⟩⟩⟩⟩⟩⟩⟩⟩⟩⟩
set_option maxRecDepth 20000 in
theorem kX5_lose_16 : sx_BK sx_tb yX5_lose.cls cX5_lose 3 (some .int) ({ frames := 1, cells := 0, slots := 0, locals := 21 } : Room) false false 0 (fun _ => 0) 16 (bX5_lose_16) := ⟨_, ⟨sn_aload_n dX5_lose_16 rfl, sm_al _⟩, ⟨_, ⟨sn_get (C := RX5) (T := TX5) (N := 4) dX5_lose_17 rfl zinX5 (Nat.le_of_ble_eq_true rfl) zw_1_32, sm_get _ _⟩, ⟨_, ⟨sn_iload_n dX5_lose_20 rfl, sm_il _⟩, ⟨_, ⟨sn_iald dX5_lose_21, sm_iald⟩, ⟨_, ⟨sn_istore_n dX5_lose_22 rfl (Nat.le_of_ble_eq_true rfl), sm_is _⟩, ⟨_, ⟨sn_aload_n dX5_lose_23 rfl, sm_al _⟩, ⟨_, ⟨sn_get (C := RX5) (T := TX5) (N := 4) dX5_lose_24 rfl zinX5 (Nat.le_of_ble_eq_true rfl) zw_1_32, sm_get _ _⟩, ⟨_, ⟨sn_iload_n dX5_lose_27 rfl, sm_il _⟩, ⟨_, ⟨sn_iconst dX5_lose_28 (by decide +kernel), sm_const _⟩, ⟨_, ⟨sn_iast dX5_lose_29, sm_iast⟩, ⟨_, ⟨sn_aload_n dX5_lose_30 rfl, sm_al _⟩, ⟨_, ⟨sn_iconst dX5_lose_31 (by decide +kernel), sm_const _⟩, ⟨_, ⟨sn_put (C := RX5) (T := TX5) (N := 4) dX5_lose_32 rfl zinX5 tyX5_ok nmX5 (Nat.le_of_ble_eq_true rfl) zw_1_33 rfl (tyX5_ok 3 (Nat.le_of_ble_eq_true rfl)) trivial, sm_put _ _ _⟩, ⟨_, ⟨sn_iload_n dX5_lose_35 rfl, sm_il _⟩, ⟨_, ⟨sn_ri (len := 1) dX5_lose_36 rfl, sm_ri⟩, trivial⟩⟩⟩⟩⟩⟩⟩⟩⟩⟩⟩⟩⟩⟩⟩
theorem kX5_lose : ∀ pc, sx_BK sx_tb yX5_lose.cls cX5_lose 3 (some .int) ({ frames := 1, cells := 0, slots := 0, locals := 21 } : Room) false false 0 (fun _ => 0) pc (BX5_lose pc) := fun pc => sx_bk_if (kX5_lose_0) (sx_bk_if (kX5_lose_16) (trivial))
theorem okX5_lose : sx_ok sx_tb BX5_lose (yX5_lose, cX5_lose, 3, some .int, { frames := 1, cells := 0, slots := 0, locals := 21 }) := ⟨by decide, by decide +kernel, false, (fun h => by cases h), kX5_lose⟩
theorem dX5_look_0 : decode cX5_look 0 = .ok (.aload_n 0, 1) := by decide +kernel
theorem dX5_look_1 : decode cX5_look 1 = .ok (.getfield 18, 3) := by decide +kernel
theorem dX5_look_4 : decode cX5_look 4 = .ok (.iload_n 1, 1) := by decide +kernel
theorem dX5_look_5 : decode cX5_look 5 = .ok (.iaload, 1) := by decide +kernel
theorem dX5_look_6 : decode cX5_look 6 = .ok (.iconst (-1), 1) := by decide +kernel
theorem dX5_look_7 : decode cX5_look 7 = .ok (.if_icmp .ne 9, 3) := by decide +kernel
theorem dX5_look_10 : decode cX5_look 10 = .ok (.aload_n 0, 1) := by decide +kernel
theorem dX5_look_11 : decode cX5_look 11 = .ok (.iconst 1, 1) := by decide +kernel
theorem dX5_look_12 : decode cX5_look 12 = .ok (.invokevirtual 26, 3) := by decide +kernel
theorem dX5_look_15 : decode cX5_look 15 = .ok (.ireturn, 1) := by decide +kernel
theorem dX5_look_16 : decode cX5_look 16 = .ok (.aload_n 0, 1) := by decide +kernel
theorem dX5_look_17 : decode cX5_look 17 = .ok (.iload_n 1, 1) := by decide +kernel
theorem dX5_look_18 : decode cX5_look 18 = .ok (.iload_n 2, 1) := by decide +kernel
theorem dX5_look_19 : decode cX5_look 19 = .ok (.iload_n 3, 1) := by decide +kernel
theorem dX5_look_20 : decode cX5_look 20 = .ok (.invokevirtual 38, 3) := by decide +kernel
theorem dX5_look_23 : decode cX5_look 23 = .ok (.ifCond .ne 9, 3) := by decide +kernel
theorem dX5_look_26 : decode cX5_look 26 = .ok (.aload_n 0, 1) := by decide +kernel
theorem dX5_look_27 : decode cX5_look 27 = .ok (.iconst 2, 1) := by decide +kernel
theorem dX5_look_28 : decode cX5_look 28 = .ok (.invokevirtual 26, 3) := by decide +kernel
theorem dX5_look_31 : decode cX5_look 31 = .ok (.ireturn, 1) := by decide +kernel
theorem dX5_look_32 : decode cX5_look 32 = .ok (.aload_n 0, 1) := by decide +kernel
theorem dX5_look_33 : decode cX5_look 33 = .ok (.iconst 0, 1) := by decide +kernel
theorem dX5_look_34 : decode cX5_look 34 = .ok (.putfield 21, 3) := by decide +kernel
theorem dX5_look_37 : decode cX5_look 37 = .ok (.iconst 0, 1) := by decide +kernel
theorem dX5_look_38 : decode cX5_look 38 = .ok (.ireturn, 1) := by decide +kernel
def bX5_look_0 : List sx_S := [si_al 0, si_get 4 2, si_il 1, si_iald, si_const (-1), si_if2 (fun x y => ¬ x = y) 16 [true, true, true, true], si_al 0, si_const 1, si_cv 4 63 1 0 0 0 0, si_ri]
def bX5_look_16 : List sx_S := [si_al 0, si_il 1, si_il 2, si_il 3, si_cv 4 70 3 0 0 0 0, si_if1 (fun x => ¬ x = 0) 32 [true, false, false, false], si_al 0, si_const (nI 2), si_cv 4 63 1 0 0 0 0, si_ri]
def bX5_look_32 : List sx_S := [si_al 0, si_const 0, si_put 4 3 0, si_const 0, si_ri]
def BX5_look : Nat → List sx_S := fun pc => if pc = 0 then bX5_look_0 else if pc = 16 then bX5_look_16 else if pc = 32 then bX5_look_32 else []
set_option maxRecDepth 20000 in
theorem kX5_look_0 : sx_BK sx_tb yX5_look.cls cX5_look 4 (some .int) ({ frames := 1, cells := 0, slots := 0, locals := 23 } : Room) false false 0 (fun _ => 0) 0 (bX5_look_0) := ⟨_, ⟨sn_aload_n dX5_look_0 rfl, sm_al _⟩, ⟨_, ⟨sn_get (C := RX5) (T := TX5) (N := 4) dX5_look_1 rfl zinX5 (Nat.le_of_ble_eq_true rfl) zw_1_32, sm_get _ _⟩, ⟨_, ⟨sn_iload_n dX5_look_4 rfl, sm_il _⟩, ⟨_, ⟨sn_iald dX5_look_5, sm_iald⟩, ⟨_, ⟨sn_iconst dX5_look_6 (by decide +kernel), sm_const _⟩, ⟨_, ⟨sn_ic_ne dX5_look_7 (by decide +kernel) rfl, sm_if2 _ _ _⟩, ⟨_, ⟨sn_aload_n dX5_look_10 rfl, sm_al _⟩, ⟨_, ⟨sn_iconst dX5_look_11 (by decide +kernel), sm_const _⟩, ⟨_, ⟨sn_cv_i (N := 4) (T := TX5) ztb_X5_find dX5_look_12 rfl rfl zw_1_177 zw_1_178 zw_1_179 zw_1_2 zw_1_180 zmh_X5 zpd_X5_find (Nat.le_of_ble_eq_true rfl) (Nat.le_of_ble_eq_true rfl) rfl rfl, sm_cv _ _ _ _ _ _ _⟩, ⟨_, ⟨sn_ri (len := 1) dX5_look_15 rfl, sm_ri⟩, trivial⟩⟩⟩⟩⟩⟩⟩⟩⟩⟩
set_option maxRecDepth 20000 in
theorem kX5_look_16 : sx_BK sx_tb yX5_look.cls cX5_look 4 (some .int) ({ frames := 1, cells := 0, slots := 0, locals := 23 } : Room) false false 0 (fun _ => 0) 16 (bX5_look_16) := ⟨_, ⟨sn_aload_n dX5_look_16 rfl, sm_al _⟩, ⟨_, ⟨sn_iload_n dX5_look_17 rfl, sm_il _⟩, ⟨_, ⟨sn_iload_n dX5_look_18 rfl, sm_il _⟩, ⟨_, ⟨sn_iload_n dX5_look_19 rfl, sm_il _⟩, ⟨_, ⟨sn_cv_z (N := 4) (T := TX5) ztb_X5_fits dX5_look_20 rfl rfl zw_1_194 zw_1_196 zw_0_0 zw_1_2 zw_1_197 zmh_X5 zpd_X5_fits (Nat.le_of_ble_eq_true rfl) (Nat.le_of_ble_eq_true rfl) rfl rfl, sm_cv _ _ _ _ _ _ _⟩, ⟨_, ⟨sn_if_ne dX5_look_23 (by decide +kernel) rfl, sm_if1 _ _ _⟩, ⟨_, ⟨sn_aload_n dX5_look_26 rfl, sm_al _⟩, ⟨_, ⟨sn_iconst dX5_look_27 (by decide +kernel), sm_const _⟩, ⟨_, ⟨sn_cv_i (N := 4) (T := TX5) ztb_X5_find dX5_look_28 rfl rfl zw_1_177 zw_1_178 zw_1_179 zw_1_2 zw_1_180 zmh_X5 zpd_X5_find (Nat.le_of_ble_eq_true rfl) (Nat.le_of_ble_eq_true rfl) rfl rfl, sm_cv _ _ _ _ _ _ _⟩, ⟨_, ⟨sn_ri (len := 1) dX5_look_31 rfl, sm_ri⟩, trivial⟩⟩⟩⟩⟩⟩⟩⟩⟩⟩
set_option maxRecDepth 20000 in
theorem kX5_look_32 : sx_BK sx_tb yX5_look.cls cX5_look 4 (some .int) ({ frames := 1, cells := 0, slots := 0, locals := 23 } : Room) false false 0 (fun _ => 0) 32 (bX5_look_32) := ⟨_, ⟨sn_aload_n dX5_look_32 rfl, sm_al _⟩, ⟨_, ⟨sn_iconst dX5_look_33 (by decide +kernel), sm_const _⟩, ⟨_, ⟨sn_put (C := RX5) (T := TX5) (N := 4) dX5_look_34 rfl zinX5 tyX5_ok nmX5 (Nat.le_of_ble_eq_true rfl) zw_1_33 rfl (tyX5_ok 3 (Nat.le_of_ble_eq_true rfl)) trivial, sm_put _ _ _⟩, ⟨_, ⟨sn_iconst dX5_look_37 (by decide +kernel), sm_const _⟩, ⟨_, ⟨sn_ri (len := 1) dX5_look_38 rfl, sm_ri⟩, trivial⟩⟩⟩⟩⟩
theorem kX5_look : ∀ pc, sx_BK sx_tb yX5_look.cls cX5_look 4 (some .int) ({ frames := 1, cells := 0, slots := 0, locals := 23 } : Room) false false 0 (fun _ => 0) pc (BX5_look pc) := fun pc => sx_bk_if (kX5_look_0) (sx_bk_if (kX5_look_16) (sx_bk_if (kX5_look_32) (trivial)))
theorem okX5_look : sx_ok sx_tb BX5_look (yX5_look, cX5_look, 4, some .int, { frames := 1, cells := 0, slots := 0, locals := 23 }) := ⟨by decide, by decide +kernel, false, (fun h => by cases h), kX5_look⟩
theorem dX5_present_0 : decode cX5_present 0 = .ok (.iconst 0, 1) := by decide +kernel
theorem dX5_present_1 : decode cX5_present 1 = .ok (.istore_n 1, 1) := by decide +kernel
theorem dX5_present_2 : decode cX5_present 2 = .ok (.iconst 0, 1) := by decide +kernel
theorem dX5_present_3 : decode cX5_present 3 = .ok (.istore_n 2, 1) := by decide +kernel
theorem dX5_present_4 : decode cX5_present 4 = .ok (.iload_n 2, 1) := by decide +kernel
theorem dX5_present_5 : decode cX5_present 5 = .ok (.bipush 8, 2) := by decide +kernel
theorem dX5_present_7 : decode cX5_present 7 = .ok (.if_icmp .ge 22, 3) := by decide +kernel
theorem dX5_present_10 : decode cX5_present 10 = .ok (.aload_n 0, 1) := by decide +kernel
theorem dX5_present_11 : decode cX5_present 11 = .ok (.getfield 18, 3) := by decide +kernel
theorem dX5_present_14 : decode cX5_present 14 = .ok (.iload_n 2, 1) := by decide +kernel
theorem dX5_present_15 : decode cX5_present 15 = .ok (.iaload, 1) := by decide +kernel
theorem dX5_present_16 : decode cX5_present 16 = .ok (.iconst (-1), 1) := by decide +kernel
theorem dX5_present_17 : decode cX5_present 17 = .ok (.if_icmp .eq 6, 3) := by decide +kernel
theorem dX5_present_20 : decode cX5_present 20 = .ok (.iinc 1 1, 3) := by decide +kernel
theorem dX5_present_23 : decode cX5_present 23 = .ok (.iinc 2 1, 3) := by decide +kernel
theorem dX5_present_26 : decode cX5_present 26 = .ok (.goto (-22), 3) := by decide +kernel
theorem dX5_present_29 : decode cX5_present 29 = .ok (.iload_n 1, 1) := by decide +kernel
theorem dX5_present_30 : decode cX5_present 30 = .ok (.ireturn, 1) := by decide +kernel
def bX5_present_0 : List sx_S := [si_const 0, si_is 1, si_const 0, si_is 2, si_go 4 [true, true, true]]
def bX5_present_4 : List sx_S := [si_il 2, si_const (nI 8), si_if2 (fun x y => y ≤ x) 29 [false, true, false], si_al 0, si_get 4 2, si_il 2, si_iald, si_const (-1), si_if2 (fun x y => x = y) 23 [true, true, true], si_inc 1 1, si_go 23 [true, true, true]]
def bX5_present_23 : List sx_S := [si_inc 2 1, si_go 4 [true, true, true]]
def bX5_present_29 : List sx_S := [si_il 1, si_ri]
def BX5_present : Nat → List sx_S := fun pc => if pc = 0 then bX5_present_0 else if pc = 4 then bX5_present_4 else if pc = 23 then bX5_present_23 else if pc = 29 then bX5_present_29 else []
set_option maxRecDepth 20000 in
theorem kX5_present_0 : sx_BK sx_tb yX5_present.cls cX5_present 3 (some .int) ({ frames := 0, cells := 0, slots := 0, locals := 0 } : Room) false false 0 (fun _ => 0) 0 (bX5_present_0) := ⟨_, ⟨sn_iconst dX5_present_0 (by decide +kernel), sm_const _⟩, ⟨_, ⟨sn_istore_n dX5_present_1 rfl (Nat.le_of_ble_eq_true rfl), sm_is _⟩, ⟨_, ⟨sn_iconst dX5_present_2 (by decide +kernel), sm_const _⟩, ⟨_, ⟨sn_istore_n dX5_present_3 rfl (Nat.le_of_ble_eq_true rfl), sm_is _⟩, ⟨_, ⟨sn_fall (len := 0) rfl rfl, sm_go _ _⟩, trivial⟩⟩⟩⟩⟩
set_option maxRecDepth 20000 in
theorem kX5_present_4 : sx_BK sx_tb yX5_present.cls cX5_present 3 (some .int) ({ frames := 0, cells := 0, slots := 0, locals := 0 } : Room) false false 0 (fun _ => 0) 4 (bX5_present_4) := ⟨_, ⟨sn_iload_n dX5_present_4 rfl, sm_il _⟩, ⟨_, ⟨sn_bipush dX5_present_5 (by decide +kernel), sm_const _⟩, ⟨_, ⟨sn_ic_ge dX5_present_7 (by decide +kernel) rfl, sm_if2 _ _ _⟩, ⟨_, ⟨sn_aload_n dX5_present_10 rfl, sm_al _⟩, ⟨_, ⟨sn_get (C := RX5) (T := TX5) (N := 4) dX5_present_11 rfl zinX5 (Nat.le_of_ble_eq_true rfl) zw_1_32, sm_get _ _⟩, ⟨_, ⟨sn_iload_n dX5_present_14 rfl, sm_il _⟩, ⟨_, ⟨sn_iald dX5_present_15, sm_iald⟩, ⟨_, ⟨sn_iconst dX5_present_16 (by decide +kernel), sm_const _⟩, ⟨_, ⟨sn_ic_eq dX5_present_17 (by decide +kernel) rfl, sm_if2 _ _ _⟩, ⟨_, ⟨sn_iinc dX5_present_20 (by decide +kernel) (Nat.le_of_ble_eq_true rfl), sm_inc _ _⟩, ⟨_, ⟨sn_fall (len := 0) rfl rfl, sm_go _ _⟩, trivial⟩⟩⟩⟩⟩⟩⟩⟩⟩⟩⟩
set_option maxRecDepth 20000 in
theorem kX5_present_23 : sx_BK sx_tb yX5_present.cls cX5_present 3 (some .int) ({ frames := 0, cells := 0, slots := 0, locals := 0 } : Room) false false 0 (fun _ => 0) 23 (bX5_present_23) := ⟨_, ⟨sn_iinc dX5_present_23 (by decide +kernel) (Nat.le_of_ble_eq_true rfl), sm_inc _ _⟩, ⟨_, ⟨sn_goto (len := 3) dX5_present_26 (by decide +kernel) rfl, sm_go _ _⟩, trivial⟩⟩
set_option maxRecDepth 20000 in
theorem kX5_present_29 : sx_BK sx_tb yX5_present.cls cX5_present 3 (some .int) ({ frames := 0, cells := 0, slots := 0, locals := 0 } : Room) false false 0 (fun _ => 0) 29 (bX5_present_29) := ⟨_, ⟨sn_iload_n dX5_present_29 rfl, sm_il _⟩, ⟨_, ⟨sn_ri (len := 1) dX5_present_30 rfl, sm_ri⟩, trivial⟩⟩
theorem kX5_present : ∀ pc, sx_BK sx_tb yX5_present.cls cX5_present 3 (some .int) ({ frames := 0, cells := 0, slots := 0, locals := 0 } : Room) false false 0 (fun _ => 0) pc (BX5_present pc) := fun pc => sx_bk_if (kX5_present_0) (sx_bk_if (kX5_present_4) (sx_bk_if (kX5_present_23) (sx_bk_if (kX5_present_29) (trivial))))
theorem okX5_present : sx_ok sx_tb BX5_present (yX5_present, cX5_present, 3, some .int, { frames := 0, cells := 0, slots := 0, locals := 0 }) := ⟨by decide, by decide +kernel, false, (fun h => by cases h), kX5_present⟩
theorem dX5_fits_0 : decode cX5_fits 0 = .ok (.iload_n 2, 1) := by decide +kernel
theorem dX5_fits_1 : decode cX5_fits 1 = .ok (.ifCond .lt 23, 3) := by decide +kernel
theorem dX5_fits_4 : decode cX5_fits 4 = .ok (.iload_n 3, 1) := by decide +kernel
theorem dX5_fits_5 : decode cX5_fits 5 = .ok (.ifCond .lt 19, 3) := by decide +kernel
theorem dX5_fits_8 : decode cX5_fits 8 = .ok (.iload_n 2, 1) := by decide +kernel
theorem dX5_fits_9 : decode cX5_fits 9 = .ok (.aload_n 0, 1) := by decide +kernel
theorem dX5_fits_10 : decode cX5_fits 10 = .ok (.getfield 18, 3) := by decide +kernel
theorem dX5_fits_13 : decode cX5_fits 13 = .ok (.iload_n 1, 1) := by decide +kernel
theorem dX5_fits_14 : decode cX5_fits 14 = .ok (.iaload, 1) := by decide +kernel
theorem dX5_fits_15 : decode cX5_fits 15 = .ok (.iload_n 3, 1) := by decide +kernel
theorem dX5_fits_16 : decode cX5_fits 16 = .ok (.isub, 1) := by decide +kernel
theorem dX5_fits_17 : decode cX5_fits 17 = .ok (.if_icmp .gt 7, 3) := by decide +kernel
theorem dX5_fits_20 : decode cX5_fits 20 = .ok (.iconst 1, 1) := by decide +kernel
theorem dX5_fits_21 : decode cX5_fits 21 = .ok (.goto 4, 3) := by decide +kernel
theorem dX5_fits_24 : decode cX5_fits 24 = .ok (.iconst 0, 1) := by decide +kernel
theorem dX5_fits_25 : decode cX5_fits 25 = .ok (.ireturn, 1) := by decide +kernel
def bX5_fits_0 : List sx_S := [si_il 2, si_if1 (fun x => x < 0) 24 [false, false, false, false], si_il 3, si_if1 (fun x => x < 0) 24 [false, false, false, false], si_il 2, si_al 0, si_get 4 2, si_il 1, si_iald, si_il 3, si_bin (fun x y => x - y), si_if2 (fun x y => y < x) 24 [false, false, false, false], si_const 1, si_go 25 [false, false, false, false]]
def bX5_fits_24 : List sx_S := [si_const 0, si_go 25 [false, false, false, false]]
def bX5_fits_25 : List sx_S := [si_rz]
def BX5_fits : Nat → List sx_S := fun pc => if pc = 0 then bX5_fits_0 else if pc = 24 then bX5_fits_24 else if pc = 25 then bX5_fits_25 else []
set_option maxRecDepth 20000 in
theorem kX5_fits_0 : sx_BK sx_tb yX5_fits.cls cX5_fits 4 (some .boolean) ({ frames := 0, cells := 0, slots := 0, locals := 0 } : Room) false false 0 (fun _ => 0) 0 (bX5_fits_0) := ⟨_, ⟨sn_iload_n dX5_fits_0 rfl, sm_il _⟩, ⟨_, ⟨sn_if_lt dX5_fits_1 (by decide +kernel) rfl, sm_if1 _ _ _⟩, ⟨_, ⟨sn_iload_n dX5_fits_4 rfl, sm_il _⟩, ⟨_, ⟨sn_if_lt dX5_fits_5 (by decide +kernel) rfl, sm_if1 _ _ _⟩, ⟨_, ⟨sn_iload_n dX5_fits_8 rfl, sm_il _⟩, ⟨_, ⟨sn_aload_n dX5_fits_9 rfl, sm_al _⟩, ⟨_, ⟨sn_get (C := RX5) (T := TX5) (N := 4) dX5_fits_10 rfl zinX5 (Nat.le_of_ble_eq_true rfl) zw_1_32, sm_get _ _⟩, ⟨_, ⟨sn_iload_n dX5_fits_13 rfl, sm_il _⟩, ⟨_, ⟨sn_iald dX5_fits_14, sm_iald⟩, ⟨_, ⟨sn_iload_n dX5_fits_15 rfl, sm_il _⟩, ⟨_, ⟨sn_isub dX5_fits_16, sm_bin _⟩, ⟨_, ⟨sn_ic_gt dX5_fits_17 (by decide +kernel) rfl, sm_if2 _ _ _⟩, ⟨_, ⟨sn_iconst dX5_fits_20 (by decide +kernel), sm_const _⟩, ⟨_, ⟨sn_goto (len := 3) dX5_fits_21 (by decide +kernel) rfl, sm_go _ _⟩, trivial⟩⟩⟩⟩⟩⟩⟩⟩⟩⟩⟩⟩⟩⟩
set_option maxRecDepth 20000 in
theorem kX5_fits_24 : sx_BK sx_tb yX5_fits.cls cX5_fits 4 (some .boolean) ({ frames := 0, cells := 0, slots := 0, locals := 0 } : Room) false false 0 (fun _ => 0) 24 (bX5_fits_24) := ⟨_, ⟨sn_iconst dX5_fits_24 (by decide +kernel), sm_const _⟩, ⟨_, ⟨sn_fall (len := 0) rfl rfl, sm_go _ _⟩, trivial⟩⟩
set_option maxRecDepth 20000 in
theorem kX5_fits_25 : sx_BK sx_tb yX5_fits.cls cX5_fits 4 (some .boolean) ({ frames := 0, cells := 0, slots := 0, locals := 0 } : Room) false false 0 (fun _ => 0) 25 (bX5_fits_25) := ⟨_, ⟨sn_rz (len := 1) dX5_fits_25 rfl, sm_rz⟩, trivial⟩
theorem kX5_fits : ∀ pc, sx_BK sx_tb yX5_fits.cls cX5_fits 4 (some .boolean) ({ frames := 0, cells := 0, slots := 0, locals := 0 } : Room) false false 0 (fun _ => 0) pc (BX5_fits pc) := fun pc => sx_bk_if (kX5_fits_0) (sx_bk_if (kX5_fits_24) (sx_bk_if (kX5_fits_25) (trivial)))
theorem okX5_fits : sx_ok sx_tb BX5_fits (yX5_fits, cX5_fits, 4, some .boolean, { frames := 0, cells := 0, slots := 0, locals := 0 }) := ⟨by decide, by decide +kernel, false, (fun h => by cases h), kX5_fits⟩
theorem dX5_narrowed_0 : decode cX5_narrowed 0 = .ok (.iload_n 1, 1) := by decide +kernel
theorem dX5_narrowed_1 : decode cX5_narrowed 1 = .ok (.ifCond .ne 6, 3) := by decide +kernel
theorem dX5_narrowed_4 : decode cX5_narrowed 4 = .ok (.iload_n 0, 1) := by decide +kernel
theorem dX5_narrowed_5 : decode cX5_narrowed 5 = .ok (.i2b, 1) := by decide +kernel
theorem dX5_narrowed_6 : decode cX5_narrowed 6 = .ok (.ireturn, 1) := by decide +kernel
theorem dX5_narrowed_7 : decode cX5_narrowed 7 = .ok (.iload_n 1, 1) := by decide +kernel
theorem dX5_narrowed_8 : decode cX5_narrowed 8 = .ok (.iconst 1, 1) := by decide +kernel
theorem dX5_narrowed_9 : decode cX5_narrowed 9 = .ok (.if_icmp .ne 8, 3) := by decide +kernel
theorem dX5_narrowed_12 : decode cX5_narrowed 12 = .ok (.iload_n 0, 1) := by decide +kernel
theorem dX5_narrowed_13 : decode cX5_narrowed 13 = .ok (.i2s, 1) := by decide +kernel
theorem dX5_narrowed_14 : decode cX5_narrowed 14 = .ok (.goto 4, 3) := by decide +kernel
theorem dX5_narrowed_17 : decode cX5_narrowed 17 = .ok (.iload_n 0, 1) := by decide +kernel
theorem dX5_narrowed_18 : decode cX5_narrowed 18 = .ok (.ireturn, 1) := by decide +kernel
def bX5_narrowed_0 : List sx_S := [si_il 1, si_if1 (fun x => ¬ x = 0) 7 [true, true], si_il 0, si_un (fun x => x.toInt8.toInt32), si_ri]
def bX5_narrowed_7 : List sx_S := [si_il 1, si_const 1, si_if2 (fun x y => ¬ x = y) 17 [true, false], si_il 0, si_un (fun x => x.toInt16.toInt32), si_go 18 [false, false]]
def bX5_narrowed_17 : List sx_S := [si_il 0, si_go 18 [false, false]]
def bX5_narrowed_18 : List sx_S := [si_ri]
def BX5_narrowed : Nat → List sx_S := fun pc => if pc = 0 then bX5_narrowed_0 else if pc = 7 then bX5_narrowed_7 else if pc = 17 then bX5_narrowed_17 else if pc = 18 then bX5_narrowed_18 else []
set_option maxRecDepth 20000 in
theorem kX5_narrowed_0 : sx_BK sx_tb yX5_narrowed.cls cX5_narrowed 2 (some .int) ({ frames := 0, cells := 0, slots := 0, locals := 0 } : Room) false false 0 (fun _ => 0) 0 (bX5_narrowed_0) := ⟨_, ⟨sn_iload_n dX5_narrowed_0 rfl, sm_il _⟩, ⟨_, ⟨sn_if_ne dX5_narrowed_1 (by decide +kernel) rfl, sm_if1 _ _ _⟩, ⟨_, ⟨sn_iload_n dX5_narrowed_4 rfl, sm_il _⟩, ⟨_, ⟨sn_i2b dX5_narrowed_5, sm_un _⟩, ⟨_, ⟨sn_ri (len := 1) dX5_narrowed_6 rfl, sm_ri⟩, trivial⟩⟩⟩⟩⟩
set_option maxRecDepth 20000 in
theorem kX5_narrowed_7 : sx_BK sx_tb yX5_narrowed.cls cX5_narrowed 2 (some .int) ({ frames := 0, cells := 0, slots := 0, locals := 0 } : Room) false false 0 (fun _ => 0) 7 (bX5_narrowed_7) := ⟨_, ⟨sn_iload_n dX5_narrowed_7 rfl, sm_il _⟩, ⟨_, ⟨sn_iconst dX5_narrowed_8 (by decide +kernel), sm_const _⟩, ⟨_, ⟨sn_ic_ne dX5_narrowed_9 (by decide +kernel) rfl, sm_if2 _ _ _⟩, ⟨_, ⟨sn_iload_n dX5_narrowed_12 rfl, sm_il _⟩, ⟨_, ⟨sn_i2s dX5_narrowed_13, sm_un _⟩, ⟨_, ⟨sn_goto (len := 3) dX5_narrowed_14 (by decide +kernel) rfl, sm_go _ _⟩, trivial⟩⟩⟩⟩⟩⟩
set_option maxRecDepth 20000 in
theorem kX5_narrowed_17 : sx_BK sx_tb yX5_narrowed.cls cX5_narrowed 2 (some .int) ({ frames := 0, cells := 0, slots := 0, locals := 0 } : Room) false false 0 (fun _ => 0) 17 (bX5_narrowed_17) := ⟨_, ⟨sn_iload_n dX5_narrowed_17 rfl, sm_il _⟩, ⟨_, ⟨sn_fall (len := 0) rfl rfl, sm_go _ _⟩, trivial⟩⟩
set_option maxRecDepth 20000 in
theorem kX5_narrowed_18 : sx_BK sx_tb yX5_narrowed.cls cX5_narrowed 2 (some .int) ({ frames := 0, cells := 0, slots := 0, locals := 0 } : Room) false false 0 (fun _ => 0) 18 (bX5_narrowed_18) := ⟨_, ⟨sn_ri (len := 1) dX5_narrowed_18 rfl, sm_ri⟩, trivial⟩
theorem kX5_narrowed : ∀ pc, sx_BK sx_tb yX5_narrowed.cls cX5_narrowed 2 (some .int) ({ frames := 0, cells := 0, slots := 0, locals := 0 } : Room) false false 0 (fun _ => 0) pc (BX5_narrowed pc) := fun pc => sx_bk_if (kX5_narrowed_0) (sx_bk_if (kX5_narrowed_7) (sx_bk_if (kX5_narrowed_17) (sx_bk_if (kX5_narrowed_18) (trivial))))
theorem okX5_narrowed : sx_ok sx_tb BX5_narrowed (yX5_narrowed, cX5_narrowed, 2, some .int, { frames := 0, cells := 0, slots := 0, locals := 0 }) := ⟨by decide, by decide +kernel, false, (fun h => by cases h), kX5_narrowed⟩
theorem dX6_init_0 : decode cX6_init 0 = .ok (.aload_n 0, 1) := by decide +kernel
theorem dX6_init_1 : decode cX6_init 1 = .ok (.invokespecial 3, 3) := by decide +kernel
theorem dX6_init_4 : decode cX6_init 4 = .ok (.aload_n 0, 1) := by decide +kernel
theorem dX6_init_5 : decode cX6_init 5 = .ok (.bipush 120, 2) := by decide +kernel
theorem dX6_init_7 : decode cX6_init 7 = .ok (.newarray .int, 2) := by decide +kernel
theorem dX6_init_9 : decode cX6_init 9 = .ok (.putfield 11, 3) := by decide +kernel
theorem dX6_init_12 : decode cX6_init 12 = .ok (.aload_n 0, 1) := by decide +kernel
theorem dX6_init_13 : decode cX6_init 13 = .ok (.iconst 0, 1) := by decide +kernel
theorem dX6_init_14 : decode cX6_init 14 = .ok (.putfield 15, 3) := by decide +kernel
theorem dX6_init_17 : decode cX6_init 17 = .ok (.aload_n 0, 1) := by decide +kernel
theorem dX6_init_18 : decode cX6_init 18 = .ok (.iconst 0, 1) := by decide +kernel
theorem dX6_init_19 : decode cX6_init 19 = .ok (.putfield 19, 3) := by decide +kernel
theorem dX6_init_22 : decode cX6_init 22 = .ok (.aload_n 0, 1) := by decide +kernel
theorem dX6_init_23 : decode cX6_init 23 = .ok (.iconst 0, 1) := by decide +kernel
theorem dX6_init_24 : decode cX6_init 24 = .ok (.putfield 22, 3) := by decide +kernel
theorem dX6_init_27 : decode cX6_init 27 = .ok (.aload_n 0, 1) := by decide +kernel
theorem dX6_init_28 : decode cX6_init 28 = .ok (.iconst 0, 1) := by decide +kernel
theorem dX6_init_29 : decode cX6_init 29 = .ok (.putfield 25, 3) := by decide +kernel
theorem dX6_init_32 : decode cX6_init 32 = .ok (.return_, 1) := by decide +kernel
def bX6_init_0 : List sx_S := [si_al 0, si_oi, si_al 0, si_const (nI 120), si_newa 0 1 120, si_put 5 0 1, si_al 0, si_const 0, si_put 5 1 0, si_al 0, si_const 0, si_put 5 2 0, si_al 0, si_const 0, si_put 5 3 0, si_al 0, si_const 0, si_put 5 4 0, si_rv]
def BX6_init : Nat → List sx_S := fun pc => if pc = 0 then bX6_init_0 else []
set_option maxRecDepth 20000 in
theorem kX6_init_0 : sx_BK sx_tb yX6_init.cls cX6_init 1 (none) ({ frames := 1, cells := 1, slots := 120, locals := 20 } : Room) true false 0 (fun _ => 0) 0 (bX6_init_0) := ⟨_, ⟨sn_aload_n dX6_init_0 rfl, sm_al _⟩, ⟨_, ⟨sn_oi dX6_init_1 zw_1_50 zw_1_19 zw_1_20 (Nat.le_of_ble_eq_true rfl) (Nat.le_of_ble_eq_true rfl), sm_oi⟩, ⟨_, ⟨sn_aload_n dX6_init_4 rfl, sm_al _⟩, ⟨_, ⟨sn_bipush dX6_init_5 (by decide +kernel), sm_const _⟩, ⟨_, ⟨sn_newa0 dX6_init_7 zw_1_44, sm_newa _ _ _⟩, ⟨_, ⟨sn_putF (C := RX6) (T := TX6) (N := 5) dX6_init_9 rfl zinX6 tyX6_ok nmX6 (Nat.le_of_ble_eq_true rfl) zw_1_51 rfl rfl rfl (tyX6_ok 0 (Nat.le_of_ble_eq_true rfl)) trivial, sm_put _ _ _⟩, ⟨_, ⟨sn_aload_n dX6_init_12 rfl, sm_al _⟩, ⟨_, ⟨sn_iconst dX6_init_13 (by decide +kernel), sm_const _⟩, ⟨_, ⟨sn_put (C := RX6) (T := TX6) (N := 5) dX6_init_14 rfl zinX6 tyX6_ok nmX6 (Nat.le_of_ble_eq_true rfl) zw_1_52 rfl (tyX6_ok 1 (Nat.le_of_ble_eq_true rfl)) trivial, sm_put _ _ _⟩, ⟨_, ⟨sn_aload_n dX6_init_17 rfl, sm_al _⟩, ⟨_, ⟨sn_iconst dX6_init_18 (by decide +kernel), sm_const _⟩, ⟨_, ⟨sn_put (C := RX6) (T := TX6) (N := 5) dX6_init_19 rfl zinX6 tyX6_ok nmX6 (Nat.le_of_ble_eq_true rfl) zw_1_54 rfl (tyX6_ok 2 (Nat.le_of_ble_eq_true rfl)) trivial, sm_put _ _ _⟩, ⟨_, ⟨sn_aload_n dX6_init_22 rfl, sm_al _⟩, ⟨_, ⟨sn_iconst dX6_init_23 (by decide +kernel), sm_const _⟩, ⟨_, ⟨sn_put (C := RX6) (T := TX6) (N := 5) dX6_init_24 rfl zinX6 tyX6_ok nmX6 (Nat.le_of_ble_eq_true rfl) zw_1_56 rfl (tyX6_ok 3 (Nat.le_of_ble_eq_true rfl)) trivial, sm_put _ _ _⟩, ⟨_, ⟨sn_aload_n dX6_init_27 rfl, sm_al _⟩, ⟨_, ⟨sn_iconst dX6_init_28 (by decide +kernel), sm_const _⟩, ⟨_, ⟨sn_put (C := RX6) (T := TX6) (N := 5) dX6_init_29 rfl zinX6 tyX6_ok nmX6 (Nat.le_of_ble_eq_true rfl) zw_1_57 rfl (tyX6_ok 4 (Nat.le_of_ble_eq_true rfl)) trivial, sm_put _ _ _⟩, ⟨_, ⟨sn_rv (len := 1) dX6_init_32 rfl, sm_rv⟩, trivial⟩⟩⟩⟩⟩⟩⟩⟩⟩⟩⟩⟩⟩⟩⟩⟩⟩⟩⟩
theorem kX6_init : ∀ pc, sx_BK sx_tb yX6_init.cls cX6_init 1 (none) ({ frames := 1, cells := 1, slots := 120, locals := 20 } : Room) true false 0 (fun _ => 0) pc (BX6_init pc) := fun pc => sx_bk_if (kX6_init_0) (trivial)
theorem okX6_init : sx_ok sx_tb BX6_init (yX6_init, cX6_init, 1, none, { frames := 1, cells := 1, slots := 120, locals := 20 }) := ⟨by decide, by decide +kernel, true, (fun _ => rfl), kX6_init⟩
theorem dX6_add_0 : decode cX6_add 0 = .ok (.aload_n 0, 1) := by decide +kernel
theorem dX6_add_1 : decode cX6_add 1 = .ok (.getfield 15, 3) := by decide +kernel
theorem dX6_add_4 : decode cX6_add 4 = .ok (.bipush 120, 2) := by decide +kernel
theorem dX6_add_6 : decode cX6_add 6 = .ok (.if_icmp .lt 6, 3) := by decide +kernel
theorem dX6_add_9 : decode cX6_add 9 = .ok (.ldc 28, 2) := by decide +kernel
theorem dX6_add_11 : decode cX6_add 11 = .ok (.ireturn, 1) := by decide +kernel
theorem dX6_add_12 : decode cX6_add 12 = .ok (.aload_n 0, 1) := by decide +kernel
theorem dX6_add_13 : decode cX6_add 13 = .ok (.getfield 11, 3) := by decide +kernel
theorem dX6_add_16 : decode cX6_add 16 = .ok (.aload_n 0, 1) := by decide +kernel
theorem dX6_add_17 : decode cX6_add 17 = .ok (.getfield 15, 3) := by decide +kernel
theorem dX6_add_20 : decode cX6_add 20 = .ok (.iload_n 1, 1) := by decide +kernel
theorem dX6_add_21 : decode cX6_add 21 = .ok (.iastore, 1) := by decide +kernel
theorem dX6_add_22 : decode cX6_add 22 = .ok (.aload_n 0, 1) := by decide +kernel
theorem dX6_add_23 : decode cX6_add 23 = .ok (.dup, 1) := by decide +kernel
theorem dX6_add_24 : decode cX6_add 24 = .ok (.getfield 15, 3) := by decide +kernel
theorem dX6_add_27 : decode cX6_add 27 = .ok (.iconst 1, 1) := by decide +kernel
theorem dX6_add_28 : decode cX6_add 28 = .ok (.iadd, 1) := by decide +kernel
theorem dX6_add_29 : decode cX6_add 29 = .ok (.putfield 15, 3) := by decide +kernel
theorem dX6_add_32 : decode cX6_add 32 = .ok (.aload_n 0, 1) := by decide +kernel
theorem dX6_add_33 : decode cX6_add 33 = .ok (.getfield 15, 3) := by decide +kernel
theorem dX6_add_36 : decode cX6_add 36 = .ok (.ireturn, 1) := by decide +kernel
def bX6_add_0 : List sx_S := [si_al 0, si_get 5 1, si_const (nI 120), si_if2 (fun x y => x < y) 12 [true, true], si_const (-1000003), si_ri]
def bX6_add_12 : List sx_S := [si_al 0, si_get 5 0, si_al 0, si_get 5 1, si_il 1, si_iast, si_al 0, si_dup, si_get 5 1, si_const 1, si_bin (fun x y => x + y), si_put 5 1 0, si_al 0, si_get 5 1, si_ri]
def BX6_add : Nat → List sx_S := fun pc => if pc = 0 then bX6_add_0 else if pc = 12 then bX6_add_12 else []
set_option maxRecDepth 20000 in
theorem kX6_add_0 : sx_BK sx_tb yX6_add.cls cX6_add 2 (some .int) ({ frames := 0, cells := 0, slots := 0, locals := 0 } : Room) false false 0 (fun _ => 0) 0 (bX6_add_0) := ⟨_, ⟨sn_aload_n dX6_add_0 rfl, sm_al _⟩, ⟨_, ⟨sn_get (C := RX6) (T := TX6) (N := 5) dX6_add_1 rfl zinX6 (Nat.le_of_ble_eq_true rfl) zw_1_52, sm_get _ _⟩, ⟨_, ⟨sn_bipush dX6_add_4 (by decide +kernel), sm_const _⟩, ⟨_, ⟨sn_ic_lt dX6_add_6 (by decide +kernel) rfl, sm_if2 _ _ _⟩, ⟨_, ⟨sn_ldc dX6_add_9 zw_1_228, sm_const _⟩, ⟨_, ⟨sn_ri (len := 1) dX6_add_11 rfl, sm_ri⟩, trivial⟩⟩⟩⟩⟩⟩
set_option maxRecDepth 20000 in
theorem kX6_add_12 : sx_BK sx_tb yX6_add.cls cX6_add 2 (some .int) ({ frames := 0, cells := 0, slots := 0, locals := 0 } : Room) false false 0 (fun _ => 0) 12 (bX6_add_12) := ⟨_, ⟨sn_aload_n dX6_add_12 rfl, sm_al _⟩, ⟨_, ⟨sn_get (C := RX6) (T := TX6) (N := 5) dX6_add_13 rfl zinX6 (Nat.le_of_ble_eq_true rfl) zw_1_51, sm_get _ _⟩, ⟨_, ⟨sn_aload_n dX6_add_16 rfl, sm_al _⟩, ⟨_, ⟨sn_get (C := RX6) (T := TX6) (N := 5) dX6_add_17 rfl zinX6 (Nat.le_of_ble_eq_true rfl) zw_1_52, sm_get _ _⟩, ⟨_, ⟨sn_iload_n dX6_add_20 rfl, sm_il _⟩, ⟨_, ⟨sn_iast dX6_add_21, sm_iast⟩, ⟨_, ⟨sn_aload_n dX6_add_22 rfl, sm_al _⟩, ⟨_, ⟨sn_dup dX6_add_23, sm_dup⟩, ⟨_, ⟨sn_get (C := RX6) (T := TX6) (N := 5) dX6_add_24 rfl zinX6 (Nat.le_of_ble_eq_true rfl) zw_1_52, sm_get _ _⟩, ⟨_, ⟨sn_iconst dX6_add_27 (by decide +kernel), sm_const _⟩, ⟨_, ⟨sn_iadd dX6_add_28, sm_bin _⟩, ⟨_, ⟨sn_put (C := RX6) (T := TX6) (N := 5) dX6_add_29 rfl zinX6 tyX6_ok nmX6 (Nat.le_of_ble_eq_true rfl) zw_1_52 rfl (tyX6_ok 1 (Nat.le_of_ble_eq_true rfl)) trivial, sm_put _ _ _⟩, ⟨_, ⟨sn_aload_n dX6_add_32 rfl, sm_al _⟩, ⟨_, ⟨sn_get (C := RX6) (T := TX6) (N := 5) dX6_add_33 rfl zinX6 (Nat.le_of_ble_eq_true rfl) zw_1_52, sm_get _ _⟩, ⟨_, ⟨sn_ri (len := 1) dX6_add_36 rfl, sm_ri⟩, trivial⟩⟩⟩⟩⟩⟩⟩⟩⟩⟩⟩⟩⟩⟩⟩
theorem kX6_add : ∀ pc, sx_BK sx_tb yX6_add.cls cX6_add 2 (some .int) ({ frames := 0, cells := 0, slots := 0, locals := 0 } : Room) false false 0 (fun _ => 0) pc (BX6_add pc) := fun pc => sx_bk_if (kX6_add_0) (sx_bk_if (kX6_add_12) (trivial))
theorem okX6_add : sx_ok sx_tb BX6_add (yX6_add, cX6_add, 2, some .int, { frames := 0, cells := 0, slots := 0, locals := 0 }) := ⟨by decide, by decide +kernel, false, (fun h => by cases h), kX6_add⟩
theorem dX6_empty_0 : decode cX6_empty 0 = .ok (.aload_n 0, 1) := by decide +kernel
theorem dX6_empty_1 : decode cX6_empty 1 = .ok (.iconst 0, 1) := by decide +kernel
theorem dX6_empty_2 : decode cX6_empty 2 = .ok (.putfield 15, 3) := by decide +kernel
theorem dX6_empty_5 : decode cX6_empty 5 = .ok (.return_, 1) := by decide +kernel
def bX6_empty_0 : List sx_S := [si_al 0, si_const 0, si_put 5 1 0, si_rv]
def BX6_empty : Nat → List sx_S := fun pc => if pc = 0 then bX6_empty_0 else []
set_option maxRecDepth 20000 in
theorem kX6_empty_0 : sx_BK sx_tb yX6_empty.cls cX6_empty 1 (none) ({ frames := 0, cells := 0, slots := 0, locals := 0 } : Room) false false 0 (fun _ => 0) 0 (bX6_empty_0) := ⟨_, ⟨sn_aload_n dX6_empty_0 rfl, sm_al _⟩, ⟨_, ⟨sn_iconst dX6_empty_1 (by decide +kernel), sm_const _⟩, ⟨_, ⟨sn_put (C := RX6) (T := TX6) (N := 5) dX6_empty_2 rfl zinX6 tyX6_ok nmX6 (Nat.le_of_ble_eq_true rfl) zw_1_52 rfl (tyX6_ok 1 (Nat.le_of_ble_eq_true rfl)) trivial, sm_put _ _ _⟩, ⟨_, ⟨sn_rv (len := 1) dX6_empty_5 rfl, sm_rv⟩, trivial⟩⟩⟩⟩
theorem kX6_empty : ∀ pc, sx_BK sx_tb yX6_empty.cls cX6_empty 1 (none) ({ frames := 0, cells := 0, slots := 0, locals := 0 } : Room) false false 0 (fun _ => 0) pc (BX6_empty pc) := fun pc => sx_bk_if (kX6_empty_0) (trivial)
theorem okX6_empty : sx_ok sx_tb BX6_empty (yX6_empty, cX6_empty, 1, none, { frames := 0, cells := 0, slots := 0, locals := 0 }) := ⟨by decide, by decide +kernel, false, (fun h => by cases h), kX6_empty⟩
theorem dX6_read_0 : decode cX6_read 0 = .ok (.aload_n 1, 1) := by decide +kernel
theorem dX6_read_1 : decode cX6_read 1 = .ok (.invokevirtual 29, 3) := by decide +kernel
theorem dX6_read_4 : decode cX6_read 4 = .ok (.aload_n 0, 1) := by decide +kernel
theorem dX6_read_5 : decode cX6_read 5 = .ok (.iconst 0, 1) := by decide +kernel
theorem dX6_read_6 : decode cX6_read 6 = .ok (.putfield 19, 3) := by decide +kernel
theorem dX6_read_9 : decode cX6_read 9 = .ok (.aload_n 0, 1) := by decide +kernel
theorem dX6_read_10 : decode cX6_read 10 = .ok (.iconst 0, 1) := by decide +kernel
theorem dX6_read_11 : decode cX6_read 11 = .ok (.putfield 22, 3) := by decide +kernel
theorem dX6_read_14 : decode cX6_read 14 = .ok (.aload_n 0, 1) := by decide +kernel
theorem dX6_read_15 : decode cX6_read 15 = .ok (.iconst 0, 1) := by decide +kernel
theorem dX6_read_16 : decode cX6_read 16 = .ok (.putfield 25, 3) := by decide +kernel
theorem dX6_read_19 : decode cX6_read 19 = .ok (.iconst 0, 1) := by decide +kernel
theorem dX6_read_20 : decode cX6_read 20 = .ok (.istore_n 2, 1) := by decide +kernel
theorem dX6_read_21 : decode cX6_read 21 = .ok (.iload_n 2, 1) := by decide +kernel
theorem dX6_read_22 : decode cX6_read 22 = .ok (.bipush 120, 2) := by decide +kernel
theorem dX6_read_24 : decode cX6_read 24 = .ok (.if_icmp .ge 66, 3) := by decide +kernel
theorem dX6_read_27 : decode cX6_read 27 = .ok (.aload_n 0, 1) := by decide +kernel
theorem dX6_read_28 : decode cX6_read 28 = .ok (.getfield 19, 3) := by decide +kernel
theorem dX6_read_31 : decode cX6_read 31 = .ok (.aload_n 0, 1) := by decide +kernel
theorem dX6_read_32 : decode cX6_read 32 = .ok (.getfield 15, 3) := by decide +kernel
theorem dX6_read_35 : decode cX6_read 35 = .ok (.if_icmp .ge 55, 3) := by decide +kernel
theorem dX6_read_38 : decode cX6_read 38 = .ok (.aload_n 0, 1) := by decide +kernel
theorem dX6_read_39 : decode cX6_read 39 = .ok (.aload_n 1, 1) := by decide +kernel
theorem dX6_read_40 : decode cX6_read 40 = .ok (.invokevirtual 34, 3) := by decide +kernel
theorem dX6_read_43 : decode cX6_read 43 = .ok (.istore_n 3, 1) := by decide +kernel
theorem dX6_read_44 : decode cX6_read 44 = .ok (.iload_n 3, 1) := by decide +kernel
theorem dX6_read_45 : decode cX6_read 45 = .ok (.ifCond .eq 5, 3) := by decide +kernel
theorem dX6_read_48 : decode cX6_read 48 = .ok (.iload_n 3, 1) := by decide +kernel
theorem dX6_read_49 : decode cX6_read 49 = .ok (.ireturn, 1) := by decide +kernel
theorem dX6_read_50 : decode cX6_read 50 = .ok (.aload_n 0, 1) := by decide +kernel
theorem dX6_read_51 : decode cX6_read 51 = .ok (.dup, 1) := by decide +kernel
theorem dX6_read_52 : decode cX6_read 52 = .ok (.getfield 22, 3) := by decide +kernel
theorem dX6_read_55 : decode cX6_read 55 = .ok (.iconst 1, 1) := by decide +kernel
theorem dX6_read_56 : decode cX6_read 56 = .ok (.iadd, 1) := by decide +kernel
theorem dX6_read_57 : decode cX6_read 57 = .ok (.putfield 22, 3) := by decide +kernel
theorem dX6_read_60 : decode cX6_read 60 = .ok (.aload_n 0, 1) := by decide +kernel
theorem dX6_read_61 : decode cX6_read 61 = .ok (.getfield 22, 3) := by decide +kernel
theorem dX6_read_64 : decode cX6_read 64 = .ok (.bipush 7, 2) := by decide +kernel
theorem dX6_read_66 : decode cX6_read 66 = .ok (.if_icmp .ne 18, 3) := by decide +kernel
theorem dX6_read_69 : decode cX6_read 69 = .ok (.aload_n 0, 1) := by decide +kernel
theorem dX6_read_70 : decode cX6_read 70 = .ok (.iconst 0, 1) := by decide +kernel
theorem dX6_read_71 : decode cX6_read 71 = .ok (.putfield 22, 3) := by decide +kernel
theorem dX6_read_74 : decode cX6_read 74 = .ok (.aload_n 0, 1) := by decide +kernel
theorem dX6_read_75 : decode cX6_read 75 = .ok (.dup, 1) := by decide +kernel
theorem dX6_read_76 : decode cX6_read 76 = .ok (.getfield 25, 3) := by decide +kernel
theorem dX6_read_79 : decode cX6_read 79 = .ok (.iconst 1, 1) := by decide +kernel
theorem dX6_read_80 : decode cX6_read 80 = .ok (.iadd, 1) := by decide +kernel
theorem dX6_read_81 : decode cX6_read 81 = .ok (.putfield 25, 3) := by decide +kernel
theorem dX6_read_84 : decode cX6_read 84 = .ok (.iinc 2 1, 3) := by decide +kernel
theorem dX6_read_87 : decode cX6_read 87 = .ok (.goto (-66), 3) := by decide +kernel
theorem dX6_read_90 : decode cX6_read 90 = .ok (.aload_n 0, 1) := by decide +kernel
theorem dX6_read_91 : decode cX6_read 91 = .ok (.getfield 22, 3) := by decide +kernel
theorem dX6_read_94 : decode cX6_read 94 = .ok (.ifCond .ne 15, 3) := by decide +kernel
theorem dX6_read_97 : decode cX6_read 97 = .ok (.aload_n 0, 1) := by decide +kernel
theorem dX6_read_98 : decode cX6_read 98 = .ok (.getfield 25, 3) := by decide +kernel
theorem dX6_read_101 : decode cX6_read 101 = .ok (.iconst 2, 1) := by decide +kernel
theorem dX6_read_102 : decode cX6_read 102 = .ok (.if_icmp .lt 7, 3) := by decide +kernel
theorem dX6_read_105 : decode cX6_read 105 = .ok (.iconst 0, 1) := by decide +kernel
theorem dX6_read_106 : decode cX6_read 106 = .ok (.goto 4, 3) := by decide +kernel
theorem dX6_read_109 : decode cX6_read 109 = .ok (.iconst 1, 1) := by decide +kernel
theorem dX6_read_110 : decode cX6_read 110 = .ok (.ireturn, 1) := by decide +kernel
def bX6_read_0 : List sx_S := [si_al 1, si_cv 2 21 0 0 0 0 0, si_al 0, si_const 0, si_put 5 2 0, si_al 0, si_const 0, si_put 5 3 0, si_al 0, si_const 0, si_put 5 4 0, si_const 0, si_is 2, si_go 21 [true, true, true, false]]
def bX6_read_21 : List sx_S := [si_il 2, si_const (nI 120), si_if2 (fun x y => y ≤ x) 90 [true, false, false, false], si_al 0, si_get 5 2, si_al 0, si_get 5 1, si_if2 (fun x y => y ≤ x) 90 [true, false, false, false], si_al 0, si_al 1, si_cv 5 76 1 0 0 0 0, si_is 3, si_il 3, si_if1 (fun x => x = 0) 50 [true, true, true, false], si_il 3, si_ri]
def bX6_read_50 : List sx_S := [si_al 0, si_dup, si_get 5 3, si_const 1, si_bin (fun x y => x + y), si_put 5 3 0, si_al 0, si_get 5 3, si_const (nI 7), si_if2 (fun x y => ¬ x = y) 84 [true, true, true, false], si_al 0, si_const 0, si_put 5 3 0, si_al 0, si_dup, si_get 5 4, si_const 1, si_bin (fun x y => x + y), si_put 5 4 0, si_go 84 [true, true, true, false]]
def bX6_read_84 : List sx_S := [si_inc 2 1, si_go 21 [true, true, true, false]]
def bX6_read_90 : List sx_S := [si_al 0, si_get 5 3, si_if1 (fun x => ¬ x = 0) 109 [false, false, false, false], si_al 0, si_get 5 4, si_const (nI 2), si_if2 (fun x y => x < y) 109 [false, false, false, false], si_const 0, si_go 110 [false, false, false, false]]
def bX6_read_109 : List sx_S := [si_const 1, si_go 110 [false, false, false, false]]
def bX6_read_110 : List sx_S := [si_ri]
def BX6_read : Nat → List sx_S := fun pc => if pc = 0 then bX6_read_0 else if pc = 21 then bX6_read_21 else if pc = 50 then bX6_read_50 else if pc = 84 then bX6_read_84 else if pc = 90 then bX6_read_90 else if pc = 109 then bX6_read_109 else if pc = 110 then bX6_read_110 else []
set_option maxRecDepth 20000 in
theorem kX6_read_0 : sx_BK sx_tb yX6_read.cls cX6_read 4 (some .int) ({ frames := 3, cells := 0, slots := 0, locals := 66 } : Room) false false 0 (fun _ => 0) 0 (bX6_read_0) := ⟨_, ⟨sn_aload_n dX6_read_0 rfl, sm_al _⟩, ⟨_, ⟨sn_cv_v (N := 1) (T := TX2) ztb_X2_clear dX6_read_1 rfl rfl zw_1_237 zw_1_238 zw_1_239 zw_1_4 zw_2_0 zmh_X2 zpd_X2_clear (Nat.le_of_ble_eq_true rfl) (Nat.le_of_ble_eq_true rfl) rfl rfl, sm_cv _ _ _ _ _ _ _⟩, ⟨_, ⟨sn_aload_n dX6_read_4 rfl, sm_al _⟩, ⟨_, ⟨sn_iconst dX6_read_5 (by decide +kernel), sm_const _⟩, ⟨_, ⟨sn_put (C := RX6) (T := TX6) (N := 5) dX6_read_6 rfl zinX6 tyX6_ok nmX6 (Nat.le_of_ble_eq_true rfl) zw_1_54 rfl (tyX6_ok 2 (Nat.le_of_ble_eq_true rfl)) trivial, sm_put _ _ _⟩, ⟨_, ⟨sn_aload_n dX6_read_9 rfl, sm_al _⟩, ⟨_, ⟨sn_iconst dX6_read_10 (by decide +kernel), sm_const _⟩, ⟨_, ⟨sn_put (C := RX6) (T := TX6) (N := 5) dX6_read_11 rfl zinX6 tyX6_ok nmX6 (Nat.le_of_ble_eq_true rfl) zw_1_56 rfl (tyX6_ok 3 (Nat.le_of_ble_eq_true rfl)) trivial, sm_put _ _ _⟩, ⟨_, ⟨sn_aload_n dX6_read_14 rfl, sm_al _⟩, ⟨_, ⟨sn_iconst dX6_read_15 (by decide +kernel), sm_const _⟩, ⟨_, ⟨sn_put (C := RX6) (T := TX6) (N := 5) dX6_read_16 rfl zinX6 tyX6_ok nmX6 (Nat.le_of_ble_eq_true rfl) zw_1_57 rfl (tyX6_ok 4 (Nat.le_of_ble_eq_true rfl)) trivial, sm_put _ _ _⟩, ⟨_, ⟨sn_iconst dX6_read_19 (by decide +kernel), sm_const _⟩, ⟨_, ⟨sn_istore_n dX6_read_20 rfl (Nat.le_of_ble_eq_true rfl), sm_is _⟩, ⟨_, ⟨sn_fall (len := 0) rfl rfl, sm_go _ _⟩, trivial⟩⟩⟩⟩⟩⟩⟩⟩⟩⟩⟩⟩⟩⟩
set_option maxRecDepth 20000 in
theorem kX6_read_21 : sx_BK sx_tb yX6_read.cls cX6_read 4 (some .int) ({ frames := 3, cells := 0, slots := 0, locals := 66 } : Room) false false 0 (fun _ => 0) 21 (bX6_read_21) := ⟨_, ⟨sn_iload_n dX6_read_21 rfl, sm_il _⟩, ⟨_, ⟨sn_bipush dX6_read_22 (by decide +kernel), sm_const _⟩, ⟨_, ⟨sn_ic_ge dX6_read_24 (by decide +kernel) rfl, sm_if2 _ _ _⟩, ⟨_, ⟨sn_aload_n dX6_read_27 rfl, sm_al _⟩, ⟨_, ⟨sn_get (C := RX6) (T := TX6) (N := 5) dX6_read_28 rfl zinX6 (Nat.le_of_ble_eq_true rfl) zw_1_54, sm_get _ _⟩, ⟨_, ⟨sn_aload_n dX6_read_31 rfl, sm_al _⟩, ⟨_, ⟨sn_get (C := RX6) (T := TX6) (N := 5) dX6_read_32 rfl zinX6 (Nat.le_of_ble_eq_true rfl) zw_1_52, sm_get _ _⟩, ⟨_, ⟨sn_ic_ge dX6_read_35 (by decide +kernel) rfl, sm_if2 _ _ _⟩, ⟨_, ⟨sn_aload_n dX6_read_38 rfl, sm_al _⟩, ⟨_, ⟨sn_aload_n dX6_read_39 rfl, sm_al _⟩, ⟨_, ⟨sn_cv_i (N := 5) (T := TX6) ztb_X6_readToken dX6_read_40 rfl rfl zw_2_1 zw_2_3 zw_0_1 zw_1_3 zw_2_4 zmh_X6 zpd_X6_readToken (Nat.le_of_ble_eq_true rfl) (Nat.le_of_ble_eq_true rfl) rfl rfl, sm_cv _ _ _ _ _ _ _⟩, ⟨_, ⟨sn_istore_n dX6_read_43 rfl (Nat.le_of_ble_eq_true rfl), sm_is _⟩, ⟨_, ⟨sn_iload_n dX6_read_44 rfl, sm_il _⟩, ⟨_, ⟨sn_if_eq dX6_read_45 (by decide +kernel) rfl, sm_if1 _ _ _⟩, ⟨_, ⟨sn_iload_n dX6_read_48 rfl, sm_il _⟩, ⟨_, ⟨sn_ri (len := 1) dX6_read_49 rfl, sm_ri⟩, trivial⟩⟩⟩⟩⟩⟩⟩⟩⟩⟩⟩⟩⟩⟩⟩⟩
set_option maxRecDepth 20000 in
theorem kX6_read_50 : sx_BK sx_tb yX6_read.cls cX6_read 4 (some .int) ({ frames := 3, cells := 0, slots := 0, locals := 66 } : Room) false false 0 (fun _ => 0) 50 (bX6_read_50) := ⟨_, ⟨sn_aload_n dX6_read_50 rfl, sm_al _⟩, ⟨_, ⟨sn_dup dX6_read_51, sm_dup⟩, ⟨_, ⟨sn_get (C := RX6) (T := TX6) (N := 5) dX6_read_52 rfl zinX6 (Nat.le_of_ble_eq_true rfl) zw_1_56, sm_get _ _⟩, ⟨_, ⟨sn_iconst dX6_read_55 (by decide +kernel), sm_const _⟩, ⟨_, ⟨sn_iadd dX6_read_56, sm_bin _⟩, ⟨_, ⟨sn_put (C := RX6) (T := TX6) (N := 5) dX6_read_57 rfl zinX6 tyX6_ok nmX6 (Nat.le_of_ble_eq_true rfl) zw_1_56 rfl (tyX6_ok 3 (Nat.le_of_ble_eq_true rfl)) trivial, sm_put _ _ _⟩, ⟨_, ⟨sn_aload_n dX6_read_60 rfl, sm_al _⟩, ⟨_, ⟨sn_get (C := RX6) (T := TX6) (N := 5) dX6_read_61 rfl zinX6 (Nat.le_of_ble_eq_true rfl) zw_1_56, sm_get _ _⟩, ⟨_, ⟨sn_bipush dX6_read_64 (by decide +kernel), sm_const _⟩, ⟨_, ⟨sn_ic_ne dX6_read_66 (by decide +kernel) rfl, sm_if2 _ _ _⟩, ⟨_, ⟨sn_aload_n dX6_read_69 rfl, sm_al _⟩, ⟨_, ⟨sn_iconst dX6_read_70 (by decide +kernel), sm_const _⟩, ⟨_, ⟨sn_put (C := RX6) (T := TX6) (N := 5) dX6_read_71 rfl zinX6 tyX6_ok nmX6 (Nat.le_of_ble_eq_true rfl) zw_1_56 rfl (tyX6_ok 3 (Nat.le_of_ble_eq_true rfl)) trivial, sm_put _ _ _⟩, ⟨_, ⟨sn_aload_n dX6_read_74 rfl, sm_al _⟩, ⟨_, ⟨sn_dup dX6_read_75, sm_dup⟩, ⟨_, ⟨sn_get (C := RX6) (T := TX6) (N := 5) dX6_read_76 rfl zinX6 (Nat.le_of_ble_eq_true rfl) zw_1_57, sm_get _ _⟩, ⟨_, ⟨sn_iconst dX6_read_79 (by decide +kernel), sm_const _⟩, ⟨_, ⟨sn_iadd dX6_read_80, sm_bin _⟩, ⟨_, ⟨sn_put (C := RX6) (T := TX6) (N := 5) dX6_read_81 rfl zinX6 tyX6_ok nmX6 (Nat.le_of_ble_eq_true rfl) zw_1_57 rfl (tyX6_ok 4 (Nat.le_of_ble_eq_true rfl)) trivial, sm_put _ _ _⟩, ⟨_, ⟨sn_fall (len := 0) rfl rfl, sm_go _ _⟩, trivial⟩⟩⟩⟩⟩⟩⟩⟩⟩⟩⟩⟩⟩⟩⟩⟩⟩⟩⟩⟩
set_option maxRecDepth 20000 in
theorem kX6_read_84 : sx_BK sx_tb yX6_read.cls cX6_read 4 (some .int) ({ frames := 3, cells := 0, slots := 0, locals := 66 } : Room) false false 0 (fun _ => 0) 84 (bX6_read_84) := ⟨_, ⟨sn_iinc dX6_read_84 (by decide +kernel) (Nat.le_of_ble_eq_true rfl), sm_inc _ _⟩, ⟨_, ⟨sn_goto (len := 3) dX6_read_87 (by decide +kernel) rfl, sm_go _ _⟩, trivial⟩⟩
set_option maxRecDepth 20000 in
theorem kX6_read_90 : sx_BK sx_tb yX6_read.cls cX6_read 4 (some .int) ({ frames := 3, cells := 0, slots := 0, locals := 66 } : Room) false false 0 (fun _ => 0) 90 (bX6_read_90) := ⟨_, ⟨sn_aload_n dX6_read_90 rfl, sm_al _⟩, ⟨_, ⟨sn_get (C := RX6) (T := TX6) (N := 5) dX6_read_91 rfl zinX6 (Nat.le_of_ble_eq_true rfl) zw_1_56, sm_get _ _⟩, ⟨_, ⟨sn_if_ne dX6_read_94 (by decide +kernel) rfl, sm_if1 _ _ _⟩, ⟨_, ⟨sn_aload_n dX6_read_97 rfl, sm_al _⟩, ⟨_, ⟨sn_get (C := RX6) (T := TX6) (N := 5) dX6_read_98 rfl zinX6 (Nat.le_of_ble_eq_true rfl) zw_1_57, sm_get _ _⟩, ⟨_, ⟨sn_iconst dX6_read_101 (by decide +kernel), sm_const _⟩, ⟨_, ⟨sn_ic_lt dX6_read_102 (by decide +kernel) rfl, sm_if2 _ _ _⟩, ⟨_, ⟨sn_iconst dX6_read_105 (by decide +kernel), sm_const _⟩, ⟨_, ⟨sn_goto (len := 3) dX6_read_106 (by decide +kernel) rfl, sm_go _ _⟩, trivial⟩⟩⟩⟩⟩⟩⟩⟩⟩
set_option maxRecDepth 20000 in
theorem kX6_read_109 : sx_BK sx_tb yX6_read.cls cX6_read 4 (some .int) ({ frames := 3, cells := 0, slots := 0, locals := 66 } : Room) false false 0 (fun _ => 0) 109 (bX6_read_109) := ⟨_, ⟨sn_iconst dX6_read_109 (by decide +kernel), sm_const _⟩, ⟨_, ⟨sn_fall (len := 0) rfl rfl, sm_go _ _⟩, trivial⟩⟩
set_option maxRecDepth 20000 in
theorem kX6_read_110 : sx_BK sx_tb yX6_read.cls cX6_read 4 (some .int) ({ frames := 3, cells := 0, slots := 0, locals := 66 } : Room) false false 0 (fun _ => 0) 110 (bX6_read_110) := ⟨_, ⟨sn_ri (len := 1) dX6_read_110 rfl, sm_ri⟩, trivial⟩
theorem kX6_read : ∀ pc, sx_BK sx_tb yX6_read.cls cX6_read 4 (some .int) ({ frames := 3, cells := 0, slots := 0, locals := 66 } : Room) false false 0 (fun _ => 0) pc (BX6_read pc) := fun pc => sx_bk_if (kX6_read_0) (sx_bk_if (kX6_read_21) (sx_bk_if (kX6_read_50) (sx_bk_if (kX6_read_84) (sx_bk_if (kX6_read_90) (sx_bk_if (kX6_read_109) (sx_bk_if (kX6_read_110) (trivial)))))))
theorem okX6_read : sx_ok sx_tb BX6_read (yX6_read, cX6_read, 4, some .int, { frames := 3, cells := 0, slots := 0, locals := 66 }) := ⟨by decide, by decide +kernel, false, (fun h => by cases h), kX6_read⟩
theorem dX6_readToken_0 : decode cX6_readToken 0 = .ok (.aload_n 0, 1) := by decide +kernel
theorem dX6_readToken_1 : decode cX6_readToken 1 = .ok (.getfield 22, 3) := by decide +kernel
theorem dX6_readToken_4 : decode cX6_readToken 4 = .ok (.ifCond .ne 9, 3) := by decide +kernel
theorem dX6_readToken_7 : decode cX6_readToken 7 = .ok (.aload_n 0, 1) := by decide +kernel
theorem dX6_readToken_8 : decode cX6_readToken 8 = .ok (.aload_n 1, 1) := by decide +kernel
theorem dX6_readToken_9 : decode cX6_readToken 9 = .ok (.invokevirtual 38, 3) := by decide +kernel
theorem dX6_readToken_12 : decode cX6_readToken 12 = .ok (.ireturn, 1) := by decide +kernel
theorem dX6_readToken_13 : decode cX6_readToken 13 = .ok (.aload_n 0, 1) := by decide +kernel
theorem dX6_readToken_14 : decode cX6_readToken 14 = .ok (.getfield 22, 3) := by decide +kernel
theorem dX6_readToken_17 : decode cX6_readToken 17 = .ok (.iconst 2, 1) := by decide +kernel
theorem dX6_readToken_18 : decode cX6_readToken 18 = .ok (.irem, 1) := by decide +kernel
theorem dX6_readToken_19 : decode cX6_readToken 19 = .ok (.iconst 1, 1) := by decide +kernel
theorem dX6_readToken_20 : decode cX6_readToken 20 = .ok (.if_icmp .ne 9, 3) := by decide +kernel
theorem dX6_readToken_23 : decode cX6_readToken 23 = .ok (.aload_n 0, 1) := by decide +kernel
theorem dX6_readToken_24 : decode cX6_readToken 24 = .ok (.aload_n 1, 1) := by decide +kernel
theorem dX6_readToken_25 : decode cX6_readToken 25 = .ok (.invokevirtual 41, 3) := by decide +kernel
theorem dX6_readToken_28 : decode cX6_readToken 28 = .ok (.ireturn, 1) := by decide +kernel
theorem dX6_readToken_29 : decode cX6_readToken 29 = .ok (.aload_n 0, 1) := by decide +kernel
theorem dX6_readToken_30 : decode cX6_readToken 30 = .ok (.aload_n 0, 1) := by decide +kernel
theorem dX6_readToken_31 : decode cX6_readToken 31 = .ok (.getfield 22, 3) := by decide +kernel
theorem dX6_readToken_34 : decode cX6_readToken 34 = .ok (.bipush 6, 2) := by decide +kernel
theorem dX6_readToken_36 : decode cX6_readToken 36 = .ok (.if_icmp .ne 8, 3) := by decide +kernel
theorem dX6_readToken_39 : decode cX6_readToken 39 = .ok (.bipush 59, 2) := by decide +kernel
theorem dX6_readToken_41 : decode cX6_readToken 41 = .ok (.goto 5, 3) := by decide +kernel
theorem dX6_readToken_44 : decode cX6_readToken 44 = .ok (.bipush 44, 2) := by decide +kernel
theorem dX6_readToken_46 : decode cX6_readToken 46 = .ok (.invokevirtual 44, 3) := by decide +kernel
theorem dX6_readToken_49 : decode cX6_readToken 49 = .ok (.ireturn, 1) := by decide +kernel
def bX6_readToken_0 : List sx_S := [si_al 0, si_get 5 3, si_if1 (fun x => ¬ x = 0) 13 [true, true], si_al 0, si_al 1, si_cv 5 78 1 0 0 0 0, si_ri]
def bX6_readToken_13 : List sx_S := [si_al 0, si_get 5 3, si_const (nI 2), si_div (fun x y => x - x / y * y), si_const 1, si_if2 (fun x y => ¬ x = y) 29 [true, false], si_al 0, si_al 1, si_cv 5 80 1 0 0 0 0, si_ri]
def bX6_readToken_29 : List sx_S := [si_al 0, si_al 0, si_get 5 3, si_const (nI 6), si_if2 (fun x y => ¬ x = y) 44 [false, false], si_const (nI 59), si_go 46 [false, false]]
def bX6_readToken_44 : List sx_S := [si_const (nI 44), si_go 46 [false, false]]
def bX6_readToken_46 : List sx_S := [si_cv 5 77 1 0 0 0 0, si_ri]
def BX6_readToken : Nat → List sx_S := fun pc => if pc = 0 then bX6_readToken_0 else if pc = 13 then bX6_readToken_13 else if pc = 29 then bX6_readToken_29 else if pc = 44 then bX6_readToken_44 else if pc = 46 then bX6_readToken_46 else []
set_option maxRecDepth 20000 in
theorem kX6_readToken_0 : sx_BK sx_tb yX6_readToken.cls cX6_readToken 2 (some .int) ({ frames := 2, cells := 0, slots := 0, locals := 45 } : Room) false false 0 (fun _ => 0) 0 (bX6_readToken_0) := ⟨_, ⟨sn_aload_n dX6_readToken_0 rfl, sm_al _⟩, ⟨_, ⟨sn_get (C := RX6) (T := TX6) (N := 5) dX6_readToken_1 rfl zinX6 (Nat.le_of_ble_eq_true rfl) zw_1_56, sm_get _ _⟩, ⟨_, ⟨sn_if_ne dX6_readToken_4 (by decide +kernel) rfl, sm_if1 _ _ _⟩, ⟨_, ⟨sn_aload_n dX6_readToken_7 rfl, sm_al _⟩, ⟨_, ⟨sn_aload_n dX6_readToken_8 rfl, sm_al _⟩, ⟨_, ⟨sn_cv_i (N := 5) (T := TX6) ztb_X6_readLetter dX6_readToken_9 rfl rfl zw_2_5 zw_2_7 zw_0_2 zw_1_3 zw_2_8 zmh_X6 zpd_X6_readLetter (Nat.le_of_ble_eq_true rfl) (Nat.le_of_ble_eq_true rfl) rfl rfl, sm_cv _ _ _ _ _ _ _⟩, ⟨_, ⟨sn_ri (len := 1) dX6_readToken_12 rfl, sm_ri⟩, trivial⟩⟩⟩⟩⟩⟩⟩
set_option maxRecDepth 20000 in
theorem kX6_readToken_13 : sx_BK sx_tb yX6_readToken.cls cX6_readToken 2 (some .int) ({ frames := 2, cells := 0, slots := 0, locals := 45 } : Room) false false 0 (fun _ => 0) 13 (bX6_readToken_13) := ⟨_, ⟨sn_aload_n dX6_readToken_13 rfl, sm_al _⟩, ⟨_, ⟨sn_get (C := RX6) (T := TX6) (N := 5) dX6_readToken_14 rfl zinX6 (Nat.le_of_ble_eq_true rfl) zw_1_56, sm_get _ _⟩, ⟨_, ⟨sn_iconst dX6_readToken_17 (by decide +kernel), sm_const _⟩, ⟨_, ⟨sn_irem dX6_readToken_18, sm_div _⟩, ⟨_, ⟨sn_iconst dX6_readToken_19 (by decide +kernel), sm_const _⟩, ⟨_, ⟨sn_ic_ne dX6_readToken_20 (by decide +kernel) rfl, sm_if2 _ _ _⟩, ⟨_, ⟨sn_aload_n dX6_readToken_23 rfl, sm_al _⟩, ⟨_, ⟨sn_aload_n dX6_readToken_24 rfl, sm_al _⟩, ⟨_, ⟨sn_cv_i (N := 5) (T := TX6) ztb_X6_readNumber dX6_readToken_25 rfl rfl zw_2_16 zw_2_18 zw_0_4 zw_1_3 zw_2_19 zmh_X6 zpd_X6_readNumber (Nat.le_of_ble_eq_true rfl) (Nat.le_of_ble_eq_true rfl) rfl rfl, sm_cv _ _ _ _ _ _ _⟩, ⟨_, ⟨sn_ri (len := 1) dX6_readToken_28 rfl, sm_ri⟩, trivial⟩⟩⟩⟩⟩⟩⟩⟩⟩⟩
set_option maxRecDepth 20000 in
theorem kX6_readToken_29 : sx_BK sx_tb yX6_readToken.cls cX6_readToken 2 (some .int) ({ frames := 2, cells := 0, slots := 0, locals := 45 } : Room) false false 0 (fun _ => 0) 29 (bX6_readToken_29) := ⟨_, ⟨sn_aload_n dX6_readToken_29 rfl, sm_al _⟩, ⟨_, ⟨sn_aload_n dX6_readToken_30 rfl, sm_al _⟩, ⟨_, ⟨sn_get (C := RX6) (T := TX6) (N := 5) dX6_readToken_31 rfl zinX6 (Nat.le_of_ble_eq_true rfl) zw_1_56, sm_get _ _⟩, ⟨_, ⟨sn_bipush dX6_readToken_34 (by decide +kernel), sm_const _⟩, ⟨_, ⟨sn_ic_ne dX6_readToken_36 (by decide +kernel) rfl, sm_if2 _ _ _⟩, ⟨_, ⟨sn_bipush dX6_readToken_39 (by decide +kernel), sm_const _⟩, ⟨_, ⟨sn_goto (len := 3) dX6_readToken_41 (by decide +kernel) rfl, sm_go _ _⟩, trivial⟩⟩⟩⟩⟩⟩⟩
set_option maxRecDepth 20000 in
theorem kX6_readToken_44 : sx_BK sx_tb yX6_readToken.cls cX6_readToken 2 (some .int) ({ frames := 2, cells := 0, slots := 0, locals := 45 } : Room) false false 0 (fun _ => 0) 44 (bX6_readToken_44) := ⟨_, ⟨sn_bipush dX6_readToken_44 (by decide +kernel), sm_const _⟩, ⟨_, ⟨sn_fall (len := 0) rfl rfl, sm_go _ _⟩, trivial⟩⟩
set_option maxRecDepth 20000 in
theorem kX6_readToken_46 : sx_BK sx_tb yX6_readToken.cls cX6_readToken 2 (some .int) ({ frames := 2, cells := 0, slots := 0, locals := 45 } : Room) false false 0 (fun _ => 0) 46 (bX6_readToken_46) := ⟨_, ⟨sn_cv_i (N := 5) (T := TX6) ztb_X6_readSign dX6_readToken_46 rfl rfl zw_2_9 zw_2_11 zw_0_3 zw_1_3 zw_2_12 zmh_X6 zpd_X6_readSign (Nat.le_of_ble_eq_true rfl) (Nat.le_of_ble_eq_true rfl) rfl rfl, sm_cv _ _ _ _ _ _ _⟩, ⟨_, ⟨sn_ri (len := 1) dX6_readToken_49 rfl, sm_ri⟩, trivial⟩⟩
theorem kX6_readToken : ∀ pc, sx_BK sx_tb yX6_readToken.cls cX6_readToken 2 (some .int) ({ frames := 2, cells := 0, slots := 0, locals := 45 } : Room) false false 0 (fun _ => 0) pc (BX6_readToken pc) := fun pc => sx_bk_if (kX6_readToken_0) (sx_bk_if (kX6_readToken_13) (sx_bk_if (kX6_readToken_29) (sx_bk_if (kX6_readToken_44) (sx_bk_if (kX6_readToken_46) (trivial)))))
theorem okX6_readToken : sx_ok sx_tb BX6_readToken (yX6_readToken, cX6_readToken, 2, some .int, { frames := 2, cells := 0, slots := 0, locals := 45 }) := ⟨by decide, by decide +kernel, false, (fun h => by cases h), kX6_readToken⟩
theorem dX6_readSign_0 : decode cX6_readSign 0 = .ok (.aload_n 0, 1) := by decide +kernel
theorem dX6_readSign_1 : decode cX6_readSign 1 = .ok (.getfield 11, 3) := by decide +kernel
theorem dX6_readSign_4 : decode cX6_readSign 4 = .ok (.aload_n 0, 1) := by decide +kernel
theorem dX6_readSign_5 : decode cX6_readSign 5 = .ok (.getfield 19, 3) := by decide +kernel
theorem dX6_readSign_8 : decode cX6_readSign 8 = .ok (.iaload, 1) := by decide +kernel
theorem dX6_readSign_9 : decode cX6_readSign 9 = .ok (.iload_n 1, 1) := by decide +kernel
theorem dX6_readSign_10 : decode cX6_readSign 10 = .ok (.if_icmp .eq 5, 3) := by decide +kernel
theorem dX6_readSign_13 : decode cX6_readSign 13 = .ok (.iconst 1, 1) := by decide +kernel
theorem dX6_readSign_14 : decode cX6_readSign 14 = .ok (.ireturn, 1) := by decide +kernel
theorem dX6_readSign_15 : decode cX6_readSign 15 = .ok (.aload_n 0, 1) := by decide +kernel
theorem dX6_readSign_16 : decode cX6_readSign 16 = .ok (.dup, 1) := by decide +kernel
theorem dX6_readSign_17 : decode cX6_readSign 17 = .ok (.getfield 19, 3) := by decide +kernel
theorem dX6_readSign_20 : decode cX6_readSign 20 = .ok (.iconst 1, 1) := by decide +kernel
theorem dX6_readSign_21 : decode cX6_readSign 21 = .ok (.iadd, 1) := by decide +kernel
theorem dX6_readSign_22 : decode cX6_readSign 22 = .ok (.putfield 19, 3) := by decide +kernel
theorem dX6_readSign_25 : decode cX6_readSign 25 = .ok (.iconst 0, 1) := by decide +kernel
theorem dX6_readSign_26 : decode cX6_readSign 26 = .ok (.ireturn, 1) := by decide +kernel
def bX6_readSign_0 : List sx_S := [si_al 0, si_get 5 0, si_al 0, si_get 5 2, si_iald, si_il 1, si_if2 (fun x y => x = y) 15 [true, false], si_const 1, si_ri]
def bX6_readSign_15 : List sx_S := [si_al 0, si_dup, si_get 5 2, si_const 1, si_bin (fun x y => x + y), si_put 5 2 0, si_const 0, si_ri]
def BX6_readSign : Nat → List sx_S := fun pc => if pc = 0 then bX6_readSign_0 else if pc = 15 then bX6_readSign_15 else []
set_option maxRecDepth 20000 in
theorem kX6_readSign_0 : sx_BK sx_tb yX6_readSign.cls cX6_readSign 2 (some .int) ({ frames := 0, cells := 0, slots := 0, locals := 0 } : Room) false false 0 (fun _ => 0) 0 (bX6_readSign_0) := ⟨_, ⟨sn_aload_n dX6_readSign_0 rfl, sm_al _⟩, ⟨_, ⟨sn_get (C := RX6) (T := TX6) (N := 5) dX6_readSign_1 rfl zinX6 (Nat.le_of_ble_eq_true rfl) zw_1_51, sm_get _ _⟩, ⟨_, ⟨sn_aload_n dX6_readSign_4 rfl, sm_al _⟩, ⟨_, ⟨sn_get (C := RX6) (T := TX6) (N := 5) dX6_readSign_5 rfl zinX6 (Nat.le_of_ble_eq_true rfl) zw_1_54, sm_get _ _⟩, ⟨_, ⟨sn_iald dX6_readSign_8, sm_iald⟩, ⟨_, ⟨sn_iload_n dX6_readSign_9 rfl, sm_il _⟩, ⟨_, ⟨sn_ic_eq dX6_readSign_10 (by decide +kernel) rfl, sm_if2 _ _ _⟩, ⟨_, ⟨sn_iconst dX6_readSign_13 (by decide +kernel), sm_const _⟩, ⟨_, ⟨sn_ri (len := 1) dX6_readSign_14 rfl, sm_ri⟩, trivial⟩⟩⟩⟩⟩⟩⟩⟩⟩
set_option maxRecDepth 20000 in
theorem kX6_readSign_15 : sx_BK sx_tb yX6_readSign.cls cX6_readSign 2 (some .int) ({ frames := 0, cells := 0, slots := 0, locals := 0 } : Room) false false 0 (fun _ => 0) 15 (bX6_readSign_15) := ⟨_, ⟨sn_aload_n dX6_readSign_15 rfl, sm_al _⟩, ⟨_, ⟨sn_dup dX6_readSign_16, sm_dup⟩, ⟨_, ⟨sn_get (C := RX6) (T := TX6) (N := 5) dX6_readSign_17 rfl zinX6 (Nat.le_of_ble_eq_true rfl) zw_1_54, sm_get _ _⟩, ⟨_, ⟨sn_iconst dX6_readSign_20 (by decide +kernel), sm_const _⟩, ⟨_, ⟨sn_iadd dX6_readSign_21, sm_bin _⟩, ⟨_, ⟨sn_put (C := RX6) (T := TX6) (N := 5) dX6_readSign_22 rfl zinX6 tyX6_ok nmX6 (Nat.le_of_ble_eq_true rfl) zw_1_54 rfl (tyX6_ok 2 (Nat.le_of_ble_eq_true rfl)) trivial, sm_put _ _ _⟩, ⟨_, ⟨sn_iconst dX6_readSign_25 (by decide +kernel), sm_const _⟩, ⟨_, ⟨sn_ri (len := 1) dX6_readSign_26 rfl, sm_ri⟩, trivial⟩⟩⟩⟩⟩⟩⟩⟩
theorem kX6_readSign : ∀ pc, sx_BK sx_tb yX6_readSign.cls cX6_readSign 2 (some .int) ({ frames := 0, cells := 0, slots := 0, locals := 0 } : Room) false false 0 (fun _ => 0) pc (BX6_readSign pc) := fun pc => sx_bk_if (kX6_readSign_0) (sx_bk_if (kX6_readSign_15) (trivial))
theorem okX6_readSign : sx_ok sx_tb BX6_readSign (yX6_readSign, cX6_readSign, 2, some .int, { frames := 0, cells := 0, slots := 0, locals := 0 }) := ⟨by decide, by decide +kernel, false, (fun h => by cases h), kX6_readSign⟩
theorem dX6_readLetter_0 : decode cX6_readLetter 0 = .ok (.aload_n 0, 1) := by decide +kernel
theorem dX6_readLetter_1 : decode cX6_readLetter 1 = .ok (.getfield 25, 3) := by decide +kernel
theorem dX6_readLetter_4 : decode cX6_readLetter 4 = .ok (.ifCond .ne 10, 3) := by decide +kernel
theorem dX6_readLetter_7 : decode cX6_readLetter 7 = .ok (.aload_n 0, 1) := by decide +kernel
theorem dX6_readLetter_8 : decode cX6_readLetter 8 = .ok (.bipush 102, 2) := by decide +kernel
theorem dX6_readLetter_10 : decode cX6_readLetter 10 = .ok (.invokevirtual 44, 3) := by decide +kernel
theorem dX6_readLetter_13 : decode cX6_readLetter 13 = .ok (.ireturn, 1) := by decide +kernel
theorem dX6_readLetter_14 : decode cX6_readLetter 14 = .ok (.aload_n 0, 1) := by decide +kernel
theorem dX6_readLetter_15 : decode cX6_readLetter 15 = .ok (.getfield 11, 3) := by decide +kernel
theorem dX6_readLetter_18 : decode cX6_readLetter 18 = .ok (.aload_n 0, 1) := by decide +kernel
theorem dX6_readLetter_19 : decode cX6_readLetter 19 = .ok (.getfield 19, 3) := by decide +kernel
theorem dX6_readLetter_22 : decode cX6_readLetter 22 = .ok (.iaload, 1) := by decide +kernel
theorem dX6_readLetter_23 : decode cX6_readLetter 23 = .ok (.invokestatic 48, 3) := by decide +kernel
theorem dX6_readLetter_26 : decode cX6_readLetter 26 = .ok (.istore_n 2, 1) := by decide +kernel
theorem dX6_readLetter_27 : decode cX6_readLetter 27 = .ok (.iload_n 2, 1) := by decide +kernel
theorem dX6_readLetter_28 : decode cX6_readLetter 28 = .ok (.ifCond .ne 5, 3) := by decide +kernel
theorem dX6_readLetter_31 : decode cX6_readLetter 31 = .ok (.iconst 1, 1) := by decide +kernel
theorem dX6_readLetter_32 : decode cX6_readLetter 32 = .ok (.ireturn, 1) := by decide +kernel
theorem dX6_readLetter_33 : decode cX6_readLetter 33 = .ok (.aload_n 0, 1) := by decide +kernel
theorem dX6_readLetter_34 : decode cX6_readLetter 34 = .ok (.getfield 25, 3) := by decide +kernel
theorem dX6_readLetter_37 : decode cX6_readLetter 37 = .ok (.iconst 1, 1) := by decide +kernel
theorem dX6_readLetter_38 : decode cX6_readLetter 38 = .ok (.isub, 1) := by decide +kernel
theorem dX6_readLetter_39 : decode cX6_readLetter 39 = .ok (.istore_n 3, 1) := by decide +kernel
theorem dX6_readLetter_40 : decode cX6_readLetter 40 = .ok (.iload_n 3, 1) := by decide +kernel
theorem dX6_readLetter_41 : decode cX6_readLetter 41 = .ok (.bipush 6, 2) := by decide +kernel
theorem dX6_readLetter_43 : decode cX6_readLetter 43 = .ok (.if_icmp .lt 5, 3) := by decide +kernel
theorem dX6_readLetter_46 : decode cX6_readLetter 46 = .ok (.iconst 3, 1) := by decide +kernel
theorem dX6_readLetter_47 : decode cX6_readLetter 47 = .ok (.ireturn, 1) := by decide +kernel
theorem dX6_readLetter_48 : decode cX6_readLetter 48 = .ok (.aload_n 1, 1) := by decide +kernel
theorem dX6_readLetter_49 : decode cX6_readLetter 49 = .ok (.getfield 52, 3) := by decide +kernel
theorem dX6_readLetter_52 : decode cX6_readLetter 52 = .ok (.bipush 48, 2) := by decide +kernel
theorem dX6_readLetter_54 : decode cX6_readLetter 54 = .ok (.iload_n 3, 1) := by decide +kernel
theorem dX6_readLetter_55 : decode cX6_readLetter 55 = .ok (.iadd, 1) := by decide +kernel
theorem dX6_readLetter_56 : decode cX6_readLetter 56 = .ok (.iload_n 2, 1) := by decide +kernel
theorem dX6_readLetter_57 : decode cX6_readLetter 57 = .ok (.iastore, 1) := by decide +kernel
theorem dX6_readLetter_58 : decode cX6_readLetter 58 = .ok (.aload_n 1, 1) := by decide +kernel
theorem dX6_readLetter_59 : decode cX6_readLetter 59 = .ok (.getfield 52, 3) := by decide +kernel
theorem dX6_readLetter_62 : decode cX6_readLetter 62 = .ok (.bipush 58, 2) := by decide +kernel
theorem dX6_readLetter_64 : decode cX6_readLetter 64 = .ok (.aload_n 0, 1) := by decide +kernel
theorem dX6_readLetter_65 : decode cX6_readLetter 65 = .ok (.getfield 25, 3) := by decide +kernel
theorem dX6_readLetter_68 : decode cX6_readLetter 68 = .ok (.iastore, 1) := by decide +kernel
theorem dX6_readLetter_69 : decode cX6_readLetter 69 = .ok (.aload_n 0, 1) := by decide +kernel
theorem dX6_readLetter_70 : decode cX6_readLetter 70 = .ok (.dup, 1) := by decide +kernel
theorem dX6_readLetter_71 : decode cX6_readLetter 71 = .ok (.getfield 19, 3) := by decide +kernel
theorem dX6_readLetter_74 : decode cX6_readLetter 74 = .ok (.iconst 1, 1) := by decide +kernel
theorem dX6_readLetter_75 : decode cX6_readLetter 75 = .ok (.iadd, 1) := by decide +kernel
theorem dX6_readLetter_76 : decode cX6_readLetter 76 = .ok (.putfield 19, 3) := by decide +kernel
theorem dX6_readLetter_79 : decode cX6_readLetter 79 = .ok (.iconst 0, 1) := by decide +kernel
theorem dX6_readLetter_80 : decode cX6_readLetter 80 = .ok (.ireturn, 1) := by decide +kernel
def bX6_readLetter_0 : List sx_S := [si_al 0, si_get 5 4, si_if1 (fun x => ¬ x = 0) 14 [true, true, false, false], si_al 0, si_const (nI 102), si_cv 5 77 1 0 0 0 0, si_ri]
def bX6_readLetter_14 : List sx_S := [si_al 0, si_get 5 0, si_al 0, si_get 5 2, si_iald, si_cs 79 1 0 0 0 0, si_is 2, si_il 2, si_if1 (fun x => ¬ x = 0) 33 [true, true, true, false], si_const 1, si_ri]
def bX6_readLetter_33 : List sx_S := [si_al 0, si_get 5 4, si_const 1, si_bin (fun x y => x - y), si_is 3, si_il 3, si_const (nI 6), si_if2 (fun x y => x < y) 48 [true, true, true, true], si_const (nI 3), si_ri]
def bX6_readLetter_48 : List sx_S := [si_al 1, si_get 2 0, si_const (nI 48), si_il 3, si_bin (fun x y => x + y), si_il 2, si_iast, si_al 1, si_get 2 0, si_const (nI 58), si_al 0, si_get 5 4, si_iast, si_al 0, si_dup, si_get 5 2, si_const 1, si_bin (fun x y => x + y), si_put 5 2 0, si_const 0, si_ri]
def BX6_readLetter : Nat → List sx_S := fun pc => if pc = 0 then bX6_readLetter_0 else if pc = 14 then bX6_readLetter_14 else if pc = 33 then bX6_readLetter_33 else if pc = 48 then bX6_readLetter_48 else []
set_option maxRecDepth 20000 in
theorem kX6_readLetter_0 : sx_BK sx_tb yX6_readLetter.cls cX6_readLetter 4 (some .int) ({ frames := 1, cells := 0, slots := 0, locals := 21 } : Room) false false 0 (fun _ => 0) 0 (bX6_readLetter_0) := ⟨_, ⟨sn_aload_n dX6_readLetter_0 rfl, sm_al _⟩, ⟨_, ⟨sn_get (C := RX6) (T := TX6) (N := 5) dX6_readLetter_1 rfl zinX6 (Nat.le_of_ble_eq_true rfl) zw_1_57, sm_get _ _⟩, ⟨_, ⟨sn_if_ne dX6_readLetter_4 (by decide +kernel) rfl, sm_if1 _ _ _⟩, ⟨_, ⟨sn_aload_n dX6_readLetter_7 rfl, sm_al _⟩, ⟨_, ⟨sn_bipush dX6_readLetter_8 (by decide +kernel), sm_const _⟩, ⟨_, ⟨sn_cv_i (N := 5) (T := TX6) ztb_X6_readSign dX6_readLetter_10 rfl rfl zw_2_9 zw_2_11 zw_0_3 zw_1_3 zw_2_12 zmh_X6 zpd_X6_readSign (Nat.le_of_ble_eq_true rfl) (Nat.le_of_ble_eq_true rfl) rfl rfl, sm_cv _ _ _ _ _ _ _⟩, ⟨_, ⟨sn_ri (len := 1) dX6_readLetter_13 rfl, sm_ri⟩, trivial⟩⟩⟩⟩⟩⟩⟩
set_option maxRecDepth 20000 in
theorem kX6_readLetter_14 : sx_BK sx_tb yX6_readLetter.cls cX6_readLetter 4 (some .int) ({ frames := 1, cells := 0, slots := 0, locals := 21 } : Room) false false 0 (fun _ => 0) 14 (bX6_readLetter_14) := ⟨_, ⟨sn_aload_n dX6_readLetter_14 rfl, sm_al _⟩, ⟨_, ⟨sn_get (C := RX6) (T := TX6) (N := 5) dX6_readLetter_15 rfl zinX6 (Nat.le_of_ble_eq_true rfl) zw_1_51, sm_get _ _⟩, ⟨_, ⟨sn_aload_n dX6_readLetter_18 rfl, sm_al _⟩, ⟨_, ⟨sn_get (C := RX6) (T := TX6) (N := 5) dX6_readLetter_19 rfl zinX6 (Nat.le_of_ble_eq_true rfl) zw_1_54, sm_get _ _⟩, ⟨_, ⟨sn_iald dX6_readLetter_22, sm_iald⟩, ⟨_, ⟨sn_cs_i ztb_X6_kindOf dX6_readLetter_23 zw_2_13 zw_2_14 zw_1_3 zw_2_15 zmh_X6 zpd_X6_kindOf (Nat.le_of_ble_eq_true rfl) (Nat.le_of_ble_eq_true rfl) rfl rfl, sm_cs _ _ _ _ _ _⟩, ⟨_, ⟨sn_istore_n dX6_readLetter_26 rfl (Nat.le_of_ble_eq_true rfl), sm_is _⟩, ⟨_, ⟨sn_iload_n dX6_readLetter_27 rfl, sm_il _⟩, ⟨_, ⟨sn_if_ne dX6_readLetter_28 (by decide +kernel) rfl, sm_if1 _ _ _⟩, ⟨_, ⟨sn_iconst dX6_readLetter_31 (by decide +kernel), sm_const _⟩, ⟨_, ⟨sn_ri (len := 1) dX6_readLetter_32 rfl, sm_ri⟩, trivial⟩⟩⟩⟩⟩⟩⟩⟩⟩⟩⟩
set_option maxRecDepth 20000 in
theorem kX6_readLetter_33 : sx_BK sx_tb yX6_readLetter.cls cX6_readLetter 4 (some .int) ({ frames := 1, cells := 0, slots := 0, locals := 21 } : Room) false false 0 (fun _ => 0) 33 (bX6_readLetter_33) := ⟨_, ⟨sn_aload_n dX6_readLetter_33 rfl, sm_al _⟩, ⟨_, ⟨sn_get (C := RX6) (T := TX6) (N := 5) dX6_readLetter_34 rfl zinX6 (Nat.le_of_ble_eq_true rfl) zw_1_57, sm_get _ _⟩, ⟨_, ⟨sn_iconst dX6_readLetter_37 (by decide +kernel), sm_const _⟩, ⟨_, ⟨sn_isub dX6_readLetter_38, sm_bin _⟩, ⟨_, ⟨sn_istore_n dX6_readLetter_39 rfl (Nat.le_of_ble_eq_true rfl), sm_is _⟩, ⟨_, ⟨sn_iload_n dX6_readLetter_40 rfl, sm_il _⟩, ⟨_, ⟨sn_bipush dX6_readLetter_41 (by decide +kernel), sm_const _⟩, ⟨_, ⟨sn_ic_lt dX6_readLetter_43 (by decide +kernel) rfl, sm_if2 _ _ _⟩, ⟨_, ⟨sn_iconst dX6_readLetter_46 (by decide +kernel), sm_const _⟩, ⟨_, ⟨sn_ri (len := 1) dX6_readLetter_47 rfl, sm_ri⟩, trivial⟩⟩⟩⟩⟩⟩⟩⟩⟩⟩
set_option maxRecDepth 20000 in
theorem kX6_readLetter_48 : sx_BK sx_tb yX6_readLetter.cls cX6_readLetter 4 (some .int) ({ frames := 1, cells := 0, slots := 0, locals := 21 } : Room) false false 0 (fun _ => 0) 48 (bX6_readLetter_48) := ⟨_, ⟨sn_aload_n dX6_readLetter_48 rfl, sm_al _⟩, ⟨_, ⟨sn_get (C := RX2) (T := TX2) (N := 1) dX6_readLetter_49 rfl zinX2 (Nat.le_of_ble_eq_true rfl) zw_1_79, sm_get _ _⟩, ⟨_, ⟨sn_bipush dX6_readLetter_52 (by decide +kernel), sm_const _⟩, ⟨_, ⟨sn_iload_n dX6_readLetter_54 rfl, sm_il _⟩, ⟨_, ⟨sn_iadd dX6_readLetter_55, sm_bin _⟩, ⟨_, ⟨sn_iload_n dX6_readLetter_56 rfl, sm_il _⟩, ⟨_, ⟨sn_iast dX6_readLetter_57, sm_iast⟩, ⟨_, ⟨sn_aload_n dX6_readLetter_58 rfl, sm_al _⟩, ⟨_, ⟨sn_get (C := RX2) (T := TX2) (N := 1) dX6_readLetter_59 rfl zinX2 (Nat.le_of_ble_eq_true rfl) zw_1_79, sm_get _ _⟩, ⟨_, ⟨sn_bipush dX6_readLetter_62 (by decide +kernel), sm_const _⟩, ⟨_, ⟨sn_aload_n dX6_readLetter_64 rfl, sm_al _⟩, ⟨_, ⟨sn_get (C := RX6) (T := TX6) (N := 5) dX6_readLetter_65 rfl zinX6 (Nat.le_of_ble_eq_true rfl) zw_1_57, sm_get _ _⟩, ⟨_, ⟨sn_iast dX6_readLetter_68, sm_iast⟩, ⟨_, ⟨sn_aload_n dX6_readLetter_69 rfl, sm_al _⟩, ⟨_, ⟨sn_dup dX6_readLetter_70, sm_dup⟩, ⟨_, ⟨sn_get (C := RX6) (T := TX6) (N := 5) dX6_readLetter_71 rfl zinX6 (Nat.le_of_ble_eq_true rfl) zw_1_54, sm_get _ _⟩, ⟨_, ⟨sn_iconst dX6_readLetter_74 (by decide +kernel), sm_const _⟩, ⟨_, ⟨sn_iadd dX6_readLetter_75, sm_bin _⟩, ⟨_, ⟨sn_put (C := RX6) (T := TX6) (N := 5) dX6_readLetter_76 rfl zinX6 tyX6_ok nmX6 (Nat.le_of_ble_eq_true rfl) zw_1_54 rfl (tyX6_ok 2 (Nat.le_of_ble_eq_true rfl)) trivial, sm_put _ _ _⟩, ⟨_, ⟨sn_iconst dX6_readLetter_79 (by decide +kernel), sm_const _⟩, ⟨_, ⟨sn_ri (len := 1) dX6_readLetter_80 rfl, sm_ri⟩, trivial⟩⟩⟩⟩⟩⟩⟩⟩⟩⟩⟩⟩⟩⟩⟩⟩⟩⟩⟩⟩⟩
theorem kX6_readLetter : ∀ pc, sx_BK sx_tb yX6_readLetter.cls cX6_readLetter 4 (some .int) ({ frames := 1, cells := 0, slots := 0, locals := 21 } : Room) false false 0 (fun _ => 0) pc (BX6_readLetter pc) := fun pc => sx_bk_if (kX6_readLetter_0) (sx_bk_if (kX6_readLetter_14) (sx_bk_if (kX6_readLetter_33) (sx_bk_if (kX6_readLetter_48) (trivial))))
theorem okX6_readLetter : sx_ok sx_tb BX6_readLetter (yX6_readLetter, cX6_readLetter, 4, some .int, { frames := 1, cells := 0, slots := 0, locals := 21 }) := ⟨by decide, by decide +kernel, false, (fun h => by cases h), kX6_readLetter⟩
theorem dX6_kindOf_0 : decode cX6_kindOf 0 = .ok (.iload_n 0, 1) := by decide +kernel
theorem dX6_kindOf_1 : decode cX6_kindOf 1 = .ok (.tableswitch 81 103 116 #[79, 75, 81, 81, 81, 81, 81, 81, 81, 81, 81, 73, 71, 77], 71) := by decide +kernel
theorem dX6_kindOf_72 : decode cX6_kindOf 72 = .ok (.iconst 1, 1) := by decide +kernel
theorem dX6_kindOf_73 : decode cX6_kindOf 73 = .ok (.ireturn, 1) := by decide +kernel
theorem dX6_kindOf_74 : decode cX6_kindOf 74 = .ok (.iconst 2, 1) := by decide +kernel
theorem dX6_kindOf_75 : decode cX6_kindOf 75 = .ok (.ireturn, 1) := by decide +kernel
theorem dX6_kindOf_76 : decode cX6_kindOf 76 = .ok (.iconst 3, 1) := by decide +kernel
theorem dX6_kindOf_77 : decode cX6_kindOf 77 = .ok (.ireturn, 1) := by decide +kernel
theorem dX6_kindOf_78 : decode cX6_kindOf 78 = .ok (.iconst 4, 1) := by decide +kernel
theorem dX6_kindOf_79 : decode cX6_kindOf 79 = .ok (.ireturn, 1) := by decide +kernel
theorem dX6_kindOf_80 : decode cX6_kindOf 80 = .ok (.iconst 5, 1) := by decide +kernel
theorem dX6_kindOf_81 : decode cX6_kindOf 81 = .ok (.ireturn, 1) := by decide +kernel
theorem dX6_kindOf_82 : decode cX6_kindOf 82 = .ok (.iconst 0, 1) := by decide +kernel
theorem dX6_kindOf_83 : decode cX6_kindOf 83 = .ok (.ireturn, 1) := by decide +kernel
def bX6_kindOf_0 : List sx_S := [si_il 0, si_sw [((nI 103), 80, [false]), ((nI 104), 76, [false]), ((nI 105), 82, [false]), ((nI 106), 82, [false]), ((nI 107), 82, [false]), ((nI 108), 82, [false]), ((nI 109), 82, [false]), ((nI 110), 82, [false]), ((nI 111), 82, [false]), ((nI 112), 82, [false]), ((nI 113), 82, [false]), ((nI 114), 74, [false]), ((nI 115), 72, [false]), ((nI 116), 78, [false])] 82 [false]]
def bX6_kindOf_72 : List sx_S := [si_const 1, si_ri]
def bX6_kindOf_74 : List sx_S := [si_const (nI 2), si_ri]
def bX6_kindOf_76 : List sx_S := [si_const (nI 3), si_ri]
def bX6_kindOf_78 : List sx_S := [si_const (nI 4), si_ri]
def bX6_kindOf_80 : List sx_S := [si_const (nI 5), si_ri]
def bX6_kindOf_82 : List sx_S := [si_const 0, si_ri]
def BX6_kindOf : Nat → List sx_S := fun pc => if pc = 0 then bX6_kindOf_0 else if pc = 72 then bX6_kindOf_72 else if pc = 74 then bX6_kindOf_74 else if pc = 76 then bX6_kindOf_76 else if pc = 78 then bX6_kindOf_78 else if pc = 80 then bX6_kindOf_80 else if pc = 82 then bX6_kindOf_82 else []
set_option maxRecDepth 20000 in
theorem kX6_kindOf_0 : sx_BK sx_tb yX6_kindOf.cls cX6_kindOf 1 (some .int) ({ frames := 0, cells := 0, slots := 0, locals := 0 } : Room) false false 0 (fun _ => 0) 0 (bX6_kindOf_0) := ⟨_, ⟨sn_iload_n dX6_kindOf_0 rfl, sm_il _⟩, ⟨_, ⟨sn_tsw (len := 3) dX6_kindOf_1 (by decide +kernel) (by decide +kernel) (by decide +kernel) rfl, sm_sw _ _ _⟩, trivial⟩⟩
set_option maxRecDepth 20000 in
theorem kX6_kindOf_72 : sx_BK sx_tb yX6_kindOf.cls cX6_kindOf 1 (some .int) ({ frames := 0, cells := 0, slots := 0, locals := 0 } : Room) false false 0 (fun _ => 0) 72 (bX6_kindOf_72) := ⟨_, ⟨sn_iconst dX6_kindOf_72 (by decide +kernel), sm_const _⟩, ⟨_, ⟨sn_ri (len := 1) dX6_kindOf_73 rfl, sm_ri⟩, trivial⟩⟩
set_option maxRecDepth 20000 in
theorem kX6_kindOf_74 : sx_BK sx_tb yX6_kindOf.cls cX6_kindOf 1 (some .int) ({ frames := 0, cells := 0, slots := 0, locals := 0 } : Room) false false 0 (fun _ => 0) 74 (bX6_kindOf_74) := ⟨_, ⟨sn_iconst dX6_kindOf_74 (by decide +kernel), sm_const _⟩, ⟨_, ⟨sn_ri (len := 1) dX6_kindOf_75 rfl, sm_ri⟩, trivial⟩⟩
set_option maxRecDepth 20000 in
theorem kX6_kindOf_76 : sx_BK sx_tb yX6_kindOf.cls cX6_kindOf 1 (some .int) ({ frames := 0, cells := 0, slots := 0, locals := 0 } : Room) false false 0 (fun _ => 0) 76 (bX6_kindOf_76) := ⟨_, ⟨sn_iconst dX6_kindOf_76 (by decide +kernel), sm_const _⟩, ⟨_, ⟨sn_ri (len := 1) dX6_kindOf_77 rfl, sm_ri⟩, trivial⟩⟩
set_option maxRecDepth 20000 in
theorem kX6_kindOf_78 : sx_BK sx_tb yX6_kindOf.cls cX6_kindOf 1 (some .int) ({ frames := 0, cells := 0, slots := 0, locals := 0 } : Room) false false 0 (fun _ => 0) 78 (bX6_kindOf_78) := ⟨_, ⟨sn_iconst dX6_kindOf_78 (by decide +kernel), sm_const _⟩, ⟨_, ⟨sn_ri (len := 1) dX6_kindOf_79 rfl, sm_ri⟩, trivial⟩⟩
set_option maxRecDepth 20000 in
theorem kX6_kindOf_80 : sx_BK sx_tb yX6_kindOf.cls cX6_kindOf 1 (some .int) ({ frames := 0, cells := 0, slots := 0, locals := 0 } : Room) false false 0 (fun _ => 0) 80 (bX6_kindOf_80) := ⟨_, ⟨sn_iconst dX6_kindOf_80 (by decide +kernel), sm_const _⟩, ⟨_, ⟨sn_ri (len := 1) dX6_kindOf_81 rfl, sm_ri⟩, trivial⟩⟩
set_option maxRecDepth 20000 in
theorem kX6_kindOf_82 : sx_BK sx_tb yX6_kindOf.cls cX6_kindOf 1 (some .int) ({ frames := 0, cells := 0, slots := 0, locals := 0 } : Room) false false 0 (fun _ => 0) 82 (bX6_kindOf_82) := ⟨_, ⟨sn_iconst dX6_kindOf_82 (by decide +kernel), sm_const _⟩, ⟨_, ⟨sn_ri (len := 1) dX6_kindOf_83 rfl, sm_ri⟩, trivial⟩⟩
theorem kX6_kindOf : ∀ pc, sx_BK sx_tb yX6_kindOf.cls cX6_kindOf 1 (some .int) ({ frames := 0, cells := 0, slots := 0, locals := 0 } : Room) false false 0 (fun _ => 0) pc (BX6_kindOf pc) := fun pc => sx_bk_if (kX6_kindOf_0) (sx_bk_if (kX6_kindOf_72) (sx_bk_if (kX6_kindOf_74) (sx_bk_if (kX6_kindOf_76) (sx_bk_if (kX6_kindOf_78) (sx_bk_if (kX6_kindOf_80) (sx_bk_if (kX6_kindOf_82) (trivial)))))))
theorem okX6_kindOf : sx_ok sx_tb BX6_kindOf (yX6_kindOf, cX6_kindOf, 1, some .int, { frames := 0, cells := 0, slots := 0, locals := 0 }) := ⟨by decide, by decide +kernel, false, (fun h => by cases h), kX6_kindOf⟩
theorem dX6_readNumber_0 : decode cX6_readNumber 0 = .ok (.iconst 0, 1) := by decide +kernel
theorem dX6_readNumber_1 : decode cX6_readNumber 1 = .ok (.istore_n 2, 1) := by decide +kernel
theorem dX6_readNumber_2 : decode cX6_readNumber 2 = .ok (.aload_n 0, 1) := by decide +kernel
theorem dX6_readNumber_3 : decode cX6_readNumber 3 = .ok (.getfield 19, 3) := by decide +kernel
theorem dX6_readNumber_6 : decode cX6_readNumber 6 = .ok (.istore_n 3, 1) := by decide +kernel
theorem dX6_readNumber_7 : decode cX6_readNumber 7 = .ok (.iload_n 3, 1) := by decide +kernel
theorem dX6_readNumber_8 : decode cX6_readNumber 8 = .ok (.aload_n 0, 1) := by decide +kernel
theorem dX6_readNumber_9 : decode cX6_readNumber 9 = .ok (.getfield 15, 3) := by decide +kernel
theorem dX6_readNumber_12 : decode cX6_readNumber 12 = .ok (.if_icmp .ge 36, 3) := by decide +kernel
theorem dX6_readNumber_15 : decode cX6_readNumber 15 = .ok (.aload_n 0, 1) := by decide +kernel
theorem dX6_readNumber_16 : decode cX6_readNumber 16 = .ok (.getfield 11, 3) := by decide +kernel
theorem dX6_readNumber_19 : decode cX6_readNumber 19 = .ok (.iload_n 3, 1) := by decide +kernel
theorem dX6_readNumber_20 : decode cX6_readNumber 20 = .ok (.iaload, 1) := by decide +kernel
theorem dX6_readNumber_21 : decode cX6_readNumber 21 = .ok (.invokestatic 55, 3) := by decide +kernel
theorem dX6_readNumber_24 : decode cX6_readNumber 24 = .ok (.ifCond .eq 24, 3) := by decide +kernel
theorem dX6_readNumber_27 : decode cX6_readNumber 27 = .ok (.iload_n 2, 1) := by decide +kernel
theorem dX6_readNumber_28 : decode cX6_readNumber 28 = .ok (.bipush 10, 2) := by decide +kernel
theorem dX6_readNumber_30 : decode cX6_readNumber 30 = .ok (.imul, 1) := by decide +kernel
theorem dX6_readNumber_31 : decode cX6_readNumber 31 = .ok (.aload_n 0, 1) := by decide +kernel
theorem dX6_readNumber_32 : decode cX6_readNumber 32 = .ok (.getfield 11, 3) := by decide +kernel
theorem dX6_readNumber_35 : decode cX6_readNumber 35 = .ok (.iload_n 3, 1) := by decide +kernel
theorem dX6_readNumber_36 : decode cX6_readNumber 36 = .ok (.iaload, 1) := by decide +kernel
theorem dX6_readNumber_37 : decode cX6_readNumber 37 = .ok (.iadd, 1) := by decide +kernel
theorem dX6_readNumber_38 : decode cX6_readNumber 38 = .ok (.bipush 48, 2) := by decide +kernel
theorem dX6_readNumber_40 : decode cX6_readNumber 40 = .ok (.isub, 1) := by decide +kernel
theorem dX6_readNumber_41 : decode cX6_readNumber 41 = .ok (.istore_n 2, 1) := by decide +kernel
theorem dX6_readNumber_42 : decode cX6_readNumber 42 = .ok (.iinc 3 1, 3) := by decide +kernel
theorem dX6_readNumber_45 : decode cX6_readNumber 45 = .ok (.goto (-38), 3) := by decide +kernel
theorem dX6_readNumber_48 : decode cX6_readNumber 48 = .ok (.iload_n 3, 1) := by decide +kernel
theorem dX6_readNumber_49 : decode cX6_readNumber 49 = .ok (.aload_n 0, 1) := by decide +kernel
theorem dX6_readNumber_50 : decode cX6_readNumber 50 = .ok (.getfield 19, 3) := by decide +kernel
theorem dX6_readNumber_53 : decode cX6_readNumber 53 = .ok (.isub, 1) := by decide +kernel
theorem dX6_readNumber_54 : decode cX6_readNumber 54 = .ok (.istore 4, 2) := by decide +kernel
theorem dX6_readNumber_56 : decode cX6_readNumber 56 = .ok (.iload 4, 2) := by decide +kernel
theorem dX6_readNumber_58 : decode cX6_readNumber 58 = .ok (.ifCond .eq 9, 3) := by decide +kernel
theorem dX6_readNumber_61 : decode cX6_readNumber 61 = .ok (.iload 4, 2) := by decide +kernel
theorem dX6_readNumber_63 : decode cX6_readNumber 63 = .ok (.iconst 2, 1) := by decide +kernel
theorem dX6_readNumber_64 : decode cX6_readNumber 64 = .ok (.if_icmp .le 5, 3) := by decide +kernel
theorem dX6_readNumber_67 : decode cX6_readNumber 67 = .ok (.iconst 1, 1) := by decide +kernel
theorem dX6_readNumber_68 : decode cX6_readNumber 68 = .ok (.ireturn, 1) := by decide +kernel
theorem dX6_readNumber_69 : decode cX6_readNumber 69 = .ok (.iload_n 2, 1) := by decide +kernel
theorem dX6_readNumber_70 : decode cX6_readNumber 70 = .ok (.aload_n 0, 1) := by decide +kernel
theorem dX6_readNumber_71 : decode cX6_readNumber 71 = .ok (.invokevirtual 59, 3) := by decide +kernel
theorem dX6_readNumber_74 : decode cX6_readNumber 74 = .ok (.if_icmp .lt 11, 3) := by decide +kernel
theorem dX6_readNumber_77 : decode cX6_readNumber 77 = .ok (.iload_n 2, 1) := by decide +kernel
theorem dX6_readNumber_78 : decode cX6_readNumber 78 = .ok (.aload_n 0, 1) := by decide +kernel
theorem dX6_readNumber_79 : decode cX6_readNumber 79 = .ok (.invokevirtual 63, 3) := by decide +kernel
theorem dX6_readNumber_82 : decode cX6_readNumber 82 = .ok (.if_icmp .le 5, 3) := by decide +kernel
theorem dX6_readNumber_85 : decode cX6_readNumber 85 = .ok (.iconst 2, 1) := by decide +kernel
theorem dX6_readNumber_86 : decode cX6_readNumber 86 = .ok (.ireturn, 1) := by decide +kernel
theorem dX6_readNumber_87 : decode cX6_readNumber 87 = .ok (.aload_n 1, 1) := by decide +kernel
theorem dX6_readNumber_88 : decode cX6_readNumber 88 = .ok (.getfield 52, 3) := by decide +kernel
theorem dX6_readNumber_91 : decode cX6_readNumber 91 = .ok (.aload_n 0, 1) := by decide +kernel
theorem dX6_readNumber_92 : decode cX6_readNumber 92 = .ok (.invokevirtual 66, 3) := by decide +kernel
theorem dX6_readNumber_95 : decode cX6_readNumber 95 = .ok (.iload_n 2, 1) := by decide +kernel
theorem dX6_readNumber_96 : decode cX6_readNumber 96 = .ok (.iastore, 1) := by decide +kernel
theorem dX6_readNumber_97 : decode cX6_readNumber 97 = .ok (.aload_n 0, 1) := by decide +kernel
theorem dX6_readNumber_98 : decode cX6_readNumber 98 = .ok (.iload_n 3, 1) := by decide +kernel
theorem dX6_readNumber_99 : decode cX6_readNumber 99 = .ok (.putfield 19, 3) := by decide +kernel
theorem dX6_readNumber_102 : decode cX6_readNumber 102 = .ok (.iconst 0, 1) := by decide +kernel
theorem dX6_readNumber_103 : decode cX6_readNumber 103 = .ok (.ireturn, 1) := by decide +kernel
def bX6_readNumber_0 : List sx_S := [si_const 0, si_is 2, si_al 0, si_get 5 2, si_is 3, si_go 7 [true, true, true, true, false]]
def bX6_readNumber_7 : List sx_S := [si_il 3, si_al 0, si_get 5 1, si_if2 (fun x y => y ≤ x) 48 [true, true, true, true, false], si_al 0, si_get 5 0, si_il 3, si_iald, si_cs 81 1 0 0 0 0, si_if1 (fun x => x = 0) 48 [true, true, true, true, false], si_il 2, si_const (nI 10), si_bin (fun x y => x * y), si_al 0, si_get 5 0, si_il 3, si_iald, si_bin (fun x y => x + y), si_const (nI 48), si_bin (fun x y => x - y), si_is 2, si_inc 3 1, si_go 7 [true, true, true, true, false]]
def bX6_readNumber_48 : List sx_S := [si_il 3, si_al 0, si_get 5 2, si_bin (fun x y => x - y), si_is 4, si_il 4, si_if1 (fun x => x = 0) 67 [false, false, false, false, false], si_il 4, si_const (nI 2), si_if2 (fun x y => x ≤ y) 69 [true, true, true, true, false], si_go 67 [false, false, false, false, false]]
def bX6_readNumber_67 : List sx_S := [si_const 1, si_ri]
def bX6_readNumber_69 : List sx_S := [si_il 2, si_al 0, si_cv 5 82 0 0 0 0 0, si_if2 (fun x y => x < y) 85 [false, false, false, false, false], si_il 2, si_al 0, si_cv 5 83 0 0 0 0 0, si_if2 (fun x y => x ≤ y) 87 [true, true, true, true, false], si_go 85 [false, false, false, false, false]]
def bX6_readNumber_85 : List sx_S := [si_const (nI 2), si_ri]
def bX6_readNumber_87 : List sx_S := [si_al 1, si_get 2 0, si_al 0, si_cv 5 84 0 0 0 0 0, si_il 2, si_iast, si_al 0, si_il 3, si_put 5 2 0, si_const 0, si_ri]
def BX6_readNumber : Nat → List sx_S := fun pc => if pc = 0 then bX6_readNumber_0 else if pc = 7 then bX6_readNumber_7 else if pc = 48 then bX6_readNumber_48 else if pc = 67 then bX6_readNumber_67 else if pc = 69 then bX6_readNumber_69 else if pc = 85 then bX6_readNumber_85 else if pc = 87 then bX6_readNumber_87 else []
set_option maxRecDepth 20000 in
theorem kX6_readNumber_0 : sx_BK sx_tb yX6_readNumber.cls cX6_readNumber 5 (some .int) ({ frames := 1, cells := 0, slots := 0, locals := 21 } : Room) false false 0 (fun _ => 0) 0 (bX6_readNumber_0) := ⟨_, ⟨sn_iconst dX6_readNumber_0 (by decide +kernel), sm_const _⟩, ⟨_, ⟨sn_istore_n dX6_readNumber_1 rfl (Nat.le_of_ble_eq_true rfl), sm_is _⟩, ⟨_, ⟨sn_aload_n dX6_readNumber_2 rfl, sm_al _⟩, ⟨_, ⟨sn_get (C := RX6) (T := TX6) (N := 5) dX6_readNumber_3 rfl zinX6 (Nat.le_of_ble_eq_true rfl) zw_1_54, sm_get _ _⟩, ⟨_, ⟨sn_istore_n dX6_readNumber_6 rfl (Nat.le_of_ble_eq_true rfl), sm_is _⟩, ⟨_, ⟨sn_fall (len := 0) rfl rfl, sm_go _ _⟩, trivial⟩⟩⟩⟩⟩⟩
set_option maxRecDepth 20000 in
theorem kX6_readNumber_7 : sx_BK sx_tb yX6_readNumber.cls cX6_readNumber 5 (some .int) ({ frames := 1, cells := 0, slots := 0, locals := 21 } : Room) false false 0 (fun _ => 0) 7 (bX6_readNumber_7) := ⟨_, ⟨sn_iload_n dX6_readNumber_7 rfl, sm_il _⟩, ⟨_, ⟨sn_aload_n dX6_readNumber_8 rfl, sm_al _⟩, ⟨_, ⟨sn_get (C := RX6) (T := TX6) (N := 5) dX6_readNumber_9 rfl zinX6 (Nat.le_of_ble_eq_true rfl) zw_1_52, sm_get _ _⟩, ⟨_, ⟨sn_ic_ge dX6_readNumber_12 (by decide +kernel) rfl, sm_if2 _ _ _⟩, ⟨_, ⟨sn_aload_n dX6_readNumber_15 rfl, sm_al _⟩, ⟨_, ⟨sn_get (C := RX6) (T := TX6) (N := 5) dX6_readNumber_16 rfl zinX6 (Nat.le_of_ble_eq_true rfl) zw_1_51, sm_get _ _⟩, ⟨_, ⟨sn_iload_n dX6_readNumber_19 rfl, sm_il _⟩, ⟨_, ⟨sn_iald dX6_readNumber_20, sm_iald⟩, ⟨_, ⟨sn_cs_z ztb_X6_isFigure dX6_readNumber_21 zw_2_20 zw_2_21 zw_1_3 zw_2_22 zmh_X6 zpd_X6_isFigure (Nat.le_of_ble_eq_true rfl) (Nat.le_of_ble_eq_true rfl) rfl rfl, sm_cs _ _ _ _ _ _⟩, ⟨_, ⟨sn_if_eq dX6_readNumber_24 (by decide +kernel) rfl, sm_if1 _ _ _⟩, ⟨_, ⟨sn_iload_n dX6_readNumber_27 rfl, sm_il _⟩, ⟨_, ⟨sn_bipush dX6_readNumber_28 (by decide +kernel), sm_const _⟩, ⟨_, ⟨sn_imul dX6_readNumber_30, sm_bin _⟩, ⟨_, ⟨sn_aload_n dX6_readNumber_31 rfl, sm_al _⟩, ⟨_, ⟨sn_get (C := RX6) (T := TX6) (N := 5) dX6_readNumber_32 rfl zinX6 (Nat.le_of_ble_eq_true rfl) zw_1_51, sm_get _ _⟩, ⟨_, ⟨sn_iload_n dX6_readNumber_35 rfl, sm_il _⟩, ⟨_, ⟨sn_iald dX6_readNumber_36, sm_iald⟩, ⟨_, ⟨sn_iadd dX6_readNumber_37, sm_bin _⟩, ⟨_, ⟨sn_bipush dX6_readNumber_38 (by decide +kernel), sm_const _⟩, ⟨_, ⟨sn_isub dX6_readNumber_40, sm_bin _⟩, ⟨_, ⟨sn_istore_n dX6_readNumber_41 rfl (Nat.le_of_ble_eq_true rfl), sm_is _⟩, ⟨_, ⟨sn_iinc dX6_readNumber_42 (by decide +kernel) (Nat.le_of_ble_eq_true rfl), sm_inc _ _⟩, ⟨_, ⟨sn_goto (len := 3) dX6_readNumber_45 (by decide +kernel) rfl, sm_go _ _⟩, trivial⟩⟩⟩⟩⟩⟩⟩⟩⟩⟩⟩⟩⟩⟩⟩⟩⟩⟩⟩⟩⟩⟩⟩
set_option maxRecDepth 20000 in
theorem kX6_readNumber_48 : sx_BK sx_tb yX6_readNumber.cls cX6_readNumber 5 (some .int) ({ frames := 1, cells := 0, slots := 0, locals := 21 } : Room) false false 0 (fun _ => 0) 48 (bX6_readNumber_48) := ⟨_, ⟨sn_iload_n dX6_readNumber_48 rfl, sm_il _⟩, ⟨_, ⟨sn_aload_n dX6_readNumber_49 rfl, sm_al _⟩, ⟨_, ⟨sn_get (C := RX6) (T := TX6) (N := 5) dX6_readNumber_50 rfl zinX6 (Nat.le_of_ble_eq_true rfl) zw_1_54, sm_get _ _⟩, ⟨_, ⟨sn_isub dX6_readNumber_53, sm_bin _⟩, ⟨_, ⟨sn_istore dX6_readNumber_54 (Nat.le_of_ble_eq_true rfl), sm_is _⟩, ⟨_, ⟨sn_iload dX6_readNumber_56, sm_il _⟩, ⟨_, ⟨sn_if_eq dX6_readNumber_58 (by decide +kernel) rfl, sm_if1 _ _ _⟩, ⟨_, ⟨sn_iload dX6_readNumber_61, sm_il _⟩, ⟨_, ⟨sn_iconst dX6_readNumber_63 (by decide +kernel), sm_const _⟩, ⟨_, ⟨sn_ic_le dX6_readNumber_64 (by decide +kernel) rfl, sm_if2 _ _ _⟩, ⟨_, ⟨sn_fall (len := 0) rfl rfl, sm_go _ _⟩, trivial⟩⟩⟩⟩⟩⟩⟩⟩⟩⟩⟩
set_option maxRecDepth 20000 in
theorem kX6_readNumber_67 : sx_BK sx_tb yX6_readNumber.cls cX6_readNumber 5 (some .int) ({ frames := 1, cells := 0, slots := 0, locals := 21 } : Room) false false 0 (fun _ => 0) 67 (bX6_readNumber_67) := ⟨_, ⟨sn_iconst dX6_readNumber_67 (by decide +kernel), sm_const _⟩, ⟨_, ⟨sn_ri (len := 1) dX6_readNumber_68 rfl, sm_ri⟩, trivial⟩⟩
set_option maxRecDepth 20000 in
theorem kX6_readNumber_69 : sx_BK sx_tb yX6_readNumber.cls cX6_readNumber 5 (some .int) ({ frames := 1, cells := 0, slots := 0, locals := 21 } : Room) false false 0 (fun _ => 0) 69 (bX6_readNumber_69) := ⟨_, ⟨sn_iload_n dX6_readNumber_69 rfl, sm_il _⟩, ⟨_, ⟨sn_aload_n dX6_readNumber_70 rfl, sm_al _⟩, ⟨_, ⟨sn_cv_i (N := 5) (T := TX6) ztb_X6_leastTold dX6_readNumber_71 rfl rfl zw_2_23 zw_2_25 zw_0_5 zw_1_3 zw_2_26 zmh_X6 zpd_X6_leastTold (Nat.le_of_ble_eq_true rfl) (Nat.le_of_ble_eq_true rfl) rfl rfl, sm_cv _ _ _ _ _ _ _⟩, ⟨_, ⟨sn_ic_lt dX6_readNumber_74 (by decide +kernel) rfl, sm_if2 _ _ _⟩, ⟨_, ⟨sn_iload_n dX6_readNumber_77 rfl, sm_il _⟩, ⟨_, ⟨sn_aload_n dX6_readNumber_78 rfl, sm_al _⟩, ⟨_, ⟨sn_cv_i (N := 5) (T := TX6) ztb_X6_mostTold dX6_readNumber_79 rfl rfl zw_2_27 zw_2_29 zw_0_6 zw_1_3 zw_2_30 zmh_X6 zpd_X6_mostTold (Nat.le_of_ble_eq_true rfl) (Nat.le_of_ble_eq_true rfl) rfl rfl, sm_cv _ _ _ _ _ _ _⟩, ⟨_, ⟨sn_ic_le dX6_readNumber_82 (by decide +kernel) rfl, sm_if2 _ _ _⟩, ⟨_, ⟨sn_fall (len := 0) rfl rfl, sm_go _ _⟩, trivial⟩⟩⟩⟩⟩⟩⟩⟩⟩
set_option maxRecDepth 20000 in
theorem kX6_readNumber_85 : sx_BK sx_tb yX6_readNumber.cls cX6_readNumber 5 (some .int) ({ frames := 1, cells := 0, slots := 0, locals := 21 } : Room) false false 0 (fun _ => 0) 85 (bX6_readNumber_85) := ⟨_, ⟨sn_iconst dX6_readNumber_85 (by decide +kernel), sm_const _⟩, ⟨_, ⟨sn_ri (len := 1) dX6_readNumber_86 rfl, sm_ri⟩, trivial⟩⟩
set_option maxRecDepth 20000 in
theorem kX6_readNumber_87 : sx_BK sx_tb yX6_readNumber.cls cX6_readNumber 5 (some .int) ({ frames := 1, cells := 0, slots := 0, locals := 21 } : Room) false false 0 (fun _ => 0) 87 (bX6_readNumber_87) := ⟨_, ⟨sn_aload_n dX6_readNumber_87 rfl, sm_al _⟩, ⟨_, ⟨sn_get (C := RX2) (T := TX2) (N := 1) dX6_readNumber_88 rfl zinX2 (Nat.le_of_ble_eq_true rfl) zw_1_79, sm_get _ _⟩, ⟨_, ⟨sn_aload_n dX6_readNumber_91 rfl, sm_al _⟩, ⟨_, ⟨sn_cv_i (N := 5) (T := TX6) ztb_X6_placeTold dX6_readNumber_92 rfl rfl zw_2_31 zw_2_33 zw_0_7 zw_1_3 zw_2_34 zmh_X6 zpd_X6_placeTold (Nat.le_of_ble_eq_true rfl) (Nat.le_of_ble_eq_true rfl) rfl rfl, sm_cv _ _ _ _ _ _ _⟩, ⟨_, ⟨sn_iload_n dX6_readNumber_95 rfl, sm_il _⟩, ⟨_, ⟨sn_iast dX6_readNumber_96, sm_iast⟩, ⟨_, ⟨sn_aload_n dX6_readNumber_97 rfl, sm_al _⟩, ⟨_, ⟨sn_iload_n dX6_readNumber_98 rfl, sm_il _⟩, ⟨_, ⟨sn_put (C := RX6) (T := TX6) (N := 5) dX6_readNumber_99 rfl zinX6 tyX6_ok nmX6 (Nat.le_of_ble_eq_true rfl) zw_1_54 rfl (tyX6_ok 2 (Nat.le_of_ble_eq_true rfl)) trivial, sm_put _ _ _⟩, ⟨_, ⟨sn_iconst dX6_readNumber_102 (by decide +kernel), sm_const _⟩, ⟨_, ⟨sn_ri (len := 1) dX6_readNumber_103 rfl, sm_ri⟩, trivial⟩⟩⟩⟩⟩⟩⟩⟩⟩⟩⟩
theorem kX6_readNumber : ∀ pc, sx_BK sx_tb yX6_readNumber.cls cX6_readNumber 5 (some .int) ({ frames := 1, cells := 0, slots := 0, locals := 21 } : Room) false false 0 (fun _ => 0) pc (BX6_readNumber pc) := fun pc => sx_bk_if (kX6_readNumber_0) (sx_bk_if (kX6_readNumber_7) (sx_bk_if (kX6_readNumber_48) (sx_bk_if (kX6_readNumber_67) (sx_bk_if (kX6_readNumber_69) (sx_bk_if (kX6_readNumber_85) (sx_bk_if (kX6_readNumber_87) (trivial)))))))
theorem okX6_readNumber : sx_ok sx_tb BX6_readNumber (yX6_readNumber, cX6_readNumber, 5, some .int, { frames := 1, cells := 0, slots := 0, locals := 21 }) := ⟨by decide, by decide +kernel, false, (fun h => by cases h), kX6_readNumber⟩
theorem dX6_isFigure_0 : decode cX6_isFigure 0 = .ok (.iload_n 0, 1) := by decide +kernel
theorem dX6_isFigure_1 : decode cX6_isFigure 1 = .ok (.bipush 48, 2) := by decide +kernel
theorem dX6_isFigure_3 : decode cX6_isFigure 3 = .ok (.if_icmp .lt 13, 3) := by decide +kernel
theorem dX6_isFigure_6 : decode cX6_isFigure 6 = .ok (.iload_n 0, 1) := by decide +kernel
theorem dX6_isFigure_7 : decode cX6_isFigure 7 = .ok (.bipush 57, 2) := by decide +kernel
theorem dX6_isFigure_9 : decode cX6_isFigure 9 = .ok (.if_icmp .gt 7, 3) := by decide +kernel
theorem dX6_isFigure_12 : decode cX6_isFigure 12 = .ok (.iconst 1, 1) := by decide +kernel
theorem dX6_isFigure_13 : decode cX6_isFigure 13 = .ok (.goto 4, 3) := by decide +kernel
theorem dX6_isFigure_16 : decode cX6_isFigure 16 = .ok (.iconst 0, 1) := by decide +kernel
theorem dX6_isFigure_17 : decode cX6_isFigure 17 = .ok (.ireturn, 1) := by decide +kernel
def bX6_isFigure_0 : List sx_S := [si_il 0, si_const (nI 48), si_if2 (fun x y => x < y) 16 [false], si_il 0, si_const (nI 57), si_if2 (fun x y => y < x) 16 [false], si_const 1, si_go 17 [false]]
def bX6_isFigure_16 : List sx_S := [si_const 0, si_go 17 [false]]
def bX6_isFigure_17 : List sx_S := [si_rz]
def BX6_isFigure : Nat → List sx_S := fun pc => if pc = 0 then bX6_isFigure_0 else if pc = 16 then bX6_isFigure_16 else if pc = 17 then bX6_isFigure_17 else []
set_option maxRecDepth 20000 in
theorem kX6_isFigure_0 : sx_BK sx_tb yX6_isFigure.cls cX6_isFigure 1 (some .boolean) ({ frames := 0, cells := 0, slots := 0, locals := 0 } : Room) false false 0 (fun _ => 0) 0 (bX6_isFigure_0) := ⟨_, ⟨sn_iload_n dX6_isFigure_0 rfl, sm_il _⟩, ⟨_, ⟨sn_bipush dX6_isFigure_1 (by decide +kernel), sm_const _⟩, ⟨_, ⟨sn_ic_lt dX6_isFigure_3 (by decide +kernel) rfl, sm_if2 _ _ _⟩, ⟨_, ⟨sn_iload_n dX6_isFigure_6 rfl, sm_il _⟩, ⟨_, ⟨sn_bipush dX6_isFigure_7 (by decide +kernel), sm_const _⟩, ⟨_, ⟨sn_ic_gt dX6_isFigure_9 (by decide +kernel) rfl, sm_if2 _ _ _⟩, ⟨_, ⟨sn_iconst dX6_isFigure_12 (by decide +kernel), sm_const _⟩, ⟨_, ⟨sn_goto (len := 3) dX6_isFigure_13 (by decide +kernel) rfl, sm_go _ _⟩, trivial⟩⟩⟩⟩⟩⟩⟩⟩
set_option maxRecDepth 20000 in
theorem kX6_isFigure_16 : sx_BK sx_tb yX6_isFigure.cls cX6_isFigure 1 (some .boolean) ({ frames := 0, cells := 0, slots := 0, locals := 0 } : Room) false false 0 (fun _ => 0) 16 (bX6_isFigure_16) := ⟨_, ⟨sn_iconst dX6_isFigure_16 (by decide +kernel), sm_const _⟩, ⟨_, ⟨sn_fall (len := 0) rfl rfl, sm_go _ _⟩, trivial⟩⟩
set_option maxRecDepth 20000 in
theorem kX6_isFigure_17 : sx_BK sx_tb yX6_isFigure.cls cX6_isFigure 1 (some .boolean) ({ frames := 0, cells := 0, slots := 0, locals := 0 } : Room) false false 0 (fun _ => 0) 17 (bX6_isFigure_17) := ⟨_, ⟨sn_rz (len := 1) dX6_isFigure_17 rfl, sm_rz⟩, trivial⟩
theorem kX6_isFigure : ∀ pc, sx_BK sx_tb yX6_isFigure.cls cX6_isFigure 1 (some .boolean) ({ frames := 0, cells := 0, slots := 0, locals := 0 } : Room) false false 0 (fun _ => 0) pc (BX6_isFigure pc) := fun pc => sx_bk_if (kX6_isFigure_0) (sx_bk_if (kX6_isFigure_16) (sx_bk_if (kX6_isFigure_17) (trivial)))
theorem okX6_isFigure : sx_ok sx_tb BX6_isFigure (yX6_isFigure, cX6_isFigure, 1, some .boolean, { frames := 0, cells := 0, slots := 0, locals := 0 }) := ⟨by decide, by decide +kernel, false, (fun h => by cases h), kX6_isFigure⟩
theorem dX6_leastTold_0 : decode cX6_leastTold 0 = .ok (.aload_n 0, 1) := by decide +kernel
theorem dX6_leastTold_1 : decode cX6_leastTold 1 = .ok (.getfield 25, 3) := by decide +kernel
theorem dX6_leastTold_4 : decode cX6_leastTold 4 = .ok (.ifCond .ne 15, 3) := by decide +kernel
theorem dX6_leastTold_7 : decode cX6_leastTold 7 = .ok (.aload_n 0, 1) := by decide +kernel
theorem dX6_leastTold_8 : decode cX6_leastTold 8 = .ok (.getfield 22, 3) := by decide +kernel
theorem dX6_leastTold_11 : decode cX6_leastTold 11 = .ok (.iconst 5, 1) := by decide +kernel
theorem dX6_leastTold_12 : decode cX6_leastTold 12 = .ok (.if_icmp .ne 7, 3) := by decide +kernel
theorem dX6_leastTold_15 : decode cX6_leastTold 15 = .ok (.iconst 1, 1) := by decide +kernel
theorem dX6_leastTold_16 : decode cX6_leastTold 16 = .ok (.goto 4, 3) := by decide +kernel
theorem dX6_leastTold_19 : decode cX6_leastTold 19 = .ok (.iconst 0, 1) := by decide +kernel
theorem dX6_leastTold_20 : decode cX6_leastTold 20 = .ok (.ireturn, 1) := by decide +kernel
def bX6_leastTold_0 : List sx_S := [si_al 0, si_get 5 4, si_if1 (fun x => ¬ x = 0) 19 [false], si_al 0, si_get 5 3, si_const (nI 5), si_if2 (fun x y => ¬ x = y) 19 [false], si_const 1, si_go 20 [false]]
def bX6_leastTold_19 : List sx_S := [si_const 0, si_go 20 [false]]
def bX6_leastTold_20 : List sx_S := [si_ri]
def BX6_leastTold : Nat → List sx_S := fun pc => if pc = 0 then bX6_leastTold_0 else if pc = 19 then bX6_leastTold_19 else if pc = 20 then bX6_leastTold_20 else []
set_option maxRecDepth 20000 in
theorem kX6_leastTold_0 : sx_BK sx_tb yX6_leastTold.cls cX6_leastTold 1 (some .int) ({ frames := 0, cells := 0, slots := 0, locals := 0 } : Room) false false 0 (fun _ => 0) 0 (bX6_leastTold_0) := ⟨_, ⟨sn_aload_n dX6_leastTold_0 rfl, sm_al _⟩, ⟨_, ⟨sn_get (C := RX6) (T := TX6) (N := 5) dX6_leastTold_1 rfl zinX6 (Nat.le_of_ble_eq_true rfl) zw_1_57, sm_get _ _⟩, ⟨_, ⟨sn_if_ne dX6_leastTold_4 (by decide +kernel) rfl, sm_if1 _ _ _⟩, ⟨_, ⟨sn_aload_n dX6_leastTold_7 rfl, sm_al _⟩, ⟨_, ⟨sn_get (C := RX6) (T := TX6) (N := 5) dX6_leastTold_8 rfl zinX6 (Nat.le_of_ble_eq_true rfl) zw_1_56, sm_get _ _⟩, ⟨_, ⟨sn_iconst dX6_leastTold_11 (by decide +kernel), sm_const _⟩, ⟨_, ⟨sn_ic_ne dX6_leastTold_12 (by decide +kernel) rfl, sm_if2 _ _ _⟩, ⟨_, ⟨sn_iconst dX6_leastTold_15 (by decide +kernel), sm_const _⟩, ⟨_, ⟨sn_goto (len := 3) dX6_leastTold_16 (by decide +kernel) rfl, sm_go _ _⟩, trivial⟩⟩⟩⟩⟩⟩⟩⟩⟩
set_option maxRecDepth 20000 in
theorem kX6_leastTold_19 : sx_BK sx_tb yX6_leastTold.cls cX6_leastTold 1 (some .int) ({ frames := 0, cells := 0, slots := 0, locals := 0 } : Room) false false 0 (fun _ => 0) 19 (bX6_leastTold_19) := ⟨_, ⟨sn_iconst dX6_leastTold_19 (by decide +kernel), sm_const _⟩, ⟨_, ⟨sn_fall (len := 0) rfl rfl, sm_go _ _⟩, trivial⟩⟩
set_option maxRecDepth 20000 in
theorem kX6_leastTold_20 : sx_BK sx_tb yX6_leastTold.cls cX6_leastTold 1 (some .int) ({ frames := 0, cells := 0, slots := 0, locals := 0 } : Room) false false 0 (fun _ => 0) 20 (bX6_leastTold_20) := ⟨_, ⟨sn_ri (len := 1) dX6_leastTold_20 rfl, sm_ri⟩, trivial⟩
theorem kX6_leastTold : ∀ pc, sx_BK sx_tb yX6_leastTold.cls cX6_leastTold 1 (some .int) ({ frames := 0, cells := 0, slots := 0, locals := 0 } : Room) false false 0 (fun _ => 0) pc (BX6_leastTold pc) := fun pc => sx_bk_if (kX6_leastTold_0) (sx_bk_if (kX6_leastTold_19) (sx_bk_if (kX6_leastTold_20) (trivial)))
theorem okX6_leastTold : sx_ok sx_tb BX6_leastTold (yX6_leastTold, cX6_leastTold, 1, some .int, { frames := 0, cells := 0, slots := 0, locals := 0 }) := ⟨by decide, by decide +kernel, false, (fun h => by cases h), kX6_leastTold⟩
theorem dX6_mostTold_0 : decode cX6_mostTold 0 = .ok (.aload_n 0, 1) := by decide +kernel
theorem dX6_mostTold_1 : decode cX6_mostTold 1 = .ok (.getfield 25, 3) := by decide +kernel
theorem dX6_mostTold_4 : decode cX6_mostTold 4 = .ok (.ifCond .ne 32, 3) := by decide +kernel
theorem dX6_mostTold_7 : decode cX6_mostTold 7 = .ok (.aload_n 0, 1) := by decide +kernel
theorem dX6_mostTold_8 : decode cX6_mostTold 8 = .ok (.getfield 22, 3) := by decide +kernel
theorem dX6_mostTold_11 : decode cX6_mostTold 11 = .ok (.iconst 1, 1) := by decide +kernel
theorem dX6_mostTold_12 : decode cX6_mostTold 12 = .ok (.if_icmp .ne 8, 3) := by decide +kernel
theorem dX6_mostTold_15 : decode cX6_mostTold 15 = .ok (.bipush 99, 2) := by decide +kernel
theorem dX6_mostTold_17 : decode cX6_mostTold 17 = .ok (.goto 18, 3) := by decide +kernel
theorem dX6_mostTold_20 : decode cX6_mostTold 20 = .ok (.aload_n 0, 1) := by decide +kernel
theorem dX6_mostTold_21 : decode cX6_mostTold 21 = .ok (.getfield 22, 3) := by decide +kernel
theorem dX6_mostTold_24 : decode cX6_mostTold 24 = .ok (.iconst 3, 1) := by decide +kernel
theorem dX6_mostTold_25 : decode cX6_mostTold 25 = .ok (.if_icmp .ne 8, 3) := by decide +kernel
theorem dX6_mostTold_28 : decode cX6_mostTold 28 = .ok (.bipush 20, 2) := by decide +kernel
theorem dX6_mostTold_30 : decode cX6_mostTold 30 = .ok (.goto 5, 3) := by decide +kernel
theorem dX6_mostTold_33 : decode cX6_mostTold 33 = .ok (.bipush 8, 2) := by decide +kernel
theorem dX6_mostTold_35 : decode cX6_mostTold 35 = .ok (.ireturn, 1) := by decide +kernel
theorem dX6_mostTold_36 : decode cX6_mostTold 36 = .ok (.aload_n 0, 1) := by decide +kernel
theorem dX6_mostTold_37 : decode cX6_mostTold 37 = .ok (.getfield 22, 3) := by decide +kernel
theorem dX6_mostTold_40 : decode cX6_mostTold 40 = .ok (.iconst 1, 1) := by decide +kernel
theorem dX6_mostTold_41 : decode cX6_mostTold 41 = .ok (.if_icmp .ne 8, 3) := by decide +kernel
theorem dX6_mostTold_44 : decode cX6_mostTold 44 = .ok (.bipush 60, 2) := by decide +kernel
theorem dX6_mostTold_46 : decode cX6_mostTold 46 = .ok (.goto 18, 3) := by decide +kernel
theorem dX6_mostTold_49 : decode cX6_mostTold 49 = .ok (.aload_n 0, 1) := by decide +kernel
theorem dX6_mostTold_50 : decode cX6_mostTold 50 = .ok (.getfield 22, 3) := by decide +kernel
theorem dX6_mostTold_53 : decode cX6_mostTold 53 = .ok (.iconst 3, 1) := by decide +kernel
theorem dX6_mostTold_54 : decode cX6_mostTold 54 = .ok (.if_icmp .ne 8, 3) := by decide +kernel
theorem dX6_mostTold_57 : decode cX6_mostTold 57 = .ok (.bipush 40, 2) := by decide +kernel
theorem dX6_mostTold_59 : decode cX6_mostTold 59 = .ok (.goto 5, 3) := by decide +kernel
theorem dX6_mostTold_62 : decode cX6_mostTold 62 = .ok (.bipush 99, 2) := by decide +kernel
theorem dX6_mostTold_64 : decode cX6_mostTold 64 = .ok (.ireturn, 1) := by decide +kernel
def bX6_mostTold_0 : List sx_S := [si_al 0, si_get 5 4, si_if1 (fun x => ¬ x = 0) 36 [true], si_al 0, si_get 5 3, si_const 1, si_if2 (fun x y => ¬ x = y) 20 [true], si_const (nI 99), si_go 35 [false]]
def bX6_mostTold_20 : List sx_S := [si_al 0, si_get 5 3, si_const (nI 3), si_if2 (fun x y => ¬ x = y) 33 [false], si_const (nI 20), si_go 35 [false]]
def bX6_mostTold_33 : List sx_S := [si_const (nI 8), si_go 35 [false]]
def bX6_mostTold_35 : List sx_S := [si_ri]
def bX6_mostTold_36 : List sx_S := [si_al 0, si_get 5 3, si_const 1, si_if2 (fun x y => ¬ x = y) 49 [true], si_const (nI 60), si_go 64 [false]]
def bX6_mostTold_49 : List sx_S := [si_al 0, si_get 5 3, si_const (nI 3), si_if2 (fun x y => ¬ x = y) 62 [false], si_const (nI 40), si_go 64 [false]]
def bX6_mostTold_62 : List sx_S := [si_const (nI 99), si_go 64 [false]]
def bX6_mostTold_64 : List sx_S := [si_ri]
def BX6_mostTold : Nat → List sx_S := fun pc => if pc = 0 then bX6_mostTold_0 else if pc = 20 then bX6_mostTold_20 else if pc = 33 then bX6_mostTold_33 else if pc = 35 then bX6_mostTold_35 else if pc = 36 then bX6_mostTold_36 else if pc = 49 then bX6_mostTold_49 else if pc = 62 then bX6_mostTold_62 else if pc = 64 then bX6_mostTold_64 else []
set_option maxRecDepth 20000 in
theorem kX6_mostTold_0 : sx_BK sx_tb yX6_mostTold.cls cX6_mostTold 1 (some .int) ({ frames := 0, cells := 0, slots := 0, locals := 0 } : Room) false false 0 (fun _ => 0) 0 (bX6_mostTold_0) := ⟨_, ⟨sn_aload_n dX6_mostTold_0 rfl, sm_al _⟩, ⟨_, ⟨sn_get (C := RX6) (T := TX6) (N := 5) dX6_mostTold_1 rfl zinX6 (Nat.le_of_ble_eq_true rfl) zw_1_57, sm_get _ _⟩, ⟨_, ⟨sn_if_ne dX6_mostTold_4 (by decide +kernel) rfl, sm_if1 _ _ _⟩, ⟨_, ⟨sn_aload_n dX6_mostTold_7 rfl, sm_al _⟩, ⟨_, ⟨sn_get (C := RX6) (T := TX6) (N := 5) dX6_mostTold_8 rfl zinX6 (Nat.le_of_ble_eq_true rfl) zw_1_56, sm_get _ _⟩, ⟨_, ⟨sn_iconst dX6_mostTold_11 (by decide +kernel), sm_const _⟩, ⟨_, ⟨sn_ic_ne dX6_mostTold_12 (by decide +kernel) rfl, sm_if2 _ _ _⟩, ⟨_, ⟨sn_bipush dX6_mostTold_15 (by decide +kernel), sm_const _⟩, ⟨_, ⟨sn_goto (len := 3) dX6_mostTold_17 (by decide +kernel) rfl, sm_go _ _⟩, trivial⟩⟩⟩⟩⟩⟩⟩⟩⟩
set_option maxRecDepth 20000 in
theorem kX6_mostTold_20 : sx_BK sx_tb yX6_mostTold.cls cX6_mostTold 1 (some .int) ({ frames := 0, cells := 0, slots := 0, locals := 0 } : Room) false false 0 (fun _ => 0) 20 (bX6_mostTold_20) := ⟨_, ⟨sn_aload_n dX6_mostTold_20 rfl, sm_al _⟩, ⟨_, ⟨sn_get (C := RX6) (T := TX6) (N := 5) dX6_mostTold_21 rfl zinX6 (Nat.le_of_ble_eq_true rfl) zw_1_56, sm_get _ _⟩, ⟨_, ⟨sn_iconst dX6_mostTold_24 (by decide +kernel), sm_const _⟩, ⟨_, ⟨sn_ic_ne dX6_mostTold_25 (by decide +kernel) rfl, sm_if2 _ _ _⟩, ⟨_, ⟨sn_bipush dX6_mostTold_28 (by decide +kernel), sm_const _⟩, ⟨_, ⟨sn_goto (len := 3) dX6_mostTold_30 (by decide +kernel) rfl, sm_go _ _⟩, trivial⟩⟩⟩⟩⟩⟩
set_option maxRecDepth 20000 in
theorem kX6_mostTold_33 : sx_BK sx_tb yX6_mostTold.cls cX6_mostTold 1 (some .int) ({ frames := 0, cells := 0, slots := 0, locals := 0 } : Room) false false 0 (fun _ => 0) 33 (bX6_mostTold_33) := ⟨_, ⟨sn_bipush dX6_mostTold_33 (by decide +kernel), sm_const _⟩, ⟨_, ⟨sn_fall (len := 0) rfl rfl, sm_go _ _⟩, trivial⟩⟩
set_option maxRecDepth 20000 in
theorem kX6_mostTold_35 : sx_BK sx_tb yX6_mostTold.cls cX6_mostTold 1 (some .int) ({ frames := 0, cells := 0, slots := 0, locals := 0 } : Room) false false 0 (fun _ => 0) 35 (bX6_mostTold_35) := ⟨_, ⟨sn_ri (len := 1) dX6_mostTold_35 rfl, sm_ri⟩, trivial⟩
set_option maxRecDepth 20000 in
theorem kX6_mostTold_36 : sx_BK sx_tb yX6_mostTold.cls cX6_mostTold 1 (some .int) ({ frames := 0, cells := 0, slots := 0, locals := 0 } : Room) false false 0 (fun _ => 0) 36 (bX6_mostTold_36) := ⟨_, ⟨sn_aload_n dX6_mostTold_36 rfl, sm_al _⟩, ⟨_, ⟨sn_get (C := RX6) (T := TX6) (N := 5) dX6_mostTold_37 rfl zinX6 (Nat.le_of_ble_eq_true rfl) zw_1_56, sm_get _ _⟩, ⟨_, ⟨sn_iconst dX6_mostTold_40 (by decide +kernel), sm_const _⟩, ⟨_, ⟨sn_ic_ne dX6_mostTold_41 (by decide +kernel) rfl, sm_if2 _ _ _⟩, ⟨_, ⟨sn_bipush dX6_mostTold_44 (by decide +kernel), sm_const _⟩, ⟨_, ⟨sn_goto (len := 3) dX6_mostTold_46 (by decide +kernel) rfl, sm_go _ _⟩, trivial⟩⟩⟩⟩⟩⟩
set_option maxRecDepth 20000 in
theorem kX6_mostTold_49 : sx_BK sx_tb yX6_mostTold.cls cX6_mostTold 1 (some .int) ({ frames := 0, cells := 0, slots := 0, locals := 0 } : Room) false false 0 (fun _ => 0) 49 (bX6_mostTold_49) := ⟨_, ⟨sn_aload_n dX6_mostTold_49 rfl, sm_al _⟩, ⟨_, ⟨sn_get (C := RX6) (T := TX6) (N := 5) dX6_mostTold_50 rfl zinX6 (Nat.le_of_ble_eq_true rfl) zw_1_56, sm_get _ _⟩, ⟨_, ⟨sn_iconst dX6_mostTold_53 (by decide +kernel), sm_const _⟩, ⟨_, ⟨sn_ic_ne dX6_mostTold_54 (by decide +kernel) rfl, sm_if2 _ _ _⟩, ⟨_, ⟨sn_bipush dX6_mostTold_57 (by decide +kernel), sm_const _⟩, ⟨_, ⟨sn_goto (len := 3) dX6_mostTold_59 (by decide +kernel) rfl, sm_go _ _⟩, trivial⟩⟩⟩⟩⟩⟩
set_option maxRecDepth 20000 in
theorem kX6_mostTold_62 : sx_BK sx_tb yX6_mostTold.cls cX6_mostTold 1 (some .int) ({ frames := 0, cells := 0, slots := 0, locals := 0 } : Room) false false 0 (fun _ => 0) 62 (bX6_mostTold_62) := ⟨_, ⟨sn_bipush dX6_mostTold_62 (by decide +kernel), sm_const _⟩, ⟨_, ⟨sn_fall (len := 0) rfl rfl, sm_go _ _⟩, trivial⟩⟩
set_option maxRecDepth 20000 in
theorem kX6_mostTold_64 : sx_BK sx_tb yX6_mostTold.cls cX6_mostTold 1 (some .int) ({ frames := 0, cells := 0, slots := 0, locals := 0 } : Room) false false 0 (fun _ => 0) 64 (bX6_mostTold_64) := ⟨_, ⟨sn_ri (len := 1) dX6_mostTold_64 rfl, sm_ri⟩, trivial⟩
theorem kX6_mostTold : ∀ pc, sx_BK sx_tb yX6_mostTold.cls cX6_mostTold 1 (some .int) ({ frames := 0, cells := 0, slots := 0, locals := 0 } : Room) false false 0 (fun _ => 0) pc (BX6_mostTold pc) := fun pc => sx_bk_if (kX6_mostTold_0) (sx_bk_if (kX6_mostTold_20) (sx_bk_if (kX6_mostTold_33) (sx_bk_if (kX6_mostTold_35) (sx_bk_if (kX6_mostTold_36) (sx_bk_if (kX6_mostTold_49) (sx_bk_if (kX6_mostTold_62) (sx_bk_if (kX6_mostTold_64) (trivial))))))))
theorem okX6_mostTold : sx_ok sx_tb BX6_mostTold (yX6_mostTold, cX6_mostTold, 1, some .int, { frames := 0, cells := 0, slots := 0, locals := 0 }) := ⟨by decide, by decide +kernel, false, (fun h => by cases h), kX6_mostTold⟩
theorem dX6_placeTold_0 : decode cX6_placeTold 0 = .ok (.aload_n 0, 1) := by decide +kernel
theorem dX6_placeTold_1 : decode cX6_placeTold 1 = .ok (.getfield 25, 3) := by decide +kernel
theorem dX6_placeTold_4 : decode cX6_placeTold 4 = .ok (.ifCond .ne 32, 3) := by decide +kernel
theorem dX6_placeTold_7 : decode cX6_placeTold 7 = .ok (.aload_n 0, 1) := by decide +kernel
theorem dX6_placeTold_8 : decode cX6_placeTold 8 = .ok (.getfield 22, 3) := by decide +kernel
theorem dX6_placeTold_11 : decode cX6_placeTold 11 = .ok (.iconst 1, 1) := by decide +kernel
theorem dX6_placeTold_12 : decode cX6_placeTold 12 = .ok (.if_icmp .ne 8, 3) := by decide +kernel
theorem dX6_placeTold_15 : decode cX6_placeTold 15 = .ok (.bipush 54, 2) := by decide +kernel
theorem dX6_placeTold_17 : decode cX6_placeTold 17 = .ok (.goto 18, 3) := by decide +kernel
theorem dX6_placeTold_20 : decode cX6_placeTold 20 = .ok (.aload_n 0, 1) := by decide +kernel
theorem dX6_placeTold_21 : decode cX6_placeTold 21 = .ok (.getfield 22, 3) := by decide +kernel
theorem dX6_placeTold_24 : decode cX6_placeTold 24 = .ok (.iconst 3, 1) := by decide +kernel
theorem dX6_placeTold_25 : decode cX6_placeTold 25 = .ok (.if_icmp .ne 8, 3) := by decide +kernel
theorem dX6_placeTold_28 : decode cX6_placeTold 28 = .ok (.bipush 59, 2) := by decide +kernel
theorem dX6_placeTold_30 : decode cX6_placeTold 30 = .ok (.goto 5, 3) := by decide +kernel
theorem dX6_placeTold_33 : decode cX6_placeTold 33 = .ok (.bipush 60, 2) := by decide +kernel
theorem dX6_placeTold_35 : decode cX6_placeTold 35 = .ok (.ireturn, 1) := by decide +kernel
theorem dX6_placeTold_36 : decode cX6_placeTold 36 = .ok (.aload_n 0, 1) := by decide +kernel
theorem dX6_placeTold_37 : decode cX6_placeTold 37 = .ok (.getfield 22, 3) := by decide +kernel
theorem dX6_placeTold_40 : decode cX6_placeTold 40 = .ok (.iconst 1, 1) := by decide +kernel
theorem dX6_placeTold_41 : decode cX6_placeTold 41 = .ok (.if_icmp .ne 8, 3) := by decide +kernel
theorem dX6_placeTold_44 : decode cX6_placeTold 44 = .ok (.bipush 6, 2) := by decide +kernel
theorem dX6_placeTold_46 : decode cX6_placeTold 46 = .ok (.goto 18, 3) := by decide +kernel
theorem dX6_placeTold_49 : decode cX6_placeTold 49 = .ok (.aload_n 0, 1) := by decide +kernel
theorem dX6_placeTold_50 : decode cX6_placeTold 50 = .ok (.getfield 22, 3) := by decide +kernel
theorem dX6_placeTold_53 : decode cX6_placeTold 53 = .ok (.iconst 3, 1) := by decide +kernel
theorem dX6_placeTold_54 : decode cX6_placeTold 54 = .ok (.if_icmp .ne 8, 3) := by decide +kernel
theorem dX6_placeTold_57 : decode cX6_placeTold 57 = .ok (.bipush 12, 2) := by decide +kernel
theorem dX6_placeTold_59 : decode cX6_placeTold 59 = .ok (.goto 5, 3) := by decide +kernel
theorem dX6_placeTold_62 : decode cX6_placeTold 62 = .ok (.bipush 18, 2) := by decide +kernel
theorem dX6_placeTold_64 : decode cX6_placeTold 64 = .ok (.istore_n 1, 1) := by decide +kernel
theorem dX6_placeTold_65 : decode cX6_placeTold 65 = .ok (.iload_n 1, 1) := by decide +kernel
theorem dX6_placeTold_66 : decode cX6_placeTold 66 = .ok (.aload_n 0, 1) := by decide +kernel
theorem dX6_placeTold_67 : decode cX6_placeTold 67 = .ok (.getfield 25, 3) := by decide +kernel
theorem dX6_placeTold_70 : decode cX6_placeTold 70 = .ok (.iadd, 1) := by decide +kernel
theorem dX6_placeTold_71 : decode cX6_placeTold 71 = .ok (.iconst 1, 1) := by decide +kernel
theorem dX6_placeTold_72 : decode cX6_placeTold 72 = .ok (.isub, 1) := by decide +kernel
theorem dX6_placeTold_73 : decode cX6_placeTold 73 = .ok (.ireturn, 1) := by decide +kernel
def bX6_placeTold_0 : List sx_S := [si_al 0, si_get 5 4, si_if1 (fun x => ¬ x = 0) 36 [true, false], si_al 0, si_get 5 3, si_const 1, si_if2 (fun x y => ¬ x = y) 20 [true, false], si_const (nI 54), si_go 35 [false, false]]
def bX6_placeTold_20 : List sx_S := [si_al 0, si_get 5 3, si_const (nI 3), si_if2 (fun x y => ¬ x = y) 33 [false, false], si_const (nI 59), si_go 35 [false, false]]
def bX6_placeTold_33 : List sx_S := [si_const (nI 60), si_go 35 [false, false]]
def bX6_placeTold_35 : List sx_S := [si_ri]
def bX6_placeTold_36 : List sx_S := [si_al 0, si_get 5 3, si_const 1, si_if2 (fun x y => ¬ x = y) 49 [true, false], si_const (nI 6), si_go 64 [true, false]]
def bX6_placeTold_49 : List sx_S := [si_al 0, si_get 5 3, si_const (nI 3), si_if2 (fun x y => ¬ x = y) 62 [true, false], si_const (nI 12), si_go 64 [true, false]]
def bX6_placeTold_62 : List sx_S := [si_const (nI 18), si_go 64 [true, false]]
def bX6_placeTold_64 : List sx_S := [si_is 1, si_il 1, si_al 0, si_get 5 4, si_bin (fun x y => x + y), si_const 1, si_bin (fun x y => x - y), si_ri]
def BX6_placeTold : Nat → List sx_S := fun pc => if pc = 0 then bX6_placeTold_0 else if pc = 20 then bX6_placeTold_20 else if pc = 33 then bX6_placeTold_33 else if pc = 35 then bX6_placeTold_35 else if pc = 36 then bX6_placeTold_36 else if pc = 49 then bX6_placeTold_49 else if pc = 62 then bX6_placeTold_62 else if pc = 64 then bX6_placeTold_64 else []
set_option maxRecDepth 20000 in
theorem kX6_placeTold_0 : sx_BK sx_tb yX6_placeTold.cls cX6_placeTold 2 (some .int) ({ frames := 0, cells := 0, slots := 0, locals := 0 } : Room) false false 0 (fun _ => 0) 0 (bX6_placeTold_0) := ⟨_, ⟨sn_aload_n dX6_placeTold_0 rfl, sm_al _⟩, ⟨_, ⟨sn_get (C := RX6) (T := TX6) (N := 5) dX6_placeTold_1 rfl zinX6 (Nat.le_of_ble_eq_true rfl) zw_1_57, sm_get _ _⟩, ⟨_, ⟨sn_if_ne dX6_placeTold_4 (by decide +kernel) rfl, sm_if1 _ _ _⟩, ⟨_, ⟨sn_aload_n dX6_placeTold_7 rfl, sm_al _⟩, ⟨_, ⟨sn_get (C := RX6) (T := TX6) (N := 5) dX6_placeTold_8 rfl zinX6 (Nat.le_of_ble_eq_true rfl) zw_1_56, sm_get _ _⟩, ⟨_, ⟨sn_iconst dX6_placeTold_11 (by decide +kernel), sm_const _⟩, ⟨_, ⟨sn_ic_ne dX6_placeTold_12 (by decide +kernel) rfl, sm_if2 _ _ _⟩, ⟨_, ⟨sn_bipush dX6_placeTold_15 (by decide +kernel), sm_const _⟩, ⟨_, ⟨sn_goto (len := 3) dX6_placeTold_17 (by decide +kernel) rfl, sm_go _ _⟩, trivial⟩⟩⟩⟩⟩⟩⟩⟩⟩
set_option maxRecDepth 20000 in
theorem kX6_placeTold_20 : sx_BK sx_tb yX6_placeTold.cls cX6_placeTold 2 (some .int) ({ frames := 0, cells := 0, slots := 0, locals := 0 } : Room) false false 0 (fun _ => 0) 20 (bX6_placeTold_20) := ⟨_, ⟨sn_aload_n dX6_placeTold_20 rfl, sm_al _⟩, ⟨_, ⟨sn_get (C := RX6) (T := TX6) (N := 5) dX6_placeTold_21 rfl zinX6 (Nat.le_of_ble_eq_true rfl) zw_1_56, sm_get _ _⟩, ⟨_, ⟨sn_iconst dX6_placeTold_24 (by decide +kernel), sm_const _⟩, ⟨_, ⟨sn_ic_ne dX6_placeTold_25 (by decide +kernel) rfl, sm_if2 _ _ _⟩, ⟨_, ⟨sn_bipush dX6_placeTold_28 (by decide +kernel), sm_const _⟩, ⟨_, ⟨sn_goto (len := 3) dX6_placeTold_30 (by decide +kernel) rfl, sm_go _ _⟩, trivial⟩⟩⟩⟩⟩⟩
set_option maxRecDepth 20000 in
theorem kX6_placeTold_33 : sx_BK sx_tb yX6_placeTold.cls cX6_placeTold 2 (some .int) ({ frames := 0, cells := 0, slots := 0, locals := 0 } : Room) false false 0 (fun _ => 0) 33 (bX6_placeTold_33) := ⟨_, ⟨sn_bipush dX6_placeTold_33 (by decide +kernel), sm_const _⟩, ⟨_, ⟨sn_fall (len := 0) rfl rfl, sm_go _ _⟩, trivial⟩⟩
set_option maxRecDepth 20000 in
theorem kX6_placeTold_35 : sx_BK sx_tb yX6_placeTold.cls cX6_placeTold 2 (some .int) ({ frames := 0, cells := 0, slots := 0, locals := 0 } : Room) false false 0 (fun _ => 0) 35 (bX6_placeTold_35) := ⟨_, ⟨sn_ri (len := 1) dX6_placeTold_35 rfl, sm_ri⟩, trivial⟩
set_option maxRecDepth 20000 in
theorem kX6_placeTold_36 : sx_BK sx_tb yX6_placeTold.cls cX6_placeTold 2 (some .int) ({ frames := 0, cells := 0, slots := 0, locals := 0 } : Room) false false 0 (fun _ => 0) 36 (bX6_placeTold_36) := ⟨_, ⟨sn_aload_n dX6_placeTold_36 rfl, sm_al _⟩, ⟨_, ⟨sn_get (C := RX6) (T := TX6) (N := 5) dX6_placeTold_37 rfl zinX6 (Nat.le_of_ble_eq_true rfl) zw_1_56, sm_get _ _⟩, ⟨_, ⟨sn_iconst dX6_placeTold_40 (by decide +kernel), sm_const _⟩, ⟨_, ⟨sn_ic_ne dX6_placeTold_41 (by decide +kernel) rfl, sm_if2 _ _ _⟩, ⟨_, ⟨sn_bipush dX6_placeTold_44 (by decide +kernel), sm_const _⟩, ⟨_, ⟨sn_goto (len := 3) dX6_placeTold_46 (by decide +kernel) rfl, sm_go _ _⟩, trivial⟩⟩⟩⟩⟩⟩
set_option maxRecDepth 20000 in
theorem kX6_placeTold_49 : sx_BK sx_tb yX6_placeTold.cls cX6_placeTold 2 (some .int) ({ frames := 0, cells := 0, slots := 0, locals := 0 } : Room) false false 0 (fun _ => 0) 49 (bX6_placeTold_49) := ⟨_, ⟨sn_aload_n dX6_placeTold_49 rfl, sm_al _⟩, ⟨_, ⟨sn_get (C := RX6) (T := TX6) (N := 5) dX6_placeTold_50 rfl zinX6 (Nat.le_of_ble_eq_true rfl) zw_1_56, sm_get _ _⟩, ⟨_, ⟨sn_iconst dX6_placeTold_53 (by decide +kernel), sm_const _⟩, ⟨_, ⟨sn_ic_ne dX6_placeTold_54 (by decide +kernel) rfl, sm_if2 _ _ _⟩, ⟨_, ⟨sn_bipush dX6_placeTold_57 (by decide +kernel), sm_const _⟩, ⟨_, ⟨sn_goto (len := 3) dX6_placeTold_59 (by decide +kernel) rfl, sm_go _ _⟩, trivial⟩⟩⟩⟩⟩⟩
set_option maxRecDepth 20000 in
theorem kX6_placeTold_62 : sx_BK sx_tb yX6_placeTold.cls cX6_placeTold 2 (some .int) ({ frames := 0, cells := 0, slots := 0, locals := 0 } : Room) false false 0 (fun _ => 0) 62 (bX6_placeTold_62) := ⟨_, ⟨sn_bipush dX6_placeTold_62 (by decide +kernel), sm_const _⟩, ⟨_, ⟨sn_fall (len := 0) rfl rfl, sm_go _ _⟩, trivial⟩⟩
set_option maxRecDepth 20000 in
theorem kX6_placeTold_64 : sx_BK sx_tb yX6_placeTold.cls cX6_placeTold 2 (some .int) ({ frames := 0, cells := 0, slots := 0, locals := 0 } : Room) false false 0 (fun _ => 0) 64 (bX6_placeTold_64) := ⟨_, ⟨sn_istore_n dX6_placeTold_64 rfl (Nat.le_of_ble_eq_true rfl), sm_is _⟩, ⟨_, ⟨sn_iload_n dX6_placeTold_65 rfl, sm_il _⟩, ⟨_, ⟨sn_aload_n dX6_placeTold_66 rfl, sm_al _⟩, ⟨_, ⟨sn_get (C := RX6) (T := TX6) (N := 5) dX6_placeTold_67 rfl zinX6 (Nat.le_of_ble_eq_true rfl) zw_1_57, sm_get _ _⟩, ⟨_, ⟨sn_iadd dX6_placeTold_70, sm_bin _⟩, ⟨_, ⟨sn_iconst dX6_placeTold_71 (by decide +kernel), sm_const _⟩, ⟨_, ⟨sn_isub dX6_placeTold_72, sm_bin _⟩, ⟨_, ⟨sn_ri (len := 1) dX6_placeTold_73 rfl, sm_ri⟩, trivial⟩⟩⟩⟩⟩⟩⟩⟩
theorem kX6_placeTold : ∀ pc, sx_BK sx_tb yX6_placeTold.cls cX6_placeTold 2 (some .int) ({ frames := 0, cells := 0, slots := 0, locals := 0 } : Room) false false 0 (fun _ => 0) pc (BX6_placeTold pc) := fun pc => sx_bk_if (kX6_placeTold_0) (sx_bk_if (kX6_placeTold_20) (sx_bk_if (kX6_placeTold_33) (sx_bk_if (kX6_placeTold_35) (sx_bk_if (kX6_placeTold_36) (sx_bk_if (kX6_placeTold_49) (sx_bk_if (kX6_placeTold_62) (sx_bk_if (kX6_placeTold_64) (trivial))))))))
theorem okX6_placeTold : sx_ok sx_tb BX6_placeTold (yX6_placeTold, cX6_placeTold, 2, some .int, { frames := 0, cells := 0, slots := 0, locals := 0 }) := ⟨by decide, by decide +kernel, false, (fun h => by cases h), kX6_placeTold⟩
theorem dJ6_bitCount_0f7a4_0 : decode cJ6_bitCount_0f7a4 0 = .ok (.iload_n 0, 1) := by decide +kernel
theorem dJ6_bitCount_0f7a4_1 : decode cJ6_bitCount_0f7a4 1 = .ok (.iload_n 0, 1) := by decide +kernel
theorem dJ6_bitCount_0f7a4_2 : decode cJ6_bitCount_0f7a4 2 = .ok (.iconst 1, 1) := by decide +kernel
theorem dJ6_bitCount_0f7a4_3 : decode cJ6_bitCount_0f7a4 3 = .ok (.iushr, 1) := by decide +kernel
theorem dJ6_bitCount_0f7a4_4 : decode cJ6_bitCount_0f7a4 4 = .ok (.ldc_w 265, 3) := by decide +kernel
theorem dJ6_bitCount_0f7a4_7 : decode cJ6_bitCount_0f7a4 7 = .ok (.iand, 1) := by decide +kernel
theorem dJ6_bitCount_0f7a4_8 : decode cJ6_bitCount_0f7a4 8 = .ok (.isub, 1) := by decide +kernel
theorem dJ6_bitCount_0f7a4_9 : decode cJ6_bitCount_0f7a4 9 = .ok (.istore_n 0, 1) := by decide +kernel
theorem dJ6_bitCount_0f7a4_10 : decode cJ6_bitCount_0f7a4 10 = .ok (.iload_n 0, 1) := by decide +kernel
theorem dJ6_bitCount_0f7a4_11 : decode cJ6_bitCount_0f7a4 11 = .ok (.ldc_w 266, 3) := by decide +kernel
theorem dJ6_bitCount_0f7a4_14 : decode cJ6_bitCount_0f7a4 14 = .ok (.iand, 1) := by decide +kernel
theorem dJ6_bitCount_0f7a4_15 : decode cJ6_bitCount_0f7a4 15 = .ok (.iload_n 0, 1) := by decide +kernel
theorem dJ6_bitCount_0f7a4_16 : decode cJ6_bitCount_0f7a4 16 = .ok (.iconst 2, 1) := by decide +kernel
theorem dJ6_bitCount_0f7a4_17 : decode cJ6_bitCount_0f7a4 17 = .ok (.iushr, 1) := by decide +kernel
theorem dJ6_bitCount_0f7a4_18 : decode cJ6_bitCount_0f7a4 18 = .ok (.ldc_w 266, 3) := by decide +kernel
theorem dJ6_bitCount_0f7a4_21 : decode cJ6_bitCount_0f7a4 21 = .ok (.iand, 1) := by decide +kernel
theorem dJ6_bitCount_0f7a4_22 : decode cJ6_bitCount_0f7a4 22 = .ok (.iadd, 1) := by decide +kernel
theorem dJ6_bitCount_0f7a4_23 : decode cJ6_bitCount_0f7a4 23 = .ok (.istore_n 0, 1) := by decide +kernel
theorem dJ6_bitCount_0f7a4_24 : decode cJ6_bitCount_0f7a4 24 = .ok (.iload_n 0, 1) := by decide +kernel
theorem dJ6_bitCount_0f7a4_25 : decode cJ6_bitCount_0f7a4 25 = .ok (.iload_n 0, 1) := by decide +kernel
theorem dJ6_bitCount_0f7a4_26 : decode cJ6_bitCount_0f7a4 26 = .ok (.iconst 4, 1) := by decide +kernel
theorem dJ6_bitCount_0f7a4_27 : decode cJ6_bitCount_0f7a4 27 = .ok (.iushr, 1) := by decide +kernel
theorem dJ6_bitCount_0f7a4_28 : decode cJ6_bitCount_0f7a4 28 = .ok (.iadd, 1) := by decide +kernel
theorem dJ6_bitCount_0f7a4_29 : decode cJ6_bitCount_0f7a4 29 = .ok (.ldc_w 267, 3) := by decide +kernel
theorem dJ6_bitCount_0f7a4_32 : decode cJ6_bitCount_0f7a4 32 = .ok (.iand, 1) := by decide +kernel
theorem dJ6_bitCount_0f7a4_33 : decode cJ6_bitCount_0f7a4 33 = .ok (.istore_n 0, 1) := by decide +kernel
theorem dJ6_bitCount_0f7a4_34 : decode cJ6_bitCount_0f7a4 34 = .ok (.iload_n 0, 1) := by decide +kernel
theorem dJ6_bitCount_0f7a4_35 : decode cJ6_bitCount_0f7a4 35 = .ok (.iload_n 0, 1) := by decide +kernel
theorem dJ6_bitCount_0f7a4_36 : decode cJ6_bitCount_0f7a4 36 = .ok (.bipush 8, 2) := by decide +kernel
theorem dJ6_bitCount_0f7a4_38 : decode cJ6_bitCount_0f7a4 38 = .ok (.iushr, 1) := by decide +kernel
theorem dJ6_bitCount_0f7a4_39 : decode cJ6_bitCount_0f7a4 39 = .ok (.iadd, 1) := by decide +kernel
theorem dJ6_bitCount_0f7a4_40 : decode cJ6_bitCount_0f7a4 40 = .ok (.istore_n 0, 1) := by decide +kernel
theorem dJ6_bitCount_0f7a4_41 : decode cJ6_bitCount_0f7a4 41 = .ok (.iload_n 0, 1) := by decide +kernel
theorem dJ6_bitCount_0f7a4_42 : decode cJ6_bitCount_0f7a4 42 = .ok (.iload_n 0, 1) := by decide +kernel
theorem dJ6_bitCount_0f7a4_43 : decode cJ6_bitCount_0f7a4 43 = .ok (.bipush 16, 2) := by decide +kernel
theorem dJ6_bitCount_0f7a4_45 : decode cJ6_bitCount_0f7a4 45 = .ok (.iushr, 1) := by decide +kernel
theorem dJ6_bitCount_0f7a4_46 : decode cJ6_bitCount_0f7a4 46 = .ok (.iadd, 1) := by decide +kernel
theorem dJ6_bitCount_0f7a4_47 : decode cJ6_bitCount_0f7a4 47 = .ok (.istore_n 0, 1) := by decide +kernel
theorem dJ6_bitCount_0f7a4_48 : decode cJ6_bitCount_0f7a4 48 = .ok (.iload_n 0, 1) := by decide +kernel
theorem dJ6_bitCount_0f7a4_49 : decode cJ6_bitCount_0f7a4 49 = .ok (.bipush 63, 2) := by decide +kernel
theorem dJ6_bitCount_0f7a4_51 : decode cJ6_bitCount_0f7a4 51 = .ok (.iand, 1) := by decide +kernel
theorem dJ6_bitCount_0f7a4_52 : decode cJ6_bitCount_0f7a4 52 = .ok (.ireturn, 1) := by decide +kernel
def bJ6_bitCount_0f7a4_0 : List sx_S := [si_il 0, si_il 0, si_const 1, si_bin (fun x y => (x.toUInt32 >>> (y.toUInt32 &&& Int32.toUInt32 31)).toInt32), si_const (nI 1431655765), si_bin (fun x y => x &&& y), si_bin (fun x y => x - y), si_is 0, si_il 0, si_const (nI 858993459), si_bin (fun x y => x &&& y), si_il 0, si_const (nI 2), si_bin (fun x y => (x.toUInt32 >>> (y.toUInt32 &&& Int32.toUInt32 31)).toInt32), si_const (nI 858993459), si_bin (fun x y => x &&& y), si_bin (fun x y => x + y), si_is 0, si_il 0, si_il 0, si_const (nI 4), si_bin (fun x y => (x.toUInt32 >>> (y.toUInt32 &&& Int32.toUInt32 31)).toInt32), si_bin (fun x y => x + y), si_const (nI 252645135), si_bin (fun x y => x &&& y), si_is 0, si_il 0, si_il 0, si_const (nI 8), si_bin (fun x y => (x.toUInt32 >>> (y.toUInt32 &&& Int32.toUInt32 31)).toInt32), si_bin (fun x y => x + y), si_is 0, si_il 0, si_il 0, si_const (nI 16), si_bin (fun x y => (x.toUInt32 >>> (y.toUInt32 &&& Int32.toUInt32 31)).toInt32), si_bin (fun x y => x + y), si_is 0, si_il 0, si_const (nI 63), si_bin (fun x y => x &&& y), si_ri]
def BJ6_bitCount_0f7a4 : Nat → List sx_S := fun pc => if pc = 0 then bJ6_bitCount_0f7a4_0 else []
set_option maxRecDepth 20000 in
theorem kJ6_bitCount_0f7a4_0 : sx_BK sx_tb yJ6_bitCount_0f7a4.cls cJ6_bitCount_0f7a4 1 (some .int) ({ frames := 0, cells := 0, slots := 0, locals := 0 } : Room) false false 0 (fun _ => 0) 0 (bJ6_bitCount_0f7a4_0) := ⟨_, ⟨sn_iload_n dJ6_bitCount_0f7a4_0 rfl, sm_il _⟩, ⟨_, ⟨sn_iload_n dJ6_bitCount_0f7a4_1 rfl, sm_il _⟩, ⟨_, ⟨sn_iconst dJ6_bitCount_0f7a4_2 (by decide +kernel), sm_const _⟩, ⟨_, ⟨sn_iushr dJ6_bitCount_0f7a4_3, sm_bin _⟩, ⟨_, ⟨sn_ldcw dJ6_bitCount_0f7a4_4 zw_2_210, sm_const _⟩, ⟨_, ⟨sn_iand dJ6_bitCount_0f7a4_7, sm_bin _⟩, ⟨_, ⟨sn_isub dJ6_bitCount_0f7a4_8, sm_bin _⟩, ⟨_, ⟨sn_istore_n dJ6_bitCount_0f7a4_9 rfl (Nat.le_of_ble_eq_true rfl), sm_is _⟩, ⟨_, ⟨sn_iload_n dJ6_bitCount_0f7a4_10 rfl, sm_il _⟩, ⟨_, ⟨sn_ldcw dJ6_bitCount_0f7a4_11 zw_2_211, sm_const _⟩, ⟨_, ⟨sn_iand dJ6_bitCount_0f7a4_14, sm_bin _⟩, ⟨_, ⟨sn_iload_n dJ6_bitCount_0f7a4_15 rfl, sm_il _⟩, ⟨_, ⟨sn_iconst dJ6_bitCount_0f7a4_16 (by decide +kernel), sm_const _⟩, ⟨_, ⟨sn_iushr dJ6_bitCount_0f7a4_17, sm_bin _⟩, ⟨_, ⟨sn_ldcw dJ6_bitCount_0f7a4_18 zw_2_211, sm_const _⟩, ⟨_, ⟨sn_iand dJ6_bitCount_0f7a4_21, sm_bin _⟩, ⟨_, ⟨sn_iadd dJ6_bitCount_0f7a4_22, sm_bin _⟩, ⟨_, ⟨sn_istore_n dJ6_bitCount_0f7a4_23 rfl (Nat.le_of_ble_eq_true rfl), sm_is _⟩, ⟨_, ⟨sn_iload_n dJ6_bitCount_0f7a4_24 rfl, sm_il _⟩, ⟨_, ⟨sn_iload_n dJ6_bitCount_0f7a4_25 rfl, sm_il _⟩, ⟨_, ⟨sn_iconst dJ6_bitCount_0f7a4_26 (by decide +kernel), sm_const _⟩, ⟨_, ⟨sn_iushr dJ6_bitCount_0f7a4_27, sm_bin _⟩, ⟨_, ⟨sn_iadd dJ6_bitCount_0f7a4_28, sm_bin _⟩, ⟨_, ⟨sn_ldcw dJ6_bitCount_0f7a4_29 zw_2_212, sm_const _⟩, ⟨_, ⟨sn_iand dJ6_bitCount_0f7a4_32, sm_bin _⟩, ⟨_, ⟨sn_istore_n dJ6_bitCount_0f7a4_33 rfl (Nat.le_of_ble_eq_true rfl), sm_is _⟩, ⟨_, ⟨sn_iload_n dJ6_bitCount_0f7a4_34 rfl, sm_il _⟩, ⟨_, ⟨sn_iload_n dJ6_bitCount_0f7a4_35 rfl, sm_il _⟩, ⟨_, ⟨sn_bipush dJ6_bitCount_0f7a4_36 (by decide +kernel), sm_const _⟩, ⟨_, ⟨sn_iushr dJ6_bitCount_0f7a4_38, sm_bin _⟩, ⟨_, ⟨sn_iadd dJ6_bitCount_0f7a4_39, sm_bin _⟩, ⟨_, ⟨sn_istore_n dJ6_bitCount_0f7a4_40 rfl (Nat.le_of_ble_eq_true rfl), sm_is _⟩, ⟨_, ⟨sn_iload_n dJ6_bitCount_0f7a4_41 rfl, sm_il _⟩, ⟨_, ⟨sn_iload_n dJ6_bitCount_0f7a4_42 rfl, sm_il _⟩, ⟨_, ⟨sn_bipush dJ6_bitCount_0f7a4_43 (by decide +kernel), sm_const _⟩, ⟨_, ⟨sn_iushr dJ6_bitCount_0f7a4_45, sm_bin _⟩, ⟨_, ⟨sn_iadd dJ6_bitCount_0f7a4_46, sm_bin _⟩, ⟨_, ⟨sn_istore_n dJ6_bitCount_0f7a4_47 rfl (Nat.le_of_ble_eq_true rfl), sm_is _⟩, ⟨_, ⟨sn_iload_n dJ6_bitCount_0f7a4_48 rfl, sm_il _⟩, ⟨_, ⟨sn_bipush dJ6_bitCount_0f7a4_49 (by decide +kernel), sm_const _⟩, ⟨_, ⟨sn_iand dJ6_bitCount_0f7a4_51, sm_bin _⟩, ⟨_, ⟨sn_ri (len := 1) dJ6_bitCount_0f7a4_52 rfl, sm_ri⟩, trivial⟩⟩⟩⟩⟩⟩⟩⟩⟩⟩⟩⟩⟩⟩⟩⟩⟩⟩⟩⟩⟩⟩⟩⟩⟩⟩⟩⟩⟩⟩⟩⟩⟩⟩⟩⟩⟩⟩⟩⟩⟩⟩
theorem kJ6_bitCount_0f7a4 : ∀ pc, sx_BK sx_tb yJ6_bitCount_0f7a4.cls cJ6_bitCount_0f7a4 1 (some .int) ({ frames := 0, cells := 0, slots := 0, locals := 0 } : Room) false false 0 (fun _ => 0) pc (BJ6_bitCount_0f7a4 pc) := fun pc => sx_bk_if (kJ6_bitCount_0f7a4_0) (trivial)
theorem okJ6_bitCount_0f7a4 : sx_ok sx_tb BJ6_bitCount_0f7a4 (yJ6_bitCount_0f7a4, cJ6_bitCount_0f7a4, 1, some .int, { frames := 0, cells := 0, slots := 0, locals := 0 }) := ⟨by decide, by decide +kernel, false, (fun h => by cases h), kJ6_bitCount_0f7a4⟩
theorem dX7_init_0 : decode cX7_init 0 = .ok (.aload_n 0, 1) := by decide +kernel
theorem dX7_init_1 : decode cX7_init 1 = .ok (.invokespecial 1, 3) := by decide +kernel
theorem dX7_init_4 : decode cX7_init 4 = .ok (.aload_n 0, 1) := by decide +kernel
theorem dX7_init_5 : decode cX7_init 5 = .ok (.new 7, 3) := by decide +kernel
theorem dX7_init_8 : decode cX7_init 8 = .ok (.dup, 1) := by decide +kernel
theorem dX7_init_9 : decode cX7_init 9 = .ok (.invokespecial 9, 3) := by decide +kernel
theorem dX7_init_12 : decode cX7_init 12 = .ok (.putfield 10, 3) := by decide +kernel
theorem dX7_init_15 : decode cX7_init 15 = .ok (.aload_n 0, 1) := by decide +kernel
theorem dX7_init_16 : decode cX7_init 16 = .ok (.new 16, 3) := by decide +kernel
theorem dX7_init_19 : decode cX7_init 19 = .ok (.dup, 1) := by decide +kernel
theorem dX7_init_20 : decode cX7_init 20 = .ok (.invokespecial 18, 3) := by decide +kernel
theorem dX7_init_23 : decode cX7_init 23 = .ok (.putfield 19, 3) := by decide +kernel
theorem dX7_init_26 : decode cX7_init 26 = .ok (.aload_n 0, 1) := by decide +kernel
theorem dX7_init_27 : decode cX7_init 27 = .ok (.new 23, 3) := by decide +kernel
theorem dX7_init_30 : decode cX7_init 30 = .ok (.dup, 1) := by decide +kernel
theorem dX7_init_31 : decode cX7_init 31 = .ok (.invokespecial 25, 3) := by decide +kernel
theorem dX7_init_34 : decode cX7_init 34 = .ok (.putfield 26, 3) := by decide +kernel
theorem dX7_init_37 : decode cX7_init 37 = .ok (.aload_n 0, 1) := by decide +kernel
theorem dX7_init_38 : decode cX7_init 38 = .ok (.new 23, 3) := by decide +kernel
theorem dX7_init_41 : decode cX7_init 41 = .ok (.dup, 1) := by decide +kernel
theorem dX7_init_42 : decode cX7_init 42 = .ok (.invokespecial 25, 3) := by decide +kernel
theorem dX7_init_45 : decode cX7_init 45 = .ok (.putfield 30, 3) := by decide +kernel
theorem dX7_init_48 : decode cX7_init 48 = .ok (.aload_n 0, 1) := by decide +kernel
theorem dX7_init_49 : decode cX7_init 49 = .ok (.new 33, 3) := by decide +kernel
theorem dX7_init_52 : decode cX7_init 52 = .ok (.dup, 1) := by decide +kernel
theorem dX7_init_53 : decode cX7_init 53 = .ok (.invokespecial 35, 3) := by decide +kernel
theorem dX7_init_56 : decode cX7_init 56 = .ok (.putfield 36, 3) := by decide +kernel
theorem dX7_init_59 : decode cX7_init 59 = .ok (.aload_n 0, 1) := by decide +kernel
theorem dX7_init_60 : decode cX7_init 60 = .ok (.new 40, 3) := by decide +kernel
theorem dX7_init_63 : decode cX7_init 63 = .ok (.dup, 1) := by decide +kernel
theorem dX7_init_64 : decode cX7_init 64 = .ok (.aload_n 0, 1) := by decide +kernel
theorem dX7_init_65 : decode cX7_init 65 = .ok (.getfield 26, 3) := by decide +kernel
theorem dX7_init_68 : decode cX7_init 68 = .ok (.aload_n 0, 1) := by decide +kernel
theorem dX7_init_69 : decode cX7_init 69 = .ok (.getfield 30, 3) := by decide +kernel
theorem dX7_init_72 : decode cX7_init 72 = .ok (.invokespecial 42, 3) := by decide +kernel
theorem dX7_init_75 : decode cX7_init 75 = .ok (.putfield 45, 3) := by decide +kernel
theorem dX7_init_78 : decode cX7_init 78 = .ok (.aload_n 0, 1) := by decide +kernel
theorem dX7_init_79 : decode cX7_init 79 = .ok (.new 49, 3) := by decide +kernel
theorem dX7_init_82 : decode cX7_init 82 = .ok (.dup, 1) := by decide +kernel
theorem dX7_init_83 : decode cX7_init 83 = .ok (.aload_n 0, 1) := by decide +kernel
theorem dX7_init_84 : decode cX7_init 84 = .ok (.getfield 26, 3) := by decide +kernel
theorem dX7_init_87 : decode cX7_init 87 = .ok (.invokespecial 51, 3) := by decide +kernel
theorem dX7_init_90 : decode cX7_init 90 = .ok (.putfield 54, 3) := by decide +kernel
theorem dX7_init_93 : decode cX7_init 93 = .ok (.aload_n 0, 1) := by decide +kernel
theorem dX7_init_94 : decode cX7_init 94 = .ok (.iconst 2, 1) := by decide +kernel
theorem dX7_init_95 : decode cX7_init 95 = .ok (.anewarray 23, 3) := by decide +kernel
theorem dX7_init_98 : decode cX7_init 98 = .ok (.dup, 1) := by decide +kernel
theorem dX7_init_99 : decode cX7_init 99 = .ok (.iconst 0, 1) := by decide +kernel
theorem dX7_init_100 : decode cX7_init 100 = .ok (.new 23, 3) := by decide +kernel
theorem dX7_init_103 : decode cX7_init 103 = .ok (.dup, 1) := by decide +kernel
theorem dX7_init_104 : decode cX7_init 104 = .ok (.invokespecial 25, 3) := by decide +kernel
theorem dX7_init_107 : decode cX7_init 107 = .ok (.aastore, 1) := by decide +kernel
theorem dX7_init_108 : decode cX7_init 108 = .ok (.dup, 1) := by decide +kernel
theorem dX7_init_109 : decode cX7_init 109 = .ok (.iconst 1, 1) := by decide +kernel
theorem dX7_init_110 : decode cX7_init 110 = .ok (.new 23, 3) := by decide +kernel
theorem dX7_init_113 : decode cX7_init 113 = .ok (.dup, 1) := by decide +kernel
theorem dX7_init_114 : decode cX7_init 114 = .ok (.invokespecial 25, 3) := by decide +kernel
theorem dX7_init_117 : decode cX7_init 117 = .ok (.aastore, 1) := by decide +kernel
theorem dX7_init_118 : decode cX7_init 118 = .ok (.putfield 58, 3) := by decide +kernel
theorem dX7_init_121 : decode cX7_init 121 = .ok (.aload_n 0, 1) := by decide +kernel
theorem dX7_init_122 : decode cX7_init 122 = .ok (.iconst 0, 1) := by decide +kernel
theorem dX7_init_123 : decode cX7_init 123 = .ok (.putfield 62, 3) := by decide +kernel
theorem dX7_init_126 : decode cX7_init 126 = .ok (.return_, 1) := by decide +kernel
def bX7_init_0 : List sx_S := [si_al 0, si_oi, si_al 0, si_new 4 4 [sx_r none, sx_r none, sx_r none, sx_i 0] 52 2263, si_dup, si_ci 61 0 11 344 52 2263, si_put 6 0 1, si_al 0, si_new 5 5 [sx_r none, sx_i 0, sx_i 0, sx_i 0, sx_i 0] 52 2263, si_dup, si_ci 72 0 1 120 52 2263, si_put 6 1 1, si_al 0, si_new 2 1 [sx_r none] 52 2263, si_dup, si_ci 20 0 1 62 52 2263, si_put 6 2 1, si_al 0, si_new 2 1 [sx_r none] 52 2263, si_dup, si_ci 20 0 1 62 52 2263, si_put 6 3 1, si_al 0, si_new 0 3 [sx_r none, sx_i 0, sx_i 0] 52 2263, si_dup, si_ci 0 0 25 1512 52 2263, si_put 6 4 1, si_al 0, si_new 3 2 [sx_r none, sx_r none] 52 2263, si_dup, si_al 0, si_get 6 2, si_al 0, si_get 6 3, si_ci 46 2 0 0 52 2263, si_put 6 5 1, si_al 0, si_new 1 3 [sx_r none, sx_i 0, sx_r none] 52 2263, si_dup, si_al 0, si_get 6 2, si_ci 4 1 1 16 52 2263, si_put 6 6 1, si_al 0, si_const (nI 2), si_newq 52 2263, si_dup, si_const 0, si_new 2 1 [sx_r none] 52 2263, si_dup, si_ci 20 0 1 62 52 2263, si_aast, si_dup, si_const 1, si_new 2 1 [sx_r none] 52 2263, si_dup, si_ci 20 0 1 62 52 2263, si_aast, si_put 6 7 1, si_al 0, si_const 0, si_put 6 8 0, si_rv]
def BX7_init : Nat → List sx_S := fun pc => if pc = 0 then bX7_init_0 else []
set_option maxRecDepth 20000 in
theorem kX7_init_0 : sx_BK sx_tb yX7_init.cls cX7_init 1 (none) ({ frames := 2, cells := 52, slots := 2263, locals := 42 } : Room) true false 0 (fun _ => 0) 0 (bX7_init_0) := ⟨_, ⟨sn_aload_n dX7_init_0 rfl, sm_al _⟩, ⟨_, ⟨sn_oi dX7_init_1 zw_1_18 zw_1_19 zw_1_20 (Nat.le_of_ble_eq_true rfl) (Nat.le_of_ble_eq_true rfl), sm_oi⟩, ⟨_, ⟨sn_aload_n dX7_init_4 rfl, sm_al _⟩, ⟨_, ⟨sn_new (C := RX5) (T := TX5) (N := 4) dX7_init_5 rfl zinX5 tyX5_ok zw_1_21 zw_1_22 zw_1_2 (fun _ _ => rfl) zdfX5, sm_new _ _ _ _ _⟩, ⟨_, ⟨sn_dup dX7_init_8, sm_dup⟩, ⟨_, ⟨sn_ci_v ztb_X5_init dX7_init_9 rfl zw_1_23 zw_1_24 zw_1_2 zw_1_25 zmh_X5 zpd_X5_init (Nat.le_of_ble_eq_true rfl) (Nat.le_of_ble_eq_true rfl) rfl rfl, sm_ci _ _ _ _ _ _⟩, ⟨_, ⟨sn_putF (C := RX7) (T := TX7) (N := 9) dX7_init_12 rfl zinX7 tyX7_ok nmX7 (Nat.le_of_ble_eq_true rfl) zw_1_134 rfl rfl rfl (tyX7_ok 0 (Nat.le_of_ble_eq_true rfl)) trivial, sm_put _ _ _⟩, ⟨_, ⟨sn_aload_n dX7_init_15 rfl, sm_al _⟩, ⟨_, ⟨sn_new (C := RX6) (T := TX6) (N := 5) dX7_init_16 rfl zinX6 tyX6_ok zw_1_45 zw_1_46 zw_1_3 (fun _ _ => rfl) zdfX6, sm_new _ _ _ _ _⟩, ⟨_, ⟨sn_dup dX7_init_19, sm_dup⟩, ⟨_, ⟨sn_ci_v ztb_X6_init dX7_init_20 rfl zw_1_47 zw_1_48 zw_1_3 zw_1_49 zmh_X6 zpd_X6_init (Nat.le_of_ble_eq_true rfl) (Nat.le_of_ble_eq_true rfl) rfl rfl, sm_ci _ _ _ _ _ _⟩, ⟨_, ⟨sn_putF (C := RX7) (T := TX7) (N := 9) dX7_init_23 rfl zinX7 tyX7_ok nmX7 (Nat.le_of_ble_eq_true rfl) zw_1_135 rfl rfl rfl (tyX7_ok 1 (Nat.le_of_ble_eq_true rfl)) trivial, sm_put _ _ _⟩, ⟨_, ⟨sn_aload_n dX7_init_26 rfl, sm_al _⟩, ⟨_, ⟨sn_new (C := RX2) (T := TX2) (N := 1) dX7_init_27 rfl zinX2 tyX2_ok zw_1_69 zw_1_70 zw_1_4 (fun _ _ => rfl) zdfX2, sm_new _ _ _ _ _⟩, ⟨_, ⟨sn_dup dX7_init_30, sm_dup⟩, ⟨_, ⟨sn_ci_v ztb_X2_init dX7_init_31 rfl zw_1_71 zw_1_72 zw_1_4 zw_1_73 zmh_X2 zpd_X2_init (Nat.le_of_ble_eq_true rfl) (Nat.le_of_ble_eq_true rfl) rfl rfl, sm_ci _ _ _ _ _ _⟩, ⟨_, ⟨sn_putF (C := RX7) (T := TX7) (N := 9) dX7_init_34 rfl zinX7 tyX7_ok nmX7 (Nat.le_of_ble_eq_true rfl) zw_1_136 rfl rfl rfl (tyX7_ok 2 (Nat.le_of_ble_eq_true rfl)) trivial, sm_put _ _ _⟩, ⟨_, ⟨sn_aload_n dX7_init_37 rfl, sm_al _⟩, ⟨_, ⟨sn_new (C := RX2) (T := TX2) (N := 1) dX7_init_38 rfl zinX2 tyX2_ok zw_1_69 zw_1_70 zw_1_4 (fun _ _ => rfl) zdfX2, sm_new _ _ _ _ _⟩, ⟨_, ⟨sn_dup dX7_init_41, sm_dup⟩, ⟨_, ⟨sn_ci_v ztb_X2_init dX7_init_42 rfl zw_1_71 zw_1_72 zw_1_4 zw_1_73 zmh_X2 zpd_X2_init (Nat.le_of_ble_eq_true rfl) (Nat.le_of_ble_eq_true rfl) rfl rfl, sm_ci _ _ _ _ _ _⟩, ⟨_, ⟨sn_putF (C := RX7) (T := TX7) (N := 9) dX7_init_45 rfl zinX7 tyX7_ok nmX7 (Nat.le_of_ble_eq_true rfl) zw_1_137 rfl rfl rfl (tyX7_ok 3 (Nat.le_of_ble_eq_true rfl)) trivial, sm_put _ _ _⟩, ⟨_, ⟨sn_aload_n dX7_init_48 rfl, sm_al _⟩, ⟨_, ⟨sn_new (C := RX0) (T := TX0) (N := 3) dX7_init_49 rfl zinX0 tyX0_ok zw_1_84 zw_1_85 zw_1_5 (fun _ _ => rfl) zdfX0, sm_new _ _ _ _ _⟩, ⟨_, ⟨sn_dup dX7_init_52, sm_dup⟩, ⟨_, ⟨sn_ci_v ztb_X0_init dX7_init_53 rfl zw_1_86 zw_1_87 zw_1_5 zw_1_88 zmh_X0 zpd_X0_init (Nat.le_of_ble_eq_true rfl) (Nat.le_of_ble_eq_true rfl) rfl rfl, sm_ci _ _ _ _ _ _⟩, ⟨_, ⟨sn_putF (C := RX7) (T := TX7) (N := 9) dX7_init_56 rfl zinX7 tyX7_ok nmX7 (Nat.le_of_ble_eq_true rfl) zw_1_138 rfl rfl rfl (tyX7_ok 4 (Nat.le_of_ble_eq_true rfl)) trivial, sm_put _ _ _⟩, ⟨_, ⟨sn_aload_n dX7_init_59 rfl, sm_al _⟩, ⟨_, ⟨sn_new (C := RX4) (T := TX4) (N := 2) dX7_init_60 rfl zinX4 tyX4_ok zw_1_102 zw_1_103 zw_1_6 (fun _ _ => rfl) zdfX4, sm_new _ _ _ _ _⟩, ⟨_, ⟨sn_dup dX7_init_63, sm_dup⟩, ⟨_, ⟨sn_aload_n dX7_init_64 rfl, sm_al _⟩, ⟨_, ⟨sn_get (C := RX7) (T := TX7) (N := 9) dX7_init_65 rfl zinX7 (Nat.le_of_ble_eq_true rfl) zw_1_136, sm_get _ _⟩, ⟨_, ⟨sn_aload_n dX7_init_68 rfl, sm_al _⟩, ⟨_, ⟨sn_get (C := RX7) (T := TX7) (N := 9) dX7_init_69 rfl zinX7 (Nat.le_of_ble_eq_true rfl) zw_1_137, sm_get _ _⟩, ⟨_, ⟨sn_ci_v ztb_X4_init dX7_init_72 rfl zw_1_104 zw_1_105 zw_1_6 zw_1_106 zmh_X4 zpd_X4_init (Nat.le_of_ble_eq_true rfl) (Nat.le_of_ble_eq_true rfl) rfl rfl, sm_ci _ _ _ _ _ _⟩, ⟨_, ⟨sn_putF (C := RX7) (T := TX7) (N := 9) dX7_init_75 rfl zinX7 tyX7_ok nmX7 (Nat.le_of_ble_eq_true rfl) zw_1_139 rfl rfl rfl (tyX7_ok 5 (Nat.le_of_ble_eq_true rfl)) trivial, sm_put _ _ _⟩, ⟨_, ⟨sn_aload_n dX7_init_78 rfl, sm_al _⟩, ⟨_, ⟨sn_new (C := RX1) (T := TX1) (N := 3) dX7_init_79 rfl zinX1 tyX1_ok zw_1_115 zw_1_116 zw_1_7 (fun _ _ => rfl) zdfX1, sm_new _ _ _ _ _⟩, ⟨_, ⟨sn_dup dX7_init_82, sm_dup⟩, ⟨_, ⟨sn_aload_n dX7_init_83 rfl, sm_al _⟩, ⟨_, ⟨sn_get (C := RX7) (T := TX7) (N := 9) dX7_init_84 rfl zinX7 (Nat.le_of_ble_eq_true rfl) zw_1_136, sm_get _ _⟩, ⟨_, ⟨sn_ci_v ztb_X1_init dX7_init_87 rfl zw_1_117 zw_1_118 zw_1_7 zw_1_119 zmh_X1 zpd_X1_init (Nat.le_of_ble_eq_true rfl) (Nat.le_of_ble_eq_true rfl) rfl rfl, sm_ci _ _ _ _ _ _⟩, ⟨_, ⟨sn_putF (C := RX7) (T := TX7) (N := 9) dX7_init_90 rfl zinX7 tyX7_ok nmX7 (Nat.le_of_ble_eq_true rfl) zw_1_140 rfl rfl rfl (tyX7_ok 6 (Nat.le_of_ble_eq_true rfl)) trivial, sm_put _ _ _⟩, ⟨_, ⟨sn_aload_n dX7_init_93 rfl, sm_al _⟩, ⟨_, ⟨sn_iconst dX7_init_94 (by decide +kernel), sm_const _⟩, ⟨_, ⟨sn_newq dX7_init_95 zw_1_69, sm_newq _ _⟩, ⟨_, ⟨sn_dup dX7_init_98, sm_dup⟩, ⟨_, ⟨sn_iconst dX7_init_99 (by decide +kernel), sm_const _⟩, ⟨_, ⟨sn_new (C := RX2) (T := TX2) (N := 1) dX7_init_100 rfl zinX2 tyX2_ok zw_1_69 zw_1_70 zw_1_4 (fun _ _ => rfl) zdfX2, sm_new _ _ _ _ _⟩, ⟨_, ⟨sn_dup dX7_init_103, sm_dup⟩, ⟨_, ⟨sn_ci_v ztb_X2_init dX7_init_104 rfl zw_1_71 zw_1_72 zw_1_4 zw_1_73 zmh_X2 zpd_X2_init (Nat.le_of_ble_eq_true rfl) (Nat.le_of_ble_eq_true rfl) rfl rfl, sm_ci _ _ _ _ _ _⟩, ⟨_, ⟨sn_aast dX7_init_107, sm_aast⟩, ⟨_, ⟨sn_dup dX7_init_108, sm_dup⟩, ⟨_, ⟨sn_iconst dX7_init_109 (by decide +kernel), sm_const _⟩, ⟨_, ⟨sn_new (C := RX2) (T := TX2) (N := 1) dX7_init_110 rfl zinX2 tyX2_ok zw_1_69 zw_1_70 zw_1_4 (fun _ _ => rfl) zdfX2, sm_new _ _ _ _ _⟩, ⟨_, ⟨sn_dup dX7_init_113, sm_dup⟩, ⟨_, ⟨sn_ci_v ztb_X2_init dX7_init_114 rfl zw_1_71 zw_1_72 zw_1_4 zw_1_73 zmh_X2 zpd_X2_init (Nat.le_of_ble_eq_true rfl) (Nat.le_of_ble_eq_true rfl) rfl rfl, sm_ci _ _ _ _ _ _⟩, ⟨_, ⟨sn_aast dX7_init_117, sm_aast⟩, ⟨_, ⟨sn_putF (C := RX7) (T := TX7) (N := 9) dX7_init_118 rfl zinX7 tyX7_ok nmX7 (Nat.le_of_ble_eq_true rfl) zw_1_141 rfl rfl rfl (tyX7_ok 7 (Nat.le_of_ble_eq_true rfl)) trivial, sm_put _ _ _⟩, ⟨_, ⟨sn_aload_n dX7_init_121 rfl, sm_al _⟩, ⟨_, ⟨sn_iconst dX7_init_122 (by decide +kernel), sm_const _⟩, ⟨_, ⟨sn_put (C := RX7) (T := TX7) (N := 9) dX7_init_123 rfl zinX7 tyX7_ok nmX7 (Nat.le_of_ble_eq_true rfl) zw_1_142 rfl (tyX7_ok 8 (Nat.le_of_ble_eq_true rfl)) trivial, sm_put _ _ _⟩, ⟨_, ⟨sn_rv (len := 1) dX7_init_126 rfl, sm_rv⟩, trivial⟩⟩⟩⟩⟩⟩⟩⟩⟩⟩⟩⟩⟩⟩⟩⟩⟩⟩⟩⟩⟩⟩⟩⟩⟩⟩⟩⟩⟩⟩⟩⟩⟩⟩⟩⟩⟩⟩⟩⟩⟩⟩⟩⟩⟩⟩⟩⟩⟩⟩⟩⟩⟩⟩⟩⟩⟩⟩⟩⟩⟩⟩⟩
theorem kX7_init : ∀ pc, sx_BK sx_tb yX7_init.cls cX7_init 1 (none) ({ frames := 2, cells := 52, slots := 2263, locals := 42 } : Room) true false 0 (fun _ => 0) pc (BX7_init pc) := fun pc => sx_bk_if (kX7_init_0) (trivial)
theorem okX7_init : sx_ok sx_tb BX7_init (yX7_init, cX7_init, 1, none, { frames := 2, cells := 52, slots := 2263, locals := 42 }) := ⟨by decide, by decide +kernel, true, (fun _ => rfl), kX7_init⟩
theorem dX7_row_0 : decode cX7_row 0 = .ok (.iload_n 1, 1) := by decide +kernel
theorem dX7_row_1 : decode cX7_row 1 = .ok (.invokestatic 66, 3) := by decide +kernel
theorem dX7_row_4 : decode cX7_row 4 = .ok (.ifCond .eq 18, 3) := by decide +kernel
theorem dX7_row_7 : decode cX7_row 7 = .ok (.iload_n 2, 1) := by decide +kernel
theorem dX7_row_8 : decode cX7_row 8 = .ok (.iconst 0, 1) := by decide +kernel
theorem dX7_row_9 : decode cX7_row 9 = .ok (.iconst 2, 1) := by decide +kernel
theorem dX7_row_10 : decode cX7_row 10 = .ok (.invokestatic 70, 3) := by decide +kernel
theorem dX7_row_13 : decode cX7_row 13 = .ok (.ifCond .eq 9, 3) := by decide +kernel
theorem dX7_row_16 : decode cX7_row 16 = .ok (.iload_n 3, 1) := by decide +kernel
theorem dX7_row_17 : decode cX7_row 17 = .ok (.bipush 40, 2) := by decide +kernel
theorem dX7_row_19 : decode cX7_row 19 = .ok (.if_icmp .le 6, 3) := by decide +kernel
theorem dX7_row_22 : decode cX7_row 22 = .ok (.ldc 74, 2) := by decide +kernel
theorem dX7_row_24 : decode cX7_row 24 = .ok (.ireturn, 1) := by decide +kernel
theorem dX7_row_25 : decode cX7_row 25 = .ok (.aload_n 0, 1) := by decide +kernel
theorem dX7_row_26 : decode cX7_row 26 = .ok (.getfield 10, 3) := by decide +kernel
theorem dX7_row_29 : decode cX7_row 29 = .ok (.iload_n 1, 1) := by decide +kernel
theorem dX7_row_30 : decode cX7_row 30 = .ok (.iload_n 2, 1) := by decide +kernel
theorem dX7_row_31 : decode cX7_row 31 = .ok (.iload_n 3, 1) := by decide +kernel
theorem dX7_row_32 : decode cX7_row 32 = .ok (.invokevirtual 75, 3) := by decide +kernel
theorem dX7_row_35 : decode cX7_row 35 = .ok (.ireturn, 1) := by decide +kernel
def bX7_row_0 : List sx_S := [si_il 1, si_cs 62 1 0 0 0 0, si_if1 (fun x => x = 0) 22 [false, false, false, false], si_il 2, si_const 0, si_const (nI 2), si_cs 121 3 0 0 0 0, si_if1 (fun x => x = 0) 22 [false, false, false, false], si_il 3, si_const (nI 40), si_if2 (fun x y => x ≤ y) 25 [true, true, true, true], si_go 22 [false, false, false, false]]
def bX7_row_22 : List sx_S := [si_const (-1000001), si_ri]
def bX7_row_25 : List sx_S := [si_al 0, si_get 6 0, si_il 1, si_il 2, si_il 3, si_cv 4 64 3 0 0 0 0, si_ri]
def BX7_row : Nat → List sx_S := fun pc => if pc = 0 then bX7_row_0 else if pc = 22 then bX7_row_22 else if pc = 25 then bX7_row_25 else []
set_option maxRecDepth 20000 in
theorem kX7_row_0 : sx_BK sx_tb yX7_row.cls cX7_row 4 (some .int) ({ frames := 2, cells := 0, slots := 0, locals := 45 } : Room) false false 0 (fun _ => 0) 0 (bX7_row_0) := ⟨_, ⟨sn_iload_n dX7_row_0 rfl, sm_il _⟩, ⟨_, ⟨sn_cs_z ztb_X5_isRow dX7_row_1 zw_1_166 zw_1_167 zw_1_2 zw_1_168 zmh_X5 zpd_X5_isRow (Nat.le_of_ble_eq_true rfl) (Nat.le_of_ble_eq_true rfl) rfl rfl, sm_cs _ _ _ _ _ _⟩, ⟨_, ⟨sn_if_eq dX7_row_4 (by decide +kernel) rfl, sm_if1 _ _ _⟩, ⟨_, ⟨sn_iload_n dX7_row_7 rfl, sm_il _⟩, ⟨_, ⟨sn_iconst dX7_row_8 (by decide +kernel), sm_const _⟩, ⟨_, ⟨sn_iconst dX7_row_9 (by decide +kernel), sm_const _⟩, ⟨_, ⟨sn_cs_z ztb_X7_within dX7_row_10 zw_1_169 zw_1_170 zw_1_1 zw_1_171 zmh_X7 zpd_X7_within (Nat.le_of_ble_eq_true rfl) (Nat.le_of_ble_eq_true rfl) rfl rfl, sm_cs _ _ _ _ _ _⟩, ⟨_, ⟨sn_if_eq dX7_row_13 (by decide +kernel) rfl, sm_if1 _ _ _⟩, ⟨_, ⟨sn_iload_n dX7_row_16 rfl, sm_il _⟩, ⟨_, ⟨sn_bipush dX7_row_17 (by decide +kernel), sm_const _⟩, ⟨_, ⟨sn_ic_le dX7_row_19 (by decide +kernel) rfl, sm_if2 _ _ _⟩, ⟨_, ⟨sn_fall (len := 0) rfl rfl, sm_go _ _⟩, trivial⟩⟩⟩⟩⟩⟩⟩⟩⟩⟩⟩⟩
set_option maxRecDepth 20000 in
theorem kX7_row_22 : sx_BK sx_tb yX7_row.cls cX7_row 4 (some .int) ({ frames := 2, cells := 0, slots := 0, locals := 45 } : Room) false false 0 (fun _ => 0) 22 (bX7_row_22) := ⟨_, ⟨sn_ldc dX7_row_22 zw_1_172, sm_const _⟩, ⟨_, ⟨sn_ri (len := 1) dX7_row_24 rfl, sm_ri⟩, trivial⟩⟩
set_option maxRecDepth 20000 in
theorem kX7_row_25 : sx_BK sx_tb yX7_row.cls cX7_row 4 (some .int) ({ frames := 2, cells := 0, slots := 0, locals := 45 } : Room) false false 0 (fun _ => 0) 25 (bX7_row_25) := ⟨_, ⟨sn_aload_n dX7_row_25 rfl, sm_al _⟩, ⟨_, ⟨sn_get (C := RX7) (T := TX7) (N := 9) dX7_row_26 rfl zinX7 (Nat.le_of_ble_eq_true rfl) zw_1_134, sm_get _ _⟩, ⟨_, ⟨sn_iload_n dX7_row_29 rfl, sm_il _⟩, ⟨_, ⟨sn_iload_n dX7_row_30 rfl, sm_il _⟩, ⟨_, ⟨sn_iload_n dX7_row_31 rfl, sm_il _⟩, ⟨_, ⟨sn_cv_i (N := 4) (T := TX5) ztb_X5_make dX7_row_32 rfl rfl zw_1_173 zw_1_174 zw_1_175 zw_1_2 zw_1_176 zmh_X5 zpd_X5_make (Nat.le_of_ble_eq_true rfl) (Nat.le_of_ble_eq_true rfl) rfl rfl, sm_cv _ _ _ _ _ _ _⟩, ⟨_, ⟨sn_ri (len := 1) dX7_row_35 rfl, sm_ri⟩, trivial⟩⟩⟩⟩⟩⟩⟩
theorem kX7_row : ∀ pc, sx_BK sx_tb yX7_row.cls cX7_row 4 (some .int) ({ frames := 2, cells := 0, slots := 0, locals := 45 } : Room) false false 0 (fun _ => 0) pc (BX7_row pc) := fun pc => sx_bk_if (kX7_row_0) (sx_bk_if (kX7_row_22) (sx_bk_if (kX7_row_25) (trivial)))
theorem okX7_row : sx_ok sx_tb BX7_row (yX7_row, cX7_row, 4, some .int, { frames := 2, cells := 0, slots := 0, locals := 45 }) := ⟨by decide, by decide +kernel, false, (fun h => by cases h), kX7_row⟩
theorem dX7_set_0 : decode cX7_set 0 = .ok (.iload_n 1, 1) := by decide +kernel
theorem dX7_set_1 : decode cX7_set 1 = .ok (.invokestatic 66, 3) := by decide +kernel
theorem dX7_set_4 : decode cX7_set 4 = .ok (.ifCond .ne 6, 3) := by decide +kernel
theorem dX7_set_7 : decode cX7_set 7 = .ok (.ldc 74, 2) := by decide +kernel
theorem dX7_set_9 : decode cX7_set 9 = .ok (.ireturn, 1) := by decide +kernel
theorem dX7_set_10 : decode cX7_set 10 = .ok (.aload_n 0, 1) := by decide +kernel
theorem dX7_set_11 : decode cX7_set 11 = .ok (.getfield 10, 3) := by decide +kernel
theorem dX7_set_14 : decode cX7_set 14 = .ok (.iload_n 1, 1) := by decide +kernel
theorem dX7_set_15 : decode cX7_set 15 = .ok (.iload_n 2, 1) := by decide +kernel
theorem dX7_set_16 : decode cX7_set 16 = .ok (.iload_n 3, 1) := by decide +kernel
theorem dX7_set_17 : decode cX7_set 17 = .ok (.invokevirtual 79, 3) := by decide +kernel
theorem dX7_set_20 : decode cX7_set 20 = .ok (.ireturn, 1) := by decide +kernel
def bX7_set_0 : List sx_S := [si_il 1, si_cs 62 1 0 0 0 0, si_if1 (fun x => ¬ x = 0) 10 [true, true, true, true], si_const (-1000001), si_ri]
def bX7_set_10 : List sx_S := [si_al 0, si_get 6 0, si_il 1, si_il 2, si_il 3, si_cv 4 65 3 0 0 0 0, si_ri]
def BX7_set : Nat → List sx_S := fun pc => if pc = 0 then bX7_set_0 else if pc = 10 then bX7_set_10 else []
set_option maxRecDepth 20000 in
theorem kX7_set_0 : sx_BK sx_tb yX7_set.cls cX7_set 4 (some .int) ({ frames := 3, cells := 0, slots := 0, locals := 70 } : Room) false false 0 (fun _ => 0) 0 (bX7_set_0) := ⟨_, ⟨sn_iload_n dX7_set_0 rfl, sm_il _⟩, ⟨_, ⟨sn_cs_z ztb_X5_isRow dX7_set_1 zw_1_166 zw_1_167 zw_1_2 zw_1_168 zmh_X5 zpd_X5_isRow (Nat.le_of_ble_eq_true rfl) (Nat.le_of_ble_eq_true rfl) rfl rfl, sm_cs _ _ _ _ _ _⟩, ⟨_, ⟨sn_if_ne dX7_set_4 (by decide +kernel) rfl, sm_if1 _ _ _⟩, ⟨_, ⟨sn_ldc dX7_set_7 zw_1_172, sm_const _⟩, ⟨_, ⟨sn_ri (len := 1) dX7_set_9 rfl, sm_ri⟩, trivial⟩⟩⟩⟩⟩
set_option maxRecDepth 20000 in
theorem kX7_set_10 : sx_BK sx_tb yX7_set.cls cX7_set 4 (some .int) ({ frames := 3, cells := 0, slots := 0, locals := 70 } : Room) false false 0 (fun _ => 0) 10 (bX7_set_10) := ⟨_, ⟨sn_aload_n dX7_set_10 rfl, sm_al _⟩, ⟨_, ⟨sn_get (C := RX7) (T := TX7) (N := 9) dX7_set_11 rfl zinX7 (Nat.le_of_ble_eq_true rfl) zw_1_134, sm_get _ _⟩, ⟨_, ⟨sn_iload_n dX7_set_14 rfl, sm_il _⟩, ⟨_, ⟨sn_iload_n dX7_set_15 rfl, sm_il _⟩, ⟨_, ⟨sn_iload_n dX7_set_16 rfl, sm_il _⟩, ⟨_, ⟨sn_cv_i (N := 4) (T := TX5) ztb_X5_put dX7_set_17 rfl rfl zw_1_186 zw_1_187 zw_1_188 zw_1_2 zw_1_189 zmh_X5 zpd_X5_put (Nat.le_of_ble_eq_true rfl) (Nat.le_of_ble_eq_true rfl) rfl rfl, sm_cv _ _ _ _ _ _ _⟩, ⟨_, ⟨sn_ri (len := 1) dX7_set_20 rfl, sm_ri⟩, trivial⟩⟩⟩⟩⟩⟩⟩
theorem kX7_set : ∀ pc, sx_BK sx_tb yX7_set.cls cX7_set 4 (some .int) ({ frames := 3, cells := 0, slots := 0, locals := 70 } : Room) false false 0 (fun _ => 0) pc (BX7_set pc) := fun pc => sx_bk_if (kX7_set_0) (sx_bk_if (kX7_set_10) (trivial))
theorem okX7_set : sx_ok sx_tb BX7_set (yX7_set, cX7_set, 4, some .int, { frames := 3, cells := 0, slots := 0, locals := 70 }) := ⟨by decide, by decide +kernel, false, (fun h => by cases h), kX7_set⟩
theorem dX7_copy_0 : decode cX7_copy 0 = .ok (.iload_n 1, 1) := by decide +kernel
theorem dX7_copy_1 : decode cX7_copy 1 = .ok (.invokestatic 66, 3) := by decide +kernel
theorem dX7_copy_4 : decode cX7_copy 4 = .ok (.ifCond .eq 10, 3) := by decide +kernel
theorem dX7_copy_7 : decode cX7_copy 7 = .ok (.iload_n 3, 1) := by decide +kernel
theorem dX7_copy_8 : decode cX7_copy 8 = .ok (.invokestatic 66, 3) := by decide +kernel
theorem dX7_copy_11 : decode cX7_copy 11 = .ok (.ifCond .ne 6, 3) := by decide +kernel
theorem dX7_copy_14 : decode cX7_copy 14 = .ok (.ldc 74, 2) := by decide +kernel
theorem dX7_copy_16 : decode cX7_copy 16 = .ok (.ireturn, 1) := by decide +kernel
theorem dX7_copy_17 : decode cX7_copy 17 = .ok (.aload_n 0, 1) := by decide +kernel
theorem dX7_copy_18 : decode cX7_copy 18 = .ok (.getfield 10, 3) := by decide +kernel
theorem dX7_copy_21 : decode cX7_copy 21 = .ok (.iload_n 1, 1) := by decide +kernel
theorem dX7_copy_22 : decode cX7_copy 22 = .ok (.iload_n 2, 1) := by decide +kernel
theorem dX7_copy_23 : decode cX7_copy 23 = .ok (.iload_n 3, 1) := by decide +kernel
theorem dX7_copy_24 : decode cX7_copy 24 = .ok (.iload 4, 2) := by decide +kernel
theorem dX7_copy_26 : decode cX7_copy 26 = .ok (.iload 5, 2) := by decide +kernel
theorem dX7_copy_28 : decode cX7_copy 28 = .ok (.invokevirtual 82, 3) := by decide +kernel
theorem dX7_copy_31 : decode cX7_copy 31 = .ok (.ireturn, 1) := by decide +kernel
def bX7_copy_0 : List sx_S := [si_il 1, si_cs 62 1 0 0 0 0, si_if1 (fun x => x = 0) 14 [false, false, false, false, false, false], si_il 3, si_cs 62 1 0 0 0 0, si_if1 (fun x => ¬ x = 0) 17 [true, true, true, true, true, true], si_go 14 [false, false, false, false, false, false]]
def bX7_copy_14 : List sx_S := [si_const (-1000001), si_ri]
def bX7_copy_17 : List sx_S := [si_al 0, si_get 6 0, si_il 1, si_il 2, si_il 3, si_il 4, si_il 5, si_cv 4 66 5 0 0 0 0, si_ri]
def BX7_copy : Nat → List sx_S := fun pc => if pc = 0 then bX7_copy_0 else if pc = 14 then bX7_copy_14 else if pc = 17 then bX7_copy_17 else []
set_option maxRecDepth 20000 in
theorem kX7_copy_0 : sx_BK sx_tb yX7_copy.cls cX7_copy 6 (some .int) ({ frames := 2, cells := 0, slots := 0, locals := 51 } : Room) false false 0 (fun _ => 0) 0 (bX7_copy_0) := ⟨_, ⟨sn_iload_n dX7_copy_0 rfl, sm_il _⟩, ⟨_, ⟨sn_cs_z ztb_X5_isRow dX7_copy_1 zw_1_166 zw_1_167 zw_1_2 zw_1_168 zmh_X5 zpd_X5_isRow (Nat.le_of_ble_eq_true rfl) (Nat.le_of_ble_eq_true rfl) rfl rfl, sm_cs _ _ _ _ _ _⟩, ⟨_, ⟨sn_if_eq dX7_copy_4 (by decide +kernel) rfl, sm_if1 _ _ _⟩, ⟨_, ⟨sn_iload_n dX7_copy_7 rfl, sm_il _⟩, ⟨_, ⟨sn_cs_z ztb_X5_isRow dX7_copy_8 zw_1_166 zw_1_167 zw_1_2 zw_1_168 zmh_X5 zpd_X5_isRow (Nat.le_of_ble_eq_true rfl) (Nat.le_of_ble_eq_true rfl) rfl rfl, sm_cs _ _ _ _ _ _⟩, ⟨_, ⟨sn_if_ne dX7_copy_11 (by decide +kernel) rfl, sm_if1 _ _ _⟩, ⟨_, ⟨sn_fall (len := 0) rfl rfl, sm_go _ _⟩, trivial⟩⟩⟩⟩⟩⟩⟩
set_option maxRecDepth 20000 in
theorem kX7_copy_14 : sx_BK sx_tb yX7_copy.cls cX7_copy 6 (some .int) ({ frames := 2, cells := 0, slots := 0, locals := 51 } : Room) false false 0 (fun _ => 0) 14 (bX7_copy_14) := ⟨_, ⟨sn_ldc dX7_copy_14 zw_1_172, sm_const _⟩, ⟨_, ⟨sn_ri (len := 1) dX7_copy_16 rfl, sm_ri⟩, trivial⟩⟩
set_option maxRecDepth 20000 in
theorem kX7_copy_17 : sx_BK sx_tb yX7_copy.cls cX7_copy 6 (some .int) ({ frames := 2, cells := 0, slots := 0, locals := 51 } : Room) false false 0 (fun _ => 0) 17 (bX7_copy_17) := ⟨_, ⟨sn_aload_n dX7_copy_17 rfl, sm_al _⟩, ⟨_, ⟨sn_get (C := RX7) (T := TX7) (N := 9) dX7_copy_18 rfl zinX7 (Nat.le_of_ble_eq_true rfl) zw_1_134, sm_get _ _⟩, ⟨_, ⟨sn_iload_n dX7_copy_21 rfl, sm_il _⟩, ⟨_, ⟨sn_iload_n dX7_copy_22 rfl, sm_il _⟩, ⟨_, ⟨sn_iload_n dX7_copy_23 rfl, sm_il _⟩, ⟨_, ⟨sn_iload dX7_copy_24, sm_il _⟩, ⟨_, ⟨sn_iload dX7_copy_26, sm_il _⟩, ⟨_, ⟨sn_cv_i (N := 4) (T := TX5) ztb_X5_carry dX7_copy_28 rfl rfl zw_1_205 zw_1_206 zw_1_207 zw_1_2 zw_1_208 zmh_X5 zpd_X5_carry (Nat.le_of_ble_eq_true rfl) (Nat.le_of_ble_eq_true rfl) rfl rfl, sm_cv _ _ _ _ _ _ _⟩, ⟨_, ⟨sn_ri (len := 1) dX7_copy_31 rfl, sm_ri⟩, trivial⟩⟩⟩⟩⟩⟩⟩⟩⟩
theorem kX7_copy : ∀ pc, sx_BK sx_tb yX7_copy.cls cX7_copy 6 (some .int) ({ frames := 2, cells := 0, slots := 0, locals := 51 } : Room) false false 0 (fun _ => 0) pc (BX7_copy pc) := fun pc => sx_bk_if (kX7_copy_0) (sx_bk_if (kX7_copy_14) (sx_bk_if (kX7_copy_17) (trivial)))
theorem okX7_copy : sx_ok sx_tb BX7_copy (yX7_copy, cX7_copy, 6, some .int, { frames := 2, cells := 0, slots := 0, locals := 51 }) := ⟨by decide, by decide +kernel, false, (fun h => by cases h), kX7_copy⟩
theorem dX7_drop_0 : decode cX7_drop 0 = .ok (.iload_n 1, 1) := by decide +kernel
theorem dX7_drop_1 : decode cX7_drop 1 = .ok (.invokestatic 66, 3) := by decide +kernel
theorem dX7_drop_4 : decode cX7_drop 4 = .ok (.ifCond .ne 6, 3) := by decide +kernel
theorem dX7_drop_7 : decode cX7_drop 7 = .ok (.ldc 74, 2) := by decide +kernel
theorem dX7_drop_9 : decode cX7_drop 9 = .ok (.ireturn, 1) := by decide +kernel
theorem dX7_drop_10 : decode cX7_drop 10 = .ok (.aload_n 0, 1) := by decide +kernel
theorem dX7_drop_11 : decode cX7_drop 11 = .ok (.getfield 10, 3) := by decide +kernel
theorem dX7_drop_14 : decode cX7_drop 14 = .ok (.iload_n 1, 1) := by decide +kernel
theorem dX7_drop_15 : decode cX7_drop 15 = .ok (.invokevirtual 86, 3) := by decide +kernel
theorem dX7_drop_18 : decode cX7_drop 18 = .ok (.ireturn, 1) := by decide +kernel
def bX7_drop_0 : List sx_S := [si_il 1, si_cs 62 1 0 0 0 0, si_if1 (fun x => ¬ x = 0) 10 [true, true], si_const (-1000001), si_ri]
def bX7_drop_10 : List sx_S := [si_al 0, si_get 6 0, si_il 1, si_cv 4 67 1 0 0 0 0, si_ri]
def BX7_drop : Nat → List sx_S := fun pc => if pc = 0 then bX7_drop_0 else if pc = 10 then bX7_drop_10 else []
set_option maxRecDepth 20000 in
theorem kX7_drop_0 : sx_BK sx_tb yX7_drop.cls cX7_drop 2 (some .int) ({ frames := 2, cells := 0, slots := 0, locals := 43 } : Room) false false 0 (fun _ => 0) 0 (bX7_drop_0) := ⟨_, ⟨sn_iload_n dX7_drop_0 rfl, sm_il _⟩, ⟨_, ⟨sn_cs_z ztb_X5_isRow dX7_drop_1 zw_1_166 zw_1_167 zw_1_2 zw_1_168 zmh_X5 zpd_X5_isRow (Nat.le_of_ble_eq_true rfl) (Nat.le_of_ble_eq_true rfl) rfl rfl, sm_cs _ _ _ _ _ _⟩, ⟨_, ⟨sn_if_ne dX7_drop_4 (by decide +kernel) rfl, sm_if1 _ _ _⟩, ⟨_, ⟨sn_ldc dX7_drop_7 zw_1_172, sm_const _⟩, ⟨_, ⟨sn_ri (len := 1) dX7_drop_9 rfl, sm_ri⟩, trivial⟩⟩⟩⟩⟩
set_option maxRecDepth 20000 in
theorem kX7_drop_10 : sx_BK sx_tb yX7_drop.cls cX7_drop 2 (some .int) ({ frames := 2, cells := 0, slots := 0, locals := 43 } : Room) false false 0 (fun _ => 0) 10 (bX7_drop_10) := ⟨_, ⟨sn_aload_n dX7_drop_10 rfl, sm_al _⟩, ⟨_, ⟨sn_get (C := RX7) (T := TX7) (N := 9) dX7_drop_11 rfl zinX7 (Nat.le_of_ble_eq_true rfl) zw_1_134, sm_get _ _⟩, ⟨_, ⟨sn_iload_n dX7_drop_14 rfl, sm_il _⟩, ⟨_, ⟨sn_cv_i (N := 4) (T := TX5) ztb_X5_lose dX7_drop_15 rfl rfl zw_1_216 zw_1_217 zw_1_218 zw_1_2 zw_1_219 zmh_X5 zpd_X5_lose (Nat.le_of_ble_eq_true rfl) (Nat.le_of_ble_eq_true rfl) rfl rfl, sm_cv _ _ _ _ _ _ _⟩, ⟨_, ⟨sn_ri (len := 1) dX7_drop_18 rfl, sm_ri⟩, trivial⟩⟩⟩⟩⟩
theorem kX7_drop : ∀ pc, sx_BK sx_tb yX7_drop.cls cX7_drop 2 (some .int) ({ frames := 2, cells := 0, slots := 0, locals := 43 } : Room) false false 0 (fun _ => 0) pc (BX7_drop pc) := fun pc => sx_bk_if (kX7_drop_0) (sx_bk_if (kX7_drop_10) (trivial))
theorem okX7_drop : sx_ok sx_tb BX7_drop (yX7_drop, cX7_drop, 2, some .int, { frames := 2, cells := 0, slots := 0, locals := 43 }) := ⟨by decide, by decide +kernel, false, (fun h => by cases h), kX7_drop⟩
theorem dX7_feed_0 : decode cX7_feed 0 = .ok (.iload_n 1, 1) := by decide +kernel
theorem dX7_feed_1 : decode cX7_feed 1 = .ok (.iconst 0, 1) := by decide +kernel
theorem dX7_feed_2 : decode cX7_feed 2 = .ok (.sipush 255, 3) := by decide +kernel
theorem dX7_feed_5 : decode cX7_feed 5 = .ok (.invokestatic 70, 3) := by decide +kernel
theorem dX7_feed_8 : decode cX7_feed 8 = .ok (.ifCond .ne 6, 3) := by decide +kernel
theorem dX7_feed_11 : decode cX7_feed 11 = .ok (.ldc 74, 2) := by decide +kernel
theorem dX7_feed_13 : decode cX7_feed 13 = .ok (.ireturn, 1) := by decide +kernel
theorem dX7_feed_14 : decode cX7_feed 14 = .ok (.aload_n 0, 1) := by decide +kernel
theorem dX7_feed_15 : decode cX7_feed 15 = .ok (.getfield 19, 3) := by decide +kernel
theorem dX7_feed_18 : decode cX7_feed 18 = .ok (.iload_n 1, 1) := by decide +kernel
theorem dX7_feed_19 : decode cX7_feed 19 = .ok (.invokevirtual 90, 3) := by decide +kernel
theorem dX7_feed_22 : decode cX7_feed 22 = .ok (.ireturn, 1) := by decide +kernel
def bX7_feed_0 : List sx_S := [si_il 1, si_const 0, si_const (nI 255), si_cs 121 3 0 0 0 0, si_if1 (fun x => ¬ x = 0) 14 [true, true], si_const (-1000001), si_ri]
def bX7_feed_14 : List sx_S := [si_al 0, si_get 6 1, si_il 1, si_cv 5 73 1 0 0 0 0, si_ri]
def BX7_feed : Nat → List sx_S := fun pc => if pc = 0 then bX7_feed_0 else if pc = 14 then bX7_feed_14 else []
set_option maxRecDepth 20000 in
theorem kX7_feed_0 : sx_BK sx_tb yX7_feed.cls cX7_feed 2 (some .int) ({ frames := 1, cells := 0, slots := 0, locals := 22 } : Room) false false 0 (fun _ => 0) 0 (bX7_feed_0) := ⟨_, ⟨sn_iload_n dX7_feed_0 rfl, sm_il _⟩, ⟨_, ⟨sn_iconst dX7_feed_1 (by decide +kernel), sm_const _⟩, ⟨_, ⟨sn_sipush dX7_feed_2 (by decide +kernel), sm_const _⟩, ⟨_, ⟨sn_cs_z ztb_X7_within dX7_feed_5 zw_1_169 zw_1_170 zw_1_1 zw_1_171 zmh_X7 zpd_X7_within (Nat.le_of_ble_eq_true rfl) (Nat.le_of_ble_eq_true rfl) rfl rfl, sm_cs _ _ _ _ _ _⟩, ⟨_, ⟨sn_if_ne dX7_feed_8 (by decide +kernel) rfl, sm_if1 _ _ _⟩, ⟨_, ⟨sn_ldc dX7_feed_11 zw_1_172, sm_const _⟩, ⟨_, ⟨sn_ri (len := 1) dX7_feed_13 rfl, sm_ri⟩, trivial⟩⟩⟩⟩⟩⟩⟩
set_option maxRecDepth 20000 in
theorem kX7_feed_14 : sx_BK sx_tb yX7_feed.cls cX7_feed 2 (some .int) ({ frames := 1, cells := 0, slots := 0, locals := 22 } : Room) false false 0 (fun _ => 0) 14 (bX7_feed_14) := ⟨_, ⟨sn_aload_n dX7_feed_14 rfl, sm_al _⟩, ⟨_, ⟨sn_get (C := RX7) (T := TX7) (N := 9) dX7_feed_15 rfl zinX7 (Nat.le_of_ble_eq_true rfl) zw_1_135, sm_get _ _⟩, ⟨_, ⟨sn_iload_n dX7_feed_18 rfl, sm_il _⟩, ⟨_, ⟨sn_cv_i (N := 5) (T := TX6) ztb_X6_add dX7_feed_19 rfl rfl zw_1_224 zw_1_225 zw_1_226 zw_1_3 zw_1_227 zmh_X6 zpd_X6_add (Nat.le_of_ble_eq_true rfl) (Nat.le_of_ble_eq_true rfl) rfl rfl, sm_cv _ _ _ _ _ _ _⟩, ⟨_, ⟨sn_ri (len := 1) dX7_feed_22 rfl, sm_ri⟩, trivial⟩⟩⟩⟩⟩
theorem kX7_feed : ∀ pc, sx_BK sx_tb yX7_feed.cls cX7_feed 2 (some .int) ({ frames := 1, cells := 0, slots := 0, locals := 22 } : Room) false false 0 (fun _ => 0) pc (BX7_feed pc) := fun pc => sx_bk_if (kX7_feed_0) (sx_bk_if (kX7_feed_14) (trivial))
theorem okX7_feed : sx_ok sx_tb BX7_feed (yX7_feed, cX7_feed, 2, some .int, { frames := 1, cells := 0, slots := 0, locals := 22 }) := ⟨by decide, by decide +kernel, false, (fun h => by cases h), kX7_feed⟩
theorem dX7_shop_0 : decode cX7_shop 0 = .ok (.aload_n 0, 1) := by decide +kernel
theorem dX7_shop_1 : decode cX7_shop 1 = .ok (.getfield 19, 3) := by decide +kernel
theorem dX7_shop_4 : decode cX7_shop 4 = .ok (.aload_n 0, 1) := by decide +kernel
theorem dX7_shop_5 : decode cX7_shop 5 = .ok (.getfield 30, 3) := by decide +kernel
theorem dX7_shop_8 : decode cX7_shop 8 = .ok (.invokevirtual 93, 3) := by decide +kernel
theorem dX7_shop_11 : decode cX7_shop 11 = .ok (.istore_n 1, 1) := by decide +kernel
theorem dX7_shop_12 : decode cX7_shop 12 = .ok (.aload_n 0, 1) := by decide +kernel
theorem dX7_shop_13 : decode cX7_shop 13 = .ok (.getfield 19, 3) := by decide +kernel
theorem dX7_shop_16 : decode cX7_shop 16 = .ok (.getfield 97, 3) := by decide +kernel
theorem dX7_shop_19 : decode cX7_shop 19 = .ok (.istore_n 2, 1) := by decide +kernel
theorem dX7_shop_20 : decode cX7_shop 20 = .ok (.aload_n 0, 1) := by decide +kernel
theorem dX7_shop_21 : decode cX7_shop 21 = .ok (.getfield 19, 3) := by decide +kernel
theorem dX7_shop_24 : decode cX7_shop 24 = .ok (.invokevirtual 100, 3) := by decide +kernel
theorem dX7_shop_27 : decode cX7_shop 27 = .ok (.iload_n 1, 1) := by decide +kernel
theorem dX7_shop_28 : decode cX7_shop 28 = .ok (.ifCond .eq 13, 3) := by decide +kernel
theorem dX7_shop_31 : decode cX7_shop 31 = .ok (.aload_n 0, 1) := by decide +kernel
theorem dX7_shop_32 : decode cX7_shop 32 = .ok (.iload_n 1, 1) := by decide +kernel
theorem dX7_shop_33 : decode cX7_shop 33 = .ok (.putfield 62, 3) := by decide +kernel
theorem dX7_shop_36 : decode cX7_shop 36 = .ok (.ldc 103, 2) := by decide +kernel
theorem dX7_shop_38 : decode cX7_shop 38 = .ok (.iload_n 2, 1) := by decide +kernel
theorem dX7_shop_39 : decode cX7_shop 39 = .ok (.isub, 1) := by decide +kernel
theorem dX7_shop_40 : decode cX7_shop 40 = .ok (.ireturn, 1) := by decide +kernel
theorem dX7_shop_41 : decode cX7_shop 41 = .ok (.aload_n 0, 1) := by decide +kernel
theorem dX7_shop_42 : decode cX7_shop 42 = .ok (.getfield 26, 3) := by decide +kernel
theorem dX7_shop_45 : decode cX7_shop 45 = .ok (.aload_n 0, 1) := by decide +kernel
theorem dX7_shop_46 : decode cX7_shop 46 = .ok (.getfield 30, 3) := by decide +kernel
theorem dX7_shop_49 : decode cX7_shop 49 = .ok (.invokevirtual 104, 3) := by decide +kernel
theorem dX7_shop_52 : decode cX7_shop 52 = .ok (.aload_n 0, 1) := by decide +kernel
theorem dX7_shop_53 : decode cX7_shop 53 = .ok (.getfield 36, 3) := by decide +kernel
theorem dX7_shop_56 : decode cX7_shop 56 = .ok (.invokevirtual 107, 3) := by decide +kernel
theorem dX7_shop_59 : decode cX7_shop 59 = .ok (.aload_n 0, 1) := by decide +kernel
theorem dX7_shop_60 : decode cX7_shop 60 = .ok (.getfield 26, 3) := by decide +kernel
theorem dX7_shop_63 : decode cX7_shop 63 = .ok (.getfield 110, 3) := by decide +kernel
theorem dX7_shop_66 : decode cX7_shop 66 = .ok (.bipush 58, 2) := by decide +kernel
theorem dX7_shop_68 : decode cX7_shop 68 = .ok (.iaload, 1) := by decide +kernel
theorem dX7_shop_69 : decode cX7_shop 69 = .ok (.ireturn, 1) := by decide +kernel
def bX7_shop_0 : List sx_S := [si_al 0, si_get 6 1, si_al 0, si_get 6 3, si_cv 5 75 1 0 0 0 0, si_is 1, si_al 0, si_get 6 1, si_get 5 2, si_is 2, si_al 0, si_get 6 1, si_cv 5 74 0 0 0 0 0, si_il 1, si_if1 (fun x => x = 0) 41 [true, false, false], si_al 0, si_il 1, si_put 6 8 0, si_const (-1000100), si_il 2, si_bin (fun x y => x - y), si_ri]
def bX7_shop_41 : List sx_S := [si_al 0, si_get 6 2, si_al 0, si_get 6 3, si_cv 2 22 1 0 0 0 0, si_al 0, si_get 6 4, si_cv 0 1 0 0 0 0 0, si_al 0, si_get 6 2, si_get 2 0, si_const (nI 58), si_iald, si_ri]
def BX7_shop : Nat → List sx_S := fun pc => if pc = 0 then bX7_shop_0 else if pc = 41 then bX7_shop_41 else []
set_option maxRecDepth 20000 in
theorem kX7_shop_0 : sx_BK sx_tb yX7_shop.cls cX7_shop 3 (some .int) ({ frames := 4, cells := 0, slots := 0, locals := 89 } : Room) false false 0 (fun _ => 0) 0 (bX7_shop_0) := ⟨_, ⟨sn_aload_n dX7_shop_0 rfl, sm_al _⟩, ⟨_, ⟨sn_get (C := RX7) (T := TX7) (N := 9) dX7_shop_1 rfl zinX7 (Nat.le_of_ble_eq_true rfl) zw_1_135, sm_get _ _⟩, ⟨_, ⟨sn_aload_n dX7_shop_4 rfl, sm_al _⟩, ⟨_, ⟨sn_get (C := RX7) (T := TX7) (N := 9) dX7_shop_5 rfl zinX7 (Nat.le_of_ble_eq_true rfl) zw_1_137, sm_get _ _⟩, ⟨_, ⟨sn_cv_i (N := 5) (T := TX6) ztb_X6_read dX7_shop_8 rfl rfl zw_1_233 zw_1_234 zw_1_235 zw_1_3 zw_1_236 zmh_X6 zpd_X6_read (Nat.le_of_ble_eq_true rfl) (Nat.le_of_ble_eq_true rfl) rfl rfl, sm_cv _ _ _ _ _ _ _⟩, ⟨_, ⟨sn_istore_n dX7_shop_11 rfl (Nat.le_of_ble_eq_true rfl), sm_is _⟩, ⟨_, ⟨sn_aload_n dX7_shop_12 rfl, sm_al _⟩, ⟨_, ⟨sn_get (C := RX7) (T := TX7) (N := 9) dX7_shop_13 rfl zinX7 (Nat.le_of_ble_eq_true rfl) zw_1_135, sm_get _ _⟩, ⟨_, ⟨sn_get (C := RX6) (T := TX6) (N := 5) dX7_shop_16 rfl zinX6 (Nat.le_of_ble_eq_true rfl) zw_1_55, sm_get _ _⟩, ⟨_, ⟨sn_istore_n dX7_shop_19 rfl (Nat.le_of_ble_eq_true rfl), sm_is _⟩, ⟨_, ⟨sn_aload_n dX7_shop_20 rfl, sm_al _⟩, ⟨_, ⟨sn_get (C := RX7) (T := TX7) (N := 9) dX7_shop_21 rfl zinX7 (Nat.le_of_ble_eq_true rfl) zw_1_135, sm_get _ _⟩, ⟨_, ⟨sn_cv_v (N := 5) (T := TX6) ztb_X6_empty dX7_shop_24 rfl rfl zw_2_35 zw_2_36 zw_2_37 zw_1_3 zw_2_38 zmh_X6 zpd_X6_empty (Nat.le_of_ble_eq_true rfl) (Nat.le_of_ble_eq_true rfl) rfl rfl, sm_cv _ _ _ _ _ _ _⟩, ⟨_, ⟨sn_iload_n dX7_shop_27 rfl, sm_il _⟩, ⟨_, ⟨sn_if_eq dX7_shop_28 (by decide +kernel) rfl, sm_if1 _ _ _⟩, ⟨_, ⟨sn_aload_n dX7_shop_31 rfl, sm_al _⟩, ⟨_, ⟨sn_iload_n dX7_shop_32 rfl, sm_il _⟩, ⟨_, ⟨sn_put (C := RX7) (T := TX7) (N := 9) dX7_shop_33 rfl zinX7 tyX7_ok nmX7 (Nat.le_of_ble_eq_true rfl) zw_1_142 rfl (tyX7_ok 8 (Nat.le_of_ble_eq_true rfl)) trivial, sm_put _ _ _⟩, ⟨_, ⟨sn_ldc dX7_shop_36 zw_2_39, sm_const _⟩, ⟨_, ⟨sn_iload_n dX7_shop_38 rfl, sm_il _⟩, ⟨_, ⟨sn_isub dX7_shop_39, sm_bin _⟩, ⟨_, ⟨sn_ri (len := 1) dX7_shop_40 rfl, sm_ri⟩, trivial⟩⟩⟩⟩⟩⟩⟩⟩⟩⟩⟩⟩⟩⟩⟩⟩⟩⟩⟩⟩⟩⟩
set_option maxRecDepth 20000 in
theorem kX7_shop_41 : sx_BK sx_tb yX7_shop.cls cX7_shop 3 (some .int) ({ frames := 4, cells := 0, slots := 0, locals := 89 } : Room) false false 0 (fun _ => 0) 41 (bX7_shop_41) := ⟨_, ⟨sn_aload_n dX7_shop_41 rfl, sm_al _⟩, ⟨_, ⟨sn_get (C := RX7) (T := TX7) (N := 9) dX7_shop_42 rfl zinX7 (Nat.le_of_ble_eq_true rfl) zw_1_136, sm_get _ _⟩, ⟨_, ⟨sn_aload_n dX7_shop_45 rfl, sm_al _⟩, ⟨_, ⟨sn_get (C := RX7) (T := TX7) (N := 9) dX7_shop_46 rfl zinX7 (Nat.le_of_ble_eq_true rfl) zw_1_137, sm_get _ _⟩, ⟨_, ⟨sn_cv_v (N := 1) (T := TX2) ztb_X2_becomes dX7_shop_49 rfl rfl zw_2_40 zw_2_41 zw_2_42 zw_1_4 zw_2_43 zmh_X2 zpd_X2_becomes (Nat.le_of_ble_eq_true rfl) (Nat.le_of_ble_eq_true rfl) rfl rfl, sm_cv _ _ _ _ _ _ _⟩, ⟨_, ⟨sn_aload_n dX7_shop_52 rfl, sm_al _⟩, ⟨_, ⟨sn_get (C := RX7) (T := TX7) (N := 9) dX7_shop_53 rfl zinX7 (Nat.le_of_ble_eq_true rfl) zw_1_138, sm_get _ _⟩, ⟨_, ⟨sn_cv_v (N := 3) (T := TX0) ztb_X0_forget dX7_shop_56 rfl rfl zw_2_45 zw_2_46 zw_2_47 zw_1_5 zw_2_48 zmh_X0 zpd_X0_forget (Nat.le_of_ble_eq_true rfl) (Nat.le_of_ble_eq_true rfl) rfl rfl, sm_cv _ _ _ _ _ _ _⟩, ⟨_, ⟨sn_aload_n dX7_shop_59 rfl, sm_al _⟩, ⟨_, ⟨sn_get (C := RX7) (T := TX7) (N := 9) dX7_shop_60 rfl zinX7 (Nat.le_of_ble_eq_true rfl) zw_1_136, sm_get _ _⟩, ⟨_, ⟨sn_get (C := RX2) (T := TX2) (N := 1) dX7_shop_63 rfl zinX2 (Nat.le_of_ble_eq_true rfl) zw_1_80, sm_get _ _⟩, ⟨_, ⟨sn_bipush dX7_shop_66 (by decide +kernel), sm_const _⟩, ⟨_, ⟨sn_iald dX7_shop_68, sm_iald⟩, ⟨_, ⟨sn_ri (len := 1) dX7_shop_69 rfl, sm_ri⟩, trivial⟩⟩⟩⟩⟩⟩⟩⟩⟩⟩⟩⟩⟩⟩
theorem kX7_shop : ∀ pc, sx_BK sx_tb yX7_shop.cls cX7_shop 3 (some .int) ({ frames := 4, cells := 0, slots := 0, locals := 89 } : Room) false false 0 (fun _ => 0) pc (BX7_shop pc) := fun pc => sx_bk_if (kX7_shop_0) (sx_bk_if (kX7_shop_41) (trivial))
theorem okX7_shop : sx_ok sx_tb BX7_shop (yX7_shop, cX7_shop, 3, some .int, { frames := 4, cells := 0, slots := 0, locals := 89 }) := ⟨by decide, by decide +kernel, false, (fun h => by cases h), kX7_shop⟩
theorem dX7_fault_0 : decode cX7_fault 0 = .ok (.aload_n 0, 1) := by decide +kernel
theorem dX7_fault_1 : decode cX7_fault 1 = .ok (.getfield 62, 3) := by decide +kernel
theorem dX7_fault_4 : decode cX7_fault 4 = .ok (.ireturn, 1) := by decide +kernel
def bX7_fault_0 : List sx_S := [si_al 0, si_get 6 8, si_ri]
def BX7_fault : Nat → List sx_S := fun pc => if pc = 0 then bX7_fault_0 else []
set_option maxRecDepth 20000 in
theorem kX7_fault_0 : sx_BK sx_tb yX7_fault.cls cX7_fault 1 (some .int) ({ frames := 0, cells := 0, slots := 0, locals := 0 } : Room) false false 0 (fun _ => 0) 0 (bX7_fault_0) := ⟨_, ⟨sn_aload_n dX7_fault_0 rfl, sm_al _⟩, ⟨_, ⟨sn_get (C := RX7) (T := TX7) (N := 9) dX7_fault_1 rfl zinX7 (Nat.le_of_ble_eq_true rfl) zw_1_142, sm_get _ _⟩, ⟨_, ⟨sn_ri (len := 1) dX7_fault_4 rfl, sm_ri⟩, trivial⟩⟩⟩
theorem kX7_fault : ∀ pc, sx_BK sx_tb yX7_fault.cls cX7_fault 1 (some .int) ({ frames := 0, cells := 0, slots := 0, locals := 0 } : Room) false false 0 (fun _ => 0) pc (BX7_fault pc) := fun pc => sx_bk_if (kX7_fault_0) (trivial)
theorem okX7_fault : sx_ok sx_tb BX7_fault (yX7_fault, cX7_fault, 1, some .int, { frames := 0, cells := 0, slots := 0, locals := 0 }) := ⟨by decide, by decide +kernel, false, (fun h => by cases h), kX7_fault⟩
theorem dX7_undo_0 : decode cX7_undo 0 = .ok (.aload_n 0, 1) := by decide +kernel
theorem dX7_undo_1 : decode cX7_undo 1 = .ok (.getfield 36, 3) := by decide +kernel
theorem dX7_undo_4 : decode cX7_undo 4 = .ok (.getfield 114, 3) := by decide +kernel
theorem dX7_undo_7 : decode cX7_undo 7 = .ok (.ifCond .ne 6, 3) := by decide +kernel
theorem dX7_undo_10 : decode cX7_undo 10 = .ok (.ldc 117, 2) := by decide +kernel
theorem dX7_undo_12 : decode cX7_undo 12 = .ok (.ireturn, 1) := by decide +kernel
theorem dX7_undo_13 : decode cX7_undo 13 = .ok (.aload_n 0, 1) := by decide +kernel
theorem dX7_undo_14 : decode cX7_undo 14 = .ok (.getfield 36, 3) := by decide +kernel
theorem dX7_undo_17 : decode cX7_undo 17 = .ok (.aload_n 0, 1) := by decide +kernel
theorem dX7_undo_18 : decode cX7_undo 18 = .ok (.getfield 26, 3) := by decide +kernel
theorem dX7_undo_21 : decode cX7_undo 21 = .ok (.invokevirtual 118, 3) := by decide +kernel
theorem dX7_undo_24 : decode cX7_undo 24 = .ok (.ireturn, 1) := by decide +kernel
def bX7_undo_0 : List sx_S := [si_al 0, si_get 6 4, si_get 0 2, si_if1 (fun x => ¬ x = 0) 13 [true], si_const (-1000002), si_ri]
def bX7_undo_13 : List sx_S := [si_al 0, si_get 6 4, si_al 0, si_get 6 2, si_cv 0 3 1 0 0 0 0, si_ri]
def BX7_undo : Nat → List sx_S := fun pc => if pc = 0 then bX7_undo_0 else if pc = 13 then bX7_undo_13 else []
set_option maxRecDepth 20000 in
theorem kX7_undo_0 : sx_BK sx_tb yX7_undo.cls cX7_undo 1 (some .int) ({ frames := 2, cells := 0, slots := 0, locals := 47 } : Room) false false 0 (fun _ => 0) 0 (bX7_undo_0) := ⟨_, ⟨sn_aload_n dX7_undo_0 rfl, sm_al _⟩, ⟨_, ⟨sn_get (C := RX7) (T := TX7) (N := 9) dX7_undo_1 rfl zinX7 (Nat.le_of_ble_eq_true rfl) zw_1_138, sm_get _ _⟩, ⟨_, ⟨sn_get (C := RX0) (T := TX0) (N := 3) dX7_undo_4 rfl zinX0 (Nat.le_of_ble_eq_true rfl) zw_1_94, sm_get _ _⟩, ⟨_, ⟨sn_if_ne dX7_undo_7 (by decide +kernel) rfl, sm_if1 _ _ _⟩, ⟨_, ⟨sn_ldc dX7_undo_10 zw_2_57, sm_const _⟩, ⟨_, ⟨sn_ri (len := 1) dX7_undo_12 rfl, sm_ri⟩, trivial⟩⟩⟩⟩⟩⟩
set_option maxRecDepth 20000 in
theorem kX7_undo_13 : sx_BK sx_tb yX7_undo.cls cX7_undo 1 (some .int) ({ frames := 2, cells := 0, slots := 0, locals := 47 } : Room) false false 0 (fun _ => 0) 13 (bX7_undo_13) := ⟨_, ⟨sn_aload_n dX7_undo_13 rfl, sm_al _⟩, ⟨_, ⟨sn_get (C := RX7) (T := TX7) (N := 9) dX7_undo_14 rfl zinX7 (Nat.le_of_ble_eq_true rfl) zw_1_138, sm_get _ _⟩, ⟨_, ⟨sn_aload_n dX7_undo_17 rfl, sm_al _⟩, ⟨_, ⟨sn_get (C := RX7) (T := TX7) (N := 9) dX7_undo_18 rfl zinX7 (Nat.le_of_ble_eq_true rfl) zw_1_136, sm_get _ _⟩, ⟨_, ⟨sn_cv_i (N := 3) (T := TX0) ztb_X0_takeBack dX7_undo_21 rfl rfl zw_2_58 zw_2_59 zw_2_60 zw_1_5 zw_2_61 zmh_X0 zpd_X0_takeBack (Nat.le_of_ble_eq_true rfl) (Nat.le_of_ble_eq_true rfl) rfl rfl, sm_cv _ _ _ _ _ _ _⟩, ⟨_, ⟨sn_ri (len := 1) dX7_undo_24 rfl, sm_ri⟩, trivial⟩⟩⟩⟩⟩⟩
theorem kX7_undo : ∀ pc, sx_BK sx_tb yX7_undo.cls cX7_undo 1 (some .int) ({ frames := 2, cells := 0, slots := 0, locals := 47 } : Room) false false 0 (fun _ => 0) pc (BX7_undo pc) := fun pc => sx_bk_if (kX7_undo_0) (sx_bk_if (kX7_undo_13) (trivial))
theorem okX7_undo : sx_ok sx_tb BX7_undo (yX7_undo, cX7_undo, 1, some .int, { frames := 2, cells := 0, slots := 0, locals := 47 }) := ⟨by decide, by decide +kernel, false, (fun h => by cases h), kX7_undo⟩
theorem dX7_weeks_0 : decode cX7_weeks 0 = .ok (.aload_n 0, 1) := by decide +kernel
theorem dX7_weeks_1 : decode cX7_weeks 1 = .ok (.getfield 26, 3) := by decide +kernel
theorem dX7_weeks_4 : decode cX7_weeks 4 = .ok (.invokevirtual 121, 3) := by decide +kernel
theorem dX7_weeks_7 : decode cX7_weeks 7 = .ok (.ifCond .ne 6, 3) := by decide +kernel
theorem dX7_weeks_10 : decode cX7_weeks 10 = .ok (.ldc 117, 2) := by decide +kernel
theorem dX7_weeks_12 : decode cX7_weeks 12 = .ok (.ireturn, 1) := by decide +kernel
theorem dX7_weeks_13 : decode cX7_weeks 13 = .ok (.iload_n 1, 1) := by decide +kernel
theorem dX7_weeks_14 : decode cX7_weeks 14 = .ok (.iconst 1, 1) := by decide +kernel
theorem dX7_weeks_15 : decode cX7_weeks 15 = .ok (.bipush 24, 2) := by decide +kernel
theorem dX7_weeks_17 : decode cX7_weeks 17 = .ok (.invokestatic 70, 3) := by decide +kernel
theorem dX7_weeks_20 : decode cX7_weeks 20 = .ok (.ifCond .ne 6, 3) := by decide +kernel
theorem dX7_weeks_23 : decode cX7_weeks 23 = .ok (.ldc 74, 2) := by decide +kernel
theorem dX7_weeks_25 : decode cX7_weeks 25 = .ok (.ireturn, 1) := by decide +kernel
theorem dX7_weeks_26 : decode cX7_weeks 26 = .ok (.aload_n 0, 1) := by decide +kernel
theorem dX7_weeks_27 : decode cX7_weeks 27 = .ok (.getfield 26, 3) := by decide +kernel
theorem dX7_weeks_30 : decode cX7_weeks 30 = .ok (.getfield 110, 3) := by decide +kernel
theorem dX7_weeks_33 : decode cX7_weeks 33 = .ok (.bipush 61, 2) := by decide +kernel
theorem dX7_weeks_35 : decode cX7_weeks 35 = .ok (.iaload, 1) := by decide +kernel
theorem dX7_weeks_36 : decode cX7_weeks 36 = .ok (.iload_n 1, 1) := by decide +kernel
theorem dX7_weeks_37 : decode cX7_weeks 37 = .ok (.iadd, 1) := by decide +kernel
theorem dX7_weeks_38 : decode cX7_weeks 38 = .ok (.sipush 999, 3) := by decide +kernel
theorem dX7_weeks_41 : decode cX7_weeks 41 = .ok (.if_icmp .le 6, 3) := by decide +kernel
theorem dX7_weeks_44 : decode cX7_weeks 44 = .ok (.ldc 125, 2) := by decide +kernel
theorem dX7_weeks_46 : decode cX7_weeks 46 = .ok (.ireturn, 1) := by decide +kernel
theorem dX7_weeks_47 : decode cX7_weeks 47 = .ok (.iconst 0, 1) := by decide +kernel
theorem dX7_weeks_48 : decode cX7_weeks 48 = .ok (.istore_n 2, 1) := by decide +kernel
theorem dX7_weeks_49 : decode cX7_weeks 49 = .ok (.iload_n 2, 1) := by decide +kernel
theorem dX7_weeks_50 : decode cX7_weeks 50 = .ok (.iload_n 1, 1) := by decide +kernel
theorem dX7_weeks_51 : decode cX7_weeks 51 = .ok (.if_icmp .ge 28, 3) := by decide +kernel
theorem dX7_weeks_54 : decode cX7_weeks 54 = .ok (.aload_n 0, 1) := by decide +kernel
theorem dX7_weeks_55 : decode cX7_weeks 55 = .ok (.getfield 36, 3) := by decide +kernel
theorem dX7_weeks_58 : decode cX7_weeks 58 = .ok (.aload_n 0, 1) := by decide +kernel
theorem dX7_weeks_59 : decode cX7_weeks 59 = .ok (.getfield 26, 3) := by decide +kernel
theorem dX7_weeks_62 : decode cX7_weeks 62 = .ok (.invokevirtual 126, 3) := by decide +kernel
theorem dX7_weeks_65 : decode cX7_weeks 65 = .ok (.aload_n 0, 1) := by decide +kernel
theorem dX7_weeks_66 : decode cX7_weeks 66 = .ok (.getfield 26, 3) := by decide +kernel
theorem dX7_weeks_69 : decode cX7_weeks 69 = .ok (.invokevirtual 129, 3) := by decide +kernel
theorem dX7_weeks_72 : decode cX7_weeks 72 = .ok (.pop, 1) := by decide +kernel
theorem dX7_weeks_73 : decode cX7_weeks 73 = .ok (.iinc 2 1, 3) := by decide +kernel
theorem dX7_weeks_76 : decode cX7_weeks 76 = .ok (.goto (-27), 3) := by decide +kernel
theorem dX7_weeks_79 : decode cX7_weeks 79 = .ok (.aload_n 0, 1) := by decide +kernel
theorem dX7_weeks_80 : decode cX7_weeks 80 = .ok (.getfield 26, 3) := by decide +kernel
theorem dX7_weeks_83 : decode cX7_weeks 83 = .ok (.getfield 110, 3) := by decide +kernel
theorem dX7_weeks_86 : decode cX7_weeks 86 = .ok (.bipush 54, 2) := by decide +kernel
theorem dX7_weeks_88 : decode cX7_weeks 88 = .ok (.iaload, 1) := by decide +kernel
theorem dX7_weeks_89 : decode cX7_weeks 89 = .ok (.ireturn, 1) := by decide +kernel
def bX7_weeks_0 : List sx_S := [si_al 0, si_get 6 2, si_cv 2 23 0 0 0 0 0, si_if1 (fun x => ¬ x = 0) 13 [true, true, false], si_const (-1000002), si_ri]
def bX7_weeks_13 : List sx_S := [si_il 1, si_const 1, si_const (nI 24), si_cs 121 3 0 0 0 0, si_if1 (fun x => ¬ x = 0) 26 [true, true, false], si_const (-1000001), si_ri]
def bX7_weeks_26 : List sx_S := [si_al 0, si_get 6 2, si_get 2 0, si_const (nI 61), si_iald, si_il 1, si_bin (fun x y => x + y), si_const (nI 999), si_if2 (fun x y => x ≤ y) 47 [true, true, false], si_const (-1000003), si_ri]
def bX7_weeks_47 : List sx_S := [si_const 0, si_is 2, si_go 49 [true, true, true]]
def bX7_weeks_49 : List sx_S := [si_il 2, si_il 1, si_if2 (fun x y => y ≤ x) 79 [true, false, false], si_al 0, si_get 6 4, si_al 0, si_get 6 2, si_cv 0 2 1 0 0 0 0, si_al 0, si_get 6 2, si_cv 2 28 0 0 0 0 0, si_pop, si_inc 2 1, si_go 49 [true, true, true]]
def bX7_weeks_79 : List sx_S := [si_al 0, si_get 6 2, si_get 2 0, si_const (nI 54), si_iald, si_ri]
def BX7_weeks : Nat → List sx_S := fun pc => if pc = 0 then bX7_weeks_0 else if pc = 13 then bX7_weeks_13 else if pc = 26 then bX7_weeks_26 else if pc = 47 then bX7_weeks_47 else if pc = 49 then bX7_weeks_49 else if pc = 79 then bX7_weeks_79 else []
set_option maxRecDepth 20000 in
theorem kX7_weeks_0 : sx_BK sx_tb yX7_weeks.cls cX7_weeks 3 (some .int) ({ frames := 4, cells := 0, slots := 0, locals := 89 } : Room) false false 0 (fun _ => 0) 0 (bX7_weeks_0) := ⟨_, ⟨sn_aload_n dX7_weeks_0 rfl, sm_al _⟩, ⟨_, ⟨sn_get (C := RX7) (T := TX7) (N := 9) dX7_weeks_1 rfl zinX7 (Nat.le_of_ble_eq_true rfl) zw_1_136, sm_get _ _⟩, ⟨_, ⟨sn_cv_z (N := 1) (T := TX2) ztb_X2_isThere dX7_weeks_4 rfl rfl zw_2_67 zw_2_68 zw_2_69 zw_1_4 zw_2_70 zmh_X2 zpd_X2_isThere (Nat.le_of_ble_eq_true rfl) (Nat.le_of_ble_eq_true rfl) rfl rfl, sm_cv _ _ _ _ _ _ _⟩, ⟨_, ⟨sn_if_ne dX7_weeks_7 (by decide +kernel) rfl, sm_if1 _ _ _⟩, ⟨_, ⟨sn_ldc dX7_weeks_10 zw_2_57, sm_const _⟩, ⟨_, ⟨sn_ri (len := 1) dX7_weeks_12 rfl, sm_ri⟩, trivial⟩⟩⟩⟩⟩⟩
set_option maxRecDepth 20000 in
theorem kX7_weeks_13 : sx_BK sx_tb yX7_weeks.cls cX7_weeks 3 (some .int) ({ frames := 4, cells := 0, slots := 0, locals := 89 } : Room) false false 0 (fun _ => 0) 13 (bX7_weeks_13) := ⟨_, ⟨sn_iload_n dX7_weeks_13 rfl, sm_il _⟩, ⟨_, ⟨sn_iconst dX7_weeks_14 (by decide +kernel), sm_const _⟩, ⟨_, ⟨sn_bipush dX7_weeks_15 (by decide +kernel), sm_const _⟩, ⟨_, ⟨sn_cs_z ztb_X7_within dX7_weeks_17 zw_1_169 zw_1_170 zw_1_1 zw_1_171 zmh_X7 zpd_X7_within (Nat.le_of_ble_eq_true rfl) (Nat.le_of_ble_eq_true rfl) rfl rfl, sm_cs _ _ _ _ _ _⟩, ⟨_, ⟨sn_if_ne dX7_weeks_20 (by decide +kernel) rfl, sm_if1 _ _ _⟩, ⟨_, ⟨sn_ldc dX7_weeks_23 zw_1_172, sm_const _⟩, ⟨_, ⟨sn_ri (len := 1) dX7_weeks_25 rfl, sm_ri⟩, trivial⟩⟩⟩⟩⟩⟩⟩
set_option maxRecDepth 20000 in
theorem kX7_weeks_26 : sx_BK sx_tb yX7_weeks.cls cX7_weeks 3 (some .int) ({ frames := 4, cells := 0, slots := 0, locals := 89 } : Room) false false 0 (fun _ => 0) 26 (bX7_weeks_26) := ⟨_, ⟨sn_aload_n dX7_weeks_26 rfl, sm_al _⟩, ⟨_, ⟨sn_get (C := RX7) (T := TX7) (N := 9) dX7_weeks_27 rfl zinX7 (Nat.le_of_ble_eq_true rfl) zw_1_136, sm_get _ _⟩, ⟨_, ⟨sn_get (C := RX2) (T := TX2) (N := 1) dX7_weeks_30 rfl zinX2 (Nat.le_of_ble_eq_true rfl) zw_1_80, sm_get _ _⟩, ⟨_, ⟨sn_bipush dX7_weeks_33 (by decide +kernel), sm_const _⟩, ⟨_, ⟨sn_iald dX7_weeks_35, sm_iald⟩, ⟨_, ⟨sn_iload_n dX7_weeks_36 rfl, sm_il _⟩, ⟨_, ⟨sn_iadd dX7_weeks_37, sm_bin _⟩, ⟨_, ⟨sn_sipush dX7_weeks_38 (by decide +kernel), sm_const _⟩, ⟨_, ⟨sn_ic_le dX7_weeks_41 (by decide +kernel) rfl, sm_if2 _ _ _⟩, ⟨_, ⟨sn_ldc dX7_weeks_44 zw_2_71, sm_const _⟩, ⟨_, ⟨sn_ri (len := 1) dX7_weeks_46 rfl, sm_ri⟩, trivial⟩⟩⟩⟩⟩⟩⟩⟩⟩⟩⟩
set_option maxRecDepth 20000 in
theorem kX7_weeks_47 : sx_BK sx_tb yX7_weeks.cls cX7_weeks 3 (some .int) ({ frames := 4, cells := 0, slots := 0, locals := 89 } : Room) false false 0 (fun _ => 0) 47 (bX7_weeks_47) := ⟨_, ⟨sn_iconst dX7_weeks_47 (by decide +kernel), sm_const _⟩, ⟨_, ⟨sn_istore_n dX7_weeks_48 rfl (Nat.le_of_ble_eq_true rfl), sm_is _⟩, ⟨_, ⟨sn_fall (len := 0) rfl rfl, sm_go _ _⟩, trivial⟩⟩⟩
set_option maxRecDepth 20000 in
theorem kX7_weeks_49 : sx_BK sx_tb yX7_weeks.cls cX7_weeks 3 (some .int) ({ frames := 4, cells := 0, slots := 0, locals := 89 } : Room) false false 0 (fun _ => 0) 49 (bX7_weeks_49) := ⟨_, ⟨sn_iload_n dX7_weeks_49 rfl, sm_il _⟩, ⟨_, ⟨sn_iload_n dX7_weeks_50 rfl, sm_il _⟩, ⟨_, ⟨sn_ic_ge dX7_weeks_51 (by decide +kernel) rfl, sm_if2 _ _ _⟩, ⟨_, ⟨sn_aload_n dX7_weeks_54 rfl, sm_al _⟩, ⟨_, ⟨sn_get (C := RX7) (T := TX7) (N := 9) dX7_weeks_55 rfl zinX7 (Nat.le_of_ble_eq_true rfl) zw_1_138, sm_get _ _⟩, ⟨_, ⟨sn_aload_n dX7_weeks_58 rfl, sm_al _⟩, ⟨_, ⟨sn_get (C := RX7) (T := TX7) (N := 9) dX7_weeks_59 rfl zinX7 (Nat.le_of_ble_eq_true rfl) zw_1_136, sm_get _ _⟩, ⟨_, ⟨sn_cv_v (N := 3) (T := TX0) ztb_X0_keep dX7_weeks_62 rfl rfl zw_2_72 zw_2_73 zw_2_74 zw_1_5 zw_2_75 zmh_X0 zpd_X0_keep (Nat.le_of_ble_eq_true rfl) (Nat.le_of_ble_eq_true rfl) rfl rfl, sm_cv _ _ _ _ _ _ _⟩, ⟨_, ⟨sn_aload_n dX7_weeks_65 rfl, sm_al _⟩, ⟨_, ⟨sn_get (C := RX7) (T := TX7) (N := 9) dX7_weeks_66 rfl zinX7 (Nat.le_of_ble_eq_true rfl) zw_1_136, sm_get _ _⟩, ⟨_, ⟨sn_cv_i (N := 1) (T := TX2) ztb_X2_passWeek dX7_weeks_69 rfl rfl zw_2_79 zw_2_80 zw_2_81 zw_1_4 zw_2_82 zmh_X2 zpd_X2_passWeek (Nat.le_of_ble_eq_true rfl) (Nat.le_of_ble_eq_true rfl) rfl rfl, sm_cv _ _ _ _ _ _ _⟩, ⟨_, ⟨sn_pop dX7_weeks_72, sm_pop⟩, ⟨_, ⟨sn_iinc dX7_weeks_73 (by decide +kernel) (Nat.le_of_ble_eq_true rfl), sm_inc _ _⟩, ⟨_, ⟨sn_goto (len := 3) dX7_weeks_76 (by decide +kernel) rfl, sm_go _ _⟩, trivial⟩⟩⟩⟩⟩⟩⟩⟩⟩⟩⟩⟩⟩⟩
set_option maxRecDepth 20000 in
theorem kX7_weeks_79 : sx_BK sx_tb yX7_weeks.cls cX7_weeks 3 (some .int) ({ frames := 4, cells := 0, slots := 0, locals := 89 } : Room) false false 0 (fun _ => 0) 79 (bX7_weeks_79) := ⟨_, ⟨sn_aload_n dX7_weeks_79 rfl, sm_al _⟩, ⟨_, ⟨sn_get (C := RX7) (T := TX7) (N := 9) dX7_weeks_80 rfl zinX7 (Nat.le_of_ble_eq_true rfl) zw_1_136, sm_get _ _⟩, ⟨_, ⟨sn_get (C := RX2) (T := TX2) (N := 1) dX7_weeks_83 rfl zinX2 (Nat.le_of_ble_eq_true rfl) zw_1_80, sm_get _ _⟩, ⟨_, ⟨sn_bipush dX7_weeks_86 (by decide +kernel), sm_const _⟩, ⟨_, ⟨sn_iald dX7_weeks_88, sm_iald⟩, ⟨_, ⟨sn_ri (len := 1) dX7_weeks_89 rfl, sm_ri⟩, trivial⟩⟩⟩⟩⟩⟩
theorem kX7_weeks : ∀ pc, sx_BK sx_tb yX7_weeks.cls cX7_weeks 3 (some .int) ({ frames := 4, cells := 0, slots := 0, locals := 89 } : Room) false false 0 (fun _ => 0) pc (BX7_weeks pc) := fun pc => sx_bk_if (kX7_weeks_0) (sx_bk_if (kX7_weeks_13) (sx_bk_if (kX7_weeks_26) (sx_bk_if (kX7_weeks_47) (sx_bk_if (kX7_weeks_49) (sx_bk_if (kX7_weeks_79) (trivial))))))
theorem okX7_weeks : sx_ok sx_tb BX7_weeks (yX7_weeks, cX7_weeks, 3, some .int, { frames := 4, cells := 0, slots := 0, locals := 89 }) := ⟨by decide, by decide +kernel, false, (fun h => by cases h), kX7_weeks⟩
theorem dX7_stop_0 : decode cX7_stop 0 = .ok (.aload_n 0, 1) := by decide +kernel
theorem dX7_stop_1 : decode cX7_stop 1 = .ok (.getfield 26, 3) := by decide +kernel
theorem dX7_stop_4 : decode cX7_stop 4 = .ok (.iload_n 1, 1) := by decide +kernel
theorem dX7_stop_5 : decode cX7_stop 5 = .ok (.invokevirtual 133, 3) := by decide +kernel
theorem dX7_stop_8 : decode cX7_stop 8 = .ok (.ifCond .eq 13, 3) := by decide +kernel
theorem dX7_stop_11 : decode cX7_stop 11 = .ok (.iload_n 2, 1) := by decide +kernel
theorem dX7_stop_12 : decode cX7_stop 12 = .ok (.iconst 0, 1) := by decide +kernel
theorem dX7_stop_13 : decode cX7_stop 13 = .ok (.bipush 99, 2) := by decide +kernel
theorem dX7_stop_15 : decode cX7_stop 15 = .ok (.invokestatic 70, 3) := by decide +kernel
theorem dX7_stop_18 : decode cX7_stop 18 = .ok (.ifCond .ne 6, 3) := by decide +kernel
theorem dX7_stop_21 : decode cX7_stop 21 = .ok (.ldc 74, 2) := by decide +kernel
theorem dX7_stop_23 : decode cX7_stop 23 = .ok (.ireturn, 1) := by decide +kernel
theorem dX7_stop_24 : decode cX7_stop 24 = .ok (.aload_n 0, 1) := by decide +kernel
theorem dX7_stop_25 : decode cX7_stop 25 = .ok (.bipush 18, 2) := by decide +kernel
theorem dX7_stop_27 : decode cX7_stop 27 = .ok (.iload_n 1, 1) := by decide +kernel
theorem dX7_stop_28 : decode cX7_stop 28 = .ok (.iadd, 1) := by decide +kernel
theorem dX7_stop_29 : decode cX7_stop 29 = .ok (.iload_n 2, 1) := by decide +kernel
theorem dX7_stop_30 : decode cX7_stop 30 = .ok (.invokevirtual 136, 3) := by decide +kernel
theorem dX7_stop_33 : decode cX7_stop 33 = .ok (.ireturn, 1) := by decide +kernel
def bX7_stop_0 : List sx_S := [si_al 0, si_get 6 2, si_il 1, si_cv 2 24 1 0 0 0 0, si_if1 (fun x => x = 0) 21 [false, false, false], si_il 2, si_const 0, si_const (nI 99), si_cs 121 3 0 0 0 0, si_if1 (fun x => ¬ x = 0) 24 [true, true, true], si_go 21 [false, false, false]]
def bX7_stop_21 : List sx_S := [si_const (-1000001), si_ri]
def bX7_stop_24 : List sx_S := [si_al 0, si_const (nI 18), si_il 1, si_bin (fun x y => x + y), si_il 2, si_cv 6 122 2 0 0 0 0, si_ri]
def BX7_stop : Nat → List sx_S := fun pc => if pc = 0 then bX7_stop_0 else if pc = 21 then bX7_stop_21 else if pc = 24 then bX7_stop_24 else []
set_option maxRecDepth 20000 in
theorem kX7_stop_0 : sx_BK sx_tb yX7_stop.cls cX7_stop 3 (some .int) ({ frames := 3, cells := 0, slots := 0, locals := 70 } : Room) false false 0 (fun _ => 0) 0 (bX7_stop_0) := ⟨_, ⟨sn_aload_n dX7_stop_0 rfl, sm_al _⟩, ⟨_, ⟨sn_get (C := RX7) (T := TX7) (N := 9) dX7_stop_1 rfl zinX7 (Nat.le_of_ble_eq_true rfl) zw_1_136, sm_get _ _⟩, ⟨_, ⟨sn_iload_n dX7_stop_4 rfl, sm_il _⟩, ⟨_, ⟨sn_cv_z (N := 1) (T := TX2) ztb_X2_has dX7_stop_5 rfl rfl zw_2_123 zw_2_92 zw_2_93 zw_1_4 zw_2_94 zmh_X2 zpd_X2_has (Nat.le_of_ble_eq_true rfl) (Nat.le_of_ble_eq_true rfl) rfl rfl, sm_cv _ _ _ _ _ _ _⟩, ⟨_, ⟨sn_if_eq dX7_stop_8 (by decide +kernel) rfl, sm_if1 _ _ _⟩, ⟨_, ⟨sn_iload_n dX7_stop_11 rfl, sm_il _⟩, ⟨_, ⟨sn_iconst dX7_stop_12 (by decide +kernel), sm_const _⟩, ⟨_, ⟨sn_bipush dX7_stop_13 (by decide +kernel), sm_const _⟩, ⟨_, ⟨sn_cs_z ztb_X7_within dX7_stop_15 zw_1_169 zw_1_170 zw_1_1 zw_1_171 zmh_X7 zpd_X7_within (Nat.le_of_ble_eq_true rfl) (Nat.le_of_ble_eq_true rfl) rfl rfl, sm_cs _ _ _ _ _ _⟩, ⟨_, ⟨sn_if_ne dX7_stop_18 (by decide +kernel) rfl, sm_if1 _ _ _⟩, ⟨_, ⟨sn_fall (len := 0) rfl rfl, sm_go _ _⟩, trivial⟩⟩⟩⟩⟩⟩⟩⟩⟩⟩⟩
set_option maxRecDepth 20000 in
theorem kX7_stop_21 : sx_BK sx_tb yX7_stop.cls cX7_stop 3 (some .int) ({ frames := 3, cells := 0, slots := 0, locals := 70 } : Room) false false 0 (fun _ => 0) 21 (bX7_stop_21) := ⟨_, ⟨sn_ldc dX7_stop_21 zw_1_172, sm_const _⟩, ⟨_, ⟨sn_ri (len := 1) dX7_stop_23 rfl, sm_ri⟩, trivial⟩⟩
set_option maxRecDepth 20000 in
theorem kX7_stop_24 : sx_BK sx_tb yX7_stop.cls cX7_stop 3 (some .int) ({ frames := 3, cells := 0, slots := 0, locals := 70 } : Room) false false 0 (fun _ => 0) 24 (bX7_stop_24) := ⟨_, ⟨sn_aload_n dX7_stop_24 rfl, sm_al _⟩, ⟨_, ⟨sn_bipush dX7_stop_25 (by decide +kernel), sm_const _⟩, ⟨_, ⟨sn_iload_n dX7_stop_27 rfl, sm_il _⟩, ⟨_, ⟨sn_iadd dX7_stop_28, sm_bin _⟩, ⟨_, ⟨sn_iload_n dX7_stop_29 rfl, sm_il _⟩, ⟨_, ⟨sn_cv_i (N := 9) (T := TX7) ztb_X7_change dX7_stop_30 rfl rfl zw_2_124 zw_2_126 zw_0_14 zw_1_1 zw_2_127 zmh_X7 zpd_X7_change (Nat.le_of_ble_eq_true rfl) (Nat.le_of_ble_eq_true rfl) rfl rfl, sm_cv _ _ _ _ _ _ _⟩, ⟨_, ⟨sn_ri (len := 1) dX7_stop_33 rfl, sm_ri⟩, trivial⟩⟩⟩⟩⟩⟩⟩
theorem kX7_stop : ∀ pc, sx_BK sx_tb yX7_stop.cls cX7_stop 3 (some .int) ({ frames := 3, cells := 0, slots := 0, locals := 70 } : Room) false false 0 (fun _ => 0) pc (BX7_stop pc) := fun pc => sx_bk_if (kX7_stop_0) (sx_bk_if (kX7_stop_21) (sx_bk_if (kX7_stop_24) (trivial)))
theorem okX7_stop : sx_ok sx_tb BX7_stop (yX7_stop, cX7_stop, 3, some .int, { frames := 3, cells := 0, slots := 0, locals := 70 }) := ⟨by decide, by decide +kernel, false, (fun h => by cases h), kX7_stop⟩
theorem dX7_strike_0 : decode cX7_strike 0 = .ok (.aload_n 0, 1) := by decide +kernel
theorem dX7_strike_1 : decode cX7_strike 1 = .ok (.getfield 26, 3) := by decide +kernel
theorem dX7_strike_4 : decode cX7_strike 4 = .ok (.invokevirtual 121, 3) := by decide +kernel
theorem dX7_strike_7 : decode cX7_strike 7 = .ok (.ifCond .ne 6, 3) := by decide +kernel
theorem dX7_strike_10 : decode cX7_strike 10 = .ok (.ldc 117, 2) := by decide +kernel
theorem dX7_strike_12 : decode cX7_strike 12 = .ok (.ireturn, 1) := by decide +kernel
theorem dX7_strike_13 : decode cX7_strike 13 = .ok (.iload_n 1, 1) := by decide +kernel
theorem dX7_strike_14 : decode cX7_strike 14 = .ok (.iconst 0, 1) := by decide +kernel
theorem dX7_strike_15 : decode cX7_strike 15 = .ok (.bipush 20, 2) := by decide +kernel
theorem dX7_strike_17 : decode cX7_strike 17 = .ok (.invokestatic 70, 3) := by decide +kernel
theorem dX7_strike_20 : decode cX7_strike 20 = .ok (.ifCond .ne 6, 3) := by decide +kernel
theorem dX7_strike_23 : decode cX7_strike 23 = .ok (.ldc 74, 2) := by decide +kernel
theorem dX7_strike_25 : decode cX7_strike 25 = .ok (.ireturn, 1) := by decide +kernel
theorem dX7_strike_26 : decode cX7_strike 26 = .ok (.aload_n 0, 1) := by decide +kernel
theorem dX7_strike_27 : decode cX7_strike 27 = .ok (.bipush 56, 2) := by decide +kernel
theorem dX7_strike_29 : decode cX7_strike 29 = .ok (.iload_n 1, 1) := by decide +kernel
theorem dX7_strike_30 : decode cX7_strike 30 = .ok (.invokevirtual 136, 3) := by decide +kernel
theorem dX7_strike_33 : decode cX7_strike 33 = .ok (.ireturn, 1) := by decide +kernel
def bX7_strike_0 : List sx_S := [si_al 0, si_get 6 2, si_cv 2 23 0 0 0 0 0, si_if1 (fun x => ¬ x = 0) 13 [true, true], si_const (-1000002), si_ri]
def bX7_strike_13 : List sx_S := [si_il 1, si_const 0, si_const (nI 20), si_cs 121 3 0 0 0 0, si_if1 (fun x => ¬ x = 0) 26 [true, true], si_const (-1000001), si_ri]
def bX7_strike_26 : List sx_S := [si_al 0, si_const (nI 56), si_il 1, si_cv 6 122 2 0 0 0 0, si_ri]
def BX7_strike : Nat → List sx_S := fun pc => if pc = 0 then bX7_strike_0 else if pc = 13 then bX7_strike_13 else if pc = 26 then bX7_strike_26 else []
set_option maxRecDepth 20000 in
theorem kX7_strike_0 : sx_BK sx_tb yX7_strike.cls cX7_strike 2 (some .int) ({ frames := 3, cells := 0, slots := 0, locals := 70 } : Room) false false 0 (fun _ => 0) 0 (bX7_strike_0) := ⟨_, ⟨sn_aload_n dX7_strike_0 rfl, sm_al _⟩, ⟨_, ⟨sn_get (C := RX7) (T := TX7) (N := 9) dX7_strike_1 rfl zinX7 (Nat.le_of_ble_eq_true rfl) zw_1_136, sm_get _ _⟩, ⟨_, ⟨sn_cv_z (N := 1) (T := TX2) ztb_X2_isThere dX7_strike_4 rfl rfl zw_2_67 zw_2_68 zw_2_69 zw_1_4 zw_2_70 zmh_X2 zpd_X2_isThere (Nat.le_of_ble_eq_true rfl) (Nat.le_of_ble_eq_true rfl) rfl rfl, sm_cv _ _ _ _ _ _ _⟩, ⟨_, ⟨sn_if_ne dX7_strike_7 (by decide +kernel) rfl, sm_if1 _ _ _⟩, ⟨_, ⟨sn_ldc dX7_strike_10 zw_2_57, sm_const _⟩, ⟨_, ⟨sn_ri (len := 1) dX7_strike_12 rfl, sm_ri⟩, trivial⟩⟩⟩⟩⟩⟩
set_option maxRecDepth 20000 in
theorem kX7_strike_13 : sx_BK sx_tb yX7_strike.cls cX7_strike 2 (some .int) ({ frames := 3, cells := 0, slots := 0, locals := 70 } : Room) false false 0 (fun _ => 0) 13 (bX7_strike_13) := ⟨_, ⟨sn_iload_n dX7_strike_13 rfl, sm_il _⟩, ⟨_, ⟨sn_iconst dX7_strike_14 (by decide +kernel), sm_const _⟩, ⟨_, ⟨sn_bipush dX7_strike_15 (by decide +kernel), sm_const _⟩, ⟨_, ⟨sn_cs_z ztb_X7_within dX7_strike_17 zw_1_169 zw_1_170 zw_1_1 zw_1_171 zmh_X7 zpd_X7_within (Nat.le_of_ble_eq_true rfl) (Nat.le_of_ble_eq_true rfl) rfl rfl, sm_cs _ _ _ _ _ _⟩, ⟨_, ⟨sn_if_ne dX7_strike_20 (by decide +kernel) rfl, sm_if1 _ _ _⟩, ⟨_, ⟨sn_ldc dX7_strike_23 zw_1_172, sm_const _⟩, ⟨_, ⟨sn_ri (len := 1) dX7_strike_25 rfl, sm_ri⟩, trivial⟩⟩⟩⟩⟩⟩⟩
set_option maxRecDepth 20000 in
theorem kX7_strike_26 : sx_BK sx_tb yX7_strike.cls cX7_strike 2 (some .int) ({ frames := 3, cells := 0, slots := 0, locals := 70 } : Room) false false 0 (fun _ => 0) 26 (bX7_strike_26) := ⟨_, ⟨sn_aload_n dX7_strike_26 rfl, sm_al _⟩, ⟨_, ⟨sn_bipush dX7_strike_27 (by decide +kernel), sm_const _⟩, ⟨_, ⟨sn_iload_n dX7_strike_29 rfl, sm_il _⟩, ⟨_, ⟨sn_cv_i (N := 9) (T := TX7) ztb_X7_change dX7_strike_30 rfl rfl zw_2_124 zw_2_126 zw_0_14 zw_1_1 zw_2_127 zmh_X7 zpd_X7_change (Nat.le_of_ble_eq_true rfl) (Nat.le_of_ble_eq_true rfl) rfl rfl, sm_cv _ _ _ _ _ _ _⟩, ⟨_, ⟨sn_ri (len := 1) dX7_strike_33 rfl, sm_ri⟩, trivial⟩⟩⟩⟩⟩
theorem kX7_strike : ∀ pc, sx_BK sx_tb yX7_strike.cls cX7_strike 2 (some .int) ({ frames := 3, cells := 0, slots := 0, locals := 70 } : Room) false false 0 (fun _ => 0) pc (BX7_strike pc) := fun pc => sx_bk_if (kX7_strike_0) (sx_bk_if (kX7_strike_13) (sx_bk_if (kX7_strike_26) (trivial)))
theorem okX7_strike : sx_ok sx_tb BX7_strike (yX7_strike, cX7_strike, 2, some .int, { frames := 3, cells := 0, slots := 0, locals := 70 }) := ⟨by decide, by decide +kernel, false, (fun h => by cases h), kX7_strike⟩
theorem dX7_cross_0 : decode cX7_cross 0 = .ok (.aload_n 0, 1) := by decide +kernel
theorem dX7_cross_1 : decode cX7_cross 1 = .ok (.getfield 26, 3) := by decide +kernel
theorem dX7_cross_4 : decode cX7_cross 4 = .ok (.iload_n 1, 1) := by decide +kernel
theorem dX7_cross_5 : decode cX7_cross 5 = .ok (.invokevirtual 133, 3) := by decide +kernel
theorem dX7_cross_8 : decode cX7_cross 8 = .ok (.ifCond .eq 12, 3) := by decide +kernel
theorem dX7_cross_11 : decode cX7_cross 11 = .ok (.iload_n 2, 1) := by decide +kernel
theorem dX7_cross_12 : decode cX7_cross 12 = .ok (.iconst 0, 1) := by decide +kernel
theorem dX7_cross_13 : decode cX7_cross 13 = .ok (.iconst 1, 1) := by decide +kernel
theorem dX7_cross_14 : decode cX7_cross 14 = .ok (.invokestatic 70, 3) := by decide +kernel
theorem dX7_cross_17 : decode cX7_cross 17 = .ok (.ifCond .ne 6, 3) := by decide +kernel
theorem dX7_cross_20 : decode cX7_cross 20 = .ok (.ldc 74, 2) := by decide +kernel
theorem dX7_cross_22 : decode cX7_cross 22 = .ok (.ireturn, 1) := by decide +kernel
theorem dX7_cross_23 : decode cX7_cross 23 = .ok (.aload_n 0, 1) := by decide +kernel
theorem dX7_cross_24 : decode cX7_cross 24 = .ok (.getfield 26, 3) := by decide +kernel
theorem dX7_cross_27 : decode cX7_cross 27 = .ok (.getfield 110, 3) := by decide +kernel
theorem dX7_cross_30 : decode cX7_cross 30 = .ok (.bipush 30, 2) := by decide +kernel
theorem dX7_cross_32 : decode cX7_cross 32 = .ok (.iload_n 1, 1) := by decide +kernel
theorem dX7_cross_33 : decode cX7_cross 33 = .ok (.iadd, 1) := by decide +kernel
theorem dX7_cross_34 : decode cX7_cross 34 = .ok (.iaload, 1) := by decide +kernel
theorem dX7_cross_35 : decode cX7_cross 35 = .ok (.iload_n 2, 1) := by decide +kernel
theorem dX7_cross_36 : decode cX7_cross 36 = .ok (.if_icmp .ne 6, 3) := by decide +kernel
theorem dX7_cross_39 : decode cX7_cross 39 = .ok (.ldc 117, 2) := by decide +kernel
theorem dX7_cross_41 : decode cX7_cross 41 = .ok (.ireturn, 1) := by decide +kernel
theorem dX7_cross_42 : decode cX7_cross 42 = .ok (.aload_n 0, 1) := by decide +kernel
theorem dX7_cross_43 : decode cX7_cross 43 = .ok (.bipush 30, 2) := by decide +kernel
theorem dX7_cross_45 : decode cX7_cross 45 = .ok (.iload_n 1, 1) := by decide +kernel
theorem dX7_cross_46 : decode cX7_cross 46 = .ok (.iadd, 1) := by decide +kernel
theorem dX7_cross_47 : decode cX7_cross 47 = .ok (.iload_n 2, 1) := by decide +kernel
theorem dX7_cross_48 : decode cX7_cross 48 = .ok (.invokevirtual 136, 3) := by decide +kernel
theorem dX7_cross_51 : decode cX7_cross 51 = .ok (.pop, 1) := by decide +kernel
theorem dX7_cross_52 : decode cX7_cross 52 = .ok (.iload_n 2, 1) := by decide +kernel
theorem dX7_cross_53 : decode cX7_cross 53 = .ok (.ifCond .ne 15, 3) := by decide +kernel
theorem dX7_cross_56 : decode cX7_cross 56 = .ok (.aload_n 0, 1) := by decide +kernel
theorem dX7_cross_57 : decode cX7_cross 57 = .ok (.getfield 26, 3) := by decide +kernel
theorem dX7_cross_60 : decode cX7_cross 60 = .ok (.getfield 110, 3) := by decide +kernel
theorem dX7_cross_63 : decode cX7_cross 63 = .ok (.iconst 0, 1) := by decide +kernel
theorem dX7_cross_64 : decode cX7_cross 64 = .ok (.iload_n 1, 1) := by decide +kernel
theorem dX7_cross_65 : decode cX7_cross 65 = .ok (.iadd, 1) := by decide +kernel
theorem dX7_cross_66 : decode cX7_cross 66 = .ok (.iconst 0, 1) := by decide +kernel
theorem dX7_cross_67 : decode cX7_cross 67 = .ok (.iastore, 1) := by decide +kernel
theorem dX7_cross_68 : decode cX7_cross 68 = .ok (.aload_n 0, 1) := by decide +kernel
theorem dX7_cross_69 : decode cX7_cross 69 = .ok (.getfield 26, 3) := by decide +kernel
theorem dX7_cross_72 : decode cX7_cross 72 = .ok (.invokevirtual 140, 3) := by decide +kernel
theorem dX7_cross_75 : decode cX7_cross 75 = .ok (.ireturn, 1) := by decide +kernel
def bX7_cross_0 : List sx_S := [si_al 0, si_get 6 2, si_il 1, si_cv 2 24 1 0 0 0 0, si_if1 (fun x => x = 0) 20 [false, false, false], si_il 2, si_const 0, si_const 1, si_cs 121 3 0 0 0 0, si_if1 (fun x => ¬ x = 0) 23 [true, true, true], si_go 20 [false, false, false]]
def bX7_cross_20 : List sx_S := [si_const (-1000001), si_ri]
def bX7_cross_23 : List sx_S := [si_al 0, si_get 6 2, si_get 2 0, si_const (nI 30), si_il 1, si_bin (fun x y => x + y), si_iald, si_il 2, si_if2 (fun x y => ¬ x = y) 42 [true, true, true], si_const (-1000002), si_ri]
def bX7_cross_42 : List sx_S := [si_al 0, si_const (nI 30), si_il 1, si_bin (fun x y => x + y), si_il 2, si_cv 6 122 2 0 0 0 0, si_pop, si_il 2, si_if1 (fun x => ¬ x = 0) 68 [true, false, false], si_al 0, si_get 6 2, si_get 2 0, si_const 0, si_il 1, si_bin (fun x y => x + y), si_const 0, si_iast, si_go 68 [true, false, false]]
def bX7_cross_68 : List sx_S := [si_al 0, si_get 6 2, si_cv 2 37 0 0 0 0 0, si_ri]
def BX7_cross : Nat → List sx_S := fun pc => if pc = 0 then bX7_cross_0 else if pc = 20 then bX7_cross_20 else if pc = 23 then bX7_cross_23 else if pc = 42 then bX7_cross_42 else if pc = 68 then bX7_cross_68 else []
set_option maxRecDepth 20000 in
theorem kX7_cross_0 : sx_BK sx_tb yX7_cross.cls cX7_cross 3 (some .int) ({ frames := 3, cells := 0, slots := 0, locals := 70 } : Room) false false 0 (fun _ => 0) 0 (bX7_cross_0) := ⟨_, ⟨sn_aload_n dX7_cross_0 rfl, sm_al _⟩, ⟨_, ⟨sn_get (C := RX7) (T := TX7) (N := 9) dX7_cross_1 rfl zinX7 (Nat.le_of_ble_eq_true rfl) zw_1_136, sm_get _ _⟩, ⟨_, ⟨sn_iload_n dX7_cross_4 rfl, sm_il _⟩, ⟨_, ⟨sn_cv_z (N := 1) (T := TX2) ztb_X2_has dX7_cross_5 rfl rfl zw_2_123 zw_2_92 zw_2_93 zw_1_4 zw_2_94 zmh_X2 zpd_X2_has (Nat.le_of_ble_eq_true rfl) (Nat.le_of_ble_eq_true rfl) rfl rfl, sm_cv _ _ _ _ _ _ _⟩, ⟨_, ⟨sn_if_eq dX7_cross_8 (by decide +kernel) rfl, sm_if1 _ _ _⟩, ⟨_, ⟨sn_iload_n dX7_cross_11 rfl, sm_il _⟩, ⟨_, ⟨sn_iconst dX7_cross_12 (by decide +kernel), sm_const _⟩, ⟨_, ⟨sn_iconst dX7_cross_13 (by decide +kernel), sm_const _⟩, ⟨_, ⟨sn_cs_z ztb_X7_within dX7_cross_14 zw_1_169 zw_1_170 zw_1_1 zw_1_171 zmh_X7 zpd_X7_within (Nat.le_of_ble_eq_true rfl) (Nat.le_of_ble_eq_true rfl) rfl rfl, sm_cs _ _ _ _ _ _⟩, ⟨_, ⟨sn_if_ne dX7_cross_17 (by decide +kernel) rfl, sm_if1 _ _ _⟩, ⟨_, ⟨sn_fall (len := 0) rfl rfl, sm_go _ _⟩, trivial⟩⟩⟩⟩⟩⟩⟩⟩⟩⟩⟩
set_option maxRecDepth 20000 in
theorem kX7_cross_20 : sx_BK sx_tb yX7_cross.cls cX7_cross 3 (some .int) ({ frames := 3, cells := 0, slots := 0, locals := 70 } : Room) false false 0 (fun _ => 0) 20 (bX7_cross_20) := ⟨_, ⟨sn_ldc dX7_cross_20 zw_1_172, sm_const _⟩, ⟨_, ⟨sn_ri (len := 1) dX7_cross_22 rfl, sm_ri⟩, trivial⟩⟩
set_option maxRecDepth 20000 in
theorem kX7_cross_23 : sx_BK sx_tb yX7_cross.cls cX7_cross 3 (some .int) ({ frames := 3, cells := 0, slots := 0, locals := 70 } : Room) false false 0 (fun _ => 0) 23 (bX7_cross_23) := ⟨_, ⟨sn_aload_n dX7_cross_23 rfl, sm_al _⟩, ⟨_, ⟨sn_get (C := RX7) (T := TX7) (N := 9) dX7_cross_24 rfl zinX7 (Nat.le_of_ble_eq_true rfl) zw_1_136, sm_get _ _⟩, ⟨_, ⟨sn_get (C := RX2) (T := TX2) (N := 1) dX7_cross_27 rfl zinX2 (Nat.le_of_ble_eq_true rfl) zw_1_80, sm_get _ _⟩, ⟨_, ⟨sn_bipush dX7_cross_30 (by decide +kernel), sm_const _⟩, ⟨_, ⟨sn_iload_n dX7_cross_32 rfl, sm_il _⟩, ⟨_, ⟨sn_iadd dX7_cross_33, sm_bin _⟩, ⟨_, ⟨sn_iald dX7_cross_34, sm_iald⟩, ⟨_, ⟨sn_iload_n dX7_cross_35 rfl, sm_il _⟩, ⟨_, ⟨sn_ic_ne dX7_cross_36 (by decide +kernel) rfl, sm_if2 _ _ _⟩, ⟨_, ⟨sn_ldc dX7_cross_39 zw_2_57, sm_const _⟩, ⟨_, ⟨sn_ri (len := 1) dX7_cross_41 rfl, sm_ri⟩, trivial⟩⟩⟩⟩⟩⟩⟩⟩⟩⟩⟩
set_option maxRecDepth 20000 in
theorem kX7_cross_42 : sx_BK sx_tb yX7_cross.cls cX7_cross 3 (some .int) ({ frames := 3, cells := 0, slots := 0, locals := 70 } : Room) false false 0 (fun _ => 0) 42 (bX7_cross_42) := ⟨_, ⟨sn_aload_n dX7_cross_42 rfl, sm_al _⟩, ⟨_, ⟨sn_bipush dX7_cross_43 (by decide +kernel), sm_const _⟩, ⟨_, ⟨sn_iload_n dX7_cross_45 rfl, sm_il _⟩, ⟨_, ⟨sn_iadd dX7_cross_46, sm_bin _⟩, ⟨_, ⟨sn_iload_n dX7_cross_47 rfl, sm_il _⟩, ⟨_, ⟨sn_cv_i (N := 9) (T := TX7) ztb_X7_change dX7_cross_48 rfl rfl zw_2_124 zw_2_126 zw_0_14 zw_1_1 zw_2_127 zmh_X7 zpd_X7_change (Nat.le_of_ble_eq_true rfl) (Nat.le_of_ble_eq_true rfl) rfl rfl, sm_cv _ _ _ _ _ _ _⟩, ⟨_, ⟨sn_pop dX7_cross_51, sm_pop⟩, ⟨_, ⟨sn_iload_n dX7_cross_52 rfl, sm_il _⟩, ⟨_, ⟨sn_if_ne dX7_cross_53 (by decide +kernel) rfl, sm_if1 _ _ _⟩, ⟨_, ⟨sn_aload_n dX7_cross_56 rfl, sm_al _⟩, ⟨_, ⟨sn_get (C := RX7) (T := TX7) (N := 9) dX7_cross_57 rfl zinX7 (Nat.le_of_ble_eq_true rfl) zw_1_136, sm_get _ _⟩, ⟨_, ⟨sn_get (C := RX2) (T := TX2) (N := 1) dX7_cross_60 rfl zinX2 (Nat.le_of_ble_eq_true rfl) zw_1_80, sm_get _ _⟩, ⟨_, ⟨sn_iconst dX7_cross_63 (by decide +kernel), sm_const _⟩, ⟨_, ⟨sn_iload_n dX7_cross_64 rfl, sm_il _⟩, ⟨_, ⟨sn_iadd dX7_cross_65, sm_bin _⟩, ⟨_, ⟨sn_iconst dX7_cross_66 (by decide +kernel), sm_const _⟩, ⟨_, ⟨sn_iast dX7_cross_67, sm_iast⟩, ⟨_, ⟨sn_fall (len := 0) rfl rfl, sm_go _ _⟩, trivial⟩⟩⟩⟩⟩⟩⟩⟩⟩⟩⟩⟩⟩⟩⟩⟩⟩⟩
set_option maxRecDepth 20000 in
theorem kX7_cross_68 : sx_BK sx_tb yX7_cross.cls cX7_cross 3 (some .int) ({ frames := 3, cells := 0, slots := 0, locals := 70 } : Room) false false 0 (fun _ => 0) 68 (bX7_cross_68) := ⟨_, ⟨sn_aload_n dX7_cross_68 rfl, sm_al _⟩, ⟨_, ⟨sn_get (C := RX7) (T := TX7) (N := 9) dX7_cross_69 rfl zinX7 (Nat.le_of_ble_eq_true rfl) zw_1_136, sm_get _ _⟩, ⟨_, ⟨sn_cv_i (N := 1) (T := TX2) ztb_X2_lost dX7_cross_72 rfl rfl zw_2_136 zw_2_137 zw_2_138 zw_1_4 zw_2_139 zmh_X2 zpd_X2_lost (Nat.le_of_ble_eq_true rfl) (Nat.le_of_ble_eq_true rfl) rfl rfl, sm_cv _ _ _ _ _ _ _⟩, ⟨_, ⟨sn_ri (len := 1) dX7_cross_75 rfl, sm_ri⟩, trivial⟩⟩⟩⟩
theorem kX7_cross : ∀ pc, sx_BK sx_tb yX7_cross.cls cX7_cross 3 (some .int) ({ frames := 3, cells := 0, slots := 0, locals := 70 } : Room) false false 0 (fun _ => 0) pc (BX7_cross pc) := fun pc => sx_bk_if (kX7_cross_0) (sx_bk_if (kX7_cross_20) (sx_bk_if (kX7_cross_23) (sx_bk_if (kX7_cross_42) (sx_bk_if (kX7_cross_68) (trivial)))))
theorem okX7_cross : sx_ok sx_tb BX7_cross (yX7_cross, cX7_cross, 3, some .int, { frames := 3, cells := 0, slots := 0, locals := 70 }) := ⟨by decide, by decide +kernel, false, (fun h => by cases h), kX7_cross⟩
theorem dX7_dearer_0 : decode cX7_dearer 0 = .ok (.aload_n 0, 1) := by decide +kernel
theorem dX7_dearer_1 : decode cX7_dearer 1 = .ok (.getfield 26, 3) := by decide +kernel
theorem dX7_dearer_4 : decode cX7_dearer 4 = .ok (.invokevirtual 121, 3) := by decide +kernel
theorem dX7_dearer_7 : decode cX7_dearer 7 = .ok (.ifCond .ne 6, 3) := by decide +kernel
theorem dX7_dearer_10 : decode cX7_dearer 10 = .ok (.ldc 117, 2) := by decide +kernel
theorem dX7_dearer_12 : decode cX7_dearer 12 = .ok (.ireturn, 1) := by decide +kernel
theorem dX7_dearer_13 : decode cX7_dearer 13 = .ok (.iload_n 1, 1) := by decide +kernel
theorem dX7_dearer_14 : decode cX7_dearer 14 = .ok (.iconst 0, 1) := by decide +kernel
theorem dX7_dearer_15 : decode cX7_dearer 15 = .ok (.bipush 20, 2) := by decide +kernel
theorem dX7_dearer_17 : decode cX7_dearer 17 = .ok (.invokestatic 70, 3) := by decide +kernel
theorem dX7_dearer_20 : decode cX7_dearer 20 = .ok (.ifCond .ne 6, 3) := by decide +kernel
theorem dX7_dearer_23 : decode cX7_dearer 23 = .ok (.ldc 74, 2) := by decide +kernel
theorem dX7_dearer_25 : decode cX7_dearer 25 = .ok (.ireturn, 1) := by decide +kernel
theorem dX7_dearer_26 : decode cX7_dearer 26 = .ok (.aload_n 0, 1) := by decide +kernel
theorem dX7_dearer_27 : decode cX7_dearer 27 = .ok (.bipush 59, 2) := by decide +kernel
theorem dX7_dearer_29 : decode cX7_dearer 29 = .ok (.iload_n 1, 1) := by decide +kernel
theorem dX7_dearer_30 : decode cX7_dearer 30 = .ok (.invokevirtual 136, 3) := by decide +kernel
theorem dX7_dearer_33 : decode cX7_dearer 33 = .ok (.ireturn, 1) := by decide +kernel
def bX7_dearer_0 : List sx_S := [si_al 0, si_get 6 2, si_cv 2 23 0 0 0 0 0, si_if1 (fun x => ¬ x = 0) 13 [true, true], si_const (-1000002), si_ri]
def bX7_dearer_13 : List sx_S := [si_il 1, si_const 0, si_const (nI 20), si_cs 121 3 0 0 0 0, si_if1 (fun x => ¬ x = 0) 26 [true, true], si_const (-1000001), si_ri]
def bX7_dearer_26 : List sx_S := [si_al 0, si_const (nI 59), si_il 1, si_cv 6 122 2 0 0 0 0, si_ri]
def BX7_dearer : Nat → List sx_S := fun pc => if pc = 0 then bX7_dearer_0 else if pc = 13 then bX7_dearer_13 else if pc = 26 then bX7_dearer_26 else []
set_option maxRecDepth 20000 in
theorem kX7_dearer_0 : sx_BK sx_tb yX7_dearer.cls cX7_dearer 2 (some .int) ({ frames := 3, cells := 0, slots := 0, locals := 70 } : Room) false false 0 (fun _ => 0) 0 (bX7_dearer_0) := ⟨_, ⟨sn_aload_n dX7_dearer_0 rfl, sm_al _⟩, ⟨_, ⟨sn_get (C := RX7) (T := TX7) (N := 9) dX7_dearer_1 rfl zinX7 (Nat.le_of_ble_eq_true rfl) zw_1_136, sm_get _ _⟩, ⟨_, ⟨sn_cv_z (N := 1) (T := TX2) ztb_X2_isThere dX7_dearer_4 rfl rfl zw_2_67 zw_2_68 zw_2_69 zw_1_4 zw_2_70 zmh_X2 zpd_X2_isThere (Nat.le_of_ble_eq_true rfl) (Nat.le_of_ble_eq_true rfl) rfl rfl, sm_cv _ _ _ _ _ _ _⟩, ⟨_, ⟨sn_if_ne dX7_dearer_7 (by decide +kernel) rfl, sm_if1 _ _ _⟩, ⟨_, ⟨sn_ldc dX7_dearer_10 zw_2_57, sm_const _⟩, ⟨_, ⟨sn_ri (len := 1) dX7_dearer_12 rfl, sm_ri⟩, trivial⟩⟩⟩⟩⟩⟩
set_option maxRecDepth 20000 in
theorem kX7_dearer_13 : sx_BK sx_tb yX7_dearer.cls cX7_dearer 2 (some .int) ({ frames := 3, cells := 0, slots := 0, locals := 70 } : Room) false false 0 (fun _ => 0) 13 (bX7_dearer_13) := ⟨_, ⟨sn_iload_n dX7_dearer_13 rfl, sm_il _⟩, ⟨_, ⟨sn_iconst dX7_dearer_14 (by decide +kernel), sm_const _⟩, ⟨_, ⟨sn_bipush dX7_dearer_15 (by decide +kernel), sm_const _⟩, ⟨_, ⟨sn_cs_z ztb_X7_within dX7_dearer_17 zw_1_169 zw_1_170 zw_1_1 zw_1_171 zmh_X7 zpd_X7_within (Nat.le_of_ble_eq_true rfl) (Nat.le_of_ble_eq_true rfl) rfl rfl, sm_cs _ _ _ _ _ _⟩, ⟨_, ⟨sn_if_ne dX7_dearer_20 (by decide +kernel) rfl, sm_if1 _ _ _⟩, ⟨_, ⟨sn_ldc dX7_dearer_23 zw_1_172, sm_const _⟩, ⟨_, ⟨sn_ri (len := 1) dX7_dearer_25 rfl, sm_ri⟩, trivial⟩⟩⟩⟩⟩⟩⟩
set_option maxRecDepth 20000 in
theorem kX7_dearer_26 : sx_BK sx_tb yX7_dearer.cls cX7_dearer 2 (some .int) ({ frames := 3, cells := 0, slots := 0, locals := 70 } : Room) false false 0 (fun _ => 0) 26 (bX7_dearer_26) := ⟨_, ⟨sn_aload_n dX7_dearer_26 rfl, sm_al _⟩, ⟨_, ⟨sn_bipush dX7_dearer_27 (by decide +kernel), sm_const _⟩, ⟨_, ⟨sn_iload_n dX7_dearer_29 rfl, sm_il _⟩, ⟨_, ⟨sn_cv_i (N := 9) (T := TX7) ztb_X7_change dX7_dearer_30 rfl rfl zw_2_124 zw_2_126 zw_0_14 zw_1_1 zw_2_127 zmh_X7 zpd_X7_change (Nat.le_of_ble_eq_true rfl) (Nat.le_of_ble_eq_true rfl) rfl rfl, sm_cv _ _ _ _ _ _ _⟩, ⟨_, ⟨sn_ri (len := 1) dX7_dearer_33 rfl, sm_ri⟩, trivial⟩⟩⟩⟩⟩
theorem kX7_dearer : ∀ pc, sx_BK sx_tb yX7_dearer.cls cX7_dearer 2 (some .int) ({ frames := 3, cells := 0, slots := 0, locals := 70 } : Room) false false 0 (fun _ => 0) pc (BX7_dearer pc) := fun pc => sx_bk_if (kX7_dearer_0) (sx_bk_if (kX7_dearer_13) (sx_bk_if (kX7_dearer_26) (trivial)))
theorem okX7_dearer : sx_ok sx_tb BX7_dearer (yX7_dearer, cX7_dearer, 2, some .int, { frames := 3, cells := 0, slots := 0, locals := 70 }) := ⟨by decide, by decide +kernel, false, (fun h => by cases h), kX7_dearer⟩
theorem dX7_debtor_0 : decode cX7_debtor 0 = .ok (.aload_n 0, 1) := by decide +kernel
theorem dX7_debtor_1 : decode cX7_debtor 1 = .ok (.getfield 26, 3) := by decide +kernel
theorem dX7_debtor_4 : decode cX7_debtor 4 = .ok (.iload_n 1, 1) := by decide +kernel
theorem dX7_debtor_5 : decode cX7_debtor 5 = .ok (.invokevirtual 133, 3) := by decide +kernel
theorem dX7_debtor_8 : decode cX7_debtor 8 = .ok (.ifCond .eq 13, 3) := by decide +kernel
theorem dX7_debtor_11 : decode cX7_debtor 11 = .ok (.iload_n 2, 1) := by decide +kernel
theorem dX7_debtor_12 : decode cX7_debtor 12 = .ok (.iconst 0, 1) := by decide +kernel
theorem dX7_debtor_13 : decode cX7_debtor 13 = .ok (.bipush 7, 2) := by decide +kernel
theorem dX7_debtor_15 : decode cX7_debtor 15 = .ok (.invokestatic 70, 3) := by decide +kernel
theorem dX7_debtor_18 : decode cX7_debtor 18 = .ok (.ifCond .ne 6, 3) := by decide +kernel
theorem dX7_debtor_21 : decode cX7_debtor 21 = .ok (.ldc 74, 2) := by decide +kernel
theorem dX7_debtor_23 : decode cX7_debtor 23 = .ok (.ireturn, 1) := by decide +kernel
theorem dX7_debtor_24 : decode cX7_debtor 24 = .ok (.aload_n 0, 1) := by decide +kernel
theorem dX7_debtor_25 : decode cX7_debtor 25 = .ok (.getfield 26, 3) := by decide +kernel
theorem dX7_debtor_28 : decode cX7_debtor 28 = .ok (.getfield 110, 3) := by decide +kernel
theorem dX7_debtor_31 : decode cX7_debtor 31 = .ok (.iload_n 2, 1) := by decide +kernel
theorem dX7_debtor_32 : decode cX7_debtor 32 = .ok (.bipush 6, 2) := by decide +kernel
theorem dX7_debtor_34 : decode cX7_debtor 34 = .ok (.imul, 1) := by decide +kernel
theorem dX7_debtor_35 : decode cX7_debtor 35 = .ok (.iload_n 1, 1) := by decide +kernel
theorem dX7_debtor_36 : decode cX7_debtor 36 = .ok (.iadd, 1) := by decide +kernel
theorem dX7_debtor_37 : decode cX7_debtor 37 = .ok (.iaload, 1) := by decide +kernel
theorem dX7_debtor_38 : decode cX7_debtor 38 = .ok (.ireturn, 1) := by decide +kernel
def bX7_debtor_0 : List sx_S := [si_al 0, si_get 6 2, si_il 1, si_cv 2 24 1 0 0 0 0, si_if1 (fun x => x = 0) 21 [false, false, false], si_il 2, si_const 0, si_const (nI 7), si_cs 121 3 0 0 0 0, si_if1 (fun x => ¬ x = 0) 24 [true, true, true], si_go 21 [false, false, false]]
def bX7_debtor_21 : List sx_S := [si_const (-1000001), si_ri]
def bX7_debtor_24 : List sx_S := [si_al 0, si_get 6 2, si_get 2 0, si_il 2, si_const (nI 6), si_bin (fun x y => x * y), si_il 1, si_bin (fun x y => x + y), si_iald, si_ri]
def BX7_debtor : Nat → List sx_S := fun pc => if pc = 0 then bX7_debtor_0 else if pc = 21 then bX7_debtor_21 else if pc = 24 then bX7_debtor_24 else []
set_option maxRecDepth 20000 in
theorem kX7_debtor_0 : sx_BK sx_tb yX7_debtor.cls cX7_debtor 3 (some .int) ({ frames := 1, cells := 0, slots := 0, locals := 22 } : Room) false false 0 (fun _ => 0) 0 (bX7_debtor_0) := ⟨_, ⟨sn_aload_n dX7_debtor_0 rfl, sm_al _⟩, ⟨_, ⟨sn_get (C := RX7) (T := TX7) (N := 9) dX7_debtor_1 rfl zinX7 (Nat.le_of_ble_eq_true rfl) zw_1_136, sm_get _ _⟩, ⟨_, ⟨sn_iload_n dX7_debtor_4 rfl, sm_il _⟩, ⟨_, ⟨sn_cv_z (N := 1) (T := TX2) ztb_X2_has dX7_debtor_5 rfl rfl zw_2_123 zw_2_92 zw_2_93 zw_1_4 zw_2_94 zmh_X2 zpd_X2_has (Nat.le_of_ble_eq_true rfl) (Nat.le_of_ble_eq_true rfl) rfl rfl, sm_cv _ _ _ _ _ _ _⟩, ⟨_, ⟨sn_if_eq dX7_debtor_8 (by decide +kernel) rfl, sm_if1 _ _ _⟩, ⟨_, ⟨sn_iload_n dX7_debtor_11 rfl, sm_il _⟩, ⟨_, ⟨sn_iconst dX7_debtor_12 (by decide +kernel), sm_const _⟩, ⟨_, ⟨sn_bipush dX7_debtor_13 (by decide +kernel), sm_const _⟩, ⟨_, ⟨sn_cs_z ztb_X7_within dX7_debtor_15 zw_1_169 zw_1_170 zw_1_1 zw_1_171 zmh_X7 zpd_X7_within (Nat.le_of_ble_eq_true rfl) (Nat.le_of_ble_eq_true rfl) rfl rfl, sm_cs _ _ _ _ _ _⟩, ⟨_, ⟨sn_if_ne dX7_debtor_18 (by decide +kernel) rfl, sm_if1 _ _ _⟩, ⟨_, ⟨sn_fall (len := 0) rfl rfl, sm_go _ _⟩, trivial⟩⟩⟩⟩⟩⟩⟩⟩⟩⟩⟩
set_option maxRecDepth 20000 in
theorem kX7_debtor_21 : sx_BK sx_tb yX7_debtor.cls cX7_debtor 3 (some .int) ({ frames := 1, cells := 0, slots := 0, locals := 22 } : Room) false false 0 (fun _ => 0) 21 (bX7_debtor_21) := ⟨_, ⟨sn_ldc dX7_debtor_21 zw_1_172, sm_const _⟩, ⟨_, ⟨sn_ri (len := 1) dX7_debtor_23 rfl, sm_ri⟩, trivial⟩⟩
set_option maxRecDepth 20000 in
theorem kX7_debtor_24 : sx_BK sx_tb yX7_debtor.cls cX7_debtor 3 (some .int) ({ frames := 1, cells := 0, slots := 0, locals := 22 } : Room) false false 0 (fun _ => 0) 24 (bX7_debtor_24) := ⟨_, ⟨sn_aload_n dX7_debtor_24 rfl, sm_al _⟩, ⟨_, ⟨sn_get (C := RX7) (T := TX7) (N := 9) dX7_debtor_25 rfl zinX7 (Nat.le_of_ble_eq_true rfl) zw_1_136, sm_get _ _⟩, ⟨_, ⟨sn_get (C := RX2) (T := TX2) (N := 1) dX7_debtor_28 rfl zinX2 (Nat.le_of_ble_eq_true rfl) zw_1_80, sm_get _ _⟩, ⟨_, ⟨sn_iload_n dX7_debtor_31 rfl, sm_il _⟩, ⟨_, ⟨sn_bipush dX7_debtor_32 (by decide +kernel), sm_const _⟩, ⟨_, ⟨sn_imul dX7_debtor_34, sm_bin _⟩, ⟨_, ⟨sn_iload_n dX7_debtor_35 rfl, sm_il _⟩, ⟨_, ⟨sn_iadd dX7_debtor_36, sm_bin _⟩, ⟨_, ⟨sn_iald dX7_debtor_37, sm_iald⟩, ⟨_, ⟨sn_ri (len := 1) dX7_debtor_38 rfl, sm_ri⟩, trivial⟩⟩⟩⟩⟩⟩⟩⟩⟩⟩
theorem kX7_debtor : ∀ pc, sx_BK sx_tb yX7_debtor.cls cX7_debtor 3 (some .int) ({ frames := 1, cells := 0, slots := 0, locals := 22 } : Room) false false 0 (fun _ => 0) pc (BX7_debtor pc) := fun pc => sx_bk_if (kX7_debtor_0) (sx_bk_if (kX7_debtor_21) (sx_bk_if (kX7_debtor_24) (trivial)))
theorem okX7_debtor : sx_ok sx_tb BX7_debtor (yX7_debtor, cX7_debtor, 3, some .int, { frames := 1, cells := 0, slots := 0, locals := 22 }) := ⟨by decide, by decide +kernel, false, (fun h => by cases h), kX7_debtor⟩
theorem dX7_shopHas_0 : decode cX7_shopHas 0 = .ok (.aload_n 0, 1) := by decide +kernel
theorem dX7_shopHas_1 : decode cX7_shopHas 1 = .ok (.getfield 26, 3) := by decide +kernel
theorem dX7_shopHas_4 : decode cX7_shopHas 4 = .ok (.invokevirtual 121, 3) := by decide +kernel
theorem dX7_shopHas_7 : decode cX7_shopHas 7 = .ok (.ifCond .ne 6, 3) := by decide +kernel
theorem dX7_shopHas_10 : decode cX7_shopHas 10 = .ok (.ldc 117, 2) := by decide +kernel
theorem dX7_shopHas_12 : decode cX7_shopHas 12 = .ok (.ireturn, 1) := by decide +kernel
theorem dX7_shopHas_13 : decode cX7_shopHas 13 = .ok (.iload_n 1, 1) := by decide +kernel
theorem dX7_shopHas_14 : decode cX7_shopHas 14 = .ok (.iconst 0, 1) := by decide +kernel
theorem dX7_shopHas_15 : decode cX7_shopHas 15 = .ok (.iconst 5, 1) := by decide +kernel
theorem dX7_shopHas_16 : decode cX7_shopHas 16 = .ok (.invokestatic 70, 3) := by decide +kernel
theorem dX7_shopHas_19 : decode cX7_shopHas 19 = .ok (.ifCond .ne 6, 3) := by decide +kernel
theorem dX7_shopHas_22 : decode cX7_shopHas 22 = .ok (.ldc 74, 2) := by decide +kernel
theorem dX7_shopHas_24 : decode cX7_shopHas 24 = .ok (.ireturn, 1) := by decide +kernel
theorem dX7_shopHas_25 : decode cX7_shopHas 25 = .ok (.iload_n 1, 1) := by decide +kernel
theorem dX7_shopHas_26 : decode cX7_shopHas 26 = .ok (.iconst 4, 1) := by decide +kernel
theorem dX7_shopHas_27 : decode cX7_shopHas 27 = .ok (.if_icmp .ne 11, 3) := by decide +kernel
theorem dX7_shopHas_30 : decode cX7_shopHas 30 = .ok (.aload_n 0, 1) := by decide +kernel
theorem dX7_shopHas_31 : decode cX7_shopHas 31 = .ok (.getfield 26, 3) := by decide +kernel
theorem dX7_shopHas_34 : decode cX7_shopHas 34 = .ok (.invokevirtual 143, 3) := by decide +kernel
theorem dX7_shopHas_37 : decode cX7_shopHas 37 = .ok (.ireturn, 1) := by decide +kernel
theorem dX7_shopHas_38 : decode cX7_shopHas 38 = .ok (.iload_n 1, 1) := by decide +kernel
theorem dX7_shopHas_39 : decode cX7_shopHas 39 = .ok (.iconst 5, 1) := by decide +kernel
theorem dX7_shopHas_40 : decode cX7_shopHas 40 = .ok (.if_icmp .ne 11, 3) := by decide +kernel
theorem dX7_shopHas_43 : decode cX7_shopHas 43 = .ok (.aload_n 0, 1) := by decide +kernel
theorem dX7_shopHas_44 : decode cX7_shopHas 44 = .ok (.getfield 26, 3) := by decide +kernel
theorem dX7_shopHas_47 : decode cX7_shopHas 47 = .ok (.invokevirtual 140, 3) := by decide +kernel
theorem dX7_shopHas_50 : decode cX7_shopHas 50 = .ok (.ireturn, 1) := by decide +kernel
theorem dX7_shopHas_51 : decode cX7_shopHas 51 = .ok (.aload_n 0, 1) := by decide +kernel
theorem dX7_shopHas_52 : decode cX7_shopHas 52 = .ok (.getfield 26, 3) := by decide +kernel
theorem dX7_shopHas_55 : decode cX7_shopHas 55 = .ok (.getfield 110, 3) := by decide +kernel
theorem dX7_shopHas_58 : decode cX7_shopHas 58 = .ok (.bipush 54, 2) := by decide +kernel
theorem dX7_shopHas_60 : decode cX7_shopHas 60 = .ok (.iload_n 1, 1) := by decide +kernel
theorem dX7_shopHas_61 : decode cX7_shopHas 61 = .ok (.iadd, 1) := by decide +kernel
theorem dX7_shopHas_62 : decode cX7_shopHas 62 = .ok (.iaload, 1) := by decide +kernel
theorem dX7_shopHas_63 : decode cX7_shopHas 63 = .ok (.ireturn, 1) := by decide +kernel
def bX7_shopHas_0 : List sx_S := [si_al 0, si_get 6 2, si_cv 2 23 0 0 0 0 0, si_if1 (fun x => ¬ x = 0) 13 [true, true], si_const (-1000002), si_ri]
def bX7_shopHas_13 : List sx_S := [si_il 1, si_const 0, si_const (nI 5), si_cs 121 3 0 0 0 0, si_if1 (fun x => ¬ x = 0) 25 [true, true], si_const (-1000001), si_ri]
def bX7_shopHas_25 : List sx_S := [si_il 1, si_const (nI 4), si_if2 (fun x y => ¬ x = y) 38 [true, true], si_al 0, si_get 6 2, si_cv 2 36 0 0 0 0 0, si_ri]
def bX7_shopHas_38 : List sx_S := [si_il 1, si_const (nI 5), si_if2 (fun x y => ¬ x = y) 51 [true, true], si_al 0, si_get 6 2, si_cv 2 37 0 0 0 0 0, si_ri]
def bX7_shopHas_51 : List sx_S := [si_al 0, si_get 6 2, si_get 2 0, si_const (nI 54), si_il 1, si_bin (fun x y => x + y), si_iald, si_ri]
def BX7_shopHas : Nat → List sx_S := fun pc => if pc = 0 then bX7_shopHas_0 else if pc = 13 then bX7_shopHas_13 else if pc = 25 then bX7_shopHas_25 else if pc = 38 then bX7_shopHas_38 else if pc = 51 then bX7_shopHas_51 else []
set_option maxRecDepth 20000 in
theorem kX7_shopHas_0 : sx_BK sx_tb yX7_shopHas.cls cX7_shopHas 2 (some .int) ({ frames := 3, cells := 0, slots := 0, locals := 64 } : Room) false false 0 (fun _ => 0) 0 (bX7_shopHas_0) := ⟨_, ⟨sn_aload_n dX7_shopHas_0 rfl, sm_al _⟩, ⟨_, ⟨sn_get (C := RX7) (T := TX7) (N := 9) dX7_shopHas_1 rfl zinX7 (Nat.le_of_ble_eq_true rfl) zw_1_136, sm_get _ _⟩, ⟨_, ⟨sn_cv_z (N := 1) (T := TX2) ztb_X2_isThere dX7_shopHas_4 rfl rfl zw_2_67 zw_2_68 zw_2_69 zw_1_4 zw_2_70 zmh_X2 zpd_X2_isThere (Nat.le_of_ble_eq_true rfl) (Nat.le_of_ble_eq_true rfl) rfl rfl, sm_cv _ _ _ _ _ _ _⟩, ⟨_, ⟨sn_if_ne dX7_shopHas_7 (by decide +kernel) rfl, sm_if1 _ _ _⟩, ⟨_, ⟨sn_ldc dX7_shopHas_10 zw_2_57, sm_const _⟩, ⟨_, ⟨sn_ri (len := 1) dX7_shopHas_12 rfl, sm_ri⟩, trivial⟩⟩⟩⟩⟩⟩
set_option maxRecDepth 20000 in
theorem kX7_shopHas_13 : sx_BK sx_tb yX7_shopHas.cls cX7_shopHas 2 (some .int) ({ frames := 3, cells := 0, slots := 0, locals := 64 } : Room) false false 0 (fun _ => 0) 13 (bX7_shopHas_13) := ⟨_, ⟨sn_iload_n dX7_shopHas_13 rfl, sm_il _⟩, ⟨_, ⟨sn_iconst dX7_shopHas_14 (by decide +kernel), sm_const _⟩, ⟨_, ⟨sn_iconst dX7_shopHas_15 (by decide +kernel), sm_const _⟩, ⟨_, ⟨sn_cs_z ztb_X7_within dX7_shopHas_16 zw_1_169 zw_1_170 zw_1_1 zw_1_171 zmh_X7 zpd_X7_within (Nat.le_of_ble_eq_true rfl) (Nat.le_of_ble_eq_true rfl) rfl rfl, sm_cs _ _ _ _ _ _⟩, ⟨_, ⟨sn_if_ne dX7_shopHas_19 (by decide +kernel) rfl, sm_if1 _ _ _⟩, ⟨_, ⟨sn_ldc dX7_shopHas_22 zw_1_172, sm_const _⟩, ⟨_, ⟨sn_ri (len := 1) dX7_shopHas_24 rfl, sm_ri⟩, trivial⟩⟩⟩⟩⟩⟩⟩
set_option maxRecDepth 20000 in
theorem kX7_shopHas_25 : sx_BK sx_tb yX7_shopHas.cls cX7_shopHas 2 (some .int) ({ frames := 3, cells := 0, slots := 0, locals := 64 } : Room) false false 0 (fun _ => 0) 25 (bX7_shopHas_25) := ⟨_, ⟨sn_iload_n dX7_shopHas_25 rfl, sm_il _⟩, ⟨_, ⟨sn_iconst dX7_shopHas_26 (by decide +kernel), sm_const _⟩, ⟨_, ⟨sn_ic_ne dX7_shopHas_27 (by decide +kernel) rfl, sm_if2 _ _ _⟩, ⟨_, ⟨sn_aload_n dX7_shopHas_30 rfl, sm_al _⟩, ⟨_, ⟨sn_get (C := RX7) (T := TX7) (N := 9) dX7_shopHas_31 rfl zinX7 (Nat.le_of_ble_eq_true rfl) zw_1_136, sm_get _ _⟩, ⟨_, ⟨sn_cv_i (N := 1) (T := TX2) ztb_X2_allDebts dX7_shopHas_34 rfl rfl zw_2_152 zw_2_153 zw_2_154 zw_1_4 zw_2_155 zmh_X2 zpd_X2_allDebts (Nat.le_of_ble_eq_true rfl) (Nat.le_of_ble_eq_true rfl) rfl rfl, sm_cv _ _ _ _ _ _ _⟩, ⟨_, ⟨sn_ri (len := 1) dX7_shopHas_37 rfl, sm_ri⟩, trivial⟩⟩⟩⟩⟩⟩⟩
set_option maxRecDepth 20000 in
theorem kX7_shopHas_38 : sx_BK sx_tb yX7_shopHas.cls cX7_shopHas 2 (some .int) ({ frames := 3, cells := 0, slots := 0, locals := 64 } : Room) false false 0 (fun _ => 0) 38 (bX7_shopHas_38) := ⟨_, ⟨sn_iload_n dX7_shopHas_38 rfl, sm_il _⟩, ⟨_, ⟨sn_iconst dX7_shopHas_39 (by decide +kernel), sm_const _⟩, ⟨_, ⟨sn_ic_ne dX7_shopHas_40 (by decide +kernel) rfl, sm_if2 _ _ _⟩, ⟨_, ⟨sn_aload_n dX7_shopHas_43 rfl, sm_al _⟩, ⟨_, ⟨sn_get (C := RX7) (T := TX7) (N := 9) dX7_shopHas_44 rfl zinX7 (Nat.le_of_ble_eq_true rfl) zw_1_136, sm_get _ _⟩, ⟨_, ⟨sn_cv_i (N := 1) (T := TX2) ztb_X2_lost dX7_shopHas_47 rfl rfl zw_2_136 zw_2_137 zw_2_138 zw_1_4 zw_2_139 zmh_X2 zpd_X2_lost (Nat.le_of_ble_eq_true rfl) (Nat.le_of_ble_eq_true rfl) rfl rfl, sm_cv _ _ _ _ _ _ _⟩, ⟨_, ⟨sn_ri (len := 1) dX7_shopHas_50 rfl, sm_ri⟩, trivial⟩⟩⟩⟩⟩⟩⟩
set_option maxRecDepth 20000 in
theorem kX7_shopHas_51 : sx_BK sx_tb yX7_shopHas.cls cX7_shopHas 2 (some .int) ({ frames := 3, cells := 0, slots := 0, locals := 64 } : Room) false false 0 (fun _ => 0) 51 (bX7_shopHas_51) := ⟨_, ⟨sn_aload_n dX7_shopHas_51 rfl, sm_al _⟩, ⟨_, ⟨sn_get (C := RX7) (T := TX7) (N := 9) dX7_shopHas_52 rfl zinX7 (Nat.le_of_ble_eq_true rfl) zw_1_136, sm_get _ _⟩, ⟨_, ⟨sn_get (C := RX2) (T := TX2) (N := 1) dX7_shopHas_55 rfl zinX2 (Nat.le_of_ble_eq_true rfl) zw_1_80, sm_get _ _⟩, ⟨_, ⟨sn_bipush dX7_shopHas_58 (by decide +kernel), sm_const _⟩, ⟨_, ⟨sn_iload_n dX7_shopHas_60 rfl, sm_il _⟩, ⟨_, ⟨sn_iadd dX7_shopHas_61, sm_bin _⟩, ⟨_, ⟨sn_iald dX7_shopHas_62, sm_iald⟩, ⟨_, ⟨sn_ri (len := 1) dX7_shopHas_63 rfl, sm_ri⟩, trivial⟩⟩⟩⟩⟩⟩⟩⟩
theorem kX7_shopHas : ∀ pc, sx_BK sx_tb yX7_shopHas.cls cX7_shopHas 2 (some .int) ({ frames := 3, cells := 0, slots := 0, locals := 64 } : Room) false false 0 (fun _ => 0) pc (BX7_shopHas pc) := fun pc => sx_bk_if (kX7_shopHas_0) (sx_bk_if (kX7_shopHas_13) (sx_bk_if (kX7_shopHas_25) (sx_bk_if (kX7_shopHas_38) (sx_bk_if (kX7_shopHas_51) (trivial)))))
theorem okX7_shopHas : sx_ok sx_tb BX7_shopHas (yX7_shopHas, cX7_shopHas, 2, some .int, { frames := 3, cells := 0, slots := 0, locals := 64 }) := ⟨by decide, by decide +kernel, false, (fun h => by cases h), kX7_shopHas⟩
theorem dX7_ahead_0 : decode cX7_ahead 0 = .ok (.aload_n 0, 1) := by decide +kernel
theorem dX7_ahead_1 : decode cX7_ahead 1 = .ok (.getfield 26, 3) := by decide +kernel
theorem dX7_ahead_4 : decode cX7_ahead 4 = .ok (.invokevirtual 121, 3) := by decide +kernel
theorem dX7_ahead_7 : decode cX7_ahead 7 = .ok (.ifCond .ne 6, 3) := by decide +kernel
theorem dX7_ahead_10 : decode cX7_ahead 10 = .ok (.ldc 117, 2) := by decide +kernel
theorem dX7_ahead_12 : decode cX7_ahead 12 = .ok (.ireturn, 1) := by decide +kernel
theorem dX7_ahead_13 : decode cX7_ahead 13 = .ok (.iload_n 1, 1) := by decide +kernel
theorem dX7_ahead_14 : decode cX7_ahead 14 = .ok (.iconst 0, 1) := by decide +kernel
theorem dX7_ahead_15 : decode cX7_ahead 15 = .ok (.bipush 60, 2) := by decide +kernel
theorem dX7_ahead_17 : decode cX7_ahead 17 = .ok (.invokestatic 70, 3) := by decide +kernel
theorem dX7_ahead_20 : decode cX7_ahead 20 = .ok (.ifCond .eq 12, 3) := by decide +kernel
theorem dX7_ahead_23 : decode cX7_ahead 23 = .ok (.iload_n 2, 1) := by decide +kernel
theorem dX7_ahead_24 : decode cX7_ahead 24 = .ok (.iconst 0, 1) := by decide +kernel
theorem dX7_ahead_25 : decode cX7_ahead 25 = .ok (.iconst 2, 1) := by decide +kernel
theorem dX7_ahead_26 : decode cX7_ahead 26 = .ok (.invokestatic 70, 3) := by decide +kernel
theorem dX7_ahead_29 : decode cX7_ahead 29 = .ok (.ifCond .ne 6, 3) := by decide +kernel
theorem dX7_ahead_32 : decode cX7_ahead 32 = .ok (.ldc 74, 2) := by decide +kernel
theorem dX7_ahead_34 : decode cX7_ahead 34 = .ok (.ireturn, 1) := by decide +kernel
theorem dX7_ahead_35 : decode cX7_ahead 35 = .ok (.aload_n 0, 1) := by decide +kernel
theorem dX7_ahead_36 : decode cX7_ahead 36 = .ok (.getfield 45, 3) := by decide +kernel
theorem dX7_ahead_39 : decode cX7_ahead 39 = .ok (.iload_n 1, 1) := by decide +kernel
theorem dX7_ahead_40 : decode cX7_ahead 40 = .ok (.invokevirtual 146, 3) := by decide +kernel
theorem dX7_ahead_43 : decode cX7_ahead 43 = .ok (.iload_n 2, 1) := by decide +kernel
theorem dX7_ahead_44 : decode cX7_ahead 44 = .ok (.iconst 2, 1) := by decide +kernel
theorem dX7_ahead_45 : decode cX7_ahead 45 = .ok (.if_icmp .ne 13, 3) := by decide +kernel
theorem dX7_ahead_48 : decode cX7_ahead 48 = .ok (.aload_n 0, 1) := by decide +kernel
theorem dX7_ahead_49 : decode cX7_ahead 49 = .ok (.getfield 30, 3) := by decide +kernel
theorem dX7_ahead_52 : decode cX7_ahead 52 = .ok (.invokevirtual 143, 3) := by decide +kernel
theorem dX7_ahead_55 : decode cX7_ahead 55 = .ok (.goto 15, 3) := by decide +kernel
theorem dX7_ahead_58 : decode cX7_ahead 58 = .ok (.aload_n 0, 1) := by decide +kernel
theorem dX7_ahead_59 : decode cX7_ahead 59 = .ok (.getfield 30, 3) := by decide +kernel
theorem dX7_ahead_62 : decode cX7_ahead 62 = .ok (.getfield 110, 3) := by decide +kernel
theorem dX7_ahead_65 : decode cX7_ahead 65 = .ok (.bipush 54, 2) := by decide +kernel
theorem dX7_ahead_67 : decode cX7_ahead 67 = .ok (.iload_n 2, 1) := by decide +kernel
theorem dX7_ahead_68 : decode cX7_ahead 68 = .ok (.iadd, 1) := by decide +kernel
theorem dX7_ahead_69 : decode cX7_ahead 69 = .ok (.iaload, 1) := by decide +kernel
theorem dX7_ahead_70 : decode cX7_ahead 70 = .ok (.ireturn, 1) := by decide +kernel
def bX7_ahead_0 : List sx_S := [si_al 0, si_get 6 2, si_cv 2 23 0 0 0 0 0, si_if1 (fun x => ¬ x = 0) 13 [true, true, true], si_const (-1000002), si_ri]
def bX7_ahead_13 : List sx_S := [si_il 1, si_const 0, si_const (nI 60), si_cs 121 3 0 0 0 0, si_if1 (fun x => x = 0) 32 [false, false, false], si_il 2, si_const 0, si_const (nI 2), si_cs 121 3 0 0 0 0, si_if1 (fun x => ¬ x = 0) 35 [true, true, true], si_go 32 [false, false, false]]
def bX7_ahead_32 : List sx_S := [si_const (-1000001), si_ri]
def bX7_ahead_35 : List sx_S := [si_al 0, si_get 6 5, si_il 1, si_cv 3 47 1 0 0 0 0, si_il 2, si_const (nI 2), si_if2 (fun x y => ¬ x = y) 58 [true, false, true], si_al 0, si_get 6 3, si_cv 2 36 0 0 0 0 0, si_go 70 [false, false, false]]
def bX7_ahead_58 : List sx_S := [si_al 0, si_get 6 3, si_get 2 0, si_const (nI 54), si_il 2, si_bin (fun x y => x + y), si_iald, si_go 70 [false, false, false]]
def bX7_ahead_70 : List sx_S := [si_ri]
def BX7_ahead : Nat → List sx_S := fun pc => if pc = 0 then bX7_ahead_0 else if pc = 13 then bX7_ahead_13 else if pc = 32 then bX7_ahead_32 else if pc = 35 then bX7_ahead_35 else if pc = 58 then bX7_ahead_58 else if pc = 70 then bX7_ahead_70 else []
set_option maxRecDepth 20000 in
theorem kX7_ahead_0 : sx_BK sx_tb yX7_ahead.cls cX7_ahead 3 (some .int) ({ frames := 6, cells := 0, slots := 0, locals := 132 } : Room) false false 0 (fun _ => 0) 0 (bX7_ahead_0) := ⟨_, ⟨sn_aload_n dX7_ahead_0 rfl, sm_al _⟩, ⟨_, ⟨sn_get (C := RX7) (T := TX7) (N := 9) dX7_ahead_1 rfl zinX7 (Nat.le_of_ble_eq_true rfl) zw_1_136, sm_get _ _⟩, ⟨_, ⟨sn_cv_z (N := 1) (T := TX2) ztb_X2_isThere dX7_ahead_4 rfl rfl zw_2_67 zw_2_68 zw_2_69 zw_1_4 zw_2_70 zmh_X2 zpd_X2_isThere (Nat.le_of_ble_eq_true rfl) (Nat.le_of_ble_eq_true rfl) rfl rfl, sm_cv _ _ _ _ _ _ _⟩, ⟨_, ⟨sn_if_ne dX7_ahead_7 (by decide +kernel) rfl, sm_if1 _ _ _⟩, ⟨_, ⟨sn_ldc dX7_ahead_10 zw_2_57, sm_const _⟩, ⟨_, ⟨sn_ri (len := 1) dX7_ahead_12 rfl, sm_ri⟩, trivial⟩⟩⟩⟩⟩⟩
set_option maxRecDepth 20000 in
theorem kX7_ahead_13 : sx_BK sx_tb yX7_ahead.cls cX7_ahead 3 (some .int) ({ frames := 6, cells := 0, slots := 0, locals := 132 } : Room) false false 0 (fun _ => 0) 13 (bX7_ahead_13) := ⟨_, ⟨sn_iload_n dX7_ahead_13 rfl, sm_il _⟩, ⟨_, ⟨sn_iconst dX7_ahead_14 (by decide +kernel), sm_const _⟩, ⟨_, ⟨sn_bipush dX7_ahead_15 (by decide +kernel), sm_const _⟩, ⟨_, ⟨sn_cs_z ztb_X7_within dX7_ahead_17 zw_1_169 zw_1_170 zw_1_1 zw_1_171 zmh_X7 zpd_X7_within (Nat.le_of_ble_eq_true rfl) (Nat.le_of_ble_eq_true rfl) rfl rfl, sm_cs _ _ _ _ _ _⟩, ⟨_, ⟨sn_if_eq dX7_ahead_20 (by decide +kernel) rfl, sm_if1 _ _ _⟩, ⟨_, ⟨sn_iload_n dX7_ahead_23 rfl, sm_il _⟩, ⟨_, ⟨sn_iconst dX7_ahead_24 (by decide +kernel), sm_const _⟩, ⟨_, ⟨sn_iconst dX7_ahead_25 (by decide +kernel), sm_const _⟩, ⟨_, ⟨sn_cs_z ztb_X7_within dX7_ahead_26 zw_1_169 zw_1_170 zw_1_1 zw_1_171 zmh_X7 zpd_X7_within (Nat.le_of_ble_eq_true rfl) (Nat.le_of_ble_eq_true rfl) rfl rfl, sm_cs _ _ _ _ _ _⟩, ⟨_, ⟨sn_if_ne dX7_ahead_29 (by decide +kernel) rfl, sm_if1 _ _ _⟩, ⟨_, ⟨sn_fall (len := 0) rfl rfl, sm_go _ _⟩, trivial⟩⟩⟩⟩⟩⟩⟩⟩⟩⟩⟩
set_option maxRecDepth 20000 in
theorem kX7_ahead_32 : sx_BK sx_tb yX7_ahead.cls cX7_ahead 3 (some .int) ({ frames := 6, cells := 0, slots := 0, locals := 132 } : Room) false false 0 (fun _ => 0) 32 (bX7_ahead_32) := ⟨_, ⟨sn_ldc dX7_ahead_32 zw_1_172, sm_const _⟩, ⟨_, ⟨sn_ri (len := 1) dX7_ahead_34 rfl, sm_ri⟩, trivial⟩⟩
set_option maxRecDepth 20000 in
theorem kX7_ahead_35 : sx_BK sx_tb yX7_ahead.cls cX7_ahead 3 (some .int) ({ frames := 6, cells := 0, slots := 0, locals := 132 } : Room) false false 0 (fun _ => 0) 35 (bX7_ahead_35) := ⟨_, ⟨sn_aload_n dX7_ahead_35 rfl, sm_al _⟩, ⟨_, ⟨sn_get (C := RX7) (T := TX7) (N := 9) dX7_ahead_36 rfl zinX7 (Nat.le_of_ble_eq_true rfl) zw_1_139, sm_get _ _⟩, ⟨_, ⟨sn_iload_n dX7_ahead_39 rfl, sm_il _⟩, ⟨_, ⟨sn_cv_v (N := 2) (T := TX4) ztb_X4_look dX7_ahead_40 rfl rfl zw_2_160 zw_2_161 zw_2_162 zw_1_6 zw_2_163 zmh_X4 zpd_X4_look (Nat.le_of_ble_eq_true rfl) (Nat.le_of_ble_eq_true rfl) rfl rfl, sm_cv _ _ _ _ _ _ _⟩, ⟨_, ⟨sn_iload_n dX7_ahead_43 rfl, sm_il _⟩, ⟨_, ⟨sn_iconst dX7_ahead_44 (by decide +kernel), sm_const _⟩, ⟨_, ⟨sn_ic_ne dX7_ahead_45 (by decide +kernel) rfl, sm_if2 _ _ _⟩, ⟨_, ⟨sn_aload_n dX7_ahead_48 rfl, sm_al _⟩, ⟨_, ⟨sn_get (C := RX7) (T := TX7) (N := 9) dX7_ahead_49 rfl zinX7 (Nat.le_of_ble_eq_true rfl) zw_1_137, sm_get _ _⟩, ⟨_, ⟨sn_cv_i (N := 1) (T := TX2) ztb_X2_allDebts dX7_ahead_52 rfl rfl zw_2_152 zw_2_153 zw_2_154 zw_1_4 zw_2_155 zmh_X2 zpd_X2_allDebts (Nat.le_of_ble_eq_true rfl) (Nat.le_of_ble_eq_true rfl) rfl rfl, sm_cv _ _ _ _ _ _ _⟩, ⟨_, ⟨sn_goto (len := 3) dX7_ahead_55 (by decide +kernel) rfl, sm_go _ _⟩, trivial⟩⟩⟩⟩⟩⟩⟩⟩⟩⟩⟩
set_option maxRecDepth 20000 in
theorem kX7_ahead_58 : sx_BK sx_tb yX7_ahead.cls cX7_ahead 3 (some .int) ({ frames := 6, cells := 0, slots := 0, locals := 132 } : Room) false false 0 (fun _ => 0) 58 (bX7_ahead_58) := ⟨_, ⟨sn_aload_n dX7_ahead_58 rfl, sm_al _⟩, ⟨_, ⟨sn_get (C := RX7) (T := TX7) (N := 9) dX7_ahead_59 rfl zinX7 (Nat.le_of_ble_eq_true rfl) zw_1_137, sm_get _ _⟩, ⟨_, ⟨sn_get (C := RX2) (T := TX2) (N := 1) dX7_ahead_62 rfl zinX2 (Nat.le_of_ble_eq_true rfl) zw_1_80, sm_get _ _⟩, ⟨_, ⟨sn_bipush dX7_ahead_65 (by decide +kernel), sm_const _⟩, ⟨_, ⟨sn_iload_n dX7_ahead_67 rfl, sm_il _⟩, ⟨_, ⟨sn_iadd dX7_ahead_68, sm_bin _⟩, ⟨_, ⟨sn_iald dX7_ahead_69, sm_iald⟩, ⟨_, ⟨sn_fall (len := 0) rfl rfl, sm_go _ _⟩, trivial⟩⟩⟩⟩⟩⟩⟩⟩
set_option maxRecDepth 20000 in
theorem kX7_ahead_70 : sx_BK sx_tb yX7_ahead.cls cX7_ahead 3 (some .int) ({ frames := 6, cells := 0, slots := 0, locals := 132 } : Room) false false 0 (fun _ => 0) 70 (bX7_ahead_70) := ⟨_, ⟨sn_ri (len := 1) dX7_ahead_70 rfl, sm_ri⟩, trivial⟩
theorem kX7_ahead : ∀ pc, sx_BK sx_tb yX7_ahead.cls cX7_ahead 3 (some .int) ({ frames := 6, cells := 0, slots := 0, locals := 132 } : Room) false false 0 (fun _ => 0) pc (BX7_ahead pc) := fun pc => sx_bk_if (kX7_ahead_0) (sx_bk_if (kX7_ahead_13) (sx_bk_if (kX7_ahead_32) (sx_bk_if (kX7_ahead_35) (sx_bk_if (kX7_ahead_58) (sx_bk_if (kX7_ahead_70) (trivial))))))
theorem okX7_ahead : sx_ok sx_tb BX7_ahead (yX7_ahead, cX7_ahead, 3, some .int, { frames := 6, cells := 0, slots := 0, locals := 132 }) := ⟨by decide, by decide +kernel, false, (fun h => by cases h), kX7_ahead⟩
theorem dX7_debt_0 : decode cX7_debt 0 = .ok (.aload_n 0, 1) := by decide +kernel
theorem dX7_debt_1 : decode cX7_debt 1 = .ok (.getfield 26, 3) := by decide +kernel
theorem dX7_debt_4 : decode cX7_debt 4 = .ok (.iload_n 1, 1) := by decide +kernel
theorem dX7_debt_5 : decode cX7_debt 5 = .ok (.invokevirtual 133, 3) := by decide +kernel
theorem dX7_debt_8 : decode cX7_debt 8 = .ok (.ifCond .eq 13, 3) := by decide +kernel
theorem dX7_debt_11 : decode cX7_debt 11 = .ok (.iload_n 2, 1) := by decide +kernel
theorem dX7_debt_12 : decode cX7_debt 12 = .ok (.iconst 0, 1) := by decide +kernel
theorem dX7_debt_13 : decode cX7_debt 13 = .ok (.bipush 60, 2) := by decide +kernel
theorem dX7_debt_15 : decode cX7_debt 15 = .ok (.invokestatic 70, 3) := by decide +kernel
theorem dX7_debt_18 : decode cX7_debt 18 = .ok (.ifCond .ne 6, 3) := by decide +kernel
theorem dX7_debt_21 : decode cX7_debt 21 = .ok (.ldc 74, 2) := by decide +kernel
theorem dX7_debt_23 : decode cX7_debt 23 = .ok (.ireturn, 1) := by decide +kernel
theorem dX7_debt_24 : decode cX7_debt 24 = .ok (.aload_n 0, 1) := by decide +kernel
theorem dX7_debt_25 : decode cX7_debt 25 = .ok (.getfield 45, 3) := by decide +kernel
theorem dX7_debt_28 : decode cX7_debt 28 = .ok (.iload_n 2, 1) := by decide +kernel
theorem dX7_debt_29 : decode cX7_debt 29 = .ok (.invokevirtual 146, 3) := by decide +kernel
theorem dX7_debt_32 : decode cX7_debt 32 = .ok (.aload_n 0, 1) := by decide +kernel
theorem dX7_debt_33 : decode cX7_debt 33 = .ok (.getfield 30, 3) := by decide +kernel
theorem dX7_debt_36 : decode cX7_debt 36 = .ok (.getfield 110, 3) := by decide +kernel
theorem dX7_debt_39 : decode cX7_debt 39 = .ok (.iconst 0, 1) := by decide +kernel
theorem dX7_debt_40 : decode cX7_debt 40 = .ok (.iload_n 1, 1) := by decide +kernel
theorem dX7_debt_41 : decode cX7_debt 41 = .ok (.iadd, 1) := by decide +kernel
theorem dX7_debt_42 : decode cX7_debt 42 = .ok (.iaload, 1) := by decide +kernel
theorem dX7_debt_43 : decode cX7_debt 43 = .ok (.ireturn, 1) := by decide +kernel
def bX7_debt_0 : List sx_S := [si_al 0, si_get 6 2, si_il 1, si_cv 2 24 1 0 0 0 0, si_if1 (fun x => x = 0) 21 [false, false, false], si_il 2, si_const 0, si_const (nI 60), si_cs 121 3 0 0 0 0, si_if1 (fun x => ¬ x = 0) 24 [true, true, true], si_go 21 [false, false, false]]
def bX7_debt_21 : List sx_S := [si_const (-1000001), si_ri]
def bX7_debt_24 : List sx_S := [si_al 0, si_get 6 5, si_il 2, si_cv 3 47 1 0 0 0 0, si_al 0, si_get 6 3, si_get 2 0, si_const 0, si_il 1, si_bin (fun x y => x + y), si_iald, si_ri]
def BX7_debt : Nat → List sx_S := fun pc => if pc = 0 then bX7_debt_0 else if pc = 21 then bX7_debt_21 else if pc = 24 then bX7_debt_24 else []
set_option maxRecDepth 20000 in
theorem kX7_debt_0 : sx_BK sx_tb yX7_debt.cls cX7_debt 3 (some .int) ({ frames := 6, cells := 0, slots := 0, locals := 132 } : Room) false false 0 (fun _ => 0) 0 (bX7_debt_0) := ⟨_, ⟨sn_aload_n dX7_debt_0 rfl, sm_al _⟩, ⟨_, ⟨sn_get (C := RX7) (T := TX7) (N := 9) dX7_debt_1 rfl zinX7 (Nat.le_of_ble_eq_true rfl) zw_1_136, sm_get _ _⟩, ⟨_, ⟨sn_iload_n dX7_debt_4 rfl, sm_il _⟩, ⟨_, ⟨sn_cv_z (N := 1) (T := TX2) ztb_X2_has dX7_debt_5 rfl rfl zw_2_123 zw_2_92 zw_2_93 zw_1_4 zw_2_94 zmh_X2 zpd_X2_has (Nat.le_of_ble_eq_true rfl) (Nat.le_of_ble_eq_true rfl) rfl rfl, sm_cv _ _ _ _ _ _ _⟩, ⟨_, ⟨sn_if_eq dX7_debt_8 (by decide +kernel) rfl, sm_if1 _ _ _⟩, ⟨_, ⟨sn_iload_n dX7_debt_11 rfl, sm_il _⟩, ⟨_, ⟨sn_iconst dX7_debt_12 (by decide +kernel), sm_const _⟩, ⟨_, ⟨sn_bipush dX7_debt_13 (by decide +kernel), sm_const _⟩, ⟨_, ⟨sn_cs_z ztb_X7_within dX7_debt_15 zw_1_169 zw_1_170 zw_1_1 zw_1_171 zmh_X7 zpd_X7_within (Nat.le_of_ble_eq_true rfl) (Nat.le_of_ble_eq_true rfl) rfl rfl, sm_cs _ _ _ _ _ _⟩, ⟨_, ⟨sn_if_ne dX7_debt_18 (by decide +kernel) rfl, sm_if1 _ _ _⟩, ⟨_, ⟨sn_fall (len := 0) rfl rfl, sm_go _ _⟩, trivial⟩⟩⟩⟩⟩⟩⟩⟩⟩⟩⟩
set_option maxRecDepth 20000 in
theorem kX7_debt_21 : sx_BK sx_tb yX7_debt.cls cX7_debt 3 (some .int) ({ frames := 6, cells := 0, slots := 0, locals := 132 } : Room) false false 0 (fun _ => 0) 21 (bX7_debt_21) := ⟨_, ⟨sn_ldc dX7_debt_21 zw_1_172, sm_const _⟩, ⟨_, ⟨sn_ri (len := 1) dX7_debt_23 rfl, sm_ri⟩, trivial⟩⟩
set_option maxRecDepth 20000 in
theorem kX7_debt_24 : sx_BK sx_tb yX7_debt.cls cX7_debt 3 (some .int) ({ frames := 6, cells := 0, slots := 0, locals := 132 } : Room) false false 0 (fun _ => 0) 24 (bX7_debt_24) := ⟨_, ⟨sn_aload_n dX7_debt_24 rfl, sm_al _⟩, ⟨_, ⟨sn_get (C := RX7) (T := TX7) (N := 9) dX7_debt_25 rfl zinX7 (Nat.le_of_ble_eq_true rfl) zw_1_139, sm_get _ _⟩, ⟨_, ⟨sn_iload_n dX7_debt_28 rfl, sm_il _⟩, ⟨_, ⟨sn_cv_v (N := 2) (T := TX4) ztb_X4_look dX7_debt_29 rfl rfl zw_2_160 zw_2_161 zw_2_162 zw_1_6 zw_2_163 zmh_X4 zpd_X4_look (Nat.le_of_ble_eq_true rfl) (Nat.le_of_ble_eq_true rfl) rfl rfl, sm_cv _ _ _ _ _ _ _⟩, ⟨_, ⟨sn_aload_n dX7_debt_32 rfl, sm_al _⟩, ⟨_, ⟨sn_get (C := RX7) (T := TX7) (N := 9) dX7_debt_33 rfl zinX7 (Nat.le_of_ble_eq_true rfl) zw_1_137, sm_get _ _⟩, ⟨_, ⟨sn_get (C := RX2) (T := TX2) (N := 1) dX7_debt_36 rfl zinX2 (Nat.le_of_ble_eq_true rfl) zw_1_80, sm_get _ _⟩, ⟨_, ⟨sn_iconst dX7_debt_39 (by decide +kernel), sm_const _⟩, ⟨_, ⟨sn_iload_n dX7_debt_40 rfl, sm_il _⟩, ⟨_, ⟨sn_iadd dX7_debt_41, sm_bin _⟩, ⟨_, ⟨sn_iald dX7_debt_42, sm_iald⟩, ⟨_, ⟨sn_ri (len := 1) dX7_debt_43 rfl, sm_ri⟩, trivial⟩⟩⟩⟩⟩⟩⟩⟩⟩⟩⟩⟩
theorem kX7_debt : ∀ pc, sx_BK sx_tb yX7_debt.cls cX7_debt 3 (some .int) ({ frames := 6, cells := 0, slots := 0, locals := 132 } : Room) false false 0 (fun _ => 0) pc (BX7_debt pc) := fun pc => sx_bk_if (kX7_debt_0) (sx_bk_if (kX7_debt_21) (sx_bk_if (kX7_debt_24) (trivial)))
theorem okX7_debt : sx_ok sx_tb BX7_debt (yX7_debt, cX7_debt, 3, some .int, { frames := 6, cells := 0, slots := 0, locals := 132 }) := ⟨by decide, by decide +kernel, false, (fun h => by cases h), kX7_debt⟩
theorem dX7_shuts_0 : decode cX7_shuts 0 = .ok (.aload_n 0, 1) := by decide +kernel
theorem dX7_shuts_1 : decode cX7_shuts 1 = .ok (.getfield 26, 3) := by decide +kernel
theorem dX7_shuts_4 : decode cX7_shuts 4 = .ok (.invokevirtual 121, 3) := by decide +kernel
theorem dX7_shuts_7 : decode cX7_shuts 7 = .ok (.ifCond .ne 6, 3) := by decide +kernel
theorem dX7_shuts_10 : decode cX7_shuts 10 = .ok (.ldc 117, 2) := by decide +kernel
theorem dX7_shuts_12 : decode cX7_shuts 12 = .ok (.ireturn, 1) := by decide +kernel
theorem dX7_shuts_13 : decode cX7_shuts 13 = .ok (.aload_n 0, 1) := by decide +kernel
theorem dX7_shuts_14 : decode cX7_shuts 14 = .ok (.getfield 45, 3) := by decide +kernel
theorem dX7_shuts_17 : decode cX7_shuts 17 = .ok (.bipush 60, 2) := by decide +kernel
theorem dX7_shuts_19 : decode cX7_shuts 19 = .ok (.invokevirtual 150, 3) := by decide +kernel
theorem dX7_shuts_22 : decode cX7_shuts 22 = .ok (.ireturn, 1) := by decide +kernel
def bX7_shuts_0 : List sx_S := [si_al 0, si_get 6 2, si_cv 2 23 0 0 0 0 0, si_if1 (fun x => ¬ x = 0) 13 [true], si_const (-1000002), si_ri]
def bX7_shuts_13 : List sx_S := [si_al 0, si_get 6 5, si_const (nI 60), si_cv 3 49 1 0 0 0 0, si_ri]
def BX7_shuts : Nat → List sx_S := fun pc => if pc = 0 then bX7_shuts_0 else if pc = 13 then bX7_shuts_13 else []
set_option maxRecDepth 20000 in
theorem kX7_shuts_0 : sx_BK sx_tb yX7_shuts.cls cX7_shuts 1 (some .int) ({ frames := 5, cells := 0, slots := 0, locals := 111 } : Room) false false 0 (fun _ => 0) 0 (bX7_shuts_0) := ⟨_, ⟨sn_aload_n dX7_shuts_0 rfl, sm_al _⟩, ⟨_, ⟨sn_get (C := RX7) (T := TX7) (N := 9) dX7_shuts_1 rfl zinX7 (Nat.le_of_ble_eq_true rfl) zw_1_136, sm_get _ _⟩, ⟨_, ⟨sn_cv_z (N := 1) (T := TX2) ztb_X2_isThere dX7_shuts_4 rfl rfl zw_2_67 zw_2_68 zw_2_69 zw_1_4 zw_2_70 zmh_X2 zpd_X2_isThere (Nat.le_of_ble_eq_true rfl) (Nat.le_of_ble_eq_true rfl) rfl rfl, sm_cv _ _ _ _ _ _ _⟩, ⟨_, ⟨sn_if_ne dX7_shuts_7 (by decide +kernel) rfl, sm_if1 _ _ _⟩, ⟨_, ⟨sn_ldc dX7_shuts_10 zw_2_57, sm_const _⟩, ⟨_, ⟨sn_ri (len := 1) dX7_shuts_12 rfl, sm_ri⟩, trivial⟩⟩⟩⟩⟩⟩
set_option maxRecDepth 20000 in
theorem kX7_shuts_13 : sx_BK sx_tb yX7_shuts.cls cX7_shuts 1 (some .int) ({ frames := 5, cells := 0, slots := 0, locals := 111 } : Room) false false 0 (fun _ => 0) 13 (bX7_shuts_13) := ⟨_, ⟨sn_aload_n dX7_shuts_13 rfl, sm_al _⟩, ⟨_, ⟨sn_get (C := RX7) (T := TX7) (N := 9) dX7_shuts_14 rfl zinX7 (Nat.le_of_ble_eq_true rfl) zw_1_139, sm_get _ _⟩, ⟨_, ⟨sn_bipush dX7_shuts_17 (by decide +kernel), sm_const _⟩, ⟨_, ⟨sn_cv_i (N := 2) (T := TX4) ztb_X4_weeksUntilShut dX7_shuts_19 rfl rfl zw_2_178 zw_2_179 zw_2_180 zw_1_6 zw_2_181 zmh_X4 zpd_X4_weeksUntilShut (Nat.le_of_ble_eq_true rfl) (Nat.le_of_ble_eq_true rfl) rfl rfl, sm_cv _ _ _ _ _ _ _⟩, ⟨_, ⟨sn_ri (len := 1) dX7_shuts_22 rfl, sm_ri⟩, trivial⟩⟩⟩⟩⟩
theorem kX7_shuts : ∀ pc, sx_BK sx_tb yX7_shuts.cls cX7_shuts 1 (some .int) ({ frames := 5, cells := 0, slots := 0, locals := 111 } : Room) false false 0 (fun _ => 0) pc (BX7_shuts pc) := fun pc => sx_bk_if (kX7_shuts_0) (sx_bk_if (kX7_shuts_13) (trivial))
theorem okX7_shuts : sx_ok sx_tb BX7_shuts (yX7_shuts, cX7_shuts, 1, some .int, { frames := 5, cells := 0, slots := 0, locals := 111 }) := ⟨by decide, by decide +kernel, false, (fun h => by cases h), kX7_shuts⟩
theorem dX7_bestStop_0 : decode cX7_bestStop 0 = .ok (.aload_n 0, 1) := by decide +kernel
theorem dX7_bestStop_1 : decode cX7_bestStop 1 = .ok (.getfield 26, 3) := by decide +kernel
theorem dX7_bestStop_4 : decode cX7_bestStop 4 = .ok (.iload_n 1, 1) := by decide +kernel
theorem dX7_bestStop_5 : decode cX7_bestStop 5 = .ok (.invokevirtual 133, 3) := by decide +kernel
theorem dX7_bestStop_8 : decode cX7_bestStop 8 = .ok (.ifCond .eq 22, 3) := by decide +kernel
theorem dX7_bestStop_11 : decode cX7_bestStop 11 = .ok (.iload_n 2, 1) := by decide +kernel
theorem dX7_bestStop_12 : decode cX7_bestStop 12 = .ok (.iconst 1, 1) := by decide +kernel
theorem dX7_bestStop_13 : decode cX7_bestStop 13 = .ok (.bipush 60, 2) := by decide +kernel
theorem dX7_bestStop_15 : decode cX7_bestStop 15 = .ok (.invokestatic 70, 3) := by decide +kernel
theorem dX7_bestStop_18 : decode cX7_bestStop 18 = .ok (.ifCond .eq 12, 3) := by decide +kernel
theorem dX7_bestStop_21 : decode cX7_bestStop 21 = .ok (.iload_n 3, 1) := by decide +kernel
theorem dX7_bestStop_22 : decode cX7_bestStop 22 = .ok (.iconst 0, 1) := by decide +kernel
theorem dX7_bestStop_23 : decode cX7_bestStop 23 = .ok (.iconst 1, 1) := by decide +kernel
theorem dX7_bestStop_24 : decode cX7_bestStop 24 = .ok (.invokestatic 70, 3) := by decide +kernel
theorem dX7_bestStop_27 : decode cX7_bestStop 27 = .ok (.ifCond .ne 6, 3) := by decide +kernel
theorem dX7_bestStop_30 : decode cX7_bestStop 30 = .ok (.ldc 74, 2) := by decide +kernel
theorem dX7_bestStop_32 : decode cX7_bestStop 32 = .ok (.ireturn, 1) := by decide +kernel
theorem dX7_bestStop_33 : decode cX7_bestStop 33 = .ok (.aload_n 0, 1) := by decide +kernel
theorem dX7_bestStop_34 : decode cX7_bestStop 34 = .ok (.getfield 45, 3) := by decide +kernel
theorem dX7_bestStop_37 : decode cX7_bestStop 37 = .ok (.iload_n 1, 1) := by decide +kernel
theorem dX7_bestStop_38 : decode cX7_bestStop 38 = .ok (.iload_n 2, 1) := by decide +kernel
theorem dX7_bestStop_39 : decode cX7_bestStop 39 = .ok (.iload_n 3, 1) := by decide +kernel
theorem dX7_bestStop_40 : decode cX7_bestStop 40 = .ok (.invokevirtual 153, 3) := by decide +kernel
theorem dX7_bestStop_43 : decode cX7_bestStop 43 = .ok (.ireturn, 1) := by decide +kernel
def bX7_bestStop_0 : List sx_S := [si_al 0, si_get 6 2, si_il 1, si_cv 2 24 1 0 0 0 0, si_if1 (fun x => x = 0) 30 [false, false, false, false], si_il 2, si_const 1, si_const (nI 60), si_cs 121 3 0 0 0 0, si_if1 (fun x => x = 0) 30 [false, false, false, false], si_il 3, si_const 0, si_const 1, si_cs 121 3 0 0 0 0, si_if1 (fun x => ¬ x = 0) 33 [true, true, true, true], si_go 30 [false, false, false, false]]
def bX7_bestStop_30 : List sx_S := [si_const (-1000001), si_ri]
def bX7_bestStop_33 : List sx_S := [si_al 0, si_get 6 5, si_il 1, si_il 2, si_il 3, si_cv 3 50 3 0 0 0 0, si_ri]
def BX7_bestStop : Nat → List sx_S := fun pc => if pc = 0 then bX7_bestStop_0 else if pc = 30 then bX7_bestStop_30 else if pc = 33 then bX7_bestStop_33 else []
set_option maxRecDepth 20000 in
theorem kX7_bestStop_0 : sx_BK sx_tb yX7_bestStop.cls cX7_bestStop 4 (some .int) ({ frames := 6, cells := 0, slots := 0, locals := 138 } : Room) false false 0 (fun _ => 0) 0 (bX7_bestStop_0) := ⟨_, ⟨sn_aload_n dX7_bestStop_0 rfl, sm_al _⟩, ⟨_, ⟨sn_get (C := RX7) (T := TX7) (N := 9) dX7_bestStop_1 rfl zinX7 (Nat.le_of_ble_eq_true rfl) zw_1_136, sm_get _ _⟩, ⟨_, ⟨sn_iload_n dX7_bestStop_4 rfl, sm_il _⟩, ⟨_, ⟨sn_cv_z (N := 1) (T := TX2) ztb_X2_has dX7_bestStop_5 rfl rfl zw_2_123 zw_2_92 zw_2_93 zw_1_4 zw_2_94 zmh_X2 zpd_X2_has (Nat.le_of_ble_eq_true rfl) (Nat.le_of_ble_eq_true rfl) rfl rfl, sm_cv _ _ _ _ _ _ _⟩, ⟨_, ⟨sn_if_eq dX7_bestStop_8 (by decide +kernel) rfl, sm_if1 _ _ _⟩, ⟨_, ⟨sn_iload_n dX7_bestStop_11 rfl, sm_il _⟩, ⟨_, ⟨sn_iconst dX7_bestStop_12 (by decide +kernel), sm_const _⟩, ⟨_, ⟨sn_bipush dX7_bestStop_13 (by decide +kernel), sm_const _⟩, ⟨_, ⟨sn_cs_z ztb_X7_within dX7_bestStop_15 zw_1_169 zw_1_170 zw_1_1 zw_1_171 zmh_X7 zpd_X7_within (Nat.le_of_ble_eq_true rfl) (Nat.le_of_ble_eq_true rfl) rfl rfl, sm_cs _ _ _ _ _ _⟩, ⟨_, ⟨sn_if_eq dX7_bestStop_18 (by decide +kernel) rfl, sm_if1 _ _ _⟩, ⟨_, ⟨sn_iload_n dX7_bestStop_21 rfl, sm_il _⟩, ⟨_, ⟨sn_iconst dX7_bestStop_22 (by decide +kernel), sm_const _⟩, ⟨_, ⟨sn_iconst dX7_bestStop_23 (by decide +kernel), sm_const _⟩, ⟨_, ⟨sn_cs_z ztb_X7_within dX7_bestStop_24 zw_1_169 zw_1_170 zw_1_1 zw_1_171 zmh_X7 zpd_X7_within (Nat.le_of_ble_eq_true rfl) (Nat.le_of_ble_eq_true rfl) rfl rfl, sm_cs _ _ _ _ _ _⟩, ⟨_, ⟨sn_if_ne dX7_bestStop_27 (by decide +kernel) rfl, sm_if1 _ _ _⟩, ⟨_, ⟨sn_fall (len := 0) rfl rfl, sm_go _ _⟩, trivial⟩⟩⟩⟩⟩⟩⟩⟩⟩⟩⟩⟩⟩⟩⟩⟩
set_option maxRecDepth 20000 in
theorem kX7_bestStop_30 : sx_BK sx_tb yX7_bestStop.cls cX7_bestStop 4 (some .int) ({ frames := 6, cells := 0, slots := 0, locals := 138 } : Room) false false 0 (fun _ => 0) 30 (bX7_bestStop_30) := ⟨_, ⟨sn_ldc dX7_bestStop_30 zw_1_172, sm_const _⟩, ⟨_, ⟨sn_ri (len := 1) dX7_bestStop_32 rfl, sm_ri⟩, trivial⟩⟩
set_option maxRecDepth 20000 in
theorem kX7_bestStop_33 : sx_BK sx_tb yX7_bestStop.cls cX7_bestStop 4 (some .int) ({ frames := 6, cells := 0, slots := 0, locals := 138 } : Room) false false 0 (fun _ => 0) 33 (bX7_bestStop_33) := ⟨_, ⟨sn_aload_n dX7_bestStop_33 rfl, sm_al _⟩, ⟨_, ⟨sn_get (C := RX7) (T := TX7) (N := 9) dX7_bestStop_34 rfl zinX7 (Nat.le_of_ble_eq_true rfl) zw_1_139, sm_get _ _⟩, ⟨_, ⟨sn_iload_n dX7_bestStop_37 rfl, sm_il _⟩, ⟨_, ⟨sn_iload_n dX7_bestStop_38 rfl, sm_il _⟩, ⟨_, ⟨sn_iload_n dX7_bestStop_39 rfl, sm_il _⟩, ⟨_, ⟨sn_cv_i (N := 2) (T := TX4) ztb_X4_stopForShop dX7_bestStop_40 rfl rfl zw_2_187 zw_2_188 zw_2_189 zw_1_6 zw_2_190 zmh_X4 zpd_X4_stopForShop (Nat.le_of_ble_eq_true rfl) (Nat.le_of_ble_eq_true rfl) rfl rfl, sm_cv _ _ _ _ _ _ _⟩, ⟨_, ⟨sn_ri (len := 1) dX7_bestStop_43 rfl, sm_ri⟩, trivial⟩⟩⟩⟩⟩⟩⟩
theorem kX7_bestStop : ∀ pc, sx_BK sx_tb yX7_bestStop.cls cX7_bestStop 4 (some .int) ({ frames := 6, cells := 0, slots := 0, locals := 138 } : Room) false false 0 (fun _ => 0) pc (BX7_bestStop pc) := fun pc => sx_bk_if (kX7_bestStop_0) (sx_bk_if (kX7_bestStop_30) (sx_bk_if (kX7_bestStop_33) (trivial)))
theorem okX7_bestStop : sx_ok sx_tb BX7_bestStop (yX7_bestStop, cX7_bestStop, 4, some .int, { frames := 6, cells := 0, slots := 0, locals := 138 }) := ⟨by decide, by decide +kernel, false, (fun h => by cases h), kX7_bestStop⟩
theorem dX7_whom_0 : decode cX7_whom 0 = .ok (.aload_n 0, 1) := by decide +kernel
theorem dX7_whom_1 : decode cX7_whom 1 = .ok (.getfield 26, 3) := by decide +kernel
theorem dX7_whom_4 : decode cX7_whom 4 = .ok (.invokevirtual 121, 3) := by decide +kernel
theorem dX7_whom_7 : decode cX7_whom 7 = .ok (.ifCond .ne 6, 3) := by decide +kernel
theorem dX7_whom_10 : decode cX7_whom 10 = .ok (.ldc 117, 2) := by decide +kernel
theorem dX7_whom_12 : decode cX7_whom 12 = .ok (.ireturn, 1) := by decide +kernel
theorem dX7_whom_13 : decode cX7_whom 13 = .ok (.iload_n 1, 1) := by decide +kernel
theorem dX7_whom_14 : decode cX7_whom 14 = .ok (.iconst 1, 1) := by decide +kernel
theorem dX7_whom_15 : decode cX7_whom 15 = .ok (.bipush 60, 2) := by decide +kernel
theorem dX7_whom_17 : decode cX7_whom 17 = .ok (.invokestatic 70, 3) := by decide +kernel
theorem dX7_whom_20 : decode cX7_whom 20 = .ok (.ifCond .eq 12, 3) := by decide +kernel
theorem dX7_whom_23 : decode cX7_whom 23 = .ok (.iload_n 2, 1) := by decide +kernel
theorem dX7_whom_24 : decode cX7_whom 24 = .ok (.iconst 0, 1) := by decide +kernel
theorem dX7_whom_25 : decode cX7_whom 25 = .ok (.iconst 1, 1) := by decide +kernel
theorem dX7_whom_26 : decode cX7_whom 26 = .ok (.invokestatic 70, 3) := by decide +kernel
theorem dX7_whom_29 : decode cX7_whom 29 = .ok (.ifCond .ne 6, 3) := by decide +kernel
theorem dX7_whom_32 : decode cX7_whom 32 = .ok (.ldc 74, 2) := by decide +kernel
theorem dX7_whom_34 : decode cX7_whom 34 = .ok (.ireturn, 1) := by decide +kernel
theorem dX7_whom_35 : decode cX7_whom 35 = .ok (.aload_n 0, 1) := by decide +kernel
theorem dX7_whom_36 : decode cX7_whom 36 = .ok (.getfield 45, 3) := by decide +kernel
theorem dX7_whom_39 : decode cX7_whom 39 = .ok (.iload_n 1, 1) := by decide +kernel
theorem dX7_whom_40 : decode cX7_whom 40 = .ok (.iload_n 2, 1) := by decide +kernel
theorem dX7_whom_41 : decode cX7_whom 41 = .ok (.invokevirtual 156, 3) := by decide +kernel
theorem dX7_whom_44 : decode cX7_whom 44 = .ok (.ireturn, 1) := by decide +kernel
def bX7_whom_0 : List sx_S := [si_al 0, si_get 6 2, si_cv 2 23 0 0 0 0 0, si_if1 (fun x => ¬ x = 0) 13 [true, true, true], si_const (-1000002), si_ri]
def bX7_whom_13 : List sx_S := [si_il 1, si_const 1, si_const (nI 60), si_cs 121 3 0 0 0 0, si_if1 (fun x => x = 0) 32 [false, false, false], si_il 2, si_const 0, si_const 1, si_cs 121 3 0 0 0 0, si_if1 (fun x => ¬ x = 0) 35 [true, true, true], si_go 32 [false, false, false]]
def bX7_whom_32 : List sx_S := [si_const (-1000001), si_ri]
def bX7_whom_35 : List sx_S := [si_al 0, si_get 6 5, si_il 1, si_il 2, si_cv 3 53 2 0 0 0 0, si_ri]
def BX7_whom : Nat → List sx_S := fun pc => if pc = 0 then bX7_whom_0 else if pc = 13 then bX7_whom_13 else if pc = 32 then bX7_whom_32 else if pc = 35 then bX7_whom_35 else []
set_option maxRecDepth 20000 in
theorem kX7_whom_0 : sx_BK sx_tb yX7_whom.cls cX7_whom 3 (some .int) ({ frames := 7, cells := 0, slots := 0, locals := 162 } : Room) false false 0 (fun _ => 0) 0 (bX7_whom_0) := ⟨_, ⟨sn_aload_n dX7_whom_0 rfl, sm_al _⟩, ⟨_, ⟨sn_get (C := RX7) (T := TX7) (N := 9) dX7_whom_1 rfl zinX7 (Nat.le_of_ble_eq_true rfl) zw_1_136, sm_get _ _⟩, ⟨_, ⟨sn_cv_z (N := 1) (T := TX2) ztb_X2_isThere dX7_whom_4 rfl rfl zw_2_67 zw_2_68 zw_2_69 zw_1_4 zw_2_70 zmh_X2 zpd_X2_isThere (Nat.le_of_ble_eq_true rfl) (Nat.le_of_ble_eq_true rfl) rfl rfl, sm_cv _ _ _ _ _ _ _⟩, ⟨_, ⟨sn_if_ne dX7_whom_7 (by decide +kernel) rfl, sm_if1 _ _ _⟩, ⟨_, ⟨sn_ldc dX7_whom_10 zw_2_57, sm_const _⟩, ⟨_, ⟨sn_ri (len := 1) dX7_whom_12 rfl, sm_ri⟩, trivial⟩⟩⟩⟩⟩⟩
set_option maxRecDepth 20000 in
theorem kX7_whom_13 : sx_BK sx_tb yX7_whom.cls cX7_whom 3 (some .int) ({ frames := 7, cells := 0, slots := 0, locals := 162 } : Room) false false 0 (fun _ => 0) 13 (bX7_whom_13) := ⟨_, ⟨sn_iload_n dX7_whom_13 rfl, sm_il _⟩, ⟨_, ⟨sn_iconst dX7_whom_14 (by decide +kernel), sm_const _⟩, ⟨_, ⟨sn_bipush dX7_whom_15 (by decide +kernel), sm_const _⟩, ⟨_, ⟨sn_cs_z ztb_X7_within dX7_whom_17 zw_1_169 zw_1_170 zw_1_1 zw_1_171 zmh_X7 zpd_X7_within (Nat.le_of_ble_eq_true rfl) (Nat.le_of_ble_eq_true rfl) rfl rfl, sm_cs _ _ _ _ _ _⟩, ⟨_, ⟨sn_if_eq dX7_whom_20 (by decide +kernel) rfl, sm_if1 _ _ _⟩, ⟨_, ⟨sn_iload_n dX7_whom_23 rfl, sm_il _⟩, ⟨_, ⟨sn_iconst dX7_whom_24 (by decide +kernel), sm_const _⟩, ⟨_, ⟨sn_iconst dX7_whom_25 (by decide +kernel), sm_const _⟩, ⟨_, ⟨sn_cs_z ztb_X7_within dX7_whom_26 zw_1_169 zw_1_170 zw_1_1 zw_1_171 zmh_X7 zpd_X7_within (Nat.le_of_ble_eq_true rfl) (Nat.le_of_ble_eq_true rfl) rfl rfl, sm_cs _ _ _ _ _ _⟩, ⟨_, ⟨sn_if_ne dX7_whom_29 (by decide +kernel) rfl, sm_if1 _ _ _⟩, ⟨_, ⟨sn_fall (len := 0) rfl rfl, sm_go _ _⟩, trivial⟩⟩⟩⟩⟩⟩⟩⟩⟩⟩⟩
set_option maxRecDepth 20000 in
theorem kX7_whom_32 : sx_BK sx_tb yX7_whom.cls cX7_whom 3 (some .int) ({ frames := 7, cells := 0, slots := 0, locals := 162 } : Room) false false 0 (fun _ => 0) 32 (bX7_whom_32) := ⟨_, ⟨sn_ldc dX7_whom_32 zw_1_172, sm_const _⟩, ⟨_, ⟨sn_ri (len := 1) dX7_whom_34 rfl, sm_ri⟩, trivial⟩⟩
set_option maxRecDepth 20000 in
theorem kX7_whom_35 : sx_BK sx_tb yX7_whom.cls cX7_whom 3 (some .int) ({ frames := 7, cells := 0, slots := 0, locals := 162 } : Room) false false 0 (fun _ => 0) 35 (bX7_whom_35) := ⟨_, ⟨sn_aload_n dX7_whom_35 rfl, sm_al _⟩, ⟨_, ⟨sn_get (C := RX7) (T := TX7) (N := 9) dX7_whom_36 rfl zinX7 (Nat.le_of_ble_eq_true rfl) zw_1_139, sm_get _ _⟩, ⟨_, ⟨sn_iload_n dX7_whom_39 rfl, sm_il _⟩, ⟨_, ⟨sn_iload_n dX7_whom_40 rfl, sm_il _⟩, ⟨_, ⟨sn_cv_i (N := 2) (T := TX4) ztb_X4_bestSet dX7_whom_41 rfl rfl zw_2_199 zw_2_200 zw_2_201 zw_1_6 zw_2_202 zmh_X4 zpd_X4_bestSet (Nat.le_of_ble_eq_true rfl) (Nat.le_of_ble_eq_true rfl) rfl rfl, sm_cv _ _ _ _ _ _ _⟩, ⟨_, ⟨sn_ri (len := 1) dX7_whom_44 rfl, sm_ri⟩, trivial⟩⟩⟩⟩⟩⟩
theorem kX7_whom : ∀ pc, sx_BK sx_tb yX7_whom.cls cX7_whom 3 (some .int) ({ frames := 7, cells := 0, slots := 0, locals := 162 } : Room) false false 0 (fun _ => 0) pc (BX7_whom pc) := fun pc => sx_bk_if (kX7_whom_0) (sx_bk_if (kX7_whom_13) (sx_bk_if (kX7_whom_32) (sx_bk_if (kX7_whom_35) (trivial))))
theorem okX7_whom : sx_ok sx_tb BX7_whom (yX7_whom, cX7_whom, 3, some .int, { frames := 7, cells := 0, slots := 0, locals := 162 }) := ⟨by decide, by decide +kernel, false, (fun h => by cases h), kX7_whom⟩
theorem dX7_stands_0 : decode cX7_stands 0 = .ok (.aload_n 0, 1) := by decide +kernel
theorem dX7_stands_1 : decode cX7_stands 1 = .ok (.getfield 26, 3) := by decide +kernel
theorem dX7_stands_4 : decode cX7_stands 4 = .ok (.invokevirtual 121, 3) := by decide +kernel
theorem dX7_stands_7 : decode cX7_stands 7 = .ok (.ifCond .ne 6, 3) := by decide +kernel
theorem dX7_stands_10 : decode cX7_stands 10 = .ok (.ldc 117, 2) := by decide +kernel
theorem dX7_stands_12 : decode cX7_stands 12 = .ok (.ireturn, 1) := by decide +kernel
theorem dX7_stands_13 : decode cX7_stands 13 = .ok (.aload_n 0, 1) := by decide +kernel
theorem dX7_stands_14 : decode cX7_stands 14 = .ok (.getfield 45, 3) := by decide +kernel
theorem dX7_stands_17 : decode cX7_stands 17 = .ok (.invokevirtual 159, 3) := by decide +kernel
theorem dX7_stands_20 : decode cX7_stands 20 = .ok (.ireturn, 1) := by decide +kernel
def bX7_stands_0 : List sx_S := [si_al 0, si_get 6 2, si_cv 2 23 0 0 0 0 0, si_if1 (fun x => ¬ x = 0) 13 [true], si_const (-1000002), si_ri]
def bX7_stands_13 : List sx_S := [si_al 0, si_get 6 5, si_cv 3 55 0 0 0 0 0, si_ri]
def BX7_stands : Nat → List sx_S := fun pc => if pc = 0 then bX7_stands_0 else if pc = 13 then bX7_stands_13 else []
set_option maxRecDepth 20000 in
theorem kX7_stands_0 : sx_BK sx_tb yX7_stands.cls cX7_stands 1 (some .int) ({ frames := 7, cells := 0, slots := 0, locals := 155 } : Room) false false 0 (fun _ => 0) 0 (bX7_stands_0) := ⟨_, ⟨sn_aload_n dX7_stands_0 rfl, sm_al _⟩, ⟨_, ⟨sn_get (C := RX7) (T := TX7) (N := 9) dX7_stands_1 rfl zinX7 (Nat.le_of_ble_eq_true rfl) zw_1_136, sm_get _ _⟩, ⟨_, ⟨sn_cv_z (N := 1) (T := TX2) ztb_X2_isThere dX7_stands_4 rfl rfl zw_2_67 zw_2_68 zw_2_69 zw_1_4 zw_2_70 zmh_X2 zpd_X2_isThere (Nat.le_of_ble_eq_true rfl) (Nat.le_of_ble_eq_true rfl) rfl rfl, sm_cv _ _ _ _ _ _ _⟩, ⟨_, ⟨sn_if_ne dX7_stands_7 (by decide +kernel) rfl, sm_if1 _ _ _⟩, ⟨_, ⟨sn_ldc dX7_stands_10 zw_2_57, sm_const _⟩, ⟨_, ⟨sn_ri (len := 1) dX7_stands_12 rfl, sm_ri⟩, trivial⟩⟩⟩⟩⟩⟩
set_option maxRecDepth 20000 in
theorem kX7_stands_13 : sx_BK sx_tb yX7_stands.cls cX7_stands 1 (some .int) ({ frames := 7, cells := 0, slots := 0, locals := 155 } : Room) false false 0 (fun _ => 0) 13 (bX7_stands_13) := ⟨_, ⟨sn_aload_n dX7_stands_13 rfl, sm_al _⟩, ⟨_, ⟨sn_get (C := RX7) (T := TX7) (N := 9) dX7_stands_14 rfl zinX7 (Nat.le_of_ble_eq_true rfl) zw_1_139, sm_get _ _⟩, ⟨_, ⟨sn_cv_i (N := 2) (T := TX4) ztb_X4_longestStrike dX7_stands_17 rfl rfl zw_2_217 zw_2_218 zw_2_219 zw_1_6 zw_2_220 zmh_X4 zpd_X4_longestStrike (Nat.le_of_ble_eq_true rfl) (Nat.le_of_ble_eq_true rfl) rfl rfl, sm_cv _ _ _ _ _ _ _⟩, ⟨_, ⟨sn_ri (len := 1) dX7_stands_20 rfl, sm_ri⟩, trivial⟩⟩⟩⟩
theorem kX7_stands : ∀ pc, sx_BK sx_tb yX7_stands.cls cX7_stands 1 (some .int) ({ frames := 7, cells := 0, slots := 0, locals := 155 } : Room) false false 0 (fun _ => 0) pc (BX7_stands pc) := fun pc => sx_bk_if (kX7_stands_0) (sx_bk_if (kX7_stands_13) (trivial))
theorem okX7_stands : sx_ok sx_tb BX7_stands (yX7_stands, cX7_stands, 1, some .int, { frames := 7, cells := 0, slots := 0, locals := 155 }) := ⟨by decide, by decide +kernel, false, (fun h => by cases h), kX7_stands⟩
theorem dX7_dear_0 : decode cX7_dear 0 = .ok (.aload_n 0, 1) := by decide +kernel
theorem dX7_dear_1 : decode cX7_dear 1 = .ok (.getfield 26, 3) := by decide +kernel
theorem dX7_dear_4 : decode cX7_dear 4 = .ok (.invokevirtual 121, 3) := by decide +kernel
theorem dX7_dear_7 : decode cX7_dear 7 = .ok (.ifCond .ne 6, 3) := by decide +kernel
theorem dX7_dear_10 : decode cX7_dear 10 = .ok (.ldc 117, 2) := by decide +kernel
theorem dX7_dear_12 : decode cX7_dear 12 = .ok (.ireturn, 1) := by decide +kernel
theorem dX7_dear_13 : decode cX7_dear 13 = .ok (.iload_n 1, 1) := by decide +kernel
theorem dX7_dear_14 : decode cX7_dear 14 = .ok (.iconst 1, 1) := by decide +kernel
theorem dX7_dear_15 : decode cX7_dear 15 = .ok (.bipush 60, 2) := by decide +kernel
theorem dX7_dear_17 : decode cX7_dear 17 = .ok (.invokestatic 70, 3) := by decide +kernel
theorem dX7_dear_20 : decode cX7_dear 20 = .ok (.ifCond .ne 6, 3) := by decide +kernel
theorem dX7_dear_23 : decode cX7_dear 23 = .ok (.ldc 74, 2) := by decide +kernel
theorem dX7_dear_25 : decode cX7_dear 25 = .ok (.ireturn, 1) := by decide +kernel
theorem dX7_dear_26 : decode cX7_dear 26 = .ok (.aload_n 0, 1) := by decide +kernel
theorem dX7_dear_27 : decode cX7_dear 27 = .ok (.getfield 45, 3) := by decide +kernel
theorem dX7_dear_30 : decode cX7_dear 30 = .ok (.iload_n 1, 1) := by decide +kernel
theorem dX7_dear_31 : decode cX7_dear 31 = .ok (.invokevirtual 162, 3) := by decide +kernel
theorem dX7_dear_34 : decode cX7_dear 34 = .ok (.ireturn, 1) := by decide +kernel
def bX7_dear_0 : List sx_S := [si_al 0, si_get 6 2, si_cv 2 23 0 0 0 0 0, si_if1 (fun x => ¬ x = 0) 13 [true, true], si_const (-1000002), si_ri]
def bX7_dear_13 : List sx_S := [si_il 1, si_const 1, si_const (nI 60), si_cs 121 3 0 0 0 0, si_if1 (fun x => ¬ x = 0) 26 [true, true], si_const (-1000001), si_ri]
def bX7_dear_26 : List sx_S := [si_al 0, si_get 6 5, si_il 1, si_cv 3 56 1 0 0 0 0, si_ri]
def BX7_dear : Nat → List sx_S := fun pc => if pc = 0 then bX7_dear_0 else if pc = 13 then bX7_dear_13 else if pc = 26 then bX7_dear_26 else []
set_option maxRecDepth 20000 in
theorem kX7_dear_0 : sx_BK sx_tb yX7_dear.cls cX7_dear 2 (some .int) ({ frames := 7, cells := 0, slots := 0, locals := 156 } : Room) false false 0 (fun _ => 0) 0 (bX7_dear_0) := ⟨_, ⟨sn_aload_n dX7_dear_0 rfl, sm_al _⟩, ⟨_, ⟨sn_get (C := RX7) (T := TX7) (N := 9) dX7_dear_1 rfl zinX7 (Nat.le_of_ble_eq_true rfl) zw_1_136, sm_get _ _⟩, ⟨_, ⟨sn_cv_z (N := 1) (T := TX2) ztb_X2_isThere dX7_dear_4 rfl rfl zw_2_67 zw_2_68 zw_2_69 zw_1_4 zw_2_70 zmh_X2 zpd_X2_isThere (Nat.le_of_ble_eq_true rfl) (Nat.le_of_ble_eq_true rfl) rfl rfl, sm_cv _ _ _ _ _ _ _⟩, ⟨_, ⟨sn_if_ne dX7_dear_7 (by decide +kernel) rfl, sm_if1 _ _ _⟩, ⟨_, ⟨sn_ldc dX7_dear_10 zw_2_57, sm_const _⟩, ⟨_, ⟨sn_ri (len := 1) dX7_dear_12 rfl, sm_ri⟩, trivial⟩⟩⟩⟩⟩⟩
set_option maxRecDepth 20000 in
theorem kX7_dear_13 : sx_BK sx_tb yX7_dear.cls cX7_dear 2 (some .int) ({ frames := 7, cells := 0, slots := 0, locals := 156 } : Room) false false 0 (fun _ => 0) 13 (bX7_dear_13) := ⟨_, ⟨sn_iload_n dX7_dear_13 rfl, sm_il _⟩, ⟨_, ⟨sn_iconst dX7_dear_14 (by decide +kernel), sm_const _⟩, ⟨_, ⟨sn_bipush dX7_dear_15 (by decide +kernel), sm_const _⟩, ⟨_, ⟨sn_cs_z ztb_X7_within dX7_dear_17 zw_1_169 zw_1_170 zw_1_1 zw_1_171 zmh_X7 zpd_X7_within (Nat.le_of_ble_eq_true rfl) (Nat.le_of_ble_eq_true rfl) rfl rfl, sm_cs _ _ _ _ _ _⟩, ⟨_, ⟨sn_if_ne dX7_dear_20 (by decide +kernel) rfl, sm_if1 _ _ _⟩, ⟨_, ⟨sn_ldc dX7_dear_23 zw_1_172, sm_const _⟩, ⟨_, ⟨sn_ri (len := 1) dX7_dear_25 rfl, sm_ri⟩, trivial⟩⟩⟩⟩⟩⟩⟩
set_option maxRecDepth 20000 in
theorem kX7_dear_26 : sx_BK sx_tb yX7_dear.cls cX7_dear 2 (some .int) ({ frames := 7, cells := 0, slots := 0, locals := 156 } : Room) false false 0 (fun _ => 0) 26 (bX7_dear_26) := ⟨_, ⟨sn_aload_n dX7_dear_26 rfl, sm_al _⟩, ⟨_, ⟨sn_get (C := RX7) (T := TX7) (N := 9) dX7_dear_27 rfl zinX7 (Nat.le_of_ble_eq_true rfl) zw_1_139, sm_get _ _⟩, ⟨_, ⟨sn_iload_n dX7_dear_30 rfl, sm_il _⟩, ⟨_, ⟨sn_cv_i (N := 2) (T := TX4) ztb_X4_leastDearer dX7_dear_31 rfl rfl zw_2_229 zw_2_230 zw_2_231 zw_1_6 zw_2_232 zmh_X4 zpd_X4_leastDearer (Nat.le_of_ble_eq_true rfl) (Nat.le_of_ble_eq_true rfl) rfl rfl, sm_cv _ _ _ _ _ _ _⟩, ⟨_, ⟨sn_ri (len := 1) dX7_dear_34 rfl, sm_ri⟩, trivial⟩⟩⟩⟩⟩
theorem kX7_dear : ∀ pc, sx_BK sx_tb yX7_dear.cls cX7_dear 2 (some .int) ({ frames := 7, cells := 0, slots := 0, locals := 156 } : Room) false false 0 (fun _ => 0) pc (BX7_dear pc) := fun pc => sx_bk_if (kX7_dear_0) (sx_bk_if (kX7_dear_13) (sx_bk_if (kX7_dear_26) (trivial)))
theorem okX7_dear : sx_ok sx_tb BX7_dear (yX7_dear, cX7_dear, 2, some .int, { frames := 7, cells := 0, slots := 0, locals := 156 }) := ⟨by decide, by decide +kernel, false, (fun h => by cases h), kX7_dear⟩
theorem dX7_rogue_0 : decode cX7_rogue 0 = .ok (.aload_n 0, 1) := by decide +kernel
theorem dX7_rogue_1 : decode cX7_rogue 1 = .ok (.getfield 26, 3) := by decide +kernel
theorem dX7_rogue_4 : decode cX7_rogue 4 = .ok (.iload_n 1, 1) := by decide +kernel
theorem dX7_rogue_5 : decode cX7_rogue 5 = .ok (.invokevirtual 133, 3) := by decide +kernel
theorem dX7_rogue_8 : decode cX7_rogue 8 = .ok (.ifCond .eq 22, 3) := by decide +kernel
theorem dX7_rogue_11 : decode cX7_rogue 11 = .ok (.iload_n 2, 1) := by decide +kernel
theorem dX7_rogue_12 : decode cX7_rogue 12 = .ok (.iconst 1, 1) := by decide +kernel
theorem dX7_rogue_13 : decode cX7_rogue 13 = .ok (.bipush 60, 2) := by decide +kernel
theorem dX7_rogue_15 : decode cX7_rogue 15 = .ok (.invokestatic 70, 3) := by decide +kernel
theorem dX7_rogue_18 : decode cX7_rogue 18 = .ok (.ifCond .eq 12, 3) := by decide +kernel
theorem dX7_rogue_21 : decode cX7_rogue 21 = .ok (.iload_n 3, 1) := by decide +kernel
theorem dX7_rogue_22 : decode cX7_rogue 22 = .ok (.iconst 0, 1) := by decide +kernel
theorem dX7_rogue_23 : decode cX7_rogue 23 = .ok (.iconst 1, 1) := by decide +kernel
theorem dX7_rogue_24 : decode cX7_rogue 24 = .ok (.invokestatic 70, 3) := by decide +kernel
theorem dX7_rogue_27 : decode cX7_rogue 27 = .ok (.ifCond .ne 6, 3) := by decide +kernel
theorem dX7_rogue_30 : decode cX7_rogue 30 = .ok (.ldc 74, 2) := by decide +kernel
theorem dX7_rogue_32 : decode cX7_rogue 32 = .ok (.ireturn, 1) := by decide +kernel
theorem dX7_rogue_33 : decode cX7_rogue 33 = .ok (.aload_n 0, 1) := by decide +kernel
theorem dX7_rogue_34 : decode cX7_rogue 34 = .ok (.getfield 26, 3) := by decide +kernel
theorem dX7_rogue_37 : decode cX7_rogue 37 = .ok (.iload_n 1, 1) := by decide +kernel
theorem dX7_rogue_38 : decode cX7_rogue 38 = .ok (.invokevirtual 165, 3) := by decide +kernel
theorem dX7_rogue_41 : decode cX7_rogue 41 = .ok (.ifCond .ne 6, 3) := by decide +kernel
theorem dX7_rogue_44 : decode cX7_rogue 44 = .ok (.ldc 117, 2) := by decide +kernel
theorem dX7_rogue_46 : decode cX7_rogue 46 = .ok (.ireturn, 1) := by decide +kernel
theorem dX7_rogue_47 : decode cX7_rogue 47 = .ok (.aload_n 0, 1) := by decide +kernel
theorem dX7_rogue_48 : decode cX7_rogue 48 = .ok (.getfield 45, 3) := by decide +kernel
theorem dX7_rogue_51 : decode cX7_rogue 51 = .ok (.iload_n 1, 1) := by decide +kernel
theorem dX7_rogue_52 : decode cX7_rogue 52 = .ok (.iload_n 2, 1) := by decide +kernel
theorem dX7_rogue_53 : decode cX7_rogue 53 = .ok (.iload_n 3, 1) := by decide +kernel
theorem dX7_rogue_54 : decode cX7_rogue 54 = .ok (.invokevirtual 168, 3) := by decide +kernel
theorem dX7_rogue_57 : decode cX7_rogue 57 = .ok (.ireturn, 1) := by decide +kernel
def bX7_rogue_0 : List sx_S := [si_al 0, si_get 6 2, si_il 1, si_cv 2 24 1 0 0 0 0, si_if1 (fun x => x = 0) 30 [false, false, false, false], si_il 2, si_const 1, si_const (nI 60), si_cs 121 3 0 0 0 0, si_if1 (fun x => x = 0) 30 [false, false, false, false], si_il 3, si_const 0, si_const 1, si_cs 121 3 0 0 0 0, si_if1 (fun x => ¬ x = 0) 33 [true, true, true, true], si_go 30 [false, false, false, false]]
def bX7_rogue_30 : List sx_S := [si_const (-1000001), si_ri]
def bX7_rogue_33 : List sx_S := [si_al 0, si_get 6 2, si_il 1, si_cv 2 25 1 0 0 0 0, si_if1 (fun x => ¬ x = 0) 47 [true, true, true, true], si_const (-1000002), si_ri]
def bX7_rogue_47 : List sx_S := [si_al 0, si_get 6 5, si_il 1, si_il 2, si_il 3, si_cv 3 51 3 0 0 0 0, si_ri]
def BX7_rogue : Nat → List sx_S := fun pc => if pc = 0 then bX7_rogue_0 else if pc = 30 then bX7_rogue_30 else if pc = 33 then bX7_rogue_33 else if pc = 47 then bX7_rogue_47 else []
set_option maxRecDepth 20000 in
theorem kX7_rogue_0 : sx_BK sx_tb yX7_rogue.cls cX7_rogue 4 (some .int) ({ frames := 6, cells := 0, slots := 0, locals := 138 } : Room) false false 0 (fun _ => 0) 0 (bX7_rogue_0) := ⟨_, ⟨sn_aload_n dX7_rogue_0 rfl, sm_al _⟩, ⟨_, ⟨sn_get (C := RX7) (T := TX7) (N := 9) dX7_rogue_1 rfl zinX7 (Nat.le_of_ble_eq_true rfl) zw_1_136, sm_get _ _⟩, ⟨_, ⟨sn_iload_n dX7_rogue_4 rfl, sm_il _⟩, ⟨_, ⟨sn_cv_z (N := 1) (T := TX2) ztb_X2_has dX7_rogue_5 rfl rfl zw_2_123 zw_2_92 zw_2_93 zw_1_4 zw_2_94 zmh_X2 zpd_X2_has (Nat.le_of_ble_eq_true rfl) (Nat.le_of_ble_eq_true rfl) rfl rfl, sm_cv _ _ _ _ _ _ _⟩, ⟨_, ⟨sn_if_eq dX7_rogue_8 (by decide +kernel) rfl, sm_if1 _ _ _⟩, ⟨_, ⟨sn_iload_n dX7_rogue_11 rfl, sm_il _⟩, ⟨_, ⟨sn_iconst dX7_rogue_12 (by decide +kernel), sm_const _⟩, ⟨_, ⟨sn_bipush dX7_rogue_13 (by decide +kernel), sm_const _⟩, ⟨_, ⟨sn_cs_z ztb_X7_within dX7_rogue_15 zw_1_169 zw_1_170 zw_1_1 zw_1_171 zmh_X7 zpd_X7_within (Nat.le_of_ble_eq_true rfl) (Nat.le_of_ble_eq_true rfl) rfl rfl, sm_cs _ _ _ _ _ _⟩, ⟨_, ⟨sn_if_eq dX7_rogue_18 (by decide +kernel) rfl, sm_if1 _ _ _⟩, ⟨_, ⟨sn_iload_n dX7_rogue_21 rfl, sm_il _⟩, ⟨_, ⟨sn_iconst dX7_rogue_22 (by decide +kernel), sm_const _⟩, ⟨_, ⟨sn_iconst dX7_rogue_23 (by decide +kernel), sm_const _⟩, ⟨_, ⟨sn_cs_z ztb_X7_within dX7_rogue_24 zw_1_169 zw_1_170 zw_1_1 zw_1_171 zmh_X7 zpd_X7_within (Nat.le_of_ble_eq_true rfl) (Nat.le_of_ble_eq_true rfl) rfl rfl, sm_cs _ _ _ _ _ _⟩, ⟨_, ⟨sn_if_ne dX7_rogue_27 (by decide +kernel) rfl, sm_if1 _ _ _⟩, ⟨_, ⟨sn_fall (len := 0) rfl rfl, sm_go _ _⟩, trivial⟩⟩⟩⟩⟩⟩⟩⟩⟩⟩⟩⟩⟩⟩⟩⟩
set_option maxRecDepth 20000 in
theorem kX7_rogue_30 : sx_BK sx_tb yX7_rogue.cls cX7_rogue 4 (some .int) ({ frames := 6, cells := 0, slots := 0, locals := 138 } : Room) false false 0 (fun _ => 0) 30 (bX7_rogue_30) := ⟨_, ⟨sn_ldc dX7_rogue_30 zw_1_172, sm_const _⟩, ⟨_, ⟨sn_ri (len := 1) dX7_rogue_32 rfl, sm_ri⟩, trivial⟩⟩
set_option maxRecDepth 20000 in
theorem kX7_rogue_33 : sx_BK sx_tb yX7_rogue.cls cX7_rogue 4 (some .int) ({ frames := 6, cells := 0, slots := 0, locals := 138 } : Room) false false 0 (fun _ => 0) 33 (bX7_rogue_33) := ⟨_, ⟨sn_aload_n dX7_rogue_33 rfl, sm_al _⟩, ⟨_, ⟨sn_get (C := RX7) (T := TX7) (N := 9) dX7_rogue_34 rfl zinX7 (Nat.le_of_ble_eq_true rfl) zw_1_136, sm_get _ _⟩, ⟨_, ⟨sn_iload_n dX7_rogue_37 rfl, sm_il _⟩, ⟨_, ⟨sn_cv_z (N := 1) (T := TX2) ztb_X2_comes dX7_rogue_38 rfl rfl zw_2_237 zw_2_88 zw_2_89 zw_1_4 zw_2_90 zmh_X2 zpd_X2_comes (Nat.le_of_ble_eq_true rfl) (Nat.le_of_ble_eq_true rfl) rfl rfl, sm_cv _ _ _ _ _ _ _⟩, ⟨_, ⟨sn_if_ne dX7_rogue_41 (by decide +kernel) rfl, sm_if1 _ _ _⟩, ⟨_, ⟨sn_ldc dX7_rogue_44 zw_2_57, sm_const _⟩, ⟨_, ⟨sn_ri (len := 1) dX7_rogue_46 rfl, sm_ri⟩, trivial⟩⟩⟩⟩⟩⟩⟩
set_option maxRecDepth 20000 in
theorem kX7_rogue_47 : sx_BK sx_tb yX7_rogue.cls cX7_rogue 4 (some .int) ({ frames := 6, cells := 0, slots := 0, locals := 138 } : Room) false false 0 (fun _ => 0) 47 (bX7_rogue_47) := ⟨_, ⟨sn_aload_n dX7_rogue_47 rfl, sm_al _⟩, ⟨_, ⟨sn_get (C := RX7) (T := TX7) (N := 9) dX7_rogue_48 rfl zinX7 (Nat.le_of_ble_eq_true rfl) zw_1_139, sm_get _ _⟩, ⟨_, ⟨sn_iload_n dX7_rogue_51 rfl, sm_il _⟩, ⟨_, ⟨sn_iload_n dX7_rogue_52 rfl, sm_il _⟩, ⟨_, ⟨sn_iload_n dX7_rogue_53 rfl, sm_il _⟩, ⟨_, ⟨sn_cv_i (N := 2) (T := TX4) ztb_X4_stopForRogue dX7_rogue_54 rfl rfl zw_2_238 zw_2_239 zw_3_0 zw_1_6 zw_3_1 zmh_X4 zpd_X4_stopForRogue (Nat.le_of_ble_eq_true rfl) (Nat.le_of_ble_eq_true rfl) rfl rfl, sm_cv _ _ _ _ _ _ _⟩, ⟨_, ⟨sn_ri (len := 1) dX7_rogue_57 rfl, sm_ri⟩, trivial⟩⟩⟩⟩⟩⟩⟩
theorem kX7_rogue : ∀ pc, sx_BK sx_tb yX7_rogue.cls cX7_rogue 4 (some .int) ({ frames := 6, cells := 0, slots := 0, locals := 138 } : Room) false false 0 (fun _ => 0) pc (BX7_rogue pc) := fun pc => sx_bk_if (kX7_rogue_0) (sx_bk_if (kX7_rogue_30) (sx_bk_if (kX7_rogue_33) (sx_bk_if (kX7_rogue_47) (trivial))))
theorem okX7_rogue : sx_ok sx_tb BX7_rogue (yX7_rogue, cX7_rogue, 4, some .int, { frames := 6, cells := 0, slots := 0, locals := 138 }) := ⟨by decide, by decide +kernel, false, (fun h => by cases h), kX7_rogue⟩
theorem dX7_who_0 : decode cX7_who 0 = .ok (.aload_n 0, 1) := by decide +kernel
theorem dX7_who_1 : decode cX7_who 1 = .ok (.getfield 26, 3) := by decide +kernel
theorem dX7_who_4 : decode cX7_who 4 = .ok (.iload_n 1, 1) := by decide +kernel
theorem dX7_who_5 : decode cX7_who 5 = .ok (.invokevirtual 133, 3) := by decide +kernel
theorem dX7_who_8 : decode cX7_who 8 = .ok (.ifCond .eq 21, 3) := by decide +kernel
theorem dX7_who_11 : decode cX7_who 11 = .ok (.iload_n 2, 1) := by decide +kernel
theorem dX7_who_12 : decode cX7_who 12 = .ok (.invokestatic 66, 3) := by decide +kernel
theorem dX7_who_15 : decode cX7_who 15 = .ok (.ifCond .eq 14, 3) := by decide +kernel
theorem dX7_who_18 : decode cX7_who 18 = .ok (.iload 4, 2) := by decide +kernel
theorem dX7_who_20 : decode cX7_who 20 = .ok (.iconst 1, 1) := by decide +kernel
theorem dX7_who_21 : decode cX7_who 21 = .ok (.bipush 12, 2) := by decide +kernel
theorem dX7_who_23 : decode cX7_who 23 = .ok (.invokestatic 70, 3) := by decide +kernel
theorem dX7_who_26 : decode cX7_who 26 = .ok (.ifCond .ne 6, 3) := by decide +kernel
theorem dX7_who_29 : decode cX7_who 29 = .ok (.ldc 74, 2) := by decide +kernel
theorem dX7_who_31 : decode cX7_who 31 = .ok (.ireturn, 1) := by decide +kernel
theorem dX7_who_32 : decode cX7_who 32 = .ok (.aload_n 0, 1) := by decide +kernel
theorem dX7_who_33 : decode cX7_who 33 = .ok (.getfield 10, 3) := by decide +kernel
theorem dX7_who_36 : decode cX7_who 36 = .ok (.iload_n 2, 1) := by decide +kernel
theorem dX7_who_37 : decode cX7_who 37 = .ok (.iload_n 3, 1) := by decide +kernel
theorem dX7_who_38 : decode cX7_who 38 = .ok (.iload 4, 2) := by decide +kernel
theorem dX7_who_40 : decode cX7_who 40 = .ok (.invokevirtual 171, 3) := by decide +kernel
theorem dX7_who_43 : decode cX7_who 43 = .ok (.istore 5, 2) := by decide +kernel
theorem dX7_who_45 : decode cX7_who 45 = .ok (.iload 5, 2) := by decide +kernel
theorem dX7_who_47 : decode cX7_who 47 = .ok (.ifCond .eq 8, 3) := by decide +kernel
theorem dX7_who_50 : decode cX7_who 50 = .ok (.iload 5, 2) := by decide +kernel
theorem dX7_who_52 : decode cX7_who 52 = .ok (.goto 23, 3) := by decide +kernel
theorem dX7_who_55 : decode cX7_who 55 = .ok (.aload_n 0, 1) := by decide +kernel
theorem dX7_who_56 : decode cX7_who 56 = .ok (.getfield 45, 3) := by decide +kernel
theorem dX7_who_59 : decode cX7_who 59 = .ok (.iload_n 1, 1) := by decide +kernel
theorem dX7_who_60 : decode cX7_who 60 = .ok (.aload_n 0, 1) := by decide +kernel
theorem dX7_who_61 : decode cX7_who 61 = .ok (.getfield 10, 3) := by decide +kernel
theorem dX7_who_64 : decode cX7_who 64 = .ok (.getfield 173, 3) := by decide +kernel
theorem dX7_who_67 : decode cX7_who 67 = .ok (.iload_n 2, 1) := by decide +kernel
theorem dX7_who_68 : decode cX7_who 68 = .ok (.aaload, 1) := by decide +kernel
theorem dX7_who_69 : decode cX7_who 69 = .ok (.iload_n 3, 1) := by decide +kernel
theorem dX7_who_70 : decode cX7_who 70 = .ok (.iload 4, 2) := by decide +kernel
theorem dX7_who_72 : decode cX7_who 72 = .ok (.invokevirtual 177, 3) := by decide +kernel
theorem dX7_who_75 : decode cX7_who 75 = .ok (.ireturn, 1) := by decide +kernel
def bX7_who_0 : List sx_S := [si_al 0, si_get 6 2, si_il 1, si_cv 2 24 1 0 0 0 0, si_if1 (fun x => x = 0) 29 [false, false, false, false, false, false], si_il 2, si_cs 62 1 0 0 0 0, si_if1 (fun x => x = 0) 29 [false, false, false, false, false, false], si_il 4, si_const 1, si_const (nI 12), si_cs 121 3 0 0 0 0, si_if1 (fun x => ¬ x = 0) 32 [true, true, true, true, true, false], si_go 29 [false, false, false, false, false, false]]
def bX7_who_29 : List sx_S := [si_const (-1000001), si_ri]
def bX7_who_32 : List sx_S := [si_al 0, si_get 6 0, si_il 2, si_il 3, si_il 4, si_cv 4 68 3 0 0 0 0, si_is 5, si_il 5, si_if1 (fun x => x = 0) 55 [true, true, true, true, true, false], si_il 5, si_go 75 [false, false, false, false, false, false]]
def bX7_who_55 : List sx_S := [si_al 0, si_get 6 5, si_il 1, si_al 0, si_get 6 0, si_get 4 0, si_il 2, si_aald 3, si_il 3, si_il 4, si_cv 3 58 4 0 0 0 0, si_go 75 [false, false, false, false, false, false]]
def bX7_who_75 : List sx_S := [si_ri]
def BX7_who : Nat → List sx_S := fun pc => if pc = 0 then bX7_who_0 else if pc = 29 then bX7_who_29 else if pc = 32 then bX7_who_32 else if pc = 55 then bX7_who_55 else if pc = 75 then bX7_who_75 else []
set_option maxRecDepth 20000 in
theorem kX7_who_0 : sx_BK sx_tb yX7_who.cls cX7_who 6 (some .int) ({ frames := 6, cells := 0, slots := 0, locals := 141 } : Room) false false 0 (fun _ => 0) 0 (bX7_who_0) := ⟨_, ⟨sn_aload_n dX7_who_0 rfl, sm_al _⟩, ⟨_, ⟨sn_get (C := RX7) (T := TX7) (N := 9) dX7_who_1 rfl zinX7 (Nat.le_of_ble_eq_true rfl) zw_1_136, sm_get _ _⟩, ⟨_, ⟨sn_iload_n dX7_who_4 rfl, sm_il _⟩, ⟨_, ⟨sn_cv_z (N := 1) (T := TX2) ztb_X2_has dX7_who_5 rfl rfl zw_2_123 zw_2_92 zw_2_93 zw_1_4 zw_2_94 zmh_X2 zpd_X2_has (Nat.le_of_ble_eq_true rfl) (Nat.le_of_ble_eq_true rfl) rfl rfl, sm_cv _ _ _ _ _ _ _⟩, ⟨_, ⟨sn_if_eq dX7_who_8 (by decide +kernel) rfl, sm_if1 _ _ _⟩, ⟨_, ⟨sn_iload_n dX7_who_11 rfl, sm_il _⟩, ⟨_, ⟨sn_cs_z ztb_X5_isRow dX7_who_12 zw_1_166 zw_1_167 zw_1_2 zw_1_168 zmh_X5 zpd_X5_isRow (Nat.le_of_ble_eq_true rfl) (Nat.le_of_ble_eq_true rfl) rfl rfl, sm_cs _ _ _ _ _ _⟩, ⟨_, ⟨sn_if_eq dX7_who_15 (by decide +kernel) rfl, sm_if1 _ _ _⟩, ⟨_, ⟨sn_iload dX7_who_18, sm_il _⟩, ⟨_, ⟨sn_iconst dX7_who_20 (by decide +kernel), sm_const _⟩, ⟨_, ⟨sn_bipush dX7_who_21 (by decide +kernel), sm_const _⟩, ⟨_, ⟨sn_cs_z ztb_X7_within dX7_who_23 zw_1_169 zw_1_170 zw_1_1 zw_1_171 zmh_X7 zpd_X7_within (Nat.le_of_ble_eq_true rfl) (Nat.le_of_ble_eq_true rfl) rfl rfl, sm_cs _ _ _ _ _ _⟩, ⟨_, ⟨sn_if_ne dX7_who_26 (by decide +kernel) rfl, sm_if1 _ _ _⟩, ⟨_, ⟨sn_fall (len := 0) rfl rfl, sm_go _ _⟩, trivial⟩⟩⟩⟩⟩⟩⟩⟩⟩⟩⟩⟩⟩⟩
set_option maxRecDepth 20000 in
theorem kX7_who_29 : sx_BK sx_tb yX7_who.cls cX7_who 6 (some .int) ({ frames := 6, cells := 0, slots := 0, locals := 141 } : Room) false false 0 (fun _ => 0) 29 (bX7_who_29) := ⟨_, ⟨sn_ldc dX7_who_29 zw_1_172, sm_const _⟩, ⟨_, ⟨sn_ri (len := 1) dX7_who_31 rfl, sm_ri⟩, trivial⟩⟩
set_option maxRecDepth 20000 in
theorem kX7_who_32 : sx_BK sx_tb yX7_who.cls cX7_who 6 (some .int) ({ frames := 6, cells := 0, slots := 0, locals := 141 } : Room) false false 0 (fun _ => 0) 32 (bX7_who_32) := ⟨_, ⟨sn_aload_n dX7_who_32 rfl, sm_al _⟩, ⟨_, ⟨sn_get (C := RX7) (T := TX7) (N := 9) dX7_who_33 rfl zinX7 (Nat.le_of_ble_eq_true rfl) zw_1_134, sm_get _ _⟩, ⟨_, ⟨sn_iload_n dX7_who_36 rfl, sm_il _⟩, ⟨_, ⟨sn_iload_n dX7_who_37 rfl, sm_il _⟩, ⟨_, ⟨sn_iload dX7_who_38, sm_il _⟩, ⟨_, ⟨sn_cv_i (N := 4) (T := TX5) ztb_X5_look dX7_who_40 rfl rfl zw_3_10 zw_1_191 zw_1_192 zw_1_2 zw_1_193 zmh_X5 zpd_X5_look (Nat.le_of_ble_eq_true rfl) (Nat.le_of_ble_eq_true rfl) rfl rfl, sm_cv _ _ _ _ _ _ _⟩, ⟨_, ⟨sn_istore dX7_who_43 (Nat.le_of_ble_eq_true rfl), sm_is _⟩, ⟨_, ⟨sn_iload dX7_who_45, sm_il _⟩, ⟨_, ⟨sn_if_eq dX7_who_47 (by decide +kernel) rfl, sm_if1 _ _ _⟩, ⟨_, ⟨sn_iload dX7_who_50, sm_il _⟩, ⟨_, ⟨sn_goto (len := 3) dX7_who_52 (by decide +kernel) rfl, sm_go _ _⟩, trivial⟩⟩⟩⟩⟩⟩⟩⟩⟩⟩⟩
set_option maxRecDepth 20000 in
theorem kX7_who_55 : sx_BK sx_tb yX7_who.cls cX7_who 6 (some .int) ({ frames := 6, cells := 0, slots := 0, locals := 141 } : Room) false false 0 (fun _ => 0) 55 (bX7_who_55) := ⟨_, ⟨sn_aload_n dX7_who_55 rfl, sm_al _⟩, ⟨_, ⟨sn_get (C := RX7) (T := TX7) (N := 9) dX7_who_56 rfl zinX7 (Nat.le_of_ble_eq_true rfl) zw_1_139, sm_get _ _⟩, ⟨_, ⟨sn_iload_n dX7_who_59 rfl, sm_il _⟩, ⟨_, ⟨sn_aload_n dX7_who_60 rfl, sm_al _⟩, ⟨_, ⟨sn_get (C := RX7) (T := TX7) (N := 9) dX7_who_61 rfl zinX7 (Nat.le_of_ble_eq_true rfl) zw_1_134, sm_get _ _⟩, ⟨_, ⟨sn_get (C := RX5) (T := TX5) (N := 4) dX7_who_64 rfl zinX5 (Nat.le_of_ble_eq_true rfl) zw_1_30, sm_get _ _⟩, ⟨_, ⟨sn_iload_n dX7_who_67 rfl, sm_il _⟩, ⟨_, ⟨sn_aald3 dX7_who_68, sm_aald _⟩, ⟨_, ⟨sn_iload_n dX7_who_69 rfl, sm_il _⟩, ⟨_, ⟨sn_iload dX7_who_70, sm_il _⟩, ⟨_, ⟨sn_cv_i (N := 2) (T := TX4) ztb_X4_kindsThatPay dX7_who_72 rfl rfl zw_3_11 zw_3_12 zw_3_13 zw_1_6 zw_3_14 zmh_X4 zpd_X4_kindsThatPay (Nat.le_of_ble_eq_true rfl) (Nat.le_of_ble_eq_true rfl) rfl rfl, sm_cv _ _ _ _ _ _ _⟩, ⟨_, ⟨sn_fall (len := 0) rfl rfl, sm_go _ _⟩, trivial⟩⟩⟩⟩⟩⟩⟩⟩⟩⟩⟩⟩
set_option maxRecDepth 20000 in
theorem kX7_who_75 : sx_BK sx_tb yX7_who.cls cX7_who 6 (some .int) ({ frames := 6, cells := 0, slots := 0, locals := 141 } : Room) false false 0 (fun _ => 0) 75 (bX7_who_75) := ⟨_, ⟨sn_ri (len := 1) dX7_who_75 rfl, sm_ri⟩, trivial⟩
theorem kX7_who : ∀ pc, sx_BK sx_tb yX7_who.cls cX7_who 6 (some .int) ({ frames := 6, cells := 0, slots := 0, locals := 141 } : Room) false false 0 (fun _ => 0) pc (BX7_who pc) := fun pc => sx_bk_if (kX7_who_0) (sx_bk_if (kX7_who_29) (sx_bk_if (kX7_who_32) (sx_bk_if (kX7_who_55) (sx_bk_if (kX7_who_75) (trivial)))))
theorem okX7_who : sx_ok sx_tb BX7_who (yX7_who, cX7_who, 6, some .int, { frames := 6, cells := 0, slots := 0, locals := 141 }) := ⟨by decide, by decide +kernel, false, (fun h => by cases h), kX7_who⟩
theorem dX7_atDoor_0 : decode cX7_atDoor 0 = .ok (.aload_n 0, 1) := by decide +kernel
theorem dX7_atDoor_1 : decode cX7_atDoor 1 = .ok (.getfield 26, 3) := by decide +kernel
theorem dX7_atDoor_4 : decode cX7_atDoor 4 = .ok (.invokevirtual 121, 3) := by decide +kernel
theorem dX7_atDoor_7 : decode cX7_atDoor 7 = .ok (.ifCond .ne 6, 3) := by decide +kernel
theorem dX7_atDoor_10 : decode cX7_atDoor 10 = .ok (.ldc 117, 2) := by decide +kernel
theorem dX7_atDoor_12 : decode cX7_atDoor 12 = .ok (.ireturn, 1) := by decide +kernel
theorem dX7_atDoor_13 : decode cX7_atDoor 13 = .ok (.iload_n 1, 1) := by decide +kernel
theorem dX7_atDoor_14 : decode cX7_atDoor 14 = .ok (.iconst 0, 1) := by decide +kernel
theorem dX7_atDoor_15 : decode cX7_atDoor 15 = .ok (.iconst 5, 1) := by decide +kernel
theorem dX7_atDoor_16 : decode cX7_atDoor 16 = .ok (.invokestatic 70, 3) := by decide +kernel
theorem dX7_atDoor_19 : decode cX7_atDoor 19 = .ok (.ifCond .ne 6, 3) := by decide +kernel
theorem dX7_atDoor_22 : decode cX7_atDoor 22 = .ok (.ldc 74, 2) := by decide +kernel
theorem dX7_atDoor_24 : decode cX7_atDoor 24 = .ok (.ireturn, 1) := by decide +kernel
theorem dX7_atDoor_25 : decode cX7_atDoor 25 = .ok (.aload_n 0, 1) := by decide +kernel
theorem dX7_atDoor_26 : decode cX7_atDoor 26 = .ok (.getfield 26, 3) := by decide +kernel
theorem dX7_atDoor_29 : decode cX7_atDoor 29 = .ok (.iload_n 1, 1) := by decide +kernel
theorem dX7_atDoor_30 : decode cX7_atDoor 30 = .ok (.invokevirtual 181, 3) := by decide +kernel
theorem dX7_atDoor_33 : decode cX7_atDoor 33 = .ok (.ireturn, 1) := by decide +kernel
def bX7_atDoor_0 : List sx_S := [si_al 0, si_get 6 2, si_cv 2 23 0 0 0 0 0, si_if1 (fun x => ¬ x = 0) 13 [true, true], si_const (-1000002), si_ri]
def bX7_atDoor_13 : List sx_S := [si_il 1, si_const 0, si_const (nI 5), si_cs 121 3 0 0 0 0, si_if1 (fun x => ¬ x = 0) 25 [true, true], si_const (-1000001), si_ri]
def bX7_atDoor_25 : List sx_S := [si_al 0, si_get 6 2, si_il 1, si_cv 2 40 1 0 0 0 0, si_ri]
def BX7_atDoor : Nat → List sx_S := fun pc => if pc = 0 then bX7_atDoor_0 else if pc = 13 then bX7_atDoor_13 else if pc = 25 then bX7_atDoor_25 else []
set_option maxRecDepth 20000 in
theorem kX7_atDoor_0 : sx_BK sx_tb yX7_atDoor.cls cX7_atDoor 2 (some .int) ({ frames := 4, cells := 0, slots := 0, locals := 88 } : Room) false false 0 (fun _ => 0) 0 (bX7_atDoor_0) := ⟨_, ⟨sn_aload_n dX7_atDoor_0 rfl, sm_al _⟩, ⟨_, ⟨sn_get (C := RX7) (T := TX7) (N := 9) dX7_atDoor_1 rfl zinX7 (Nat.le_of_ble_eq_true rfl) zw_1_136, sm_get _ _⟩, ⟨_, ⟨sn_cv_z (N := 1) (T := TX2) ztb_X2_isThere dX7_atDoor_4 rfl rfl zw_2_67 zw_2_68 zw_2_69 zw_1_4 zw_2_70 zmh_X2 zpd_X2_isThere (Nat.le_of_ble_eq_true rfl) (Nat.le_of_ble_eq_true rfl) rfl rfl, sm_cv _ _ _ _ _ _ _⟩, ⟨_, ⟨sn_if_ne dX7_atDoor_7 (by decide +kernel) rfl, sm_if1 _ _ _⟩, ⟨_, ⟨sn_ldc dX7_atDoor_10 zw_2_57, sm_const _⟩, ⟨_, ⟨sn_ri (len := 1) dX7_atDoor_12 rfl, sm_ri⟩, trivial⟩⟩⟩⟩⟩⟩
set_option maxRecDepth 20000 in
theorem kX7_atDoor_13 : sx_BK sx_tb yX7_atDoor.cls cX7_atDoor 2 (some .int) ({ frames := 4, cells := 0, slots := 0, locals := 88 } : Room) false false 0 (fun _ => 0) 13 (bX7_atDoor_13) := ⟨_, ⟨sn_iload_n dX7_atDoor_13 rfl, sm_il _⟩, ⟨_, ⟨sn_iconst dX7_atDoor_14 (by decide +kernel), sm_const _⟩, ⟨_, ⟨sn_iconst dX7_atDoor_15 (by decide +kernel), sm_const _⟩, ⟨_, ⟨sn_cs_z ztb_X7_within dX7_atDoor_16 zw_1_169 zw_1_170 zw_1_1 zw_1_171 zmh_X7 zpd_X7_within (Nat.le_of_ble_eq_true rfl) (Nat.le_of_ble_eq_true rfl) rfl rfl, sm_cs _ _ _ _ _ _⟩, ⟨_, ⟨sn_if_ne dX7_atDoor_19 (by decide +kernel) rfl, sm_if1 _ _ _⟩, ⟨_, ⟨sn_ldc dX7_atDoor_22 zw_1_172, sm_const _⟩, ⟨_, ⟨sn_ri (len := 1) dX7_atDoor_24 rfl, sm_ri⟩, trivial⟩⟩⟩⟩⟩⟩⟩
set_option maxRecDepth 20000 in
theorem kX7_atDoor_25 : sx_BK sx_tb yX7_atDoor.cls cX7_atDoor 2 (some .int) ({ frames := 4, cells := 0, slots := 0, locals := 88 } : Room) false false 0 (fun _ => 0) 25 (bX7_atDoor_25) := ⟨_, ⟨sn_aload_n dX7_atDoor_25 rfl, sm_al _⟩, ⟨_, ⟨sn_get (C := RX7) (T := TX7) (N := 9) dX7_atDoor_26 rfl zinX7 (Nat.le_of_ble_eq_true rfl) zw_1_136, sm_get _ _⟩, ⟨_, ⟨sn_iload_n dX7_atDoor_29 rfl, sm_il _⟩, ⟨_, ⟨sn_cv_i (N := 1) (T := TX2) ztb_X2_owingMost dX7_atDoor_30 rfl rfl zw_3_23 zw_3_24 zw_3_25 zw_1_4 zw_3_26 zmh_X2 zpd_X2_owingMost (Nat.le_of_ble_eq_true rfl) (Nat.le_of_ble_eq_true rfl) rfl rfl, sm_cv _ _ _ _ _ _ _⟩, ⟨_, ⟨sn_ri (len := 1) dX7_atDoor_33 rfl, sm_ri⟩, trivial⟩⟩⟩⟩⟩
theorem kX7_atDoor : ∀ pc, sx_BK sx_tb yX7_atDoor.cls cX7_atDoor 2 (some .int) ({ frames := 4, cells := 0, slots := 0, locals := 88 } : Room) false false 0 (fun _ => 0) pc (BX7_atDoor pc) := fun pc => sx_bk_if (kX7_atDoor_0) (sx_bk_if (kX7_atDoor_13) (sx_bk_if (kX7_atDoor_25) (trivial)))
theorem okX7_atDoor : sx_ok sx_tb BX7_atDoor (yX7_atDoor, cX7_atDoor, 2, some .int, { frames := 4, cells := 0, slots := 0, locals := 88 }) := ⟨by decide, by decide +kernel, false, (fun h => by cases h), kX7_atDoor⟩
theorem dX7_pays_0 : decode cX7_pays 0 = .ok (.aload_n 0, 1) := by decide +kernel
theorem dX7_pays_1 : decode cX7_pays 1 = .ok (.getfield 26, 3) := by decide +kernel
theorem dX7_pays_4 : decode cX7_pays 4 = .ok (.invokevirtual 121, 3) := by decide +kernel
theorem dX7_pays_7 : decode cX7_pays 7 = .ok (.ifCond .ne 7, 3) := by decide +kernel
theorem dX7_pays_10 : decode cX7_pays 10 = .ok (.ldc2_w 184, 3) := by decide +kernel
theorem dX7_pays_13 : decode cX7_pays 13 = .ok (.lreturn, 1) := by decide +kernel
theorem dX7_pays_14 : decode cX7_pays 14 = .ok (.aload_n 0, 1) := by decide +kernel
theorem dX7_pays_15 : decode cX7_pays 15 = .ok (.getfield 26, 3) := by decide +kernel
theorem dX7_pays_18 : decode cX7_pays 18 = .ok (.invokevirtual 186, 3) := by decide +kernel
theorem dX7_pays_21 : decode cX7_pays 21 = .ok (.istore 4, 2) := by decide +kernel
theorem dX7_pays_23 : decode cX7_pays 23 = .ok (.iload_n 1, 1) := by decide +kernel
theorem dX7_pays_24 : decode cX7_pays 24 = .ok (.iconst 0, 1) := by decide +kernel
theorem dX7_pays_25 : decode cX7_pays 25 = .ok (.bipush 10, 2) := by decide +kernel
theorem dX7_pays_27 : decode cX7_pays 27 = .ok (.invokestatic 70, 3) := by decide +kernel
theorem dX7_pays_30 : decode cX7_pays 30 = .ok (.ifCond .eq 22, 3) := by decide +kernel
theorem dX7_pays_33 : decode cX7_pays 33 = .ok (.iload_n 2, 1) := by decide +kernel
theorem dX7_pays_34 : decode cX7_pays 34 = .ok (.iconst 0, 1) := by decide +kernel
theorem dX7_pays_35 : decode cX7_pays 35 = .ok (.iload 4, 2) := by decide +kernel
theorem dX7_pays_37 : decode cX7_pays 37 = .ok (.invokestatic 70, 3) := by decide +kernel
theorem dX7_pays_40 : decode cX7_pays 40 = .ok (.ifCond .eq 12, 3) := by decide +kernel
theorem dX7_pays_43 : decode cX7_pays 43 = .ok (.iload_n 3, 1) := by decide +kernel
theorem dX7_pays_44 : decode cX7_pays 44 = .ok (.iconst 0, 1) := by decide +kernel
theorem dX7_pays_45 : decode cX7_pays 45 = .ok (.iconst 1, 1) := by decide +kernel
theorem dX7_pays_46 : decode cX7_pays 46 = .ok (.invokestatic 70, 3) := by decide +kernel
theorem dX7_pays_49 : decode cX7_pays 49 = .ok (.ifCond .ne 7, 3) := by decide +kernel
theorem dX7_pays_52 : decode cX7_pays 52 = .ok (.ldc2_w 191, 3) := by decide +kernel
theorem dX7_pays_55 : decode cX7_pays 55 = .ok (.lreturn, 1) := by decide +kernel
theorem dX7_pays_56 : decode cX7_pays 56 = .ok (.iload_n 2, 1) := by decide +kernel
theorem dX7_pays_57 : decode cX7_pays 57 = .ok (.iload 4, 2) := by decide +kernel
theorem dX7_pays_59 : decode cX7_pays 59 = .ok (.iload_n 1, 1) := by decide +kernel
theorem dX7_pays_60 : decode cX7_pays 60 = .ok (.iload_n 3, 1) := by decide +kernel
theorem dX7_pays_61 : decode cX7_pays 61 = .ok (.invokestatic 193, 3) := by decide +kernel
theorem dX7_pays_64 : decode cX7_pays 64 = .ok (.lreturn, 1) := by decide +kernel
def bX7_pays_0 : List sx_S := [si_al 0, si_get 6 2, si_cv 2 23 0 0 0 0 0, si_if1 (fun x => ¬ x = 0) 14 [true, true, true, true, false], si_lconst (-1000002), si_rl]
def bX7_pays_14 : List sx_S := [si_al 0, si_get 6 2, si_cv 2 39 0 0 0 0 0, si_is 4, si_il 1, si_const 0, si_const (nI 10), si_cs 121 3 0 0 0 0, si_if1 (fun x => x = 0) 52 [false, false, false, false, false], si_il 2, si_const 0, si_il 4, si_cs 121 3 0 0 0 0, si_if1 (fun x => x = 0) 52 [false, false, false, false, false], si_il 3, si_const 0, si_const 1, si_cs 121 3 0 0 0 0, si_if1 (fun x => ¬ x = 0) 56 [false, true, true, true, true], si_go 52 [false, false, false, false, false]]
def bX7_pays_52 : List sx_S := [si_lconst (-1000001), si_rl]
def bX7_pays_56 : List sx_S := [si_il 2, si_il 4, si_il 1, si_il 3, si_cs 42 4 0 0 0 0, si_rl]
def BX7_pays : Nat → List sx_S := fun pc => if pc = 0 then bX7_pays_0 else if pc = 14 then bX7_pays_14 else if pc = 52 then bX7_pays_52 else if pc = 56 then bX7_pays_56 else []
set_option maxRecDepth 20000 in
theorem kX7_pays_0 : sx_BK sx_tb yX7_pays.cls cX7_pays 5 (some .long) ({ frames := 3, cells := 0, slots := 0, locals := 64 } : Room) false false 0 (fun _ => 0) 0 (bX7_pays_0) := ⟨_, ⟨sn_aload_n dX7_pays_0 rfl, sm_al _⟩, ⟨_, ⟨sn_get (C := RX7) (T := TX7) (N := 9) dX7_pays_1 rfl zinX7 (Nat.le_of_ble_eq_true rfl) zw_1_136, sm_get _ _⟩, ⟨_, ⟨sn_cv_z (N := 1) (T := TX2) ztb_X2_isThere dX7_pays_4 rfl rfl zw_2_67 zw_2_68 zw_2_69 zw_1_4 zw_2_70 zmh_X2 zpd_X2_isThere (Nat.le_of_ble_eq_true rfl) (Nat.le_of_ble_eq_true rfl) rfl rfl, sm_cv _ _ _ _ _ _ _⟩, ⟨_, ⟨sn_if_ne dX7_pays_7 (by decide +kernel) rfl, sm_if1 _ _ _⟩, ⟨_, ⟨sn_ldc2 dX7_pays_10 zw_3_36, sm_lconst _⟩, ⟨_, ⟨sn_rl (len := 1) dX7_pays_13 rfl, sm_rl⟩, trivial⟩⟩⟩⟩⟩⟩
set_option maxRecDepth 20000 in
theorem kX7_pays_14 : sx_BK sx_tb yX7_pays.cls cX7_pays 5 (some .long) ({ frames := 3, cells := 0, slots := 0, locals := 64 } : Room) false false 0 (fun _ => 0) 14 (bX7_pays_14) := ⟨_, ⟨sn_aload_n dX7_pays_14 rfl, sm_al _⟩, ⟨_, ⟨sn_get (C := RX7) (T := TX7) (N := 9) dX7_pays_15 rfl zinX7 (Nat.le_of_ble_eq_true rfl) zw_1_136, sm_get _ _⟩, ⟨_, ⟨sn_cv_i (N := 1) (T := TX2) ztb_X2_howManyCome dX7_pays_18 rfl rfl zw_3_37 zw_3_38 zw_3_39 zw_1_4 zw_3_40 zmh_X2 zpd_X2_howManyCome (Nat.le_of_ble_eq_true rfl) (Nat.le_of_ble_eq_true rfl) rfl rfl, sm_cv _ _ _ _ _ _ _⟩, ⟨_, ⟨sn_istore dX7_pays_21 (Nat.le_of_ble_eq_true rfl), sm_is _⟩, ⟨_, ⟨sn_iload_n dX7_pays_23 rfl, sm_il _⟩, ⟨_, ⟨sn_iconst dX7_pays_24 (by decide +kernel), sm_const _⟩, ⟨_, ⟨sn_bipush dX7_pays_25 (by decide +kernel), sm_const _⟩, ⟨_, ⟨sn_cs_z ztb_X7_within dX7_pays_27 zw_1_169 zw_1_170 zw_1_1 zw_1_171 zmh_X7 zpd_X7_within (Nat.le_of_ble_eq_true rfl) (Nat.le_of_ble_eq_true rfl) rfl rfl, sm_cs _ _ _ _ _ _⟩, ⟨_, ⟨sn_if_eq dX7_pays_30 (by decide +kernel) rfl, sm_if1 _ _ _⟩, ⟨_, ⟨sn_iload_n dX7_pays_33 rfl, sm_il _⟩, ⟨_, ⟨sn_iconst dX7_pays_34 (by decide +kernel), sm_const _⟩, ⟨_, ⟨sn_iload dX7_pays_35, sm_il _⟩, ⟨_, ⟨sn_cs_z ztb_X7_within dX7_pays_37 zw_1_169 zw_1_170 zw_1_1 zw_1_171 zmh_X7 zpd_X7_within (Nat.le_of_ble_eq_true rfl) (Nat.le_of_ble_eq_true rfl) rfl rfl, sm_cs _ _ _ _ _ _⟩, ⟨_, ⟨sn_if_eq dX7_pays_40 (by decide +kernel) rfl, sm_if1 _ _ _⟩, ⟨_, ⟨sn_iload_n dX7_pays_43 rfl, sm_il _⟩, ⟨_, ⟨sn_iconst dX7_pays_44 (by decide +kernel), sm_const _⟩, ⟨_, ⟨sn_iconst dX7_pays_45 (by decide +kernel), sm_const _⟩, ⟨_, ⟨sn_cs_z ztb_X7_within dX7_pays_46 zw_1_169 zw_1_170 zw_1_1 zw_1_171 zmh_X7 zpd_X7_within (Nat.le_of_ble_eq_true rfl) (Nat.le_of_ble_eq_true rfl) rfl rfl, sm_cs _ _ _ _ _ _⟩, ⟨_, ⟨sn_if_ne dX7_pays_49 (by decide +kernel) rfl, sm_if1 _ _ _⟩, ⟨_, ⟨sn_fall (len := 0) rfl rfl, sm_go _ _⟩, trivial⟩⟩⟩⟩⟩⟩⟩⟩⟩⟩⟩⟩⟩⟩⟩⟩⟩⟩⟩⟩
set_option maxRecDepth 20000 in
theorem kX7_pays_52 : sx_BK sx_tb yX7_pays.cls cX7_pays 5 (some .long) ({ frames := 3, cells := 0, slots := 0, locals := 64 } : Room) false false 0 (fun _ => 0) 52 (bX7_pays_52) := ⟨_, ⟨sn_ldc2 dX7_pays_52 zw_3_41, sm_lconst _⟩, ⟨_, ⟨sn_rl (len := 1) dX7_pays_55 rfl, sm_rl⟩, trivial⟩⟩
set_option maxRecDepth 20000 in
theorem kX7_pays_56 : sx_BK sx_tb yX7_pays.cls cX7_pays 5 (some .long) ({ frames := 3, cells := 0, slots := 0, locals := 64 } : Room) false false 0 (fun _ => 0) 56 (bX7_pays_56) := ⟨_, ⟨sn_iload_n dX7_pays_56 rfl, sm_il _⟩, ⟨_, ⟨sn_iload dX7_pays_57, sm_il _⟩, ⟨_, ⟨sn_iload_n dX7_pays_59 rfl, sm_il _⟩, ⟨_, ⟨sn_iload_n dX7_pays_60 rfl, sm_il _⟩, ⟨_, ⟨sn_cs_l ztb_X3_atLeast dX7_pays_61 zw_3_42 zw_3_43 zw_1_12 zw_3_44 zmh_X3 zpd_X3_atLeast (Nat.le_of_ble_eq_true rfl) (Nat.le_of_ble_eq_true rfl) rfl rfl, sm_cs _ _ _ _ _ _⟩, ⟨_, ⟨sn_rl (len := 1) dX7_pays_64 rfl, sm_rl⟩, trivial⟩⟩⟩⟩⟩⟩
theorem kX7_pays : ∀ pc, sx_BK sx_tb yX7_pays.cls cX7_pays 5 (some .long) ({ frames := 3, cells := 0, slots := 0, locals := 64 } : Room) false false 0 (fun _ => 0) pc (BX7_pays pc) := fun pc => sx_bk_if (kX7_pays_0) (sx_bk_if (kX7_pays_14) (sx_bk_if (kX7_pays_52) (sx_bk_if (kX7_pays_56) (trivial))))
theorem okX7_pays : sx_ok sx_tb BX7_pays (yX7_pays, cX7_pays, 5, some .long, { frames := 3, cells := 0, slots := 0, locals := 64 }) := ⟨by decide, by decide +kernel, false, (fun h => by cases h), kX7_pays⟩
theorem dX7_drawn_0 : decode cX7_drawn 0 = .ok (.aload_n 0, 1) := by decide +kernel
theorem dX7_drawn_1 : decode cX7_drawn 1 = .ok (.getfield 26, 3) := by decide +kernel
theorem dX7_drawn_4 : decode cX7_drawn 4 = .ok (.invokevirtual 121, 3) := by decide +kernel
theorem dX7_drawn_7 : decode cX7_drawn 7 = .ok (.ifCond .ne 6, 3) := by decide +kernel
theorem dX7_drawn_10 : decode cX7_drawn 10 = .ok (.ldc 117, 2) := by decide +kernel
theorem dX7_drawn_12 : decode cX7_drawn 12 = .ok (.ireturn, 1) := by decide +kernel
theorem dX7_drawn_13 : decode cX7_drawn 13 = .ok (.iload_n 1, 1) := by decide +kernel
theorem dX7_drawn_14 : decode cX7_drawn 14 = .ok (.iconst 0, 1) := by decide +kernel
theorem dX7_drawn_15 : decode cX7_drawn 15 = .ok (.bipush 60, 2) := by decide +kernel
theorem dX7_drawn_17 : decode cX7_drawn 17 = .ok (.invokestatic 70, 3) := by decide +kernel
theorem dX7_drawn_20 : decode cX7_drawn 20 = .ok (.ifCond .eq 22, 3) := by decide +kernel
theorem dX7_drawn_23 : decode cX7_drawn 23 = .ok (.iload_n 2, 1) := by decide +kernel
theorem dX7_drawn_24 : decode cX7_drawn 24 = .ok (.iconst 1, 1) := by decide +kernel
theorem dX7_drawn_25 : decode cX7_drawn 25 = .ok (.ldc 197, 2) := by decide +kernel
theorem dX7_drawn_27 : decode cX7_drawn 27 = .ok (.invokestatic 70, 3) := by decide +kernel
theorem dX7_drawn_30 : decode cX7_drawn 30 = .ok (.ifCond .eq 12, 3) := by decide +kernel
theorem dX7_drawn_33 : decode cX7_drawn 33 = .ok (.iload_n 3, 1) := by decide +kernel
theorem dX7_drawn_34 : decode cX7_drawn 34 = .ok (.iconst 0, 1) := by decide +kernel
theorem dX7_drawn_35 : decode cX7_drawn 35 = .ok (.iconst 1, 1) := by decide +kernel
theorem dX7_drawn_36 : decode cX7_drawn 36 = .ok (.invokestatic 70, 3) := by decide +kernel
theorem dX7_drawn_39 : decode cX7_drawn 39 = .ok (.ifCond .ne 6, 3) := by decide +kernel
theorem dX7_drawn_42 : decode cX7_drawn 42 = .ok (.ldc 74, 2) := by decide +kernel
theorem dX7_drawn_44 : decode cX7_drawn 44 = .ok (.ireturn, 1) := by decide +kernel
theorem dX7_drawn_45 : decode cX7_drawn 45 = .ok (.aload_n 0, 1) := by decide +kernel
theorem dX7_drawn_46 : decode cX7_drawn 46 = .ok (.getfield 45, 3) := by decide +kernel
theorem dX7_drawn_49 : decode cX7_drawn 49 = .ok (.iload_n 1, 1) := by decide +kernel
theorem dX7_drawn_50 : decode cX7_drawn 50 = .ok (.iload_n 2, 1) := by decide +kernel
theorem dX7_drawn_51 : decode cX7_drawn 51 = .ok (.invokevirtual 198, 3) := by decide +kernel
theorem dX7_drawn_54 : decode cX7_drawn 54 = .ok (.istore 4, 2) := by decide +kernel
theorem dX7_drawn_56 : decode cX7_drawn 56 = .ok (.iload_n 3, 1) := by decide +kernel
theorem dX7_drawn_57 : decode cX7_drawn 57 = .ok (.ifCond .ne 16, 3) := by decide +kernel
theorem dX7_drawn_60 : decode cX7_drawn 60 = .ok (.aload_n 0, 1) := by decide +kernel
theorem dX7_drawn_61 : decode cX7_drawn 61 = .ok (.getfield 30, 3) := by decide +kernel
theorem dX7_drawn_64 : decode cX7_drawn 64 = .ok (.getfield 110, 3) := by decide +kernel
theorem dX7_drawn_67 : decode cX7_drawn 67 = .ok (.bipush 54, 2) := by decide +kernel
theorem dX7_drawn_69 : decode cX7_drawn 69 = .ok (.iaload, 1) := by decide +kernel
theorem dX7_drawn_70 : decode cX7_drawn 70 = .ok (.goto 5, 3) := by decide +kernel
theorem dX7_drawn_73 : decode cX7_drawn 73 = .ok (.iload 4, 2) := by decide +kernel
theorem dX7_drawn_75 : decode cX7_drawn 75 = .ok (.ireturn, 1) := by decide +kernel
def bX7_drawn_0 : List sx_S := [si_al 0, si_get 6 2, si_cv 2 23 0 0 0 0 0, si_if1 (fun x => ¬ x = 0) 13 [true, true, true, true, false], si_const (-1000002), si_ri]
def bX7_drawn_13 : List sx_S := [si_il 1, si_const 0, si_const (nI 60), si_cs 121 3 0 0 0 0, si_if1 (fun x => x = 0) 42 [false, false, false, false, false], si_il 2, si_const 1, si_const (nI 999999), si_cs 121 3 0 0 0 0, si_if1 (fun x => x = 0) 42 [false, false, false, false, false], si_il 3, si_const 0, si_const 1, si_cs 121 3 0 0 0 0, si_if1 (fun x => ¬ x = 0) 45 [true, true, true, true, false], si_go 42 [false, false, false, false, false]]
def bX7_drawn_42 : List sx_S := [si_const (-1000001), si_ri]
def bX7_drawn_45 : List sx_S := [si_al 0, si_get 6 5, si_il 1, si_il 2, si_cv 3 60 2 0 0 0 0, si_is 4, si_il 3, si_if1 (fun x => ¬ x = 0) 73 [false, false, false, false, true], si_al 0, si_get 6 3, si_get 2 0, si_const (nI 54), si_iald, si_go 75 [false, false, false, false, false]]
def bX7_drawn_73 : List sx_S := [si_il 4, si_go 75 [false, false, false, false, false]]
def bX7_drawn_75 : List sx_S := [si_ri]
def BX7_drawn : Nat → List sx_S := fun pc => if pc = 0 then bX7_drawn_0 else if pc = 13 then bX7_drawn_13 else if pc = 42 then bX7_drawn_42 else if pc = 45 then bX7_drawn_45 else if pc = 73 then bX7_drawn_73 else if pc = 75 then bX7_drawn_75 else []
set_option maxRecDepth 20000 in
theorem kX7_drawn_0 : sx_BK sx_tb yX7_drawn.cls cX7_drawn 5 (some .int) ({ frames := 5, cells := 0, slots := 0, locals := 115 } : Room) false false 0 (fun _ => 0) 0 (bX7_drawn_0) := ⟨_, ⟨sn_aload_n dX7_drawn_0 rfl, sm_al _⟩, ⟨_, ⟨sn_get (C := RX7) (T := TX7) (N := 9) dX7_drawn_1 rfl zinX7 (Nat.le_of_ble_eq_true rfl) zw_1_136, sm_get _ _⟩, ⟨_, ⟨sn_cv_z (N := 1) (T := TX2) ztb_X2_isThere dX7_drawn_4 rfl rfl zw_2_67 zw_2_68 zw_2_69 zw_1_4 zw_2_70 zmh_X2 zpd_X2_isThere (Nat.le_of_ble_eq_true rfl) (Nat.le_of_ble_eq_true rfl) rfl rfl, sm_cv _ _ _ _ _ _ _⟩, ⟨_, ⟨sn_if_ne dX7_drawn_7 (by decide +kernel) rfl, sm_if1 _ _ _⟩, ⟨_, ⟨sn_ldc dX7_drawn_10 zw_2_57, sm_const _⟩, ⟨_, ⟨sn_ri (len := 1) dX7_drawn_12 rfl, sm_ri⟩, trivial⟩⟩⟩⟩⟩⟩
set_option maxRecDepth 20000 in
theorem kX7_drawn_13 : sx_BK sx_tb yX7_drawn.cls cX7_drawn 5 (some .int) ({ frames := 5, cells := 0, slots := 0, locals := 115 } : Room) false false 0 (fun _ => 0) 13 (bX7_drawn_13) := ⟨_, ⟨sn_iload_n dX7_drawn_13 rfl, sm_il _⟩, ⟨_, ⟨sn_iconst dX7_drawn_14 (by decide +kernel), sm_const _⟩, ⟨_, ⟨sn_bipush dX7_drawn_15 (by decide +kernel), sm_const _⟩, ⟨_, ⟨sn_cs_z ztb_X7_within dX7_drawn_17 zw_1_169 zw_1_170 zw_1_1 zw_1_171 zmh_X7 zpd_X7_within (Nat.le_of_ble_eq_true rfl) (Nat.le_of_ble_eq_true rfl) rfl rfl, sm_cs _ _ _ _ _ _⟩, ⟨_, ⟨sn_if_eq dX7_drawn_20 (by decide +kernel) rfl, sm_if1 _ _ _⟩, ⟨_, ⟨sn_iload_n dX7_drawn_23 rfl, sm_il _⟩, ⟨_, ⟨sn_iconst dX7_drawn_24 (by decide +kernel), sm_const _⟩, ⟨_, ⟨sn_ldc dX7_drawn_25 zw_3_59, sm_const _⟩, ⟨_, ⟨sn_cs_z ztb_X7_within dX7_drawn_27 zw_1_169 zw_1_170 zw_1_1 zw_1_171 zmh_X7 zpd_X7_within (Nat.le_of_ble_eq_true rfl) (Nat.le_of_ble_eq_true rfl) rfl rfl, sm_cs _ _ _ _ _ _⟩, ⟨_, ⟨sn_if_eq dX7_drawn_30 (by decide +kernel) rfl, sm_if1 _ _ _⟩, ⟨_, ⟨sn_iload_n dX7_drawn_33 rfl, sm_il _⟩, ⟨_, ⟨sn_iconst dX7_drawn_34 (by decide +kernel), sm_const _⟩, ⟨_, ⟨sn_iconst dX7_drawn_35 (by decide +kernel), sm_const _⟩, ⟨_, ⟨sn_cs_z ztb_X7_within dX7_drawn_36 zw_1_169 zw_1_170 zw_1_1 zw_1_171 zmh_X7 zpd_X7_within (Nat.le_of_ble_eq_true rfl) (Nat.le_of_ble_eq_true rfl) rfl rfl, sm_cs _ _ _ _ _ _⟩, ⟨_, ⟨sn_if_ne dX7_drawn_39 (by decide +kernel) rfl, sm_if1 _ _ _⟩, ⟨_, ⟨sn_fall (len := 0) rfl rfl, sm_go _ _⟩, trivial⟩⟩⟩⟩⟩⟩⟩⟩⟩⟩⟩⟩⟩⟩⟩⟩
set_option maxRecDepth 20000 in
theorem kX7_drawn_42 : sx_BK sx_tb yX7_drawn.cls cX7_drawn 5 (some .int) ({ frames := 5, cells := 0, slots := 0, locals := 115 } : Room) false false 0 (fun _ => 0) 42 (bX7_drawn_42) := ⟨_, ⟨sn_ldc dX7_drawn_42 zw_1_172, sm_const _⟩, ⟨_, ⟨sn_ri (len := 1) dX7_drawn_44 rfl, sm_ri⟩, trivial⟩⟩
set_option maxRecDepth 20000 in
theorem kX7_drawn_45 : sx_BK sx_tb yX7_drawn.cls cX7_drawn 5 (some .int) ({ frames := 5, cells := 0, slots := 0, locals := 115 } : Room) false false 0 (fun _ => 0) 45 (bX7_drawn_45) := ⟨_, ⟨sn_aload_n dX7_drawn_45 rfl, sm_al _⟩, ⟨_, ⟨sn_get (C := RX7) (T := TX7) (N := 9) dX7_drawn_46 rfl zinX7 (Nat.le_of_ble_eq_true rfl) zw_1_139, sm_get _ _⟩, ⟨_, ⟨sn_iload_n dX7_drawn_49 rfl, sm_il _⟩, ⟨_, ⟨sn_iload_n dX7_drawn_50 rfl, sm_il _⟩, ⟨_, ⟨sn_cv_i (N := 2) (T := TX4) ztb_X4_idleWeeks dX7_drawn_51 rfl rfl zw_3_60 zw_3_61 zw_3_62 zw_1_6 zw_3_63 zmh_X4 zpd_X4_idleWeeks (Nat.le_of_ble_eq_true rfl) (Nat.le_of_ble_eq_true rfl) rfl rfl, sm_cv _ _ _ _ _ _ _⟩, ⟨_, ⟨sn_istore dX7_drawn_54 (Nat.le_of_ble_eq_true rfl), sm_is _⟩, ⟨_, ⟨sn_iload_n dX7_drawn_56 rfl, sm_il _⟩, ⟨_, ⟨sn_if_ne dX7_drawn_57 (by decide +kernel) rfl, sm_if1 _ _ _⟩, ⟨_, ⟨sn_aload_n dX7_drawn_60 rfl, sm_al _⟩, ⟨_, ⟨sn_get (C := RX7) (T := TX7) (N := 9) dX7_drawn_61 rfl zinX7 (Nat.le_of_ble_eq_true rfl) zw_1_137, sm_get _ _⟩, ⟨_, ⟨sn_get (C := RX2) (T := TX2) (N := 1) dX7_drawn_64 rfl zinX2 (Nat.le_of_ble_eq_true rfl) zw_1_80, sm_get _ _⟩, ⟨_, ⟨sn_bipush dX7_drawn_67 (by decide +kernel), sm_const _⟩, ⟨_, ⟨sn_iald dX7_drawn_69, sm_iald⟩, ⟨_, ⟨sn_goto (len := 3) dX7_drawn_70 (by decide +kernel) rfl, sm_go _ _⟩, trivial⟩⟩⟩⟩⟩⟩⟩⟩⟩⟩⟩⟩⟩⟩
set_option maxRecDepth 20000 in
theorem kX7_drawn_73 : sx_BK sx_tb yX7_drawn.cls cX7_drawn 5 (some .int) ({ frames := 5, cells := 0, slots := 0, locals := 115 } : Room) false false 0 (fun _ => 0) 73 (bX7_drawn_73) := ⟨_, ⟨sn_iload dX7_drawn_73, sm_il _⟩, ⟨_, ⟨sn_fall (len := 0) rfl rfl, sm_go _ _⟩, trivial⟩⟩
set_option maxRecDepth 20000 in
theorem kX7_drawn_75 : sx_BK sx_tb yX7_drawn.cls cX7_drawn 5 (some .int) ({ frames := 5, cells := 0, slots := 0, locals := 115 } : Room) false false 0 (fun _ => 0) 75 (bX7_drawn_75) := ⟨_, ⟨sn_ri (len := 1) dX7_drawn_75 rfl, sm_ri⟩, trivial⟩
theorem kX7_drawn : ∀ pc, sx_BK sx_tb yX7_drawn.cls cX7_drawn 5 (some .int) ({ frames := 5, cells := 0, slots := 0, locals := 115 } : Room) false false 0 (fun _ => 0) pc (BX7_drawn pc) := fun pc => sx_bk_if (kX7_drawn_0) (sx_bk_if (kX7_drawn_13) (sx_bk_if (kX7_drawn_42) (sx_bk_if (kX7_drawn_45) (sx_bk_if (kX7_drawn_73) (sx_bk_if (kX7_drawn_75) (trivial))))))
theorem okX7_drawn : sx_ok sx_tb BX7_drawn (yX7_drawn, cX7_drawn, 5, some .int, { frames := 5, cells := 0, slots := 0, locals := 115 }) := ⟨by decide, by decide +kernel, false, (fun h => by cases h), kX7_drawn⟩
theorem dX7_image_0 : decode cX7_image 0 = .ok (.iload_n 1, 1) := by decide +kernel
theorem dX7_image_1 : decode cX7_image 1 = .ok (.iconst 0, 1) := by decide +kernel
theorem dX7_image_2 : decode cX7_image 2 = .ok (.iconst 1, 1) := by decide +kernel
theorem dX7_image_3 : decode cX7_image 3 = .ok (.invokestatic 70, 3) := by decide +kernel
theorem dX7_image_6 : decode cX7_image 6 = .ok (.ifCond .ne 6, 3) := by decide +kernel
theorem dX7_image_9 : decode cX7_image 9 = .ok (.ldc 74, 2) := by decide +kernel
theorem dX7_image_11 : decode cX7_image 11 = .ok (.ireturn, 1) := by decide +kernel
theorem dX7_image_12 : decode cX7_image 12 = .ok (.aload_n 0, 1) := by decide +kernel
theorem dX7_image_13 : decode cX7_image 13 = .ok (.getfield 26, 3) := by decide +kernel
theorem dX7_image_16 : decode cX7_image 16 = .ok (.invokevirtual 121, 3) := by decide +kernel
theorem dX7_image_19 : decode cX7_image 19 = .ok (.ifCond .ne 6, 3) := by decide +kernel
theorem dX7_image_22 : decode cX7_image 22 = .ok (.ldc 117, 2) := by decide +kernel
theorem dX7_image_24 : decode cX7_image 24 = .ok (.ireturn, 1) := by decide +kernel
theorem dX7_image_25 : decode cX7_image 25 = .ok (.aload_n 0, 1) := by decide +kernel
theorem dX7_image_26 : decode cX7_image 26 = .ok (.getfield 58, 3) := by decide +kernel
theorem dX7_image_29 : decode cX7_image 29 = .ok (.iload_n 1, 1) := by decide +kernel
theorem dX7_image_30 : decode cX7_image 30 = .ok (.aaload, 1) := by decide +kernel
theorem dX7_image_31 : decode cX7_image 31 = .ok (.aload_n 0, 1) := by decide +kernel
theorem dX7_image_32 : decode cX7_image 32 = .ok (.getfield 26, 3) := by decide +kernel
theorem dX7_image_35 : decode cX7_image 35 = .ok (.invokevirtual 104, 3) := by decide +kernel
theorem dX7_image_38 : decode cX7_image 38 = .ok (.iconst 1, 1) := by decide +kernel
theorem dX7_image_39 : decode cX7_image 39 = .ok (.ireturn, 1) := by decide +kernel
def bX7_image_0 : List sx_S := [si_il 1, si_const 0, si_const 1, si_cs 121 3 0 0 0 0, si_if1 (fun x => ¬ x = 0) 12 [true, true], si_const (-1000001), si_ri]
def bX7_image_12 : List sx_S := [si_al 0, si_get 6 2, si_cv 2 23 0 0 0 0 0, si_if1 (fun x => ¬ x = 0) 25 [true, true], si_const (-1000002), si_ri]
def bX7_image_25 : List sx_S := [si_al 0, si_get 6 7, si_il 1, si_aald 2, si_al 0, si_get 6 2, si_cv 2 22 1 0 0 0 0, si_const 1, si_ri]
def BX7_image : Nat → List sx_S := fun pc => if pc = 0 then bX7_image_0 else if pc = 12 then bX7_image_12 else if pc = 25 then bX7_image_25 else []
set_option maxRecDepth 20000 in
theorem kX7_image_0 : sx_BK sx_tb yX7_image.cls cX7_image 2 (some .int) ({ frames := 2, cells := 0, slots := 0, locals := 47 } : Room) false false 0 (fun _ => 0) 0 (bX7_image_0) := ⟨_, ⟨sn_iload_n dX7_image_0 rfl, sm_il _⟩, ⟨_, ⟨sn_iconst dX7_image_1 (by decide +kernel), sm_const _⟩, ⟨_, ⟨sn_iconst dX7_image_2 (by decide +kernel), sm_const _⟩, ⟨_, ⟨sn_cs_z ztb_X7_within dX7_image_3 zw_1_169 zw_1_170 zw_1_1 zw_1_171 zmh_X7 zpd_X7_within (Nat.le_of_ble_eq_true rfl) (Nat.le_of_ble_eq_true rfl) rfl rfl, sm_cs _ _ _ _ _ _⟩, ⟨_, ⟨sn_if_ne dX7_image_6 (by decide +kernel) rfl, sm_if1 _ _ _⟩, ⟨_, ⟨sn_ldc dX7_image_9 zw_1_172, sm_const _⟩, ⟨_, ⟨sn_ri (len := 1) dX7_image_11 rfl, sm_ri⟩, trivial⟩⟩⟩⟩⟩⟩⟩
set_option maxRecDepth 20000 in
theorem kX7_image_12 : sx_BK sx_tb yX7_image.cls cX7_image 2 (some .int) ({ frames := 2, cells := 0, slots := 0, locals := 47 } : Room) false false 0 (fun _ => 0) 12 (bX7_image_12) := ⟨_, ⟨sn_aload_n dX7_image_12 rfl, sm_al _⟩, ⟨_, ⟨sn_get (C := RX7) (T := TX7) (N := 9) dX7_image_13 rfl zinX7 (Nat.le_of_ble_eq_true rfl) zw_1_136, sm_get _ _⟩, ⟨_, ⟨sn_cv_z (N := 1) (T := TX2) ztb_X2_isThere dX7_image_16 rfl rfl zw_2_67 zw_2_68 zw_2_69 zw_1_4 zw_2_70 zmh_X2 zpd_X2_isThere (Nat.le_of_ble_eq_true rfl) (Nat.le_of_ble_eq_true rfl) rfl rfl, sm_cv _ _ _ _ _ _ _⟩, ⟨_, ⟨sn_if_ne dX7_image_19 (by decide +kernel) rfl, sm_if1 _ _ _⟩, ⟨_, ⟨sn_ldc dX7_image_22 zw_2_57, sm_const _⟩, ⟨_, ⟨sn_ri (len := 1) dX7_image_24 rfl, sm_ri⟩, trivial⟩⟩⟩⟩⟩⟩
set_option maxRecDepth 20000 in
theorem kX7_image_25 : sx_BK sx_tb yX7_image.cls cX7_image 2 (some .int) ({ frames := 2, cells := 0, slots := 0, locals := 47 } : Room) false false 0 (fun _ => 0) 25 (bX7_image_25) := ⟨_, ⟨sn_aload_n dX7_image_25 rfl, sm_al _⟩, ⟨_, ⟨sn_get (C := RX7) (T := TX7) (N := 9) dX7_image_26 rfl zinX7 (Nat.le_of_ble_eq_true rfl) zw_1_141, sm_get _ _⟩, ⟨_, ⟨sn_iload_n dX7_image_29 rfl, sm_il _⟩, ⟨_, ⟨sn_aald2 dX7_image_30, sm_aald _⟩, ⟨_, ⟨sn_aload_n dX7_image_31 rfl, sm_al _⟩, ⟨_, ⟨sn_get (C := RX7) (T := TX7) (N := 9) dX7_image_32 rfl zinX7 (Nat.le_of_ble_eq_true rfl) zw_1_136, sm_get _ _⟩, ⟨_, ⟨sn_cv_v (N := 1) (T := TX2) ztb_X2_becomes dX7_image_35 rfl rfl zw_2_40 zw_2_41 zw_2_42 zw_1_4 zw_2_43 zmh_X2 zpd_X2_becomes (Nat.le_of_ble_eq_true rfl) (Nat.le_of_ble_eq_true rfl) rfl rfl, sm_cv _ _ _ _ _ _ _⟩, ⟨_, ⟨sn_iconst dX7_image_38 (by decide +kernel), sm_const _⟩, ⟨_, ⟨sn_ri (len := 1) dX7_image_39 rfl, sm_ri⟩, trivial⟩⟩⟩⟩⟩⟩⟩⟩⟩
theorem kX7_image : ∀ pc, sx_BK sx_tb yX7_image.cls cX7_image 2 (some .int) ({ frames := 2, cells := 0, slots := 0, locals := 47 } : Room) false false 0 (fun _ => 0) pc (BX7_image pc) := fun pc => sx_bk_if (kX7_image_0) (sx_bk_if (kX7_image_12) (sx_bk_if (kX7_image_25) (trivial)))
theorem okX7_image : sx_ok sx_tb BX7_image (yX7_image, cX7_image, 2, some .int, { frames := 2, cells := 0, slots := 0, locals := 47 }) := ⟨by decide, by decide +kernel, false, (fun h => by cases h), kX7_image⟩
theorem dX7_restore_0 : decode cX7_restore 0 = .ok (.iload_n 1, 1) := by decide +kernel
theorem dX7_restore_1 : decode cX7_restore 1 = .ok (.iconst 0, 1) := by decide +kernel
theorem dX7_restore_2 : decode cX7_restore 2 = .ok (.iconst 1, 1) := by decide +kernel
theorem dX7_restore_3 : decode cX7_restore 3 = .ok (.invokestatic 70, 3) := by decide +kernel
theorem dX7_restore_6 : decode cX7_restore 6 = .ok (.ifCond .ne 6, 3) := by decide +kernel
theorem dX7_restore_9 : decode cX7_restore 9 = .ok (.ldc 74, 2) := by decide +kernel
theorem dX7_restore_11 : decode cX7_restore 11 = .ok (.ireturn, 1) := by decide +kernel
theorem dX7_restore_12 : decode cX7_restore 12 = .ok (.aload_n 0, 1) := by decide +kernel
theorem dX7_restore_13 : decode cX7_restore 13 = .ok (.getfield 58, 3) := by decide +kernel
theorem dX7_restore_16 : decode cX7_restore 16 = .ok (.iload_n 1, 1) := by decide +kernel
theorem dX7_restore_17 : decode cX7_restore 17 = .ok (.aaload, 1) := by decide +kernel
theorem dX7_restore_18 : decode cX7_restore 18 = .ok (.invokevirtual 121, 3) := by decide +kernel
theorem dX7_restore_21 : decode cX7_restore 21 = .ok (.ifCond .ne 6, 3) := by decide +kernel
theorem dX7_restore_24 : decode cX7_restore 24 = .ok (.ldc 117, 2) := by decide +kernel
theorem dX7_restore_26 : decode cX7_restore 26 = .ok (.ireturn, 1) := by decide +kernel
theorem dX7_restore_27 : decode cX7_restore 27 = .ok (.aload_n 0, 1) := by decide +kernel
theorem dX7_restore_28 : decode cX7_restore 28 = .ok (.getfield 26, 3) := by decide +kernel
theorem dX7_restore_31 : decode cX7_restore 31 = .ok (.aload_n 0, 1) := by decide +kernel
theorem dX7_restore_32 : decode cX7_restore 32 = .ok (.getfield 58, 3) := by decide +kernel
theorem dX7_restore_35 : decode cX7_restore 35 = .ok (.iload_n 1, 1) := by decide +kernel
theorem dX7_restore_36 : decode cX7_restore 36 = .ok (.aaload, 1) := by decide +kernel
theorem dX7_restore_37 : decode cX7_restore 37 = .ok (.invokevirtual 104, 3) := by decide +kernel
theorem dX7_restore_40 : decode cX7_restore 40 = .ok (.aload_n 0, 1) := by decide +kernel
theorem dX7_restore_41 : decode cX7_restore 41 = .ok (.getfield 36, 3) := by decide +kernel
theorem dX7_restore_44 : decode cX7_restore 44 = .ok (.invokevirtual 107, 3) := by decide +kernel
theorem dX7_restore_47 : decode cX7_restore 47 = .ok (.iconst 1, 1) := by decide +kernel
theorem dX7_restore_48 : decode cX7_restore 48 = .ok (.ireturn, 1) := by decide +kernel
def bX7_restore_0 : List sx_S := [si_il 1, si_const 0, si_const 1, si_cs 121 3 0 0 0 0, si_if1 (fun x => ¬ x = 0) 12 [true, true], si_const (-1000001), si_ri]
def bX7_restore_12 : List sx_S := [si_al 0, si_get 6 7, si_il 1, si_aald 2, si_cv 2 23 0 0 0 0 0, si_if1 (fun x => ¬ x = 0) 27 [true, true], si_const (-1000002), si_ri]
def bX7_restore_27 : List sx_S := [si_al 0, si_get 6 2, si_al 0, si_get 6 7, si_il 1, si_aald 2, si_cv 2 22 1 0 0 0 0, si_al 0, si_get 6 4, si_cv 0 1 0 0 0 0 0, si_const 1, si_ri]
def BX7_restore : Nat → List sx_S := fun pc => if pc = 0 then bX7_restore_0 else if pc = 12 then bX7_restore_12 else if pc = 27 then bX7_restore_27 else []
set_option maxRecDepth 20000 in
theorem kX7_restore_0 : sx_BK sx_tb yX7_restore.cls cX7_restore 2 (some .int) ({ frames := 2, cells := 0, slots := 0, locals := 47 } : Room) false false 0 (fun _ => 0) 0 (bX7_restore_0) := ⟨_, ⟨sn_iload_n dX7_restore_0 rfl, sm_il _⟩, ⟨_, ⟨sn_iconst dX7_restore_1 (by decide +kernel), sm_const _⟩, ⟨_, ⟨sn_iconst dX7_restore_2 (by decide +kernel), sm_const _⟩, ⟨_, ⟨sn_cs_z ztb_X7_within dX7_restore_3 zw_1_169 zw_1_170 zw_1_1 zw_1_171 zmh_X7 zpd_X7_within (Nat.le_of_ble_eq_true rfl) (Nat.le_of_ble_eq_true rfl) rfl rfl, sm_cs _ _ _ _ _ _⟩, ⟨_, ⟨sn_if_ne dX7_restore_6 (by decide +kernel) rfl, sm_if1 _ _ _⟩, ⟨_, ⟨sn_ldc dX7_restore_9 zw_1_172, sm_const _⟩, ⟨_, ⟨sn_ri (len := 1) dX7_restore_11 rfl, sm_ri⟩, trivial⟩⟩⟩⟩⟩⟩⟩
set_option maxRecDepth 20000 in
theorem kX7_restore_12 : sx_BK sx_tb yX7_restore.cls cX7_restore 2 (some .int) ({ frames := 2, cells := 0, slots := 0, locals := 47 } : Room) false false 0 (fun _ => 0) 12 (bX7_restore_12) := ⟨_, ⟨sn_aload_n dX7_restore_12 rfl, sm_al _⟩, ⟨_, ⟨sn_get (C := RX7) (T := TX7) (N := 9) dX7_restore_13 rfl zinX7 (Nat.le_of_ble_eq_true rfl) zw_1_141, sm_get _ _⟩, ⟨_, ⟨sn_iload_n dX7_restore_16 rfl, sm_il _⟩, ⟨_, ⟨sn_aald2 dX7_restore_17, sm_aald _⟩, ⟨_, ⟨sn_cv_z (N := 1) (T := TX2) ztb_X2_isThere dX7_restore_18 rfl rfl zw_2_67 zw_2_68 zw_2_69 zw_1_4 zw_2_70 zmh_X2 zpd_X2_isThere (Nat.le_of_ble_eq_true rfl) (Nat.le_of_ble_eq_true rfl) rfl rfl, sm_cv _ _ _ _ _ _ _⟩, ⟨_, ⟨sn_if_ne dX7_restore_21 (by decide +kernel) rfl, sm_if1 _ _ _⟩, ⟨_, ⟨sn_ldc dX7_restore_24 zw_2_57, sm_const _⟩, ⟨_, ⟨sn_ri (len := 1) dX7_restore_26 rfl, sm_ri⟩, trivial⟩⟩⟩⟩⟩⟩⟩⟩
set_option maxRecDepth 20000 in
theorem kX7_restore_27 : sx_BK sx_tb yX7_restore.cls cX7_restore 2 (some .int) ({ frames := 2, cells := 0, slots := 0, locals := 47 } : Room) false false 0 (fun _ => 0) 27 (bX7_restore_27) := ⟨_, ⟨sn_aload_n dX7_restore_27 rfl, sm_al _⟩, ⟨_, ⟨sn_get (C := RX7) (T := TX7) (N := 9) dX7_restore_28 rfl zinX7 (Nat.le_of_ble_eq_true rfl) zw_1_136, sm_get _ _⟩, ⟨_, ⟨sn_aload_n dX7_restore_31 rfl, sm_al _⟩, ⟨_, ⟨sn_get (C := RX7) (T := TX7) (N := 9) dX7_restore_32 rfl zinX7 (Nat.le_of_ble_eq_true rfl) zw_1_141, sm_get _ _⟩, ⟨_, ⟨sn_iload_n dX7_restore_35 rfl, sm_il _⟩, ⟨_, ⟨sn_aald2 dX7_restore_36, sm_aald _⟩, ⟨_, ⟨sn_cv_v (N := 1) (T := TX2) ztb_X2_becomes dX7_restore_37 rfl rfl zw_2_40 zw_2_41 zw_2_42 zw_1_4 zw_2_43 zmh_X2 zpd_X2_becomes (Nat.le_of_ble_eq_true rfl) (Nat.le_of_ble_eq_true rfl) rfl rfl, sm_cv _ _ _ _ _ _ _⟩, ⟨_, ⟨sn_aload_n dX7_restore_40 rfl, sm_al _⟩, ⟨_, ⟨sn_get (C := RX7) (T := TX7) (N := 9) dX7_restore_41 rfl zinX7 (Nat.le_of_ble_eq_true rfl) zw_1_138, sm_get _ _⟩, ⟨_, ⟨sn_cv_v (N := 3) (T := TX0) ztb_X0_forget dX7_restore_44 rfl rfl zw_2_45 zw_2_46 zw_2_47 zw_1_5 zw_2_48 zmh_X0 zpd_X0_forget (Nat.le_of_ble_eq_true rfl) (Nat.le_of_ble_eq_true rfl) rfl rfl, sm_cv _ _ _ _ _ _ _⟩, ⟨_, ⟨sn_iconst dX7_restore_47 (by decide +kernel), sm_const _⟩, ⟨_, ⟨sn_ri (len := 1) dX7_restore_48 rfl, sm_ri⟩, trivial⟩⟩⟩⟩⟩⟩⟩⟩⟩⟩⟩⟩
theorem kX7_restore : ∀ pc, sx_BK sx_tb yX7_restore.cls cX7_restore 2 (some .int) ({ frames := 2, cells := 0, slots := 0, locals := 47 } : Room) false false 0 (fun _ => 0) pc (BX7_restore pc) := fun pc => sx_bk_if (kX7_restore_0) (sx_bk_if (kX7_restore_12) (sx_bk_if (kX7_restore_27) (trivial)))
theorem okX7_restore : sx_ok sx_tb BX7_restore (yX7_restore, cX7_restore, 2, some .int, { frames := 2, cells := 0, slots := 0, locals := 47 }) := ⟨by decide, by decide +kernel, false, (fun h => by cases h), kX7_restore⟩
theorem dX7_kind_0 : decode cX7_kind 0 = .ok (.aload_n 0, 1) := by decide +kernel
theorem dX7_kind_1 : decode cX7_kind 1 = .ok (.getfield 26, 3) := by decide +kernel
theorem dX7_kind_4 : decode cX7_kind 4 = .ok (.iload_n 1, 1) := by decide +kernel
theorem dX7_kind_5 : decode cX7_kind 5 = .ok (.invokevirtual 133, 3) := by decide +kernel
theorem dX7_kind_8 : decode cX7_kind 8 = .ok (.ifCond .eq 18, 3) := by decide +kernel
theorem dX7_kind_11 : decode cX7_kind 11 = .ok (.aload_n 0, 1) := by decide +kernel
theorem dX7_kind_12 : decode cX7_kind 12 = .ok (.getfield 26, 3) := by decide +kernel
theorem dX7_kind_15 : decode cX7_kind 15 = .ok (.getfield 110, 3) := by decide +kernel
theorem dX7_kind_18 : decode cX7_kind 18 = .ok (.bipush 48, 2) := by decide +kernel
theorem dX7_kind_20 : decode cX7_kind 20 = .ok (.iload_n 1, 1) := by decide +kernel
theorem dX7_kind_21 : decode cX7_kind 21 = .ok (.iadd, 1) := by decide +kernel
theorem dX7_kind_22 : decode cX7_kind 22 = .ok (.iaload, 1) := by decide +kernel
theorem dX7_kind_23 : decode cX7_kind 23 = .ok (.goto 5, 3) := by decide +kernel
theorem dX7_kind_26 : decode cX7_kind 26 = .ok (.ldc 74, 2) := by decide +kernel
theorem dX7_kind_28 : decode cX7_kind 28 = .ok (.ireturn, 1) := by decide +kernel
def bX7_kind_0 : List sx_S := [si_al 0, si_get 6 2, si_il 1, si_cv 2 24 1 0 0 0 0, si_if1 (fun x => x = 0) 26 [false, false], si_al 0, si_get 6 2, si_get 2 0, si_const (nI 48), si_il 1, si_bin (fun x y => x + y), si_iald, si_go 28 [false, false]]
def bX7_kind_26 : List sx_S := [si_const (-1000001), si_go 28 [false, false]]
def bX7_kind_28 : List sx_S := [si_ri]
def BX7_kind : Nat → List sx_S := fun pc => if pc = 0 then bX7_kind_0 else if pc = 26 then bX7_kind_26 else if pc = 28 then bX7_kind_28 else []
set_option maxRecDepth 20000 in
theorem kX7_kind_0 : sx_BK sx_tb yX7_kind.cls cX7_kind 2 (some .int) ({ frames := 1, cells := 0, slots := 0, locals := 21 } : Room) false false 0 (fun _ => 0) 0 (bX7_kind_0) := ⟨_, ⟨sn_aload_n dX7_kind_0 rfl, sm_al _⟩, ⟨_, ⟨sn_get (C := RX7) (T := TX7) (N := 9) dX7_kind_1 rfl zinX7 (Nat.le_of_ble_eq_true rfl) zw_1_136, sm_get _ _⟩, ⟨_, ⟨sn_iload_n dX7_kind_4 rfl, sm_il _⟩, ⟨_, ⟨sn_cv_z (N := 1) (T := TX2) ztb_X2_has dX7_kind_5 rfl rfl zw_2_123 zw_2_92 zw_2_93 zw_1_4 zw_2_94 zmh_X2 zpd_X2_has (Nat.le_of_ble_eq_true rfl) (Nat.le_of_ble_eq_true rfl) rfl rfl, sm_cv _ _ _ _ _ _ _⟩, ⟨_, ⟨sn_if_eq dX7_kind_8 (by decide +kernel) rfl, sm_if1 _ _ _⟩, ⟨_, ⟨sn_aload_n dX7_kind_11 rfl, sm_al _⟩, ⟨_, ⟨sn_get (C := RX7) (T := TX7) (N := 9) dX7_kind_12 rfl zinX7 (Nat.le_of_ble_eq_true rfl) zw_1_136, sm_get _ _⟩, ⟨_, ⟨sn_get (C := RX2) (T := TX2) (N := 1) dX7_kind_15 rfl zinX2 (Nat.le_of_ble_eq_true rfl) zw_1_80, sm_get _ _⟩, ⟨_, ⟨sn_bipush dX7_kind_18 (by decide +kernel), sm_const _⟩, ⟨_, ⟨sn_iload_n dX7_kind_20 rfl, sm_il _⟩, ⟨_, ⟨sn_iadd dX7_kind_21, sm_bin _⟩, ⟨_, ⟨sn_iald dX7_kind_22, sm_iald⟩, ⟨_, ⟨sn_goto (len := 3) dX7_kind_23 (by decide +kernel) rfl, sm_go _ _⟩, trivial⟩⟩⟩⟩⟩⟩⟩⟩⟩⟩⟩⟩⟩
set_option maxRecDepth 20000 in
theorem kX7_kind_26 : sx_BK sx_tb yX7_kind.cls cX7_kind 2 (some .int) ({ frames := 1, cells := 0, slots := 0, locals := 21 } : Room) false false 0 (fun _ => 0) 26 (bX7_kind_26) := ⟨_, ⟨sn_ldc dX7_kind_26 zw_1_172, sm_const _⟩, ⟨_, ⟨sn_fall (len := 0) rfl rfl, sm_go _ _⟩, trivial⟩⟩
set_option maxRecDepth 20000 in
theorem kX7_kind_28 : sx_BK sx_tb yX7_kind.cls cX7_kind 2 (some .int) ({ frames := 1, cells := 0, slots := 0, locals := 21 } : Room) false false 0 (fun _ => 0) 28 (bX7_kind_28) := ⟨_, ⟨sn_ri (len := 1) dX7_kind_28 rfl, sm_ri⟩, trivial⟩
theorem kX7_kind : ∀ pc, sx_BK sx_tb yX7_kind.cls cX7_kind 2 (some .int) ({ frames := 1, cells := 0, slots := 0, locals := 21 } : Room) false false 0 (fun _ => 0) pc (BX7_kind pc) := fun pc => sx_bk_if (kX7_kind_0) (sx_bk_if (kX7_kind_26) (sx_bk_if (kX7_kind_28) (trivial)))
theorem okX7_kind : sx_ok sx_tb BX7_kind (yX7_kind, cX7_kind, 2, some .int, { frames := 1, cells := 0, slots := 0, locals := 21 }) := ⟨by decide, by decide +kernel, false, (fun h => by cases h), kX7_kind⟩
theorem dX7_as_0 : decode cX7_as 0 = .ok (.aload_n 0, 1) := by decide +kernel
theorem dX7_as_1 : decode cX7_as 1 = .ok (.getfield 26, 3) := by decide +kernel
theorem dX7_as_4 : decode cX7_as 4 = .ok (.iload_n 1, 1) := by decide +kernel
theorem dX7_as_5 : decode cX7_as 5 = .ok (.invokevirtual 133, 3) := by decide +kernel
theorem dX7_as_8 : decode cX7_as 8 = .ok (.ifCond .eq 12, 3) := by decide +kernel
theorem dX7_as_11 : decode cX7_as 11 = .ok (.iload_n 2, 1) := by decide +kernel
theorem dX7_as_12 : decode cX7_as 12 = .ok (.iconst 0, 1) := by decide +kernel
theorem dX7_as_13 : decode cX7_as 13 = .ok (.iconst 5, 1) := by decide +kernel
theorem dX7_as_14 : decode cX7_as 14 = .ok (.invokestatic 70, 3) := by decide +kernel
theorem dX7_as_17 : decode cX7_as 17 = .ok (.ifCond .ne 6, 3) := by decide +kernel
theorem dX7_as_20 : decode cX7_as 20 = .ok (.ldc 74, 2) := by decide +kernel
theorem dX7_as_22 : decode cX7_as 22 = .ok (.ireturn, 1) := by decide +kernel
theorem dX7_as_23 : decode cX7_as 23 = .ok (.aload_n 0, 1) := by decide +kernel
theorem dX7_as_24 : decode cX7_as 24 = .ok (.getfield 26, 3) := by decide +kernel
theorem dX7_as_27 : decode cX7_as 27 = .ok (.getfield 110, 3) := by decide +kernel
theorem dX7_as_30 : decode cX7_as 30 = .ok (.bipush 48, 2) := by decide +kernel
theorem dX7_as_32 : decode cX7_as 32 = .ok (.iload_n 1, 1) := by decide +kernel
theorem dX7_as_33 : decode cX7_as 33 = .ok (.iadd, 1) := by decide +kernel
theorem dX7_as_34 : decode cX7_as 34 = .ok (.iaload, 1) := by decide +kernel
theorem dX7_as_35 : decode cX7_as 35 = .ok (.iload_n 2, 1) := by decide +kernel
theorem dX7_as_36 : decode cX7_as 36 = .ok (.invokestatic 201, 3) := by decide +kernel
theorem dX7_as_39 : decode cX7_as 39 = .ok (.ifCond .ne 12, 3) := by decide +kernel
theorem dX7_as_42 : decode cX7_as 42 = .ok (.aload_n 0, 1) := by decide +kernel
theorem dX7_as_43 : decode cX7_as 43 = .ok (.getfield 10, 3) := by decide +kernel
theorem dX7_as_46 : decode cX7_as 46 = .ok (.iconst 3, 1) := by decide +kernel
theorem dX7_as_47 : decode cX7_as 47 = .ok (.invokevirtual 205, 3) := by decide +kernel
theorem dX7_as_50 : decode cX7_as 50 = .ok (.ireturn, 1) := by decide +kernel
theorem dX7_as_51 : decode cX7_as 51 = .ok (.aload_n 0, 1) := by decide +kernel
theorem dX7_as_52 : decode cX7_as 52 = .ok (.getfield 10, 3) := by decide +kernel
theorem dX7_as_55 : decode cX7_as 55 = .ok (.iconst 0, 1) := by decide +kernel
theorem dX7_as_56 : decode cX7_as 56 = .ok (.putfield 208, 3) := by decide +kernel
theorem dX7_as_59 : decode cX7_as 59 = .ok (.iload_n 1, 1) := by decide +kernel
theorem dX7_as_60 : decode cX7_as 60 = .ok (.ireturn, 1) := by decide +kernel
def bX7_as_0 : List sx_S := [si_al 0, si_get 6 2, si_il 1, si_cv 2 24 1 0 0 0 0, si_if1 (fun x => x = 0) 20 [false, false, false], si_il 2, si_const 0, si_const (nI 5), si_cs 121 3 0 0 0 0, si_if1 (fun x => ¬ x = 0) 23 [true, true, true], si_go 20 [false, false, false]]
def bX7_as_20 : List sx_S := [si_const (-1000001), si_ri]
def bX7_as_23 : List sx_S := [si_al 0, si_get 6 2, si_get 2 0, si_const (nI 48), si_il 1, si_bin (fun x y => x + y), si_iald, si_il 2, si_cs 26 2 0 0 0 0, si_if1 (fun x => ¬ x = 0) 51 [true, true, false], si_al 0, si_get 6 0, si_const (nI 3), si_cv 4 63 1 0 0 0 0, si_ri]
def bX7_as_51 : List sx_S := [si_al 0, si_get 6 0, si_const 0, si_put 4 3 0, si_il 1, si_ri]
def BX7_as : Nat → List sx_S := fun pc => if pc = 0 then bX7_as_0 else if pc = 20 then bX7_as_20 else if pc = 23 then bX7_as_23 else if pc = 51 then bX7_as_51 else []
set_option maxRecDepth 20000 in
theorem kX7_as_0 : sx_BK sx_tb yX7_as.cls cX7_as 3 (some .int) ({ frames := 2, cells := 0, slots := 0, locals := 42 } : Room) false false 0 (fun _ => 0) 0 (bX7_as_0) := ⟨_, ⟨sn_aload_n dX7_as_0 rfl, sm_al _⟩, ⟨_, ⟨sn_get (C := RX7) (T := TX7) (N := 9) dX7_as_1 rfl zinX7 (Nat.le_of_ble_eq_true rfl) zw_1_136, sm_get _ _⟩, ⟨_, ⟨sn_iload_n dX7_as_4 rfl, sm_il _⟩, ⟨_, ⟨sn_cv_z (N := 1) (T := TX2) ztb_X2_has dX7_as_5 rfl rfl zw_2_123 zw_2_92 zw_2_93 zw_1_4 zw_2_94 zmh_X2 zpd_X2_has (Nat.le_of_ble_eq_true rfl) (Nat.le_of_ble_eq_true rfl) rfl rfl, sm_cv _ _ _ _ _ _ _⟩, ⟨_, ⟨sn_if_eq dX7_as_8 (by decide +kernel) rfl, sm_if1 _ _ _⟩, ⟨_, ⟨sn_iload_n dX7_as_11 rfl, sm_il _⟩, ⟨_, ⟨sn_iconst dX7_as_12 (by decide +kernel), sm_const _⟩, ⟨_, ⟨sn_iconst dX7_as_13 (by decide +kernel), sm_const _⟩, ⟨_, ⟨sn_cs_z ztb_X7_within dX7_as_14 zw_1_169 zw_1_170 zw_1_1 zw_1_171 zmh_X7 zpd_X7_within (Nat.le_of_ble_eq_true rfl) (Nat.le_of_ble_eq_true rfl) rfl rfl, sm_cs _ _ _ _ _ _⟩, ⟨_, ⟨sn_if_ne dX7_as_17 (by decide +kernel) rfl, sm_if1 _ _ _⟩, ⟨_, ⟨sn_fall (len := 0) rfl rfl, sm_go _ _⟩, trivial⟩⟩⟩⟩⟩⟩⟩⟩⟩⟩⟩
set_option maxRecDepth 20000 in
theorem kX7_as_20 : sx_BK sx_tb yX7_as.cls cX7_as 3 (some .int) ({ frames := 2, cells := 0, slots := 0, locals := 42 } : Room) false false 0 (fun _ => 0) 20 (bX7_as_20) := ⟨_, ⟨sn_ldc dX7_as_20 zw_1_172, sm_const _⟩, ⟨_, ⟨sn_ri (len := 1) dX7_as_22 rfl, sm_ri⟩, trivial⟩⟩
set_option maxRecDepth 20000 in
theorem kX7_as_23 : sx_BK sx_tb yX7_as.cls cX7_as 3 (some .int) ({ frames := 2, cells := 0, slots := 0, locals := 42 } : Room) false false 0 (fun _ => 0) 23 (bX7_as_23) := ⟨_, ⟨sn_aload_n dX7_as_23 rfl, sm_al _⟩, ⟨_, ⟨sn_get (C := RX7) (T := TX7) (N := 9) dX7_as_24 rfl zinX7 (Nat.le_of_ble_eq_true rfl) zw_1_136, sm_get _ _⟩, ⟨_, ⟨sn_get (C := RX2) (T := TX2) (N := 1) dX7_as_27 rfl zinX2 (Nat.le_of_ble_eq_true rfl) zw_1_80, sm_get _ _⟩, ⟨_, ⟨sn_bipush dX7_as_30 (by decide +kernel), sm_const _⟩, ⟨_, ⟨sn_iload_n dX7_as_32 rfl, sm_il _⟩, ⟨_, ⟨sn_iadd dX7_as_33, sm_bin _⟩, ⟨_, ⟨sn_iald dX7_as_34, sm_iald⟩, ⟨_, ⟨sn_iload_n dX7_as_35 rfl, sm_il _⟩, ⟨_, ⟨sn_cs_z ztb_X2_isKind dX7_as_36 zw_3_84 zw_3_85 zw_1_4 zw_3_86 zmh_X2 zpd_X2_isKind (Nat.le_of_ble_eq_true rfl) (Nat.le_of_ble_eq_true rfl) rfl rfl, sm_cs _ _ _ _ _ _⟩, ⟨_, ⟨sn_if_ne dX7_as_39 (by decide +kernel) rfl, sm_if1 _ _ _⟩, ⟨_, ⟨sn_aload_n dX7_as_42 rfl, sm_al _⟩, ⟨_, ⟨sn_get (C := RX7) (T := TX7) (N := 9) dX7_as_43 rfl zinX7 (Nat.le_of_ble_eq_true rfl) zw_1_134, sm_get _ _⟩, ⟨_, ⟨sn_iconst dX7_as_46 (by decide +kernel), sm_const _⟩, ⟨_, ⟨sn_cv_i (N := 4) (T := TX5) ztb_X5_find dX7_as_47 rfl rfl zw_3_90 zw_1_178 zw_1_179 zw_1_2 zw_1_180 zmh_X5 zpd_X5_find (Nat.le_of_ble_eq_true rfl) (Nat.le_of_ble_eq_true rfl) rfl rfl, sm_cv _ _ _ _ _ _ _⟩, ⟨_, ⟨sn_ri (len := 1) dX7_as_50 rfl, sm_ri⟩, trivial⟩⟩⟩⟩⟩⟩⟩⟩⟩⟩⟩⟩⟩⟩⟩
set_option maxRecDepth 20000 in
theorem kX7_as_51 : sx_BK sx_tb yX7_as.cls cX7_as 3 (some .int) ({ frames := 2, cells := 0, slots := 0, locals := 42 } : Room) false false 0 (fun _ => 0) 51 (bX7_as_51) := ⟨_, ⟨sn_aload_n dX7_as_51 rfl, sm_al _⟩, ⟨_, ⟨sn_get (C := RX7) (T := TX7) (N := 9) dX7_as_52 rfl zinX7 (Nat.le_of_ble_eq_true rfl) zw_1_134, sm_get _ _⟩, ⟨_, ⟨sn_iconst dX7_as_55 (by decide +kernel), sm_const _⟩, ⟨_, ⟨sn_put (C := RX5) (T := TX5) (N := 4) dX7_as_56 rfl zinX5 tyX5_ok nmX5 (Nat.le_of_ble_eq_true rfl) zw_1_34 rfl (tyX5_ok 3 (Nat.le_of_ble_eq_true rfl)) trivial, sm_put _ _ _⟩, ⟨_, ⟨sn_iload_n dX7_as_59 rfl, sm_il _⟩, ⟨_, ⟨sn_ri (len := 1) dX7_as_60 rfl, sm_ri⟩, trivial⟩⟩⟩⟩⟩⟩
theorem kX7_as : ∀ pc, sx_BK sx_tb yX7_as.cls cX7_as 3 (some .int) ({ frames := 2, cells := 0, slots := 0, locals := 42 } : Room) false false 0 (fun _ => 0) pc (BX7_as pc) := fun pc => sx_bk_if (kX7_as_0) (sx_bk_if (kX7_as_20) (sx_bk_if (kX7_as_23) (sx_bk_if (kX7_as_51) (trivial))))
theorem okX7_as : sx_ok sx_tb BX7_as (yX7_as, cX7_as, 3, some .int, { frames := 2, cells := 0, slots := 0, locals := 42 }) := ⟨by decide, by decide +kernel, false, (fun h => by cases h), kX7_as⟩
theorem dX7_ask_0 : decode cX7_ask 0 = .ok (.aload_n 0, 1) := by decide +kernel
theorem dX7_ask_1 : decode cX7_ask 1 = .ok (.getfield 26, 3) := by decide +kernel
theorem dX7_ask_4 : decode cX7_ask 4 = .ok (.iload_n 1, 1) := by decide +kernel
theorem dX7_ask_5 : decode cX7_ask 5 = .ok (.invokevirtual 133, 3) := by decide +kernel
theorem dX7_ask_8 : decode cX7_ask 8 = .ok (.ifCond .eq 12, 3) := by decide +kernel
theorem dX7_ask_11 : decode cX7_ask 11 = .ok (.iload_n 2, 1) := by decide +kernel
theorem dX7_ask_12 : decode cX7_ask 12 = .ok (.iconst 0, 1) := by decide +kernel
theorem dX7_ask_13 : decode cX7_ask 13 = .ok (.iconst 1, 1) := by decide +kernel
theorem dX7_ask_14 : decode cX7_ask 14 = .ok (.invokestatic 70, 3) := by decide +kernel
theorem dX7_ask_17 : decode cX7_ask 17 = .ok (.ifCond .ne 6, 3) := by decide +kernel
theorem dX7_ask_20 : decode cX7_ask 20 = .ok (.ldc 74, 2) := by decide +kernel
theorem dX7_ask_22 : decode cX7_ask 22 = .ok (.ireturn, 1) := by decide +kernel
theorem dX7_ask_23 : decode cX7_ask 23 = .ok (.aload_n 0, 1) := by decide +kernel
theorem dX7_ask_24 : decode cX7_ask 24 = .ok (.getfield 54, 3) := by decide +kernel
theorem dX7_ask_27 : decode cX7_ask 27 = .ok (.iconst 0, 1) := by decide +kernel
theorem dX7_ask_28 : decode cX7_ask 28 = .ok (.putfield 211, 3) := by decide +kernel
theorem dX7_ask_31 : decode cX7_ask 31 = .ok (.iload_n 2, 1) := by decide +kernel
theorem dX7_ask_32 : decode cX7_ask 32 = .ok (.ifCond .ne 14, 3) := by decide +kernel
theorem dX7_ask_35 : decode cX7_ask 35 = .ok (.aload_n 0, 1) := by decide +kernel
theorem dX7_ask_36 : decode cX7_ask 36 = .ok (.getfield 54, 3) := by decide +kernel
theorem dX7_ask_39 : decode cX7_ask 39 = .ok (.iload_n 1, 1) := by decide +kernel
theorem dX7_ask_40 : decode cX7_ask 40 = .ok (.invokevirtual 214, 3) := by decide +kernel
theorem dX7_ask_43 : decode cX7_ask 43 = .ok (.goto 11, 3) := by decide +kernel
theorem dX7_ask_46 : decode cX7_ask 46 = .ok (.aload_n 0, 1) := by decide +kernel
theorem dX7_ask_47 : decode cX7_ask 47 = .ok (.getfield 54, 3) := by decide +kernel
theorem dX7_ask_50 : decode cX7_ask 50 = .ok (.iload_n 1, 1) := by decide +kernel
theorem dX7_ask_51 : decode cX7_ask 51 = .ok (.invokevirtual 217, 3) := by decide +kernel
theorem dX7_ask_54 : decode cX7_ask 54 = .ok (.ireturn, 1) := by decide +kernel
def bX7_ask_0 : List sx_S := [si_al 0, si_get 6 2, si_il 1, si_cv 2 24 1 0 0 0 0, si_if1 (fun x => x = 0) 20 [false, false, false], si_il 2, si_const 0, si_const 1, si_cs 121 3 0 0 0 0, si_if1 (fun x => ¬ x = 0) 23 [true, true, true], si_go 20 [false, false, false]]
def bX7_ask_20 : List sx_S := [si_const (-1000001), si_ri]
def bX7_ask_23 : List sx_S := [si_al 0, si_get 6 6, si_const 0, si_put 1 1 0, si_il 2, si_if1 (fun x => ¬ x = 0) 46 [true, true, false], si_al 0, si_get 6 6, si_il 1, si_cv 1 5 1 0 0 0 0, si_go 54 [false, false, false]]
def bX7_ask_46 : List sx_S := [si_al 0, si_get 6 6, si_il 1, si_cv 1 6 1 0 0 0 0, si_go 54 [false, false, false]]
def bX7_ask_54 : List sx_S := [si_ri]
def BX7_ask : Nat → List sx_S := fun pc => if pc = 0 then bX7_ask_0 else if pc = 20 then bX7_ask_20 else if pc = 23 then bX7_ask_23 else if pc = 46 then bX7_ask_46 else if pc = 54 then bX7_ask_54 else []
set_option maxRecDepth 20000 in
theorem kX7_ask_0 : sx_BK sx_tb yX7_ask.cls cX7_ask 3 (some .int) ({ frames := 7, cells := 0, slots := 0, locals := 148 } : Room) false false 0 (fun _ => 0) 0 (bX7_ask_0) := ⟨_, ⟨sn_aload_n dX7_ask_0 rfl, sm_al _⟩, ⟨_, ⟨sn_get (C := RX7) (T := TX7) (N := 9) dX7_ask_1 rfl zinX7 (Nat.le_of_ble_eq_true rfl) zw_1_136, sm_get _ _⟩, ⟨_, ⟨sn_iload_n dX7_ask_4 rfl, sm_il _⟩, ⟨_, ⟨sn_cv_z (N := 1) (T := TX2) ztb_X2_has dX7_ask_5 rfl rfl zw_2_123 zw_2_92 zw_2_93 zw_1_4 zw_2_94 zmh_X2 zpd_X2_has (Nat.le_of_ble_eq_true rfl) (Nat.le_of_ble_eq_true rfl) rfl rfl, sm_cv _ _ _ _ _ _ _⟩, ⟨_, ⟨sn_if_eq dX7_ask_8 (by decide +kernel) rfl, sm_if1 _ _ _⟩, ⟨_, ⟨sn_iload_n dX7_ask_11 rfl, sm_il _⟩, ⟨_, ⟨sn_iconst dX7_ask_12 (by decide +kernel), sm_const _⟩, ⟨_, ⟨sn_iconst dX7_ask_13 (by decide +kernel), sm_const _⟩, ⟨_, ⟨sn_cs_z ztb_X7_within dX7_ask_14 zw_1_169 zw_1_170 zw_1_1 zw_1_171 zmh_X7 zpd_X7_within (Nat.le_of_ble_eq_true rfl) (Nat.le_of_ble_eq_true rfl) rfl rfl, sm_cs _ _ _ _ _ _⟩, ⟨_, ⟨sn_if_ne dX7_ask_17 (by decide +kernel) rfl, sm_if1 _ _ _⟩, ⟨_, ⟨sn_fall (len := 0) rfl rfl, sm_go _ _⟩, trivial⟩⟩⟩⟩⟩⟩⟩⟩⟩⟩⟩
set_option maxRecDepth 20000 in
theorem kX7_ask_20 : sx_BK sx_tb yX7_ask.cls cX7_ask 3 (some .int) ({ frames := 7, cells := 0, slots := 0, locals := 148 } : Room) false false 0 (fun _ => 0) 20 (bX7_ask_20) := ⟨_, ⟨sn_ldc dX7_ask_20 zw_1_172, sm_const _⟩, ⟨_, ⟨sn_ri (len := 1) dX7_ask_22 rfl, sm_ri⟩, trivial⟩⟩
set_option maxRecDepth 20000 in
theorem kX7_ask_23 : sx_BK sx_tb yX7_ask.cls cX7_ask 3 (some .int) ({ frames := 7, cells := 0, slots := 0, locals := 148 } : Room) false false 0 (fun _ => 0) 23 (bX7_ask_23) := ⟨_, ⟨sn_aload_n dX7_ask_23 rfl, sm_al _⟩, ⟨_, ⟨sn_get (C := RX7) (T := TX7) (N := 9) dX7_ask_24 rfl zinX7 (Nat.le_of_ble_eq_true rfl) zw_1_140, sm_get _ _⟩, ⟨_, ⟨sn_iconst dX7_ask_27 (by decide +kernel), sm_const _⟩, ⟨_, ⟨sn_put (C := RX1) (T := TX1) (N := 3) dX7_ask_28 rfl zinX1 tyX1_ok nmX1 (Nat.le_of_ble_eq_true rfl) zw_1_124 rfl (tyX1_ok 1 (Nat.le_of_ble_eq_true rfl)) trivial, sm_put _ _ _⟩, ⟨_, ⟨sn_iload_n dX7_ask_31 rfl, sm_il _⟩, ⟨_, ⟨sn_if_ne dX7_ask_32 (by decide +kernel) rfl, sm_if1 _ _ _⟩, ⟨_, ⟨sn_aload_n dX7_ask_35 rfl, sm_al _⟩, ⟨_, ⟨sn_get (C := RX7) (T := TX7) (N := 9) dX7_ask_36 rfl zinX7 (Nat.le_of_ble_eq_true rfl) zw_1_140, sm_get _ _⟩, ⟨_, ⟨sn_iload_n dX7_ask_39 rfl, sm_il _⟩, ⟨_, ⟨sn_cv_i (N := 3) (T := TX1) ztb_X1_sizeOf dX7_ask_40 rfl rfl zw_3_95 zw_3_96 zw_3_97 zw_1_7 zw_3_98 zmh_X1 zpd_X1_sizeOf (Nat.le_of_ble_eq_true rfl) (Nat.le_of_ble_eq_true rfl) rfl rfl, sm_cv _ _ _ _ _ _ _⟩, ⟨_, ⟨sn_goto (len := 3) dX7_ask_43 (by decide +kernel) rfl, sm_go _ _⟩, trivial⟩⟩⟩⟩⟩⟩⟩⟩⟩⟩⟩
set_option maxRecDepth 20000 in
theorem kX7_ask_46 : sx_BK sx_tb yX7_ask.cls cX7_ask 3 (some .int) ({ frames := 7, cells := 0, slots := 0, locals := 148 } : Room) false false 0 (fun _ => 0) 46 (bX7_ask_46) := ⟨_, ⟨sn_aload_n dX7_ask_46 rfl, sm_al _⟩, ⟨_, ⟨sn_get (C := RX7) (T := TX7) (N := 9) dX7_ask_47 rfl zinX7 (Nat.le_of_ble_eq_true rfl) zw_1_140, sm_get _ _⟩, ⟨_, ⟨sn_iload_n dX7_ask_50 rfl, sm_il _⟩, ⟨_, ⟨sn_cv_i (N := 3) (T := TX1) ztb_X1_markOf dX7_ask_51 rfl rfl zw_3_143 zw_3_144 zw_3_145 zw_1_7 zw_3_146 zmh_X1 zpd_X1_markOf (Nat.le_of_ble_eq_true rfl) (Nat.le_of_ble_eq_true rfl) rfl rfl, sm_cv _ _ _ _ _ _ _⟩, ⟨_, ⟨sn_fall (len := 0) rfl rfl, sm_go _ _⟩, trivial⟩⟩⟩⟩⟩
set_option maxRecDepth 20000 in
theorem kX7_ask_54 : sx_BK sx_tb yX7_ask.cls cX7_ask 3 (some .int) ({ frames := 7, cells := 0, slots := 0, locals := 148 } : Room) false false 0 (fun _ => 0) 54 (bX7_ask_54) := ⟨_, ⟨sn_ri (len := 1) dX7_ask_54 rfl, sm_ri⟩, trivial⟩
theorem kX7_ask : ∀ pc, sx_BK sx_tb yX7_ask.cls cX7_ask 3 (some .int) ({ frames := 7, cells := 0, slots := 0, locals := 148 } : Room) false false 0 (fun _ => 0) pc (BX7_ask pc) := fun pc => sx_bk_if (kX7_ask_0) (sx_bk_if (kX7_ask_20) (sx_bk_if (kX7_ask_23) (sx_bk_if (kX7_ask_46) (sx_bk_if (kX7_ask_54) (trivial)))))
theorem okX7_ask : sx_ok sx_tb BX7_ask (yX7_ask, cX7_ask, 3, some .int, { frames := 7, cells := 0, slots := 0, locals := 148 }) := ⟨by decide, by decide +kernel, false, (fun h => by cases h), kX7_ask⟩
theorem dX7_trace_0 : decode cX7_trace 0 = .ok (.iload_n 1, 1) := by decide +kernel
theorem dX7_trace_1 : decode cX7_trace 1 = .ok (.iconst 0, 1) := by decide +kernel
theorem dX7_trace_2 : decode cX7_trace 2 = .ok (.aload_n 0, 1) := by decide +kernel
theorem dX7_trace_3 : decode cX7_trace 3 = .ok (.getfield 54, 3) := by decide +kernel
theorem dX7_trace_6 : decode cX7_trace 6 = .ok (.getfield 211, 3) := by decide +kernel
theorem dX7_trace_9 : decode cX7_trace 9 = .ok (.iconst 1, 1) := by decide +kernel
theorem dX7_trace_10 : decode cX7_trace 10 = .ok (.isub, 1) := by decide +kernel
theorem dX7_trace_11 : decode cX7_trace 11 = .ok (.invokestatic 70, 3) := by decide +kernel
theorem dX7_trace_14 : decode cX7_trace 14 = .ok (.ifCond .eq 15, 3) := by decide +kernel
theorem dX7_trace_17 : decode cX7_trace 17 = .ok (.aload_n 0, 1) := by decide +kernel
theorem dX7_trace_18 : decode cX7_trace 18 = .ok (.getfield 54, 3) := by decide +kernel
theorem dX7_trace_21 : decode cX7_trace 21 = .ok (.getfield 220, 3) := by decide +kernel
theorem dX7_trace_24 : decode cX7_trace 24 = .ok (.iload_n 1, 1) := by decide +kernel
theorem dX7_trace_25 : decode cX7_trace 25 = .ok (.iaload, 1) := by decide +kernel
theorem dX7_trace_26 : decode cX7_trace 26 = .ok (.goto 5, 3) := by decide +kernel
theorem dX7_trace_29 : decode cX7_trace 29 = .ok (.ldc 223, 2) := by decide +kernel
theorem dX7_trace_31 : decode cX7_trace 31 = .ok (.ireturn, 1) := by decide +kernel
def bX7_trace_0 : List sx_S := [si_il 1, si_const 0, si_al 0, si_get 6 6, si_get 1 1, si_const 1, si_bin (fun x y => x - y), si_cs 121 3 0 0 0 0, si_if1 (fun x => x = 0) 29 [false, false], si_al 0, si_get 6 6, si_get 1 0, si_il 1, si_iald, si_go 31 [false, false]]
def bX7_trace_29 : List sx_S := [si_const (-1000000), si_go 31 [false, false]]
def bX7_trace_31 : List sx_S := [si_ri]
def BX7_trace : Nat → List sx_S := fun pc => if pc = 0 then bX7_trace_0 else if pc = 29 then bX7_trace_29 else if pc = 31 then bX7_trace_31 else []
set_option maxRecDepth 20000 in
theorem kX7_trace_0 : sx_BK sx_tb yX7_trace.cls cX7_trace 2 (some .int) ({ frames := 1, cells := 0, slots := 0, locals := 22 } : Room) false false 0 (fun _ => 0) 0 (bX7_trace_0) := ⟨_, ⟨sn_iload_n dX7_trace_0 rfl, sm_il _⟩, ⟨_, ⟨sn_iconst dX7_trace_1 (by decide +kernel), sm_const _⟩, ⟨_, ⟨sn_aload_n dX7_trace_2 rfl, sm_al _⟩, ⟨_, ⟨sn_get (C := RX7) (T := TX7) (N := 9) dX7_trace_3 rfl zinX7 (Nat.le_of_ble_eq_true rfl) zw_1_140, sm_get _ _⟩, ⟨_, ⟨sn_get (C := RX1) (T := TX1) (N := 3) dX7_trace_6 rfl zinX1 (Nat.le_of_ble_eq_true rfl) zw_1_124, sm_get _ _⟩, ⟨_, ⟨sn_iconst dX7_trace_9 (by decide +kernel), sm_const _⟩, ⟨_, ⟨sn_isub dX7_trace_10, sm_bin _⟩, ⟨_, ⟨sn_cs_z ztb_X7_within dX7_trace_11 zw_1_169 zw_1_170 zw_1_1 zw_1_171 zmh_X7 zpd_X7_within (Nat.le_of_ble_eq_true rfl) (Nat.le_of_ble_eq_true rfl) rfl rfl, sm_cs _ _ _ _ _ _⟩, ⟨_, ⟨sn_if_eq dX7_trace_14 (by decide +kernel) rfl, sm_if1 _ _ _⟩, ⟨_, ⟨sn_aload_n dX7_trace_17 rfl, sm_al _⟩, ⟨_, ⟨sn_get (C := RX7) (T := TX7) (N := 9) dX7_trace_18 rfl zinX7 (Nat.le_of_ble_eq_true rfl) zw_1_140, sm_get _ _⟩, ⟨_, ⟨sn_get (C := RX1) (T := TX1) (N := 3) dX7_trace_21 rfl zinX1 (Nat.le_of_ble_eq_true rfl) zw_1_122, sm_get _ _⟩, ⟨_, ⟨sn_iload_n dX7_trace_24 rfl, sm_il _⟩, ⟨_, ⟨sn_iald dX7_trace_25, sm_iald⟩, ⟨_, ⟨sn_goto (len := 3) dX7_trace_26 (by decide +kernel) rfl, sm_go _ _⟩, trivial⟩⟩⟩⟩⟩⟩⟩⟩⟩⟩⟩⟩⟩⟩⟩
set_option maxRecDepth 20000 in
theorem kX7_trace_29 : sx_BK sx_tb yX7_trace.cls cX7_trace 2 (some .int) ({ frames := 1, cells := 0, slots := 0, locals := 22 } : Room) false false 0 (fun _ => 0) 29 (bX7_trace_29) := ⟨_, ⟨sn_ldc dX7_trace_29 zw_3_159, sm_const _⟩, ⟨_, ⟨sn_fall (len := 0) rfl rfl, sm_go _ _⟩, trivial⟩⟩
set_option maxRecDepth 20000 in
theorem kX7_trace_31 : sx_BK sx_tb yX7_trace.cls cX7_trace 2 (some .int) ({ frames := 1, cells := 0, slots := 0, locals := 22 } : Room) false false 0 (fun _ => 0) 31 (bX7_trace_31) := ⟨_, ⟨sn_ri (len := 1) dX7_trace_31 rfl, sm_ri⟩, trivial⟩
theorem kX7_trace : ∀ pc, sx_BK sx_tb yX7_trace.cls cX7_trace 2 (some .int) ({ frames := 1, cells := 0, slots := 0, locals := 22 } : Room) false false 0 (fun _ => 0) pc (BX7_trace pc) := fun pc => sx_bk_if (kX7_trace_0) (sx_bk_if (kX7_trace_29) (sx_bk_if (kX7_trace_31) (trivial)))
theorem okX7_trace : sx_ok sx_tb BX7_trace (yX7_trace, cX7_trace, 2, some .int, { frames := 1, cells := 0, slots := 0, locals := 22 }) := ⟨by decide, by decide +kernel, false, (fun h => by cases h), kX7_trace⟩
theorem dX7_count_0 : decode cX7_count 0 = .ok (.iload_n 1, 1) := by decide +kernel
theorem dX7_count_1 : decode cX7_count 1 = .ok (.tableswitch 139 0 8 #[51, 59, 70, 81, 92, 103, 113, 123, 131], 51) := by decide +kernel
theorem dX7_count_52 : decode cX7_count 52 = .ok (.aload_n 0, 1) := by decide +kernel
theorem dX7_count_53 : decode cX7_count 53 = .ok (.getfield 10, 3) := by decide +kernel
theorem dX7_count_56 : decode cX7_count 56 = .ok (.invokevirtual 224, 3) := by decide +kernel
theorem dX7_count_59 : decode cX7_count 59 = .ok (.ireturn, 1) := by decide +kernel
theorem dX7_count_60 : decode cX7_count 60 = .ok (.aload_n 0, 1) := by decide +kernel
theorem dX7_count_61 : decode cX7_count 61 = .ok (.getfield 26, 3) := by decide +kernel
theorem dX7_count_64 : decode cX7_count 64 = .ok (.getfield 110, 3) := by decide +kernel
theorem dX7_count_67 : decode cX7_count 67 = .ok (.bipush 58, 2) := by decide +kernel
theorem dX7_count_69 : decode cX7_count 69 = .ok (.iaload, 1) := by decide +kernel
theorem dX7_count_70 : decode cX7_count 70 = .ok (.ireturn, 1) := by decide +kernel
theorem dX7_count_71 : decode cX7_count 71 = .ok (.aload_n 0, 1) := by decide +kernel
theorem dX7_count_72 : decode cX7_count 72 = .ok (.getfield 26, 3) := by decide +kernel
theorem dX7_count_75 : decode cX7_count 75 = .ok (.getfield 110, 3) := by decide +kernel
theorem dX7_count_78 : decode cX7_count 78 = .ok (.bipush 59, 2) := by decide +kernel
theorem dX7_count_80 : decode cX7_count 80 = .ok (.iaload, 1) := by decide +kernel
theorem dX7_count_81 : decode cX7_count 81 = .ok (.ireturn, 1) := by decide +kernel
theorem dX7_count_82 : decode cX7_count 82 = .ok (.aload_n 0, 1) := by decide +kernel
theorem dX7_count_83 : decode cX7_count 83 = .ok (.getfield 26, 3) := by decide +kernel
theorem dX7_count_86 : decode cX7_count 86 = .ok (.getfield 110, 3) := by decide +kernel
theorem dX7_count_89 : decode cX7_count 89 = .ok (.bipush 60, 2) := by decide +kernel
theorem dX7_count_91 : decode cX7_count 91 = .ok (.iaload, 1) := by decide +kernel
theorem dX7_count_92 : decode cX7_count 92 = .ok (.ireturn, 1) := by decide +kernel
theorem dX7_count_93 : decode cX7_count 93 = .ok (.aload_n 0, 1) := by decide +kernel
theorem dX7_count_94 : decode cX7_count 94 = .ok (.getfield 26, 3) := by decide +kernel
theorem dX7_count_97 : decode cX7_count 97 = .ok (.getfield 110, 3) := by decide +kernel
theorem dX7_count_100 : decode cX7_count 100 = .ok (.bipush 61, 2) := by decide +kernel
theorem dX7_count_102 : decode cX7_count 102 = .ok (.iaload, 1) := by decide +kernel
theorem dX7_count_103 : decode cX7_count 103 = .ok (.ireturn, 1) := by decide +kernel
theorem dX7_count_104 : decode cX7_count 104 = .ok (.aload_n 0, 1) := by decide +kernel
theorem dX7_count_105 : decode cX7_count 105 = .ok (.getfield 26, 3) := by decide +kernel
theorem dX7_count_108 : decode cX7_count 108 = .ok (.bipush 30, 2) := by decide +kernel
theorem dX7_count_110 : decode cX7_count 110 = .ok (.invokevirtual 227, 3) := by decide +kernel
theorem dX7_count_113 : decode cX7_count 113 = .ok (.ireturn, 1) := by decide +kernel
theorem dX7_count_114 : decode cX7_count 114 = .ok (.aload_n 0, 1) := by decide +kernel
theorem dX7_count_115 : decode cX7_count 115 = .ok (.getfield 26, 3) := by decide +kernel
theorem dX7_count_118 : decode cX7_count 118 = .ok (.bipush 24, 2) := by decide +kernel
theorem dX7_count_120 : decode cX7_count 120 = .ok (.invokevirtual 227, 3) := by decide +kernel
theorem dX7_count_123 : decode cX7_count 123 = .ok (.ireturn, 1) := by decide +kernel
theorem dX7_count_124 : decode cX7_count 124 = .ok (.aload_n 0, 1) := by decide +kernel
theorem dX7_count_125 : decode cX7_count 125 = .ok (.getfield 36, 3) := by decide +kernel
theorem dX7_count_128 : decode cX7_count 128 = .ok (.getfield 114, 3) := by decide +kernel
theorem dX7_count_131 : decode cX7_count 131 = .ok (.ireturn, 1) := by decide +kernel
theorem dX7_count_132 : decode cX7_count 132 = .ok (.aload_n 0, 1) := by decide +kernel
theorem dX7_count_133 : decode cX7_count 133 = .ok (.getfield 19, 3) := by decide +kernel
theorem dX7_count_136 : decode cX7_count 136 = .ok (.getfield 230, 3) := by decide +kernel
theorem dX7_count_139 : decode cX7_count 139 = .ok (.ireturn, 1) := by decide +kernel
theorem dX7_count_140 : decode cX7_count 140 = .ok (.ldc 74, 2) := by decide +kernel
theorem dX7_count_142 : decode cX7_count 142 = .ok (.ireturn, 1) := by decide +kernel
def bX7_count_0 : List sx_S := [si_il 1, si_sw [(0, 52, [true, false]), (1, 60, [true, false]), ((nI 2), 71, [true, false]), ((nI 3), 82, [true, false]), ((nI 4), 93, [true, false]), ((nI 5), 104, [true, false]), ((nI 6), 114, [true, false]), ((nI 7), 124, [true, false]), ((nI 8), 132, [true, false])] 140 [false, false]]
def bX7_count_52 : List sx_S := [si_al 0, si_get 6 0, si_cv 4 69 0 0 0 0 0, si_ri]
def bX7_count_60 : List sx_S := [si_al 0, si_get 6 2, si_get 2 0, si_const (nI 58), si_iald, si_ri]
def bX7_count_71 : List sx_S := [si_al 0, si_get 6 2, si_get 2 0, si_const (nI 59), si_iald, si_ri]
def bX7_count_82 : List sx_S := [si_al 0, si_get 6 2, si_get 2 0, si_const (nI 60), si_iald, si_ri]
def bX7_count_93 : List sx_S := [si_al 0, si_get 6 2, si_get 2 0, si_const (nI 61), si_iald, si_ri]
def bX7_count_104 : List sx_S := [si_al 0, si_get 6 2, si_const (nI 30), si_cv 2 38 1 0 0 0 0, si_ri]
def bX7_count_114 : List sx_S := [si_al 0, si_get 6 2, si_const (nI 24), si_cv 2 38 1 0 0 0 0, si_ri]
def bX7_count_124 : List sx_S := [si_al 0, si_get 6 4, si_get 0 2, si_ri]
def bX7_count_132 : List sx_S := [si_al 0, si_get 6 1, si_get 5 1, si_ri]
def bX7_count_140 : List sx_S := [si_const (-1000001), si_ri]
def BX7_count : Nat → List sx_S := fun pc => if pc = 0 then bX7_count_0 else if pc = 52 then bX7_count_52 else if pc = 60 then bX7_count_60 else if pc = 71 then bX7_count_71 else if pc = 82 then bX7_count_82 else if pc = 93 then bX7_count_93 else if pc = 104 then bX7_count_104 else if pc = 114 then bX7_count_114 else if pc = 124 then bX7_count_124 else if pc = 132 then bX7_count_132 else if pc = 140 then bX7_count_140 else []
set_option maxRecDepth 20000 in
theorem kX7_count_0 : sx_BK sx_tb yX7_count.cls cX7_count 2 (some .int) ({ frames := 1, cells := 0, slots := 0, locals := 23 } : Room) false false 0 (fun _ => 0) 0 (bX7_count_0) := ⟨_, ⟨sn_iload_n dX7_count_0 rfl, sm_il _⟩, ⟨_, ⟨sn_tsw (len := 3) dX7_count_1 (by decide +kernel) (by decide +kernel) (by decide +kernel) rfl, sm_sw _ _ _⟩, trivial⟩⟩
set_option maxRecDepth 20000 in
theorem kX7_count_52 : sx_BK sx_tb yX7_count.cls cX7_count 2 (some .int) ({ frames := 1, cells := 0, slots := 0, locals := 23 } : Room) false false 0 (fun _ => 0) 52 (bX7_count_52) := ⟨_, ⟨sn_aload_n dX7_count_52 rfl, sm_al _⟩, ⟨_, ⟨sn_get (C := RX7) (T := TX7) (N := 9) dX7_count_53 rfl zinX7 (Nat.le_of_ble_eq_true rfl) zw_1_134, sm_get _ _⟩, ⟨_, ⟨sn_cv_i (N := 4) (T := TX5) ztb_X5_present dX7_count_56 rfl rfl zw_3_164 zw_3_165 zw_3_166 zw_1_2 zw_3_167 zmh_X5 zpd_X5_present (Nat.le_of_ble_eq_true rfl) (Nat.le_of_ble_eq_true rfl) rfl rfl, sm_cv _ _ _ _ _ _ _⟩, ⟨_, ⟨sn_ri (len := 1) dX7_count_59 rfl, sm_ri⟩, trivial⟩⟩⟩⟩
set_option maxRecDepth 20000 in
theorem kX7_count_60 : sx_BK sx_tb yX7_count.cls cX7_count 2 (some .int) ({ frames := 1, cells := 0, slots := 0, locals := 23 } : Room) false false 0 (fun _ => 0) 60 (bX7_count_60) := ⟨_, ⟨sn_aload_n dX7_count_60 rfl, sm_al _⟩, ⟨_, ⟨sn_get (C := RX7) (T := TX7) (N := 9) dX7_count_61 rfl zinX7 (Nat.le_of_ble_eq_true rfl) zw_1_136, sm_get _ _⟩, ⟨_, ⟨sn_get (C := RX2) (T := TX2) (N := 1) dX7_count_64 rfl zinX2 (Nat.le_of_ble_eq_true rfl) zw_1_80, sm_get _ _⟩, ⟨_, ⟨sn_bipush dX7_count_67 (by decide +kernel), sm_const _⟩, ⟨_, ⟨sn_iald dX7_count_69, sm_iald⟩, ⟨_, ⟨sn_ri (len := 1) dX7_count_70 rfl, sm_ri⟩, trivial⟩⟩⟩⟩⟩⟩
set_option maxRecDepth 20000 in
theorem kX7_count_71 : sx_BK sx_tb yX7_count.cls cX7_count 2 (some .int) ({ frames := 1, cells := 0, slots := 0, locals := 23 } : Room) false false 0 (fun _ => 0) 71 (bX7_count_71) := ⟨_, ⟨sn_aload_n dX7_count_71 rfl, sm_al _⟩, ⟨_, ⟨sn_get (C := RX7) (T := TX7) (N := 9) dX7_count_72 rfl zinX7 (Nat.le_of_ble_eq_true rfl) zw_1_136, sm_get _ _⟩, ⟨_, ⟨sn_get (C := RX2) (T := TX2) (N := 1) dX7_count_75 rfl zinX2 (Nat.le_of_ble_eq_true rfl) zw_1_80, sm_get _ _⟩, ⟨_, ⟨sn_bipush dX7_count_78 (by decide +kernel), sm_const _⟩, ⟨_, ⟨sn_iald dX7_count_80, sm_iald⟩, ⟨_, ⟨sn_ri (len := 1) dX7_count_81 rfl, sm_ri⟩, trivial⟩⟩⟩⟩⟩⟩
set_option maxRecDepth 20000 in
theorem kX7_count_82 : sx_BK sx_tb yX7_count.cls cX7_count 2 (some .int) ({ frames := 1, cells := 0, slots := 0, locals := 23 } : Room) false false 0 (fun _ => 0) 82 (bX7_count_82) := ⟨_, ⟨sn_aload_n dX7_count_82 rfl, sm_al _⟩, ⟨_, ⟨sn_get (C := RX7) (T := TX7) (N := 9) dX7_count_83 rfl zinX7 (Nat.le_of_ble_eq_true rfl) zw_1_136, sm_get _ _⟩, ⟨_, ⟨sn_get (C := RX2) (T := TX2) (N := 1) dX7_count_86 rfl zinX2 (Nat.le_of_ble_eq_true rfl) zw_1_80, sm_get _ _⟩, ⟨_, ⟨sn_bipush dX7_count_89 (by decide +kernel), sm_const _⟩, ⟨_, ⟨sn_iald dX7_count_91, sm_iald⟩, ⟨_, ⟨sn_ri (len := 1) dX7_count_92 rfl, sm_ri⟩, trivial⟩⟩⟩⟩⟩⟩
set_option maxRecDepth 20000 in
theorem kX7_count_93 : sx_BK sx_tb yX7_count.cls cX7_count 2 (some .int) ({ frames := 1, cells := 0, slots := 0, locals := 23 } : Room) false false 0 (fun _ => 0) 93 (bX7_count_93) := ⟨_, ⟨sn_aload_n dX7_count_93 rfl, sm_al _⟩, ⟨_, ⟨sn_get (C := RX7) (T := TX7) (N := 9) dX7_count_94 rfl zinX7 (Nat.le_of_ble_eq_true rfl) zw_1_136, sm_get _ _⟩, ⟨_, ⟨sn_get (C := RX2) (T := TX2) (N := 1) dX7_count_97 rfl zinX2 (Nat.le_of_ble_eq_true rfl) zw_1_80, sm_get _ _⟩, ⟨_, ⟨sn_bipush dX7_count_100 (by decide +kernel), sm_const _⟩, ⟨_, ⟨sn_iald dX7_count_102, sm_iald⟩, ⟨_, ⟨sn_ri (len := 1) dX7_count_103 rfl, sm_ri⟩, trivial⟩⟩⟩⟩⟩⟩
set_option maxRecDepth 20000 in
theorem kX7_count_104 : sx_BK sx_tb yX7_count.cls cX7_count 2 (some .int) ({ frames := 1, cells := 0, slots := 0, locals := 23 } : Room) false false 0 (fun _ => 0) 104 (bX7_count_104) := ⟨_, ⟨sn_aload_n dX7_count_104 rfl, sm_al _⟩, ⟨_, ⟨sn_get (C := RX7) (T := TX7) (N := 9) dX7_count_105 rfl zinX7 (Nat.le_of_ble_eq_true rfl) zw_1_136, sm_get _ _⟩, ⟨_, ⟨sn_bipush dX7_count_108 (by decide +kernel), sm_const _⟩, ⟨_, ⟨sn_cv_i (N := 1) (T := TX2) ztb_X2_bits dX7_count_110 rfl rfl zw_3_168 zw_3_169 zw_3_170 zw_1_4 zw_3_171 zmh_X2 zpd_X2_bits (Nat.le_of_ble_eq_true rfl) (Nat.le_of_ble_eq_true rfl) rfl rfl, sm_cv _ _ _ _ _ _ _⟩, ⟨_, ⟨sn_ri (len := 1) dX7_count_113 rfl, sm_ri⟩, trivial⟩⟩⟩⟩⟩
set_option maxRecDepth 20000 in
theorem kX7_count_114 : sx_BK sx_tb yX7_count.cls cX7_count 2 (some .int) ({ frames := 1, cells := 0, slots := 0, locals := 23 } : Room) false false 0 (fun _ => 0) 114 (bX7_count_114) := ⟨_, ⟨sn_aload_n dX7_count_114 rfl, sm_al _⟩, ⟨_, ⟨sn_get (C := RX7) (T := TX7) (N := 9) dX7_count_115 rfl zinX7 (Nat.le_of_ble_eq_true rfl) zw_1_136, sm_get _ _⟩, ⟨_, ⟨sn_bipush dX7_count_118 (by decide +kernel), sm_const _⟩, ⟨_, ⟨sn_cv_i (N := 1) (T := TX2) ztb_X2_bits dX7_count_120 rfl rfl zw_3_168 zw_3_169 zw_3_170 zw_1_4 zw_3_171 zmh_X2 zpd_X2_bits (Nat.le_of_ble_eq_true rfl) (Nat.le_of_ble_eq_true rfl) rfl rfl, sm_cv _ _ _ _ _ _ _⟩, ⟨_, ⟨sn_ri (len := 1) dX7_count_123 rfl, sm_ri⟩, trivial⟩⟩⟩⟩⟩
set_option maxRecDepth 20000 in
theorem kX7_count_124 : sx_BK sx_tb yX7_count.cls cX7_count 2 (some .int) ({ frames := 1, cells := 0, slots := 0, locals := 23 } : Room) false false 0 (fun _ => 0) 124 (bX7_count_124) := ⟨_, ⟨sn_aload_n dX7_count_124 rfl, sm_al _⟩, ⟨_, ⟨sn_get (C := RX7) (T := TX7) (N := 9) dX7_count_125 rfl zinX7 (Nat.le_of_ble_eq_true rfl) zw_1_138, sm_get _ _⟩, ⟨_, ⟨sn_get (C := RX0) (T := TX0) (N := 3) dX7_count_128 rfl zinX0 (Nat.le_of_ble_eq_true rfl) zw_1_94, sm_get _ _⟩, ⟨_, ⟨sn_ri (len := 1) dX7_count_131 rfl, sm_ri⟩, trivial⟩⟩⟩⟩
set_option maxRecDepth 20000 in
theorem kX7_count_132 : sx_BK sx_tb yX7_count.cls cX7_count 2 (some .int) ({ frames := 1, cells := 0, slots := 0, locals := 23 } : Room) false false 0 (fun _ => 0) 132 (bX7_count_132) := ⟨_, ⟨sn_aload_n dX7_count_132 rfl, sm_al _⟩, ⟨_, ⟨sn_get (C := RX7) (T := TX7) (N := 9) dX7_count_133 rfl zinX7 (Nat.le_of_ble_eq_true rfl) zw_1_135, sm_get _ _⟩, ⟨_, ⟨sn_get (C := RX6) (T := TX6) (N := 5) dX7_count_136 rfl zinX6 (Nat.le_of_ble_eq_true rfl) zw_1_53, sm_get _ _⟩, ⟨_, ⟨sn_ri (len := 1) dX7_count_139 rfl, sm_ri⟩, trivial⟩⟩⟩⟩
set_option maxRecDepth 20000 in
theorem kX7_count_140 : sx_BK sx_tb yX7_count.cls cX7_count 2 (some .int) ({ frames := 1, cells := 0, slots := 0, locals := 23 } : Room) false false 0 (fun _ => 0) 140 (bX7_count_140) := ⟨_, ⟨sn_ldc dX7_count_140 zw_1_172, sm_const _⟩, ⟨_, ⟨sn_ri (len := 1) dX7_count_142 rfl, sm_ri⟩, trivial⟩⟩
theorem kX7_count : ∀ pc, sx_BK sx_tb yX7_count.cls cX7_count 2 (some .int) ({ frames := 1, cells := 0, slots := 0, locals := 23 } : Room) false false 0 (fun _ => 0) pc (BX7_count pc) := fun pc => sx_bk_if (kX7_count_0) (sx_bk_if (kX7_count_52) (sx_bk_if (kX7_count_60) (sx_bk_if (kX7_count_71) (sx_bk_if (kX7_count_82) (sx_bk_if (kX7_count_93) (sx_bk_if (kX7_count_104) (sx_bk_if (kX7_count_114) (sx_bk_if (kX7_count_124) (sx_bk_if (kX7_count_132) (sx_bk_if (kX7_count_140) (trivial)))))))))))
theorem okX7_count : sx_ok sx_tb BX7_count (yX7_count, cX7_count, 2, some .int, { frames := 1, cells := 0, slots := 0, locals := 23 }) := ⟨by decide, by decide +kernel, false, (fun h => by cases h), kX7_count⟩
theorem dX7_status_0 : decode cX7_status 0 = .ok (.aload_n 0, 1) := by decide +kernel
theorem dX7_status_1 : decode cX7_status 1 = .ok (.getfield 10, 3) := by decide +kernel
theorem dX7_status_4 : decode cX7_status 4 = .ok (.getfield 208, 3) := by decide +kernel
theorem dX7_status_7 : decode cX7_status 7 = .ok (.ireturn, 1) := by decide +kernel
def bX7_status_0 : List sx_S := [si_al 0, si_get 6 0, si_get 4 3, si_ri]
def BX7_status : Nat → List sx_S := fun pc => if pc = 0 then bX7_status_0 else []
set_option maxRecDepth 20000 in
theorem kX7_status_0 : sx_BK sx_tb yX7_status.cls cX7_status 1 (some .int) ({ frames := 0, cells := 0, slots := 0, locals := 0 } : Room) false false 0 (fun _ => 0) 0 (bX7_status_0) := ⟨_, ⟨sn_aload_n dX7_status_0 rfl, sm_al _⟩, ⟨_, ⟨sn_get (C := RX7) (T := TX7) (N := 9) dX7_status_1 rfl zinX7 (Nat.le_of_ble_eq_true rfl) zw_1_134, sm_get _ _⟩, ⟨_, ⟨sn_get (C := RX5) (T := TX5) (N := 4) dX7_status_4 rfl zinX5 (Nat.le_of_ble_eq_true rfl) zw_1_34, sm_get _ _⟩, ⟨_, ⟨sn_ri (len := 1) dX7_status_7 rfl, sm_ri⟩, trivial⟩⟩⟩⟩
theorem kX7_status : ∀ pc, sx_BK sx_tb yX7_status.cls cX7_status 1 (some .int) ({ frames := 0, cells := 0, slots := 0, locals := 0 } : Room) false false 0 (fun _ => 0) pc (BX7_status pc) := fun pc => sx_bk_if (kX7_status_0) (trivial)
theorem okX7_status : sx_ok sx_tb BX7_status (yX7_status, cX7_status, 1, some .int, { frames := 0, cells := 0, slots := 0, locals := 0 }) := ⟨by decide, by decide +kernel, false, (fun h => by cases h), kX7_status⟩
theorem dX7_within_0 : decode cX7_within 0 = .ok (.iload_n 0, 1) := by decide +kernel
theorem dX7_within_1 : decode cX7_within 1 = .ok (.iload_n 1, 1) := by decide +kernel
theorem dX7_within_2 : decode cX7_within 2 = .ok (.if_icmp .lt 12, 3) := by decide +kernel
theorem dX7_within_5 : decode cX7_within 5 = .ok (.iload_n 0, 1) := by decide +kernel
theorem dX7_within_6 : decode cX7_within 6 = .ok (.iload_n 2, 1) := by decide +kernel
theorem dX7_within_7 : decode cX7_within 7 = .ok (.if_icmp .gt 7, 3) := by decide +kernel
theorem dX7_within_10 : decode cX7_within 10 = .ok (.iconst 1, 1) := by decide +kernel
theorem dX7_within_11 : decode cX7_within 11 = .ok (.goto 4, 3) := by decide +kernel
theorem dX7_within_14 : decode cX7_within 14 = .ok (.iconst 0, 1) := by decide +kernel
theorem dX7_within_15 : decode cX7_within 15 = .ok (.ireturn, 1) := by decide +kernel
def bX7_within_0 : List sx_S := [si_il 0, si_il 1, si_if2 (fun x y => x < y) 14 [false, false, false], si_il 0, si_il 2, si_if2 (fun x y => y < x) 14 [false, false, false], si_const 1, si_go 15 [false, false, false]]
def bX7_within_14 : List sx_S := [si_const 0, si_go 15 [false, false, false]]
def bX7_within_15 : List sx_S := [si_rz]
def BX7_within : Nat → List sx_S := fun pc => if pc = 0 then bX7_within_0 else if pc = 14 then bX7_within_14 else if pc = 15 then bX7_within_15 else []
set_option maxRecDepth 20000 in
theorem kX7_within_0 : sx_BK sx_tb yX7_within.cls cX7_within 3 (some .boolean) ({ frames := 0, cells := 0, slots := 0, locals := 0 } : Room) false false 0 (fun _ => 0) 0 (bX7_within_0) := ⟨_, ⟨sn_iload_n dX7_within_0 rfl, sm_il _⟩, ⟨_, ⟨sn_iload_n dX7_within_1 rfl, sm_il _⟩, ⟨_, ⟨sn_ic_lt dX7_within_2 (by decide +kernel) rfl, sm_if2 _ _ _⟩, ⟨_, ⟨sn_iload_n dX7_within_5 rfl, sm_il _⟩, ⟨_, ⟨sn_iload_n dX7_within_6 rfl, sm_il _⟩, ⟨_, ⟨sn_ic_gt dX7_within_7 (by decide +kernel) rfl, sm_if2 _ _ _⟩, ⟨_, ⟨sn_iconst dX7_within_10 (by decide +kernel), sm_const _⟩, ⟨_, ⟨sn_goto (len := 3) dX7_within_11 (by decide +kernel) rfl, sm_go _ _⟩, trivial⟩⟩⟩⟩⟩⟩⟩⟩
set_option maxRecDepth 20000 in
theorem kX7_within_14 : sx_BK sx_tb yX7_within.cls cX7_within 3 (some .boolean) ({ frames := 0, cells := 0, slots := 0, locals := 0 } : Room) false false 0 (fun _ => 0) 14 (bX7_within_14) := ⟨_, ⟨sn_iconst dX7_within_14 (by decide +kernel), sm_const _⟩, ⟨_, ⟨sn_fall (len := 0) rfl rfl, sm_go _ _⟩, trivial⟩⟩
set_option maxRecDepth 20000 in
theorem kX7_within_15 : sx_BK sx_tb yX7_within.cls cX7_within 3 (some .boolean) ({ frames := 0, cells := 0, slots := 0, locals := 0 } : Room) false false 0 (fun _ => 0) 15 (bX7_within_15) := ⟨_, ⟨sn_rz (len := 1) dX7_within_15 rfl, sm_rz⟩, trivial⟩
theorem kX7_within : ∀ pc, sx_BK sx_tb yX7_within.cls cX7_within 3 (some .boolean) ({ frames := 0, cells := 0, slots := 0, locals := 0 } : Room) false false 0 (fun _ => 0) pc (BX7_within pc) := fun pc => sx_bk_if (kX7_within_0) (sx_bk_if (kX7_within_14) (sx_bk_if (kX7_within_15) (trivial)))
theorem okX7_within : sx_ok sx_tb BX7_within (yX7_within, cX7_within, 3, some .boolean, { frames := 0, cells := 0, slots := 0, locals := 0 }) := ⟨by decide, by decide +kernel, false, (fun h => by cases h), kX7_within⟩
theorem dX7_change_0 : decode cX7_change 0 = .ok (.aload_n 0, 1) := by decide +kernel
theorem dX7_change_1 : decode cX7_change 1 = .ok (.getfield 26, 3) := by decide +kernel
theorem dX7_change_4 : decode cX7_change 4 = .ok (.getfield 110, 3) := by decide +kernel
theorem dX7_change_7 : decode cX7_change 7 = .ok (.iload_n 1, 1) := by decide +kernel
theorem dX7_change_8 : decode cX7_change 8 = .ok (.iaload, 1) := by decide +kernel
theorem dX7_change_9 : decode cX7_change 9 = .ok (.istore_n 3, 1) := by decide +kernel
theorem dX7_change_10 : decode cX7_change 10 = .ok (.aload_n 0, 1) := by decide +kernel
theorem dX7_change_11 : decode cX7_change 11 = .ok (.getfield 36, 3) := by decide +kernel
theorem dX7_change_14 : decode cX7_change 14 = .ok (.aload_n 0, 1) := by decide +kernel
theorem dX7_change_15 : decode cX7_change 15 = .ok (.getfield 26, 3) := by decide +kernel
theorem dX7_change_18 : decode cX7_change 18 = .ok (.invokevirtual 126, 3) := by decide +kernel
theorem dX7_change_21 : decode cX7_change 21 = .ok (.aload_n 0, 1) := by decide +kernel
theorem dX7_change_22 : decode cX7_change 22 = .ok (.getfield 26, 3) := by decide +kernel
theorem dX7_change_25 : decode cX7_change 25 = .ok (.getfield 110, 3) := by decide +kernel
theorem dX7_change_28 : decode cX7_change 28 = .ok (.iload_n 1, 1) := by decide +kernel
theorem dX7_change_29 : decode cX7_change 29 = .ok (.iload_n 2, 1) := by decide +kernel
theorem dX7_change_30 : decode cX7_change 30 = .ok (.iastore, 1) := by decide +kernel
theorem dX7_change_31 : decode cX7_change 31 = .ok (.iload_n 3, 1) := by decide +kernel
theorem dX7_change_32 : decode cX7_change 32 = .ok (.ireturn, 1) := by decide +kernel
def bX7_change_0 : List sx_S := [si_al 0, si_get 6 2, si_get 2 0, si_il 1, si_iald, si_is 3, si_al 0, si_get 6 4, si_al 0, si_get 6 2, si_cv 0 2 1 0 0 0 0, si_al 0, si_get 6 2, si_get 2 0, si_il 1, si_il 2, si_iast, si_il 3, si_ri]
def BX7_change : Nat → List sx_S := fun pc => if pc = 0 then bX7_change_0 else []
set_option maxRecDepth 20000 in
theorem kX7_change_0 : sx_BK sx_tb yX7_change.cls cX7_change 4 (some .int) ({ frames := 2, cells := 0, slots := 0, locals := 47 } : Room) false false 0 (fun _ => 0) 0 (bX7_change_0) := ⟨_, ⟨sn_aload_n dX7_change_0 rfl, sm_al _⟩, ⟨_, ⟨sn_get (C := RX7) (T := TX7) (N := 9) dX7_change_1 rfl zinX7 (Nat.le_of_ble_eq_true rfl) zw_1_136, sm_get _ _⟩, ⟨_, ⟨sn_get (C := RX2) (T := TX2) (N := 1) dX7_change_4 rfl zinX2 (Nat.le_of_ble_eq_true rfl) zw_1_80, sm_get _ _⟩, ⟨_, ⟨sn_iload_n dX7_change_7 rfl, sm_il _⟩, ⟨_, ⟨sn_iald dX7_change_8, sm_iald⟩, ⟨_, ⟨sn_istore_n dX7_change_9 rfl (Nat.le_of_ble_eq_true rfl), sm_is _⟩, ⟨_, ⟨sn_aload_n dX7_change_10 rfl, sm_al _⟩, ⟨_, ⟨sn_get (C := RX7) (T := TX7) (N := 9) dX7_change_11 rfl zinX7 (Nat.le_of_ble_eq_true rfl) zw_1_138, sm_get _ _⟩, ⟨_, ⟨sn_aload_n dX7_change_14 rfl, sm_al _⟩, ⟨_, ⟨sn_get (C := RX7) (T := TX7) (N := 9) dX7_change_15 rfl zinX7 (Nat.le_of_ble_eq_true rfl) zw_1_136, sm_get _ _⟩, ⟨_, ⟨sn_cv_v (N := 3) (T := TX0) ztb_X0_keep dX7_change_18 rfl rfl zw_2_72 zw_2_73 zw_2_74 zw_1_5 zw_2_75 zmh_X0 zpd_X0_keep (Nat.le_of_ble_eq_true rfl) (Nat.le_of_ble_eq_true rfl) rfl rfl, sm_cv _ _ _ _ _ _ _⟩, ⟨_, ⟨sn_aload_n dX7_change_21 rfl, sm_al _⟩, ⟨_, ⟨sn_get (C := RX7) (T := TX7) (N := 9) dX7_change_22 rfl zinX7 (Nat.le_of_ble_eq_true rfl) zw_1_136, sm_get _ _⟩, ⟨_, ⟨sn_get (C := RX2) (T := TX2) (N := 1) dX7_change_25 rfl zinX2 (Nat.le_of_ble_eq_true rfl) zw_1_80, sm_get _ _⟩, ⟨_, ⟨sn_iload_n dX7_change_28 rfl, sm_il _⟩, ⟨_, ⟨sn_iload_n dX7_change_29 rfl, sm_il _⟩, ⟨_, ⟨sn_iast dX7_change_30, sm_iast⟩, ⟨_, ⟨sn_iload_n dX7_change_31 rfl, sm_il _⟩, ⟨_, ⟨sn_ri (len := 1) dX7_change_32 rfl, sm_ri⟩, trivial⟩⟩⟩⟩⟩⟩⟩⟩⟩⟩⟩⟩⟩⟩⟩⟩⟩⟩⟩
theorem kX7_change : ∀ pc, sx_BK sx_tb yX7_change.cls cX7_change 4 (some .int) ({ frames := 2, cells := 0, slots := 0, locals := 47 } : Room) false false 0 (fun _ => 0) pc (BX7_change pc) := fun pc => sx_bk_if (kX7_change_0) (trivial)
theorem okX7_change : sx_ok sx_tb BX7_change (yX7_change, cX7_change, 4, some .int, { frames := 2, cells := 0, slots := 0, locals := 47 }) := ⟨by decide, by decide +kernel, false, (fun h => by cases h), kX7_change⟩
