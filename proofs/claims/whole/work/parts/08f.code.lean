theorem dX8_atDoor_0 : decode cX8_atDoor 0 = .ok (.aload_n 0, 1) := by decide +kernel
theorem dX8_atDoor_1 : decode cX8_atDoor 1 = .ok (.iconst 0, 1) := by decide +kernel
theorem dX8_atDoor_2 : decode cX8_atDoor 2 = .ok (.putfield 44, 3) := by decide +kernel
theorem dX8_atDoor_5 : decode cX8_atDoor 5 = .ok (.aload_n 0, 1) := by decide +kernel
theorem dX8_atDoor_6 : decode cX8_atDoor 6 = .ok (.invokevirtual 172, 3) := by decide +kernel
theorem dX8_atDoor_9 : decode cX8_atDoor 9 = .ok (.ifCond .ne 6, 3) := by decide +kernel
theorem dX8_atDoor_12 : decode cX8_atDoor 12 = .ok (.ldc 175, 2) := by decide +kernel
theorem dX8_atDoor_14 : decode cX8_atDoor 14 = .ok (.ireturn, 1) := by decide +kernel
theorem dX8_atDoor_15 : decode cX8_atDoor 15 = .ok (.iload_n 1, 1) := by decide +kernel
theorem dX8_atDoor_16 : decode cX8_atDoor 16 = .ok (.i2l, 1) := by decide +kernel
theorem dX8_atDoor_17 : decode cX8_atDoor 17 = .ok (.lconst 0, 1) := by decide +kernel
theorem dX8_atDoor_18 : decode cX8_atDoor 18 = .ok (.ldc2_w 208, 3) := by decide +kernel
theorem dX8_atDoor_21 : decode cX8_atDoor 21 = .ok (.invokestatic 54, 3) := by decide +kernel
theorem dX8_atDoor_24 : decode cX8_atDoor 24 = .ok (.ifCond .ne 6, 3) := by decide +kernel
theorem dX8_atDoor_27 : decode cX8_atDoor 27 = .ok (.ldc 64, 2) := by decide +kernel
theorem dX8_atDoor_29 : decode cX8_atDoor 29 = .ok (.ireturn, 1) := by decide +kernel
theorem dX8_atDoor_30 : decode cX8_atDoor 30 = .ok (.iconst 0, 1) := by decide +kernel
theorem dX8_atDoor_31 : decode cX8_atDoor 31 = .ok (.istore_n 2, 1) := by decide +kernel
theorem dX8_atDoor_32 : decode cX8_atDoor 32 = .ok (.ldc 87, 2) := by decide +kernel
theorem dX8_atDoor_34 : decode cX8_atDoor 34 = .ok (.istore_n 3, 1) := by decide +kernel
theorem dX8_atDoor_35 : decode cX8_atDoor 35 = .ok (.iconst 0, 1) := by decide +kernel
theorem dX8_atDoor_36 : decode cX8_atDoor 36 = .ok (.istore 4, 2) := by decide +kernel
theorem dX8_atDoor_38 : decode cX8_atDoor 38 = .ok (.iload 4, 2) := by decide +kernel
theorem dX8_atDoor_40 : decode cX8_atDoor 40 = .ok (.iload_n 1, 1) := by decide +kernel
theorem dX8_atDoor_41 : decode cX8_atDoor 41 = .ok (.if_icmp .gt 116, 3) := by decide +kernel
theorem dX8_atDoor_44 : decode cX8_atDoor 44 = .ok (.ldc 87, 2) := by decide +kernel
theorem dX8_atDoor_46 : decode cX8_atDoor 46 = .ok (.istore_n 3, 1) := by decide +kernel
theorem dX8_atDoor_47 : decode cX8_atDoor 47 = .ok (.iconst 0, 1) := by decide +kernel
theorem dX8_atDoor_48 : decode cX8_atDoor 48 = .ok (.istore 5, 2) := by decide +kernel
theorem dX8_atDoor_50 : decode cX8_atDoor 50 = .ok (.iload 5, 2) := by decide +kernel
theorem dX8_atDoor_52 : decode cX8_atDoor 52 = .ok (.aload_n 0, 1) := by decide +kernel
theorem dX8_atDoor_53 : decode cX8_atDoor 53 = .ok (.getfield 19, 3) := by decide +kernel
theorem dX8_atDoor_56 : decode cX8_atDoor 56 = .ok (.iconst 4, 1) := by decide +kernel
theorem dX8_atDoor_57 : decode cX8_atDoor 57 = .ok (.iaload, 1) := by decide +kernel
theorem dX8_atDoor_58 : decode cX8_atDoor 58 = .ok (.if_icmp .ge 77, 3) := by decide +kernel
theorem dX8_atDoor_61 : decode cX8_atDoor 61 = .ok (.aload_n 0, 1) := by decide +kernel
theorem dX8_atDoor_62 : decode cX8_atDoor 62 = .ok (.getfield 19, 3) := by decide +kernel
theorem dX8_atDoor_65 : decode cX8_atDoor 65 = .ok (.iload 5, 2) := by decide +kernel
theorem dX8_atDoor_67 : decode cX8_atDoor 67 = .ok (.invokestatic 157, 3) := by decide +kernel
theorem dX8_atDoor_70 : decode cX8_atDoor 70 = .ok (.ifCond .ne 16, 3) := by decide +kernel
theorem dX8_atDoor_73 : decode cX8_atDoor 73 = .ok (.iload_n 2, 1) := by decide +kernel
theorem dX8_atDoor_74 : decode cX8_atDoor 74 = .ok (.iload 5, 2) := by decide +kernel
theorem dX8_atDoor_76 : decode cX8_atDoor 76 = .ok (.ishr, 1) := by decide +kernel
theorem dX8_atDoor_77 : decode cX8_atDoor 77 = .ok (.iconst 1, 1) := by decide +kernel
theorem dX8_atDoor_78 : decode cX8_atDoor 78 = .ok (.iand, 1) := by decide +kernel
theorem dX8_atDoor_79 : decode cX8_atDoor 79 = .ok (.ifCond .ne 7, 3) := by decide +kernel
theorem dX8_atDoor_82 : decode cX8_atDoor 82 = .ok (.iconst 1, 1) := by decide +kernel
theorem dX8_atDoor_83 : decode cX8_atDoor 83 = .ok (.goto 4, 3) := by decide +kernel
theorem dX8_atDoor_86 : decode cX8_atDoor 86 = .ok (.iconst 0, 1) := by decide +kernel
theorem dX8_atDoor_87 : decode cX8_atDoor 87 = .ok (.istore 6, 2) := by decide +kernel
theorem dX8_atDoor_89 : decode cX8_atDoor 89 = .ok (.iload 6, 2) := by decide +kernel
theorem dX8_atDoor_91 : decode cX8_atDoor 91 = .ok (.ifCond .eq 36, 3) := by decide +kernel
theorem dX8_atDoor_94 : decode cX8_atDoor 94 = .ok (.iload_n 3, 1) := by decide +kernel
theorem dX8_atDoor_95 : decode cX8_atDoor 95 = .ok (.ldc 87, 2) := by decide +kernel
theorem dX8_atDoor_97 : decode cX8_atDoor 97 = .ok (.if_icmp .eq 25, 3) := by decide +kernel
theorem dX8_atDoor_100 : decode cX8_atDoor 100 = .ok (.aload_n 0, 1) := by decide +kernel
theorem dX8_atDoor_101 : decode cX8_atDoor 101 = .ok (.getfield 19, 3) := by decide +kernel
theorem dX8_atDoor_104 : decode cX8_atDoor 104 = .ok (.iload 5, 2) := by decide +kernel
theorem dX8_atDoor_106 : decode cX8_atDoor 106 = .ok (.iconst 4, 1) := by decide +kernel
theorem dX8_atDoor_107 : decode cX8_atDoor 107 = .ok (.invokestatic 146, 3) := by decide +kernel
theorem dX8_atDoor_110 : decode cX8_atDoor 110 = .ok (.aload_n 0, 1) := by decide +kernel
theorem dX8_atDoor_111 : decode cX8_atDoor 111 = .ok (.getfield 19, 3) := by decide +kernel
theorem dX8_atDoor_114 : decode cX8_atDoor 114 = .ok (.iload_n 3, 1) := by decide +kernel
theorem dX8_atDoor_115 : decode cX8_atDoor 115 = .ok (.iconst 4, 1) := by decide +kernel
theorem dX8_atDoor_116 : decode cX8_atDoor 116 = .ok (.invokestatic 146, 3) := by decide +kernel
theorem dX8_atDoor_119 : decode cX8_atDoor 119 = .ok (.if_icmp .le 8, 3) := by decide +kernel
theorem dX8_atDoor_122 : decode cX8_atDoor 122 = .ok (.iload 5, 2) := by decide +kernel
theorem dX8_atDoor_124 : decode cX8_atDoor 124 = .ok (.goto 4, 3) := by decide +kernel
theorem dX8_atDoor_127 : decode cX8_atDoor 127 = .ok (.iload_n 3, 1) := by decide +kernel
theorem dX8_atDoor_128 : decode cX8_atDoor 128 = .ok (.istore_n 3, 1) := by decide +kernel
theorem dX8_atDoor_129 : decode cX8_atDoor 129 = .ok (.iinc 5 1, 3) := by decide +kernel
theorem dX8_atDoor_132 : decode cX8_atDoor 132 = .ok (.goto (-82), 3) := by decide +kernel
theorem dX8_atDoor_135 : decode cX8_atDoor 135 = .ok (.iload_n 2, 1) := by decide +kernel
theorem dX8_atDoor_136 : decode cX8_atDoor 136 = .ok (.iload_n 3, 1) := by decide +kernel
theorem dX8_atDoor_137 : decode cX8_atDoor 137 = .ok (.ldc 87, 2) := by decide +kernel
theorem dX8_atDoor_139 : decode cX8_atDoor 139 = .ok (.if_icmp .ne 7, 3) := by decide +kernel
theorem dX8_atDoor_142 : decode cX8_atDoor 142 = .ok (.iconst 0, 1) := by decide +kernel
theorem dX8_atDoor_143 : decode cX8_atDoor 143 = .ok (.goto 6, 3) := by decide +kernel
theorem dX8_atDoor_146 : decode cX8_atDoor 146 = .ok (.iconst 1, 1) := by decide +kernel
theorem dX8_atDoor_147 : decode cX8_atDoor 147 = .ok (.iload_n 3, 1) := by decide +kernel
theorem dX8_atDoor_148 : decode cX8_atDoor 148 = .ok (.ishl, 1) := by decide +kernel
theorem dX8_atDoor_149 : decode cX8_atDoor 149 = .ok (.ior, 1) := by decide +kernel
theorem dX8_atDoor_150 : decode cX8_atDoor 150 = .ok (.istore_n 2, 1) := by decide +kernel
theorem dX8_atDoor_151 : decode cX8_atDoor 151 = .ok (.iinc 4 1, 3) := by decide +kernel
theorem dX8_atDoor_154 : decode cX8_atDoor 154 = .ok (.goto (-116), 3) := by decide +kernel
theorem dX8_atDoor_157 : decode cX8_atDoor 157 = .ok (.iload_n 3, 1) := by decide +kernel
theorem dX8_atDoor_158 : decode cX8_atDoor 158 = .ok (.ireturn, 1) := by decide +kernel
def bX8_atDoor_0 : List sx_S := [si_al 0, si_const 0, si_put 7 0 0, si_al 0, si_cv 7 145 0 0 0 0 0, si_if1 (fun x => ¬ x = 0) 15 [true, true, false, false, false, false, false], si_const (-1000002), si_ri]
def bX8_atDoor_15 : List sx_S := [si_il 1, si_i2l, si_lconst 0, si_lconst (lN 5), si_cs 124 3 0 0 0 0, si_if1 (fun x => ¬ x = 0) 30 [true, true, false, false, false, false, false], si_const (-1000001), si_ri]
def bX8_atDoor_30 : List sx_S := [si_const 0, si_is 2, si_const (-1000000), si_is 3, si_const 0, si_is 4, si_go 38 [true, true, true, true, true, false, false]]
def bX8_atDoor_38 : List sx_S := [si_il 4, si_il 1, si_if2 (fun x y => y < x) 157 [false, false, false, true, false, false, false], si_const (-1000000), si_is 3, si_const 0, si_is 5, si_go 50 [true, true, true, true, true, true, false]]
def bX8_atDoor_50 : List sx_S := [si_il 5, si_al 0, si_get 7 5, si_const (nI 4), si_iald, si_if2 (fun x y => y ≤ x) 135 [true, true, true, true, true, false, false], si_al 0, si_get 7 5, si_il 5, si_cs 148 2 0 0 0 0, si_if1 (fun x => ¬ x = 0) 86 [true, true, true, true, true, true, false], si_il 2, si_il 5, si_bin (fun x y => x >>> (y &&& 31)), si_const 1, si_bin (fun x y => x &&& y), si_if1 (fun x => ¬ x = 0) 86 [true, true, true, true, true, true, false], si_const 1, si_go 87 [true, true, true, true, true, true, false]]
def bX8_atDoor_86 : List sx_S := [si_const 0, si_go 87 [true, true, true, true, true, true, false]]
def bX8_atDoor_87 : List sx_S := [si_is 6, si_il 6, si_if1 (fun x => x = 0) 127 [true, true, true, true, true, true, false], si_il 3, si_const (-1000000), si_if2 (fun x y => x = y) 122 [true, true, true, false, true, true, false], si_al 0, si_get 7 5, si_il 5, si_const (nI 4), si_cs 147 3 0 0 0 0, si_al 0, si_get 7 5, si_il 3, si_const (nI 4), si_cs 147 3 0 0 0 0, si_if2 (fun x y => x ≤ y) 127 [true, true, true, true, true, true, false], si_go 122 [true, true, true, false, true, true, false]]
def bX8_atDoor_122 : List sx_S := [si_il 5, si_go 128 [true, true, true, false, true, true, false]]
def bX8_atDoor_127 : List sx_S := [si_il 3, si_go 128 [true, true, true, false, true, true, false]]
def bX8_atDoor_128 : List sx_S := [si_is 3, si_inc 5 1, si_go 50 [true, true, true, true, true, true, false]]
def bX8_atDoor_135 : List sx_S := [si_il 2, si_il 3, si_const (-1000000), si_if2 (fun x y => ¬ x = y) 146 [true, true, false, true, true, false, false], si_const 0, si_go 149 [true, true, false, true, true, false, false]]
def bX8_atDoor_146 : List sx_S := [si_const 1, si_il 3, si_bin (fun x y => x <<< (y &&& 31)), si_go 149 [true, true, false, true, true, false, false]]
def bX8_atDoor_149 : List sx_S := [si_bin (fun x y => x ||| y), si_is 2, si_inc 4 1, si_go 38 [true, true, true, true, true, false, false]]
def bX8_atDoor_157 : List sx_S := [si_il 3, si_ri]
def BX8_atDoor : Nat → List sx_S := fun pc => if pc = 0 then bX8_atDoor_0 else if pc = 15 then bX8_atDoor_15 else if pc = 30 then bX8_atDoor_30 else if pc = 38 then bX8_atDoor_38 else if pc = 50 then bX8_atDoor_50 else if pc = 86 then bX8_atDoor_86 else if pc = 87 then bX8_atDoor_87 else if pc = 122 then bX8_atDoor_122 else if pc = 127 then bX8_atDoor_127 else if pc = 128 then bX8_atDoor_128 else if pc = 135 then bX8_atDoor_135 else if pc = 146 then bX8_atDoor_146 else if pc = 149 then bX8_atDoor_149 else if pc = 157 then bX8_atDoor_157 else []
set_option maxRecDepth 20000 in
theorem kX8_atDoor_0 : sx_BK sx_tb yX8_atDoor.cls cX8_atDoor 7 (some .int) ({ frames := 2, cells := 0, slots := 0, locals := 43 } : Room) false false 0 (fun _ => 0) 0 (bX8_atDoor_0) := ⟨_, ⟨sn_aload_n dX8_atDoor_0 rfl, sm_al _⟩, ⟨_, ⟨sn_iconst dX8_atDoor_1 (by decide +kernel), sm_const _⟩, ⟨_, ⟨sn_put (C := RX8) (T := TX8) (N := 23) dX8_atDoor_2 rfl zinX8 tyX8_ok nmX8 (Nat.le_of_ble_eq_true rfl) zw_3_182 rfl (tyX8_ok 0 (Nat.le_of_ble_eq_true rfl)) trivial, sm_put _ _ _⟩, ⟨_, ⟨sn_aload_n dX8_atDoor_5 rfl, sm_al _⟩, ⟨_, ⟨sn_cv_z (N := 23) (T := TX8) ztb_X8_isThere dX8_atDoor_6 rfl rfl zw_4_110 zw_4_112 zw_0_45 zw_1_8 zw_4_113 zmh_X8 zpd_X8_isThere (Nat.le_of_ble_eq_true rfl) (Nat.le_of_ble_eq_true rfl) rfl rfl, sm_cv _ _ _ _ _ _ _⟩, ⟨_, ⟨sn_if_ne dX8_atDoor_9 (by decide +kernel) rfl, sm_if1 _ _ _⟩, ⟨_, ⟨sn_ldc dX8_atDoor_12 zw_4_114, sm_const _⟩, ⟨_, ⟨sn_ri (len := 1) dX8_atDoor_14 rfl, sm_ri⟩, trivial⟩⟩⟩⟩⟩⟩⟩⟩
set_option maxRecDepth 20000 in
theorem kX8_atDoor_15 : sx_BK sx_tb yX8_atDoor.cls cX8_atDoor 7 (some .int) ({ frames := 2, cells := 0, slots := 0, locals := 43 } : Room) false false 0 (fun _ => 0) 15 (bX8_atDoor_15) := ⟨_, ⟨sn_iload_n dX8_atDoor_15 rfl, sm_il _⟩, ⟨_, ⟨sn_i2l dX8_atDoor_16, sm_i2l⟩, ⟨_, ⟨sn_lconst dX8_atDoor_17 (by decide +kernel), sm_lconst _⟩, ⟨_, ⟨sn_ldc2 dX8_atDoor_18 zw_4_233, sm_lconst _⟩, ⟨_, ⟨sn_cs_z ztb_X8_in dX8_atDoor_21 zw_4_21 zw_4_22 zw_1_8 zw_4_23 zmh_X8 zpd_X8_in (Nat.le_of_ble_eq_true rfl) (Nat.le_of_ble_eq_true rfl) rfl rfl, sm_cs _ _ _ _ _ _⟩, ⟨_, ⟨sn_if_ne dX8_atDoor_24 (by decide +kernel) rfl, sm_if1 _ _ _⟩, ⟨_, ⟨sn_ldc dX8_atDoor_27 zw_4_25, sm_const _⟩, ⟨_, ⟨sn_ri (len := 1) dX8_atDoor_29 rfl, sm_ri⟩, trivial⟩⟩⟩⟩⟩⟩⟩⟩
set_option maxRecDepth 20000 in
theorem kX8_atDoor_30 : sx_BK sx_tb yX8_atDoor.cls cX8_atDoor 7 (some .int) ({ frames := 2, cells := 0, slots := 0, locals := 43 } : Room) false false 0 (fun _ => 0) 30 (bX8_atDoor_30) := ⟨_, ⟨sn_iconst dX8_atDoor_30 (by decide +kernel), sm_const _⟩, ⟨_, ⟨sn_istore_n dX8_atDoor_31 rfl (Nat.le_of_ble_eq_true rfl), sm_is _⟩, ⟨_, ⟨sn_ldc dX8_atDoor_32 zw_4_65, sm_const _⟩, ⟨_, ⟨sn_istore_n dX8_atDoor_34 rfl (Nat.le_of_ble_eq_true rfl), sm_is _⟩, ⟨_, ⟨sn_iconst dX8_atDoor_35 (by decide +kernel), sm_const _⟩, ⟨_, ⟨sn_istore dX8_atDoor_36 (Nat.le_of_ble_eq_true rfl), sm_is _⟩, ⟨_, ⟨sn_fall (len := 0) rfl rfl, sm_go _ _⟩, trivial⟩⟩⟩⟩⟩⟩⟩
set_option maxRecDepth 20000 in
theorem kX8_atDoor_38 : sx_BK sx_tb yX8_atDoor.cls cX8_atDoor 7 (some .int) ({ frames := 2, cells := 0, slots := 0, locals := 43 } : Room) false false 0 (fun _ => 0) 38 (bX8_atDoor_38) := ⟨_, ⟨sn_iload dX8_atDoor_38, sm_il _⟩, ⟨_, ⟨sn_iload_n dX8_atDoor_40 rfl, sm_il _⟩, ⟨_, ⟨sn_ic_gt dX8_atDoor_41 (by decide +kernel) rfl, sm_if2 _ _ _⟩, ⟨_, ⟨sn_ldc dX8_atDoor_44 zw_4_65, sm_const _⟩, ⟨_, ⟨sn_istore_n dX8_atDoor_46 rfl (Nat.le_of_ble_eq_true rfl), sm_is _⟩, ⟨_, ⟨sn_iconst dX8_atDoor_47 (by decide +kernel), sm_const _⟩, ⟨_, ⟨sn_istore dX8_atDoor_48 (Nat.le_of_ble_eq_true rfl), sm_is _⟩, ⟨_, ⟨sn_fall (len := 0) rfl rfl, sm_go _ _⟩, trivial⟩⟩⟩⟩⟩⟩⟩⟩
set_option maxRecDepth 20000 in
theorem kX8_atDoor_50 : sx_BK sx_tb yX8_atDoor.cls cX8_atDoor 7 (some .int) ({ frames := 2, cells := 0, slots := 0, locals := 43 } : Room) false false 0 (fun _ => 0) 50 (bX8_atDoor_50) := ⟨_, ⟨sn_iload dX8_atDoor_50, sm_il _⟩, ⟨_, ⟨sn_aload_n dX8_atDoor_52 rfl, sm_al _⟩, ⟨_, ⟨sn_get (C := RX8) (T := TX8) (N := 23) dX8_atDoor_53 rfl zinX8 (Nat.le_of_ble_eq_true rfl) zw_3_187, sm_get _ _⟩, ⟨_, ⟨sn_iconst dX8_atDoor_56 (by decide +kernel), sm_const _⟩, ⟨_, ⟨sn_iald dX8_atDoor_57, sm_iald⟩, ⟨_, ⟨sn_ic_ge dX8_atDoor_58 (by decide +kernel) rfl, sm_if2 _ _ _⟩, ⟨_, ⟨sn_aload_n dX8_atDoor_61 rfl, sm_al _⟩, ⟨_, ⟨sn_get (C := RX8) (T := TX8) (N := 23) dX8_atDoor_62 rfl zinX8 (Nat.le_of_ble_eq_true rfl) zw_3_187, sm_get _ _⟩, ⟨_, ⟨sn_iload dX8_atDoor_65, sm_il _⟩, ⟨_, ⟨sn_cs_z ztb_X8_isOut dX8_atDoor_67 zw_4_123 zw_4_124 zw_1_8 zw_4_125 zmh_X8 zpd_X8_isOut (Nat.le_of_ble_eq_true rfl) (Nat.le_of_ble_eq_true rfl) rfl rfl, sm_cs _ _ _ _ _ _⟩, ⟨_, ⟨sn_if_ne dX8_atDoor_70 (by decide +kernel) rfl, sm_if1 _ _ _⟩, ⟨_, ⟨sn_iload_n dX8_atDoor_73 rfl, sm_il _⟩, ⟨_, ⟨sn_iload dX8_atDoor_74, sm_il _⟩, ⟨_, ⟨sn_ishr dX8_atDoor_76, sm_bin _⟩, ⟨_, ⟨sn_iconst dX8_atDoor_77 (by decide +kernel), sm_const _⟩, ⟨_, ⟨sn_iand dX8_atDoor_78, sm_bin _⟩, ⟨_, ⟨sn_if_ne dX8_atDoor_79 (by decide +kernel) rfl, sm_if1 _ _ _⟩, ⟨_, ⟨sn_iconst dX8_atDoor_82 (by decide +kernel), sm_const _⟩, ⟨_, ⟨sn_goto (len := 3) dX8_atDoor_83 (by decide +kernel) rfl, sm_go _ _⟩, trivial⟩⟩⟩⟩⟩⟩⟩⟩⟩⟩⟩⟩⟩⟩⟩⟩⟩⟩⟩
set_option maxRecDepth 20000 in
theorem kX8_atDoor_86 : sx_BK sx_tb yX8_atDoor.cls cX8_atDoor 7 (some .int) ({ frames := 2, cells := 0, slots := 0, locals := 43 } : Room) false false 0 (fun _ => 0) 86 (bX8_atDoor_86) := ⟨_, ⟨sn_iconst dX8_atDoor_86 (by decide +kernel), sm_const _⟩, ⟨_, ⟨sn_fall (len := 0) rfl rfl, sm_go _ _⟩, trivial⟩⟩
set_option maxRecDepth 20000 in
theorem kX8_atDoor_87 : sx_BK sx_tb yX8_atDoor.cls cX8_atDoor 7 (some .int) ({ frames := 2, cells := 0, slots := 0, locals := 43 } : Room) false false 0 (fun _ => 0) 87 (bX8_atDoor_87) := ⟨_, ⟨sn_istore dX8_atDoor_87 (Nat.le_of_ble_eq_true rfl), sm_is _⟩, ⟨_, ⟨sn_iload dX8_atDoor_89, sm_il _⟩, ⟨_, ⟨sn_if_eq dX8_atDoor_91 (by decide +kernel) rfl, sm_if1 _ _ _⟩, ⟨_, ⟨sn_iload_n dX8_atDoor_94 rfl, sm_il _⟩, ⟨_, ⟨sn_ldc dX8_atDoor_95 zw_4_65, sm_const _⟩, ⟨_, ⟨sn_ic_eq dX8_atDoor_97 (by decide +kernel) rfl, sm_if2 _ _ _⟩, ⟨_, ⟨sn_aload_n dX8_atDoor_100 rfl, sm_al _⟩, ⟨_, ⟨sn_get (C := RX8) (T := TX8) (N := 23) dX8_atDoor_101 rfl zinX8 (Nat.le_of_ble_eq_true rfl) zw_3_187, sm_get _ _⟩, ⟨_, ⟨sn_iload dX8_atDoor_104, sm_il _⟩, ⟨_, ⟨sn_iconst dX8_atDoor_106 (by decide +kernel), sm_const _⟩, ⟨_, ⟨sn_cs_i ztb_X8_of dX8_atDoor_107 zw_4_126 zw_4_127 zw_1_8 zw_4_128 zmh_X8 zpd_X8_of (Nat.le_of_ble_eq_true rfl) (Nat.le_of_ble_eq_true rfl) rfl rfl, sm_cs _ _ _ _ _ _⟩, ⟨_, ⟨sn_aload_n dX8_atDoor_110 rfl, sm_al _⟩, ⟨_, ⟨sn_get (C := RX8) (T := TX8) (N := 23) dX8_atDoor_111 rfl zinX8 (Nat.le_of_ble_eq_true rfl) zw_3_187, sm_get _ _⟩, ⟨_, ⟨sn_iload_n dX8_atDoor_114 rfl, sm_il _⟩, ⟨_, ⟨sn_iconst dX8_atDoor_115 (by decide +kernel), sm_const _⟩, ⟨_, ⟨sn_cs_i ztb_X8_of dX8_atDoor_116 zw_4_126 zw_4_127 zw_1_8 zw_4_128 zmh_X8 zpd_X8_of (Nat.le_of_ble_eq_true rfl) (Nat.le_of_ble_eq_true rfl) rfl rfl, sm_cs _ _ _ _ _ _⟩, ⟨_, ⟨sn_ic_le dX8_atDoor_119 (by decide +kernel) rfl, sm_if2 _ _ _⟩, ⟨_, ⟨sn_fall (len := 0) rfl rfl, sm_go _ _⟩, trivial⟩⟩⟩⟩⟩⟩⟩⟩⟩⟩⟩⟩⟩⟩⟩⟩⟩⟩
set_option maxRecDepth 20000 in
theorem kX8_atDoor_122 : sx_BK sx_tb yX8_atDoor.cls cX8_atDoor 7 (some .int) ({ frames := 2, cells := 0, slots := 0, locals := 43 } : Room) false false 0 (fun _ => 0) 122 (bX8_atDoor_122) := ⟨_, ⟨sn_iload dX8_atDoor_122, sm_il _⟩, ⟨_, ⟨sn_goto (len := 3) dX8_atDoor_124 (by decide +kernel) rfl, sm_go _ _⟩, trivial⟩⟩
set_option maxRecDepth 20000 in
theorem kX8_atDoor_127 : sx_BK sx_tb yX8_atDoor.cls cX8_atDoor 7 (some .int) ({ frames := 2, cells := 0, slots := 0, locals := 43 } : Room) false false 0 (fun _ => 0) 127 (bX8_atDoor_127) := ⟨_, ⟨sn_iload_n dX8_atDoor_127 rfl, sm_il _⟩, ⟨_, ⟨sn_fall (len := 0) rfl rfl, sm_go _ _⟩, trivial⟩⟩
set_option maxRecDepth 20000 in
theorem kX8_atDoor_128 : sx_BK sx_tb yX8_atDoor.cls cX8_atDoor 7 (some .int) ({ frames := 2, cells := 0, slots := 0, locals := 43 } : Room) false false 0 (fun _ => 0) 128 (bX8_atDoor_128) := ⟨_, ⟨sn_istore_n dX8_atDoor_128 rfl (Nat.le_of_ble_eq_true rfl), sm_is _⟩, ⟨_, ⟨sn_iinc dX8_atDoor_129 (by decide +kernel) (Nat.le_of_ble_eq_true rfl), sm_inc _ _⟩, ⟨_, ⟨sn_goto (len := 3) dX8_atDoor_132 (by decide +kernel) rfl, sm_go _ _⟩, trivial⟩⟩⟩
set_option maxRecDepth 20000 in
theorem kX8_atDoor_135 : sx_BK sx_tb yX8_atDoor.cls cX8_atDoor 7 (some .int) ({ frames := 2, cells := 0, slots := 0, locals := 43 } : Room) false false 0 (fun _ => 0) 135 (bX8_atDoor_135) := ⟨_, ⟨sn_iload_n dX8_atDoor_135 rfl, sm_il _⟩, ⟨_, ⟨sn_iload_n dX8_atDoor_136 rfl, sm_il _⟩, ⟨_, ⟨sn_ldc dX8_atDoor_137 zw_4_65, sm_const _⟩, ⟨_, ⟨sn_ic_ne dX8_atDoor_139 (by decide +kernel) rfl, sm_if2 _ _ _⟩, ⟨_, ⟨sn_iconst dX8_atDoor_142 (by decide +kernel), sm_const _⟩, ⟨_, ⟨sn_goto (len := 3) dX8_atDoor_143 (by decide +kernel) rfl, sm_go _ _⟩, trivial⟩⟩⟩⟩⟩⟩
set_option maxRecDepth 20000 in
theorem kX8_atDoor_146 : sx_BK sx_tb yX8_atDoor.cls cX8_atDoor 7 (some .int) ({ frames := 2, cells := 0, slots := 0, locals := 43 } : Room) false false 0 (fun _ => 0) 146 (bX8_atDoor_146) := ⟨_, ⟨sn_iconst dX8_atDoor_146 (by decide +kernel), sm_const _⟩, ⟨_, ⟨sn_iload_n dX8_atDoor_147 rfl, sm_il _⟩, ⟨_, ⟨sn_ishl dX8_atDoor_148, sm_bin _⟩, ⟨_, ⟨sn_fall (len := 0) rfl rfl, sm_go _ _⟩, trivial⟩⟩⟩⟩
set_option maxRecDepth 20000 in
theorem kX8_atDoor_149 : sx_BK sx_tb yX8_atDoor.cls cX8_atDoor 7 (some .int) ({ frames := 2, cells := 0, slots := 0, locals := 43 } : Room) false false 0 (fun _ => 0) 149 (bX8_atDoor_149) := ⟨_, ⟨sn_ior dX8_atDoor_149, sm_bin _⟩, ⟨_, ⟨sn_istore_n dX8_atDoor_150 rfl (Nat.le_of_ble_eq_true rfl), sm_is _⟩, ⟨_, ⟨sn_iinc dX8_atDoor_151 (by decide +kernel) (Nat.le_of_ble_eq_true rfl), sm_inc _ _⟩, ⟨_, ⟨sn_goto (len := 3) dX8_atDoor_154 (by decide +kernel) rfl, sm_go _ _⟩, trivial⟩⟩⟩⟩
set_option maxRecDepth 20000 in
theorem kX8_atDoor_157 : sx_BK sx_tb yX8_atDoor.cls cX8_atDoor 7 (some .int) ({ frames := 2, cells := 0, slots := 0, locals := 43 } : Room) false false 0 (fun _ => 0) 157 (bX8_atDoor_157) := ⟨_, ⟨sn_iload_n dX8_atDoor_157 rfl, sm_il _⟩, ⟨_, ⟨sn_ri (len := 1) dX8_atDoor_158 rfl, sm_ri⟩, trivial⟩⟩
theorem kX8_atDoor : ∀ pc, sx_BK sx_tb yX8_atDoor.cls cX8_atDoor 7 (some .int) ({ frames := 2, cells := 0, slots := 0, locals := 43 } : Room) false false 0 (fun _ => 0) pc (BX8_atDoor pc) := fun pc => sx_bk_if (kX8_atDoor_0) (sx_bk_if (kX8_atDoor_15) (sx_bk_if (kX8_atDoor_30) (sx_bk_if (kX8_atDoor_38) (sx_bk_if (kX8_atDoor_50) (sx_bk_if (kX8_atDoor_86) (sx_bk_if (kX8_atDoor_87) (sx_bk_if (kX8_atDoor_122) (sx_bk_if (kX8_atDoor_127) (sx_bk_if (kX8_atDoor_128) (sx_bk_if (kX8_atDoor_135) (sx_bk_if (kX8_atDoor_146) (sx_bk_if (kX8_atDoor_149) (sx_bk_if (kX8_atDoor_157) (trivial))))))))))))))
theorem okX8_atDoor : sx_ok sx_tb BX8_atDoor (yX8_atDoor, cX8_atDoor, 7, some .int, { frames := 2, cells := 0, slots := 0, locals := 43 }) := ⟨by decide, by decide +kernel, false, (fun h => by cases h), kX8_atDoor⟩
theorem dX8_pays_0 : decode cX8_pays 0 = .ok (.aload_n 0, 1) := by decide +kernel
theorem dX8_pays_1 : decode cX8_pays 1 = .ok (.iconst 0, 1) := by decide +kernel
theorem dX8_pays_2 : decode cX8_pays 2 = .ok (.putfield 44, 3) := by decide +kernel
theorem dX8_pays_5 : decode cX8_pays 5 = .ok (.aload_n 0, 1) := by decide +kernel
theorem dX8_pays_6 : decode cX8_pays 6 = .ok (.invokevirtual 172, 3) := by decide +kernel
theorem dX8_pays_9 : decode cX8_pays 9 = .ok (.ifCond .ne 7, 3) := by decide +kernel
theorem dX8_pays_12 : decode cX8_pays 12 = .ok (.ldc2_w 210, 3) := by decide +kernel
theorem dX8_pays_15 : decode cX8_pays 15 = .ok (.lreturn, 1) := by decide +kernel
theorem dX8_pays_16 : decode cX8_pays 16 = .ok (.iconst 0, 1) := by decide +kernel
theorem dX8_pays_17 : decode cX8_pays 17 = .ok (.istore 4, 2) := by decide +kernel
theorem dX8_pays_19 : decode cX8_pays 19 = .ok (.iconst 0, 1) := by decide +kernel
theorem dX8_pays_20 : decode cX8_pays 20 = .ok (.istore 5, 2) := by decide +kernel
theorem dX8_pays_22 : decode cX8_pays 22 = .ok (.iload 5, 2) := by decide +kernel
theorem dX8_pays_24 : decode cX8_pays 24 = .ok (.aload_n 0, 1) := by decide +kernel
theorem dX8_pays_25 : decode cX8_pays 25 = .ok (.getfield 19, 3) := by decide +kernel
theorem dX8_pays_28 : decode cX8_pays 28 = .ok (.iconst 4, 1) := by decide +kernel
theorem dX8_pays_29 : decode cX8_pays 29 = .ok (.iaload, 1) := by decide +kernel
theorem dX8_pays_30 : decode cX8_pays 30 = .ok (.if_icmp .ge 31, 3) := by decide +kernel
theorem dX8_pays_33 : decode cX8_pays 33 = .ok (.iload 4, 2) := by decide +kernel
theorem dX8_pays_35 : decode cX8_pays 35 = .ok (.aload_n 0, 1) := by decide +kernel
theorem dX8_pays_36 : decode cX8_pays 36 = .ok (.getfield 19, 3) := by decide +kernel
theorem dX8_pays_39 : decode cX8_pays 39 = .ok (.iload 5, 2) := by decide +kernel
theorem dX8_pays_41 : decode cX8_pays 41 = .ok (.invokestatic 157, 3) := by decide +kernel
theorem dX8_pays_44 : decode cX8_pays 44 = .ok (.ifCond .eq 7, 3) := by decide +kernel
theorem dX8_pays_47 : decode cX8_pays 47 = .ok (.iconst 0, 1) := by decide +kernel
theorem dX8_pays_48 : decode cX8_pays 48 = .ok (.goto 4, 3) := by decide +kernel
theorem dX8_pays_51 : decode cX8_pays 51 = .ok (.iconst 1, 1) := by decide +kernel
theorem dX8_pays_52 : decode cX8_pays 52 = .ok (.iadd, 1) := by decide +kernel
theorem dX8_pays_53 : decode cX8_pays 53 = .ok (.istore 4, 2) := by decide +kernel
theorem dX8_pays_55 : decode cX8_pays 55 = .ok (.iinc 5 1, 3) := by decide +kernel
theorem dX8_pays_58 : decode cX8_pays 58 = .ok (.goto (-36), 3) := by decide +kernel
theorem dX8_pays_61 : decode cX8_pays 61 = .ok (.iload_n 1, 1) := by decide +kernel
theorem dX8_pays_62 : decode cX8_pays 62 = .ok (.i2l, 1) := by decide +kernel
theorem dX8_pays_63 : decode cX8_pays 63 = .ok (.lconst 0, 1) := by decide +kernel
theorem dX8_pays_64 : decode cX8_pays 64 = .ok (.ldc2_w 212, 3) := by decide +kernel
theorem dX8_pays_67 : decode cX8_pays 67 = .ok (.invokestatic 54, 3) := by decide +kernel
theorem dX8_pays_70 : decode cX8_pays 70 = .ok (.ifCond .eq 25, 3) := by decide +kernel
theorem dX8_pays_73 : decode cX8_pays 73 = .ok (.iload_n 2, 1) := by decide +kernel
theorem dX8_pays_74 : decode cX8_pays 74 = .ok (.i2l, 1) := by decide +kernel
theorem dX8_pays_75 : decode cX8_pays 75 = .ok (.lconst 0, 1) := by decide +kernel
theorem dX8_pays_76 : decode cX8_pays 76 = .ok (.iload 4, 2) := by decide +kernel
theorem dX8_pays_78 : decode cX8_pays 78 = .ok (.i2l, 1) := by decide +kernel
theorem dX8_pays_79 : decode cX8_pays 79 = .ok (.invokestatic 54, 3) := by decide +kernel
theorem dX8_pays_82 : decode cX8_pays 82 = .ok (.ifCond .eq 13, 3) := by decide +kernel
theorem dX8_pays_85 : decode cX8_pays 85 = .ok (.iload_n 3, 1) := by decide +kernel
theorem dX8_pays_86 : decode cX8_pays 86 = .ok (.i2l, 1) := by decide +kernel
theorem dX8_pays_87 : decode cX8_pays 87 = .ok (.lconst 0, 1) := by decide +kernel
theorem dX8_pays_88 : decode cX8_pays 88 = .ok (.lconst 1, 1) := by decide +kernel
theorem dX8_pays_89 : decode cX8_pays 89 = .ok (.invokestatic 54, 3) := by decide +kernel
theorem dX8_pays_92 : decode cX8_pays 92 = .ok (.ifCond .ne 7, 3) := by decide +kernel
theorem dX8_pays_95 : decode cX8_pays 95 = .ok (.ldc2_w 214, 3) := by decide +kernel
theorem dX8_pays_98 : decode cX8_pays 98 = .ok (.lreturn, 1) := by decide +kernel
theorem dX8_pays_99 : decode cX8_pays 99 = .ok (.lconst 0, 1) := by decide +kernel
theorem dX8_pays_100 : decode cX8_pays 100 = .ok (.lstore 5, 2) := by decide +kernel
theorem dX8_pays_102 : decode cX8_pays 102 = .ok (.lconst 0, 1) := by decide +kernel
theorem dX8_pays_103 : decode cX8_pays 103 = .ok (.lstore 7, 2) := by decide +kernel
theorem dX8_pays_105 : decode cX8_pays 105 = .ok (.iconst 0, 1) := by decide +kernel
theorem dX8_pays_106 : decode cX8_pays 106 = .ok (.istore 9, 2) := by decide +kernel
theorem dX8_pays_108 : decode cX8_pays 108 = .ok (.iload 9, 2) := by decide +kernel
theorem dX8_pays_110 : decode cX8_pays 110 = .ok (.iconst 1, 1) := by decide +kernel
theorem dX8_pays_111 : decode cX8_pays 111 = .ok (.iload 4, 2) := by decide +kernel
theorem dX8_pays_113 : decode cX8_pays 113 = .ok (.ishl, 1) := by decide +kernel
theorem dX8_pays_114 : decode cX8_pays 114 = .ok (.if_icmp .ge 81, 3) := by decide +kernel
theorem dX8_pays_117 : decode cX8_pays 117 = .ok (.lconst 1, 1) := by decide +kernel
theorem dX8_pays_118 : decode cX8_pays 118 = .ok (.lstore 10, 2) := by decide +kernel
theorem dX8_pays_120 : decode cX8_pays 120 = .ok (.iconst 0, 1) := by decide +kernel
theorem dX8_pays_121 : decode cX8_pays 121 = .ok (.istore 12, 2) := by decide +kernel
theorem dX8_pays_123 : decode cX8_pays 123 = .ok (.iload 12, 2) := by decide +kernel
theorem dX8_pays_125 : decode cX8_pays 125 = .ok (.iload 4, 2) := by decide +kernel
theorem dX8_pays_127 : decode cX8_pays 127 = .ok (.if_icmp .ge 35, 3) := by decide +kernel
theorem dX8_pays_130 : decode cX8_pays 130 = .ok (.lload 10, 2) := by decide +kernel
theorem dX8_pays_132 : decode cX8_pays 132 = .ok (.iload 9, 2) := by decide +kernel
theorem dX8_pays_134 : decode cX8_pays 134 = .ok (.iload 12, 2) := by decide +kernel
theorem dX8_pays_136 : decode cX8_pays 136 = .ok (.ishr, 1) := by decide +kernel
theorem dX8_pays_137 : decode cX8_pays 137 = .ok (.iconst 1, 1) := by decide +kernel
theorem dX8_pays_138 : decode cX8_pays 138 = .ok (.iand, 1) := by decide +kernel
theorem dX8_pays_139 : decode cX8_pays 139 = .ok (.iconst 1, 1) := by decide +kernel
theorem dX8_pays_140 : decode cX8_pays 140 = .ok (.if_icmp .ne 8, 3) := by decide +kernel
theorem dX8_pays_143 : decode cX8_pays 143 = .ok (.iload_n 1, 1) := by decide +kernel
theorem dX8_pays_144 : decode cX8_pays 144 = .ok (.i2l, 1) := by decide +kernel
theorem dX8_pays_145 : decode cX8_pays 145 = .ok (.goto 8, 3) := by decide +kernel
theorem dX8_pays_148 : decode cX8_pays 148 = .ok (.bipush 10, 2) := by decide +kernel
theorem dX8_pays_150 : decode cX8_pays 150 = .ok (.iload_n 1, 1) := by decide +kernel
theorem dX8_pays_151 : decode cX8_pays 151 = .ok (.isub, 1) := by decide +kernel
theorem dX8_pays_152 : decode cX8_pays 152 = .ok (.i2l, 1) := by decide +kernel
theorem dX8_pays_153 : decode cX8_pays 153 = .ok (.lmul, 1) := by decide +kernel
theorem dX8_pays_154 : decode cX8_pays 154 = .ok (.lstore 10, 2) := by decide +kernel
theorem dX8_pays_156 : decode cX8_pays 156 = .ok (.iinc 12 1, 3) := by decide +kernel
theorem dX8_pays_159 : decode cX8_pays 159 = .ok (.goto (-36), 3) := by decide +kernel
theorem dX8_pays_162 : decode cX8_pays 162 = .ok (.lload 7, 2) := by decide +kernel
theorem dX8_pays_164 : decode cX8_pays 164 = .ok (.lload 10, 2) := by decide +kernel
theorem dX8_pays_166 : decode cX8_pays 166 = .ok (.ladd, 1) := by decide +kernel
theorem dX8_pays_167 : decode cX8_pays 167 = .ok (.lstore 7, 2) := by decide +kernel
theorem dX8_pays_169 : decode cX8_pays 169 = .ok (.lload 5, 2) := by decide +kernel
theorem dX8_pays_171 : decode cX8_pays 171 = .ok (.iload 9, 2) := by decide +kernel
theorem dX8_pays_173 : decode cX8_pays 173 = .ok (.invokestatic 203, 3) := by decide +kernel
theorem dX8_pays_176 : decode cX8_pays 176 = .ok (.iload_n 2, 1) := by decide +kernel
theorem dX8_pays_177 : decode cX8_pays 177 = .ok (.if_icmp .lt 8, 3) := by decide +kernel
theorem dX8_pays_180 : decode cX8_pays 180 = .ok (.lload 10, 2) := by decide +kernel
theorem dX8_pays_182 : decode cX8_pays 182 = .ok (.goto 4, 3) := by decide +kernel
theorem dX8_pays_185 : decode cX8_pays 185 = .ok (.lconst 0, 1) := by decide +kernel
theorem dX8_pays_186 : decode cX8_pays 186 = .ok (.ladd, 1) := by decide +kernel
theorem dX8_pays_187 : decode cX8_pays 187 = .ok (.lstore 5, 2) := by decide +kernel
theorem dX8_pays_189 : decode cX8_pays 189 = .ok (.iinc 9 1, 3) := by decide +kernel
theorem dX8_pays_192 : decode cX8_pays 192 = .ok (.goto (-84), 3) := by decide +kernel
theorem dX8_pays_195 : decode cX8_pays 195 = .ok (.lload 5, 2) := by decide +kernel
theorem dX8_pays_197 : decode cX8_pays 197 = .ok (.lstore 9, 2) := by decide +kernel
theorem dX8_pays_199 : decode cX8_pays 199 = .ok (.lload 7, 2) := by decide +kernel
theorem dX8_pays_201 : decode cX8_pays 201 = .ok (.lstore 11, 2) := by decide +kernel
theorem dX8_pays_203 : decode cX8_pays 203 = .ok (.lload 11, 2) := by decide +kernel
theorem dX8_pays_205 : decode cX8_pays 205 = .ok (.lconst 0, 1) := by decide +kernel
theorem dX8_pays_206 : decode cX8_pays 206 = .ok (.lcmp, 1) := by decide +kernel
theorem dX8_pays_207 : decode cX8_pays 207 = .ok (.ifCond .eq 21, 3) := by decide +kernel
theorem dX8_pays_210 : decode cX8_pays 210 = .ok (.lload 9, 2) := by decide +kernel
theorem dX8_pays_212 : decode cX8_pays 212 = .ok (.lload 11, 2) := by decide +kernel
theorem dX8_pays_214 : decode cX8_pays 214 = .ok (.lrem, 1) := by decide +kernel
theorem dX8_pays_215 : decode cX8_pays 215 = .ok (.lstore 13, 2) := by decide +kernel
theorem dX8_pays_217 : decode cX8_pays 217 = .ok (.lload 11, 2) := by decide +kernel
theorem dX8_pays_219 : decode cX8_pays 219 = .ok (.lstore 9, 2) := by decide +kernel
theorem dX8_pays_221 : decode cX8_pays 221 = .ok (.lload 13, 2) := by decide +kernel
theorem dX8_pays_223 : decode cX8_pays 223 = .ok (.lstore 11, 2) := by decide +kernel
theorem dX8_pays_225 : decode cX8_pays 225 = .ok (.goto (-22), 3) := by decide +kernel
theorem dX8_pays_228 : decode cX8_pays 228 = .ok (.iload_n 3, 1) := by decide +kernel
theorem dX8_pays_229 : decode cX8_pays 229 = .ok (.ifCond .ne 8, 3) := by decide +kernel
theorem dX8_pays_232 : decode cX8_pays 232 = .ok (.lload 5, 2) := by decide +kernel
theorem dX8_pays_234 : decode cX8_pays 234 = .ok (.goto 5, 3) := by decide +kernel
theorem dX8_pays_237 : decode cX8_pays 237 = .ok (.lload 7, 2) := by decide +kernel
theorem dX8_pays_239 : decode cX8_pays 239 = .ok (.lload 9, 2) := by decide +kernel
theorem dX8_pays_241 : decode cX8_pays 241 = .ok (.ldiv, 1) := by decide +kernel
theorem dX8_pays_242 : decode cX8_pays 242 = .ok (.lreturn, 1) := by decide +kernel
def bX8_pays_0 : List sx_S := [si_al 0, si_const 0, si_put 7 0 0, si_al 0, si_cv 7 145 0 0 0 0 0, si_if1 (fun x => ¬ x = 0) 16 [true, true, true, true, false, false, false, false, false, false, false, false, false, false, false], si_lconst (-1000002), si_rl]
def bX8_pays_16 : List sx_S := [si_const 0, si_is 4, si_const 0, si_is 5, si_go 22 [true, true, true, true, true, true, false, false, false, false, false, false, false, false, false]]
def bX8_pays_22 : List sx_S := [si_il 5, si_al 0, si_get 7 5, si_const (nI 4), si_iald, si_if2 (fun x y => y ≤ x) 61 [false, true, true, true, true, false, false, false, false, false, false, false, false, false, false], si_il 4, si_al 0, si_get 7 5, si_il 5, si_cs 148 2 0 0 0 0, si_if1 (fun x => x = 0) 51 [true, true, true, true, false, true, false, false, false, false, false, false, false, false, false], si_const 0, si_go 52 [true, true, true, true, false, true, false, false, false, false, false, false, false, false, false]]
def bX8_pays_51 : List sx_S := [si_const 1, si_go 52 [true, true, true, true, false, true, false, false, false, false, false, false, false, false, false]]
def bX8_pays_52 : List sx_S := [si_bin (fun x y => x + y), si_is 4, si_inc 5 1, si_go 22 [true, true, true, true, true, true, false, false, false, false, false, false, false, false, false]]
def bX8_pays_61 : List sx_S := [si_il 1, si_i2l, si_lconst 0, si_lconst (lN 10), si_cs 124 3 0 0 0 0, si_if1 (fun x => x = 0) 95 [false, false, false, false, false, false, false, false, false, false, false, false, false, false, false], si_il 2, si_i2l, si_lconst 0, si_il 4, si_i2l, si_cs 124 3 0 0 0 0, si_if1 (fun x => x = 0) 95 [false, false, false, false, false, false, false, false, false, false, false, false, false, false, false], si_il 3, si_i2l, si_lconst 0, si_lconst 1, si_cs 124 3 0 0 0 0, si_if1 (fun x => ¬ x = 0) 99 [false, true, true, true, true, false, false, false, false, false, false, false, false, false, false], si_go 95 [false, false, false, false, false, false, false, false, false, false, false, false, false, false, false]]
def bX8_pays_95 : List sx_S := [si_lconst (-1000001), si_rl]
def bX8_pays_99 : List sx_S := [si_lconst 0, si_ls 5, si_lconst 0, si_ls 7, si_const 0, si_is 9, si_go 108 [false, true, true, true, true, true, false, true, false, true, false, false, false, false, false]]
def bX8_pays_108 : List sx_S := [si_il 9, si_const 1, si_il 4, si_bin (fun x y => x <<< (y &&& 31)), si_if2 (fun x y => y ≤ x) 195 [false, false, false, true, false, true, false, true, false, false, false, false, false, false, false], si_lconst 1, si_ls 10, si_const 0, si_is 12, si_go 123 [false, true, true, true, true, true, false, true, false, true, true, false, true, false, false]]
def bX8_pays_123 : List sx_S := [si_il 12, si_il 4, si_if2 (fun x y => y ≤ x) 162 [false, true, true, true, true, true, false, true, false, true, true, false, false, false, false], si_ll 10, si_il 9, si_il 12, si_bin (fun x y => x >>> (y &&& 31)), si_const 1, si_bin (fun x y => x &&& y), si_const 1, si_if2 (fun x y => ¬ x = y) 148 [false, true, true, true, true, true, false, true, false, true, false, false, true, false, false], si_il 1, si_i2l, si_go 153 [false, true, true, true, true, true, false, true, false, true, false, false, true, false, false]]
def bX8_pays_148 : List sx_S := [si_const (nI 10), si_il 1, si_bin (fun x y => x - y), si_i2l, si_go 153 [false, true, true, true, true, true, false, true, false, true, false, false, true, false, false]]
def bX8_pays_153 : List sx_S := [si_lbin (fun x y => x * y), si_ls 10, si_inc 12 1, si_go 123 [false, true, true, true, true, true, false, true, false, true, true, false, true, false, false]]
def bX8_pays_162 : List sx_S := [si_ll 7, si_ll 10, si_lbin (fun x y => x + y), si_ls 7, si_ll 5, si_il 9, si_cs 171 1 0 0 0 0, si_il 2, si_if2 (fun x y => x < y) 185 [false, true, true, true, true, false, false, true, false, true, false, false, false, false, false], si_ll 10, si_go 186 [false, true, true, true, true, false, false, true, false, true, false, false, false, false, false]]
def bX8_pays_185 : List sx_S := [si_lconst 0, si_go 186 [false, true, true, true, true, false, false, true, false, true, false, false, false, false, false]]
def bX8_pays_186 : List sx_S := [si_lbin (fun x y => x + y), si_ls 5, si_inc 9 1, si_go 108 [false, true, true, true, true, true, false, true, false, true, false, false, false, false, false]]
def bX8_pays_195 : List sx_S := [si_ll 5, si_ls 9, si_ll 7, si_ls 11, si_go 203 [false, false, false, true, false, true, false, true, false, true, false, true, false, false, false]]
def bX8_pays_203 : List sx_S := [si_ll 11, si_lconst 0, si_lcmp, si_if1 (fun x => x = 0) 228 [false, false, false, true, false, true, false, true, false, true, false, false, false, false, false], si_ll 9, si_ll 11, si_ldiv (fun x y => x - x / y * y), si_ls 13, si_ll 11, si_ls 9, si_ll 13, si_ls 11, si_go 203 [false, false, false, true, false, true, false, true, false, true, false, true, false, false, false]]
def bX8_pays_228 : List sx_S := [si_il 3, si_if1 (fun x => ¬ x = 0) 237 [false, false, false, false, false, false, false, true, false, true, false, false, false, false, false], si_ll 5, si_go 239 [false, false, false, false, false, false, false, false, false, true, false, false, false, false, false]]
def bX8_pays_237 : List sx_S := [si_ll 7, si_go 239 [false, false, false, false, false, false, false, false, false, true, false, false, false, false, false]]
def bX8_pays_239 : List sx_S := [si_ll 9, si_ldiv (fun x y => x / y), si_rl]
def BX8_pays : Nat → List sx_S := fun pc => if pc = 0 then bX8_pays_0 else if pc = 16 then bX8_pays_16 else if pc = 22 then bX8_pays_22 else if pc = 51 then bX8_pays_51 else if pc = 52 then bX8_pays_52 else if pc = 61 then bX8_pays_61 else if pc = 95 then bX8_pays_95 else if pc = 99 then bX8_pays_99 else if pc = 108 then bX8_pays_108 else if pc = 123 then bX8_pays_123 else if pc = 148 then bX8_pays_148 else if pc = 153 then bX8_pays_153 else if pc = 162 then bX8_pays_162 else if pc = 185 then bX8_pays_185 else if pc = 186 then bX8_pays_186 else if pc = 195 then bX8_pays_195 else if pc = 203 then bX8_pays_203 else if pc = 228 then bX8_pays_228 else if pc = 237 then bX8_pays_237 else if pc = 239 then bX8_pays_239 else []
set_option maxRecDepth 20000 in
theorem kX8_pays_0 : sx_BK sx_tb yX8_pays.cls cX8_pays 15 (some .long) ({ frames := 2, cells := 0, slots := 0, locals := 43 } : Room) false false 0 (fun _ => 0) 0 (bX8_pays_0) := ⟨_, ⟨sn_aload_n dX8_pays_0 rfl, sm_al _⟩, ⟨_, ⟨sn_iconst dX8_pays_1 (by decide +kernel), sm_const _⟩, ⟨_, ⟨sn_put (C := RX8) (T := TX8) (N := 23) dX8_pays_2 rfl zinX8 tyX8_ok nmX8 (Nat.le_of_ble_eq_true rfl) zw_3_182 rfl (tyX8_ok 0 (Nat.le_of_ble_eq_true rfl)) trivial, sm_put _ _ _⟩, ⟨_, ⟨sn_aload_n dX8_pays_5 rfl, sm_al _⟩, ⟨_, ⟨sn_cv_z (N := 23) (T := TX8) ztb_X8_isThere dX8_pays_6 rfl rfl zw_4_110 zw_4_112 zw_0_45 zw_1_8 zw_4_113 zmh_X8 zpd_X8_isThere (Nat.le_of_ble_eq_true rfl) (Nat.le_of_ble_eq_true rfl) rfl rfl, sm_cv _ _ _ _ _ _ _⟩, ⟨_, ⟨sn_if_ne dX8_pays_9 (by decide +kernel) rfl, sm_if1 _ _ _⟩, ⟨_, ⟨sn_ldc2 dX8_pays_12 zw_4_238, sm_lconst _⟩, ⟨_, ⟨sn_rl (len := 1) dX8_pays_15 rfl, sm_rl⟩, trivial⟩⟩⟩⟩⟩⟩⟩⟩
set_option maxRecDepth 20000 in
theorem kX8_pays_16 : sx_BK sx_tb yX8_pays.cls cX8_pays 15 (some .long) ({ frames := 2, cells := 0, slots := 0, locals := 43 } : Room) false false 0 (fun _ => 0) 16 (bX8_pays_16) := ⟨_, ⟨sn_iconst dX8_pays_16 (by decide +kernel), sm_const _⟩, ⟨_, ⟨sn_istore dX8_pays_17 (Nat.le_of_ble_eq_true rfl), sm_is _⟩, ⟨_, ⟨sn_iconst dX8_pays_19 (by decide +kernel), sm_const _⟩, ⟨_, ⟨sn_istore dX8_pays_20 (Nat.le_of_ble_eq_true rfl), sm_is _⟩, ⟨_, ⟨sn_fall (len := 0) rfl rfl, sm_go _ _⟩, trivial⟩⟩⟩⟩⟩
set_option maxRecDepth 20000 in
theorem kX8_pays_22 : sx_BK sx_tb yX8_pays.cls cX8_pays 15 (some .long) ({ frames := 2, cells := 0, slots := 0, locals := 43 } : Room) false false 0 (fun _ => 0) 22 (bX8_pays_22) := ⟨_, ⟨sn_iload dX8_pays_22, sm_il _⟩, ⟨_, ⟨sn_aload_n dX8_pays_24 rfl, sm_al _⟩, ⟨_, ⟨sn_get (C := RX8) (T := TX8) (N := 23) dX8_pays_25 rfl zinX8 (Nat.le_of_ble_eq_true rfl) zw_3_187, sm_get _ _⟩, ⟨_, ⟨sn_iconst dX8_pays_28 (by decide +kernel), sm_const _⟩, ⟨_, ⟨sn_iald dX8_pays_29, sm_iald⟩, ⟨_, ⟨sn_ic_ge dX8_pays_30 (by decide +kernel) rfl, sm_if2 _ _ _⟩, ⟨_, ⟨sn_iload dX8_pays_33, sm_il _⟩, ⟨_, ⟨sn_aload_n dX8_pays_35 rfl, sm_al _⟩, ⟨_, ⟨sn_get (C := RX8) (T := TX8) (N := 23) dX8_pays_36 rfl zinX8 (Nat.le_of_ble_eq_true rfl) zw_3_187, sm_get _ _⟩, ⟨_, ⟨sn_iload dX8_pays_39, sm_il _⟩, ⟨_, ⟨sn_cs_z ztb_X8_isOut dX8_pays_41 zw_4_123 zw_4_124 zw_1_8 zw_4_125 zmh_X8 zpd_X8_isOut (Nat.le_of_ble_eq_true rfl) (Nat.le_of_ble_eq_true rfl) rfl rfl, sm_cs _ _ _ _ _ _⟩, ⟨_, ⟨sn_if_eq dX8_pays_44 (by decide +kernel) rfl, sm_if1 _ _ _⟩, ⟨_, ⟨sn_iconst dX8_pays_47 (by decide +kernel), sm_const _⟩, ⟨_, ⟨sn_goto (len := 3) dX8_pays_48 (by decide +kernel) rfl, sm_go _ _⟩, trivial⟩⟩⟩⟩⟩⟩⟩⟩⟩⟩⟩⟩⟩⟩
set_option maxRecDepth 20000 in
theorem kX8_pays_51 : sx_BK sx_tb yX8_pays.cls cX8_pays 15 (some .long) ({ frames := 2, cells := 0, slots := 0, locals := 43 } : Room) false false 0 (fun _ => 0) 51 (bX8_pays_51) := ⟨_, ⟨sn_iconst dX8_pays_51 (by decide +kernel), sm_const _⟩, ⟨_, ⟨sn_fall (len := 0) rfl rfl, sm_go _ _⟩, trivial⟩⟩
set_option maxRecDepth 20000 in
theorem kX8_pays_52 : sx_BK sx_tb yX8_pays.cls cX8_pays 15 (some .long) ({ frames := 2, cells := 0, slots := 0, locals := 43 } : Room) false false 0 (fun _ => 0) 52 (bX8_pays_52) := ⟨_, ⟨sn_iadd dX8_pays_52, sm_bin _⟩, ⟨_, ⟨sn_istore dX8_pays_53 (Nat.le_of_ble_eq_true rfl), sm_is _⟩, ⟨_, ⟨sn_iinc dX8_pays_55 (by decide +kernel) (Nat.le_of_ble_eq_true rfl), sm_inc _ _⟩, ⟨_, ⟨sn_goto (len := 3) dX8_pays_58 (by decide +kernel) rfl, sm_go _ _⟩, trivial⟩⟩⟩⟩
set_option maxRecDepth 20000 in
theorem kX8_pays_61 : sx_BK sx_tb yX8_pays.cls cX8_pays 15 (some .long) ({ frames := 2, cells := 0, slots := 0, locals := 43 } : Room) false false 0 (fun _ => 0) 61 (bX8_pays_61) := ⟨_, ⟨sn_iload_n dX8_pays_61 rfl, sm_il _⟩, ⟨_, ⟨sn_i2l dX8_pays_62, sm_i2l⟩, ⟨_, ⟨sn_lconst dX8_pays_63 (by decide +kernel), sm_lconst _⟩, ⟨_, ⟨sn_ldc2 dX8_pays_64 zw_4_239, sm_lconst _⟩, ⟨_, ⟨sn_cs_z ztb_X8_in dX8_pays_67 zw_4_21 zw_4_22 zw_1_8 zw_4_23 zmh_X8 zpd_X8_in (Nat.le_of_ble_eq_true rfl) (Nat.le_of_ble_eq_true rfl) rfl rfl, sm_cs _ _ _ _ _ _⟩, ⟨_, ⟨sn_if_eq dX8_pays_70 (by decide +kernel) rfl, sm_if1 _ _ _⟩, ⟨_, ⟨sn_iload_n dX8_pays_73 rfl, sm_il _⟩, ⟨_, ⟨sn_i2l dX8_pays_74, sm_i2l⟩, ⟨_, ⟨sn_lconst dX8_pays_75 (by decide +kernel), sm_lconst _⟩, ⟨_, ⟨sn_iload dX8_pays_76, sm_il _⟩, ⟨_, ⟨sn_i2l dX8_pays_78, sm_i2l⟩, ⟨_, ⟨sn_cs_z ztb_X8_in dX8_pays_79 zw_4_21 zw_4_22 zw_1_8 zw_4_23 zmh_X8 zpd_X8_in (Nat.le_of_ble_eq_true rfl) (Nat.le_of_ble_eq_true rfl) rfl rfl, sm_cs _ _ _ _ _ _⟩, ⟨_, ⟨sn_if_eq dX8_pays_82 (by decide +kernel) rfl, sm_if1 _ _ _⟩, ⟨_, ⟨sn_iload_n dX8_pays_85 rfl, sm_il _⟩, ⟨_, ⟨sn_i2l dX8_pays_86, sm_i2l⟩, ⟨_, ⟨sn_lconst dX8_pays_87 (by decide +kernel), sm_lconst _⟩, ⟨_, ⟨sn_lconst dX8_pays_88 (by decide +kernel), sm_lconst _⟩, ⟨_, ⟨sn_cs_z ztb_X8_in dX8_pays_89 zw_4_21 zw_4_22 zw_1_8 zw_4_23 zmh_X8 zpd_X8_in (Nat.le_of_ble_eq_true rfl) (Nat.le_of_ble_eq_true rfl) rfl rfl, sm_cs _ _ _ _ _ _⟩, ⟨_, ⟨sn_if_ne dX8_pays_92 (by decide +kernel) rfl, sm_if1 _ _ _⟩, ⟨_, ⟨sn_fall (len := 0) rfl rfl, sm_go _ _⟩, trivial⟩⟩⟩⟩⟩⟩⟩⟩⟩⟩⟩⟩⟩⟩⟩⟩⟩⟩⟩⟩
set_option maxRecDepth 20000 in
theorem kX8_pays_95 : sx_BK sx_tb yX8_pays.cls cX8_pays 15 (some .long) ({ frames := 2, cells := 0, slots := 0, locals := 43 } : Room) false false 0 (fun _ => 0) 95 (bX8_pays_95) := ⟨_, ⟨sn_ldc2 dX8_pays_95 zw_5_0, sm_lconst _⟩, ⟨_, ⟨sn_rl (len := 1) dX8_pays_98 rfl, sm_rl⟩, trivial⟩⟩
set_option maxRecDepth 20000 in
theorem kX8_pays_99 : sx_BK sx_tb yX8_pays.cls cX8_pays 15 (some .long) ({ frames := 2, cells := 0, slots := 0, locals := 43 } : Room) false false 0 (fun _ => 0) 99 (bX8_pays_99) := ⟨_, ⟨sn_lconst dX8_pays_99 (by decide +kernel), sm_lconst _⟩, ⟨_, ⟨sn_lstore dX8_pays_100 (Nat.le_of_ble_eq_true rfl), sm_ls _⟩, ⟨_, ⟨sn_lconst dX8_pays_102 (by decide +kernel), sm_lconst _⟩, ⟨_, ⟨sn_lstore dX8_pays_103 (Nat.le_of_ble_eq_true rfl), sm_ls _⟩, ⟨_, ⟨sn_iconst dX8_pays_105 (by decide +kernel), sm_const _⟩, ⟨_, ⟨sn_istore dX8_pays_106 (Nat.le_of_ble_eq_true rfl), sm_is _⟩, ⟨_, ⟨sn_fall (len := 0) rfl rfl, sm_go _ _⟩, trivial⟩⟩⟩⟩⟩⟩⟩
set_option maxRecDepth 20000 in
theorem kX8_pays_108 : sx_BK sx_tb yX8_pays.cls cX8_pays 15 (some .long) ({ frames := 2, cells := 0, slots := 0, locals := 43 } : Room) false false 0 (fun _ => 0) 108 (bX8_pays_108) := ⟨_, ⟨sn_iload dX8_pays_108, sm_il _⟩, ⟨_, ⟨sn_iconst dX8_pays_110 (by decide +kernel), sm_const _⟩, ⟨_, ⟨sn_iload dX8_pays_111, sm_il _⟩, ⟨_, ⟨sn_ishl dX8_pays_113, sm_bin _⟩, ⟨_, ⟨sn_ic_ge dX8_pays_114 (by decide +kernel) rfl, sm_if2 _ _ _⟩, ⟨_, ⟨sn_lconst dX8_pays_117 (by decide +kernel), sm_lconst _⟩, ⟨_, ⟨sn_lstore dX8_pays_118 (Nat.le_of_ble_eq_true rfl), sm_ls _⟩, ⟨_, ⟨sn_iconst dX8_pays_120 (by decide +kernel), sm_const _⟩, ⟨_, ⟨sn_istore dX8_pays_121 (Nat.le_of_ble_eq_true rfl), sm_is _⟩, ⟨_, ⟨sn_fall (len := 0) rfl rfl, sm_go _ _⟩, trivial⟩⟩⟩⟩⟩⟩⟩⟩⟩⟩
set_option maxRecDepth 20000 in
theorem kX8_pays_123 : sx_BK sx_tb yX8_pays.cls cX8_pays 15 (some .long) ({ frames := 2, cells := 0, slots := 0, locals := 43 } : Room) false false 0 (fun _ => 0) 123 (bX8_pays_123) := ⟨_, ⟨sn_iload dX8_pays_123, sm_il _⟩, ⟨_, ⟨sn_iload dX8_pays_125, sm_il _⟩, ⟨_, ⟨sn_ic_ge dX8_pays_127 (by decide +kernel) rfl, sm_if2 _ _ _⟩, ⟨_, ⟨sn_lload dX8_pays_130, sm_ll _⟩, ⟨_, ⟨sn_iload dX8_pays_132, sm_il _⟩, ⟨_, ⟨sn_iload dX8_pays_134, sm_il _⟩, ⟨_, ⟨sn_ishr dX8_pays_136, sm_bin _⟩, ⟨_, ⟨sn_iconst dX8_pays_137 (by decide +kernel), sm_const _⟩, ⟨_, ⟨sn_iand dX8_pays_138, sm_bin _⟩, ⟨_, ⟨sn_iconst dX8_pays_139 (by decide +kernel), sm_const _⟩, ⟨_, ⟨sn_ic_ne dX8_pays_140 (by decide +kernel) rfl, sm_if2 _ _ _⟩, ⟨_, ⟨sn_iload_n dX8_pays_143 rfl, sm_il _⟩, ⟨_, ⟨sn_i2l dX8_pays_144, sm_i2l⟩, ⟨_, ⟨sn_goto (len := 3) dX8_pays_145 (by decide +kernel) rfl, sm_go _ _⟩, trivial⟩⟩⟩⟩⟩⟩⟩⟩⟩⟩⟩⟩⟩⟩
set_option maxRecDepth 20000 in
theorem kX8_pays_148 : sx_BK sx_tb yX8_pays.cls cX8_pays 15 (some .long) ({ frames := 2, cells := 0, slots := 0, locals := 43 } : Room) false false 0 (fun _ => 0) 148 (bX8_pays_148) := ⟨_, ⟨sn_bipush dX8_pays_148 (by decide +kernel), sm_const _⟩, ⟨_, ⟨sn_iload_n dX8_pays_150 rfl, sm_il _⟩, ⟨_, ⟨sn_isub dX8_pays_151, sm_bin _⟩, ⟨_, ⟨sn_i2l dX8_pays_152, sm_i2l⟩, ⟨_, ⟨sn_fall (len := 0) rfl rfl, sm_go _ _⟩, trivial⟩⟩⟩⟩⟩
set_option maxRecDepth 20000 in
theorem kX8_pays_153 : sx_BK sx_tb yX8_pays.cls cX8_pays 15 (some .long) ({ frames := 2, cells := 0, slots := 0, locals := 43 } : Room) false false 0 (fun _ => 0) 153 (bX8_pays_153) := ⟨_, ⟨sn_lmul dX8_pays_153, sm_lbin _⟩, ⟨_, ⟨sn_lstore dX8_pays_154 (Nat.le_of_ble_eq_true rfl), sm_ls _⟩, ⟨_, ⟨sn_iinc dX8_pays_156 (by decide +kernel) (Nat.le_of_ble_eq_true rfl), sm_inc _ _⟩, ⟨_, ⟨sn_goto (len := 3) dX8_pays_159 (by decide +kernel) rfl, sm_go _ _⟩, trivial⟩⟩⟩⟩
set_option maxRecDepth 20000 in
theorem kX8_pays_162 : sx_BK sx_tb yX8_pays.cls cX8_pays 15 (some .long) ({ frames := 2, cells := 0, slots := 0, locals := 43 } : Room) false false 0 (fun _ => 0) 162 (bX8_pays_162) := ⟨_, ⟨sn_lload dX8_pays_162, sm_ll _⟩, ⟨_, ⟨sn_lload dX8_pays_164, sm_ll _⟩, ⟨_, ⟨sn_ladd dX8_pays_166, sm_lbin _⟩, ⟨_, ⟨sn_lstore dX8_pays_167 (Nat.le_of_ble_eq_true rfl), sm_ls _⟩, ⟨_, ⟨sn_lload dX8_pays_169, sm_ll _⟩, ⟨_, ⟨sn_iload dX8_pays_171, sm_il _⟩, ⟨_, ⟨sn_cs_i ztb_X8_bits dX8_pays_173 zw_4_209 zw_4_210 zw_1_8 zw_4_211 zmh_X8 zpd_X8_bits (Nat.le_of_ble_eq_true rfl) (Nat.le_of_ble_eq_true rfl) rfl rfl, sm_cs _ _ _ _ _ _⟩, ⟨_, ⟨sn_iload_n dX8_pays_176 rfl, sm_il _⟩, ⟨_, ⟨sn_ic_lt dX8_pays_177 (by decide +kernel) rfl, sm_if2 _ _ _⟩, ⟨_, ⟨sn_lload dX8_pays_180, sm_ll _⟩, ⟨_, ⟨sn_goto (len := 3) dX8_pays_182 (by decide +kernel) rfl, sm_go _ _⟩, trivial⟩⟩⟩⟩⟩⟩⟩⟩⟩⟩⟩
set_option maxRecDepth 20000 in
theorem kX8_pays_185 : sx_BK sx_tb yX8_pays.cls cX8_pays 15 (some .long) ({ frames := 2, cells := 0, slots := 0, locals := 43 } : Room) false false 0 (fun _ => 0) 185 (bX8_pays_185) := ⟨_, ⟨sn_lconst dX8_pays_185 (by decide +kernel), sm_lconst _⟩, ⟨_, ⟨sn_fall (len := 0) rfl rfl, sm_go _ _⟩, trivial⟩⟩
set_option maxRecDepth 20000 in
theorem kX8_pays_186 : sx_BK sx_tb yX8_pays.cls cX8_pays 15 (some .long) ({ frames := 2, cells := 0, slots := 0, locals := 43 } : Room) false false 0 (fun _ => 0) 186 (bX8_pays_186) := ⟨_, ⟨sn_ladd dX8_pays_186, sm_lbin _⟩, ⟨_, ⟨sn_lstore dX8_pays_187 (Nat.le_of_ble_eq_true rfl), sm_ls _⟩, ⟨_, ⟨sn_iinc dX8_pays_189 (by decide +kernel) (Nat.le_of_ble_eq_true rfl), sm_inc _ _⟩, ⟨_, ⟨sn_goto (len := 3) dX8_pays_192 (by decide +kernel) rfl, sm_go _ _⟩, trivial⟩⟩⟩⟩
set_option maxRecDepth 20000 in
theorem kX8_pays_195 : sx_BK sx_tb yX8_pays.cls cX8_pays 15 (some .long) ({ frames := 2, cells := 0, slots := 0, locals := 43 } : Room) false false 0 (fun _ => 0) 195 (bX8_pays_195) := ⟨_, ⟨sn_lload dX8_pays_195, sm_ll _⟩, ⟨_, ⟨sn_lstore dX8_pays_197 (Nat.le_of_ble_eq_true rfl), sm_ls _⟩, ⟨_, ⟨sn_lload dX8_pays_199, sm_ll _⟩, ⟨_, ⟨sn_lstore dX8_pays_201 (Nat.le_of_ble_eq_true rfl), sm_ls _⟩, ⟨_, ⟨sn_fall (len := 0) rfl rfl, sm_go _ _⟩, trivial⟩⟩⟩⟩⟩
set_option maxRecDepth 20000 in
theorem kX8_pays_203 : sx_BK sx_tb yX8_pays.cls cX8_pays 15 (some .long) ({ frames := 2, cells := 0, slots := 0, locals := 43 } : Room) false false 0 (fun _ => 0) 203 (bX8_pays_203) := ⟨_, ⟨sn_lload dX8_pays_203, sm_ll _⟩, ⟨_, ⟨sn_lconst dX8_pays_205 (by decide +kernel), sm_lconst _⟩, ⟨_, ⟨sn_lcmp dX8_pays_206, sm_lcmp⟩, ⟨_, ⟨sn_if_eq dX8_pays_207 (by decide +kernel) rfl, sm_if1 _ _ _⟩, ⟨_, ⟨sn_lload dX8_pays_210, sm_ll _⟩, ⟨_, ⟨sn_lload dX8_pays_212, sm_ll _⟩, ⟨_, ⟨sn_lrem dX8_pays_214, sm_ldiv _⟩, ⟨_, ⟨sn_lstore dX8_pays_215 (Nat.le_of_ble_eq_true rfl), sm_ls _⟩, ⟨_, ⟨sn_lload dX8_pays_217, sm_ll _⟩, ⟨_, ⟨sn_lstore dX8_pays_219 (Nat.le_of_ble_eq_true rfl), sm_ls _⟩, ⟨_, ⟨sn_lload dX8_pays_221, sm_ll _⟩, ⟨_, ⟨sn_lstore dX8_pays_223 (Nat.le_of_ble_eq_true rfl), sm_ls _⟩, ⟨_, ⟨sn_goto (len := 3) dX8_pays_225 (by decide +kernel) rfl, sm_go _ _⟩, trivial⟩⟩⟩⟩⟩⟩⟩⟩⟩⟩⟩⟩⟩
set_option maxRecDepth 20000 in
theorem kX8_pays_228 : sx_BK sx_tb yX8_pays.cls cX8_pays 15 (some .long) ({ frames := 2, cells := 0, slots := 0, locals := 43 } : Room) false false 0 (fun _ => 0) 228 (bX8_pays_228) := ⟨_, ⟨sn_iload_n dX8_pays_228 rfl, sm_il _⟩, ⟨_, ⟨sn_if_ne dX8_pays_229 (by decide +kernel) rfl, sm_if1 _ _ _⟩, ⟨_, ⟨sn_lload dX8_pays_232, sm_ll _⟩, ⟨_, ⟨sn_goto (len := 3) dX8_pays_234 (by decide +kernel) rfl, sm_go _ _⟩, trivial⟩⟩⟩⟩
set_option maxRecDepth 20000 in
theorem kX8_pays_237 : sx_BK sx_tb yX8_pays.cls cX8_pays 15 (some .long) ({ frames := 2, cells := 0, slots := 0, locals := 43 } : Room) false false 0 (fun _ => 0) 237 (bX8_pays_237) := ⟨_, ⟨sn_lload dX8_pays_237, sm_ll _⟩, ⟨_, ⟨sn_fall (len := 0) rfl rfl, sm_go _ _⟩, trivial⟩⟩
set_option maxRecDepth 20000 in
theorem kX8_pays_239 : sx_BK sx_tb yX8_pays.cls cX8_pays 15 (some .long) ({ frames := 2, cells := 0, slots := 0, locals := 43 } : Room) false false 0 (fun _ => 0) 239 (bX8_pays_239) := ⟨_, ⟨sn_lload dX8_pays_239, sm_ll _⟩, ⟨_, ⟨sn_ldiv dX8_pays_241, sm_ldiv _⟩, ⟨_, ⟨sn_rl (len := 1) dX8_pays_242 rfl, sm_rl⟩, trivial⟩⟩⟩
theorem kX8_pays : ∀ pc, sx_BK sx_tb yX8_pays.cls cX8_pays 15 (some .long) ({ frames := 2, cells := 0, slots := 0, locals := 43 } : Room) false false 0 (fun _ => 0) pc (BX8_pays pc) := fun pc => sx_bk_if (kX8_pays_0) (sx_bk_if (kX8_pays_16) (sx_bk_if (kX8_pays_22) (sx_bk_if (kX8_pays_51) (sx_bk_if (kX8_pays_52) (sx_bk_if (kX8_pays_61) (sx_bk_if (kX8_pays_95) (sx_bk_if (kX8_pays_99) (sx_bk_if (kX8_pays_108) (sx_bk_if (kX8_pays_123) (sx_bk_if (kX8_pays_148) (sx_bk_if (kX8_pays_153) (sx_bk_if (kX8_pays_162) (sx_bk_if (kX8_pays_185) (sx_bk_if (kX8_pays_186) (sx_bk_if (kX8_pays_195) (sx_bk_if (kX8_pays_203) (sx_bk_if (kX8_pays_228) (sx_bk_if (kX8_pays_237) (sx_bk_if (kX8_pays_239) (trivial))))))))))))))))))))
theorem okX8_pays : sx_ok sx_tb BX8_pays (yX8_pays, cX8_pays, 15, some .long, { frames := 2, cells := 0, slots := 0, locals := 43 }) := ⟨by decide, by decide +kernel, false, (fun h => by cases h), kX8_pays⟩
theorem dX8_drawn_0 : decode cX8_drawn 0 = .ok (.aload_n 0, 1) := by decide +kernel
theorem dX8_drawn_1 : decode cX8_drawn 1 = .ok (.iconst 0, 1) := by decide +kernel
theorem dX8_drawn_2 : decode cX8_drawn 2 = .ok (.putfield 44, 3) := by decide +kernel
theorem dX8_drawn_5 : decode cX8_drawn 5 = .ok (.aload_n 0, 1) := by decide +kernel
theorem dX8_drawn_6 : decode cX8_drawn 6 = .ok (.invokevirtual 172, 3) := by decide +kernel
theorem dX8_drawn_9 : decode cX8_drawn 9 = .ok (.ifCond .ne 6, 3) := by decide +kernel
theorem dX8_drawn_12 : decode cX8_drawn 12 = .ok (.ldc 175, 2) := by decide +kernel
theorem dX8_drawn_14 : decode cX8_drawn 14 = .ok (.ireturn, 1) := by decide +kernel
theorem dX8_drawn_15 : decode cX8_drawn 15 = .ok (.iload_n 1, 1) := by decide +kernel
theorem dX8_drawn_16 : decode cX8_drawn 16 = .ok (.i2l, 1) := by decide +kernel
theorem dX8_drawn_17 : decode cX8_drawn 17 = .ok (.lconst 0, 1) := by decide +kernel
theorem dX8_drawn_18 : decode cX8_drawn 18 = .ok (.ldc2_w 195, 3) := by decide +kernel
theorem dX8_drawn_21 : decode cX8_drawn 21 = .ok (.invokestatic 54, 3) := by decide +kernel
theorem dX8_drawn_24 : decode cX8_drawn 24 = .ok (.ifCond .eq 25, 3) := by decide +kernel
theorem dX8_drawn_27 : decode cX8_drawn 27 = .ok (.iload_n 2, 1) := by decide +kernel
theorem dX8_drawn_28 : decode cX8_drawn 28 = .ok (.i2l, 1) := by decide +kernel
theorem dX8_drawn_29 : decode cX8_drawn 29 = .ok (.lconst 1, 1) := by decide +kernel
theorem dX8_drawn_30 : decode cX8_drawn 30 = .ok (.ldc2_w 216, 3) := by decide +kernel
theorem dX8_drawn_33 : decode cX8_drawn 33 = .ok (.invokestatic 54, 3) := by decide +kernel
theorem dX8_drawn_36 : decode cX8_drawn 36 = .ok (.ifCond .eq 13, 3) := by decide +kernel
theorem dX8_drawn_39 : decode cX8_drawn 39 = .ok (.iload_n 3, 1) := by decide +kernel
theorem dX8_drawn_40 : decode cX8_drawn 40 = .ok (.i2l, 1) := by decide +kernel
theorem dX8_drawn_41 : decode cX8_drawn 41 = .ok (.lconst 0, 1) := by decide +kernel
theorem dX8_drawn_42 : decode cX8_drawn 42 = .ok (.lconst 1, 1) := by decide +kernel
theorem dX8_drawn_43 : decode cX8_drawn 43 = .ok (.invokestatic 54, 3) := by decide +kernel
theorem dX8_drawn_46 : decode cX8_drawn 46 = .ok (.ifCond .ne 6, 3) := by decide +kernel
theorem dX8_drawn_49 : decode cX8_drawn 49 = .ok (.ldc 64, 2) := by decide +kernel
theorem dX8_drawn_51 : decode cX8_drawn 51 = .ok (.ireturn, 1) := by decide +kernel
theorem dX8_drawn_52 : decode cX8_drawn 52 = .ok (.aload_n 0, 1) := by decide +kernel
theorem dX8_drawn_53 : decode cX8_drawn 53 = .ok (.invokevirtual 197, 3) := by decide +kernel
theorem dX8_drawn_56 : decode cX8_drawn 56 = .ok (.iload_n 2, 1) := by decide +kernel
theorem dX8_drawn_57 : decode cX8_drawn 57 = .ok (.i2l, 1) := by decide +kernel
theorem dX8_drawn_58 : decode cX8_drawn 58 = .ok (.lstore 4, 2) := by decide +kernel
theorem dX8_drawn_60 : decode cX8_drawn 60 = .ok (.iconst 0, 1) := by decide +kernel
theorem dX8_drawn_61 : decode cX8_drawn 61 = .ok (.istore 6, 2) := by decide +kernel
theorem dX8_drawn_63 : decode cX8_drawn 63 = .ok (.iconst 0, 1) := by decide +kernel
theorem dX8_drawn_64 : decode cX8_drawn 64 = .ok (.istore 7, 2) := by decide +kernel
theorem dX8_drawn_66 : decode cX8_drawn 66 = .ok (.iload 7, 2) := by decide +kernel
theorem dX8_drawn_68 : decode cX8_drawn 68 = .ok (.iload_n 1, 1) := by decide +kernel
theorem dX8_drawn_69 : decode cX8_drawn 69 = .ok (.if_icmp .ge 95, 3) := by decide +kernel
theorem dX8_drawn_72 : decode cX8_drawn 72 = .ok (.lload 4, 2) := by decide +kernel
theorem dX8_drawn_74 : decode cX8_drawn 74 = .ok (.ldc2_w 218, 3) := by decide +kernel
theorem dX8_drawn_77 : decode cX8_drawn 77 = .ok (.lmul, 1) := by decide +kernel
theorem dX8_drawn_78 : decode cX8_drawn 78 = .ok (.ldc2_w 220, 3) := by decide +kernel
theorem dX8_drawn_81 : decode cX8_drawn 81 = .ok (.lrem, 1) := by decide +kernel
theorem dX8_drawn_82 : decode cX8_drawn 82 = .ok (.lstore 4, 2) := by decide +kernel
theorem dX8_drawn_84 : decode cX8_drawn 84 = .ok (.aload_n 0, 1) := by decide +kernel
theorem dX8_drawn_85 : decode cX8_drawn 85 = .ok (.getfield 25, 3) := by decide +kernel
theorem dX8_drawn_88 : decode cX8_drawn 88 = .ok (.bipush 7, 2) := by decide +kernel
theorem dX8_drawn_90 : decode cX8_drawn 90 = .ok (.lload 4, 2) := by decide +kernel
theorem dX8_drawn_92 : decode cX8_drawn 92 = .ok (.ldc2_w 212, 3) := by decide +kernel
theorem dX8_drawn_95 : decode cX8_drawn 95 = .ok (.lrem, 1) := by decide +kernel
theorem dX8_drawn_96 : decode cX8_drawn 96 = .ok (.lconst 0, 1) := by decide +kernel
theorem dX8_drawn_97 : decode cX8_drawn 97 = .ok (.lcmp, 1) := by decide +kernel
theorem dX8_drawn_98 : decode cX8_drawn 98 = .ok (.ifCond .ne 25, 3) := by decide +kernel
theorem dX8_drawn_101 : decode cX8_drawn 101 = .ok (.aload_n 0, 1) := by decide +kernel
theorem dX8_drawn_102 : decode cX8_drawn 102 = .ok (.getfield 25, 3) := by decide +kernel
theorem dX8_drawn_105 : decode cX8_drawn 105 = .ok (.bipush 7, 2) := by decide +kernel
theorem dX8_drawn_107 : decode cX8_drawn 107 = .ok (.iaload, 1) := by decide +kernel
theorem dX8_drawn_108 : decode cX8_drawn 108 = .ok (.ifCond .ne 15, 3) := by decide +kernel
theorem dX8_drawn_111 : decode cX8_drawn 111 = .ok (.iconst 1, 1) := by decide +kernel
theorem dX8_drawn_112 : decode cX8_drawn 112 = .ok (.lload 4, 2) := by decide +kernel
theorem dX8_drawn_114 : decode cX8_drawn 114 = .ok (.ldc2_w 208, 3) := by decide +kernel
theorem dX8_drawn_117 : decode cX8_drawn 117 = .ok (.lrem, 1) := by decide +kernel
theorem dX8_drawn_118 : decode cX8_drawn 118 = .ok (.l2i, 1) := by decide +kernel
theorem dX8_drawn_119 : decode cX8_drawn 119 = .ok (.iadd, 1) := by decide +kernel
theorem dX8_drawn_120 : decode cX8_drawn 120 = .ok (.goto 10, 3) := by decide +kernel
theorem dX8_drawn_123 : decode cX8_drawn 123 = .ok (.aload_n 0, 1) := by decide +kernel
theorem dX8_drawn_124 : decode cX8_drawn 124 = .ok (.getfield 25, 3) := by decide +kernel
theorem dX8_drawn_127 : decode cX8_drawn 127 = .ok (.bipush 7, 2) := by decide +kernel
theorem dX8_drawn_129 : decode cX8_drawn 129 = .ok (.iaload, 1) := by decide +kernel
theorem dX8_drawn_130 : decode cX8_drawn 130 = .ok (.iastore, 1) := by decide +kernel
theorem dX8_drawn_131 : decode cX8_drawn 131 = .ok (.aload_n 0, 1) := by decide +kernel
theorem dX8_drawn_132 : decode cX8_drawn 132 = .ok (.getfield 25, 3) := by decide +kernel
theorem dX8_drawn_135 : decode cX8_drawn 135 = .ok (.invokestatic 168, 3) := by decide +kernel
theorem dX8_drawn_138 : decode cX8_drawn 138 = .ok (.iload 6, 2) := by decide +kernel
theorem dX8_drawn_140 : decode cX8_drawn 140 = .ok (.aload_n 0, 1) := by decide +kernel
theorem dX8_drawn_141 : decode cX8_drawn 141 = .ok (.getfield 25, 3) := by decide +kernel
theorem dX8_drawn_144 : decode cX8_drawn 144 = .ok (.bipush 9, 2) := by decide +kernel
theorem dX8_drawn_146 : decode cX8_drawn 146 = .ok (.iaload, 1) := by decide +kernel
theorem dX8_drawn_147 : decode cX8_drawn 147 = .ok (.ifCond .ne 7, 3) := by decide +kernel
theorem dX8_drawn_150 : decode cX8_drawn 150 = .ok (.iconst 1, 1) := by decide +kernel
theorem dX8_drawn_151 : decode cX8_drawn 151 = .ok (.goto 4, 3) := by decide +kernel
theorem dX8_drawn_154 : decode cX8_drawn 154 = .ok (.iconst 0, 1) := by decide +kernel
theorem dX8_drawn_155 : decode cX8_drawn 155 = .ok (.iadd, 1) := by decide +kernel
theorem dX8_drawn_156 : decode cX8_drawn 156 = .ok (.istore 6, 2) := by decide +kernel
theorem dX8_drawn_158 : decode cX8_drawn 158 = .ok (.iinc 7 1, 3) := by decide +kernel
theorem dX8_drawn_161 : decode cX8_drawn 161 = .ok (.goto (-95), 3) := by decide +kernel
theorem dX8_drawn_164 : decode cX8_drawn 164 = .ok (.iload_n 3, 1) := by decide +kernel
theorem dX8_drawn_165 : decode cX8_drawn 165 = .ok (.ifCond .ne 12, 3) := by decide +kernel
theorem dX8_drawn_168 : decode cX8_drawn 168 = .ok (.aload_n 0, 1) := by decide +kernel
theorem dX8_drawn_169 : decode cX8_drawn 169 = .ok (.getfield 25, 3) := by decide +kernel
theorem dX8_drawn_172 : decode cX8_drawn 172 = .ok (.iconst 1, 1) := by decide +kernel
theorem dX8_drawn_173 : decode cX8_drawn 173 = .ok (.iaload, 1) := by decide +kernel
theorem dX8_drawn_174 : decode cX8_drawn 174 = .ok (.goto 5, 3) := by decide +kernel
theorem dX8_drawn_177 : decode cX8_drawn 177 = .ok (.iload 6, 2) := by decide +kernel
theorem dX8_drawn_179 : decode cX8_drawn 179 = .ok (.ireturn, 1) := by decide +kernel
def bX8_drawn_0 : List sx_S := [si_al 0, si_const 0, si_put 7 0 0, si_al 0, si_cv 7 145 0 0 0 0 0, si_if1 (fun x => ¬ x = 0) 15 [true, true, true, true, false, false, false, false], si_const (-1000002), si_ri]
def bX8_drawn_15 : List sx_S := [si_il 1, si_i2l, si_lconst 0, si_lconst (lN 60), si_cs 124 3 0 0 0 0, si_if1 (fun x => x = 0) 49 [false, false, false, false, false, false, false, false], si_il 2, si_i2l, si_lconst 1, si_lconst (lN 999999), si_cs 124 3 0 0 0 0, si_if1 (fun x => x = 0) 49 [false, false, false, false, false, false, false, false], si_il 3, si_i2l, si_lconst 0, si_lconst 1, si_cs 124 3 0 0 0 0, si_if1 (fun x => ¬ x = 0) 52 [true, true, true, true, false, false, false, false], si_go 49 [false, false, false, false, false, false, false, false]]
def bX8_drawn_49 : List sx_S := [si_const (-1000001), si_ri]
def bX8_drawn_52 : List sx_S := [si_al 0, si_cv 7 155 0 0 0 0 0, si_il 2, si_i2l, si_ls 4, si_const 0, si_is 6, si_const 0, si_is 7, si_go 66 [true, true, false, true, true, false, true, true]]
def bX8_drawn_66 : List sx_S := [si_il 7, si_il 1, si_if2 (fun x y => y ≤ x) 164 [true, false, false, true, false, false, true, false], si_ll 4, si_lconst (lN 16807), si_lbin (fun x y => x * y), si_lconst (lN 2147483647), si_ldiv (fun x y => x - x / y * y), si_ls 4, si_al 0, si_get 7 7, si_const (nI 7), si_ll 4, si_lconst (lN 10), si_ldiv (fun x y => x - x / y * y), si_lconst 0, si_lcmp, si_if1 (fun x => ¬ x = 0) 123 [true, true, false, true, true, false, true, true], si_al 0, si_get 7 7, si_const (nI 7), si_iald, si_if1 (fun x => ¬ x = 0) 123 [true, true, false, true, true, false, true, true], si_const 1, si_ll 4, si_lconst (lN 5), si_ldiv (fun x y => x - x / y * y), si_l2i, si_bin (fun x y => x + y), si_go 130 [true, true, false, true, true, false, true, true]]
def bX8_drawn_123 : List sx_S := [si_al 0, si_get 7 7, si_const (nI 7), si_iald, si_go 130 [true, true, false, true, true, false, true, true]]
def bX8_drawn_130 : List sx_S := [si_iast, si_al 0, si_get 7 7, si_cs 153 1 0 0 0 0, si_il 6, si_al 0, si_get 7 7, si_const (nI 9), si_iald, si_if1 (fun x => ¬ x = 0) 154 [true, true, false, true, true, false, false, true], si_const 1, si_go 155 [true, true, false, true, true, false, false, true]]
def bX8_drawn_154 : List sx_S := [si_const 0, si_go 155 [true, true, false, true, true, false, false, true]]
def bX8_drawn_155 : List sx_S := [si_bin (fun x y => x + y), si_is 6, si_inc 7 1, si_go 66 [true, true, false, true, true, false, true, true]]
def bX8_drawn_164 : List sx_S := [si_il 3, si_if1 (fun x => ¬ x = 0) 177 [false, false, false, false, false, false, true, false], si_al 0, si_get 7 7, si_const 1, si_iald, si_go 179 [false, false, false, false, false, false, false, false]]
def bX8_drawn_177 : List sx_S := [si_il 6, si_go 179 [false, false, false, false, false, false, false, false]]
def bX8_drawn_179 : List sx_S := [si_ri]
def BX8_drawn : Nat → List sx_S := fun pc => if pc = 0 then bX8_drawn_0 else if pc = 15 then bX8_drawn_15 else if pc = 49 then bX8_drawn_49 else if pc = 52 then bX8_drawn_52 else if pc = 66 then bX8_drawn_66 else if pc = 123 then bX8_drawn_123 else if pc = 130 then bX8_drawn_130 else if pc = 154 then bX8_drawn_154 else if pc = 155 then bX8_drawn_155 else if pc = 164 then bX8_drawn_164 else if pc = 177 then bX8_drawn_177 else if pc = 179 then bX8_drawn_179 else []
set_option maxRecDepth 20000 in
theorem kX8_drawn_0 : sx_BK sx_tb yX8_drawn.cls cX8_drawn 8 (some .int) ({ frames := 4, cells := 0, slots := 0, locals := 89 } : Room) false false 0 (fun _ => 0) 0 (bX8_drawn_0) := ⟨_, ⟨sn_aload_n dX8_drawn_0 rfl, sm_al _⟩, ⟨_, ⟨sn_iconst dX8_drawn_1 (by decide +kernel), sm_const _⟩, ⟨_, ⟨sn_put (C := RX8) (T := TX8) (N := 23) dX8_drawn_2 rfl zinX8 tyX8_ok nmX8 (Nat.le_of_ble_eq_true rfl) zw_3_182 rfl (tyX8_ok 0 (Nat.le_of_ble_eq_true rfl)) trivial, sm_put _ _ _⟩, ⟨_, ⟨sn_aload_n dX8_drawn_5 rfl, sm_al _⟩, ⟨_, ⟨sn_cv_z (N := 23) (T := TX8) ztb_X8_isThere dX8_drawn_6 rfl rfl zw_4_110 zw_4_112 zw_0_45 zw_1_8 zw_4_113 zmh_X8 zpd_X8_isThere (Nat.le_of_ble_eq_true rfl) (Nat.le_of_ble_eq_true rfl) rfl rfl, sm_cv _ _ _ _ _ _ _⟩, ⟨_, ⟨sn_if_ne dX8_drawn_9 (by decide +kernel) rfl, sm_if1 _ _ _⟩, ⟨_, ⟨sn_ldc dX8_drawn_12 zw_4_114, sm_const _⟩, ⟨_, ⟨sn_ri (len := 1) dX8_drawn_14 rfl, sm_ri⟩, trivial⟩⟩⟩⟩⟩⟩⟩⟩
set_option maxRecDepth 20000 in
theorem kX8_drawn_15 : sx_BK sx_tb yX8_drawn.cls cX8_drawn 8 (some .int) ({ frames := 4, cells := 0, slots := 0, locals := 89 } : Room) false false 0 (fun _ => 0) 15 (bX8_drawn_15) := ⟨_, ⟨sn_iload_n dX8_drawn_15 rfl, sm_il _⟩, ⟨_, ⟨sn_i2l dX8_drawn_16, sm_i2l⟩, ⟨_, ⟨sn_lconst dX8_drawn_17 (by decide +kernel), sm_lconst _⟩, ⟨_, ⟨sn_ldc2 dX8_drawn_18 zw_4_185, sm_lconst _⟩, ⟨_, ⟨sn_cs_z ztb_X8_in dX8_drawn_21 zw_4_21 zw_4_22 zw_1_8 zw_4_23 zmh_X8 zpd_X8_in (Nat.le_of_ble_eq_true rfl) (Nat.le_of_ble_eq_true rfl) rfl rfl, sm_cs _ _ _ _ _ _⟩, ⟨_, ⟨sn_if_eq dX8_drawn_24 (by decide +kernel) rfl, sm_if1 _ _ _⟩, ⟨_, ⟨sn_iload_n dX8_drawn_27 rfl, sm_il _⟩, ⟨_, ⟨sn_i2l dX8_drawn_28, sm_i2l⟩, ⟨_, ⟨sn_lconst dX8_drawn_29 (by decide +kernel), sm_lconst _⟩, ⟨_, ⟨sn_ldc2 dX8_drawn_30 zw_5_5, sm_lconst _⟩, ⟨_, ⟨sn_cs_z ztb_X8_in dX8_drawn_33 zw_4_21 zw_4_22 zw_1_8 zw_4_23 zmh_X8 zpd_X8_in (Nat.le_of_ble_eq_true rfl) (Nat.le_of_ble_eq_true rfl) rfl rfl, sm_cs _ _ _ _ _ _⟩, ⟨_, ⟨sn_if_eq dX8_drawn_36 (by decide +kernel) rfl, sm_if1 _ _ _⟩, ⟨_, ⟨sn_iload_n dX8_drawn_39 rfl, sm_il _⟩, ⟨_, ⟨sn_i2l dX8_drawn_40, sm_i2l⟩, ⟨_, ⟨sn_lconst dX8_drawn_41 (by decide +kernel), sm_lconst _⟩, ⟨_, ⟨sn_lconst dX8_drawn_42 (by decide +kernel), sm_lconst _⟩, ⟨_, ⟨sn_cs_z ztb_X8_in dX8_drawn_43 zw_4_21 zw_4_22 zw_1_8 zw_4_23 zmh_X8 zpd_X8_in (Nat.le_of_ble_eq_true rfl) (Nat.le_of_ble_eq_true rfl) rfl rfl, sm_cs _ _ _ _ _ _⟩, ⟨_, ⟨sn_if_ne dX8_drawn_46 (by decide +kernel) rfl, sm_if1 _ _ _⟩, ⟨_, ⟨sn_fall (len := 0) rfl rfl, sm_go _ _⟩, trivial⟩⟩⟩⟩⟩⟩⟩⟩⟩⟩⟩⟩⟩⟩⟩⟩⟩⟩⟩
set_option maxRecDepth 20000 in
theorem kX8_drawn_49 : sx_BK sx_tb yX8_drawn.cls cX8_drawn 8 (some .int) ({ frames := 4, cells := 0, slots := 0, locals := 89 } : Room) false false 0 (fun _ => 0) 49 (bX8_drawn_49) := ⟨_, ⟨sn_ldc dX8_drawn_49 zw_4_25, sm_const _⟩, ⟨_, ⟨sn_ri (len := 1) dX8_drawn_51 rfl, sm_ri⟩, trivial⟩⟩
set_option maxRecDepth 20000 in
theorem kX8_drawn_52 : sx_BK sx_tb yX8_drawn.cls cX8_drawn 8 (some .int) ({ frames := 4, cells := 0, slots := 0, locals := 89 } : Room) false false 0 (fun _ => 0) 52 (bX8_drawn_52) := ⟨_, ⟨sn_aload_n dX8_drawn_52 rfl, sm_al _⟩, ⟨_, ⟨sn_cv_v (N := 23) (T := TX8) ztb_X8_layThen dX8_drawn_53 rfl rfl zw_4_186 zw_4_188 zw_0_48 zw_1_8 zw_4_189 zmh_X8 zpd_X8_layThen (Nat.le_of_ble_eq_true rfl) (Nat.le_of_ble_eq_true rfl) rfl rfl, sm_cv _ _ _ _ _ _ _⟩, ⟨_, ⟨sn_iload_n dX8_drawn_56 rfl, sm_il _⟩, ⟨_, ⟨sn_i2l dX8_drawn_57, sm_i2l⟩, ⟨_, ⟨sn_lstore dX8_drawn_58 (Nat.le_of_ble_eq_true rfl), sm_ls _⟩, ⟨_, ⟨sn_iconst dX8_drawn_60 (by decide +kernel), sm_const _⟩, ⟨_, ⟨sn_istore dX8_drawn_61 (Nat.le_of_ble_eq_true rfl), sm_is _⟩, ⟨_, ⟨sn_iconst dX8_drawn_63 (by decide +kernel), sm_const _⟩, ⟨_, ⟨sn_istore dX8_drawn_64 (Nat.le_of_ble_eq_true rfl), sm_is _⟩, ⟨_, ⟨sn_fall (len := 0) rfl rfl, sm_go _ _⟩, trivial⟩⟩⟩⟩⟩⟩⟩⟩⟩⟩
set_option maxRecDepth 20000 in
theorem kX8_drawn_66 : sx_BK sx_tb yX8_drawn.cls cX8_drawn 8 (some .int) ({ frames := 4, cells := 0, slots := 0, locals := 89 } : Room) false false 0 (fun _ => 0) 66 (bX8_drawn_66) := ⟨_, ⟨sn_iload dX8_drawn_66, sm_il _⟩, ⟨_, ⟨sn_iload_n dX8_drawn_68 rfl, sm_il _⟩, ⟨_, ⟨sn_ic_ge dX8_drawn_69 (by decide +kernel) rfl, sm_if2 _ _ _⟩, ⟨_, ⟨sn_lload dX8_drawn_72, sm_ll _⟩, ⟨_, ⟨sn_ldc2 dX8_drawn_74 zw_5_6, sm_lconst _⟩, ⟨_, ⟨sn_lmul dX8_drawn_77, sm_lbin _⟩, ⟨_, ⟨sn_ldc2 dX8_drawn_78 zw_5_7, sm_lconst _⟩, ⟨_, ⟨sn_lrem dX8_drawn_81, sm_ldiv _⟩, ⟨_, ⟨sn_lstore dX8_drawn_82 (Nat.le_of_ble_eq_true rfl), sm_ls _⟩, ⟨_, ⟨sn_aload_n dX8_drawn_84 rfl, sm_al _⟩, ⟨_, ⟨sn_get (C := RX8) (T := TX8) (N := 23) dX8_drawn_85 rfl zinX8 (Nat.le_of_ble_eq_true rfl) zw_3_189, sm_get _ _⟩, ⟨_, ⟨sn_bipush dX8_drawn_88 (by decide +kernel), sm_const _⟩, ⟨_, ⟨sn_lload dX8_drawn_90, sm_ll _⟩, ⟨_, ⟨sn_ldc2 dX8_drawn_92 zw_4_239, sm_lconst _⟩, ⟨_, ⟨sn_lrem dX8_drawn_95, sm_ldiv _⟩, ⟨_, ⟨sn_lconst dX8_drawn_96 (by decide +kernel), sm_lconst _⟩, ⟨_, ⟨sn_lcmp dX8_drawn_97, sm_lcmp⟩, ⟨_, ⟨sn_if_ne dX8_drawn_98 (by decide +kernel) rfl, sm_if1 _ _ _⟩, ⟨_, ⟨sn_aload_n dX8_drawn_101 rfl, sm_al _⟩, ⟨_, ⟨sn_get (C := RX8) (T := TX8) (N := 23) dX8_drawn_102 rfl zinX8 (Nat.le_of_ble_eq_true rfl) zw_3_189, sm_get _ _⟩, ⟨_, ⟨sn_bipush dX8_drawn_105 (by decide +kernel), sm_const _⟩, ⟨_, ⟨sn_iald dX8_drawn_107, sm_iald⟩, ⟨_, ⟨sn_if_ne dX8_drawn_108 (by decide +kernel) rfl, sm_if1 _ _ _⟩, ⟨_, ⟨sn_iconst dX8_drawn_111 (by decide +kernel), sm_const _⟩, ⟨_, ⟨sn_lload dX8_drawn_112, sm_ll _⟩, ⟨_, ⟨sn_ldc2 dX8_drawn_114 zw_4_233, sm_lconst _⟩, ⟨_, ⟨sn_lrem dX8_drawn_117, sm_ldiv _⟩, ⟨_, ⟨sn_l2i dX8_drawn_118, sm_l2i⟩, ⟨_, ⟨sn_iadd dX8_drawn_119, sm_bin _⟩, ⟨_, ⟨sn_goto (len := 3) dX8_drawn_120 (by decide +kernel) rfl, sm_go _ _⟩, trivial⟩⟩⟩⟩⟩⟩⟩⟩⟩⟩⟩⟩⟩⟩⟩⟩⟩⟩⟩⟩⟩⟩⟩⟩⟩⟩⟩⟩⟩⟩
set_option maxRecDepth 20000 in
theorem kX8_drawn_123 : sx_BK sx_tb yX8_drawn.cls cX8_drawn 8 (some .int) ({ frames := 4, cells := 0, slots := 0, locals := 89 } : Room) false false 0 (fun _ => 0) 123 (bX8_drawn_123) := ⟨_, ⟨sn_aload_n dX8_drawn_123 rfl, sm_al _⟩, ⟨_, ⟨sn_get (C := RX8) (T := TX8) (N := 23) dX8_drawn_124 rfl zinX8 (Nat.le_of_ble_eq_true rfl) zw_3_189, sm_get _ _⟩, ⟨_, ⟨sn_bipush dX8_drawn_127 (by decide +kernel), sm_const _⟩, ⟨_, ⟨sn_iald dX8_drawn_129, sm_iald⟩, ⟨_, ⟨sn_fall (len := 0) rfl rfl, sm_go _ _⟩, trivial⟩⟩⟩⟩⟩
set_option maxRecDepth 20000 in
theorem kX8_drawn_130 : sx_BK sx_tb yX8_drawn.cls cX8_drawn 8 (some .int) ({ frames := 4, cells := 0, slots := 0, locals := 89 } : Room) false false 0 (fun _ => 0) 130 (bX8_drawn_130) := ⟨_, ⟨sn_iast dX8_drawn_130, sm_iast⟩, ⟨_, ⟨sn_aload_n dX8_drawn_131 rfl, sm_al _⟩, ⟨_, ⟨sn_get (C := RX8) (T := TX8) (N := 23) dX8_drawn_132 rfl zinX8 (Nat.le_of_ble_eq_true rfl) zw_3_189, sm_get _ _⟩, ⟨_, ⟨sn_cs_v ztb_X8_week dX8_drawn_135 zw_4_120 zw_4_121 zw_1_8 zw_4_122 zmh_X8 zpd_X8_week (Nat.le_of_ble_eq_true rfl) (Nat.le_of_ble_eq_true rfl) rfl rfl, sm_cs _ _ _ _ _ _⟩, ⟨_, ⟨sn_iload dX8_drawn_138, sm_il _⟩, ⟨_, ⟨sn_aload_n dX8_drawn_140 rfl, sm_al _⟩, ⟨_, ⟨sn_get (C := RX8) (T := TX8) (N := 23) dX8_drawn_141 rfl zinX8 (Nat.le_of_ble_eq_true rfl) zw_3_189, sm_get _ _⟩, ⟨_, ⟨sn_bipush dX8_drawn_144 (by decide +kernel), sm_const _⟩, ⟨_, ⟨sn_iald dX8_drawn_146, sm_iald⟩, ⟨_, ⟨sn_if_ne dX8_drawn_147 (by decide +kernel) rfl, sm_if1 _ _ _⟩, ⟨_, ⟨sn_iconst dX8_drawn_150 (by decide +kernel), sm_const _⟩, ⟨_, ⟨sn_goto (len := 3) dX8_drawn_151 (by decide +kernel) rfl, sm_go _ _⟩, trivial⟩⟩⟩⟩⟩⟩⟩⟩⟩⟩⟩⟩
set_option maxRecDepth 20000 in
theorem kX8_drawn_154 : sx_BK sx_tb yX8_drawn.cls cX8_drawn 8 (some .int) ({ frames := 4, cells := 0, slots := 0, locals := 89 } : Room) false false 0 (fun _ => 0) 154 (bX8_drawn_154) := ⟨_, ⟨sn_iconst dX8_drawn_154 (by decide +kernel), sm_const _⟩, ⟨_, ⟨sn_fall (len := 0) rfl rfl, sm_go _ _⟩, trivial⟩⟩
set_option maxRecDepth 20000 in
theorem kX8_drawn_155 : sx_BK sx_tb yX8_drawn.cls cX8_drawn 8 (some .int) ({ frames := 4, cells := 0, slots := 0, locals := 89 } : Room) false false 0 (fun _ => 0) 155 (bX8_drawn_155) := ⟨_, ⟨sn_iadd dX8_drawn_155, sm_bin _⟩, ⟨_, ⟨sn_istore dX8_drawn_156 (Nat.le_of_ble_eq_true rfl), sm_is _⟩, ⟨_, ⟨sn_iinc dX8_drawn_158 (by decide +kernel) (Nat.le_of_ble_eq_true rfl), sm_inc _ _⟩, ⟨_, ⟨sn_goto (len := 3) dX8_drawn_161 (by decide +kernel) rfl, sm_go _ _⟩, trivial⟩⟩⟩⟩
set_option maxRecDepth 20000 in
theorem kX8_drawn_164 : sx_BK sx_tb yX8_drawn.cls cX8_drawn 8 (some .int) ({ frames := 4, cells := 0, slots := 0, locals := 89 } : Room) false false 0 (fun _ => 0) 164 (bX8_drawn_164) := ⟨_, ⟨sn_iload_n dX8_drawn_164 rfl, sm_il _⟩, ⟨_, ⟨sn_if_ne dX8_drawn_165 (by decide +kernel) rfl, sm_if1 _ _ _⟩, ⟨_, ⟨sn_aload_n dX8_drawn_168 rfl, sm_al _⟩, ⟨_, ⟨sn_get (C := RX8) (T := TX8) (N := 23) dX8_drawn_169 rfl zinX8 (Nat.le_of_ble_eq_true rfl) zw_3_189, sm_get _ _⟩, ⟨_, ⟨sn_iconst dX8_drawn_172 (by decide +kernel), sm_const _⟩, ⟨_, ⟨sn_iald dX8_drawn_173, sm_iald⟩, ⟨_, ⟨sn_goto (len := 3) dX8_drawn_174 (by decide +kernel) rfl, sm_go _ _⟩, trivial⟩⟩⟩⟩⟩⟩⟩
set_option maxRecDepth 20000 in
theorem kX8_drawn_177 : sx_BK sx_tb yX8_drawn.cls cX8_drawn 8 (some .int) ({ frames := 4, cells := 0, slots := 0, locals := 89 } : Room) false false 0 (fun _ => 0) 177 (bX8_drawn_177) := ⟨_, ⟨sn_iload dX8_drawn_177, sm_il _⟩, ⟨_, ⟨sn_fall (len := 0) rfl rfl, sm_go _ _⟩, trivial⟩⟩
set_option maxRecDepth 20000 in
theorem kX8_drawn_179 : sx_BK sx_tb yX8_drawn.cls cX8_drawn 8 (some .int) ({ frames := 4, cells := 0, slots := 0, locals := 89 } : Room) false false 0 (fun _ => 0) 179 (bX8_drawn_179) := ⟨_, ⟨sn_ri (len := 1) dX8_drawn_179 rfl, sm_ri⟩, trivial⟩
theorem kX8_drawn : ∀ pc, sx_BK sx_tb yX8_drawn.cls cX8_drawn 8 (some .int) ({ frames := 4, cells := 0, slots := 0, locals := 89 } : Room) false false 0 (fun _ => 0) pc (BX8_drawn pc) := fun pc => sx_bk_if (kX8_drawn_0) (sx_bk_if (kX8_drawn_15) (sx_bk_if (kX8_drawn_49) (sx_bk_if (kX8_drawn_52) (sx_bk_if (kX8_drawn_66) (sx_bk_if (kX8_drawn_123) (sx_bk_if (kX8_drawn_130) (sx_bk_if (kX8_drawn_154) (sx_bk_if (kX8_drawn_155) (sx_bk_if (kX8_drawn_164) (sx_bk_if (kX8_drawn_177) (sx_bk_if (kX8_drawn_179) (trivial))))))))))))
theorem okX8_drawn : sx_ok sx_tb BX8_drawn (yX8_drawn, cX8_drawn, 8, some .int, { frames := 4, cells := 0, slots := 0, locals := 89 }) := ⟨by decide, by decide +kernel, false, (fun h => by cases h), kX8_drawn⟩
theorem dX8_image_0 : decode cX8_image 0 = .ok (.aload_n 0, 1) := by decide +kernel
theorem dX8_image_1 : decode cX8_image 1 = .ok (.iconst 0, 1) := by decide +kernel
theorem dX8_image_2 : decode cX8_image 2 = .ok (.putfield 44, 3) := by decide +kernel
theorem dX8_image_5 : decode cX8_image 5 = .ok (.iload_n 1, 1) := by decide +kernel
theorem dX8_image_6 : decode cX8_image 6 = .ok (.i2l, 1) := by decide +kernel
theorem dX8_image_7 : decode cX8_image 7 = .ok (.lconst 0, 1) := by decide +kernel
theorem dX8_image_8 : decode cX8_image 8 = .ok (.lconst 1, 1) := by decide +kernel
theorem dX8_image_9 : decode cX8_image 9 = .ok (.invokestatic 54, 3) := by decide +kernel
theorem dX8_image_12 : decode cX8_image 12 = .ok (.ifCond .ne 6, 3) := by decide +kernel
theorem dX8_image_15 : decode cX8_image 15 = .ok (.ldc 64, 2) := by decide +kernel
theorem dX8_image_17 : decode cX8_image 17 = .ok (.ireturn, 1) := by decide +kernel
theorem dX8_image_18 : decode cX8_image 18 = .ok (.aload_n 0, 1) := by decide +kernel
theorem dX8_image_19 : decode cX8_image 19 = .ok (.invokevirtual 172, 3) := by decide +kernel
theorem dX8_image_22 : decode cX8_image 22 = .ok (.ifCond .ne 6, 3) := by decide +kernel
theorem dX8_image_25 : decode cX8_image 25 = .ok (.ldc 175, 2) := by decide +kernel
theorem dX8_image_27 : decode cX8_image 27 = .ok (.ireturn, 1) := by decide +kernel
theorem dX8_image_28 : decode cX8_image 28 = .ok (.iconst 0, 1) := by decide +kernel
theorem dX8_image_29 : decode cX8_image 29 = .ok (.istore_n 2, 1) := by decide +kernel
theorem dX8_image_30 : decode cX8_image 30 = .ok (.iload_n 2, 1) := by decide +kernel
theorem dX8_image_31 : decode cX8_image 31 = .ok (.bipush 64, 2) := by decide +kernel
theorem dX8_image_33 : decode cX8_image 33 = .ok (.if_icmp .ge 26, 3) := by decide +kernel
theorem dX8_image_36 : decode cX8_image 36 = .ok (.aload_n 0, 1) := by decide +kernel
theorem dX8_image_37 : decode cX8_image 37 = .ok (.getfield 38, 3) := by decide +kernel
theorem dX8_image_40 : decode cX8_image 40 = .ok (.bipush 64, 2) := by decide +kernel
theorem dX8_image_42 : decode cX8_image 42 = .ok (.iload_n 1, 1) := by decide +kernel
theorem dX8_image_43 : decode cX8_image 43 = .ok (.imul, 1) := by decide +kernel
theorem dX8_image_44 : decode cX8_image 44 = .ok (.iload_n 2, 1) := by decide +kernel
theorem dX8_image_45 : decode cX8_image 45 = .ok (.iadd, 1) := by decide +kernel
theorem dX8_image_46 : decode cX8_image 46 = .ok (.aload_n 0, 1) := by decide +kernel
theorem dX8_image_47 : decode cX8_image 47 = .ok (.getfield 19, 3) := by decide +kernel
theorem dX8_image_50 : decode cX8_image 50 = .ok (.iload_n 2, 1) := by decide +kernel
theorem dX8_image_51 : decode cX8_image 51 = .ok (.iaload, 1) := by decide +kernel
theorem dX8_image_52 : decode cX8_image 52 = .ok (.iastore, 1) := by decide +kernel
theorem dX8_image_53 : decode cX8_image 53 = .ok (.iinc 2 1, 3) := by decide +kernel
theorem dX8_image_56 : decode cX8_image 56 = .ok (.goto (-26), 3) := by decide +kernel
theorem dX8_image_59 : decode cX8_image 59 = .ok (.aload_n 0, 1) := by decide +kernel
theorem dX8_image_60 : decode cX8_image 60 = .ok (.getfield 34, 3) := by decide +kernel
theorem dX8_image_63 : decode cX8_image 63 = .ok (.iload_n 1, 1) := by decide +kernel
theorem dX8_image_64 : decode cX8_image 64 = .ok (.iconst 1, 1) := by decide +kernel
theorem dX8_image_65 : decode cX8_image 65 = .ok (.bastore, 1) := by decide +kernel
theorem dX8_image_66 : decode cX8_image 66 = .ok (.iconst 1, 1) := by decide +kernel
theorem dX8_image_67 : decode cX8_image 67 = .ok (.ireturn, 1) := by decide +kernel
def bX8_image_0 : List sx_S := [si_al 0, si_const 0, si_put 7 0 0, si_il 1, si_i2l, si_lconst 0, si_lconst 1, si_cs 124 3 0 0 0 0, si_if1 (fun x => ¬ x = 0) 18 [true, true, false], si_const (-1000001), si_ri]
def bX8_image_18 : List sx_S := [si_al 0, si_cv 7 145 0 0 0 0 0, si_if1 (fun x => ¬ x = 0) 28 [true, true, false], si_const (-1000002), si_ri]
def bX8_image_28 : List sx_S := [si_const 0, si_is 2, si_go 30 [true, true, true]]
def bX8_image_30 : List sx_S := [si_il 2, si_const (nI 64), si_if2 (fun x y => y ≤ x) 59 [true, true, false], si_al 0, si_get 7 20, si_const (nI 64), si_il 1, si_bin (fun x y => x * y), si_il 2, si_bin (fun x y => x + y), si_al 0, si_get 7 5, si_il 2, si_iald, si_iast, si_inc 2 1, si_go 30 [true, true, true]]
def bX8_image_59 : List sx_S := [si_al 0, si_get 7 19, si_il 1, si_const 1, si_zast, si_const 1, si_ri]
def BX8_image : Nat → List sx_S := fun pc => if pc = 0 then bX8_image_0 else if pc = 18 then bX8_image_18 else if pc = 28 then bX8_image_28 else if pc = 30 then bX8_image_30 else if pc = 59 then bX8_image_59 else []
set_option maxRecDepth 20000 in
theorem kX8_image_0 : sx_BK sx_tb yX8_image.cls cX8_image 3 (some .int) ({ frames := 1, cells := 0, slots := 0, locals := 25 } : Room) false false 0 (fun _ => 0) 0 (bX8_image_0) := ⟨_, ⟨sn_aload_n dX8_image_0 rfl, sm_al _⟩, ⟨_, ⟨sn_iconst dX8_image_1 (by decide +kernel), sm_const _⟩, ⟨_, ⟨sn_put (C := RX8) (T := TX8) (N := 23) dX8_image_2 rfl zinX8 tyX8_ok nmX8 (Nat.le_of_ble_eq_true rfl) zw_3_182 rfl (tyX8_ok 0 (Nat.le_of_ble_eq_true rfl)) trivial, sm_put _ _ _⟩, ⟨_, ⟨sn_iload_n dX8_image_5 rfl, sm_il _⟩, ⟨_, ⟨sn_i2l dX8_image_6, sm_i2l⟩, ⟨_, ⟨sn_lconst dX8_image_7 (by decide +kernel), sm_lconst _⟩, ⟨_, ⟨sn_lconst dX8_image_8 (by decide +kernel), sm_lconst _⟩, ⟨_, ⟨sn_cs_z ztb_X8_in dX8_image_9 zw_4_21 zw_4_22 zw_1_8 zw_4_23 zmh_X8 zpd_X8_in (Nat.le_of_ble_eq_true rfl) (Nat.le_of_ble_eq_true rfl) rfl rfl, sm_cs _ _ _ _ _ _⟩, ⟨_, ⟨sn_if_ne dX8_image_12 (by decide +kernel) rfl, sm_if1 _ _ _⟩, ⟨_, ⟨sn_ldc dX8_image_15 zw_4_25, sm_const _⟩, ⟨_, ⟨sn_ri (len := 1) dX8_image_17 rfl, sm_ri⟩, trivial⟩⟩⟩⟩⟩⟩⟩⟩⟩⟩⟩
set_option maxRecDepth 20000 in
theorem kX8_image_18 : sx_BK sx_tb yX8_image.cls cX8_image 3 (some .int) ({ frames := 1, cells := 0, slots := 0, locals := 25 } : Room) false false 0 (fun _ => 0) 18 (bX8_image_18) := ⟨_, ⟨sn_aload_n dX8_image_18 rfl, sm_al _⟩, ⟨_, ⟨sn_cv_z (N := 23) (T := TX8) ztb_X8_isThere dX8_image_19 rfl rfl zw_4_110 zw_4_112 zw_0_45 zw_1_8 zw_4_113 zmh_X8 zpd_X8_isThere (Nat.le_of_ble_eq_true rfl) (Nat.le_of_ble_eq_true rfl) rfl rfl, sm_cv _ _ _ _ _ _ _⟩, ⟨_, ⟨sn_if_ne dX8_image_22 (by decide +kernel) rfl, sm_if1 _ _ _⟩, ⟨_, ⟨sn_ldc dX8_image_25 zw_4_114, sm_const _⟩, ⟨_, ⟨sn_ri (len := 1) dX8_image_27 rfl, sm_ri⟩, trivial⟩⟩⟩⟩⟩
set_option maxRecDepth 20000 in
theorem kX8_image_28 : sx_BK sx_tb yX8_image.cls cX8_image 3 (some .int) ({ frames := 1, cells := 0, slots := 0, locals := 25 } : Room) false false 0 (fun _ => 0) 28 (bX8_image_28) := ⟨_, ⟨sn_iconst dX8_image_28 (by decide +kernel), sm_const _⟩, ⟨_, ⟨sn_istore_n dX8_image_29 rfl (Nat.le_of_ble_eq_true rfl), sm_is _⟩, ⟨_, ⟨sn_fall (len := 0) rfl rfl, sm_go _ _⟩, trivial⟩⟩⟩
set_option maxRecDepth 20000 in
theorem kX8_image_30 : sx_BK sx_tb yX8_image.cls cX8_image 3 (some .int) ({ frames := 1, cells := 0, slots := 0, locals := 25 } : Room) false false 0 (fun _ => 0) 30 (bX8_image_30) := ⟨_, ⟨sn_iload_n dX8_image_30 rfl, sm_il _⟩, ⟨_, ⟨sn_bipush dX8_image_31 (by decide +kernel), sm_const _⟩, ⟨_, ⟨sn_ic_ge dX8_image_33 (by decide +kernel) rfl, sm_if2 _ _ _⟩, ⟨_, ⟨sn_aload_n dX8_image_36 rfl, sm_al _⟩, ⟨_, ⟨sn_get (C := RX8) (T := TX8) (N := 23) dX8_image_37 rfl zinX8 (Nat.le_of_ble_eq_true rfl) zw_3_202, sm_get _ _⟩, ⟨_, ⟨sn_bipush dX8_image_40 (by decide +kernel), sm_const _⟩, ⟨_, ⟨sn_iload_n dX8_image_42 rfl, sm_il _⟩, ⟨_, ⟨sn_imul dX8_image_43, sm_bin _⟩, ⟨_, ⟨sn_iload_n dX8_image_44 rfl, sm_il _⟩, ⟨_, ⟨sn_iadd dX8_image_45, sm_bin _⟩, ⟨_, ⟨sn_aload_n dX8_image_46 rfl, sm_al _⟩, ⟨_, ⟨sn_get (C := RX8) (T := TX8) (N := 23) dX8_image_47 rfl zinX8 (Nat.le_of_ble_eq_true rfl) zw_3_187, sm_get _ _⟩, ⟨_, ⟨sn_iload_n dX8_image_50 rfl, sm_il _⟩, ⟨_, ⟨sn_iald dX8_image_51, sm_iald⟩, ⟨_, ⟨sn_iast dX8_image_52, sm_iast⟩, ⟨_, ⟨sn_iinc dX8_image_53 (by decide +kernel) (Nat.le_of_ble_eq_true rfl), sm_inc _ _⟩, ⟨_, ⟨sn_goto (len := 3) dX8_image_56 (by decide +kernel) rfl, sm_go _ _⟩, trivial⟩⟩⟩⟩⟩⟩⟩⟩⟩⟩⟩⟩⟩⟩⟩⟩⟩
set_option maxRecDepth 20000 in
theorem kX8_image_59 : sx_BK sx_tb yX8_image.cls cX8_image 3 (some .int) ({ frames := 1, cells := 0, slots := 0, locals := 25 } : Room) false false 0 (fun _ => 0) 59 (bX8_image_59) := ⟨_, ⟨sn_aload_n dX8_image_59 rfl, sm_al _⟩, ⟨_, ⟨sn_get (C := RX8) (T := TX8) (N := 23) dX8_image_60 rfl zinX8 (Nat.le_of_ble_eq_true rfl) zw_3_201, sm_get _ _⟩, ⟨_, ⟨sn_iload_n dX8_image_63 rfl, sm_il _⟩, ⟨_, ⟨sn_iconst dX8_image_64 (by decide +kernel), sm_const _⟩, ⟨_, ⟨sn_zast dX8_image_65, sm_zast⟩, ⟨_, ⟨sn_iconst dX8_image_66 (by decide +kernel), sm_const _⟩, ⟨_, ⟨sn_ri (len := 1) dX8_image_67 rfl, sm_ri⟩, trivial⟩⟩⟩⟩⟩⟩⟩
theorem kX8_image : ∀ pc, sx_BK sx_tb yX8_image.cls cX8_image 3 (some .int) ({ frames := 1, cells := 0, slots := 0, locals := 25 } : Room) false false 0 (fun _ => 0) pc (BX8_image pc) := fun pc => sx_bk_if (kX8_image_0) (sx_bk_if (kX8_image_18) (sx_bk_if (kX8_image_28) (sx_bk_if (kX8_image_30) (sx_bk_if (kX8_image_59) (trivial)))))
theorem okX8_image : sx_ok sx_tb BX8_image (yX8_image, cX8_image, 3, some .int, { frames := 1, cells := 0, slots := 0, locals := 25 }) := ⟨by decide, by decide +kernel, false, (fun h => by cases h), kX8_image⟩
theorem dX8_restore_0 : decode cX8_restore 0 = .ok (.aload_n 0, 1) := by decide +kernel
theorem dX8_restore_1 : decode cX8_restore 1 = .ok (.iconst 0, 1) := by decide +kernel
theorem dX8_restore_2 : decode cX8_restore 2 = .ok (.putfield 44, 3) := by decide +kernel
theorem dX8_restore_5 : decode cX8_restore 5 = .ok (.iload_n 1, 1) := by decide +kernel
theorem dX8_restore_6 : decode cX8_restore 6 = .ok (.i2l, 1) := by decide +kernel
theorem dX8_restore_7 : decode cX8_restore 7 = .ok (.lconst 0, 1) := by decide +kernel
theorem dX8_restore_8 : decode cX8_restore 8 = .ok (.lconst 1, 1) := by decide +kernel
theorem dX8_restore_9 : decode cX8_restore 9 = .ok (.invokestatic 54, 3) := by decide +kernel
theorem dX8_restore_12 : decode cX8_restore 12 = .ok (.ifCond .ne 6, 3) := by decide +kernel
theorem dX8_restore_15 : decode cX8_restore 15 = .ok (.ldc 64, 2) := by decide +kernel
theorem dX8_restore_17 : decode cX8_restore 17 = .ok (.ireturn, 1) := by decide +kernel
theorem dX8_restore_18 : decode cX8_restore 18 = .ok (.aload_n 0, 1) := by decide +kernel
theorem dX8_restore_19 : decode cX8_restore 19 = .ok (.getfield 34, 3) := by decide +kernel
theorem dX8_restore_22 : decode cX8_restore 22 = .ok (.iload_n 1, 1) := by decide +kernel
theorem dX8_restore_23 : decode cX8_restore 23 = .ok (.baload, 1) := by decide +kernel
theorem dX8_restore_24 : decode cX8_restore 24 = .ok (.ifCond .ne 6, 3) := by decide +kernel
theorem dX8_restore_27 : decode cX8_restore 27 = .ok (.ldc 175, 2) := by decide +kernel
theorem dX8_restore_29 : decode cX8_restore 29 = .ok (.ireturn, 1) := by decide +kernel
theorem dX8_restore_30 : decode cX8_restore 30 = .ok (.iconst 0, 1) := by decide +kernel
theorem dX8_restore_31 : decode cX8_restore 31 = .ok (.istore_n 2, 1) := by decide +kernel
theorem dX8_restore_32 : decode cX8_restore 32 = .ok (.iload_n 2, 1) := by decide +kernel
theorem dX8_restore_33 : decode cX8_restore 33 = .ok (.bipush 64, 2) := by decide +kernel
theorem dX8_restore_35 : decode cX8_restore 35 = .ok (.if_icmp .ge 26, 3) := by decide +kernel
theorem dX8_restore_38 : decode cX8_restore 38 = .ok (.aload_n 0, 1) := by decide +kernel
theorem dX8_restore_39 : decode cX8_restore 39 = .ok (.getfield 19, 3) := by decide +kernel
theorem dX8_restore_42 : decode cX8_restore 42 = .ok (.iload_n 2, 1) := by decide +kernel
theorem dX8_restore_43 : decode cX8_restore 43 = .ok (.aload_n 0, 1) := by decide +kernel
theorem dX8_restore_44 : decode cX8_restore 44 = .ok (.getfield 38, 3) := by decide +kernel
theorem dX8_restore_47 : decode cX8_restore 47 = .ok (.bipush 64, 2) := by decide +kernel
theorem dX8_restore_49 : decode cX8_restore 49 = .ok (.iload_n 1, 1) := by decide +kernel
theorem dX8_restore_50 : decode cX8_restore 50 = .ok (.imul, 1) := by decide +kernel
theorem dX8_restore_51 : decode cX8_restore 51 = .ok (.iload_n 2, 1) := by decide +kernel
theorem dX8_restore_52 : decode cX8_restore 52 = .ok (.iadd, 1) := by decide +kernel
theorem dX8_restore_53 : decode cX8_restore 53 = .ok (.iaload, 1) := by decide +kernel
theorem dX8_restore_54 : decode cX8_restore 54 = .ok (.iastore, 1) := by decide +kernel
theorem dX8_restore_55 : decode cX8_restore 55 = .ok (.iinc 2 1, 3) := by decide +kernel
theorem dX8_restore_58 : decode cX8_restore 58 = .ok (.goto (-26), 3) := by decide +kernel
theorem dX8_restore_61 : decode cX8_restore 61 = .ok (.aload_n 0, 1) := by decide +kernel
theorem dX8_restore_62 : decode cX8_restore 62 = .ok (.iconst 0, 1) := by decide +kernel
theorem dX8_restore_63 : decode cX8_restore 63 = .ok (.putfield 143, 3) := by decide +kernel
theorem dX8_restore_66 : decode cX8_restore 66 = .ok (.iconst 1, 1) := by decide +kernel
theorem dX8_restore_67 : decode cX8_restore 67 = .ok (.ireturn, 1) := by decide +kernel
def bX8_restore_0 : List sx_S := [si_al 0, si_const 0, si_put 7 0 0, si_il 1, si_i2l, si_lconst 0, si_lconst 1, si_cs 124 3 0 0 0 0, si_if1 (fun x => ¬ x = 0) 18 [true, true, false], si_const (-1000001), si_ri]
def bX8_restore_18 : List sx_S := [si_al 0, si_get 7 19, si_il 1, si_zald, si_if1 (fun x => ¬ x = 0) 30 [true, true, false], si_const (-1000002), si_ri]
def bX8_restore_30 : List sx_S := [si_const 0, si_is 2, si_go 32 [true, true, true]]
def bX8_restore_32 : List sx_S := [si_il 2, si_const (nI 64), si_if2 (fun x y => y ≤ x) 61 [true, false, false], si_al 0, si_get 7 5, si_il 2, si_al 0, si_get 7 20, si_const (nI 64), si_il 1, si_bin (fun x y => x * y), si_il 2, si_bin (fun x y => x + y), si_iald, si_iast, si_inc 2 1, si_go 32 [true, true, true]]
def bX8_restore_61 : List sx_S := [si_al 0, si_const 0, si_put 7 9 0, si_const 1, si_ri]
def BX8_restore : Nat → List sx_S := fun pc => if pc = 0 then bX8_restore_0 else if pc = 18 then bX8_restore_18 else if pc = 30 then bX8_restore_30 else if pc = 32 then bX8_restore_32 else if pc = 61 then bX8_restore_61 else []
set_option maxRecDepth 20000 in
theorem kX8_restore_0 : sx_BK sx_tb yX8_restore.cls cX8_restore 3 (some .int) ({ frames := 1, cells := 0, slots := 0, locals := 25 } : Room) false false 0 (fun _ => 0) 0 (bX8_restore_0) := ⟨_, ⟨sn_aload_n dX8_restore_0 rfl, sm_al _⟩, ⟨_, ⟨sn_iconst dX8_restore_1 (by decide +kernel), sm_const _⟩, ⟨_, ⟨sn_put (C := RX8) (T := TX8) (N := 23) dX8_restore_2 rfl zinX8 tyX8_ok nmX8 (Nat.le_of_ble_eq_true rfl) zw_3_182 rfl (tyX8_ok 0 (Nat.le_of_ble_eq_true rfl)) trivial, sm_put _ _ _⟩, ⟨_, ⟨sn_iload_n dX8_restore_5 rfl, sm_il _⟩, ⟨_, ⟨sn_i2l dX8_restore_6, sm_i2l⟩, ⟨_, ⟨sn_lconst dX8_restore_7 (by decide +kernel), sm_lconst _⟩, ⟨_, ⟨sn_lconst dX8_restore_8 (by decide +kernel), sm_lconst _⟩, ⟨_, ⟨sn_cs_z ztb_X8_in dX8_restore_9 zw_4_21 zw_4_22 zw_1_8 zw_4_23 zmh_X8 zpd_X8_in (Nat.le_of_ble_eq_true rfl) (Nat.le_of_ble_eq_true rfl) rfl rfl, sm_cs _ _ _ _ _ _⟩, ⟨_, ⟨sn_if_ne dX8_restore_12 (by decide +kernel) rfl, sm_if1 _ _ _⟩, ⟨_, ⟨sn_ldc dX8_restore_15 zw_4_25, sm_const _⟩, ⟨_, ⟨sn_ri (len := 1) dX8_restore_17 rfl, sm_ri⟩, trivial⟩⟩⟩⟩⟩⟩⟩⟩⟩⟩⟩
set_option maxRecDepth 20000 in
theorem kX8_restore_18 : sx_BK sx_tb yX8_restore.cls cX8_restore 3 (some .int) ({ frames := 1, cells := 0, slots := 0, locals := 25 } : Room) false false 0 (fun _ => 0) 18 (bX8_restore_18) := ⟨_, ⟨sn_aload_n dX8_restore_18 rfl, sm_al _⟩, ⟨_, ⟨sn_get (C := RX8) (T := TX8) (N := 23) dX8_restore_19 rfl zinX8 (Nat.le_of_ble_eq_true rfl) zw_3_201, sm_get _ _⟩, ⟨_, ⟨sn_iload_n dX8_restore_22 rfl, sm_il _⟩, ⟨_, ⟨sn_zald dX8_restore_23, sm_zald⟩, ⟨_, ⟨sn_if_ne dX8_restore_24 (by decide +kernel) rfl, sm_if1 _ _ _⟩, ⟨_, ⟨sn_ldc dX8_restore_27 zw_4_114, sm_const _⟩, ⟨_, ⟨sn_ri (len := 1) dX8_restore_29 rfl, sm_ri⟩, trivial⟩⟩⟩⟩⟩⟩⟩
set_option maxRecDepth 20000 in
theorem kX8_restore_30 : sx_BK sx_tb yX8_restore.cls cX8_restore 3 (some .int) ({ frames := 1, cells := 0, slots := 0, locals := 25 } : Room) false false 0 (fun _ => 0) 30 (bX8_restore_30) := ⟨_, ⟨sn_iconst dX8_restore_30 (by decide +kernel), sm_const _⟩, ⟨_, ⟨sn_istore_n dX8_restore_31 rfl (Nat.le_of_ble_eq_true rfl), sm_is _⟩, ⟨_, ⟨sn_fall (len := 0) rfl rfl, sm_go _ _⟩, trivial⟩⟩⟩
set_option maxRecDepth 20000 in
theorem kX8_restore_32 : sx_BK sx_tb yX8_restore.cls cX8_restore 3 (some .int) ({ frames := 1, cells := 0, slots := 0, locals := 25 } : Room) false false 0 (fun _ => 0) 32 (bX8_restore_32) := ⟨_, ⟨sn_iload_n dX8_restore_32 rfl, sm_il _⟩, ⟨_, ⟨sn_bipush dX8_restore_33 (by decide +kernel), sm_const _⟩, ⟨_, ⟨sn_ic_ge dX8_restore_35 (by decide +kernel) rfl, sm_if2 _ _ _⟩, ⟨_, ⟨sn_aload_n dX8_restore_38 rfl, sm_al _⟩, ⟨_, ⟨sn_get (C := RX8) (T := TX8) (N := 23) dX8_restore_39 rfl zinX8 (Nat.le_of_ble_eq_true rfl) zw_3_187, sm_get _ _⟩, ⟨_, ⟨sn_iload_n dX8_restore_42 rfl, sm_il _⟩, ⟨_, ⟨sn_aload_n dX8_restore_43 rfl, sm_al _⟩, ⟨_, ⟨sn_get (C := RX8) (T := TX8) (N := 23) dX8_restore_44 rfl zinX8 (Nat.le_of_ble_eq_true rfl) zw_3_202, sm_get _ _⟩, ⟨_, ⟨sn_bipush dX8_restore_47 (by decide +kernel), sm_const _⟩, ⟨_, ⟨sn_iload_n dX8_restore_49 rfl, sm_il _⟩, ⟨_, ⟨sn_imul dX8_restore_50, sm_bin _⟩, ⟨_, ⟨sn_iload_n dX8_restore_51 rfl, sm_il _⟩, ⟨_, ⟨sn_iadd dX8_restore_52, sm_bin _⟩, ⟨_, ⟨sn_iald dX8_restore_53, sm_iald⟩, ⟨_, ⟨sn_iast dX8_restore_54, sm_iast⟩, ⟨_, ⟨sn_iinc dX8_restore_55 (by decide +kernel) (Nat.le_of_ble_eq_true rfl), sm_inc _ _⟩, ⟨_, ⟨sn_goto (len := 3) dX8_restore_58 (by decide +kernel) rfl, sm_go _ _⟩, trivial⟩⟩⟩⟩⟩⟩⟩⟩⟩⟩⟩⟩⟩⟩⟩⟩⟩
set_option maxRecDepth 20000 in
theorem kX8_restore_61 : sx_BK sx_tb yX8_restore.cls cX8_restore 3 (some .int) ({ frames := 1, cells := 0, slots := 0, locals := 25 } : Room) false false 0 (fun _ => 0) 61 (bX8_restore_61) := ⟨_, ⟨sn_aload_n dX8_restore_61 rfl, sm_al _⟩, ⟨_, ⟨sn_iconst dX8_restore_62 (by decide +kernel), sm_const _⟩, ⟨_, ⟨sn_put (C := RX8) (T := TX8) (N := 23) dX8_restore_63 rfl zinX8 tyX8_ok nmX8 (Nat.le_of_ble_eq_true rfl) zw_3_191 rfl (tyX8_ok 9 (Nat.le_of_ble_eq_true rfl)) trivial, sm_put _ _ _⟩, ⟨_, ⟨sn_iconst dX8_restore_66 (by decide +kernel), sm_const _⟩, ⟨_, ⟨sn_ri (len := 1) dX8_restore_67 rfl, sm_ri⟩, trivial⟩⟩⟩⟩⟩
theorem kX8_restore : ∀ pc, sx_BK sx_tb yX8_restore.cls cX8_restore 3 (some .int) ({ frames := 1, cells := 0, slots := 0, locals := 25 } : Room) false false 0 (fun _ => 0) pc (BX8_restore pc) := fun pc => sx_bk_if (kX8_restore_0) (sx_bk_if (kX8_restore_18) (sx_bk_if (kX8_restore_30) (sx_bk_if (kX8_restore_32) (sx_bk_if (kX8_restore_61) (trivial)))))
theorem okX8_restore : sx_ok sx_tb BX8_restore (yX8_restore, cX8_restore, 3, some .int, { frames := 1, cells := 0, slots := 0, locals := 25 }) := ⟨by decide, by decide +kernel, false, (fun h => by cases h), kX8_restore⟩
theorem dX8_isOf_0 : decode cX8_isOf 0 = .ok (.iload_n 1, 1) := by decide +kernel
theorem dX8_isOf_1 : decode cX8_isOf 1 = .ok (.ifCond .eq 28, 3) := by decide +kernel
theorem dX8_isOf_4 : decode cX8_isOf 4 = .ok (.iload_n 0, 1) := by decide +kernel
theorem dX8_isOf_5 : decode cX8_isOf 5 = .ok (.iload_n 1, 1) := by decide +kernel
theorem dX8_isOf_6 : decode cX8_isOf 6 = .ok (.if_icmp .eq 23, 3) := by decide +kernel
theorem dX8_isOf_9 : decode cX8_isOf 9 = .ok (.iload_n 1, 1) := by decide +kernel
theorem dX8_isOf_10 : decode cX8_isOf 10 = .ok (.iconst 1, 1) := by decide +kernel
theorem dX8_isOf_11 : decode cX8_isOf 11 = .ok (.if_icmp .ne 8, 3) := by decide +kernel
theorem dX8_isOf_14 : decode cX8_isOf 14 = .ok (.iload_n 0, 1) := by decide +kernel
theorem dX8_isOf_15 : decode cX8_isOf 15 = .ok (.iconst 4, 1) := by decide +kernel
theorem dX8_isOf_16 : decode cX8_isOf 16 = .ok (.if_icmp .lt 13, 3) := by decide +kernel
theorem dX8_isOf_19 : decode cX8_isOf 19 = .ok (.iload_n 1, 1) := by decide +kernel
theorem dX8_isOf_20 : decode cX8_isOf 20 = .ok (.iconst 4, 1) := by decide +kernel
theorem dX8_isOf_21 : decode cX8_isOf 21 = .ok (.if_icmp .ne 12, 3) := by decide +kernel
theorem dX8_isOf_24 : decode cX8_isOf 24 = .ok (.iload_n 0, 1) := by decide +kernel
theorem dX8_isOf_25 : decode cX8_isOf 25 = .ok (.iconst 5, 1) := by decide +kernel
theorem dX8_isOf_26 : decode cX8_isOf 26 = .ok (.if_icmp .ne 7, 3) := by decide +kernel
theorem dX8_isOf_29 : decode cX8_isOf 29 = .ok (.iconst 1, 1) := by decide +kernel
theorem dX8_isOf_30 : decode cX8_isOf 30 = .ok (.goto 4, 3) := by decide +kernel
theorem dX8_isOf_33 : decode cX8_isOf 33 = .ok (.iconst 0, 1) := by decide +kernel
theorem dX8_isOf_34 : decode cX8_isOf 34 = .ok (.ireturn, 1) := by decide +kernel
def bX8_isOf_0 : List sx_S := [si_il 1, si_if1 (fun x => x = 0) 29 [false, false], si_il 0, si_il 1, si_if2 (fun x y => x = y) 29 [false, false], si_il 1, si_const 1, si_if2 (fun x y => ¬ x = y) 19 [true, true], si_il 0, si_const (nI 4), si_if2 (fun x y => x < y) 29 [false, false], si_go 19 [true, true]]
def bX8_isOf_19 : List sx_S := [si_il 1, si_const (nI 4), si_if2 (fun x y => ¬ x = y) 33 [false, false], si_il 0, si_const (nI 5), si_if2 (fun x y => ¬ x = y) 33 [false, false], si_go 29 [false, false]]
def bX8_isOf_29 : List sx_S := [si_const 1, si_go 34 [false, false]]
def bX8_isOf_33 : List sx_S := [si_const 0, si_go 34 [false, false]]
def bX8_isOf_34 : List sx_S := [si_rz]
def BX8_isOf : Nat → List sx_S := fun pc => if pc = 0 then bX8_isOf_0 else if pc = 19 then bX8_isOf_19 else if pc = 29 then bX8_isOf_29 else if pc = 33 then bX8_isOf_33 else if pc = 34 then bX8_isOf_34 else []
set_option maxRecDepth 20000 in
theorem kX8_isOf_0 : sx_BK sx_tb yX8_isOf.cls cX8_isOf 2 (some .boolean) ({ frames := 0, cells := 0, slots := 0, locals := 0 } : Room) false false 0 (fun _ => 0) 0 (bX8_isOf_0) := ⟨_, ⟨sn_iload_n dX8_isOf_0 rfl, sm_il _⟩, ⟨_, ⟨sn_if_eq dX8_isOf_1 (by decide +kernel) rfl, sm_if1 _ _ _⟩, ⟨_, ⟨sn_iload_n dX8_isOf_4 rfl, sm_il _⟩, ⟨_, ⟨sn_iload_n dX8_isOf_5 rfl, sm_il _⟩, ⟨_, ⟨sn_ic_eq dX8_isOf_6 (by decide +kernel) rfl, sm_if2 _ _ _⟩, ⟨_, ⟨sn_iload_n dX8_isOf_9 rfl, sm_il _⟩, ⟨_, ⟨sn_iconst dX8_isOf_10 (by decide +kernel), sm_const _⟩, ⟨_, ⟨sn_ic_ne dX8_isOf_11 (by decide +kernel) rfl, sm_if2 _ _ _⟩, ⟨_, ⟨sn_iload_n dX8_isOf_14 rfl, sm_il _⟩, ⟨_, ⟨sn_iconst dX8_isOf_15 (by decide +kernel), sm_const _⟩, ⟨_, ⟨sn_ic_lt dX8_isOf_16 (by decide +kernel) rfl, sm_if2 _ _ _⟩, ⟨_, ⟨sn_fall (len := 0) rfl rfl, sm_go _ _⟩, trivial⟩⟩⟩⟩⟩⟩⟩⟩⟩⟩⟩⟩
set_option maxRecDepth 20000 in
theorem kX8_isOf_19 : sx_BK sx_tb yX8_isOf.cls cX8_isOf 2 (some .boolean) ({ frames := 0, cells := 0, slots := 0, locals := 0 } : Room) false false 0 (fun _ => 0) 19 (bX8_isOf_19) := ⟨_, ⟨sn_iload_n dX8_isOf_19 rfl, sm_il _⟩, ⟨_, ⟨sn_iconst dX8_isOf_20 (by decide +kernel), sm_const _⟩, ⟨_, ⟨sn_ic_ne dX8_isOf_21 (by decide +kernel) rfl, sm_if2 _ _ _⟩, ⟨_, ⟨sn_iload_n dX8_isOf_24 rfl, sm_il _⟩, ⟨_, ⟨sn_iconst dX8_isOf_25 (by decide +kernel), sm_const _⟩, ⟨_, ⟨sn_ic_ne dX8_isOf_26 (by decide +kernel) rfl, sm_if2 _ _ _⟩, ⟨_, ⟨sn_fall (len := 0) rfl rfl, sm_go _ _⟩, trivial⟩⟩⟩⟩⟩⟩⟩
set_option maxRecDepth 20000 in
theorem kX8_isOf_29 : sx_BK sx_tb yX8_isOf.cls cX8_isOf 2 (some .boolean) ({ frames := 0, cells := 0, slots := 0, locals := 0 } : Room) false false 0 (fun _ => 0) 29 (bX8_isOf_29) := ⟨_, ⟨sn_iconst dX8_isOf_29 (by decide +kernel), sm_const _⟩, ⟨_, ⟨sn_goto (len := 3) dX8_isOf_30 (by decide +kernel) rfl, sm_go _ _⟩, trivial⟩⟩
set_option maxRecDepth 20000 in
theorem kX8_isOf_33 : sx_BK sx_tb yX8_isOf.cls cX8_isOf 2 (some .boolean) ({ frames := 0, cells := 0, slots := 0, locals := 0 } : Room) false false 0 (fun _ => 0) 33 (bX8_isOf_33) := ⟨_, ⟨sn_iconst dX8_isOf_33 (by decide +kernel), sm_const _⟩, ⟨_, ⟨sn_fall (len := 0) rfl rfl, sm_go _ _⟩, trivial⟩⟩
set_option maxRecDepth 20000 in
theorem kX8_isOf_34 : sx_BK sx_tb yX8_isOf.cls cX8_isOf 2 (some .boolean) ({ frames := 0, cells := 0, slots := 0, locals := 0 } : Room) false false 0 (fun _ => 0) 34 (bX8_isOf_34) := ⟨_, ⟨sn_rz (len := 1) dX8_isOf_34 rfl, sm_rz⟩, trivial⟩
theorem kX8_isOf : ∀ pc, sx_BK sx_tb yX8_isOf.cls cX8_isOf 2 (some .boolean) ({ frames := 0, cells := 0, slots := 0, locals := 0 } : Room) false false 0 (fun _ => 0) pc (BX8_isOf pc) := fun pc => sx_bk_if (kX8_isOf_0) (sx_bk_if (kX8_isOf_19) (sx_bk_if (kX8_isOf_29) (sx_bk_if (kX8_isOf_33) (sx_bk_if (kX8_isOf_34) (trivial)))))
theorem okX8_isOf : sx_ok sx_tb BX8_isOf (yX8_isOf, cX8_isOf, 2, some .boolean, { frames := 0, cells := 0, slots := 0, locals := 0 }) := ⟨by decide, by decide +kernel, false, (fun h => by cases h), kX8_isOf⟩
theorem dX8_kind_0 : decode cX8_kind 0 = .ok (.aload_n 0, 1) := by decide +kernel
theorem dX8_kind_1 : decode cX8_kind 1 = .ok (.iconst 0, 1) := by decide +kernel
theorem dX8_kind_2 : decode cX8_kind 2 = .ok (.putfield 44, 3) := by decide +kernel
theorem dX8_kind_5 : decode cX8_kind 5 = .ok (.aload_n 0, 1) := by decide +kernel
theorem dX8_kind_6 : decode cX8_kind 6 = .ok (.iload_n 1, 1) := by decide +kernel
theorem dX8_kind_7 : decode cX8_kind 7 = .ok (.invokevirtual 181, 3) := by decide +kernel
theorem dX8_kind_10 : decode cX8_kind 10 = .ok (.ifCond .eq 15, 3) := by decide +kernel
theorem dX8_kind_13 : decode cX8_kind 13 = .ok (.aload_n 0, 1) := by decide +kernel
theorem dX8_kind_14 : decode cX8_kind 14 = .ok (.getfield 19, 3) := by decide +kernel
theorem dX8_kind_17 : decode cX8_kind 17 = .ok (.iload_n 1, 1) := by decide +kernel
theorem dX8_kind_18 : decode cX8_kind 18 = .ok (.iconst 0, 1) := by decide +kernel
theorem dX8_kind_19 : decode cX8_kind 19 = .ok (.invokestatic 146, 3) := by decide +kernel
theorem dX8_kind_22 : decode cX8_kind 22 = .ok (.goto 5, 3) := by decide +kernel
theorem dX8_kind_25 : decode cX8_kind 25 = .ok (.ldc 64, 2) := by decide +kernel
theorem dX8_kind_27 : decode cX8_kind 27 = .ok (.ireturn, 1) := by decide +kernel
def bX8_kind_0 : List sx_S := [si_al 0, si_const 0, si_put 7 0 0, si_al 0, si_il 1, si_cv 7 146 1 0 0 0 0, si_if1 (fun x => x = 0) 25 [false, false], si_al 0, si_get 7 5, si_il 1, si_const 0, si_cs 147 3 0 0 0 0, si_go 27 [false, false]]
def bX8_kind_25 : List sx_S := [si_const (-1000001), si_go 27 [false, false]]
def bX8_kind_27 : List sx_S := [si_ri]
def BX8_kind : Nat → List sx_S := fun pc => if pc = 0 then bX8_kind_0 else if pc = 25 then bX8_kind_25 else if pc = 27 then bX8_kind_27 else []
set_option maxRecDepth 20000 in
theorem kX8_kind_0 : sx_BK sx_tb yX8_kind.cls cX8_kind 2 (some .int) ({ frames := 2, cells := 0, slots := 0, locals := 46 } : Room) false false 0 (fun _ => 0) 0 (bX8_kind_0) := ⟨_, ⟨sn_aload_n dX8_kind_0 rfl, sm_al _⟩, ⟨_, ⟨sn_iconst dX8_kind_1 (by decide +kernel), sm_const _⟩, ⟨_, ⟨sn_put (C := RX8) (T := TX8) (N := 23) dX8_kind_2 rfl zinX8 tyX8_ok nmX8 (Nat.le_of_ble_eq_true rfl) zw_3_182 rfl (tyX8_ok 0 (Nat.le_of_ble_eq_true rfl)) trivial, sm_put _ _ _⟩, ⟨_, ⟨sn_aload_n dX8_kind_5 rfl, sm_al _⟩, ⟨_, ⟨sn_iload_n dX8_kind_6 rfl, sm_il _⟩, ⟨_, ⟨sn_cv_z (N := 23) (T := TX8) ztb_X8_isDebtor dX8_kind_7 rfl rfl zw_4_145 zw_4_147 zw_0_47 zw_1_8 zw_4_148 zmh_X8 zpd_X8_isDebtor (Nat.le_of_ble_eq_true rfl) (Nat.le_of_ble_eq_true rfl) rfl rfl, sm_cv _ _ _ _ _ _ _⟩, ⟨_, ⟨sn_if_eq dX8_kind_10 (by decide +kernel) rfl, sm_if1 _ _ _⟩, ⟨_, ⟨sn_aload_n dX8_kind_13 rfl, sm_al _⟩, ⟨_, ⟨sn_get (C := RX8) (T := TX8) (N := 23) dX8_kind_14 rfl zinX8 (Nat.le_of_ble_eq_true rfl) zw_3_187, sm_get _ _⟩, ⟨_, ⟨sn_iload_n dX8_kind_17 rfl, sm_il _⟩, ⟨_, ⟨sn_iconst dX8_kind_18 (by decide +kernel), sm_const _⟩, ⟨_, ⟨sn_cs_i ztb_X8_of dX8_kind_19 zw_4_126 zw_4_127 zw_1_8 zw_4_128 zmh_X8 zpd_X8_of (Nat.le_of_ble_eq_true rfl) (Nat.le_of_ble_eq_true rfl) rfl rfl, sm_cs _ _ _ _ _ _⟩, ⟨_, ⟨sn_goto (len := 3) dX8_kind_22 (by decide +kernel) rfl, sm_go _ _⟩, trivial⟩⟩⟩⟩⟩⟩⟩⟩⟩⟩⟩⟩⟩
set_option maxRecDepth 20000 in
theorem kX8_kind_25 : sx_BK sx_tb yX8_kind.cls cX8_kind 2 (some .int) ({ frames := 2, cells := 0, slots := 0, locals := 46 } : Room) false false 0 (fun _ => 0) 25 (bX8_kind_25) := ⟨_, ⟨sn_ldc dX8_kind_25 zw_4_25, sm_const _⟩, ⟨_, ⟨sn_fall (len := 0) rfl rfl, sm_go _ _⟩, trivial⟩⟩
set_option maxRecDepth 20000 in
theorem kX8_kind_27 : sx_BK sx_tb yX8_kind.cls cX8_kind 2 (some .int) ({ frames := 2, cells := 0, slots := 0, locals := 46 } : Room) false false 0 (fun _ => 0) 27 (bX8_kind_27) := ⟨_, ⟨sn_ri (len := 1) dX8_kind_27 rfl, sm_ri⟩, trivial⟩
theorem kX8_kind : ∀ pc, sx_BK sx_tb yX8_kind.cls cX8_kind 2 (some .int) ({ frames := 2, cells := 0, slots := 0, locals := 46 } : Room) false false 0 (fun _ => 0) pc (BX8_kind pc) := fun pc => sx_bk_if (kX8_kind_0) (sx_bk_if (kX8_kind_25) (sx_bk_if (kX8_kind_27) (trivial)))
theorem okX8_kind : sx_ok sx_tb BX8_kind (yX8_kind, cX8_kind, 2, some .int, { frames := 2, cells := 0, slots := 0, locals := 46 }) := ⟨by decide, by decide +kernel, false, (fun h => by cases h), kX8_kind⟩
theorem dX8_as_0 : decode cX8_as 0 = .ok (.aload_n 0, 1) := by decide +kernel
theorem dX8_as_1 : decode cX8_as 1 = .ok (.iconst 0, 1) := by decide +kernel
theorem dX8_as_2 : decode cX8_as 2 = .ok (.putfield 44, 3) := by decide +kernel
theorem dX8_as_5 : decode cX8_as 5 = .ok (.aload_n 0, 1) := by decide +kernel
theorem dX8_as_6 : decode cX8_as 6 = .ok (.iload_n 1, 1) := by decide +kernel
theorem dX8_as_7 : decode cX8_as 7 = .ok (.invokevirtual 181, 3) := by decide +kernel
theorem dX8_as_10 : decode cX8_as 10 = .ok (.ifCond .eq 15, 3) := by decide +kernel
theorem dX8_as_13 : decode cX8_as 13 = .ok (.iload_n 2, 1) := by decide +kernel
theorem dX8_as_14 : decode cX8_as 14 = .ok (.i2l, 1) := by decide +kernel
theorem dX8_as_15 : decode cX8_as 15 = .ok (.lconst 0, 1) := by decide +kernel
theorem dX8_as_16 : decode cX8_as 16 = .ok (.ldc2_w 208, 3) := by decide +kernel
theorem dX8_as_19 : decode cX8_as 19 = .ok (.invokestatic 54, 3) := by decide +kernel
theorem dX8_as_22 : decode cX8_as 22 = .ok (.ifCond .ne 6, 3) := by decide +kernel
theorem dX8_as_25 : decode cX8_as 25 = .ok (.ldc 64, 2) := by decide +kernel
theorem dX8_as_27 : decode cX8_as 27 = .ok (.ireturn, 1) := by decide +kernel
theorem dX8_as_28 : decode cX8_as 28 = .ok (.aload_n 0, 1) := by decide +kernel
theorem dX8_as_29 : decode cX8_as 29 = .ok (.iconst 0, 1) := by decide +kernel
theorem dX8_as_30 : decode cX8_as 30 = .ok (.putfield 48, 3) := by decide +kernel
theorem dX8_as_33 : decode cX8_as 33 = .ok (.aload_n 0, 1) := by decide +kernel
theorem dX8_as_34 : decode cX8_as 34 = .ok (.getfield 19, 3) := by decide +kernel
theorem dX8_as_37 : decode cX8_as 37 = .ok (.iload_n 1, 1) := by decide +kernel
theorem dX8_as_38 : decode cX8_as 38 = .ok (.iconst 0, 1) := by decide +kernel
theorem dX8_as_39 : decode cX8_as 39 = .ok (.invokestatic 146, 3) := by decide +kernel
theorem dX8_as_42 : decode cX8_as 42 = .ok (.iload_n 2, 1) := by decide +kernel
theorem dX8_as_43 : decode cX8_as 43 = .ok (.invokestatic 222, 3) := by decide +kernel
theorem dX8_as_46 : decode cX8_as 46 = .ok (.ifCond .eq 7, 3) := by decide +kernel
theorem dX8_as_49 : decode cX8_as 49 = .ok (.iload_n 1, 1) := by decide +kernel
theorem dX8_as_50 : decode cX8_as 50 = .ok (.goto 8, 3) := by decide +kernel
theorem dX8_as_53 : decode cX8_as 53 = .ok (.aload_n 0, 1) := by decide +kernel
theorem dX8_as_54 : decode cX8_as 54 = .ok (.iconst 3, 1) := by decide +kernel
theorem dX8_as_55 : decode cX8_as 55 = .ok (.invokevirtual 65, 3) := by decide +kernel
theorem dX8_as_58 : decode cX8_as 58 = .ok (.ireturn, 1) := by decide +kernel
def bX8_as_0 : List sx_S := [si_al 0, si_const 0, si_put 7 0 0, si_al 0, si_il 1, si_cv 7 146 1 0 0 0 0, si_if1 (fun x => x = 0) 25 [false, false, false], si_il 2, si_i2l, si_lconst 0, si_lconst (lN 5), si_cs 124 3 0 0 0 0, si_if1 (fun x => ¬ x = 0) 28 [true, true, true], si_go 25 [false, false, false]]
def bX8_as_25 : List sx_S := [si_const (-1000001), si_ri]
def bX8_as_28 : List sx_S := [si_al 0, si_const 0, si_put 7 1 0, si_al 0, si_get 7 5, si_il 1, si_const 0, si_cs 147 3 0 0 0 0, si_il 2, si_cs 182 2 0 0 0 0, si_if1 (fun x => x = 0) 53 [true, false, false], si_il 1, si_go 58 [false, false, false]]
def bX8_as_53 : List sx_S := [si_al 0, si_const (nI 3), si_cv 7 125 1 0 0 0 0, si_go 58 [false, false, false]]
def bX8_as_58 : List sx_S := [si_ri]
def BX8_as : Nat → List sx_S := fun pc => if pc = 0 then bX8_as_0 else if pc = 25 then bX8_as_25 else if pc = 28 then bX8_as_28 else if pc = 53 then bX8_as_53 else if pc = 58 then bX8_as_58 else []
set_option maxRecDepth 20000 in
theorem kX8_as_0 : sx_BK sx_tb yX8_as.cls cX8_as 3 (some .int) ({ frames := 2, cells := 0, slots := 0, locals := 46 } : Room) false false 0 (fun _ => 0) 0 (bX8_as_0) := ⟨_, ⟨sn_aload_n dX8_as_0 rfl, sm_al _⟩, ⟨_, ⟨sn_iconst dX8_as_1 (by decide +kernel), sm_const _⟩, ⟨_, ⟨sn_put (C := RX8) (T := TX8) (N := 23) dX8_as_2 rfl zinX8 tyX8_ok nmX8 (Nat.le_of_ble_eq_true rfl) zw_3_182 rfl (tyX8_ok 0 (Nat.le_of_ble_eq_true rfl)) trivial, sm_put _ _ _⟩, ⟨_, ⟨sn_aload_n dX8_as_5 rfl, sm_al _⟩, ⟨_, ⟨sn_iload_n dX8_as_6 rfl, sm_il _⟩, ⟨_, ⟨sn_cv_z (N := 23) (T := TX8) ztb_X8_isDebtor dX8_as_7 rfl rfl zw_4_145 zw_4_147 zw_0_47 zw_1_8 zw_4_148 zmh_X8 zpd_X8_isDebtor (Nat.le_of_ble_eq_true rfl) (Nat.le_of_ble_eq_true rfl) rfl rfl, sm_cv _ _ _ _ _ _ _⟩, ⟨_, ⟨sn_if_eq dX8_as_10 (by decide +kernel) rfl, sm_if1 _ _ _⟩, ⟨_, ⟨sn_iload_n dX8_as_13 rfl, sm_il _⟩, ⟨_, ⟨sn_i2l dX8_as_14, sm_i2l⟩, ⟨_, ⟨sn_lconst dX8_as_15 (by decide +kernel), sm_lconst _⟩, ⟨_, ⟨sn_ldc2 dX8_as_16 zw_4_233, sm_lconst _⟩, ⟨_, ⟨sn_cs_z ztb_X8_in dX8_as_19 zw_4_21 zw_4_22 zw_1_8 zw_4_23 zmh_X8 zpd_X8_in (Nat.le_of_ble_eq_true rfl) (Nat.le_of_ble_eq_true rfl) rfl rfl, sm_cs _ _ _ _ _ _⟩, ⟨_, ⟨sn_if_ne dX8_as_22 (by decide +kernel) rfl, sm_if1 _ _ _⟩, ⟨_, ⟨sn_fall (len := 0) rfl rfl, sm_go _ _⟩, trivial⟩⟩⟩⟩⟩⟩⟩⟩⟩⟩⟩⟩⟩⟩
set_option maxRecDepth 20000 in
theorem kX8_as_25 : sx_BK sx_tb yX8_as.cls cX8_as 3 (some .int) ({ frames := 2, cells := 0, slots := 0, locals := 46 } : Room) false false 0 (fun _ => 0) 25 (bX8_as_25) := ⟨_, ⟨sn_ldc dX8_as_25 zw_4_25, sm_const _⟩, ⟨_, ⟨sn_ri (len := 1) dX8_as_27 rfl, sm_ri⟩, trivial⟩⟩
set_option maxRecDepth 20000 in
theorem kX8_as_28 : sx_BK sx_tb yX8_as.cls cX8_as 3 (some .int) ({ frames := 2, cells := 0, slots := 0, locals := 46 } : Room) false false 0 (fun _ => 0) 28 (bX8_as_28) := ⟨_, ⟨sn_aload_n dX8_as_28 rfl, sm_al _⟩, ⟨_, ⟨sn_iconst dX8_as_29 (by decide +kernel), sm_const _⟩, ⟨_, ⟨sn_put (C := RX8) (T := TX8) (N := 23) dX8_as_30 rfl zinX8 tyX8_ok nmX8 (Nat.le_of_ble_eq_true rfl) zw_3_183 rfl (tyX8_ok 1 (Nat.le_of_ble_eq_true rfl)) trivial, sm_put _ _ _⟩, ⟨_, ⟨sn_aload_n dX8_as_33 rfl, sm_al _⟩, ⟨_, ⟨sn_get (C := RX8) (T := TX8) (N := 23) dX8_as_34 rfl zinX8 (Nat.le_of_ble_eq_true rfl) zw_3_187, sm_get _ _⟩, ⟨_, ⟨sn_iload_n dX8_as_37 rfl, sm_il _⟩, ⟨_, ⟨sn_iconst dX8_as_38 (by decide +kernel), sm_const _⟩, ⟨_, ⟨sn_cs_i ztb_X8_of dX8_as_39 zw_4_126 zw_4_127 zw_1_8 zw_4_128 zmh_X8 zpd_X8_of (Nat.le_of_ble_eq_true rfl) (Nat.le_of_ble_eq_true rfl) rfl rfl, sm_cs _ _ _ _ _ _⟩, ⟨_, ⟨sn_iload_n dX8_as_42 rfl, sm_il _⟩, ⟨_, ⟨sn_cs_z ztb_X8_isOf dX8_as_43 zw_5_24 zw_5_25 zw_1_8 zw_5_26 zmh_X8 zpd_X8_isOf (Nat.le_of_ble_eq_true rfl) (Nat.le_of_ble_eq_true rfl) rfl rfl, sm_cs _ _ _ _ _ _⟩, ⟨_, ⟨sn_if_eq dX8_as_46 (by decide +kernel) rfl, sm_if1 _ _ _⟩, ⟨_, ⟨sn_iload_n dX8_as_49 rfl, sm_il _⟩, ⟨_, ⟨sn_goto (len := 3) dX8_as_50 (by decide +kernel) rfl, sm_go _ _⟩, trivial⟩⟩⟩⟩⟩⟩⟩⟩⟩⟩⟩⟩⟩
set_option maxRecDepth 20000 in
theorem kX8_as_53 : sx_BK sx_tb yX8_as.cls cX8_as 3 (some .int) ({ frames := 2, cells := 0, slots := 0, locals := 46 } : Room) false false 0 (fun _ => 0) 53 (bX8_as_53) := ⟨_, ⟨sn_aload_n dX8_as_53 rfl, sm_al _⟩, ⟨_, ⟨sn_iconst dX8_as_54 (by decide +kernel), sm_const _⟩, ⟨_, ⟨sn_cv_i (N := 23) (T := TX8) ztb_X8_finding dX8_as_55 rfl rfl zw_4_26 zw_4_28 zw_0_34 zw_1_8 zw_4_29 zmh_X8 zpd_X8_finding (Nat.le_of_ble_eq_true rfl) (Nat.le_of_ble_eq_true rfl) rfl rfl, sm_cv _ _ _ _ _ _ _⟩, ⟨_, ⟨sn_fall (len := 0) rfl rfl, sm_go _ _⟩, trivial⟩⟩⟩⟩
set_option maxRecDepth 20000 in
theorem kX8_as_58 : sx_BK sx_tb yX8_as.cls cX8_as 3 (some .int) ({ frames := 2, cells := 0, slots := 0, locals := 46 } : Room) false false 0 (fun _ => 0) 58 (bX8_as_58) := ⟨_, ⟨sn_ri (len := 1) dX8_as_58 rfl, sm_ri⟩, trivial⟩
theorem kX8_as : ∀ pc, sx_BK sx_tb yX8_as.cls cX8_as 3 (some .int) ({ frames := 2, cells := 0, slots := 0, locals := 46 } : Room) false false 0 (fun _ => 0) pc (BX8_as pc) := fun pc => sx_bk_if (kX8_as_0) (sx_bk_if (kX8_as_25) (sx_bk_if (kX8_as_28) (sx_bk_if (kX8_as_53) (sx_bk_if (kX8_as_58) (trivial)))))
theorem okX8_as : sx_ok sx_tb BX8_as (yX8_as, cX8_as, 3, some .int, { frames := 2, cells := 0, slots := 0, locals := 46 }) := ⟨by decide, by decide +kernel, false, (fun h => by cases h), kX8_as⟩
theorem dX8_began_0 : decode cX8_began 0 = .ok (.aload_n 0, 1) := by decide +kernel
theorem dX8_began_1 : decode cX8_began 1 = .ok (.getfield 226, 3) := by decide +kernel
theorem dX8_began_4 : decode cX8_began 4 = .ok (.bipush 16, 2) := by decide +kernel
theorem dX8_began_6 : decode cX8_began 6 = .ok (.if_icmp .ge 23, 3) := by decide +kernel
theorem dX8_began_9 : decode cX8_began 9 = .ok (.aload_n 0, 1) := by decide +kernel
theorem dX8_began_10 : decode cX8_began 10 = .ok (.getfield 41, 3) := by decide +kernel
theorem dX8_began_13 : decode cX8_began 13 = .ok (.aload_n 0, 1) := by decide +kernel
theorem dX8_began_14 : decode cX8_began 14 = .ok (.getfield 226, 3) := by decide +kernel
theorem dX8_began_17 : decode cX8_began 17 = .ok (.iload_n 1, 1) := by decide +kernel
theorem dX8_began_18 : decode cX8_began 18 = .ok (.iastore, 1) := by decide +kernel
theorem dX8_began_19 : decode cX8_began 19 = .ok (.aload_n 0, 1) := by decide +kernel
theorem dX8_began_20 : decode cX8_began 20 = .ok (.dup, 1) := by decide +kernel
theorem dX8_began_21 : decode cX8_began 21 = .ok (.getfield 226, 3) := by decide +kernel
theorem dX8_began_24 : decode cX8_began 24 = .ok (.iconst 1, 1) := by decide +kernel
theorem dX8_began_25 : decode cX8_began 25 = .ok (.iadd, 1) := by decide +kernel
theorem dX8_began_26 : decode cX8_began 26 = .ok (.putfield 226, 3) := by decide +kernel
theorem dX8_began_29 : decode cX8_began 29 = .ok (.return_, 1) := by decide +kernel
def bX8_began_0 : List sx_S := [si_al 0, si_get 7 22, si_const (nI 16), si_if2 (fun x y => y ≤ x) 29 [false, false], si_al 0, si_get 7 21, si_al 0, si_get 7 22, si_il 1, si_iast, si_al 0, si_dup, si_get 7 22, si_const 1, si_bin (fun x y => x + y), si_put 7 22 0, si_go 29 [false, false]]
def bX8_began_29 : List sx_S := [si_rv]
def BX8_began : Nat → List sx_S := fun pc => if pc = 0 then bX8_began_0 else if pc = 29 then bX8_began_29 else []
set_option maxRecDepth 20000 in
theorem kX8_began_0 : sx_BK sx_tb yX8_began.cls cX8_began 2 (none) ({ frames := 0, cells := 0, slots := 0, locals := 0 } : Room) false false 0 (fun _ => 0) 0 (bX8_began_0) := ⟨_, ⟨sn_aload_n dX8_began_0 rfl, sm_al _⟩, ⟨_, ⟨sn_get (C := RX8) (T := TX8) (N := 23) dX8_began_1 rfl zinX8 (Nat.le_of_ble_eq_true rfl) zw_3_204, sm_get _ _⟩, ⟨_, ⟨sn_bipush dX8_began_4 (by decide +kernel), sm_const _⟩, ⟨_, ⟨sn_ic_ge dX8_began_6 (by decide +kernel) rfl, sm_if2 _ _ _⟩, ⟨_, ⟨sn_aload_n dX8_began_9 rfl, sm_al _⟩, ⟨_, ⟨sn_get (C := RX8) (T := TX8) (N := 23) dX8_began_10 rfl zinX8 (Nat.le_of_ble_eq_true rfl) zw_3_203, sm_get _ _⟩, ⟨_, ⟨sn_aload_n dX8_began_13 rfl, sm_al _⟩, ⟨_, ⟨sn_get (C := RX8) (T := TX8) (N := 23) dX8_began_14 rfl zinX8 (Nat.le_of_ble_eq_true rfl) zw_3_204, sm_get _ _⟩, ⟨_, ⟨sn_iload_n dX8_began_17 rfl, sm_il _⟩, ⟨_, ⟨sn_iast dX8_began_18, sm_iast⟩, ⟨_, ⟨sn_aload_n dX8_began_19 rfl, sm_al _⟩, ⟨_, ⟨sn_dup dX8_began_20, sm_dup⟩, ⟨_, ⟨sn_get (C := RX8) (T := TX8) (N := 23) dX8_began_21 rfl zinX8 (Nat.le_of_ble_eq_true rfl) zw_3_204, sm_get _ _⟩, ⟨_, ⟨sn_iconst dX8_began_24 (by decide +kernel), sm_const _⟩, ⟨_, ⟨sn_iadd dX8_began_25, sm_bin _⟩, ⟨_, ⟨sn_put (C := RX8) (T := TX8) (N := 23) dX8_began_26 rfl zinX8 tyX8_ok nmX8 (Nat.le_of_ble_eq_true rfl) zw_3_204 rfl (tyX8_ok 22 (Nat.le_of_ble_eq_true rfl)) trivial, sm_put _ _ _⟩, ⟨_, ⟨sn_fall (len := 0) rfl rfl, sm_go _ _⟩, trivial⟩⟩⟩⟩⟩⟩⟩⟩⟩⟩⟩⟩⟩⟩⟩⟩⟩
set_option maxRecDepth 20000 in
theorem kX8_began_29 : sx_BK sx_tb yX8_began.cls cX8_began 2 (none) ({ frames := 0, cells := 0, slots := 0, locals := 0 } : Room) false false 0 (fun _ => 0) 29 (bX8_began_29) := ⟨_, ⟨sn_rv (len := 1) dX8_began_29 rfl, sm_rv⟩, trivial⟩
theorem kX8_began : ∀ pc, sx_BK sx_tb yX8_began.cls cX8_began 2 (none) ({ frames := 0, cells := 0, slots := 0, locals := 0 } : Room) false false 0 (fun _ => 0) pc (BX8_began pc) := fun pc => sx_bk_if (kX8_began_0) (sx_bk_if (kX8_began_29) (trivial))
theorem okX8_began : sx_ok sx_tb BX8_began (yX8_began, cX8_began, 2, none, { frames := 0, cells := 0, slots := 0, locals := 0 }) := ⟨by decide, by decide +kernel, false, (fun h => by cases h), kX8_began⟩
theorem dX8_plainSize_0 : decode cX8_plainSize 0 = .ok (.aload_n 0, 1) := by decide +kernel
theorem dX8_plainSize_1 : decode cX8_plainSize 1 = .ok (.bipush 10, 2) := by decide +kernel
theorem dX8_plainSize_3 : decode cX8_plainSize 3 = .ok (.invokevirtual 229, 3) := by decide +kernel
theorem dX8_plainSize_6 : decode cX8_plainSize 6 = .ok (.aload_n 0, 1) := by decide +kernel
theorem dX8_plainSize_7 : decode cX8_plainSize 7 = .ok (.getfield 19, 3) := by decide +kernel
theorem dX8_plainSize_10 : decode cX8_plainSize 10 = .ok (.iload_n 1, 1) := by decide +kernel
theorem dX8_plainSize_11 : decode cX8_plainSize 11 = .ok (.iconst 4, 1) := by decide +kernel
theorem dX8_plainSize_12 : decode cX8_plainSize 12 = .ok (.invokestatic 146, 3) := by decide +kernel
theorem dX8_plainSize_15 : decode cX8_plainSize 15 = .ok (.ireturn, 1) := by decide +kernel
def bX8_plainSize_0 : List sx_S := [si_al 0, si_const (nI 10), si_cv 7 185 1 0 0 0 0, si_al 0, si_get 7 5, si_il 1, si_const (nI 4), si_cs 147 3 0 0 0 0, si_ri]
def BX8_plainSize : Nat → List sx_S := fun pc => if pc = 0 then bX8_plainSize_0 else []
set_option maxRecDepth 20000 in
theorem kX8_plainSize_0 : sx_BK sx_tb yX8_plainSize.cls cX8_plainSize 2 (some .int) ({ frames := 1, cells := 0, slots := 0, locals := 22 } : Room) false false 0 (fun _ => 0) 0 (bX8_plainSize_0) := ⟨_, ⟨sn_aload_n dX8_plainSize_0 rfl, sm_al _⟩, ⟨_, ⟨sn_bipush dX8_plainSize_1 (by decide +kernel), sm_const _⟩, ⟨_, ⟨sn_cv_v (N := 23) (T := TX8) ztb_X8_began dX8_plainSize_3 rfl rfl zw_5_39 zw_5_41 zw_0_51 zw_1_8 zw_5_42 zmh_X8 zpd_X8_began (Nat.le_of_ble_eq_true rfl) (Nat.le_of_ble_eq_true rfl) rfl rfl, sm_cv _ _ _ _ _ _ _⟩, ⟨_, ⟨sn_aload_n dX8_plainSize_6 rfl, sm_al _⟩, ⟨_, ⟨sn_get (C := RX8) (T := TX8) (N := 23) dX8_plainSize_7 rfl zinX8 (Nat.le_of_ble_eq_true rfl) zw_3_187, sm_get _ _⟩, ⟨_, ⟨sn_iload_n dX8_plainSize_10 rfl, sm_il _⟩, ⟨_, ⟨sn_iconst dX8_plainSize_11 (by decide +kernel), sm_const _⟩, ⟨_, ⟨sn_cs_i ztb_X8_of dX8_plainSize_12 zw_4_126 zw_4_127 zw_1_8 zw_4_128 zmh_X8 zpd_X8_of (Nat.le_of_ble_eq_true rfl) (Nat.le_of_ble_eq_true rfl) rfl rfl, sm_cs _ _ _ _ _ _⟩, ⟨_, ⟨sn_ri (len := 1) dX8_plainSize_15 rfl, sm_ri⟩, trivial⟩⟩⟩⟩⟩⟩⟩⟩⟩
theorem kX8_plainSize : ∀ pc, sx_BK sx_tb yX8_plainSize.cls cX8_plainSize 2 (some .int) ({ frames := 1, cells := 0, slots := 0, locals := 22 } : Room) false false 0 (fun _ => 0) pc (BX8_plainSize pc) := fun pc => sx_bk_if (kX8_plainSize_0) (trivial)
theorem okX8_plainSize : sx_ok sx_tb BX8_plainSize (yX8_plainSize, cX8_plainSize, 2, some .int, { frames := 1, cells := 0, slots := 0, locals := 22 }) := ⟨by decide, by decide +kernel, false, (fun h => by cases h), kX8_plainSize⟩
theorem dX8_twiceSize_0 : decode cX8_twiceSize 0 = .ok (.aload_n 0, 1) := by decide +kernel
theorem dX8_twiceSize_1 : decode cX8_twiceSize 1 = .ok (.getfield 19, 3) := by decide +kernel
theorem dX8_twiceSize_4 : decode cX8_twiceSize 4 = .ok (.iload_n 1, 1) := by decide +kernel
theorem dX8_twiceSize_5 : decode cX8_twiceSize 5 = .ok (.iconst 0, 1) := by decide +kernel
theorem dX8_twiceSize_6 : decode cX8_twiceSize 6 = .ok (.invokestatic 146, 3) := by decide +kernel
theorem dX8_twiceSize_9 : decode cX8_twiceSize 9 = .ok (.iconst 5, 1) := by decide +kernel
theorem dX8_twiceSize_10 : decode cX8_twiceSize 10 = .ok (.if_icmp .ne 7, 3) := by decide +kernel
theorem dX8_twiceSize_13 : decode cX8_twiceSize 13 = .ok (.iconst 1, 1) := by decide +kernel
theorem dX8_twiceSize_14 : decode cX8_twiceSize 14 = .ok (.goto 4, 3) := by decide +kernel
theorem dX8_twiceSize_17 : decode cX8_twiceSize 17 = .ok (.iconst 0, 1) := by decide +kernel
theorem dX8_twiceSize_18 : decode cX8_twiceSize 18 = .ok (.istore_n 2, 1) := by decide +kernel
theorem dX8_twiceSize_19 : decode cX8_twiceSize 19 = .ok (.iload_n 2, 1) := by decide +kernel
theorem dX8_twiceSize_20 : decode cX8_twiceSize 20 = .ok (.ifCond .eq 9, 3) := by decide +kernel
theorem dX8_twiceSize_23 : decode cX8_twiceSize 23 = .ok (.aload_n 0, 1) := by decide +kernel
theorem dX8_twiceSize_24 : decode cX8_twiceSize 24 = .ok (.bipush 14, 2) := by decide +kernel
theorem dX8_twiceSize_26 : decode cX8_twiceSize 26 = .ok (.invokevirtual 229, 3) := by decide +kernel
theorem dX8_twiceSize_29 : decode cX8_twiceSize 29 = .ok (.aload_n 0, 1) := by decide +kernel
theorem dX8_twiceSize_30 : decode cX8_twiceSize 30 = .ok (.bipush 13, 2) := by decide +kernel
theorem dX8_twiceSize_32 : decode cX8_twiceSize 32 = .ok (.invokevirtual 229, 3) := by decide +kernel
theorem dX8_twiceSize_35 : decode cX8_twiceSize 35 = .ok (.aload_n 0, 1) := by decide +kernel
theorem dX8_twiceSize_36 : decode cX8_twiceSize 36 = .ok (.iload_n 1, 1) := by decide +kernel
theorem dX8_twiceSize_37 : decode cX8_twiceSize 37 = .ok (.invokevirtual 232, 3) := by decide +kernel
theorem dX8_twiceSize_40 : decode cX8_twiceSize 40 = .ok (.bipush 100, 2) := by decide +kernel
theorem dX8_twiceSize_42 : decode cX8_twiceSize 42 = .ok (.isub, 1) := by decide +kernel
theorem dX8_twiceSize_43 : decode cX8_twiceSize 43 = .ok (.istore_n 3, 1) := by decide +kernel
theorem dX8_twiceSize_44 : decode cX8_twiceSize 44 = .ok (.iload_n 2, 1) := by decide +kernel
theorem dX8_twiceSize_45 : decode cX8_twiceSize 45 = .ok (.ifCond .eq 9, 3) := by decide +kernel
theorem dX8_twiceSize_48 : decode cX8_twiceSize 48 = .ok (.iconst 2, 1) := by decide +kernel
theorem dX8_twiceSize_49 : decode cX8_twiceSize 49 = .ok (.iload_n 3, 1) := by decide +kernel
theorem dX8_twiceSize_50 : decode cX8_twiceSize 50 = .ok (.imul, 1) := by decide +kernel
theorem dX8_twiceSize_51 : decode cX8_twiceSize 51 = .ok (.goto 4, 3) := by decide +kernel
theorem dX8_twiceSize_54 : decode cX8_twiceSize 54 = .ok (.iload_n 3, 1) := by decide +kernel
theorem dX8_twiceSize_55 : decode cX8_twiceSize 55 = .ok (.ireturn, 1) := by decide +kernel
def bX8_twiceSize_0 : List sx_S := [si_al 0, si_get 7 5, si_il 1, si_const 0, si_cs 147 3 0 0 0 0, si_const (nI 5), si_if2 (fun x y => ¬ x = y) 17 [true, true, false, false], si_const 1, si_go 18 [true, true, false, false]]
def bX8_twiceSize_17 : List sx_S := [si_const 0, si_go 18 [true, true, false, false]]
def bX8_twiceSize_18 : List sx_S := [si_is 2, si_il 2, si_if1 (fun x => x = 0) 29 [true, true, true, false], si_al 0, si_const (nI 14), si_cv 7 185 1 0 0 0 0, si_go 29 [true, true, true, false]]
def bX8_twiceSize_29 : List sx_S := [si_al 0, si_const (nI 13), si_cv 7 185 1 0 0 0 0, si_al 0, si_il 1, si_cv 7 186 1 0 0 0 0, si_const (nI 100), si_bin (fun x y => x - y), si_is 3, si_il 2, si_if1 (fun x => x = 0) 54 [false, false, false, true], si_const (nI 2), si_il 3, si_bin (fun x y => x * y), si_go 55 [false, false, false, false]]
def bX8_twiceSize_54 : List sx_S := [si_il 3, si_go 55 [false, false, false, false]]
def bX8_twiceSize_55 : List sx_S := [si_ri]
def BX8_twiceSize : Nat → List sx_S := fun pc => if pc = 0 then bX8_twiceSize_0 else if pc = 17 then bX8_twiceSize_17 else if pc = 18 then bX8_twiceSize_18 else if pc = 29 then bX8_twiceSize_29 else if pc = 54 then bX8_twiceSize_54 else if pc = 55 then bX8_twiceSize_55 else []
set_option maxRecDepth 20000 in
theorem kX8_twiceSize_0 : sx_BK sx_tb yX8_twiceSize.cls cX8_twiceSize 4 (some .int) ({ frames := 2, cells := 0, slots := 0, locals := 43 } : Room) false false 0 (fun _ => 0) 0 (bX8_twiceSize_0) := ⟨_, ⟨sn_aload_n dX8_twiceSize_0 rfl, sm_al _⟩, ⟨_, ⟨sn_get (C := RX8) (T := TX8) (N := 23) dX8_twiceSize_1 rfl zinX8 (Nat.le_of_ble_eq_true rfl) zw_3_187, sm_get _ _⟩, ⟨_, ⟨sn_iload_n dX8_twiceSize_4 rfl, sm_il _⟩, ⟨_, ⟨sn_iconst dX8_twiceSize_5 (by decide +kernel), sm_const _⟩, ⟨_, ⟨sn_cs_i ztb_X8_of dX8_twiceSize_6 zw_4_126 zw_4_127 zw_1_8 zw_4_128 zmh_X8 zpd_X8_of (Nat.le_of_ble_eq_true rfl) (Nat.le_of_ble_eq_true rfl) rfl rfl, sm_cs _ _ _ _ _ _⟩, ⟨_, ⟨sn_iconst dX8_twiceSize_9 (by decide +kernel), sm_const _⟩, ⟨_, ⟨sn_ic_ne dX8_twiceSize_10 (by decide +kernel) rfl, sm_if2 _ _ _⟩, ⟨_, ⟨sn_iconst dX8_twiceSize_13 (by decide +kernel), sm_const _⟩, ⟨_, ⟨sn_goto (len := 3) dX8_twiceSize_14 (by decide +kernel) rfl, sm_go _ _⟩, trivial⟩⟩⟩⟩⟩⟩⟩⟩⟩
set_option maxRecDepth 20000 in
theorem kX8_twiceSize_17 : sx_BK sx_tb yX8_twiceSize.cls cX8_twiceSize 4 (some .int) ({ frames := 2, cells := 0, slots := 0, locals := 43 } : Room) false false 0 (fun _ => 0) 17 (bX8_twiceSize_17) := ⟨_, ⟨sn_iconst dX8_twiceSize_17 (by decide +kernel), sm_const _⟩, ⟨_, ⟨sn_fall (len := 0) rfl rfl, sm_go _ _⟩, trivial⟩⟩
set_option maxRecDepth 20000 in
theorem kX8_twiceSize_18 : sx_BK sx_tb yX8_twiceSize.cls cX8_twiceSize 4 (some .int) ({ frames := 2, cells := 0, slots := 0, locals := 43 } : Room) false false 0 (fun _ => 0) 18 (bX8_twiceSize_18) := ⟨_, ⟨sn_istore_n dX8_twiceSize_18 rfl (Nat.le_of_ble_eq_true rfl), sm_is _⟩, ⟨_, ⟨sn_iload_n dX8_twiceSize_19 rfl, sm_il _⟩, ⟨_, ⟨sn_if_eq dX8_twiceSize_20 (by decide +kernel) rfl, sm_if1 _ _ _⟩, ⟨_, ⟨sn_aload_n dX8_twiceSize_23 rfl, sm_al _⟩, ⟨_, ⟨sn_bipush dX8_twiceSize_24 (by decide +kernel), sm_const _⟩, ⟨_, ⟨sn_cv_v (N := 23) (T := TX8) ztb_X8_began dX8_twiceSize_26 rfl rfl zw_5_39 zw_5_41 zw_0_51 zw_1_8 zw_5_42 zmh_X8 zpd_X8_began (Nat.le_of_ble_eq_true rfl) (Nat.le_of_ble_eq_true rfl) rfl rfl, sm_cv _ _ _ _ _ _ _⟩, ⟨_, ⟨sn_fall (len := 0) rfl rfl, sm_go _ _⟩, trivial⟩⟩⟩⟩⟩⟩⟩
set_option maxRecDepth 20000 in
theorem kX8_twiceSize_29 : sx_BK sx_tb yX8_twiceSize.cls cX8_twiceSize 4 (some .int) ({ frames := 2, cells := 0, slots := 0, locals := 43 } : Room) false false 0 (fun _ => 0) 29 (bX8_twiceSize_29) := ⟨_, ⟨sn_aload_n dX8_twiceSize_29 rfl, sm_al _⟩, ⟨_, ⟨sn_bipush dX8_twiceSize_30 (by decide +kernel), sm_const _⟩, ⟨_, ⟨sn_cv_v (N := 23) (T := TX8) ztb_X8_began dX8_twiceSize_32 rfl rfl zw_5_39 zw_5_41 zw_0_51 zw_1_8 zw_5_42 zmh_X8 zpd_X8_began (Nat.le_of_ble_eq_true rfl) (Nat.le_of_ble_eq_true rfl) rfl rfl, sm_cv _ _ _ _ _ _ _⟩, ⟨_, ⟨sn_aload_n dX8_twiceSize_35 rfl, sm_al _⟩, ⟨_, ⟨sn_iload_n dX8_twiceSize_36 rfl, sm_il _⟩, ⟨_, ⟨sn_cv_i (N := 23) (T := TX8) ztb_X8_plainSize dX8_twiceSize_37 rfl rfl zw_5_43 zw_5_45 zw_0_52 zw_1_8 zw_5_46 zmh_X8 zpd_X8_plainSize (Nat.le_of_ble_eq_true rfl) (Nat.le_of_ble_eq_true rfl) rfl rfl, sm_cv _ _ _ _ _ _ _⟩, ⟨_, ⟨sn_bipush dX8_twiceSize_40 (by decide +kernel), sm_const _⟩, ⟨_, ⟨sn_isub dX8_twiceSize_42, sm_bin _⟩, ⟨_, ⟨sn_istore_n dX8_twiceSize_43 rfl (Nat.le_of_ble_eq_true rfl), sm_is _⟩, ⟨_, ⟨sn_iload_n dX8_twiceSize_44 rfl, sm_il _⟩, ⟨_, ⟨sn_if_eq dX8_twiceSize_45 (by decide +kernel) rfl, sm_if1 _ _ _⟩, ⟨_, ⟨sn_iconst dX8_twiceSize_48 (by decide +kernel), sm_const _⟩, ⟨_, ⟨sn_iload_n dX8_twiceSize_49 rfl, sm_il _⟩, ⟨_, ⟨sn_imul dX8_twiceSize_50, sm_bin _⟩, ⟨_, ⟨sn_goto (len := 3) dX8_twiceSize_51 (by decide +kernel) rfl, sm_go _ _⟩, trivial⟩⟩⟩⟩⟩⟩⟩⟩⟩⟩⟩⟩⟩⟩⟩
set_option maxRecDepth 20000 in
theorem kX8_twiceSize_54 : sx_BK sx_tb yX8_twiceSize.cls cX8_twiceSize 4 (some .int) ({ frames := 2, cells := 0, slots := 0, locals := 43 } : Room) false false 0 (fun _ => 0) 54 (bX8_twiceSize_54) := ⟨_, ⟨sn_iload_n dX8_twiceSize_54 rfl, sm_il _⟩, ⟨_, ⟨sn_fall (len := 0) rfl rfl, sm_go _ _⟩, trivial⟩⟩
set_option maxRecDepth 20000 in
theorem kX8_twiceSize_55 : sx_BK sx_tb yX8_twiceSize.cls cX8_twiceSize 4 (some .int) ({ frames := 2, cells := 0, slots := 0, locals := 43 } : Room) false false 0 (fun _ => 0) 55 (bX8_twiceSize_55) := ⟨_, ⟨sn_ri (len := 1) dX8_twiceSize_55 rfl, sm_ri⟩, trivial⟩
theorem kX8_twiceSize : ∀ pc, sx_BK sx_tb yX8_twiceSize.cls cX8_twiceSize 4 (some .int) ({ frames := 2, cells := 0, slots := 0, locals := 43 } : Room) false false 0 (fun _ => 0) pc (BX8_twiceSize pc) := fun pc => sx_bk_if (kX8_twiceSize_0) (sx_bk_if (kX8_twiceSize_17) (sx_bk_if (kX8_twiceSize_18) (sx_bk_if (kX8_twiceSize_29) (sx_bk_if (kX8_twiceSize_54) (sx_bk_if (kX8_twiceSize_55) (trivial))))))
theorem okX8_twiceSize : sx_ok sx_tb BX8_twiceSize (yX8_twiceSize, cX8_twiceSize, 4, some .int, { frames := 2, cells := 0, slots := 0, locals := 43 }) := ⟨by decide, by decide +kernel, false, (fun h => by cases h), kX8_twiceSize⟩
theorem dX8_markOf_0 : decode cX8_markOf 0 = .ok (.aload_n 0, 1) := by decide +kernel
theorem dX8_markOf_1 : decode cX8_markOf 1 = .ok (.getfield 19, 3) := by decide +kernel
theorem dX8_markOf_4 : decode cX8_markOf 4 = .ok (.iload_n 1, 1) := by decide +kernel
theorem dX8_markOf_5 : decode cX8_markOf 5 = .ok (.iconst 0, 1) := by decide +kernel
theorem dX8_markOf_6 : decode cX8_markOf 6 = .ok (.invokestatic 146, 3) := by decide +kernel
theorem dX8_markOf_9 : decode cX8_markOf 9 = .ok (.istore_n 2, 1) := by decide +kernel
theorem dX8_markOf_10 : decode cX8_markOf 10 = .ok (.iload_n 2, 1) := by decide +kernel
theorem dX8_markOf_11 : decode cX8_markOf 11 = .ok (.iconst 4, 1) := by decide +kernel
theorem dX8_markOf_12 : decode cX8_markOf 12 = .ok (.if_icmp .lt 23, 3) := by decide +kernel
theorem dX8_markOf_15 : decode cX8_markOf 15 = .ok (.aload_n 0, 1) := by decide +kernel
theorem dX8_markOf_16 : decode cX8_markOf 16 = .ok (.bipush 23, 2) := by decide +kernel
theorem dX8_markOf_18 : decode cX8_markOf 18 = .ok (.invokevirtual 229, 3) := by decide +kernel
theorem dX8_markOf_21 : decode cX8_markOf 21 = .ok (.aload_n 0, 1) := by decide +kernel
theorem dX8_markOf_22 : decode cX8_markOf 22 = .ok (.bipush 20, 2) := by decide +kernel
theorem dX8_markOf_24 : decode cX8_markOf 24 = .ok (.invokevirtual 229, 3) := by decide +kernel
theorem dX8_markOf_27 : decode cX8_markOf 27 = .ok (.iload_n 1, 1) := by decide +kernel
theorem dX8_markOf_28 : decode cX8_markOf 28 = .ok (.aload_n 0, 1) := by decide +kernel
theorem dX8_markOf_29 : decode cX8_markOf 29 = .ok (.iload_n 1, 1) := by decide +kernel
theorem dX8_markOf_30 : decode cX8_markOf 30 = .ok (.invokevirtual 235, 3) := by decide +kernel
theorem dX8_markOf_33 : decode cX8_markOf 33 = .ok (.isub, 1) := by decide +kernel
theorem dX8_markOf_34 : decode cX8_markOf 34 = .ok (.ireturn, 1) := by decide +kernel
theorem dX8_markOf_35 : decode cX8_markOf 35 = .ok (.iload_n 2, 1) := by decide +kernel
theorem dX8_markOf_36 : decode cX8_markOf 36 = .ok (.iconst 1, 1) := by decide +kernel
theorem dX8_markOf_37 : decode cX8_markOf 37 = .ok (.if_icmp .eq 19, 3) := by decide +kernel
theorem dX8_markOf_40 : decode cX8_markOf 40 = .ok (.aload_n 0, 1) := by decide +kernel
theorem dX8_markOf_41 : decode cX8_markOf 41 = .ok (.iload_n 2, 1) := by decide +kernel
theorem dX8_markOf_42 : decode cX8_markOf 42 = .ok (.iconst 3, 1) := by decide +kernel
theorem dX8_markOf_43 : decode cX8_markOf 43 = .ok (.if_icmp .ne 8, 3) := by decide +kernel
theorem dX8_markOf_46 : decode cX8_markOf 46 = .ok (.bipush 22, 2) := by decide +kernel
theorem dX8_markOf_48 : decode cX8_markOf 48 = .ok (.goto 5, 3) := by decide +kernel
theorem dX8_markOf_51 : decode cX8_markOf 51 = .ok (.bipush 24, 2) := by decide +kernel
theorem dX8_markOf_53 : decode cX8_markOf 53 = .ok (.invokevirtual 229, 3) := by decide +kernel
theorem dX8_markOf_56 : decode cX8_markOf 56 = .ok (.aload_n 0, 1) := by decide +kernel
theorem dX8_markOf_57 : decode cX8_markOf 57 = .ok (.bipush 21, 2) := by decide +kernel
theorem dX8_markOf_59 : decode cX8_markOf 59 = .ok (.invokevirtual 229, 3) := by decide +kernel
theorem dX8_markOf_62 : decode cX8_markOf 62 = .ok (.aload_n 0, 1) := by decide +kernel
theorem dX8_markOf_63 : decode cX8_markOf 63 = .ok (.bipush 20, 2) := by decide +kernel
theorem dX8_markOf_65 : decode cX8_markOf 65 = .ok (.invokevirtual 229, 3) := by decide +kernel
theorem dX8_markOf_68 : decode cX8_markOf 68 = .ok (.iload_n 1, 1) := by decide +kernel
theorem dX8_markOf_69 : decode cX8_markOf 69 = .ok (.aload_n 0, 1) := by decide +kernel
theorem dX8_markOf_70 : decode cX8_markOf 70 = .ok (.getfield 19, 3) := by decide +kernel
theorem dX8_markOf_73 : decode cX8_markOf 73 = .ok (.iload_n 1, 1) := by decide +kernel
theorem dX8_markOf_74 : decode cX8_markOf 74 = .ok (.iconst 1, 1) := by decide +kernel
theorem dX8_markOf_75 : decode cX8_markOf 75 = .ok (.invokestatic 146, 3) := by decide +kernel
theorem dX8_markOf_78 : decode cX8_markOf 78 = .ok (.iadd, 1) := by decide +kernel
theorem dX8_markOf_79 : decode cX8_markOf 79 = .ok (.istore_n 3, 1) := by decide +kernel
theorem dX8_markOf_80 : decode cX8_markOf 80 = .ok (.iload_n 2, 1) := by decide +kernel
theorem dX8_markOf_81 : decode cX8_markOf 81 = .ok (.iconst 1, 1) := by decide +kernel
theorem dX8_markOf_82 : decode cX8_markOf 82 = .ok (.if_icmp .ne 7, 3) := by decide +kernel
theorem dX8_markOf_85 : decode cX8_markOf 85 = .ok (.iload_n 3, 1) := by decide +kernel
theorem dX8_markOf_86 : decode cX8_markOf 86 = .ok (.goto 19, 3) := by decide +kernel
theorem dX8_markOf_89 : decode cX8_markOf 89 = .ok (.iload_n 2, 1) := by decide +kernel
theorem dX8_markOf_90 : decode cX8_markOf 90 = .ok (.iconst 3, 1) := by decide +kernel
theorem dX8_markOf_91 : decode cX8_markOf 91 = .ok (.if_icmp .ne 11, 3) := by decide +kernel
theorem dX8_markOf_94 : decode cX8_markOf 94 = .ok (.iload_n 3, 1) := by decide +kernel
theorem dX8_markOf_95 : decode cX8_markOf 95 = .ok (.sipush 1000, 3) := by decide +kernel
theorem dX8_markOf_98 : decode cX8_markOf 98 = .ok (.isub, 1) := by decide +kernel
theorem dX8_markOf_99 : decode cX8_markOf 99 = .ok (.goto 6, 3) := by decide +kernel
theorem dX8_markOf_102 : decode cX8_markOf 102 = .ok (.iconst 2, 1) := by decide +kernel
theorem dX8_markOf_103 : decode cX8_markOf 103 = .ok (.iload_n 3, 1) := by decide +kernel
theorem dX8_markOf_104 : decode cX8_markOf 104 = .ok (.imul, 1) := by decide +kernel
theorem dX8_markOf_105 : decode cX8_markOf 105 = .ok (.ireturn, 1) := by decide +kernel
def bX8_markOf_0 : List sx_S := [si_al 0, si_get 7 5, si_il 1, si_const 0, si_cs 147 3 0 0 0 0, si_is 2, si_il 2, si_const (nI 4), si_if2 (fun x y => x < y) 35 [true, true, true, false], si_al 0, si_const (nI 23), si_cv 7 185 1 0 0 0 0, si_al 0, si_const (nI 20), si_cv 7 185 1 0 0 0 0, si_il 1, si_al 0, si_il 1, si_cv 7 187 1 0 0 0 0, si_bin (fun x y => x - y), si_ri]
def bX8_markOf_35 : List sx_S := [si_il 2, si_const 1, si_if2 (fun x y => x = y) 56 [true, true, true, false], si_al 0, si_il 2, si_const (nI 3), si_if2 (fun x y => ¬ x = y) 51 [true, true, true, false], si_const (nI 22), si_go 53 [true, true, true, false]]
def bX8_markOf_51 : List sx_S := [si_const (nI 24), si_go 53 [true, true, true, false]]
def bX8_markOf_53 : List sx_S := [si_cv 7 185 1 0 0 0 0, si_go 56 [true, true, true, false]]
def bX8_markOf_56 : List sx_S := [si_al 0, si_const (nI 21), si_cv 7 185 1 0 0 0 0, si_al 0, si_const (nI 20), si_cv 7 185 1 0 0 0 0, si_il 1, si_al 0, si_get 7 5, si_il 1, si_const 1, si_cs 147 3 0 0 0 0, si_bin (fun x y => x + y), si_is 3, si_il 2, si_const 1, si_if2 (fun x y => ¬ x = y) 89 [false, false, true, true], si_il 3, si_go 105 [false, false, false, false]]
def bX8_markOf_89 : List sx_S := [si_il 2, si_const (nI 3), si_if2 (fun x y => ¬ x = y) 102 [false, false, false, true], si_il 3, si_const (nI 1000), si_bin (fun x y => x - y), si_go 105 [false, false, false, false]]
def bX8_markOf_102 : List sx_S := [si_const (nI 2), si_il 3, si_bin (fun x y => x * y), si_go 105 [false, false, false, false]]
def bX8_markOf_105 : List sx_S := [si_ri]
def BX8_markOf : Nat → List sx_S := fun pc => if pc = 0 then bX8_markOf_0 else if pc = 35 then bX8_markOf_35 else if pc = 51 then bX8_markOf_51 else if pc = 53 then bX8_markOf_53 else if pc = 56 then bX8_markOf_56 else if pc = 89 then bX8_markOf_89 else if pc = 102 then bX8_markOf_102 else if pc = 105 then bX8_markOf_105 else []
set_option maxRecDepth 20000 in
theorem kX8_markOf_0 : sx_BK sx_tb yX8_markOf.cls cX8_markOf 4 (some .int) ({ frames := 3, cells := 0, slots := 0, locals := 66 } : Room) false false 0 (fun _ => 0) 0 (bX8_markOf_0) := ⟨_, ⟨sn_aload_n dX8_markOf_0 rfl, sm_al _⟩, ⟨_, ⟨sn_get (C := RX8) (T := TX8) (N := 23) dX8_markOf_1 rfl zinX8 (Nat.le_of_ble_eq_true rfl) zw_3_187, sm_get _ _⟩, ⟨_, ⟨sn_iload_n dX8_markOf_4 rfl, sm_il _⟩, ⟨_, ⟨sn_iconst dX8_markOf_5 (by decide +kernel), sm_const _⟩, ⟨_, ⟨sn_cs_i ztb_X8_of dX8_markOf_6 zw_4_126 zw_4_127 zw_1_8 zw_4_128 zmh_X8 zpd_X8_of (Nat.le_of_ble_eq_true rfl) (Nat.le_of_ble_eq_true rfl) rfl rfl, sm_cs _ _ _ _ _ _⟩, ⟨_, ⟨sn_istore_n dX8_markOf_9 rfl (Nat.le_of_ble_eq_true rfl), sm_is _⟩, ⟨_, ⟨sn_iload_n dX8_markOf_10 rfl, sm_il _⟩, ⟨_, ⟨sn_iconst dX8_markOf_11 (by decide +kernel), sm_const _⟩, ⟨_, ⟨sn_ic_lt dX8_markOf_12 (by decide +kernel) rfl, sm_if2 _ _ _⟩, ⟨_, ⟨sn_aload_n dX8_markOf_15 rfl, sm_al _⟩, ⟨_, ⟨sn_bipush dX8_markOf_16 (by decide +kernel), sm_const _⟩, ⟨_, ⟨sn_cv_v (N := 23) (T := TX8) ztb_X8_began dX8_markOf_18 rfl rfl zw_5_39 zw_5_41 zw_0_51 zw_1_8 zw_5_42 zmh_X8 zpd_X8_began (Nat.le_of_ble_eq_true rfl) (Nat.le_of_ble_eq_true rfl) rfl rfl, sm_cv _ _ _ _ _ _ _⟩, ⟨_, ⟨sn_aload_n dX8_markOf_21 rfl, sm_al _⟩, ⟨_, ⟨sn_bipush dX8_markOf_22 (by decide +kernel), sm_const _⟩, ⟨_, ⟨sn_cv_v (N := 23) (T := TX8) ztb_X8_began dX8_markOf_24 rfl rfl zw_5_39 zw_5_41 zw_0_51 zw_1_8 zw_5_42 zmh_X8 zpd_X8_began (Nat.le_of_ble_eq_true rfl) (Nat.le_of_ble_eq_true rfl) rfl rfl, sm_cv _ _ _ _ _ _ _⟩, ⟨_, ⟨sn_iload_n dX8_markOf_27 rfl, sm_il _⟩, ⟨_, ⟨sn_aload_n dX8_markOf_28 rfl, sm_al _⟩, ⟨_, ⟨sn_iload_n dX8_markOf_29 rfl, sm_il _⟩, ⟨_, ⟨sn_cv_i (N := 23) (T := TX8) ztb_X8_twiceSize dX8_markOf_30 rfl rfl zw_5_35 zw_5_37 zw_0_50 zw_1_8 zw_5_38 zmh_X8 zpd_X8_twiceSize (Nat.le_of_ble_eq_true rfl) (Nat.le_of_ble_eq_true rfl) rfl rfl, sm_cv _ _ _ _ _ _ _⟩, ⟨_, ⟨sn_isub dX8_markOf_33, sm_bin _⟩, ⟨_, ⟨sn_ri (len := 1) dX8_markOf_34 rfl, sm_ri⟩, trivial⟩⟩⟩⟩⟩⟩⟩⟩⟩⟩⟩⟩⟩⟩⟩⟩⟩⟩⟩⟩⟩
set_option maxRecDepth 20000 in
theorem kX8_markOf_35 : sx_BK sx_tb yX8_markOf.cls cX8_markOf 4 (some .int) ({ frames := 3, cells := 0, slots := 0, locals := 66 } : Room) false false 0 (fun _ => 0) 35 (bX8_markOf_35) := ⟨_, ⟨sn_iload_n dX8_markOf_35 rfl, sm_il _⟩, ⟨_, ⟨sn_iconst dX8_markOf_36 (by decide +kernel), sm_const _⟩, ⟨_, ⟨sn_ic_eq dX8_markOf_37 (by decide +kernel) rfl, sm_if2 _ _ _⟩, ⟨_, ⟨sn_aload_n dX8_markOf_40 rfl, sm_al _⟩, ⟨_, ⟨sn_iload_n dX8_markOf_41 rfl, sm_il _⟩, ⟨_, ⟨sn_iconst dX8_markOf_42 (by decide +kernel), sm_const _⟩, ⟨_, ⟨sn_ic_ne dX8_markOf_43 (by decide +kernel) rfl, sm_if2 _ _ _⟩, ⟨_, ⟨sn_bipush dX8_markOf_46 (by decide +kernel), sm_const _⟩, ⟨_, ⟨sn_goto (len := 3) dX8_markOf_48 (by decide +kernel) rfl, sm_go _ _⟩, trivial⟩⟩⟩⟩⟩⟩⟩⟩⟩
set_option maxRecDepth 20000 in
theorem kX8_markOf_51 : sx_BK sx_tb yX8_markOf.cls cX8_markOf 4 (some .int) ({ frames := 3, cells := 0, slots := 0, locals := 66 } : Room) false false 0 (fun _ => 0) 51 (bX8_markOf_51) := ⟨_, ⟨sn_bipush dX8_markOf_51 (by decide +kernel), sm_const _⟩, ⟨_, ⟨sn_fall (len := 0) rfl rfl, sm_go _ _⟩, trivial⟩⟩
set_option maxRecDepth 20000 in
theorem kX8_markOf_53 : sx_BK sx_tb yX8_markOf.cls cX8_markOf 4 (some .int) ({ frames := 3, cells := 0, slots := 0, locals := 66 } : Room) false false 0 (fun _ => 0) 53 (bX8_markOf_53) := ⟨_, ⟨sn_cv_v (N := 23) (T := TX8) ztb_X8_began dX8_markOf_53 rfl rfl zw_5_39 zw_5_41 zw_0_51 zw_1_8 zw_5_42 zmh_X8 zpd_X8_began (Nat.le_of_ble_eq_true rfl) (Nat.le_of_ble_eq_true rfl) rfl rfl, sm_cv _ _ _ _ _ _ _⟩, ⟨_, ⟨sn_fall (len := 0) rfl rfl, sm_go _ _⟩, trivial⟩⟩
set_option maxRecDepth 20000 in
theorem kX8_markOf_56 : sx_BK sx_tb yX8_markOf.cls cX8_markOf 4 (some .int) ({ frames := 3, cells := 0, slots := 0, locals := 66 } : Room) false false 0 (fun _ => 0) 56 (bX8_markOf_56) := ⟨_, ⟨sn_aload_n dX8_markOf_56 rfl, sm_al _⟩, ⟨_, ⟨sn_bipush dX8_markOf_57 (by decide +kernel), sm_const _⟩, ⟨_, ⟨sn_cv_v (N := 23) (T := TX8) ztb_X8_began dX8_markOf_59 rfl rfl zw_5_39 zw_5_41 zw_0_51 zw_1_8 zw_5_42 zmh_X8 zpd_X8_began (Nat.le_of_ble_eq_true rfl) (Nat.le_of_ble_eq_true rfl) rfl rfl, sm_cv _ _ _ _ _ _ _⟩, ⟨_, ⟨sn_aload_n dX8_markOf_62 rfl, sm_al _⟩, ⟨_, ⟨sn_bipush dX8_markOf_63 (by decide +kernel), sm_const _⟩, ⟨_, ⟨sn_cv_v (N := 23) (T := TX8) ztb_X8_began dX8_markOf_65 rfl rfl zw_5_39 zw_5_41 zw_0_51 zw_1_8 zw_5_42 zmh_X8 zpd_X8_began (Nat.le_of_ble_eq_true rfl) (Nat.le_of_ble_eq_true rfl) rfl rfl, sm_cv _ _ _ _ _ _ _⟩, ⟨_, ⟨sn_iload_n dX8_markOf_68 rfl, sm_il _⟩, ⟨_, ⟨sn_aload_n dX8_markOf_69 rfl, sm_al _⟩, ⟨_, ⟨sn_get (C := RX8) (T := TX8) (N := 23) dX8_markOf_70 rfl zinX8 (Nat.le_of_ble_eq_true rfl) zw_3_187, sm_get _ _⟩, ⟨_, ⟨sn_iload_n dX8_markOf_73 rfl, sm_il _⟩, ⟨_, ⟨sn_iconst dX8_markOf_74 (by decide +kernel), sm_const _⟩, ⟨_, ⟨sn_cs_i ztb_X8_of dX8_markOf_75 zw_4_126 zw_4_127 zw_1_8 zw_4_128 zmh_X8 zpd_X8_of (Nat.le_of_ble_eq_true rfl) (Nat.le_of_ble_eq_true rfl) rfl rfl, sm_cs _ _ _ _ _ _⟩, ⟨_, ⟨sn_iadd dX8_markOf_78, sm_bin _⟩, ⟨_, ⟨sn_istore_n dX8_markOf_79 rfl (Nat.le_of_ble_eq_true rfl), sm_is _⟩, ⟨_, ⟨sn_iload_n dX8_markOf_80 rfl, sm_il _⟩, ⟨_, ⟨sn_iconst dX8_markOf_81 (by decide +kernel), sm_const _⟩, ⟨_, ⟨sn_ic_ne dX8_markOf_82 (by decide +kernel) rfl, sm_if2 _ _ _⟩, ⟨_, ⟨sn_iload_n dX8_markOf_85 rfl, sm_il _⟩, ⟨_, ⟨sn_goto (len := 3) dX8_markOf_86 (by decide +kernel) rfl, sm_go _ _⟩, trivial⟩⟩⟩⟩⟩⟩⟩⟩⟩⟩⟩⟩⟩⟩⟩⟩⟩⟩⟩
set_option maxRecDepth 20000 in
theorem kX8_markOf_89 : sx_BK sx_tb yX8_markOf.cls cX8_markOf 4 (some .int) ({ frames := 3, cells := 0, slots := 0, locals := 66 } : Room) false false 0 (fun _ => 0) 89 (bX8_markOf_89) := ⟨_, ⟨sn_iload_n dX8_markOf_89 rfl, sm_il _⟩, ⟨_, ⟨sn_iconst dX8_markOf_90 (by decide +kernel), sm_const _⟩, ⟨_, ⟨sn_ic_ne dX8_markOf_91 (by decide +kernel) rfl, sm_if2 _ _ _⟩, ⟨_, ⟨sn_iload_n dX8_markOf_94 rfl, sm_il _⟩, ⟨_, ⟨sn_sipush dX8_markOf_95 (by decide +kernel), sm_const _⟩, ⟨_, ⟨sn_isub dX8_markOf_98, sm_bin _⟩, ⟨_, ⟨sn_goto (len := 3) dX8_markOf_99 (by decide +kernel) rfl, sm_go _ _⟩, trivial⟩⟩⟩⟩⟩⟩⟩
set_option maxRecDepth 20000 in
theorem kX8_markOf_102 : sx_BK sx_tb yX8_markOf.cls cX8_markOf 4 (some .int) ({ frames := 3, cells := 0, slots := 0, locals := 66 } : Room) false false 0 (fun _ => 0) 102 (bX8_markOf_102) := ⟨_, ⟨sn_iconst dX8_markOf_102 (by decide +kernel), sm_const _⟩, ⟨_, ⟨sn_iload_n dX8_markOf_103 rfl, sm_il _⟩, ⟨_, ⟨sn_imul dX8_markOf_104, sm_bin _⟩, ⟨_, ⟨sn_fall (len := 0) rfl rfl, sm_go _ _⟩, trivial⟩⟩⟩⟩
set_option maxRecDepth 20000 in
theorem kX8_markOf_105 : sx_BK sx_tb yX8_markOf.cls cX8_markOf 4 (some .int) ({ frames := 3, cells := 0, slots := 0, locals := 66 } : Room) false false 0 (fun _ => 0) 105 (bX8_markOf_105) := ⟨_, ⟨sn_ri (len := 1) dX8_markOf_105 rfl, sm_ri⟩, trivial⟩
theorem kX8_markOf : ∀ pc, sx_BK sx_tb yX8_markOf.cls cX8_markOf 4 (some .int) ({ frames := 3, cells := 0, slots := 0, locals := 66 } : Room) false false 0 (fun _ => 0) pc (BX8_markOf pc) := fun pc => sx_bk_if (kX8_markOf_0) (sx_bk_if (kX8_markOf_35) (sx_bk_if (kX8_markOf_51) (sx_bk_if (kX8_markOf_53) (sx_bk_if (kX8_markOf_56) (sx_bk_if (kX8_markOf_89) (sx_bk_if (kX8_markOf_102) (sx_bk_if (kX8_markOf_105) (trivial))))))))
theorem okX8_markOf : sx_ok sx_tb BX8_markOf (yX8_markOf, cX8_markOf, 4, some .int, { frames := 3, cells := 0, slots := 0, locals := 66 }) := ⟨by decide, by decide +kernel, false, (fun h => by cases h), kX8_markOf⟩
theorem dX8_sizeOf_0 : decode cX8_sizeOf 0 = .ok (.aload_n 0, 1) := by decide +kernel
theorem dX8_sizeOf_1 : decode cX8_sizeOf 1 = .ok (.getfield 19, 3) := by decide +kernel
theorem dX8_sizeOf_4 : decode cX8_sizeOf 4 = .ok (.iload_n 1, 1) := by decide +kernel
theorem dX8_sizeOf_5 : decode cX8_sizeOf 5 = .ok (.iconst 0, 1) := by decide +kernel
theorem dX8_sizeOf_6 : decode cX8_sizeOf 6 = .ok (.invokestatic 146, 3) := by decide +kernel
theorem dX8_sizeOf_9 : decode cX8_sizeOf 9 = .ok (.istore_n 2, 1) := by decide +kernel
theorem dX8_sizeOf_10 : decode cX8_sizeOf 10 = .ok (.iload_n 2, 1) := by decide +kernel
theorem dX8_sizeOf_11 : decode cX8_sizeOf 11 = .ok (.iconst 4, 1) := by decide +kernel
theorem dX8_sizeOf_12 : decode cX8_sizeOf 12 = .ok (.if_icmp .lt 9, 3) := by decide +kernel
theorem dX8_sizeOf_15 : decode cX8_sizeOf 15 = .ok (.aload_n 0, 1) := by decide +kernel
theorem dX8_sizeOf_16 : decode cX8_sizeOf 16 = .ok (.iload_n 1, 1) := by decide +kernel
theorem dX8_sizeOf_17 : decode cX8_sizeOf 17 = .ok (.invokevirtual 235, 3) := by decide +kernel
theorem dX8_sizeOf_20 : decode cX8_sizeOf 20 = .ok (.ireturn, 1) := by decide +kernel
theorem dX8_sizeOf_21 : decode cX8_sizeOf 21 = .ok (.iload_n 2, 1) := by decide +kernel
theorem dX8_sizeOf_22 : decode cX8_sizeOf 22 = .ok (.iconst 2, 1) := by decide +kernel
theorem dX8_sizeOf_23 : decode cX8_sizeOf 23 = .ok (.if_icmp .ne 9, 3) := by decide +kernel
theorem dX8_sizeOf_26 : decode cX8_sizeOf 26 = .ok (.aload_n 0, 1) := by decide +kernel
theorem dX8_sizeOf_27 : decode cX8_sizeOf 27 = .ok (.bipush 12, 2) := by decide +kernel
theorem dX8_sizeOf_29 : decode cX8_sizeOf 29 = .ok (.invokevirtual 229, 3) := by decide +kernel
theorem dX8_sizeOf_32 : decode cX8_sizeOf 32 = .ok (.aload_n 0, 1) := by decide +kernel
theorem dX8_sizeOf_33 : decode cX8_sizeOf 33 = .ok (.bipush 11, 2) := by decide +kernel
theorem dX8_sizeOf_35 : decode cX8_sizeOf 35 = .ok (.invokevirtual 229, 3) := by decide +kernel
theorem dX8_sizeOf_38 : decode cX8_sizeOf 38 = .ok (.aload_n 0, 1) := by decide +kernel
theorem dX8_sizeOf_39 : decode cX8_sizeOf 39 = .ok (.iload_n 1, 1) := by decide +kernel
theorem dX8_sizeOf_40 : decode cX8_sizeOf 40 = .ok (.invokevirtual 232, 3) := by decide +kernel
theorem dX8_sizeOf_43 : decode cX8_sizeOf 43 = .ok (.istore_n 3, 1) := by decide +kernel
theorem dX8_sizeOf_44 : decode cX8_sizeOf 44 = .ok (.iload_n 3, 1) := by decide +kernel
theorem dX8_sizeOf_45 : decode cX8_sizeOf 45 = .ok (.aload_n 0, 1) := by decide +kernel
theorem dX8_sizeOf_46 : decode cX8_sizeOf 46 = .ok (.iload_n 1, 1) := by decide +kernel
theorem dX8_sizeOf_47 : decode cX8_sizeOf 47 = .ok (.invokevirtual 238, 3) := by decide +kernel
theorem dX8_sizeOf_50 : decode cX8_sizeOf 50 = .ok (.iadd, 1) := by decide +kernel
theorem dX8_sizeOf_51 : decode cX8_sizeOf 51 = .ok (.istore_n 3, 1) := by decide +kernel
theorem dX8_sizeOf_52 : decode cX8_sizeOf 52 = .ok (.iload_n 2, 1) := by decide +kernel
theorem dX8_sizeOf_53 : decode cX8_sizeOf 53 = .ok (.iconst 2, 1) := by decide +kernel
theorem dX8_sizeOf_54 : decode cX8_sizeOf 54 = .ok (.if_icmp .ne 8, 3) := by decide +kernel
theorem dX8_sizeOf_57 : decode cX8_sizeOf 57 = .ok (.iload_n 3, 1) := by decide +kernel
theorem dX8_sizeOf_58 : decode cX8_sizeOf 58 = .ok (.ineg, 1) := by decide +kernel
theorem dX8_sizeOf_59 : decode cX8_sizeOf 59 = .ok (.goto 4, 3) := by decide +kernel
theorem dX8_sizeOf_62 : decode cX8_sizeOf 62 = .ok (.iload_n 3, 1) := by decide +kernel
theorem dX8_sizeOf_63 : decode cX8_sizeOf 63 = .ok (.ireturn, 1) := by decide +kernel
def bX8_sizeOf_0 : List sx_S := [si_al 0, si_get 7 5, si_il 1, si_const 0, si_cs 147 3 0 0 0 0, si_is 2, si_il 2, si_const (nI 4), si_if2 (fun x y => x < y) 21 [true, true, true, false], si_al 0, si_il 1, si_cv 7 187 1 0 0 0 0, si_ri]
def bX8_sizeOf_21 : List sx_S := [si_il 2, si_const (nI 2), si_if2 (fun x y => ¬ x = y) 32 [true, true, true, false], si_al 0, si_const (nI 12), si_cv 7 185 1 0 0 0 0, si_go 32 [true, true, true, false]]
def bX8_sizeOf_32 : List sx_S := [si_al 0, si_const (nI 11), si_cv 7 185 1 0 0 0 0, si_al 0, si_il 1, si_cv 7 186 1 0 0 0 0, si_is 3, si_il 3, si_al 0, si_il 1, si_cv 7 188 1 0 0 0 0, si_bin (fun x y => x + y), si_is 3, si_il 2, si_const (nI 2), si_if2 (fun x y => ¬ x = y) 62 [false, false, false, true], si_il 3, si_un (fun x => -x), si_go 63 [false, false, false, false]]
def bX8_sizeOf_62 : List sx_S := [si_il 3, si_go 63 [false, false, false, false]]
def bX8_sizeOf_63 : List sx_S := [si_ri]
def BX8_sizeOf : Nat → List sx_S := fun pc => if pc = 0 then bX8_sizeOf_0 else if pc = 21 then bX8_sizeOf_21 else if pc = 32 then bX8_sizeOf_32 else if pc = 62 then bX8_sizeOf_62 else if pc = 63 then bX8_sizeOf_63 else []
set_option maxRecDepth 20000 in
theorem kX8_sizeOf_0 : sx_BK sx_tb yX8_sizeOf.cls cX8_sizeOf 4 (some .int) ({ frames := 4, cells := 0, slots := 0, locals := 89 } : Room) false false 0 (fun _ => 0) 0 (bX8_sizeOf_0) := ⟨_, ⟨sn_aload_n dX8_sizeOf_0 rfl, sm_al _⟩, ⟨_, ⟨sn_get (C := RX8) (T := TX8) (N := 23) dX8_sizeOf_1 rfl zinX8 (Nat.le_of_ble_eq_true rfl) zw_3_187, sm_get _ _⟩, ⟨_, ⟨sn_iload_n dX8_sizeOf_4 rfl, sm_il _⟩, ⟨_, ⟨sn_iconst dX8_sizeOf_5 (by decide +kernel), sm_const _⟩, ⟨_, ⟨sn_cs_i ztb_X8_of dX8_sizeOf_6 zw_4_126 zw_4_127 zw_1_8 zw_4_128 zmh_X8 zpd_X8_of (Nat.le_of_ble_eq_true rfl) (Nat.le_of_ble_eq_true rfl) rfl rfl, sm_cs _ _ _ _ _ _⟩, ⟨_, ⟨sn_istore_n dX8_sizeOf_9 rfl (Nat.le_of_ble_eq_true rfl), sm_is _⟩, ⟨_, ⟨sn_iload_n dX8_sizeOf_10 rfl, sm_il _⟩, ⟨_, ⟨sn_iconst dX8_sizeOf_11 (by decide +kernel), sm_const _⟩, ⟨_, ⟨sn_ic_lt dX8_sizeOf_12 (by decide +kernel) rfl, sm_if2 _ _ _⟩, ⟨_, ⟨sn_aload_n dX8_sizeOf_15 rfl, sm_al _⟩, ⟨_, ⟨sn_iload_n dX8_sizeOf_16 rfl, sm_il _⟩, ⟨_, ⟨sn_cv_i (N := 23) (T := TX8) ztb_X8_twiceSize dX8_sizeOf_17 rfl rfl zw_5_35 zw_5_37 zw_0_50 zw_1_8 zw_5_38 zmh_X8 zpd_X8_twiceSize (Nat.le_of_ble_eq_true rfl) (Nat.le_of_ble_eq_true rfl) rfl rfl, sm_cv _ _ _ _ _ _ _⟩, ⟨_, ⟨sn_ri (len := 1) dX8_sizeOf_20 rfl, sm_ri⟩, trivial⟩⟩⟩⟩⟩⟩⟩⟩⟩⟩⟩⟩⟩
set_option maxRecDepth 20000 in
theorem kX8_sizeOf_21 : sx_BK sx_tb yX8_sizeOf.cls cX8_sizeOf 4 (some .int) ({ frames := 4, cells := 0, slots := 0, locals := 89 } : Room) false false 0 (fun _ => 0) 21 (bX8_sizeOf_21) := ⟨_, ⟨sn_iload_n dX8_sizeOf_21 rfl, sm_il _⟩, ⟨_, ⟨sn_iconst dX8_sizeOf_22 (by decide +kernel), sm_const _⟩, ⟨_, ⟨sn_ic_ne dX8_sizeOf_23 (by decide +kernel) rfl, sm_if2 _ _ _⟩, ⟨_, ⟨sn_aload_n dX8_sizeOf_26 rfl, sm_al _⟩, ⟨_, ⟨sn_bipush dX8_sizeOf_27 (by decide +kernel), sm_const _⟩, ⟨_, ⟨sn_cv_v (N := 23) (T := TX8) ztb_X8_began dX8_sizeOf_29 rfl rfl zw_5_39 zw_5_41 zw_0_51 zw_1_8 zw_5_42 zmh_X8 zpd_X8_began (Nat.le_of_ble_eq_true rfl) (Nat.le_of_ble_eq_true rfl) rfl rfl, sm_cv _ _ _ _ _ _ _⟩, ⟨_, ⟨sn_fall (len := 0) rfl rfl, sm_go _ _⟩, trivial⟩⟩⟩⟩⟩⟩⟩
set_option maxRecDepth 20000 in
theorem kX8_sizeOf_32 : sx_BK sx_tb yX8_sizeOf.cls cX8_sizeOf 4 (some .int) ({ frames := 4, cells := 0, slots := 0, locals := 89 } : Room) false false 0 (fun _ => 0) 32 (bX8_sizeOf_32) := ⟨_, ⟨sn_aload_n dX8_sizeOf_32 rfl, sm_al _⟩, ⟨_, ⟨sn_bipush dX8_sizeOf_33 (by decide +kernel), sm_const _⟩, ⟨_, ⟨sn_cv_v (N := 23) (T := TX8) ztb_X8_began dX8_sizeOf_35 rfl rfl zw_5_39 zw_5_41 zw_0_51 zw_1_8 zw_5_42 zmh_X8 zpd_X8_began (Nat.le_of_ble_eq_true rfl) (Nat.le_of_ble_eq_true rfl) rfl rfl, sm_cv _ _ _ _ _ _ _⟩, ⟨_, ⟨sn_aload_n dX8_sizeOf_38 rfl, sm_al _⟩, ⟨_, ⟨sn_iload_n dX8_sizeOf_39 rfl, sm_il _⟩, ⟨_, ⟨sn_cv_i (N := 23) (T := TX8) ztb_X8_plainSize dX8_sizeOf_40 rfl rfl zw_5_43 zw_5_45 zw_0_52 zw_1_8 zw_5_46 zmh_X8 zpd_X8_plainSize (Nat.le_of_ble_eq_true rfl) (Nat.le_of_ble_eq_true rfl) rfl rfl, sm_cv _ _ _ _ _ _ _⟩, ⟨_, ⟨sn_istore_n dX8_sizeOf_43 rfl (Nat.le_of_ble_eq_true rfl), sm_is _⟩, ⟨_, ⟨sn_iload_n dX8_sizeOf_44 rfl, sm_il _⟩, ⟨_, ⟨sn_aload_n dX8_sizeOf_45 rfl, sm_al _⟩, ⟨_, ⟨sn_iload_n dX8_sizeOf_46 rfl, sm_il _⟩, ⟨_, ⟨sn_cv_i (N := 23) (T := TX8) ztb_X8_markOf dX8_sizeOf_47 rfl rfl zw_5_47 zw_5_49 zw_0_53 zw_1_8 zw_5_50 zmh_X8 zpd_X8_markOf (Nat.le_of_ble_eq_true rfl) (Nat.le_of_ble_eq_true rfl) rfl rfl, sm_cv _ _ _ _ _ _ _⟩, ⟨_, ⟨sn_iadd dX8_sizeOf_50, sm_bin _⟩, ⟨_, ⟨sn_istore_n dX8_sizeOf_51 rfl (Nat.le_of_ble_eq_true rfl), sm_is _⟩, ⟨_, ⟨sn_iload_n dX8_sizeOf_52 rfl, sm_il _⟩, ⟨_, ⟨sn_iconst dX8_sizeOf_53 (by decide +kernel), sm_const _⟩, ⟨_, ⟨sn_ic_ne dX8_sizeOf_54 (by decide +kernel) rfl, sm_if2 _ _ _⟩, ⟨_, ⟨sn_iload_n dX8_sizeOf_57 rfl, sm_il _⟩, ⟨_, ⟨sn_ineg dX8_sizeOf_58, sm_un _⟩, ⟨_, ⟨sn_goto (len := 3) dX8_sizeOf_59 (by decide +kernel) rfl, sm_go _ _⟩, trivial⟩⟩⟩⟩⟩⟩⟩⟩⟩⟩⟩⟩⟩⟩⟩⟩⟩⟩⟩
set_option maxRecDepth 20000 in
theorem kX8_sizeOf_62 : sx_BK sx_tb yX8_sizeOf.cls cX8_sizeOf 4 (some .int) ({ frames := 4, cells := 0, slots := 0, locals := 89 } : Room) false false 0 (fun _ => 0) 62 (bX8_sizeOf_62) := ⟨_, ⟨sn_iload_n dX8_sizeOf_62 rfl, sm_il _⟩, ⟨_, ⟨sn_fall (len := 0) rfl rfl, sm_go _ _⟩, trivial⟩⟩
set_option maxRecDepth 20000 in
theorem kX8_sizeOf_63 : sx_BK sx_tb yX8_sizeOf.cls cX8_sizeOf 4 (some .int) ({ frames := 4, cells := 0, slots := 0, locals := 89 } : Room) false false 0 (fun _ => 0) 63 (bX8_sizeOf_63) := ⟨_, ⟨sn_ri (len := 1) dX8_sizeOf_63 rfl, sm_ri⟩, trivial⟩
theorem kX8_sizeOf : ∀ pc, sx_BK sx_tb yX8_sizeOf.cls cX8_sizeOf 4 (some .int) ({ frames := 4, cells := 0, slots := 0, locals := 89 } : Room) false false 0 (fun _ => 0) pc (BX8_sizeOf pc) := fun pc => sx_bk_if (kX8_sizeOf_0) (sx_bk_if (kX8_sizeOf_21) (sx_bk_if (kX8_sizeOf_32) (sx_bk_if (kX8_sizeOf_62) (sx_bk_if (kX8_sizeOf_63) (trivial)))))
theorem okX8_sizeOf : sx_ok sx_tb BX8_sizeOf (yX8_sizeOf, cX8_sizeOf, 4, some .int, { frames := 4, cells := 0, slots := 0, locals := 89 }) := ⟨by decide, by decide +kernel, false, (fun h => by cases h), kX8_sizeOf⟩
theorem dX8_ask_0 : decode cX8_ask 0 = .ok (.aload_n 0, 1) := by decide +kernel
theorem dX8_ask_1 : decode cX8_ask 1 = .ok (.iconst 0, 1) := by decide +kernel
theorem dX8_ask_2 : decode cX8_ask 2 = .ok (.putfield 44, 3) := by decide +kernel
theorem dX8_ask_5 : decode cX8_ask 5 = .ok (.aload_n 0, 1) := by decide +kernel
theorem dX8_ask_6 : decode cX8_ask 6 = .ok (.iload_n 1, 1) := by decide +kernel
theorem dX8_ask_7 : decode cX8_ask 7 = .ok (.invokevirtual 181, 3) := by decide +kernel
theorem dX8_ask_10 : decode cX8_ask 10 = .ok (.ifCond .eq 13, 3) := by decide +kernel
theorem dX8_ask_13 : decode cX8_ask 13 = .ok (.iload_n 2, 1) := by decide +kernel
theorem dX8_ask_14 : decode cX8_ask 14 = .ok (.i2l, 1) := by decide +kernel
theorem dX8_ask_15 : decode cX8_ask 15 = .ok (.lconst 0, 1) := by decide +kernel
theorem dX8_ask_16 : decode cX8_ask 16 = .ok (.lconst 1, 1) := by decide +kernel
theorem dX8_ask_17 : decode cX8_ask 17 = .ok (.invokestatic 54, 3) := by decide +kernel
theorem dX8_ask_20 : decode cX8_ask 20 = .ok (.ifCond .ne 6, 3) := by decide +kernel
theorem dX8_ask_23 : decode cX8_ask 23 = .ok (.ldc 64, 2) := by decide +kernel
theorem dX8_ask_25 : decode cX8_ask 25 = .ok (.ireturn, 1) := by decide +kernel
theorem dX8_ask_26 : decode cX8_ask 26 = .ok (.aload_n 0, 1) := by decide +kernel
theorem dX8_ask_27 : decode cX8_ask 27 = .ok (.iconst 0, 1) := by decide +kernel
theorem dX8_ask_28 : decode cX8_ask 28 = .ok (.putfield 226, 3) := by decide +kernel
theorem dX8_ask_31 : decode cX8_ask 31 = .ok (.iload_n 2, 1) := by decide +kernel
theorem dX8_ask_32 : decode cX8_ask 32 = .ok (.ifCond .ne 11, 3) := by decide +kernel
theorem dX8_ask_35 : decode cX8_ask 35 = .ok (.aload_n 0, 1) := by decide +kernel
theorem dX8_ask_36 : decode cX8_ask 36 = .ok (.iload_n 1, 1) := by decide +kernel
theorem dX8_ask_37 : decode cX8_ask 37 = .ok (.invokevirtual 241, 3) := by decide +kernel
theorem dX8_ask_40 : decode cX8_ask 40 = .ok (.goto 8, 3) := by decide +kernel
theorem dX8_ask_43 : decode cX8_ask 43 = .ok (.aload_n 0, 1) := by decide +kernel
theorem dX8_ask_44 : decode cX8_ask 44 = .ok (.iload_n 1, 1) := by decide +kernel
theorem dX8_ask_45 : decode cX8_ask 45 = .ok (.invokevirtual 238, 3) := by decide +kernel
theorem dX8_ask_48 : decode cX8_ask 48 = .ok (.ireturn, 1) := by decide +kernel
def bX8_ask_0 : List sx_S := [si_al 0, si_const 0, si_put 7 0 0, si_al 0, si_il 1, si_cv 7 146 1 0 0 0 0, si_if1 (fun x => x = 0) 23 [false, false, false], si_il 2, si_i2l, si_lconst 0, si_lconst 1, si_cs 124 3 0 0 0 0, si_if1 (fun x => ¬ x = 0) 26 [true, true, true], si_go 23 [false, false, false]]
def bX8_ask_23 : List sx_S := [si_const (-1000001), si_ri]
def bX8_ask_26 : List sx_S := [si_al 0, si_const 0, si_put 7 22 0, si_il 2, si_if1 (fun x => ¬ x = 0) 43 [true, true, false], si_al 0, si_il 1, si_cv 7 189 1 0 0 0 0, si_go 48 [false, false, false]]
def bX8_ask_43 : List sx_S := [si_al 0, si_il 1, si_cv 7 188 1 0 0 0 0, si_go 48 [false, false, false]]
def bX8_ask_48 : List sx_S := [si_ri]
def BX8_ask : Nat → List sx_S := fun pc => if pc = 0 then bX8_ask_0 else if pc = 23 then bX8_ask_23 else if pc = 26 then bX8_ask_26 else if pc = 43 then bX8_ask_43 else if pc = 48 then bX8_ask_48 else []
set_option maxRecDepth 20000 in
theorem kX8_ask_0 : sx_BK sx_tb yX8_ask.cls cX8_ask 3 (some .int) ({ frames := 5, cells := 0, slots := 0, locals := 112 } : Room) false false 0 (fun _ => 0) 0 (bX8_ask_0) := ⟨_, ⟨sn_aload_n dX8_ask_0 rfl, sm_al _⟩, ⟨_, ⟨sn_iconst dX8_ask_1 (by decide +kernel), sm_const _⟩, ⟨_, ⟨sn_put (C := RX8) (T := TX8) (N := 23) dX8_ask_2 rfl zinX8 tyX8_ok nmX8 (Nat.le_of_ble_eq_true rfl) zw_3_182 rfl (tyX8_ok 0 (Nat.le_of_ble_eq_true rfl)) trivial, sm_put _ _ _⟩, ⟨_, ⟨sn_aload_n dX8_ask_5 rfl, sm_al _⟩, ⟨_, ⟨sn_iload_n dX8_ask_6 rfl, sm_il _⟩, ⟨_, ⟨sn_cv_z (N := 23) (T := TX8) ztb_X8_isDebtor dX8_ask_7 rfl rfl zw_4_145 zw_4_147 zw_0_47 zw_1_8 zw_4_148 zmh_X8 zpd_X8_isDebtor (Nat.le_of_ble_eq_true rfl) (Nat.le_of_ble_eq_true rfl) rfl rfl, sm_cv _ _ _ _ _ _ _⟩, ⟨_, ⟨sn_if_eq dX8_ask_10 (by decide +kernel) rfl, sm_if1 _ _ _⟩, ⟨_, ⟨sn_iload_n dX8_ask_13 rfl, sm_il _⟩, ⟨_, ⟨sn_i2l dX8_ask_14, sm_i2l⟩, ⟨_, ⟨sn_lconst dX8_ask_15 (by decide +kernel), sm_lconst _⟩, ⟨_, ⟨sn_lconst dX8_ask_16 (by decide +kernel), sm_lconst _⟩, ⟨_, ⟨sn_cs_z ztb_X8_in dX8_ask_17 zw_4_21 zw_4_22 zw_1_8 zw_4_23 zmh_X8 zpd_X8_in (Nat.le_of_ble_eq_true rfl) (Nat.le_of_ble_eq_true rfl) rfl rfl, sm_cs _ _ _ _ _ _⟩, ⟨_, ⟨sn_if_ne dX8_ask_20 (by decide +kernel) rfl, sm_if1 _ _ _⟩, ⟨_, ⟨sn_fall (len := 0) rfl rfl, sm_go _ _⟩, trivial⟩⟩⟩⟩⟩⟩⟩⟩⟩⟩⟩⟩⟩⟩
set_option maxRecDepth 20000 in
theorem kX8_ask_23 : sx_BK sx_tb yX8_ask.cls cX8_ask 3 (some .int) ({ frames := 5, cells := 0, slots := 0, locals := 112 } : Room) false false 0 (fun _ => 0) 23 (bX8_ask_23) := ⟨_, ⟨sn_ldc dX8_ask_23 zw_4_25, sm_const _⟩, ⟨_, ⟨sn_ri (len := 1) dX8_ask_25 rfl, sm_ri⟩, trivial⟩⟩
set_option maxRecDepth 20000 in
theorem kX8_ask_26 : sx_BK sx_tb yX8_ask.cls cX8_ask 3 (some .int) ({ frames := 5, cells := 0, slots := 0, locals := 112 } : Room) false false 0 (fun _ => 0) 26 (bX8_ask_26) := ⟨_, ⟨sn_aload_n dX8_ask_26 rfl, sm_al _⟩, ⟨_, ⟨sn_iconst dX8_ask_27 (by decide +kernel), sm_const _⟩, ⟨_, ⟨sn_put (C := RX8) (T := TX8) (N := 23) dX8_ask_28 rfl zinX8 tyX8_ok nmX8 (Nat.le_of_ble_eq_true rfl) zw_3_204 rfl (tyX8_ok 22 (Nat.le_of_ble_eq_true rfl)) trivial, sm_put _ _ _⟩, ⟨_, ⟨sn_iload_n dX8_ask_31 rfl, sm_il _⟩, ⟨_, ⟨sn_if_ne dX8_ask_32 (by decide +kernel) rfl, sm_if1 _ _ _⟩, ⟨_, ⟨sn_aload_n dX8_ask_35 rfl, sm_al _⟩, ⟨_, ⟨sn_iload_n dX8_ask_36 rfl, sm_il _⟩, ⟨_, ⟨sn_cv_i (N := 23) (T := TX8) ztb_X8_sizeOf dX8_ask_37 rfl rfl zw_5_31 zw_5_33 zw_0_49 zw_1_8 zw_5_34 zmh_X8 zpd_X8_sizeOf (Nat.le_of_ble_eq_true rfl) (Nat.le_of_ble_eq_true rfl) rfl rfl, sm_cv _ _ _ _ _ _ _⟩, ⟨_, ⟨sn_goto (len := 3) dX8_ask_40 (by decide +kernel) rfl, sm_go _ _⟩, trivial⟩⟩⟩⟩⟩⟩⟩⟩⟩
set_option maxRecDepth 20000 in
theorem kX8_ask_43 : sx_BK sx_tb yX8_ask.cls cX8_ask 3 (some .int) ({ frames := 5, cells := 0, slots := 0, locals := 112 } : Room) false false 0 (fun _ => 0) 43 (bX8_ask_43) := ⟨_, ⟨sn_aload_n dX8_ask_43 rfl, sm_al _⟩, ⟨_, ⟨sn_iload_n dX8_ask_44 rfl, sm_il _⟩, ⟨_, ⟨sn_cv_i (N := 23) (T := TX8) ztb_X8_markOf dX8_ask_45 rfl rfl zw_5_47 zw_5_49 zw_0_53 zw_1_8 zw_5_50 zmh_X8 zpd_X8_markOf (Nat.le_of_ble_eq_true rfl) (Nat.le_of_ble_eq_true rfl) rfl rfl, sm_cv _ _ _ _ _ _ _⟩, ⟨_, ⟨sn_fall (len := 0) rfl rfl, sm_go _ _⟩, trivial⟩⟩⟩⟩
set_option maxRecDepth 20000 in
theorem kX8_ask_48 : sx_BK sx_tb yX8_ask.cls cX8_ask 3 (some .int) ({ frames := 5, cells := 0, slots := 0, locals := 112 } : Room) false false 0 (fun _ => 0) 48 (bX8_ask_48) := ⟨_, ⟨sn_ri (len := 1) dX8_ask_48 rfl, sm_ri⟩, trivial⟩
theorem kX8_ask : ∀ pc, sx_BK sx_tb yX8_ask.cls cX8_ask 3 (some .int) ({ frames := 5, cells := 0, slots := 0, locals := 112 } : Room) false false 0 (fun _ => 0) pc (BX8_ask pc) := fun pc => sx_bk_if (kX8_ask_0) (sx_bk_if (kX8_ask_23) (sx_bk_if (kX8_ask_26) (sx_bk_if (kX8_ask_43) (sx_bk_if (kX8_ask_48) (trivial)))))
theorem okX8_ask : sx_ok sx_tb BX8_ask (yX8_ask, cX8_ask, 3, some .int, { frames := 5, cells := 0, slots := 0, locals := 112 }) := ⟨by decide, by decide +kernel, false, (fun h => by cases h), kX8_ask⟩
theorem dX8_trace_0 : decode cX8_trace 0 = .ok (.aload_n 0, 1) := by decide +kernel
theorem dX8_trace_1 : decode cX8_trace 1 = .ok (.iconst 0, 1) := by decide +kernel
theorem dX8_trace_2 : decode cX8_trace 2 = .ok (.putfield 44, 3) := by decide +kernel
theorem dX8_trace_5 : decode cX8_trace 5 = .ok (.iload_n 1, 1) := by decide +kernel
theorem dX8_trace_6 : decode cX8_trace 6 = .ok (.i2l, 1) := by decide +kernel
theorem dX8_trace_7 : decode cX8_trace 7 = .ok (.lconst 0, 1) := by decide +kernel
theorem dX8_trace_8 : decode cX8_trace 8 = .ok (.aload_n 0, 1) := by decide +kernel
theorem dX8_trace_9 : decode cX8_trace 9 = .ok (.getfield 226, 3) := by decide +kernel
theorem dX8_trace_12 : decode cX8_trace 12 = .ok (.iconst 1, 1) := by decide +kernel
theorem dX8_trace_13 : decode cX8_trace 13 = .ok (.isub, 1) := by decide +kernel
theorem dX8_trace_14 : decode cX8_trace 14 = .ok (.i2l, 1) := by decide +kernel
theorem dX8_trace_15 : decode cX8_trace 15 = .ok (.invokestatic 54, 3) := by decide +kernel
theorem dX8_trace_18 : decode cX8_trace 18 = .ok (.ifCond .eq 12, 3) := by decide +kernel
theorem dX8_trace_21 : decode cX8_trace 21 = .ok (.aload_n 0, 1) := by decide +kernel
theorem dX8_trace_22 : decode cX8_trace 22 = .ok (.getfield 41, 3) := by decide +kernel
theorem dX8_trace_25 : decode cX8_trace 25 = .ok (.iload_n 1, 1) := by decide +kernel
theorem dX8_trace_26 : decode cX8_trace 26 = .ok (.iaload, 1) := by decide +kernel
theorem dX8_trace_27 : decode cX8_trace 27 = .ok (.goto 5, 3) := by decide +kernel
theorem dX8_trace_30 : decode cX8_trace 30 = .ok (.ldc 87, 2) := by decide +kernel
theorem dX8_trace_32 : decode cX8_trace 32 = .ok (.ireturn, 1) := by decide +kernel
def bX8_trace_0 : List sx_S := [si_al 0, si_const 0, si_put 7 0 0, si_il 1, si_i2l, si_lconst 0, si_al 0, si_get 7 22, si_const 1, si_bin (fun x y => x - y), si_i2l, si_cs 124 3 0 0 0 0, si_if1 (fun x => x = 0) 30 [false, false], si_al 0, si_get 7 21, si_il 1, si_iald, si_go 32 [false, false]]
def bX8_trace_30 : List sx_S := [si_const (-1000000), si_go 32 [false, false]]
def bX8_trace_32 : List sx_S := [si_ri]
def BX8_trace : Nat → List sx_S := fun pc => if pc = 0 then bX8_trace_0 else if pc = 30 then bX8_trace_30 else if pc = 32 then bX8_trace_32 else []
set_option maxRecDepth 20000 in
theorem kX8_trace_0 : sx_BK sx_tb yX8_trace.cls cX8_trace 2 (some .int) ({ frames := 1, cells := 0, slots := 0, locals := 25 } : Room) false false 0 (fun _ => 0) 0 (bX8_trace_0) := ⟨_, ⟨sn_aload_n dX8_trace_0 rfl, sm_al _⟩, ⟨_, ⟨sn_iconst dX8_trace_1 (by decide +kernel), sm_const _⟩, ⟨_, ⟨sn_put (C := RX8) (T := TX8) (N := 23) dX8_trace_2 rfl zinX8 tyX8_ok nmX8 (Nat.le_of_ble_eq_true rfl) zw_3_182 rfl (tyX8_ok 0 (Nat.le_of_ble_eq_true rfl)) trivial, sm_put _ _ _⟩, ⟨_, ⟨sn_iload_n dX8_trace_5 rfl, sm_il _⟩, ⟨_, ⟨sn_i2l dX8_trace_6, sm_i2l⟩, ⟨_, ⟨sn_lconst dX8_trace_7 (by decide +kernel), sm_lconst _⟩, ⟨_, ⟨sn_aload_n dX8_trace_8 rfl, sm_al _⟩, ⟨_, ⟨sn_get (C := RX8) (T := TX8) (N := 23) dX8_trace_9 rfl zinX8 (Nat.le_of_ble_eq_true rfl) zw_3_204, sm_get _ _⟩, ⟨_, ⟨sn_iconst dX8_trace_12 (by decide +kernel), sm_const _⟩, ⟨_, ⟨sn_isub dX8_trace_13, sm_bin _⟩, ⟨_, ⟨sn_i2l dX8_trace_14, sm_i2l⟩, ⟨_, ⟨sn_cs_z ztb_X8_in dX8_trace_15 zw_4_21 zw_4_22 zw_1_8 zw_4_23 zmh_X8 zpd_X8_in (Nat.le_of_ble_eq_true rfl) (Nat.le_of_ble_eq_true rfl) rfl rfl, sm_cs _ _ _ _ _ _⟩, ⟨_, ⟨sn_if_eq dX8_trace_18 (by decide +kernel) rfl, sm_if1 _ _ _⟩, ⟨_, ⟨sn_aload_n dX8_trace_21 rfl, sm_al _⟩, ⟨_, ⟨sn_get (C := RX8) (T := TX8) (N := 23) dX8_trace_22 rfl zinX8 (Nat.le_of_ble_eq_true rfl) zw_3_203, sm_get _ _⟩, ⟨_, ⟨sn_iload_n dX8_trace_25 rfl, sm_il _⟩, ⟨_, ⟨sn_iald dX8_trace_26, sm_iald⟩, ⟨_, ⟨sn_goto (len := 3) dX8_trace_27 (by decide +kernel) rfl, sm_go _ _⟩, trivial⟩⟩⟩⟩⟩⟩⟩⟩⟩⟩⟩⟩⟩⟩⟩⟩⟩⟩
set_option maxRecDepth 20000 in
theorem kX8_trace_30 : sx_BK sx_tb yX8_trace.cls cX8_trace 2 (some .int) ({ frames := 1, cells := 0, slots := 0, locals := 25 } : Room) false false 0 (fun _ => 0) 30 (bX8_trace_30) := ⟨_, ⟨sn_ldc dX8_trace_30 zw_4_65, sm_const _⟩, ⟨_, ⟨sn_fall (len := 0) rfl rfl, sm_go _ _⟩, trivial⟩⟩
set_option maxRecDepth 20000 in
theorem kX8_trace_32 : sx_BK sx_tb yX8_trace.cls cX8_trace 2 (some .int) ({ frames := 1, cells := 0, slots := 0, locals := 25 } : Room) false false 0 (fun _ => 0) 32 (bX8_trace_32) := ⟨_, ⟨sn_ri (len := 1) dX8_trace_32 rfl, sm_ri⟩, trivial⟩
theorem kX8_trace : ∀ pc, sx_BK sx_tb yX8_trace.cls cX8_trace 2 (some .int) ({ frames := 1, cells := 0, slots := 0, locals := 25 } : Room) false false 0 (fun _ => 0) pc (BX8_trace pc) := fun pc => sx_bk_if (kX8_trace_0) (sx_bk_if (kX8_trace_30) (sx_bk_if (kX8_trace_32) (trivial)))
theorem okX8_trace : sx_ok sx_tb BX8_trace (yX8_trace, cX8_trace, 2, some .int, { frames := 1, cells := 0, slots := 0, locals := 25 }) := ⟨by decide, by decide +kernel, false, (fun h => by cases h), kX8_trace⟩
theorem dX8_setOf_0 : decode cX8_setOf 0 = .ok (.iconst 0, 1) := by decide +kernel
theorem dX8_setOf_1 : decode cX8_setOf 1 = .ok (.istore_n 2, 1) := by decide +kernel
theorem dX8_setOf_2 : decode cX8_setOf 2 = .ok (.iconst 0, 1) := by decide +kernel
theorem dX8_setOf_3 : decode cX8_setOf 3 = .ok (.istore_n 3, 1) := by decide +kernel
theorem dX8_setOf_4 : decode cX8_setOf 4 = .ok (.iload_n 3, 1) := by decide +kernel
theorem dX8_setOf_5 : decode cX8_setOf 5 = .ok (.aload_n 0, 1) := by decide +kernel
theorem dX8_setOf_6 : decode cX8_setOf 6 = .ok (.getfield 19, 3) := by decide +kernel
theorem dX8_setOf_9 : decode cX8_setOf 9 = .ok (.iconst 4, 1) := by decide +kernel
theorem dX8_setOf_10 : decode cX8_setOf 10 = .ok (.iaload, 1) := by decide +kernel
theorem dX8_setOf_11 : decode cX8_setOf 11 = .ok (.if_icmp .ge 23, 3) := by decide +kernel
theorem dX8_setOf_14 : decode cX8_setOf 14 = .ok (.iload_n 2, 1) := by decide +kernel
theorem dX8_setOf_15 : decode cX8_setOf 15 = .ok (.aload_n 0, 1) := by decide +kernel
theorem dX8_setOf_16 : decode cX8_setOf 16 = .ok (.getfield 19, 3) := by decide +kernel
theorem dX8_setOf_19 : decode cX8_setOf 19 = .ok (.iload_n 3, 1) := by decide +kernel
theorem dX8_setOf_20 : decode cX8_setOf 20 = .ok (.iload_n 1, 1) := by decide +kernel
theorem dX8_setOf_21 : decode cX8_setOf 21 = .ok (.invokestatic 146, 3) := by decide +kernel
theorem dX8_setOf_24 : decode cX8_setOf 24 = .ok (.iload_n 3, 1) := by decide +kernel
theorem dX8_setOf_25 : decode cX8_setOf 25 = .ok (.ishl, 1) := by decide +kernel
theorem dX8_setOf_26 : decode cX8_setOf 26 = .ok (.ior, 1) := by decide +kernel
theorem dX8_setOf_27 : decode cX8_setOf 27 = .ok (.istore_n 2, 1) := by decide +kernel
theorem dX8_setOf_28 : decode cX8_setOf 28 = .ok (.iinc 3 1, 3) := by decide +kernel
theorem dX8_setOf_31 : decode cX8_setOf 31 = .ok (.goto (-27), 3) := by decide +kernel
theorem dX8_setOf_34 : decode cX8_setOf 34 = .ok (.iload_n 2, 1) := by decide +kernel
theorem dX8_setOf_35 : decode cX8_setOf 35 = .ok (.ireturn, 1) := by decide +kernel
def bX8_setOf_0 : List sx_S := [si_const 0, si_is 2, si_const 0, si_is 3, si_go 4 [true, true, true, true]]
def bX8_setOf_4 : List sx_S := [si_il 3, si_al 0, si_get 7 5, si_const (nI 4), si_iald, si_if2 (fun x y => y ≤ x) 34 [false, false, true, false], si_il 2, si_al 0, si_get 7 5, si_il 3, si_il 1, si_cs 147 3 0 0 0 0, si_il 3, si_bin (fun x y => x <<< (y &&& 31)), si_bin (fun x y => x ||| y), si_is 2, si_inc 3 1, si_go 4 [true, true, true, true]]
def bX8_setOf_34 : List sx_S := [si_il 2, si_ri]
def BX8_setOf : Nat → List sx_S := fun pc => if pc = 0 then bX8_setOf_0 else if pc = 4 then bX8_setOf_4 else if pc = 34 then bX8_setOf_34 else []
set_option maxRecDepth 20000 in
theorem kX8_setOf_0 : sx_BK sx_tb yX8_setOf.cls cX8_setOf 4 (some .int) ({ frames := 1, cells := 0, slots := 0, locals := 22 } : Room) false false 0 (fun _ => 0) 0 (bX8_setOf_0) := ⟨_, ⟨sn_iconst dX8_setOf_0 (by decide +kernel), sm_const _⟩, ⟨_, ⟨sn_istore_n dX8_setOf_1 rfl (Nat.le_of_ble_eq_true rfl), sm_is _⟩, ⟨_, ⟨sn_iconst dX8_setOf_2 (by decide +kernel), sm_const _⟩, ⟨_, ⟨sn_istore_n dX8_setOf_3 rfl (Nat.le_of_ble_eq_true rfl), sm_is _⟩, ⟨_, ⟨sn_fall (len := 0) rfl rfl, sm_go _ _⟩, trivial⟩⟩⟩⟩⟩
set_option maxRecDepth 20000 in
theorem kX8_setOf_4 : sx_BK sx_tb yX8_setOf.cls cX8_setOf 4 (some .int) ({ frames := 1, cells := 0, slots := 0, locals := 22 } : Room) false false 0 (fun _ => 0) 4 (bX8_setOf_4) := ⟨_, ⟨sn_iload_n dX8_setOf_4 rfl, sm_il _⟩, ⟨_, ⟨sn_aload_n dX8_setOf_5 rfl, sm_al _⟩, ⟨_, ⟨sn_get (C := RX8) (T := TX8) (N := 23) dX8_setOf_6 rfl zinX8 (Nat.le_of_ble_eq_true rfl) zw_3_187, sm_get _ _⟩, ⟨_, ⟨sn_iconst dX8_setOf_9 (by decide +kernel), sm_const _⟩, ⟨_, ⟨sn_iald dX8_setOf_10, sm_iald⟩, ⟨_, ⟨sn_ic_ge dX8_setOf_11 (by decide +kernel) rfl, sm_if2 _ _ _⟩, ⟨_, ⟨sn_iload_n dX8_setOf_14 rfl, sm_il _⟩, ⟨_, ⟨sn_aload_n dX8_setOf_15 rfl, sm_al _⟩, ⟨_, ⟨sn_get (C := RX8) (T := TX8) (N := 23) dX8_setOf_16 rfl zinX8 (Nat.le_of_ble_eq_true rfl) zw_3_187, sm_get _ _⟩, ⟨_, ⟨sn_iload_n dX8_setOf_19 rfl, sm_il _⟩, ⟨_, ⟨sn_iload_n dX8_setOf_20 rfl, sm_il _⟩, ⟨_, ⟨sn_cs_i ztb_X8_of dX8_setOf_21 zw_4_126 zw_4_127 zw_1_8 zw_4_128 zmh_X8 zpd_X8_of (Nat.le_of_ble_eq_true rfl) (Nat.le_of_ble_eq_true rfl) rfl rfl, sm_cs _ _ _ _ _ _⟩, ⟨_, ⟨sn_iload_n dX8_setOf_24 rfl, sm_il _⟩, ⟨_, ⟨sn_ishl dX8_setOf_25, sm_bin _⟩, ⟨_, ⟨sn_ior dX8_setOf_26, sm_bin _⟩, ⟨_, ⟨sn_istore_n dX8_setOf_27 rfl (Nat.le_of_ble_eq_true rfl), sm_is _⟩, ⟨_, ⟨sn_iinc dX8_setOf_28 (by decide +kernel) (Nat.le_of_ble_eq_true rfl), sm_inc _ _⟩, ⟨_, ⟨sn_goto (len := 3) dX8_setOf_31 (by decide +kernel) rfl, sm_go _ _⟩, trivial⟩⟩⟩⟩⟩⟩⟩⟩⟩⟩⟩⟩⟩⟩⟩⟩⟩⟩
set_option maxRecDepth 20000 in
theorem kX8_setOf_34 : sx_BK sx_tb yX8_setOf.cls cX8_setOf 4 (some .int) ({ frames := 1, cells := 0, slots := 0, locals := 22 } : Room) false false 0 (fun _ => 0) 34 (bX8_setOf_34) := ⟨_, ⟨sn_iload_n dX8_setOf_34 rfl, sm_il _⟩, ⟨_, ⟨sn_ri (len := 1) dX8_setOf_35 rfl, sm_ri⟩, trivial⟩⟩
theorem kX8_setOf : ∀ pc, sx_BK sx_tb yX8_setOf.cls cX8_setOf 4 (some .int) ({ frames := 1, cells := 0, slots := 0, locals := 22 } : Room) false false 0 (fun _ => 0) pc (BX8_setOf pc) := fun pc => sx_bk_if (kX8_setOf_0) (sx_bk_if (kX8_setOf_4) (sx_bk_if (kX8_setOf_34) (trivial)))
theorem okX8_setOf : sx_ok sx_tb BX8_setOf (yX8_setOf, cX8_setOf, 4, some .int, { frames := 1, cells := 0, slots := 0, locals := 22 }) := ⟨by decide, by decide +kernel, false, (fun h => by cases h), kX8_setOf⟩
theorem dX8_count_0 : decode cX8_count 0 = .ok (.aload_n 0, 1) := by decide +kernel
theorem dX8_count_1 : decode cX8_count 1 = .ok (.iconst 0, 1) := by decide +kernel
theorem dX8_count_2 : decode cX8_count 2 = .ok (.putfield 44, 3) := by decide +kernel
theorem dX8_count_5 : decode cX8_count 5 = .ok (.iconst 0, 1) := by decide +kernel
theorem dX8_count_6 : decode cX8_count 6 = .ok (.istore_n 2, 1) := by decide +kernel
theorem dX8_count_7 : decode cX8_count 7 = .ok (.iload_n 1, 1) := by decide +kernel
theorem dX8_count_8 : decode cX8_count 8 = .ok (.tableswitch 136 0 8 #[52, 85, 92, 99, 106, 113, 120, 126, 131], 52) := by decide +kernel
theorem dX8_count_60 : decode cX8_count 60 = .ok (.iconst 0, 1) := by decide +kernel
theorem dX8_count_61 : decode cX8_count 61 = .ok (.istore_n 3, 1) := by decide +kernel
theorem dX8_count_62 : decode cX8_count 62 = .ok (.iload_n 3, 1) := by decide +kernel
theorem dX8_count_63 : decode cX8_count 63 = .ok (.bipush 8, 2) := by decide +kernel
theorem dX8_count_65 : decode cX8_count 65 = .ok (.if_icmp .ge 26, 3) := by decide +kernel
theorem dX8_count_68 : decode cX8_count 68 = .ok (.iload_n 2, 1) := by decide +kernel
theorem dX8_count_69 : decode cX8_count 69 = .ok (.aload_n 0, 1) := by decide +kernel
theorem dX8_count_70 : decode cX8_count 70 = .ok (.getfield 7, 3) := by decide +kernel
theorem dX8_count_73 : decode cX8_count 73 = .ok (.iload_n 3, 1) := by decide +kernel
theorem dX8_count_74 : decode cX8_count 74 = .ok (.iaload, 1) := by decide +kernel
theorem dX8_count_75 : decode cX8_count 75 = .ok (.ifCond .lt 7, 3) := by decide +kernel
theorem dX8_count_78 : decode cX8_count 78 = .ok (.iconst 1, 1) := by decide +kernel
theorem dX8_count_79 : decode cX8_count 79 = .ok (.goto 4, 3) := by decide +kernel
theorem dX8_count_82 : decode cX8_count 82 = .ok (.iconst 0, 1) := by decide +kernel
theorem dX8_count_83 : decode cX8_count 83 = .ok (.iadd, 1) := by decide +kernel
theorem dX8_count_84 : decode cX8_count 84 = .ok (.istore_n 2, 1) := by decide +kernel
theorem dX8_count_85 : decode cX8_count 85 = .ok (.iinc 3 1, 3) := by decide +kernel
theorem dX8_count_88 : decode cX8_count 88 = .ok (.goto (-26), 3) := by decide +kernel
theorem dX8_count_91 : decode cX8_count 91 = .ok (.iload_n 2, 1) := by decide +kernel
theorem dX8_count_92 : decode cX8_count 92 = .ok (.ireturn, 1) := by decide +kernel
theorem dX8_count_93 : decode cX8_count 93 = .ok (.aload_n 0, 1) := by decide +kernel
theorem dX8_count_94 : decode cX8_count 94 = .ok (.getfield 19, 3) := by decide +kernel
theorem dX8_count_97 : decode cX8_count 97 = .ok (.iconst 4, 1) := by decide +kernel
theorem dX8_count_98 : decode cX8_count 98 = .ok (.iaload, 1) := by decide +kernel
theorem dX8_count_99 : decode cX8_count 99 = .ok (.ireturn, 1) := by decide +kernel
theorem dX8_count_100 : decode cX8_count 100 = .ok (.aload_n 0, 1) := by decide +kernel
theorem dX8_count_101 : decode cX8_count 101 = .ok (.getfield 19, 3) := by decide +kernel
theorem dX8_count_104 : decode cX8_count 104 = .ok (.iconst 2, 1) := by decide +kernel
theorem dX8_count_105 : decode cX8_count 105 = .ok (.iaload, 1) := by decide +kernel
theorem dX8_count_106 : decode cX8_count 106 = .ok (.ireturn, 1) := by decide +kernel
theorem dX8_count_107 : decode cX8_count 107 = .ok (.aload_n 0, 1) := by decide +kernel
theorem dX8_count_108 : decode cX8_count 108 = .ok (.getfield 19, 3) := by decide +kernel
theorem dX8_count_111 : decode cX8_count 111 = .ok (.iconst 3, 1) := by decide +kernel
theorem dX8_count_112 : decode cX8_count 112 = .ok (.iaload, 1) := by decide +kernel
theorem dX8_count_113 : decode cX8_count 113 = .ok (.ireturn, 1) := by decide +kernel
theorem dX8_count_114 : decode cX8_count 114 = .ok (.aload_n 0, 1) := by decide +kernel
theorem dX8_count_115 : decode cX8_count 115 = .ok (.getfield 19, 3) := by decide +kernel
theorem dX8_count_118 : decode cX8_count 118 = .ok (.iconst 5, 1) := by decide +kernel
theorem dX8_count_119 : decode cX8_count 119 = .ok (.iaload, 1) := by decide +kernel
theorem dX8_count_120 : decode cX8_count 120 = .ok (.ireturn, 1) := by decide +kernel
theorem dX8_count_121 : decode cX8_count 121 = .ok (.aload_n 0, 1) := by decide +kernel
theorem dX8_count_122 : decode cX8_count 122 = .ok (.bipush 6, 2) := by decide +kernel
theorem dX8_count_124 : decode cX8_count 124 = .ok (.invokevirtual 244, 3) := by decide +kernel
theorem dX8_count_127 : decode cX8_count 127 = .ok (.ireturn, 1) := by decide +kernel
theorem dX8_count_128 : decode cX8_count 128 = .ok (.aload_n 0, 1) := by decide +kernel
theorem dX8_count_129 : decode cX8_count 129 = .ok (.iconst 5, 1) := by decide +kernel
theorem dX8_count_130 : decode cX8_count 130 = .ok (.invokevirtual 244, 3) := by decide +kernel
theorem dX8_count_133 : decode cX8_count 133 = .ok (.ireturn, 1) := by decide +kernel
theorem dX8_count_134 : decode cX8_count 134 = .ok (.aload_n 0, 1) := by decide +kernel
theorem dX8_count_135 : decode cX8_count 135 = .ok (.getfield 143, 3) := by decide +kernel
theorem dX8_count_138 : decode cX8_count 138 = .ok (.ireturn, 1) := by decide +kernel
theorem dX8_count_139 : decode cX8_count 139 = .ok (.aload_n 0, 1) := by decide +kernel
theorem dX8_count_140 : decode cX8_count 140 = .ok (.getfield 71, 3) := by decide +kernel
theorem dX8_count_143 : decode cX8_count 143 = .ok (.ireturn, 1) := by decide +kernel
theorem dX8_count_144 : decode cX8_count 144 = .ok (.ldc 64, 2) := by decide +kernel
theorem dX8_count_146 : decode cX8_count 146 = .ok (.ireturn, 1) := by decide +kernel
def bX8_count_0 : List sx_S := [si_al 0, si_const 0, si_put 7 0 0, si_const 0, si_is 2, si_il 1, si_sw [(0, 60, [true, false, true, false]), (1, 93, [true, false, false, false]), ((nI 2), 100, [true, false, false, false]), ((nI 3), 107, [true, false, false, false]), ((nI 4), 114, [true, false, false, false]), ((nI 5), 121, [true, false, false, false]), ((nI 6), 128, [true, false, false, false]), ((nI 7), 134, [true, false, false, false]), ((nI 8), 139, [true, false, false, false])] 144 [false, false, false, false]]
def bX8_count_60 : List sx_S := [si_const 0, si_is 3, si_go 62 [true, false, true, true]]
def bX8_count_62 : List sx_S := [si_il 3, si_const (nI 8), si_if2 (fun x y => y ≤ x) 91 [false, false, true, false], si_il 2, si_al 0, si_get 7 2, si_il 3, si_iald, si_if1 (fun x => x < 0) 82 [true, false, false, true], si_const 1, si_go 83 [true, false, false, true]]
def bX8_count_82 : List sx_S := [si_const 0, si_go 83 [true, false, false, true]]
def bX8_count_83 : List sx_S := [si_bin (fun x y => x + y), si_is 2, si_inc 3 1, si_go 62 [true, false, true, true]]
def bX8_count_91 : List sx_S := [si_il 2, si_ri]
def bX8_count_93 : List sx_S := [si_al 0, si_get 7 5, si_const (nI 4), si_iald, si_ri]
def bX8_count_100 : List sx_S := [si_al 0, si_get 7 5, si_const (nI 2), si_iald, si_ri]
def bX8_count_107 : List sx_S := [si_al 0, si_get 7 5, si_const (nI 3), si_iald, si_ri]
def bX8_count_114 : List sx_S := [si_al 0, si_get 7 5, si_const (nI 5), si_iald, si_ri]
def bX8_count_121 : List sx_S := [si_al 0, si_const (nI 6), si_cv 7 192 1 0 0 0 0, si_ri]
def bX8_count_128 : List sx_S := [si_al 0, si_const (nI 5), si_cv 7 192 1 0 0 0 0, si_ri]
def bX8_count_134 : List sx_S := [si_al 0, si_get 7 9, si_ri]
def bX8_count_139 : List sx_S := [si_al 0, si_get 7 11, si_ri]
def bX8_count_144 : List sx_S := [si_const (-1000001), si_ri]
def BX8_count : Nat → List sx_S := fun pc => if pc = 0 then bX8_count_0 else if pc = 60 then bX8_count_60 else if pc = 62 then bX8_count_62 else if pc = 82 then bX8_count_82 else if pc = 83 then bX8_count_83 else if pc = 91 then bX8_count_91 else if pc = 93 then bX8_count_93 else if pc = 100 then bX8_count_100 else if pc = 107 then bX8_count_107 else if pc = 114 then bX8_count_114 else if pc = 121 then bX8_count_121 else if pc = 128 then bX8_count_128 else if pc = 134 then bX8_count_134 else if pc = 139 then bX8_count_139 else if pc = 144 then bX8_count_144 else []
set_option maxRecDepth 20000 in
theorem kX8_count_0 : sx_BK sx_tb yX8_count.cls cX8_count 4 (some .int) ({ frames := 2, cells := 0, slots := 0, locals := 45 } : Room) false false 0 (fun _ => 0) 0 (bX8_count_0) := ⟨_, ⟨sn_aload_n dX8_count_0 rfl, sm_al _⟩, ⟨_, ⟨sn_iconst dX8_count_1 (by decide +kernel), sm_const _⟩, ⟨_, ⟨sn_put (C := RX8) (T := TX8) (N := 23) dX8_count_2 rfl zinX8 tyX8_ok nmX8 (Nat.le_of_ble_eq_true rfl) zw_3_182 rfl (tyX8_ok 0 (Nat.le_of_ble_eq_true rfl)) trivial, sm_put _ _ _⟩, ⟨_, ⟨sn_iconst dX8_count_5 (by decide +kernel), sm_const _⟩, ⟨_, ⟨sn_istore_n dX8_count_6 rfl (Nat.le_of_ble_eq_true rfl), sm_is _⟩, ⟨_, ⟨sn_iload_n dX8_count_7 rfl, sm_il _⟩, ⟨_, ⟨sn_tsw (len := 3) dX8_count_8 (by decide +kernel) (by decide +kernel) (by decide +kernel) rfl, sm_sw _ _ _⟩, trivial⟩⟩⟩⟩⟩⟩⟩
set_option maxRecDepth 20000 in
theorem kX8_count_60 : sx_BK sx_tb yX8_count.cls cX8_count 4 (some .int) ({ frames := 2, cells := 0, slots := 0, locals := 45 } : Room) false false 0 (fun _ => 0) 60 (bX8_count_60) := ⟨_, ⟨sn_iconst dX8_count_60 (by decide +kernel), sm_const _⟩, ⟨_, ⟨sn_istore_n dX8_count_61 rfl (Nat.le_of_ble_eq_true rfl), sm_is _⟩, ⟨_, ⟨sn_fall (len := 0) rfl rfl, sm_go _ _⟩, trivial⟩⟩⟩
set_option maxRecDepth 20000 in
theorem kX8_count_62 : sx_BK sx_tb yX8_count.cls cX8_count 4 (some .int) ({ frames := 2, cells := 0, slots := 0, locals := 45 } : Room) false false 0 (fun _ => 0) 62 (bX8_count_62) := ⟨_, ⟨sn_iload_n dX8_count_62 rfl, sm_il _⟩, ⟨_, ⟨sn_bipush dX8_count_63 (by decide +kernel), sm_const _⟩, ⟨_, ⟨sn_ic_ge dX8_count_65 (by decide +kernel) rfl, sm_if2 _ _ _⟩, ⟨_, ⟨sn_iload_n dX8_count_68 rfl, sm_il _⟩, ⟨_, ⟨sn_aload_n dX8_count_69 rfl, sm_al _⟩, ⟨_, ⟨sn_get (C := RX8) (T := TX8) (N := 23) dX8_count_70 rfl zinX8 (Nat.le_of_ble_eq_true rfl) zw_3_184, sm_get _ _⟩, ⟨_, ⟨sn_iload_n dX8_count_73 rfl, sm_il _⟩, ⟨_, ⟨sn_iald dX8_count_74, sm_iald⟩, ⟨_, ⟨sn_if_lt dX8_count_75 (by decide +kernel) rfl, sm_if1 _ _ _⟩, ⟨_, ⟨sn_iconst dX8_count_78 (by decide +kernel), sm_const _⟩, ⟨_, ⟨sn_goto (len := 3) dX8_count_79 (by decide +kernel) rfl, sm_go _ _⟩, trivial⟩⟩⟩⟩⟩⟩⟩⟩⟩⟩⟩
set_option maxRecDepth 20000 in
theorem kX8_count_82 : sx_BK sx_tb yX8_count.cls cX8_count 4 (some .int) ({ frames := 2, cells := 0, slots := 0, locals := 45 } : Room) false false 0 (fun _ => 0) 82 (bX8_count_82) := ⟨_, ⟨sn_iconst dX8_count_82 (by decide +kernel), sm_const _⟩, ⟨_, ⟨sn_fall (len := 0) rfl rfl, sm_go _ _⟩, trivial⟩⟩
set_option maxRecDepth 20000 in
theorem kX8_count_83 : sx_BK sx_tb yX8_count.cls cX8_count 4 (some .int) ({ frames := 2, cells := 0, slots := 0, locals := 45 } : Room) false false 0 (fun _ => 0) 83 (bX8_count_83) := ⟨_, ⟨sn_iadd dX8_count_83, sm_bin _⟩, ⟨_, ⟨sn_istore_n dX8_count_84 rfl (Nat.le_of_ble_eq_true rfl), sm_is _⟩, ⟨_, ⟨sn_iinc dX8_count_85 (by decide +kernel) (Nat.le_of_ble_eq_true rfl), sm_inc _ _⟩, ⟨_, ⟨sn_goto (len := 3) dX8_count_88 (by decide +kernel) rfl, sm_go _ _⟩, trivial⟩⟩⟩⟩
set_option maxRecDepth 20000 in
theorem kX8_count_91 : sx_BK sx_tb yX8_count.cls cX8_count 4 (some .int) ({ frames := 2, cells := 0, slots := 0, locals := 45 } : Room) false false 0 (fun _ => 0) 91 (bX8_count_91) := ⟨_, ⟨sn_iload_n dX8_count_91 rfl, sm_il _⟩, ⟨_, ⟨sn_ri (len := 1) dX8_count_92 rfl, sm_ri⟩, trivial⟩⟩
set_option maxRecDepth 20000 in
theorem kX8_count_93 : sx_BK sx_tb yX8_count.cls cX8_count 4 (some .int) ({ frames := 2, cells := 0, slots := 0, locals := 45 } : Room) false false 0 (fun _ => 0) 93 (bX8_count_93) := ⟨_, ⟨sn_aload_n dX8_count_93 rfl, sm_al _⟩, ⟨_, ⟨sn_get (C := RX8) (T := TX8) (N := 23) dX8_count_94 rfl zinX8 (Nat.le_of_ble_eq_true rfl) zw_3_187, sm_get _ _⟩, ⟨_, ⟨sn_iconst dX8_count_97 (by decide +kernel), sm_const _⟩, ⟨_, ⟨sn_iald dX8_count_98, sm_iald⟩, ⟨_, ⟨sn_ri (len := 1) dX8_count_99 rfl, sm_ri⟩, trivial⟩⟩⟩⟩⟩
set_option maxRecDepth 20000 in
theorem kX8_count_100 : sx_BK sx_tb yX8_count.cls cX8_count 4 (some .int) ({ frames := 2, cells := 0, slots := 0, locals := 45 } : Room) false false 0 (fun _ => 0) 100 (bX8_count_100) := ⟨_, ⟨sn_aload_n dX8_count_100 rfl, sm_al _⟩, ⟨_, ⟨sn_get (C := RX8) (T := TX8) (N := 23) dX8_count_101 rfl zinX8 (Nat.le_of_ble_eq_true rfl) zw_3_187, sm_get _ _⟩, ⟨_, ⟨sn_iconst dX8_count_104 (by decide +kernel), sm_const _⟩, ⟨_, ⟨sn_iald dX8_count_105, sm_iald⟩, ⟨_, ⟨sn_ri (len := 1) dX8_count_106 rfl, sm_ri⟩, trivial⟩⟩⟩⟩⟩
set_option maxRecDepth 20000 in
theorem kX8_count_107 : sx_BK sx_tb yX8_count.cls cX8_count 4 (some .int) ({ frames := 2, cells := 0, slots := 0, locals := 45 } : Room) false false 0 (fun _ => 0) 107 (bX8_count_107) := ⟨_, ⟨sn_aload_n dX8_count_107 rfl, sm_al _⟩, ⟨_, ⟨sn_get (C := RX8) (T := TX8) (N := 23) dX8_count_108 rfl zinX8 (Nat.le_of_ble_eq_true rfl) zw_3_187, sm_get _ _⟩, ⟨_, ⟨sn_iconst dX8_count_111 (by decide +kernel), sm_const _⟩, ⟨_, ⟨sn_iald dX8_count_112, sm_iald⟩, ⟨_, ⟨sn_ri (len := 1) dX8_count_113 rfl, sm_ri⟩, trivial⟩⟩⟩⟩⟩
set_option maxRecDepth 20000 in
theorem kX8_count_114 : sx_BK sx_tb yX8_count.cls cX8_count 4 (some .int) ({ frames := 2, cells := 0, slots := 0, locals := 45 } : Room) false false 0 (fun _ => 0) 114 (bX8_count_114) := ⟨_, ⟨sn_aload_n dX8_count_114 rfl, sm_al _⟩, ⟨_, ⟨sn_get (C := RX8) (T := TX8) (N := 23) dX8_count_115 rfl zinX8 (Nat.le_of_ble_eq_true rfl) zw_3_187, sm_get _ _⟩, ⟨_, ⟨sn_iconst dX8_count_118 (by decide +kernel), sm_const _⟩, ⟨_, ⟨sn_iald dX8_count_119, sm_iald⟩, ⟨_, ⟨sn_ri (len := 1) dX8_count_120 rfl, sm_ri⟩, trivial⟩⟩⟩⟩⟩
set_option maxRecDepth 20000 in
theorem kX8_count_121 : sx_BK sx_tb yX8_count.cls cX8_count 4 (some .int) ({ frames := 2, cells := 0, slots := 0, locals := 45 } : Room) false false 0 (fun _ => 0) 121 (bX8_count_121) := ⟨_, ⟨sn_aload_n dX8_count_121 rfl, sm_al _⟩, ⟨_, ⟨sn_bipush dX8_count_122 (by decide +kernel), sm_const _⟩, ⟨_, ⟨sn_cv_i (N := 23) (T := TX8) ztb_X8_setOf dX8_count_124 rfl rfl zw_5_59 zw_5_61 zw_0_54 zw_1_8 zw_5_62 zmh_X8 zpd_X8_setOf (Nat.le_of_ble_eq_true rfl) (Nat.le_of_ble_eq_true rfl) rfl rfl, sm_cv _ _ _ _ _ _ _⟩, ⟨_, ⟨sn_ri (len := 1) dX8_count_127 rfl, sm_ri⟩, trivial⟩⟩⟩⟩
set_option maxRecDepth 20000 in
theorem kX8_count_128 : sx_BK sx_tb yX8_count.cls cX8_count 4 (some .int) ({ frames := 2, cells := 0, slots := 0, locals := 45 } : Room) false false 0 (fun _ => 0) 128 (bX8_count_128) := ⟨_, ⟨sn_aload_n dX8_count_128 rfl, sm_al _⟩, ⟨_, ⟨sn_iconst dX8_count_129 (by decide +kernel), sm_const _⟩, ⟨_, ⟨sn_cv_i (N := 23) (T := TX8) ztb_X8_setOf dX8_count_130 rfl rfl zw_5_59 zw_5_61 zw_0_54 zw_1_8 zw_5_62 zmh_X8 zpd_X8_setOf (Nat.le_of_ble_eq_true rfl) (Nat.le_of_ble_eq_true rfl) rfl rfl, sm_cv _ _ _ _ _ _ _⟩, ⟨_, ⟨sn_ri (len := 1) dX8_count_133 rfl, sm_ri⟩, trivial⟩⟩⟩⟩
set_option maxRecDepth 20000 in
theorem kX8_count_134 : sx_BK sx_tb yX8_count.cls cX8_count 4 (some .int) ({ frames := 2, cells := 0, slots := 0, locals := 45 } : Room) false false 0 (fun _ => 0) 134 (bX8_count_134) := ⟨_, ⟨sn_aload_n dX8_count_134 rfl, sm_al _⟩, ⟨_, ⟨sn_get (C := RX8) (T := TX8) (N := 23) dX8_count_135 rfl zinX8 (Nat.le_of_ble_eq_true rfl) zw_3_191, sm_get _ _⟩, ⟨_, ⟨sn_ri (len := 1) dX8_count_138 rfl, sm_ri⟩, trivial⟩⟩⟩
set_option maxRecDepth 20000 in
theorem kX8_count_139 : sx_BK sx_tb yX8_count.cls cX8_count 4 (some .int) ({ frames := 2, cells := 0, slots := 0, locals := 45 } : Room) false false 0 (fun _ => 0) 139 (bX8_count_139) := ⟨_, ⟨sn_aload_n dX8_count_139 rfl, sm_al _⟩, ⟨_, ⟨sn_get (C := RX8) (T := TX8) (N := 23) dX8_count_140 rfl zinX8 (Nat.le_of_ble_eq_true rfl) zw_3_193, sm_get _ _⟩, ⟨_, ⟨sn_ri (len := 1) dX8_count_143 rfl, sm_ri⟩, trivial⟩⟩⟩
set_option maxRecDepth 20000 in
theorem kX8_count_144 : sx_BK sx_tb yX8_count.cls cX8_count 4 (some .int) ({ frames := 2, cells := 0, slots := 0, locals := 45 } : Room) false false 0 (fun _ => 0) 144 (bX8_count_144) := ⟨_, ⟨sn_ldc dX8_count_144 zw_4_25, sm_const _⟩, ⟨_, ⟨sn_ri (len := 1) dX8_count_146 rfl, sm_ri⟩, trivial⟩⟩
theorem kX8_count : ∀ pc, sx_BK sx_tb yX8_count.cls cX8_count 4 (some .int) ({ frames := 2, cells := 0, slots := 0, locals := 45 } : Room) false false 0 (fun _ => 0) pc (BX8_count pc) := fun pc => sx_bk_if (kX8_count_0) (sx_bk_if (kX8_count_60) (sx_bk_if (kX8_count_62) (sx_bk_if (kX8_count_82) (sx_bk_if (kX8_count_83) (sx_bk_if (kX8_count_91) (sx_bk_if (kX8_count_93) (sx_bk_if (kX8_count_100) (sx_bk_if (kX8_count_107) (sx_bk_if (kX8_count_114) (sx_bk_if (kX8_count_121) (sx_bk_if (kX8_count_128) (sx_bk_if (kX8_count_134) (sx_bk_if (kX8_count_139) (sx_bk_if (kX8_count_144) (trivial)))))))))))))))
theorem okX8_count : sx_ok sx_tb BX8_count (yX8_count, cX8_count, 4, some .int, { frames := 2, cells := 0, slots := 0, locals := 45 }) := ⟨by decide, by decide +kernel, false, (fun h => by cases h), kX8_count⟩
theorem dX8_status_0 : decode cX8_status 0 = .ok (.aload_n 0, 1) := by decide +kernel
theorem dX8_status_1 : decode cX8_status 1 = .ok (.iconst 0, 1) := by decide +kernel
theorem dX8_status_2 : decode cX8_status 2 = .ok (.putfield 44, 3) := by decide +kernel
theorem dX8_status_5 : decode cX8_status 5 = .ok (.aload_n 0, 1) := by decide +kernel
theorem dX8_status_6 : decode cX8_status 6 = .ok (.getfield 48, 3) := by decide +kernel
theorem dX8_status_9 : decode cX8_status 9 = .ok (.ireturn, 1) := by decide +kernel
def bX8_status_0 : List sx_S := [si_al 0, si_const 0, si_put 7 0 0, si_al 0, si_get 7 1, si_ri]
def BX8_status : Nat → List sx_S := fun pc => if pc = 0 then bX8_status_0 else []
set_option maxRecDepth 20000 in
theorem kX8_status_0 : sx_BK sx_tb yX8_status.cls cX8_status 1 (some .int) ({ frames := 0, cells := 0, slots := 0, locals := 0 } : Room) false false 0 (fun _ => 0) 0 (bX8_status_0) := ⟨_, ⟨sn_aload_n dX8_status_0 rfl, sm_al _⟩, ⟨_, ⟨sn_iconst dX8_status_1 (by decide +kernel), sm_const _⟩, ⟨_, ⟨sn_put (C := RX8) (T := TX8) (N := 23) dX8_status_2 rfl zinX8 tyX8_ok nmX8 (Nat.le_of_ble_eq_true rfl) zw_3_182 rfl (tyX8_ok 0 (Nat.le_of_ble_eq_true rfl)) trivial, sm_put _ _ _⟩, ⟨_, ⟨sn_aload_n dX8_status_5 rfl, sm_al _⟩, ⟨_, ⟨sn_get (C := RX8) (T := TX8) (N := 23) dX8_status_6 rfl zinX8 (Nat.le_of_ble_eq_true rfl) zw_3_183, sm_get _ _⟩, ⟨_, ⟨sn_ri (len := 1) dX8_status_9 rfl, sm_ri⟩, trivial⟩⟩⟩⟩⟩⟩
theorem kX8_status : ∀ pc, sx_BK sx_tb yX8_status.cls cX8_status 1 (some .int) ({ frames := 0, cells := 0, slots := 0, locals := 0 } : Room) false false 0 (fun _ => 0) pc (BX8_status pc) := fun pc => sx_bk_if (kX8_status_0) (trivial)
theorem okX8_status : sx_ok sx_tb BX8_status (yX8_status, cX8_status, 1, some .int, { frames := 0, cells := 0, slots := 0, locals := 0 }) := ⟨by decide, by decide +kernel, false, (fun h => by cases h), kX8_status⟩
