theorem dX8_init_0 : decode cX8_init 0 = .ok (.aload_n 0, 1) := by decide +kernel
theorem dX8_init_1 : decode cX8_init 1 = .ok (.invokespecial 1, 3) := by decide +kernel
theorem dX8_init_4 : decode cX8_init 4 = .ok (.aload_n 0, 1) := by decide +kernel
theorem dX8_init_5 : decode cX8_init 5 = .ok (.bipush 8, 2) := by decide +kernel
theorem dX8_init_7 : decode cX8_init 7 = .ok (.newarray .int, 2) := by decide +kernel
theorem dX8_init_9 : decode cX8_init 9 = .ok (.dup, 1) := by decide +kernel
theorem dX8_init_10 : decode cX8_init 10 = .ok (.iconst 0, 1) := by decide +kernel
theorem dX8_init_11 : decode cX8_init 11 = .ok (.iconst (-1), 1) := by decide +kernel
theorem dX8_init_12 : decode cX8_init 12 = .ok (.iastore, 1) := by decide +kernel
theorem dX8_init_13 : decode cX8_init 13 = .ok (.dup, 1) := by decide +kernel
theorem dX8_init_14 : decode cX8_init 14 = .ok (.iconst 1, 1) := by decide +kernel
theorem dX8_init_15 : decode cX8_init 15 = .ok (.iconst (-1), 1) := by decide +kernel
theorem dX8_init_16 : decode cX8_init 16 = .ok (.iastore, 1) := by decide +kernel
theorem dX8_init_17 : decode cX8_init 17 = .ok (.dup, 1) := by decide +kernel
theorem dX8_init_18 : decode cX8_init 18 = .ok (.iconst 2, 1) := by decide +kernel
theorem dX8_init_19 : decode cX8_init 19 = .ok (.iconst (-1), 1) := by decide +kernel
theorem dX8_init_20 : decode cX8_init 20 = .ok (.iastore, 1) := by decide +kernel
theorem dX8_init_21 : decode cX8_init 21 = .ok (.dup, 1) := by decide +kernel
theorem dX8_init_22 : decode cX8_init 22 = .ok (.iconst 3, 1) := by decide +kernel
theorem dX8_init_23 : decode cX8_init 23 = .ok (.iconst (-1), 1) := by decide +kernel
theorem dX8_init_24 : decode cX8_init 24 = .ok (.iastore, 1) := by decide +kernel
theorem dX8_init_25 : decode cX8_init 25 = .ok (.dup, 1) := by decide +kernel
theorem dX8_init_26 : decode cX8_init 26 = .ok (.iconst 4, 1) := by decide +kernel
theorem dX8_init_27 : decode cX8_init 27 = .ok (.iconst (-1), 1) := by decide +kernel
theorem dX8_init_28 : decode cX8_init 28 = .ok (.iastore, 1) := by decide +kernel
theorem dX8_init_29 : decode cX8_init 29 = .ok (.dup, 1) := by decide +kernel
theorem dX8_init_30 : decode cX8_init 30 = .ok (.iconst 5, 1) := by decide +kernel
theorem dX8_init_31 : decode cX8_init 31 = .ok (.iconst (-1), 1) := by decide +kernel
theorem dX8_init_32 : decode cX8_init 32 = .ok (.iastore, 1) := by decide +kernel
theorem dX8_init_33 : decode cX8_init 33 = .ok (.dup, 1) := by decide +kernel
theorem dX8_init_34 : decode cX8_init 34 = .ok (.bipush 6, 2) := by decide +kernel
theorem dX8_init_36 : decode cX8_init 36 = .ok (.iconst (-1), 1) := by decide +kernel
theorem dX8_init_37 : decode cX8_init 37 = .ok (.iastore, 1) := by decide +kernel
theorem dX8_init_38 : decode cX8_init 38 = .ok (.dup, 1) := by decide +kernel
theorem dX8_init_39 : decode cX8_init 39 = .ok (.bipush 7, 2) := by decide +kernel
theorem dX8_init_41 : decode cX8_init 41 = .ok (.iconst (-1), 1) := by decide +kernel
theorem dX8_init_42 : decode cX8_init 42 = .ok (.iastore, 1) := by decide +kernel
theorem dX8_init_43 : decode cX8_init 43 = .ok (.putfield 7, 3) := by decide +kernel
theorem dX8_init_46 : decode cX8_init 46 = .ok (.aload_n 0, 1) := by decide +kernel
theorem dX8_init_47 : decode cX8_init 47 = .ok (.bipush 8, 2) := by decide +kernel
theorem dX8_init_49 : decode cX8_init 49 = .ok (.newarray .int, 2) := by decide +kernel
theorem dX8_init_51 : decode cX8_init 51 = .ok (.putfield 13, 3) := by decide +kernel
theorem dX8_init_54 : decode cX8_init 54 = .ok (.aload_n 0, 1) := by decide +kernel
theorem dX8_init_55 : decode cX8_init 55 = .ok (.sipush 320, 3) := by decide +kernel
theorem dX8_init_58 : decode cX8_init 58 = .ok (.newarray .int, 2) := by decide +kernel
theorem dX8_init_60 : decode cX8_init 60 = .ok (.putfield 16, 3) := by decide +kernel
theorem dX8_init_63 : decode cX8_init 63 = .ok (.aload_n 0, 1) := by decide +kernel
theorem dX8_init_64 : decode cX8_init 64 = .ok (.bipush 64, 2) := by decide +kernel
theorem dX8_init_66 : decode cX8_init 66 = .ok (.newarray .int, 2) := by decide +kernel
theorem dX8_init_68 : decode cX8_init 68 = .ok (.putfield 19, 3) := by decide +kernel
theorem dX8_init_71 : decode cX8_init 71 = .ok (.aload_n 0, 1) := by decide +kernel
theorem dX8_init_72 : decode cX8_init 72 = .ok (.bipush 64, 2) := by decide +kernel
theorem dX8_init_74 : decode cX8_init 74 = .ok (.newarray .int, 2) := by decide +kernel
theorem dX8_init_76 : decode cX8_init 76 = .ok (.putfield 22, 3) := by decide +kernel
theorem dX8_init_79 : decode cX8_init 79 = .ok (.aload_n 0, 1) := by decide +kernel
theorem dX8_init_80 : decode cX8_init 80 = .ok (.bipush 64, 2) := by decide +kernel
theorem dX8_init_82 : decode cX8_init 82 = .ok (.newarray .int, 2) := by decide +kernel
theorem dX8_init_84 : decode cX8_init 84 = .ok (.putfield 25, 3) := by decide +kernel
theorem dX8_init_87 : decode cX8_init 87 = .ok (.aload_n 0, 1) := by decide +kernel
theorem dX8_init_88 : decode cX8_init 88 = .ok (.sipush 1536, 3) := by decide +kernel
theorem dX8_init_91 : decode cX8_init 91 = .ok (.newarray .int, 2) := by decide +kernel
theorem dX8_init_93 : decode cX8_init 93 = .ok (.putfield 28, 3) := by decide +kernel
theorem dX8_init_96 : decode cX8_init 96 = .ok (.aload_n 0, 1) := by decide +kernel
theorem dX8_init_97 : decode cX8_init 97 = .ok (.bipush 120, 2) := by decide +kernel
theorem dX8_init_99 : decode cX8_init 99 = .ok (.newarray .int, 2) := by decide +kernel
theorem dX8_init_101 : decode cX8_init 101 = .ok (.putfield 31, 3) := by decide +kernel
theorem dX8_init_104 : decode cX8_init 104 = .ok (.aload_n 0, 1) := by decide +kernel
theorem dX8_init_105 : decode cX8_init 105 = .ok (.iconst 2, 1) := by decide +kernel
theorem dX8_init_106 : decode cX8_init 106 = .ok (.newarray .boolean, 2) := by decide +kernel
theorem dX8_init_108 : decode cX8_init 108 = .ok (.putfield 34, 3) := by decide +kernel
theorem dX8_init_111 : decode cX8_init 111 = .ok (.aload_n 0, 1) := by decide +kernel
theorem dX8_init_112 : decode cX8_init 112 = .ok (.sipush 128, 3) := by decide +kernel
theorem dX8_init_115 : decode cX8_init 115 = .ok (.newarray .int, 2) := by decide +kernel
theorem dX8_init_117 : decode cX8_init 117 = .ok (.putfield 38, 3) := by decide +kernel
theorem dX8_init_120 : decode cX8_init 120 = .ok (.aload_n 0, 1) := by decide +kernel
theorem dX8_init_121 : decode cX8_init 121 = .ok (.bipush 16, 2) := by decide +kernel
theorem dX8_init_123 : decode cX8_init 123 = .ok (.newarray .int, 2) := by decide +kernel
theorem dX8_init_125 : decode cX8_init 125 = .ok (.putfield 41, 3) := by decide +kernel
theorem dX8_init_128 : decode cX8_init 128 = .ok (.return_, 1) := by decide +kernel
def bX8_init_0 : List sx_S := [si_al 0, si_oi, si_al 0, si_const (nI 8), si_newa 0 11 2330, si_dup, si_const 0, si_const (-1), si_iast, si_dup, si_const 1, si_const (-1), si_iast, si_dup, si_const (nI 2), si_const (-1), si_iast, si_dup, si_const (nI 3), si_const (-1), si_iast, si_dup, si_const (nI 4), si_const (-1), si_iast, si_dup, si_const (nI 5), si_const (-1), si_iast, si_dup, si_const (nI 6), si_const (-1), si_iast, si_dup, si_const (nI 7), si_const (-1), si_iast, si_put 7 2 1, si_al 0, si_const (nI 8), si_newa 0 11 2330, si_put 7 3 1, si_al 0, si_const (nI 320), si_newa 0 11 2330, si_put 7 4 1, si_al 0, si_const (nI 64), si_newa 0 11 2330, si_put 7 5 1, si_al 0, si_const (nI 64), si_newa 0 11 2330, si_put 7 6 1, si_al 0, si_const (nI 64), si_newa 0 11 2330, si_put 7 7 1, si_al 0, si_const (nI 1536), si_newa 0 11 2330, si_put 7 8 1, si_al 0, si_const (nI 120), si_newa 0 11 2330, si_put 7 10 1, si_al 0, si_const (nI 2), si_newa 1 11 2330, si_put 7 19 1, si_al 0, si_const (nI 128), si_newa 0 11 2330, si_put 7 20 1, si_al 0, si_const (nI 16), si_newa 0 11 2330, si_put 7 21 1, si_rv]
def BX8_init : Nat → List sx_S := fun pc => if pc = 0 then bX8_init_0 else []
set_option maxRecDepth 20000 in
theorem kX8_init_0 : sx_BK sx_tb yX8_init.cls cX8_init 1 (none) ({ frames := 1, cells := 11, slots := 2330, locals := 20 } : Room) true false 0 (fun _ => 0) 0 (bX8_init_0) := ⟨_, ⟨sn_aload_n dX8_init_0 rfl, sm_al _⟩, ⟨_, ⟨sn_oi dX8_init_1 zw_3_181 zw_1_19 zw_1_20 (Nat.le_of_ble_eq_true rfl) (Nat.le_of_ble_eq_true rfl), sm_oi⟩, ⟨_, ⟨sn_aload_n dX8_init_4 rfl, sm_al _⟩, ⟨_, ⟨sn_bipush dX8_init_5 (by decide +kernel), sm_const _⟩, ⟨_, ⟨sn_newa0 dX8_init_7 zw_1_44, sm_newa _ _ _⟩, ⟨_, ⟨sn_dup dX8_init_9, sm_dup⟩, ⟨_, ⟨sn_iconst dX8_init_10 (by decide +kernel), sm_const _⟩, ⟨_, ⟨sn_iconst dX8_init_11 (by decide +kernel), sm_const _⟩, ⟨_, ⟨sn_iast dX8_init_12, sm_iast⟩, ⟨_, ⟨sn_dup dX8_init_13, sm_dup⟩, ⟨_, ⟨sn_iconst dX8_init_14 (by decide +kernel), sm_const _⟩, ⟨_, ⟨sn_iconst dX8_init_15 (by decide +kernel), sm_const _⟩, ⟨_, ⟨sn_iast dX8_init_16, sm_iast⟩, ⟨_, ⟨sn_dup dX8_init_17, sm_dup⟩, ⟨_, ⟨sn_iconst dX8_init_18 (by decide +kernel), sm_const _⟩, ⟨_, ⟨sn_iconst dX8_init_19 (by decide +kernel), sm_const _⟩, ⟨_, ⟨sn_iast dX8_init_20, sm_iast⟩, ⟨_, ⟨sn_dup dX8_init_21, sm_dup⟩, ⟨_, ⟨sn_iconst dX8_init_22 (by decide +kernel), sm_const _⟩, ⟨_, ⟨sn_iconst dX8_init_23 (by decide +kernel), sm_const _⟩, ⟨_, ⟨sn_iast dX8_init_24, sm_iast⟩, ⟨_, ⟨sn_dup dX8_init_25, sm_dup⟩, ⟨_, ⟨sn_iconst dX8_init_26 (by decide +kernel), sm_const _⟩, ⟨_, ⟨sn_iconst dX8_init_27 (by decide +kernel), sm_const _⟩, ⟨_, ⟨sn_iast dX8_init_28, sm_iast⟩, ⟨_, ⟨sn_dup dX8_init_29, sm_dup⟩, ⟨_, ⟨sn_iconst dX8_init_30 (by decide +kernel), sm_const _⟩, ⟨_, ⟨sn_iconst dX8_init_31 (by decide +kernel), sm_const _⟩, ⟨_, ⟨sn_iast dX8_init_32, sm_iast⟩, ⟨_, ⟨sn_dup dX8_init_33, sm_dup⟩, ⟨_, ⟨sn_bipush dX8_init_34 (by decide +kernel), sm_const _⟩, ⟨_, ⟨sn_iconst dX8_init_36 (by decide +kernel), sm_const _⟩, ⟨_, ⟨sn_iast dX8_init_37, sm_iast⟩, ⟨_, ⟨sn_dup dX8_init_38, sm_dup⟩, ⟨_, ⟨sn_bipush dX8_init_39 (by decide +kernel), sm_const _⟩, ⟨_, ⟨sn_iconst dX8_init_41 (by decide +kernel), sm_const _⟩, ⟨_, ⟨sn_iast dX8_init_42, sm_iast⟩, ⟨_, ⟨sn_putF (C := RX8) (T := TX8) (N := 23) dX8_init_43 rfl zinX8 tyX8_ok nmX8 (Nat.le_of_ble_eq_true rfl) zw_3_184 rfl rfl rfl (tyX8_ok 2 (Nat.le_of_ble_eq_true rfl)) trivial, sm_put _ _ _⟩, ⟨_, ⟨sn_aload_n dX8_init_46 rfl, sm_al _⟩, ⟨_, ⟨sn_bipush dX8_init_47 (by decide +kernel), sm_const _⟩, ⟨_, ⟨sn_newa0 dX8_init_49 zw_1_44, sm_newa _ _ _⟩, ⟨_, ⟨sn_putF (C := RX8) (T := TX8) (N := 23) dX8_init_51 rfl zinX8 tyX8_ok nmX8 (Nat.le_of_ble_eq_true rfl) zw_3_185 rfl rfl rfl (tyX8_ok 3 (Nat.le_of_ble_eq_true rfl)) trivial, sm_put _ _ _⟩, ⟨_, ⟨sn_aload_n dX8_init_54 rfl, sm_al _⟩, ⟨_, ⟨sn_sipush dX8_init_55 (by decide +kernel), sm_const _⟩, ⟨_, ⟨sn_newa0 dX8_init_58 zw_1_44, sm_newa _ _ _⟩, ⟨_, ⟨sn_putF (C := RX8) (T := TX8) (N := 23) dX8_init_60 rfl zinX8 tyX8_ok nmX8 (Nat.le_of_ble_eq_true rfl) zw_3_186 rfl rfl rfl (tyX8_ok 4 (Nat.le_of_ble_eq_true rfl)) trivial, sm_put _ _ _⟩, ⟨_, ⟨sn_aload_n dX8_init_63 rfl, sm_al _⟩, ⟨_, ⟨sn_bipush dX8_init_64 (by decide +kernel), sm_const _⟩, ⟨_, ⟨sn_newa0 dX8_init_66 zw_1_44, sm_newa _ _ _⟩, ⟨_, ⟨sn_putF (C := RX8) (T := TX8) (N := 23) dX8_init_68 rfl zinX8 tyX8_ok nmX8 (Nat.le_of_ble_eq_true rfl) zw_3_187 rfl rfl rfl (tyX8_ok 5 (Nat.le_of_ble_eq_true rfl)) trivial, sm_put _ _ _⟩, ⟨_, ⟨sn_aload_n dX8_init_71 rfl, sm_al _⟩, ⟨_, ⟨sn_bipush dX8_init_72 (by decide +kernel), sm_const _⟩, ⟨_, ⟨sn_newa0 dX8_init_74 zw_1_44, sm_newa _ _ _⟩, ⟨_, ⟨sn_putF (C := RX8) (T := TX8) (N := 23) dX8_init_76 rfl zinX8 tyX8_ok nmX8 (Nat.le_of_ble_eq_true rfl) zw_3_188 rfl rfl rfl (tyX8_ok 6 (Nat.le_of_ble_eq_true rfl)) trivial, sm_put _ _ _⟩, ⟨_, ⟨sn_aload_n dX8_init_79 rfl, sm_al _⟩, ⟨_, ⟨sn_bipush dX8_init_80 (by decide +kernel), sm_const _⟩, ⟨_, ⟨sn_newa0 dX8_init_82 zw_1_44, sm_newa _ _ _⟩, ⟨_, ⟨sn_putF (C := RX8) (T := TX8) (N := 23) dX8_init_84 rfl zinX8 tyX8_ok nmX8 (Nat.le_of_ble_eq_true rfl) zw_3_189 rfl rfl rfl (tyX8_ok 7 (Nat.le_of_ble_eq_true rfl)) trivial, sm_put _ _ _⟩, ⟨_, ⟨sn_aload_n dX8_init_87 rfl, sm_al _⟩, ⟨_, ⟨sn_sipush dX8_init_88 (by decide +kernel), sm_const _⟩, ⟨_, ⟨sn_newa0 dX8_init_91 zw_1_44, sm_newa _ _ _⟩, ⟨_, ⟨sn_putF (C := RX8) (T := TX8) (N := 23) dX8_init_93 rfl zinX8 tyX8_ok nmX8 (Nat.le_of_ble_eq_true rfl) zw_3_190 rfl rfl rfl (tyX8_ok 8 (Nat.le_of_ble_eq_true rfl)) trivial, sm_put _ _ _⟩, ⟨_, ⟨sn_aload_n dX8_init_96 rfl, sm_al _⟩, ⟨_, ⟨sn_bipush dX8_init_97 (by decide +kernel), sm_const _⟩, ⟨_, ⟨sn_newa0 dX8_init_99 zw_1_44, sm_newa _ _ _⟩, ⟨_, ⟨sn_putF (C := RX8) (T := TX8) (N := 23) dX8_init_101 rfl zinX8 tyX8_ok nmX8 (Nat.le_of_ble_eq_true rfl) zw_3_192 rfl rfl rfl (tyX8_ok 10 (Nat.le_of_ble_eq_true rfl)) trivial, sm_put _ _ _⟩, ⟨_, ⟨sn_aload_n dX8_init_104 rfl, sm_al _⟩, ⟨_, ⟨sn_iconst dX8_init_105 (by decide +kernel), sm_const _⟩, ⟨_, ⟨sn_newa1 dX8_init_106 zw_4_12, sm_newa _ _ _⟩, ⟨_, ⟨sn_putF (C := RX8) (T := TX8) (N := 23) dX8_init_108 rfl zinX8 tyX8_ok nmX8 (Nat.le_of_ble_eq_true rfl) zw_3_201 rfl rfl rfl (tyX8_ok 19 (Nat.le_of_ble_eq_true rfl)) trivial, sm_put _ _ _⟩, ⟨_, ⟨sn_aload_n dX8_init_111 rfl, sm_al _⟩, ⟨_, ⟨sn_sipush dX8_init_112 (by decide +kernel), sm_const _⟩, ⟨_, ⟨sn_newa0 dX8_init_115 zw_1_44, sm_newa _ _ _⟩, ⟨_, ⟨sn_putF (C := RX8) (T := TX8) (N := 23) dX8_init_117 rfl zinX8 tyX8_ok nmX8 (Nat.le_of_ble_eq_true rfl) zw_3_202 rfl rfl rfl (tyX8_ok 20 (Nat.le_of_ble_eq_true rfl)) trivial, sm_put _ _ _⟩, ⟨_, ⟨sn_aload_n dX8_init_120 rfl, sm_al _⟩, ⟨_, ⟨sn_bipush dX8_init_121 (by decide +kernel), sm_const _⟩, ⟨_, ⟨sn_newa0 dX8_init_123 zw_1_44, sm_newa _ _ _⟩, ⟨_, ⟨sn_putF (C := RX8) (T := TX8) (N := 23) dX8_init_125 rfl zinX8 tyX8_ok nmX8 (Nat.le_of_ble_eq_true rfl) zw_3_203 rfl rfl rfl (tyX8_ok 21 (Nat.le_of_ble_eq_true rfl)) trivial, sm_put _ _ _⟩, ⟨_, ⟨sn_rv (len := 1) dX8_init_128 rfl, sm_rv⟩, trivial⟩⟩⟩⟩⟩⟩⟩⟩⟩⟩⟩⟩⟩⟩⟩⟩⟩⟩⟩⟩⟩⟩⟩⟩⟩⟩⟩⟩⟩⟩⟩⟩⟩⟩⟩⟩⟩⟩⟩⟩⟩⟩⟩⟩⟩⟩⟩⟩⟩⟩⟩⟩⟩⟩⟩⟩⟩⟩⟩⟩⟩⟩⟩⟩⟩⟩⟩⟩⟩⟩⟩⟩⟩⟩⟩⟩⟩⟩⟩
theorem kX8_init : ∀ pc, sx_BK sx_tb yX8_init.cls cX8_init 1 (none) ({ frames := 1, cells := 11, slots := 2330, locals := 20 } : Room) true false 0 (fun _ => 0) pc (BX8_init pc) := fun pc => sx_bk_if (kX8_init_0) (trivial)
theorem okX8_init : sx_ok sx_tb BX8_init (yX8_init, cX8_init, 1, none, { frames := 1, cells := 11, slots := 2330, locals := 20 }) := ⟨by decide, by decide +kernel, true, (fun _ => rfl), kX8_init⟩
theorem dX8_in_0 : decode cX8_in 0 = .ok (.lload_n 0, 1) := by decide +kernel
theorem dX8_in_1 : decode cX8_in 1 = .ok (.lload_n 2, 1) := by decide +kernel
theorem dX8_in_2 : decode cX8_in 2 = .ok (.lcmp, 1) := by decide +kernel
theorem dX8_in_3 : decode cX8_in 3 = .ok (.ifCond .lt 14, 3) := by decide +kernel
theorem dX8_in_6 : decode cX8_in 6 = .ok (.lload_n 0, 1) := by decide +kernel
theorem dX8_in_7 : decode cX8_in 7 = .ok (.lload 4, 2) := by decide +kernel
theorem dX8_in_9 : decode cX8_in 9 = .ok (.lcmp, 1) := by decide +kernel
theorem dX8_in_10 : decode cX8_in 10 = .ok (.ifCond .gt 7, 3) := by decide +kernel
theorem dX8_in_13 : decode cX8_in 13 = .ok (.iconst 1, 1) := by decide +kernel
theorem dX8_in_14 : decode cX8_in 14 = .ok (.goto 4, 3) := by decide +kernel
theorem dX8_in_17 : decode cX8_in 17 = .ok (.iconst 0, 1) := by decide +kernel
theorem dX8_in_18 : decode cX8_in 18 = .ok (.ireturn, 1) := by decide +kernel
def bX8_in_0 : List sx_S := [si_ll 0, si_ll 2, si_lcmp, si_if1 (fun x => x < 0) 17 [false, false, false, false, false, false], si_ll 0, si_ll 4, si_lcmp, si_if1 (fun x => 0 < x) 17 [false, false, false, false, false, false], si_const 1, si_go 18 [false, false, false, false, false, false]]
def bX8_in_17 : List sx_S := [si_const 0, si_go 18 [false, false, false, false, false, false]]
def bX8_in_18 : List sx_S := [si_rz]
def BX8_in : Nat → List sx_S := fun pc => if pc = 0 then bX8_in_0 else if pc = 17 then bX8_in_17 else if pc = 18 then bX8_in_18 else []
set_option maxRecDepth 20000 in
theorem kX8_in_0 : sx_BK sx_tb yX8_in.cls cX8_in 6 (some .boolean) ({ frames := 0, cells := 0, slots := 0, locals := 0 } : Room) false false 0 (fun _ => 0) 0 (bX8_in_0) := ⟨_, ⟨sn_lload_n dX8_in_0 rfl, sm_ll _⟩, ⟨_, ⟨sn_lload_n dX8_in_1 rfl, sm_ll _⟩, ⟨_, ⟨sn_lcmp dX8_in_2, sm_lcmp⟩, ⟨_, ⟨sn_if_lt dX8_in_3 (by decide +kernel) rfl, sm_if1 _ _ _⟩, ⟨_, ⟨sn_lload_n dX8_in_6 rfl, sm_ll _⟩, ⟨_, ⟨sn_lload dX8_in_7, sm_ll _⟩, ⟨_, ⟨sn_lcmp dX8_in_9, sm_lcmp⟩, ⟨_, ⟨sn_if_gt dX8_in_10 (by decide +kernel) rfl, sm_if1 _ _ _⟩, ⟨_, ⟨sn_iconst dX8_in_13 (by decide +kernel), sm_const _⟩, ⟨_, ⟨sn_goto (len := 3) dX8_in_14 (by decide +kernel) rfl, sm_go _ _⟩, trivial⟩⟩⟩⟩⟩⟩⟩⟩⟩⟩
set_option maxRecDepth 20000 in
theorem kX8_in_17 : sx_BK sx_tb yX8_in.cls cX8_in 6 (some .boolean) ({ frames := 0, cells := 0, slots := 0, locals := 0 } : Room) false false 0 (fun _ => 0) 17 (bX8_in_17) := ⟨_, ⟨sn_iconst dX8_in_17 (by decide +kernel), sm_const _⟩, ⟨_, ⟨sn_fall (len := 0) rfl rfl, sm_go _ _⟩, trivial⟩⟩
set_option maxRecDepth 20000 in
theorem kX8_in_18 : sx_BK sx_tb yX8_in.cls cX8_in 6 (some .boolean) ({ frames := 0, cells := 0, slots := 0, locals := 0 } : Room) false false 0 (fun _ => 0) 18 (bX8_in_18) := ⟨_, ⟨sn_rz (len := 1) dX8_in_18 rfl, sm_rz⟩, trivial⟩
theorem kX8_in : ∀ pc, sx_BK sx_tb yX8_in.cls cX8_in 6 (some .boolean) ({ frames := 0, cells := 0, slots := 0, locals := 0 } : Room) false false 0 (fun _ => 0) pc (BX8_in pc) := fun pc => sx_bk_if (kX8_in_0) (sx_bk_if (kX8_in_17) (sx_bk_if (kX8_in_18) (trivial)))
theorem okX8_in : sx_ok sx_tb BX8_in (yX8_in, cX8_in, 6, some .boolean, { frames := 0, cells := 0, slots := 0, locals := 0 }) := ⟨by decide, by decide +kernel, false, (fun h => by cases h), kX8_in⟩
theorem dX8_finding_0 : decode cX8_finding 0 = .ok (.aload_n 0, 1) := by decide +kernel
theorem dX8_finding_1 : decode cX8_finding 1 = .ok (.iload_n 1, 1) := by decide +kernel
theorem dX8_finding_2 : decode cX8_finding 2 = .ok (.putfield 48, 3) := by decide +kernel
theorem dX8_finding_5 : decode cX8_finding 5 = .ok (.ldc 51, 2) := by decide +kernel
theorem dX8_finding_7 : decode cX8_finding 7 = .ok (.iload_n 1, 1) := by decide +kernel
theorem dX8_finding_8 : decode cX8_finding 8 = .ok (.isub, 1) := by decide +kernel
theorem dX8_finding_9 : decode cX8_finding 9 = .ok (.ireturn, 1) := by decide +kernel
def bX8_finding_0 : List sx_S := [si_al 0, si_il 1, si_put 7 1 0, si_const (-1000010), si_il 1, si_bin (fun x y => x - y), si_ri]
def BX8_finding : Nat → List sx_S := fun pc => if pc = 0 then bX8_finding_0 else []
set_option maxRecDepth 20000 in
theorem kX8_finding_0 : sx_BK sx_tb yX8_finding.cls cX8_finding 2 (some .int) ({ frames := 0, cells := 0, slots := 0, locals := 0 } : Room) false false 0 (fun _ => 0) 0 (bX8_finding_0) := ⟨_, ⟨sn_aload_n dX8_finding_0 rfl, sm_al _⟩, ⟨_, ⟨sn_iload_n dX8_finding_1 rfl, sm_il _⟩, ⟨_, ⟨sn_put (C := RX8) (T := TX8) (N := 23) dX8_finding_2 rfl zinX8 tyX8_ok nmX8 (Nat.le_of_ble_eq_true rfl) zw_3_183 rfl (tyX8_ok 1 (Nat.le_of_ble_eq_true rfl)) trivial, sm_put _ _ _⟩, ⟨_, ⟨sn_ldc dX8_finding_5 zw_4_30, sm_const _⟩, ⟨_, ⟨sn_iload_n dX8_finding_7 rfl, sm_il _⟩, ⟨_, ⟨sn_isub dX8_finding_8, sm_bin _⟩, ⟨_, ⟨sn_ri (len := 1) dX8_finding_9 rfl, sm_ri⟩, trivial⟩⟩⟩⟩⟩⟩⟩
theorem kX8_finding : ∀ pc, sx_BK sx_tb yX8_finding.cls cX8_finding 2 (some .int) ({ frames := 0, cells := 0, slots := 0, locals := 0 } : Room) false false 0 (fun _ => 0) pc (BX8_finding pc) := fun pc => sx_bk_if (kX8_finding_0) (trivial)
theorem okX8_finding : sx_ok sx_tb BX8_finding (yX8_finding, cX8_finding, 2, some .int, { frames := 0, cells := 0, slots := 0, locals := 0 }) := ⟨by decide, by decide +kernel, false, (fun h => by cases h), kX8_finding⟩
theorem dX8_isRow_0 : decode cX8_isRow 0 = .ok (.iload_n 0, 1) := by decide +kernel
theorem dX8_isRow_1 : decode cX8_isRow 1 = .ok (.i2l, 1) := by decide +kernel
theorem dX8_isRow_2 : decode cX8_isRow 2 = .ok (.lconst 0, 1) := by decide +kernel
theorem dX8_isRow_3 : decode cX8_isRow 3 = .ok (.ldc2_w 52, 3) := by decide +kernel
theorem dX8_isRow_6 : decode cX8_isRow 6 = .ok (.invokestatic 54, 3) := by decide +kernel
theorem dX8_isRow_9 : decode cX8_isRow 9 = .ok (.ireturn, 1) := by decide +kernel
def bX8_isRow_0 : List sx_S := [si_il 0, si_i2l, si_lconst 0, si_lconst (lN 7), si_cs 124 3 0 0 0 0, si_rz]
def BX8_isRow : Nat → List sx_S := fun pc => if pc = 0 then bX8_isRow_0 else []
set_option maxRecDepth 20000 in
theorem kX8_isRow_0 : sx_BK sx_tb yX8_isRow.cls cX8_isRow 1 (some .boolean) ({ frames := 1, cells := 0, slots := 0, locals := 25 } : Room) false false 0 (fun _ => 0) 0 (bX8_isRow_0) := ⟨_, ⟨sn_iload_n dX8_isRow_0 rfl, sm_il _⟩, ⟨_, ⟨sn_i2l dX8_isRow_1, sm_i2l⟩, ⟨_, ⟨sn_lconst dX8_isRow_2 (by decide +kernel), sm_lconst _⟩, ⟨_, ⟨sn_ldc2 dX8_isRow_3 zw_4_20, sm_lconst _⟩, ⟨_, ⟨sn_cs_z ztb_X8_in dX8_isRow_6 zw_4_21 zw_4_22 zw_1_8 zw_4_23 zmh_X8 zpd_X8_in (Nat.le_of_ble_eq_true rfl) (Nat.le_of_ble_eq_true rfl) rfl rfl, sm_cs _ _ _ _ _ _⟩, ⟨_, ⟨sn_rz (len := 1) dX8_isRow_9 rfl, sm_rz⟩, trivial⟩⟩⟩⟩⟩⟩
theorem kX8_isRow : ∀ pc, sx_BK sx_tb yX8_isRow.cls cX8_isRow 1 (some .boolean) ({ frames := 1, cells := 0, slots := 0, locals := 25 } : Room) false false 0 (fun _ => 0) pc (BX8_isRow pc) := fun pc => sx_bk_if (kX8_isRow_0) (trivial)
theorem okX8_isRow : sx_ok sx_tb BX8_isRow (yX8_isRow, cX8_isRow, 1, some .boolean, { frames := 1, cells := 0, slots := 0, locals := 25 }) := ⟨by decide, by decide +kernel, false, (fun h => by cases h), kX8_isRow⟩
theorem dX8_row_0 : decode cX8_row 0 = .ok (.aload_n 0, 1) := by decide +kernel
theorem dX8_row_1 : decode cX8_row 1 = .ok (.iconst 0, 1) := by decide +kernel
theorem dX8_row_2 : decode cX8_row 2 = .ok (.putfield 44, 3) := by decide +kernel
theorem dX8_row_5 : decode cX8_row 5 = .ok (.iload_n 1, 1) := by decide +kernel
theorem dX8_row_6 : decode cX8_row 6 = .ok (.invokestatic 58, 3) := by decide +kernel
theorem dX8_row_9 : decode cX8_row 9 = .ok (.ifCond .eq 21, 3) := by decide +kernel
theorem dX8_row_12 : decode cX8_row 12 = .ok (.iload_n 2, 1) := by decide +kernel
theorem dX8_row_13 : decode cX8_row 13 = .ok (.i2l, 1) := by decide +kernel
theorem dX8_row_14 : decode cX8_row 14 = .ok (.lconst 0, 1) := by decide +kernel
theorem dX8_row_15 : decode cX8_row 15 = .ok (.ldc2_w 62, 3) := by decide +kernel
theorem dX8_row_18 : decode cX8_row 18 = .ok (.invokestatic 54, 3) := by decide +kernel
theorem dX8_row_21 : decode cX8_row 21 = .ok (.ifCond .eq 9, 3) := by decide +kernel
theorem dX8_row_24 : decode cX8_row 24 = .ok (.iload_n 3, 1) := by decide +kernel
theorem dX8_row_25 : decode cX8_row 25 = .ok (.bipush 40, 2) := by decide +kernel
theorem dX8_row_27 : decode cX8_row 27 = .ok (.if_icmp .le 6, 3) := by decide +kernel
theorem dX8_row_30 : decode cX8_row 30 = .ok (.ldc 64, 2) := by decide +kernel
theorem dX8_row_32 : decode cX8_row 32 = .ok (.ireturn, 1) := by decide +kernel
theorem dX8_row_33 : decode cX8_row 33 = .ok (.aload_n 0, 1) := by decide +kernel
theorem dX8_row_34 : decode cX8_row 34 = .ok (.iconst 0, 1) := by decide +kernel
theorem dX8_row_35 : decode cX8_row 35 = .ok (.putfield 48, 3) := by decide +kernel
theorem dX8_row_38 : decode cX8_row 38 = .ok (.iload_n 3, 1) := by decide +kernel
theorem dX8_row_39 : decode cX8_row 39 = .ok (.ifCond .ge 9, 3) := by decide +kernel
theorem dX8_row_42 : decode cX8_row 42 = .ok (.aload_n 0, 1) := by decide +kernel
theorem dX8_row_43 : decode cX8_row 43 = .ok (.iconst 4, 1) := by decide +kernel
theorem dX8_row_44 : decode cX8_row 44 = .ok (.invokevirtual 65, 3) := by decide +kernel
theorem dX8_row_47 : decode cX8_row 47 = .ok (.ireturn, 1) := by decide +kernel
theorem dX8_row_48 : decode cX8_row 48 = .ok (.aload_n 0, 1) := by decide +kernel
theorem dX8_row_49 : decode cX8_row 49 = .ok (.getfield 7, 3) := by decide +kernel
theorem dX8_row_52 : decode cX8_row 52 = .ok (.iload_n 1, 1) := by decide +kernel
theorem dX8_row_53 : decode cX8_row 53 = .ok (.iload_n 2, 1) := by decide +kernel
theorem dX8_row_54 : decode cX8_row 54 = .ok (.iastore, 1) := by decide +kernel
theorem dX8_row_55 : decode cX8_row 55 = .ok (.aload_n 0, 1) := by decide +kernel
theorem dX8_row_56 : decode cX8_row 56 = .ok (.getfield 13, 3) := by decide +kernel
theorem dX8_row_59 : decode cX8_row 59 = .ok (.iload_n 1, 1) := by decide +kernel
theorem dX8_row_60 : decode cX8_row 60 = .ok (.iload_n 3, 1) := by decide +kernel
theorem dX8_row_61 : decode cX8_row 61 = .ok (.iastore, 1) := by decide +kernel
theorem dX8_row_62 : decode cX8_row 62 = .ok (.iconst 0, 1) := by decide +kernel
theorem dX8_row_63 : decode cX8_row 63 = .ok (.istore 4, 2) := by decide +kernel
theorem dX8_row_65 : decode cX8_row 65 = .ok (.iload 4, 2) := by decide +kernel
theorem dX8_row_67 : decode cX8_row 67 = .ok (.bipush 40, 2) := by decide +kernel
theorem dX8_row_69 : decode cX8_row 69 = .ok (.if_icmp .ge 22, 3) := by decide +kernel
theorem dX8_row_72 : decode cX8_row 72 = .ok (.aload_n 0, 1) := by decide +kernel
theorem dX8_row_73 : decode cX8_row 73 = .ok (.getfield 16, 3) := by decide +kernel
theorem dX8_row_76 : decode cX8_row 76 = .ok (.bipush 40, 2) := by decide +kernel
theorem dX8_row_78 : decode cX8_row 78 = .ok (.iload_n 1, 1) := by decide +kernel
theorem dX8_row_79 : decode cX8_row 79 = .ok (.imul, 1) := by decide +kernel
theorem dX8_row_80 : decode cX8_row 80 = .ok (.iload 4, 2) := by decide +kernel
theorem dX8_row_82 : decode cX8_row 82 = .ok (.iadd, 1) := by decide +kernel
theorem dX8_row_83 : decode cX8_row 83 = .ok (.iconst 0, 1) := by decide +kernel
theorem dX8_row_84 : decode cX8_row 84 = .ok (.iastore, 1) := by decide +kernel
theorem dX8_row_85 : decode cX8_row 85 = .ok (.iinc 4 1, 3) := by decide +kernel
theorem dX8_row_88 : decode cX8_row 88 = .ok (.goto (-23), 3) := by decide +kernel
theorem dX8_row_91 : decode cX8_row 91 = .ok (.iload_n 3, 1) := by decide +kernel
theorem dX8_row_92 : decode cX8_row 92 = .ok (.ireturn, 1) := by decide +kernel
def bX8_row_0 : List sx_S := [si_al 0, si_const 0, si_put 7 0 0, si_il 1, si_cs 126 1 0 0 0 0, si_if1 (fun x => x = 0) 30 [false, false, false, false, false], si_il 2, si_i2l, si_lconst 0, si_lconst (lN 2), si_cs 124 3 0 0 0 0, si_if1 (fun x => x = 0) 30 [false, false, false, false, false], si_il 3, si_const (nI 40), si_if2 (fun x y => x ≤ y) 33 [true, true, true, true, false], si_go 30 [false, false, false, false, false]]
def bX8_row_30 : List sx_S := [si_const (-1000001), si_ri]
def bX8_row_33 : List sx_S := [si_al 0, si_const 0, si_put 7 1 0, si_il 3, si_if1 (fun x => 0 ≤ x) 48 [true, true, true, true, false], si_al 0, si_const (nI 4), si_cv 7 125 1 0 0 0 0, si_ri]
def bX8_row_48 : List sx_S := [si_al 0, si_get 7 2, si_il 1, si_il 2, si_iast, si_al 0, si_get 7 3, si_il 1, si_il 3, si_iast, si_const 0, si_is 4, si_go 65 [true, true, false, true, true]]
def bX8_row_65 : List sx_S := [si_il 4, si_const (nI 40), si_if2 (fun x y => y ≤ x) 91 [false, false, false, true, false], si_al 0, si_get 7 4, si_const (nI 40), si_il 1, si_bin (fun x y => x * y), si_il 4, si_bin (fun x y => x + y), si_const 0, si_iast, si_inc 4 1, si_go 65 [true, true, false, true, true]]
def bX8_row_91 : List sx_S := [si_il 3, si_ri]
def BX8_row : Nat → List sx_S := fun pc => if pc = 0 then bX8_row_0 else if pc = 30 then bX8_row_30 else if pc = 33 then bX8_row_33 else if pc = 48 then bX8_row_48 else if pc = 65 then bX8_row_65 else if pc = 91 then bX8_row_91 else []
set_option maxRecDepth 20000 in
theorem kX8_row_0 : sx_BK sx_tb yX8_row.cls cX8_row 5 (some .int) ({ frames := 2, cells := 0, slots := 0, locals := 45 } : Room) false false 0 (fun _ => 0) 0 (bX8_row_0) := ⟨_, ⟨sn_aload_n dX8_row_0 rfl, sm_al _⟩, ⟨_, ⟨sn_iconst dX8_row_1 (by decide +kernel), sm_const _⟩, ⟨_, ⟨sn_put (C := RX8) (T := TX8) (N := 23) dX8_row_2 rfl zinX8 tyX8_ok nmX8 (Nat.le_of_ble_eq_true rfl) zw_3_182 rfl (tyX8_ok 0 (Nat.le_of_ble_eq_true rfl)) trivial, sm_put _ _ _⟩, ⟨_, ⟨sn_iload_n dX8_row_5 rfl, sm_il _⟩, ⟨_, ⟨sn_cs_z ztb_X8_isRow dX8_row_6 zw_4_17 zw_4_18 zw_1_8 zw_4_19 zmh_X8 zpd_X8_isRow (Nat.le_of_ble_eq_true rfl) (Nat.le_of_ble_eq_true rfl) rfl rfl, sm_cs _ _ _ _ _ _⟩, ⟨_, ⟨sn_if_eq dX8_row_9 (by decide +kernel) rfl, sm_if1 _ _ _⟩, ⟨_, ⟨sn_iload_n dX8_row_12 rfl, sm_il _⟩, ⟨_, ⟨sn_i2l dX8_row_13, sm_i2l⟩, ⟨_, ⟨sn_lconst dX8_row_14 (by decide +kernel), sm_lconst _⟩, ⟨_, ⟨sn_ldc2 dX8_row_15 zw_4_24, sm_lconst _⟩, ⟨_, ⟨sn_cs_z ztb_X8_in dX8_row_18 zw_4_21 zw_4_22 zw_1_8 zw_4_23 zmh_X8 zpd_X8_in (Nat.le_of_ble_eq_true rfl) (Nat.le_of_ble_eq_true rfl) rfl rfl, sm_cs _ _ _ _ _ _⟩, ⟨_, ⟨sn_if_eq dX8_row_21 (by decide +kernel) rfl, sm_if1 _ _ _⟩, ⟨_, ⟨sn_iload_n dX8_row_24 rfl, sm_il _⟩, ⟨_, ⟨sn_bipush dX8_row_25 (by decide +kernel), sm_const _⟩, ⟨_, ⟨sn_ic_le dX8_row_27 (by decide +kernel) rfl, sm_if2 _ _ _⟩, ⟨_, ⟨sn_fall (len := 0) rfl rfl, sm_go _ _⟩, trivial⟩⟩⟩⟩⟩⟩⟩⟩⟩⟩⟩⟩⟩⟩⟩⟩
set_option maxRecDepth 20000 in
theorem kX8_row_30 : sx_BK sx_tb yX8_row.cls cX8_row 5 (some .int) ({ frames := 2, cells := 0, slots := 0, locals := 45 } : Room) false false 0 (fun _ => 0) 30 (bX8_row_30) := ⟨_, ⟨sn_ldc dX8_row_30 zw_4_25, sm_const _⟩, ⟨_, ⟨sn_ri (len := 1) dX8_row_32 rfl, sm_ri⟩, trivial⟩⟩
set_option maxRecDepth 20000 in
theorem kX8_row_33 : sx_BK sx_tb yX8_row.cls cX8_row 5 (some .int) ({ frames := 2, cells := 0, slots := 0, locals := 45 } : Room) false false 0 (fun _ => 0) 33 (bX8_row_33) := ⟨_, ⟨sn_aload_n dX8_row_33 rfl, sm_al _⟩, ⟨_, ⟨sn_iconst dX8_row_34 (by decide +kernel), sm_const _⟩, ⟨_, ⟨sn_put (C := RX8) (T := TX8) (N := 23) dX8_row_35 rfl zinX8 tyX8_ok nmX8 (Nat.le_of_ble_eq_true rfl) zw_3_183 rfl (tyX8_ok 1 (Nat.le_of_ble_eq_true rfl)) trivial, sm_put _ _ _⟩, ⟨_, ⟨sn_iload_n dX8_row_38 rfl, sm_il _⟩, ⟨_, ⟨sn_if_ge dX8_row_39 (by decide +kernel) rfl, sm_if1 _ _ _⟩, ⟨_, ⟨sn_aload_n dX8_row_42 rfl, sm_al _⟩, ⟨_, ⟨sn_iconst dX8_row_43 (by decide +kernel), sm_const _⟩, ⟨_, ⟨sn_cv_i (N := 23) (T := TX8) ztb_X8_finding dX8_row_44 rfl rfl zw_4_26 zw_4_28 zw_0_34 zw_1_8 zw_4_29 zmh_X8 zpd_X8_finding (Nat.le_of_ble_eq_true rfl) (Nat.le_of_ble_eq_true rfl) rfl rfl, sm_cv _ _ _ _ _ _ _⟩, ⟨_, ⟨sn_ri (len := 1) dX8_row_47 rfl, sm_ri⟩, trivial⟩⟩⟩⟩⟩⟩⟩⟩⟩
set_option maxRecDepth 20000 in
theorem kX8_row_48 : sx_BK sx_tb yX8_row.cls cX8_row 5 (some .int) ({ frames := 2, cells := 0, slots := 0, locals := 45 } : Room) false false 0 (fun _ => 0) 48 (bX8_row_48) := ⟨_, ⟨sn_aload_n dX8_row_48 rfl, sm_al _⟩, ⟨_, ⟨sn_get (C := RX8) (T := TX8) (N := 23) dX8_row_49 rfl zinX8 (Nat.le_of_ble_eq_true rfl) zw_3_184, sm_get _ _⟩, ⟨_, ⟨sn_iload_n dX8_row_52 rfl, sm_il _⟩, ⟨_, ⟨sn_iload_n dX8_row_53 rfl, sm_il _⟩, ⟨_, ⟨sn_iast dX8_row_54, sm_iast⟩, ⟨_, ⟨sn_aload_n dX8_row_55 rfl, sm_al _⟩, ⟨_, ⟨sn_get (C := RX8) (T := TX8) (N := 23) dX8_row_56 rfl zinX8 (Nat.le_of_ble_eq_true rfl) zw_3_185, sm_get _ _⟩, ⟨_, ⟨sn_iload_n dX8_row_59 rfl, sm_il _⟩, ⟨_, ⟨sn_iload_n dX8_row_60 rfl, sm_il _⟩, ⟨_, ⟨sn_iast dX8_row_61, sm_iast⟩, ⟨_, ⟨sn_iconst dX8_row_62 (by decide +kernel), sm_const _⟩, ⟨_, ⟨sn_istore dX8_row_63 (Nat.le_of_ble_eq_true rfl), sm_is _⟩, ⟨_, ⟨sn_fall (len := 0) rfl rfl, sm_go _ _⟩, trivial⟩⟩⟩⟩⟩⟩⟩⟩⟩⟩⟩⟩⟩
set_option maxRecDepth 20000 in
theorem kX8_row_65 : sx_BK sx_tb yX8_row.cls cX8_row 5 (some .int) ({ frames := 2, cells := 0, slots := 0, locals := 45 } : Room) false false 0 (fun _ => 0) 65 (bX8_row_65) := ⟨_, ⟨sn_iload dX8_row_65, sm_il _⟩, ⟨_, ⟨sn_bipush dX8_row_67 (by decide +kernel), sm_const _⟩, ⟨_, ⟨sn_ic_ge dX8_row_69 (by decide +kernel) rfl, sm_if2 _ _ _⟩, ⟨_, ⟨sn_aload_n dX8_row_72 rfl, sm_al _⟩, ⟨_, ⟨sn_get (C := RX8) (T := TX8) (N := 23) dX8_row_73 rfl zinX8 (Nat.le_of_ble_eq_true rfl) zw_3_186, sm_get _ _⟩, ⟨_, ⟨sn_bipush dX8_row_76 (by decide +kernel), sm_const _⟩, ⟨_, ⟨sn_iload_n dX8_row_78 rfl, sm_il _⟩, ⟨_, ⟨sn_imul dX8_row_79, sm_bin _⟩, ⟨_, ⟨sn_iload dX8_row_80, sm_il _⟩, ⟨_, ⟨sn_iadd dX8_row_82, sm_bin _⟩, ⟨_, ⟨sn_iconst dX8_row_83 (by decide +kernel), sm_const _⟩, ⟨_, ⟨sn_iast dX8_row_84, sm_iast⟩, ⟨_, ⟨sn_iinc dX8_row_85 (by decide +kernel) (Nat.le_of_ble_eq_true rfl), sm_inc _ _⟩, ⟨_, ⟨sn_goto (len := 3) dX8_row_88 (by decide +kernel) rfl, sm_go _ _⟩, trivial⟩⟩⟩⟩⟩⟩⟩⟩⟩⟩⟩⟩⟩⟩
set_option maxRecDepth 20000 in
theorem kX8_row_91 : sx_BK sx_tb yX8_row.cls cX8_row 5 (some .int) ({ frames := 2, cells := 0, slots := 0, locals := 45 } : Room) false false 0 (fun _ => 0) 91 (bX8_row_91) := ⟨_, ⟨sn_iload_n dX8_row_91 rfl, sm_il _⟩, ⟨_, ⟨sn_ri (len := 1) dX8_row_92 rfl, sm_ri⟩, trivial⟩⟩
theorem kX8_row : ∀ pc, sx_BK sx_tb yX8_row.cls cX8_row 5 (some .int) ({ frames := 2, cells := 0, slots := 0, locals := 45 } : Room) false false 0 (fun _ => 0) pc (BX8_row pc) := fun pc => sx_bk_if (kX8_row_0) (sx_bk_if (kX8_row_30) (sx_bk_if (kX8_row_33) (sx_bk_if (kX8_row_48) (sx_bk_if (kX8_row_65) (sx_bk_if (kX8_row_91) (trivial))))))
theorem okX8_row : sx_ok sx_tb BX8_row (yX8_row, cX8_row, 5, some .int, { frames := 2, cells := 0, slots := 0, locals := 45 }) := ⟨by decide, by decide +kernel, false, (fun h => by cases h), kX8_row⟩
theorem dX8_set_0 : decode cX8_set 0 = .ok (.aload_n 0, 1) := by decide +kernel
theorem dX8_set_1 : decode cX8_set 1 = .ok (.iconst 0, 1) := by decide +kernel
theorem dX8_set_2 : decode cX8_set 2 = .ok (.putfield 44, 3) := by decide +kernel
theorem dX8_set_5 : decode cX8_set 5 = .ok (.iload_n 1, 1) := by decide +kernel
theorem dX8_set_6 : decode cX8_set 6 = .ok (.invokestatic 58, 3) := by decide +kernel
theorem dX8_set_9 : decode cX8_set 9 = .ok (.ifCond .ne 6, 3) := by decide +kernel
theorem dX8_set_12 : decode cX8_set 12 = .ok (.ldc 64, 2) := by decide +kernel
theorem dX8_set_14 : decode cX8_set 14 = .ok (.ireturn, 1) := by decide +kernel
theorem dX8_set_15 : decode cX8_set 15 = .ok (.aload_n 0, 1) := by decide +kernel
theorem dX8_set_16 : decode cX8_set 16 = .ok (.iconst 0, 1) := by decide +kernel
theorem dX8_set_17 : decode cX8_set 17 = .ok (.putfield 48, 3) := by decide +kernel
theorem dX8_set_20 : decode cX8_set 20 = .ok (.aload_n 0, 1) := by decide +kernel
theorem dX8_set_21 : decode cX8_set 21 = .ok (.getfield 7, 3) := by decide +kernel
theorem dX8_set_24 : decode cX8_set 24 = .ok (.iload_n 1, 1) := by decide +kernel
theorem dX8_set_25 : decode cX8_set 25 = .ok (.iaload, 1) := by decide +kernel
theorem dX8_set_26 : decode cX8_set 26 = .ok (.ifCond .ge 9, 3) := by decide +kernel
theorem dX8_set_29 : decode cX8_set 29 = .ok (.aload_n 0, 1) := by decide +kernel
theorem dX8_set_30 : decode cX8_set 30 = .ok (.iconst 1, 1) := by decide +kernel
theorem dX8_set_31 : decode cX8_set 31 = .ok (.invokevirtual 65, 3) := by decide +kernel
theorem dX8_set_34 : decode cX8_set 34 = .ok (.ireturn, 1) := by decide +kernel
theorem dX8_set_35 : decode cX8_set 35 = .ok (.iload_n 2, 1) := by decide +kernel
theorem dX8_set_36 : decode cX8_set 36 = .ok (.i2l, 1) := by decide +kernel
theorem dX8_set_37 : decode cX8_set 37 = .ok (.lconst 0, 1) := by decide +kernel
theorem dX8_set_38 : decode cX8_set 38 = .ok (.aload_n 0, 1) := by decide +kernel
theorem dX8_set_39 : decode cX8_set 39 = .ok (.getfield 13, 3) := by decide +kernel
theorem dX8_set_42 : decode cX8_set 42 = .ok (.iload_n 1, 1) := by decide +kernel
theorem dX8_set_43 : decode cX8_set 43 = .ok (.iaload, 1) := by decide +kernel
theorem dX8_set_44 : decode cX8_set 44 = .ok (.iconst 1, 1) := by decide +kernel
theorem dX8_set_45 : decode cX8_set 45 = .ok (.isub, 1) := by decide +kernel
theorem dX8_set_46 : decode cX8_set 46 = .ok (.i2l, 1) := by decide +kernel
theorem dX8_set_47 : decode cX8_set 47 = .ok (.invokestatic 54, 3) := by decide +kernel
theorem dX8_set_50 : decode cX8_set 50 = .ok (.ifCond .ne 9, 3) := by decide +kernel
theorem dX8_set_53 : decode cX8_set 53 = .ok (.aload_n 0, 1) := by decide +kernel
theorem dX8_set_54 : decode cX8_set 54 = .ok (.iconst 2, 1) := by decide +kernel
theorem dX8_set_55 : decode cX8_set 55 = .ok (.invokevirtual 65, 3) := by decide +kernel
theorem dX8_set_58 : decode cX8_set 58 = .ok (.ireturn, 1) := by decide +kernel
theorem dX8_set_59 : decode cX8_set 59 = .ok (.aload_n 0, 1) := by decide +kernel
theorem dX8_set_60 : decode cX8_set 60 = .ok (.getfield 16, 3) := by decide +kernel
theorem dX8_set_63 : decode cX8_set 63 = .ok (.bipush 40, 2) := by decide +kernel
theorem dX8_set_65 : decode cX8_set 65 = .ok (.iload_n 1, 1) := by decide +kernel
theorem dX8_set_66 : decode cX8_set 66 = .ok (.imul, 1) := by decide +kernel
theorem dX8_set_67 : decode cX8_set 67 = .ok (.iload_n 2, 1) := by decide +kernel
theorem dX8_set_68 : decode cX8_set 68 = .ok (.iadd, 1) := by decide +kernel
theorem dX8_set_69 : decode cX8_set 69 = .ok (.aload_n 0, 1) := by decide +kernel
theorem dX8_set_70 : decode cX8_set 70 = .ok (.getfield 7, 3) := by decide +kernel
theorem dX8_set_73 : decode cX8_set 73 = .ok (.iload_n 1, 1) := by decide +kernel
theorem dX8_set_74 : decode cX8_set 74 = .ok (.iaload, 1) := by decide +kernel
theorem dX8_set_75 : decode cX8_set 75 = .ok (.ifCond .ne 8, 3) := by decide +kernel
theorem dX8_set_78 : decode cX8_set 78 = .ok (.iload_n 3, 1) := by decide +kernel
theorem dX8_set_79 : decode cX8_set 79 = .ok (.i2b, 1) := by decide +kernel
theorem dX8_set_80 : decode cX8_set 80 = .ok (.goto 19, 3) := by decide +kernel
theorem dX8_set_83 : decode cX8_set 83 = .ok (.aload_n 0, 1) := by decide +kernel
theorem dX8_set_84 : decode cX8_set 84 = .ok (.getfield 7, 3) := by decide +kernel
theorem dX8_set_87 : decode cX8_set 87 = .ok (.iload_n 1, 1) := by decide +kernel
theorem dX8_set_88 : decode cX8_set 88 = .ok (.iaload, 1) := by decide +kernel
theorem dX8_set_89 : decode cX8_set 89 = .ok (.iconst 1, 1) := by decide +kernel
theorem dX8_set_90 : decode cX8_set 90 = .ok (.if_icmp .ne 8, 3) := by decide +kernel
theorem dX8_set_93 : decode cX8_set 93 = .ok (.iload_n 3, 1) := by decide +kernel
theorem dX8_set_94 : decode cX8_set 94 = .ok (.i2s, 1) := by decide +kernel
theorem dX8_set_95 : decode cX8_set 95 = .ok (.goto 4, 3) := by decide +kernel
theorem dX8_set_98 : decode cX8_set 98 = .ok (.iload_n 3, 1) := by decide +kernel
theorem dX8_set_99 : decode cX8_set 99 = .ok (.iastore, 1) := by decide +kernel
theorem dX8_set_100 : decode cX8_set 100 = .ok (.aload_n 0, 1) := by decide +kernel
theorem dX8_set_101 : decode cX8_set 101 = .ok (.getfield 16, 3) := by decide +kernel
theorem dX8_set_104 : decode cX8_set 104 = .ok (.bipush 40, 2) := by decide +kernel
theorem dX8_set_106 : decode cX8_set 106 = .ok (.iload_n 1, 1) := by decide +kernel
theorem dX8_set_107 : decode cX8_set 107 = .ok (.imul, 1) := by decide +kernel
theorem dX8_set_108 : decode cX8_set 108 = .ok (.iload_n 2, 1) := by decide +kernel
theorem dX8_set_109 : decode cX8_set 109 = .ok (.iadd, 1) := by decide +kernel
theorem dX8_set_110 : decode cX8_set 110 = .ok (.iaload, 1) := by decide +kernel
theorem dX8_set_111 : decode cX8_set 111 = .ok (.ireturn, 1) := by decide +kernel
def bX8_set_0 : List sx_S := [si_al 0, si_const 0, si_put 7 0 0, si_il 1, si_cs 126 1 0 0 0 0, si_if1 (fun x => ¬ x = 0) 15 [true, true, true, true], si_const (-1000001), si_ri]
def bX8_set_15 : List sx_S := [si_al 0, si_const 0, si_put 7 1 0, si_al 0, si_get 7 2, si_il 1, si_iald, si_if1 (fun x => 0 ≤ x) 35 [true, true, true, true], si_al 0, si_const 1, si_cv 7 125 1 0 0 0 0, si_ri]
def bX8_set_35 : List sx_S := [si_il 2, si_i2l, si_lconst 0, si_al 0, si_get 7 3, si_il 1, si_iald, si_const 1, si_bin (fun x y => x - y), si_i2l, si_cs 124 3 0 0 0 0, si_if1 (fun x => ¬ x = 0) 59 [true, true, true, true], si_al 0, si_const (nI 2), si_cv 7 125 1 0 0 0 0, si_ri]
def bX8_set_59 : List sx_S := [si_al 0, si_get 7 4, si_const (nI 40), si_il 1, si_bin (fun x y => x * y), si_il 2, si_bin (fun x y => x + y), si_al 0, si_get 7 2, si_il 1, si_iald, si_if1 (fun x => ¬ x = 0) 83 [true, true, true, true], si_il 3, si_un (fun x => x.toInt8.toInt32), si_go 99 [true, true, true, false]]
def bX8_set_83 : List sx_S := [si_al 0, si_get 7 2, si_il 1, si_iald, si_const 1, si_if2 (fun x y => ¬ x = y) 98 [true, true, true, true], si_il 3, si_un (fun x => x.toInt16.toInt32), si_go 99 [true, true, true, false]]
def bX8_set_98 : List sx_S := [si_il 3, si_go 99 [true, true, true, false]]
def bX8_set_99 : List sx_S := [si_iast, si_al 0, si_get 7 4, si_const (nI 40), si_il 1, si_bin (fun x y => x * y), si_il 2, si_bin (fun x y => x + y), si_iald, si_ri]
def BX8_set : Nat → List sx_S := fun pc => if pc = 0 then bX8_set_0 else if pc = 15 then bX8_set_15 else if pc = 35 then bX8_set_35 else if pc = 59 then bX8_set_59 else if pc = 83 then bX8_set_83 else if pc = 98 then bX8_set_98 else if pc = 99 then bX8_set_99 else []
set_option maxRecDepth 20000 in
theorem kX8_set_0 : sx_BK sx_tb yX8_set.cls cX8_set 4 (some .int) ({ frames := 2, cells := 0, slots := 0, locals := 45 } : Room) false false 0 (fun _ => 0) 0 (bX8_set_0) := ⟨_, ⟨sn_aload_n dX8_set_0 rfl, sm_al _⟩, ⟨_, ⟨sn_iconst dX8_set_1 (by decide +kernel), sm_const _⟩, ⟨_, ⟨sn_put (C := RX8) (T := TX8) (N := 23) dX8_set_2 rfl zinX8 tyX8_ok nmX8 (Nat.le_of_ble_eq_true rfl) zw_3_182 rfl (tyX8_ok 0 (Nat.le_of_ble_eq_true rfl)) trivial, sm_put _ _ _⟩, ⟨_, ⟨sn_iload_n dX8_set_5 rfl, sm_il _⟩, ⟨_, ⟨sn_cs_z ztb_X8_isRow dX8_set_6 zw_4_17 zw_4_18 zw_1_8 zw_4_19 zmh_X8 zpd_X8_isRow (Nat.le_of_ble_eq_true rfl) (Nat.le_of_ble_eq_true rfl) rfl rfl, sm_cs _ _ _ _ _ _⟩, ⟨_, ⟨sn_if_ne dX8_set_9 (by decide +kernel) rfl, sm_if1 _ _ _⟩, ⟨_, ⟨sn_ldc dX8_set_12 zw_4_25, sm_const _⟩, ⟨_, ⟨sn_ri (len := 1) dX8_set_14 rfl, sm_ri⟩, trivial⟩⟩⟩⟩⟩⟩⟩⟩
set_option maxRecDepth 20000 in
theorem kX8_set_15 : sx_BK sx_tb yX8_set.cls cX8_set 4 (some .int) ({ frames := 2, cells := 0, slots := 0, locals := 45 } : Room) false false 0 (fun _ => 0) 15 (bX8_set_15) := ⟨_, ⟨sn_aload_n dX8_set_15 rfl, sm_al _⟩, ⟨_, ⟨sn_iconst dX8_set_16 (by decide +kernel), sm_const _⟩, ⟨_, ⟨sn_put (C := RX8) (T := TX8) (N := 23) dX8_set_17 rfl zinX8 tyX8_ok nmX8 (Nat.le_of_ble_eq_true rfl) zw_3_183 rfl (tyX8_ok 1 (Nat.le_of_ble_eq_true rfl)) trivial, sm_put _ _ _⟩, ⟨_, ⟨sn_aload_n dX8_set_20 rfl, sm_al _⟩, ⟨_, ⟨sn_get (C := RX8) (T := TX8) (N := 23) dX8_set_21 rfl zinX8 (Nat.le_of_ble_eq_true rfl) zw_3_184, sm_get _ _⟩, ⟨_, ⟨sn_iload_n dX8_set_24 rfl, sm_il _⟩, ⟨_, ⟨sn_iald dX8_set_25, sm_iald⟩, ⟨_, ⟨sn_if_ge dX8_set_26 (by decide +kernel) rfl, sm_if1 _ _ _⟩, ⟨_, ⟨sn_aload_n dX8_set_29 rfl, sm_al _⟩, ⟨_, ⟨sn_iconst dX8_set_30 (by decide +kernel), sm_const _⟩, ⟨_, ⟨sn_cv_i (N := 23) (T := TX8) ztb_X8_finding dX8_set_31 rfl rfl zw_4_26 zw_4_28 zw_0_34 zw_1_8 zw_4_29 zmh_X8 zpd_X8_finding (Nat.le_of_ble_eq_true rfl) (Nat.le_of_ble_eq_true rfl) rfl rfl, sm_cv _ _ _ _ _ _ _⟩, ⟨_, ⟨sn_ri (len := 1) dX8_set_34 rfl, sm_ri⟩, trivial⟩⟩⟩⟩⟩⟩⟩⟩⟩⟩⟩⟩
set_option maxRecDepth 20000 in
theorem kX8_set_35 : sx_BK sx_tb yX8_set.cls cX8_set 4 (some .int) ({ frames := 2, cells := 0, slots := 0, locals := 45 } : Room) false false 0 (fun _ => 0) 35 (bX8_set_35) := ⟨_, ⟨sn_iload_n dX8_set_35 rfl, sm_il _⟩, ⟨_, ⟨sn_i2l dX8_set_36, sm_i2l⟩, ⟨_, ⟨sn_lconst dX8_set_37 (by decide +kernel), sm_lconst _⟩, ⟨_, ⟨sn_aload_n dX8_set_38 rfl, sm_al _⟩, ⟨_, ⟨sn_get (C := RX8) (T := TX8) (N := 23) dX8_set_39 rfl zinX8 (Nat.le_of_ble_eq_true rfl) zw_3_185, sm_get _ _⟩, ⟨_, ⟨sn_iload_n dX8_set_42 rfl, sm_il _⟩, ⟨_, ⟨sn_iald dX8_set_43, sm_iald⟩, ⟨_, ⟨sn_iconst dX8_set_44 (by decide +kernel), sm_const _⟩, ⟨_, ⟨sn_isub dX8_set_45, sm_bin _⟩, ⟨_, ⟨sn_i2l dX8_set_46, sm_i2l⟩, ⟨_, ⟨sn_cs_z ztb_X8_in dX8_set_47 zw_4_21 zw_4_22 zw_1_8 zw_4_23 zmh_X8 zpd_X8_in (Nat.le_of_ble_eq_true rfl) (Nat.le_of_ble_eq_true rfl) rfl rfl, sm_cs _ _ _ _ _ _⟩, ⟨_, ⟨sn_if_ne dX8_set_50 (by decide +kernel) rfl, sm_if1 _ _ _⟩, ⟨_, ⟨sn_aload_n dX8_set_53 rfl, sm_al _⟩, ⟨_, ⟨sn_iconst dX8_set_54 (by decide +kernel), sm_const _⟩, ⟨_, ⟨sn_cv_i (N := 23) (T := TX8) ztb_X8_finding dX8_set_55 rfl rfl zw_4_26 zw_4_28 zw_0_34 zw_1_8 zw_4_29 zmh_X8 zpd_X8_finding (Nat.le_of_ble_eq_true rfl) (Nat.le_of_ble_eq_true rfl) rfl rfl, sm_cv _ _ _ _ _ _ _⟩, ⟨_, ⟨sn_ri (len := 1) dX8_set_58 rfl, sm_ri⟩, trivial⟩⟩⟩⟩⟩⟩⟩⟩⟩⟩⟩⟩⟩⟩⟩⟩
set_option maxRecDepth 20000 in
theorem kX8_set_59 : sx_BK sx_tb yX8_set.cls cX8_set 4 (some .int) ({ frames := 2, cells := 0, slots := 0, locals := 45 } : Room) false false 0 (fun _ => 0) 59 (bX8_set_59) := ⟨_, ⟨sn_aload_n dX8_set_59 rfl, sm_al _⟩, ⟨_, ⟨sn_get (C := RX8) (T := TX8) (N := 23) dX8_set_60 rfl zinX8 (Nat.le_of_ble_eq_true rfl) zw_3_186, sm_get _ _⟩, ⟨_, ⟨sn_bipush dX8_set_63 (by decide +kernel), sm_const _⟩, ⟨_, ⟨sn_iload_n dX8_set_65 rfl, sm_il _⟩, ⟨_, ⟨sn_imul dX8_set_66, sm_bin _⟩, ⟨_, ⟨sn_iload_n dX8_set_67 rfl, sm_il _⟩, ⟨_, ⟨sn_iadd dX8_set_68, sm_bin _⟩, ⟨_, ⟨sn_aload_n dX8_set_69 rfl, sm_al _⟩, ⟨_, ⟨sn_get (C := RX8) (T := TX8) (N := 23) dX8_set_70 rfl zinX8 (Nat.le_of_ble_eq_true rfl) zw_3_184, sm_get _ _⟩, ⟨_, ⟨sn_iload_n dX8_set_73 rfl, sm_il _⟩, ⟨_, ⟨sn_iald dX8_set_74, sm_iald⟩, ⟨_, ⟨sn_if_ne dX8_set_75 (by decide +kernel) rfl, sm_if1 _ _ _⟩, ⟨_, ⟨sn_iload_n dX8_set_78 rfl, sm_il _⟩, ⟨_, ⟨sn_i2b dX8_set_79, sm_un _⟩, ⟨_, ⟨sn_goto (len := 3) dX8_set_80 (by decide +kernel) rfl, sm_go _ _⟩, trivial⟩⟩⟩⟩⟩⟩⟩⟩⟩⟩⟩⟩⟩⟩⟩
set_option maxRecDepth 20000 in
theorem kX8_set_83 : sx_BK sx_tb yX8_set.cls cX8_set 4 (some .int) ({ frames := 2, cells := 0, slots := 0, locals := 45 } : Room) false false 0 (fun _ => 0) 83 (bX8_set_83) := ⟨_, ⟨sn_aload_n dX8_set_83 rfl, sm_al _⟩, ⟨_, ⟨sn_get (C := RX8) (T := TX8) (N := 23) dX8_set_84 rfl zinX8 (Nat.le_of_ble_eq_true rfl) zw_3_184, sm_get _ _⟩, ⟨_, ⟨sn_iload_n dX8_set_87 rfl, sm_il _⟩, ⟨_, ⟨sn_iald dX8_set_88, sm_iald⟩, ⟨_, ⟨sn_iconst dX8_set_89 (by decide +kernel), sm_const _⟩, ⟨_, ⟨sn_ic_ne dX8_set_90 (by decide +kernel) rfl, sm_if2 _ _ _⟩, ⟨_, ⟨sn_iload_n dX8_set_93 rfl, sm_il _⟩, ⟨_, ⟨sn_i2s dX8_set_94, sm_un _⟩, ⟨_, ⟨sn_goto (len := 3) dX8_set_95 (by decide +kernel) rfl, sm_go _ _⟩, trivial⟩⟩⟩⟩⟩⟩⟩⟩⟩
set_option maxRecDepth 20000 in
theorem kX8_set_98 : sx_BK sx_tb yX8_set.cls cX8_set 4 (some .int) ({ frames := 2, cells := 0, slots := 0, locals := 45 } : Room) false false 0 (fun _ => 0) 98 (bX8_set_98) := ⟨_, ⟨sn_iload_n dX8_set_98 rfl, sm_il _⟩, ⟨_, ⟨sn_fall (len := 0) rfl rfl, sm_go _ _⟩, trivial⟩⟩
set_option maxRecDepth 20000 in
theorem kX8_set_99 : sx_BK sx_tb yX8_set.cls cX8_set 4 (some .int) ({ frames := 2, cells := 0, slots := 0, locals := 45 } : Room) false false 0 (fun _ => 0) 99 (bX8_set_99) := ⟨_, ⟨sn_iast dX8_set_99, sm_iast⟩, ⟨_, ⟨sn_aload_n dX8_set_100 rfl, sm_al _⟩, ⟨_, ⟨sn_get (C := RX8) (T := TX8) (N := 23) dX8_set_101 rfl zinX8 (Nat.le_of_ble_eq_true rfl) zw_3_186, sm_get _ _⟩, ⟨_, ⟨sn_bipush dX8_set_104 (by decide +kernel), sm_const _⟩, ⟨_, ⟨sn_iload_n dX8_set_106 rfl, sm_il _⟩, ⟨_, ⟨sn_imul dX8_set_107, sm_bin _⟩, ⟨_, ⟨sn_iload_n dX8_set_108 rfl, sm_il _⟩, ⟨_, ⟨sn_iadd dX8_set_109, sm_bin _⟩, ⟨_, ⟨sn_iald dX8_set_110, sm_iald⟩, ⟨_, ⟨sn_ri (len := 1) dX8_set_111 rfl, sm_ri⟩, trivial⟩⟩⟩⟩⟩⟩⟩⟩⟩⟩
theorem kX8_set : ∀ pc, sx_BK sx_tb yX8_set.cls cX8_set 4 (some .int) ({ frames := 2, cells := 0, slots := 0, locals := 45 } : Room) false false 0 (fun _ => 0) pc (BX8_set pc) := fun pc => sx_bk_if (kX8_set_0) (sx_bk_if (kX8_set_15) (sx_bk_if (kX8_set_35) (sx_bk_if (kX8_set_59) (sx_bk_if (kX8_set_83) (sx_bk_if (kX8_set_98) (sx_bk_if (kX8_set_99) (trivial)))))))
theorem okX8_set : sx_ok sx_tb BX8_set (yX8_set, cX8_set, 4, some .int, { frames := 2, cells := 0, slots := 0, locals := 45 }) := ⟨by decide, by decide +kernel, false, (fun h => by cases h), kX8_set⟩
theorem dX8_copy_0 : decode cX8_copy 0 = .ok (.aload_n 0, 1) := by decide +kernel
theorem dX8_copy_1 : decode cX8_copy 1 = .ok (.iconst 0, 1) := by decide +kernel
theorem dX8_copy_2 : decode cX8_copy 2 = .ok (.putfield 44, 3) := by decide +kernel
theorem dX8_copy_5 : decode cX8_copy 5 = .ok (.iload_n 1, 1) := by decide +kernel
theorem dX8_copy_6 : decode cX8_copy 6 = .ok (.invokestatic 58, 3) := by decide +kernel
theorem dX8_copy_9 : decode cX8_copy 9 = .ok (.ifCond .eq 10, 3) := by decide +kernel
theorem dX8_copy_12 : decode cX8_copy 12 = .ok (.iload_n 3, 1) := by decide +kernel
theorem dX8_copy_13 : decode cX8_copy 13 = .ok (.invokestatic 58, 3) := by decide +kernel
theorem dX8_copy_16 : decode cX8_copy 16 = .ok (.ifCond .ne 6, 3) := by decide +kernel
theorem dX8_copy_19 : decode cX8_copy 19 = .ok (.ldc 64, 2) := by decide +kernel
theorem dX8_copy_21 : decode cX8_copy 21 = .ok (.ireturn, 1) := by decide +kernel
theorem dX8_copy_22 : decode cX8_copy 22 = .ok (.aload_n 0, 1) := by decide +kernel
theorem dX8_copy_23 : decode cX8_copy 23 = .ok (.iconst 0, 1) := by decide +kernel
theorem dX8_copy_24 : decode cX8_copy 24 = .ok (.putfield 48, 3) := by decide +kernel
theorem dX8_copy_27 : decode cX8_copy 27 = .ok (.aload_n 0, 1) := by decide +kernel
theorem dX8_copy_28 : decode cX8_copy 28 = .ok (.getfield 7, 3) := by decide +kernel
theorem dX8_copy_31 : decode cX8_copy 31 = .ok (.iload_n 1, 1) := by decide +kernel
theorem dX8_copy_32 : decode cX8_copy 32 = .ok (.iaload, 1) := by decide +kernel
theorem dX8_copy_33 : decode cX8_copy 33 = .ok (.ifCond .lt 12, 3) := by decide +kernel
theorem dX8_copy_36 : decode cX8_copy 36 = .ok (.aload_n 0, 1) := by decide +kernel
theorem dX8_copy_37 : decode cX8_copy 37 = .ok (.getfield 7, 3) := by decide +kernel
theorem dX8_copy_40 : decode cX8_copy 40 = .ok (.iload_n 3, 1) := by decide +kernel
theorem dX8_copy_41 : decode cX8_copy 41 = .ok (.iaload, 1) := by decide +kernel
theorem dX8_copy_42 : decode cX8_copy 42 = .ok (.ifCond .ge 9, 3) := by decide +kernel
theorem dX8_copy_45 : decode cX8_copy 45 = .ok (.aload_n 0, 1) := by decide +kernel
theorem dX8_copy_46 : decode cX8_copy 46 = .ok (.iconst 1, 1) := by decide +kernel
theorem dX8_copy_47 : decode cX8_copy 47 = .ok (.invokevirtual 65, 3) := by decide +kernel
theorem dX8_copy_50 : decode cX8_copy 50 = .ok (.ireturn, 1) := by decide +kernel
theorem dX8_copy_51 : decode cX8_copy 51 = .ok (.aload_n 0, 1) := by decide +kernel
theorem dX8_copy_52 : decode cX8_copy 52 = .ok (.getfield 7, 3) := by decide +kernel
theorem dX8_copy_55 : decode cX8_copy 55 = .ok (.iload_n 1, 1) := by decide +kernel
theorem dX8_copy_56 : decode cX8_copy 56 = .ok (.iaload, 1) := by decide +kernel
theorem dX8_copy_57 : decode cX8_copy 57 = .ok (.aload_n 0, 1) := by decide +kernel
theorem dX8_copy_58 : decode cX8_copy 58 = .ok (.getfield 7, 3) := by decide +kernel
theorem dX8_copy_61 : decode cX8_copy 61 = .ok (.iload_n 3, 1) := by decide +kernel
theorem dX8_copy_62 : decode cX8_copy 62 = .ok (.iaload, 1) := by decide +kernel
theorem dX8_copy_63 : decode cX8_copy 63 = .ok (.if_icmp .eq 9, 3) := by decide +kernel
theorem dX8_copy_66 : decode cX8_copy 66 = .ok (.aload_n 0, 1) := by decide +kernel
theorem dX8_copy_67 : decode cX8_copy 67 = .ok (.iconst 5, 1) := by decide +kernel
theorem dX8_copy_68 : decode cX8_copy 68 = .ok (.invokevirtual 65, 3) := by decide +kernel
theorem dX8_copy_71 : decode cX8_copy 71 = .ok (.ireturn, 1) := by decide +kernel
theorem dX8_copy_72 : decode cX8_copy 72 = .ok (.iload_n 2, 1) := by decide +kernel
theorem dX8_copy_73 : decode cX8_copy 73 = .ok (.ifCond .lt 48, 3) := by decide +kernel
theorem dX8_copy_76 : decode cX8_copy 76 = .ok (.iload 4, 2) := by decide +kernel
theorem dX8_copy_78 : decode cX8_copy 78 = .ok (.ifCond .lt 43, 3) := by decide +kernel
theorem dX8_copy_81 : decode cX8_copy 81 = .ok (.iload 5, 2) := by decide +kernel
theorem dX8_copy_83 : decode cX8_copy 83 = .ok (.ifCond .lt 38, 3) := by decide +kernel
theorem dX8_copy_86 : decode cX8_copy 86 = .ok (.iload_n 2, 1) := by decide +kernel
theorem dX8_copy_87 : decode cX8_copy 87 = .ok (.i2l, 1) := by decide +kernel
theorem dX8_copy_88 : decode cX8_copy 88 = .ok (.iload 5, 2) := by decide +kernel
theorem dX8_copy_90 : decode cX8_copy 90 = .ok (.i2l, 1) := by decide +kernel
theorem dX8_copy_91 : decode cX8_copy 91 = .ok (.ladd, 1) := by decide +kernel
theorem dX8_copy_92 : decode cX8_copy 92 = .ok (.aload_n 0, 1) := by decide +kernel
theorem dX8_copy_93 : decode cX8_copy 93 = .ok (.getfield 13, 3) := by decide +kernel
theorem dX8_copy_96 : decode cX8_copy 96 = .ok (.iload_n 1, 1) := by decide +kernel
theorem dX8_copy_97 : decode cX8_copy 97 = .ok (.iaload, 1) := by decide +kernel
theorem dX8_copy_98 : decode cX8_copy 98 = .ok (.i2l, 1) := by decide +kernel
theorem dX8_copy_99 : decode cX8_copy 99 = .ok (.lcmp, 1) := by decide +kernel
theorem dX8_copy_100 : decode cX8_copy 100 = .ok (.ifCond .gt 21, 3) := by decide +kernel
theorem dX8_copy_103 : decode cX8_copy 103 = .ok (.iload 4, 2) := by decide +kernel
theorem dX8_copy_105 : decode cX8_copy 105 = .ok (.i2l, 1) := by decide +kernel
theorem dX8_copy_106 : decode cX8_copy 106 = .ok (.iload 5, 2) := by decide +kernel
theorem dX8_copy_108 : decode cX8_copy 108 = .ok (.i2l, 1) := by decide +kernel
theorem dX8_copy_109 : decode cX8_copy 109 = .ok (.ladd, 1) := by decide +kernel
theorem dX8_copy_110 : decode cX8_copy 110 = .ok (.aload_n 0, 1) := by decide +kernel
theorem dX8_copy_111 : decode cX8_copy 111 = .ok (.getfield 13, 3) := by decide +kernel
theorem dX8_copy_114 : decode cX8_copy 114 = .ok (.iload_n 3, 1) := by decide +kernel
theorem dX8_copy_115 : decode cX8_copy 115 = .ok (.iaload, 1) := by decide +kernel
theorem dX8_copy_116 : decode cX8_copy 116 = .ok (.i2l, 1) := by decide +kernel
theorem dX8_copy_117 : decode cX8_copy 117 = .ok (.lcmp, 1) := by decide +kernel
theorem dX8_copy_118 : decode cX8_copy 118 = .ok (.ifCond .le 9, 3) := by decide +kernel
theorem dX8_copy_121 : decode cX8_copy 121 = .ok (.aload_n 0, 1) := by decide +kernel
theorem dX8_copy_122 : decode cX8_copy 122 = .ok (.iconst 2, 1) := by decide +kernel
theorem dX8_copy_123 : decode cX8_copy 123 = .ok (.invokevirtual 65, 3) := by decide +kernel
theorem dX8_copy_126 : decode cX8_copy 126 = .ok (.ireturn, 1) := by decide +kernel
theorem dX8_copy_127 : decode cX8_copy 127 = .ok (.iload_n 2, 1) := by decide +kernel
theorem dX8_copy_128 : decode cX8_copy 128 = .ok (.iload 4, 2) := by decide +kernel
theorem dX8_copy_130 : decode cX8_copy 130 = .ok (.if_icmp .lt 7, 3) := by decide +kernel
theorem dX8_copy_133 : decode cX8_copy 133 = .ok (.iconst 1, 1) := by decide +kernel
theorem dX8_copy_134 : decode cX8_copy 134 = .ok (.goto 4, 3) := by decide +kernel
theorem dX8_copy_137 : decode cX8_copy 137 = .ok (.iconst 0, 1) := by decide +kernel
theorem dX8_copy_138 : decode cX8_copy 138 = .ok (.istore 6, 2) := by decide +kernel
theorem dX8_copy_140 : decode cX8_copy 140 = .ok (.iconst 0, 1) := by decide +kernel
theorem dX8_copy_141 : decode cX8_copy 141 = .ok (.istore 7, 2) := by decide +kernel
theorem dX8_copy_143 : decode cX8_copy 143 = .ok (.iload 7, 2) := by decide +kernel
theorem dX8_copy_145 : decode cX8_copy 145 = .ok (.iload 5, 2) := by decide +kernel
theorem dX8_copy_147 : decode cX8_copy 147 = .ok (.if_icmp .ge 57, 3) := by decide +kernel
theorem dX8_copy_150 : decode cX8_copy 150 = .ok (.iload 6, 2) := by decide +kernel
theorem dX8_copy_152 : decode cX8_copy 152 = .ok (.ifCond .eq 8, 3) := by decide +kernel
theorem dX8_copy_155 : decode cX8_copy 155 = .ok (.iload 7, 2) := by decide +kernel
theorem dX8_copy_157 : decode cX8_copy 157 = .ok (.goto 10, 3) := by decide +kernel
theorem dX8_copy_160 : decode cX8_copy 160 = .ok (.iload 5, 2) := by decide +kernel
theorem dX8_copy_162 : decode cX8_copy 162 = .ok (.iconst 1, 1) := by decide +kernel
theorem dX8_copy_163 : decode cX8_copy 163 = .ok (.isub, 1) := by decide +kernel
theorem dX8_copy_164 : decode cX8_copy 164 = .ok (.iload 7, 2) := by decide +kernel
theorem dX8_copy_166 : decode cX8_copy 166 = .ok (.isub, 1) := by decide +kernel
theorem dX8_copy_167 : decode cX8_copy 167 = .ok (.istore 8, 2) := by decide +kernel
theorem dX8_copy_169 : decode cX8_copy 169 = .ok (.aload_n 0, 1) := by decide +kernel
theorem dX8_copy_170 : decode cX8_copy 170 = .ok (.getfield 16, 3) := by decide +kernel
theorem dX8_copy_173 : decode cX8_copy 173 = .ok (.bipush 40, 2) := by decide +kernel
theorem dX8_copy_175 : decode cX8_copy 175 = .ok (.iload_n 3, 1) := by decide +kernel
theorem dX8_copy_176 : decode cX8_copy 176 = .ok (.imul, 1) := by decide +kernel
theorem dX8_copy_177 : decode cX8_copy 177 = .ok (.iload 4, 2) := by decide +kernel
theorem dX8_copy_179 : decode cX8_copy 179 = .ok (.iadd, 1) := by decide +kernel
theorem dX8_copy_180 : decode cX8_copy 180 = .ok (.iload 8, 2) := by decide +kernel
theorem dX8_copy_182 : decode cX8_copy 182 = .ok (.iadd, 1) := by decide +kernel
theorem dX8_copy_183 : decode cX8_copy 183 = .ok (.aload_n 0, 1) := by decide +kernel
theorem dX8_copy_184 : decode cX8_copy 184 = .ok (.getfield 16, 3) := by decide +kernel
theorem dX8_copy_187 : decode cX8_copy 187 = .ok (.bipush 40, 2) := by decide +kernel
theorem dX8_copy_189 : decode cX8_copy 189 = .ok (.iload_n 1, 1) := by decide +kernel
theorem dX8_copy_190 : decode cX8_copy 190 = .ok (.imul, 1) := by decide +kernel
theorem dX8_copy_191 : decode cX8_copy 191 = .ok (.iload_n 2, 1) := by decide +kernel
theorem dX8_copy_192 : decode cX8_copy 192 = .ok (.iadd, 1) := by decide +kernel
theorem dX8_copy_193 : decode cX8_copy 193 = .ok (.iload 8, 2) := by decide +kernel
theorem dX8_copy_195 : decode cX8_copy 195 = .ok (.iadd, 1) := by decide +kernel
theorem dX8_copy_196 : decode cX8_copy 196 = .ok (.iaload, 1) := by decide +kernel
theorem dX8_copy_197 : decode cX8_copy 197 = .ok (.iastore, 1) := by decide +kernel
theorem dX8_copy_198 : decode cX8_copy 198 = .ok (.iinc 7 1, 3) := by decide +kernel
theorem dX8_copy_201 : decode cX8_copy 201 = .ok (.goto (-58), 3) := by decide +kernel
theorem dX8_copy_204 : decode cX8_copy 204 = .ok (.iload 5, 2) := by decide +kernel
theorem dX8_copy_206 : decode cX8_copy 206 = .ok (.ireturn, 1) := by decide +kernel
def bX8_copy_0 : List sx_S := [si_al 0, si_const 0, si_put 7 0 0, si_il 1, si_cs 126 1 0 0 0 0, si_if1 (fun x => x = 0) 19 [false, false, false, false, false, false, false, false, false], si_il 3, si_cs 126 1 0 0 0 0, si_if1 (fun x => ¬ x = 0) 22 [true, true, true, true, true, true, false, false, false], si_go 19 [false, false, false, false, false, false, false, false, false]]
def bX8_copy_19 : List sx_S := [si_const (-1000001), si_ri]
def bX8_copy_22 : List sx_S := [si_al 0, si_const 0, si_put 7 1 0, si_al 0, si_get 7 2, si_il 1, si_iald, si_if1 (fun x => x < 0) 45 [true, false, false, false, false, false, false, false, false], si_al 0, si_get 7 2, si_il 3, si_iald, si_if1 (fun x => 0 ≤ x) 51 [true, true, true, true, true, true, false, false, false], si_go 45 [true, false, false, false, false, false, false, false, false]]
def bX8_copy_45 : List sx_S := [si_al 0, si_const 1, si_cv 7 125 1 0 0 0 0, si_ri]
def bX8_copy_51 : List sx_S := [si_al 0, si_get 7 2, si_il 1, si_iald, si_al 0, si_get 7 2, si_il 3, si_iald, si_if2 (fun x y => x = y) 72 [true, true, true, true, true, true, false, false, false], si_al 0, si_const (nI 5), si_cv 7 125 1 0 0 0 0, si_ri]
def bX8_copy_72 : List sx_S := [si_il 2, si_if1 (fun x => x < 0) 121 [true, false, false, false, false, false, false, false, false], si_il 4, si_if1 (fun x => x < 0) 121 [true, false, false, false, false, false, false, false, false], si_il 5, si_if1 (fun x => x < 0) 121 [true, false, false, false, false, false, false, false, false], si_il 2, si_i2l, si_il 5, si_i2l, si_lbin (fun x y => x + y), si_al 0, si_get 7 3, si_il 1, si_iald, si_i2l, si_lcmp, si_if1 (fun x => 0 < x) 121 [true, false, false, false, false, false, false, false, false], si_il 4, si_i2l, si_il 5, si_i2l, si_lbin (fun x y => x + y), si_al 0, si_get 7 3, si_il 3, si_iald, si_i2l, si_lcmp, si_if1 (fun x => x ≤ 0) 127 [true, true, true, true, true, true, false, false, false], si_go 121 [true, false, false, false, false, false, false, false, false]]
def bX8_copy_121 : List sx_S := [si_al 0, si_const (nI 2), si_cv 7 125 1 0 0 0 0, si_ri]
def bX8_copy_127 : List sx_S := [si_il 2, si_il 4, si_if2 (fun x y => x < y) 137 [true, true, true, true, true, true, false, false, false], si_const 1, si_go 138 [true, true, true, true, true, true, false, false, false]]
def bX8_copy_137 : List sx_S := [si_const 0, si_go 138 [true, true, true, true, true, true, false, false, false]]
def bX8_copy_138 : List sx_S := [si_is 6, si_const 0, si_is 7, si_go 143 [true, true, true, true, true, true, true, true, false]]
def bX8_copy_143 : List sx_S := [si_il 7, si_il 5, si_if2 (fun x y => y ≤ x) 204 [false, false, false, false, false, true, false, false, false], si_il 6, si_if1 (fun x => x = 0) 160 [true, true, true, true, true, true, true, true, false], si_il 7, si_go 167 [true, true, true, true, true, true, true, true, false]]
def bX8_copy_160 : List sx_S := [si_il 5, si_const 1, si_bin (fun x y => x - y), si_il 7, si_bin (fun x y => x - y), si_go 167 [true, true, true, true, true, true, true, true, false]]
def bX8_copy_167 : List sx_S := [si_is 8, si_al 0, si_get 7 4, si_const (nI 40), si_il 3, si_bin (fun x y => x * y), si_il 4, si_bin (fun x y => x + y), si_il 8, si_bin (fun x y => x + y), si_al 0, si_get 7 4, si_const (nI 40), si_il 1, si_bin (fun x y => x * y), si_il 2, si_bin (fun x y => x + y), si_il 8, si_bin (fun x y => x + y), si_iald, si_iast, si_inc 7 1, si_go 143 [true, true, true, true, true, true, true, true, false]]
def bX8_copy_204 : List sx_S := [si_il 5, si_ri]
def BX8_copy : Nat → List sx_S := fun pc => if pc = 0 then bX8_copy_0 else if pc = 19 then bX8_copy_19 else if pc = 22 then bX8_copy_22 else if pc = 45 then bX8_copy_45 else if pc = 51 then bX8_copy_51 else if pc = 72 then bX8_copy_72 else if pc = 121 then bX8_copy_121 else if pc = 127 then bX8_copy_127 else if pc = 137 then bX8_copy_137 else if pc = 138 then bX8_copy_138 else if pc = 143 then bX8_copy_143 else if pc = 160 then bX8_copy_160 else if pc = 167 then bX8_copy_167 else if pc = 204 then bX8_copy_204 else []
set_option maxRecDepth 20000 in
theorem kX8_copy_0 : sx_BK sx_tb yX8_copy.cls cX8_copy 9 (some .int) ({ frames := 2, cells := 0, slots := 0, locals := 45 } : Room) false false 0 (fun _ => 0) 0 (bX8_copy_0) := ⟨_, ⟨sn_aload_n dX8_copy_0 rfl, sm_al _⟩, ⟨_, ⟨sn_iconst dX8_copy_1 (by decide +kernel), sm_const _⟩, ⟨_, ⟨sn_put (C := RX8) (T := TX8) (N := 23) dX8_copy_2 rfl zinX8 tyX8_ok nmX8 (Nat.le_of_ble_eq_true rfl) zw_3_182 rfl (tyX8_ok 0 (Nat.le_of_ble_eq_true rfl)) trivial, sm_put _ _ _⟩, ⟨_, ⟨sn_iload_n dX8_copy_5 rfl, sm_il _⟩, ⟨_, ⟨sn_cs_z ztb_X8_isRow dX8_copy_6 zw_4_17 zw_4_18 zw_1_8 zw_4_19 zmh_X8 zpd_X8_isRow (Nat.le_of_ble_eq_true rfl) (Nat.le_of_ble_eq_true rfl) rfl rfl, sm_cs _ _ _ _ _ _⟩, ⟨_, ⟨sn_if_eq dX8_copy_9 (by decide +kernel) rfl, sm_if1 _ _ _⟩, ⟨_, ⟨sn_iload_n dX8_copy_12 rfl, sm_il _⟩, ⟨_, ⟨sn_cs_z ztb_X8_isRow dX8_copy_13 zw_4_17 zw_4_18 zw_1_8 zw_4_19 zmh_X8 zpd_X8_isRow (Nat.le_of_ble_eq_true rfl) (Nat.le_of_ble_eq_true rfl) rfl rfl, sm_cs _ _ _ _ _ _⟩, ⟨_, ⟨sn_if_ne dX8_copy_16 (by decide +kernel) rfl, sm_if1 _ _ _⟩, ⟨_, ⟨sn_fall (len := 0) rfl rfl, sm_go _ _⟩, trivial⟩⟩⟩⟩⟩⟩⟩⟩⟩⟩
set_option maxRecDepth 20000 in
theorem kX8_copy_19 : sx_BK sx_tb yX8_copy.cls cX8_copy 9 (some .int) ({ frames := 2, cells := 0, slots := 0, locals := 45 } : Room) false false 0 (fun _ => 0) 19 (bX8_copy_19) := ⟨_, ⟨sn_ldc dX8_copy_19 zw_4_25, sm_const _⟩, ⟨_, ⟨sn_ri (len := 1) dX8_copy_21 rfl, sm_ri⟩, trivial⟩⟩
set_option maxRecDepth 20000 in
theorem kX8_copy_22 : sx_BK sx_tb yX8_copy.cls cX8_copy 9 (some .int) ({ frames := 2, cells := 0, slots := 0, locals := 45 } : Room) false false 0 (fun _ => 0) 22 (bX8_copy_22) := ⟨_, ⟨sn_aload_n dX8_copy_22 rfl, sm_al _⟩, ⟨_, ⟨sn_iconst dX8_copy_23 (by decide +kernel), sm_const _⟩, ⟨_, ⟨sn_put (C := RX8) (T := TX8) (N := 23) dX8_copy_24 rfl zinX8 tyX8_ok nmX8 (Nat.le_of_ble_eq_true rfl) zw_3_183 rfl (tyX8_ok 1 (Nat.le_of_ble_eq_true rfl)) trivial, sm_put _ _ _⟩, ⟨_, ⟨sn_aload_n dX8_copy_27 rfl, sm_al _⟩, ⟨_, ⟨sn_get (C := RX8) (T := TX8) (N := 23) dX8_copy_28 rfl zinX8 (Nat.le_of_ble_eq_true rfl) zw_3_184, sm_get _ _⟩, ⟨_, ⟨sn_iload_n dX8_copy_31 rfl, sm_il _⟩, ⟨_, ⟨sn_iald dX8_copy_32, sm_iald⟩, ⟨_, ⟨sn_if_lt dX8_copy_33 (by decide +kernel) rfl, sm_if1 _ _ _⟩, ⟨_, ⟨sn_aload_n dX8_copy_36 rfl, sm_al _⟩, ⟨_, ⟨sn_get (C := RX8) (T := TX8) (N := 23) dX8_copy_37 rfl zinX8 (Nat.le_of_ble_eq_true rfl) zw_3_184, sm_get _ _⟩, ⟨_, ⟨sn_iload_n dX8_copy_40 rfl, sm_il _⟩, ⟨_, ⟨sn_iald dX8_copy_41, sm_iald⟩, ⟨_, ⟨sn_if_ge dX8_copy_42 (by decide +kernel) rfl, sm_if1 _ _ _⟩, ⟨_, ⟨sn_fall (len := 0) rfl rfl, sm_go _ _⟩, trivial⟩⟩⟩⟩⟩⟩⟩⟩⟩⟩⟩⟩⟩⟩
set_option maxRecDepth 20000 in
theorem kX8_copy_45 : sx_BK sx_tb yX8_copy.cls cX8_copy 9 (some .int) ({ frames := 2, cells := 0, slots := 0, locals := 45 } : Room) false false 0 (fun _ => 0) 45 (bX8_copy_45) := ⟨_, ⟨sn_aload_n dX8_copy_45 rfl, sm_al _⟩, ⟨_, ⟨sn_iconst dX8_copy_46 (by decide +kernel), sm_const _⟩, ⟨_, ⟨sn_cv_i (N := 23) (T := TX8) ztb_X8_finding dX8_copy_47 rfl rfl zw_4_26 zw_4_28 zw_0_34 zw_1_8 zw_4_29 zmh_X8 zpd_X8_finding (Nat.le_of_ble_eq_true rfl) (Nat.le_of_ble_eq_true rfl) rfl rfl, sm_cv _ _ _ _ _ _ _⟩, ⟨_, ⟨sn_ri (len := 1) dX8_copy_50 rfl, sm_ri⟩, trivial⟩⟩⟩⟩
set_option maxRecDepth 20000 in
theorem kX8_copy_51 : sx_BK sx_tb yX8_copy.cls cX8_copy 9 (some .int) ({ frames := 2, cells := 0, slots := 0, locals := 45 } : Room) false false 0 (fun _ => 0) 51 (bX8_copy_51) := ⟨_, ⟨sn_aload_n dX8_copy_51 rfl, sm_al _⟩, ⟨_, ⟨sn_get (C := RX8) (T := TX8) (N := 23) dX8_copy_52 rfl zinX8 (Nat.le_of_ble_eq_true rfl) zw_3_184, sm_get _ _⟩, ⟨_, ⟨sn_iload_n dX8_copy_55 rfl, sm_il _⟩, ⟨_, ⟨sn_iald dX8_copy_56, sm_iald⟩, ⟨_, ⟨sn_aload_n dX8_copy_57 rfl, sm_al _⟩, ⟨_, ⟨sn_get (C := RX8) (T := TX8) (N := 23) dX8_copy_58 rfl zinX8 (Nat.le_of_ble_eq_true rfl) zw_3_184, sm_get _ _⟩, ⟨_, ⟨sn_iload_n dX8_copy_61 rfl, sm_il _⟩, ⟨_, ⟨sn_iald dX8_copy_62, sm_iald⟩, ⟨_, ⟨sn_ic_eq dX8_copy_63 (by decide +kernel) rfl, sm_if2 _ _ _⟩, ⟨_, ⟨sn_aload_n dX8_copy_66 rfl, sm_al _⟩, ⟨_, ⟨sn_iconst dX8_copy_67 (by decide +kernel), sm_const _⟩, ⟨_, ⟨sn_cv_i (N := 23) (T := TX8) ztb_X8_finding dX8_copy_68 rfl rfl zw_4_26 zw_4_28 zw_0_34 zw_1_8 zw_4_29 zmh_X8 zpd_X8_finding (Nat.le_of_ble_eq_true rfl) (Nat.le_of_ble_eq_true rfl) rfl rfl, sm_cv _ _ _ _ _ _ _⟩, ⟨_, ⟨sn_ri (len := 1) dX8_copy_71 rfl, sm_ri⟩, trivial⟩⟩⟩⟩⟩⟩⟩⟩⟩⟩⟩⟩⟩
set_option maxRecDepth 20000 in
theorem kX8_copy_72 : sx_BK sx_tb yX8_copy.cls cX8_copy 9 (some .int) ({ frames := 2, cells := 0, slots := 0, locals := 45 } : Room) false false 0 (fun _ => 0) 72 (bX8_copy_72) := ⟨_, ⟨sn_iload_n dX8_copy_72 rfl, sm_il _⟩, ⟨_, ⟨sn_if_lt dX8_copy_73 (by decide +kernel) rfl, sm_if1 _ _ _⟩, ⟨_, ⟨sn_iload dX8_copy_76, sm_il _⟩, ⟨_, ⟨sn_if_lt dX8_copy_78 (by decide +kernel) rfl, sm_if1 _ _ _⟩, ⟨_, ⟨sn_iload dX8_copy_81, sm_il _⟩, ⟨_, ⟨sn_if_lt dX8_copy_83 (by decide +kernel) rfl, sm_if1 _ _ _⟩, ⟨_, ⟨sn_iload_n dX8_copy_86 rfl, sm_il _⟩, ⟨_, ⟨sn_i2l dX8_copy_87, sm_i2l⟩, ⟨_, ⟨sn_iload dX8_copy_88, sm_il _⟩, ⟨_, ⟨sn_i2l dX8_copy_90, sm_i2l⟩, ⟨_, ⟨sn_ladd dX8_copy_91, sm_lbin _⟩, ⟨_, ⟨sn_aload_n dX8_copy_92 rfl, sm_al _⟩, ⟨_, ⟨sn_get (C := RX8) (T := TX8) (N := 23) dX8_copy_93 rfl zinX8 (Nat.le_of_ble_eq_true rfl) zw_3_185, sm_get _ _⟩, ⟨_, ⟨sn_iload_n dX8_copy_96 rfl, sm_il _⟩, ⟨_, ⟨sn_iald dX8_copy_97, sm_iald⟩, ⟨_, ⟨sn_i2l dX8_copy_98, sm_i2l⟩, ⟨_, ⟨sn_lcmp dX8_copy_99, sm_lcmp⟩, ⟨_, ⟨sn_if_gt dX8_copy_100 (by decide +kernel) rfl, sm_if1 _ _ _⟩, ⟨_, ⟨sn_iload dX8_copy_103, sm_il _⟩, ⟨_, ⟨sn_i2l dX8_copy_105, sm_i2l⟩, ⟨_, ⟨sn_iload dX8_copy_106, sm_il _⟩, ⟨_, ⟨sn_i2l dX8_copy_108, sm_i2l⟩, ⟨_, ⟨sn_ladd dX8_copy_109, sm_lbin _⟩, ⟨_, ⟨sn_aload_n dX8_copy_110 rfl, sm_al _⟩, ⟨_, ⟨sn_get (C := RX8) (T := TX8) (N := 23) dX8_copy_111 rfl zinX8 (Nat.le_of_ble_eq_true rfl) zw_3_185, sm_get _ _⟩, ⟨_, ⟨sn_iload_n dX8_copy_114 rfl, sm_il _⟩, ⟨_, ⟨sn_iald dX8_copy_115, sm_iald⟩, ⟨_, ⟨sn_i2l dX8_copy_116, sm_i2l⟩, ⟨_, ⟨sn_lcmp dX8_copy_117, sm_lcmp⟩, ⟨_, ⟨sn_if_le dX8_copy_118 (by decide +kernel) rfl, sm_if1 _ _ _⟩, ⟨_, ⟨sn_fall (len := 0) rfl rfl, sm_go _ _⟩, trivial⟩⟩⟩⟩⟩⟩⟩⟩⟩⟩⟩⟩⟩⟩⟩⟩⟩⟩⟩⟩⟩⟩⟩⟩⟩⟩⟩⟩⟩⟩⟩
set_option maxRecDepth 20000 in
theorem kX8_copy_121 : sx_BK sx_tb yX8_copy.cls cX8_copy 9 (some .int) ({ frames := 2, cells := 0, slots := 0, locals := 45 } : Room) false false 0 (fun _ => 0) 121 (bX8_copy_121) := ⟨_, ⟨sn_aload_n dX8_copy_121 rfl, sm_al _⟩, ⟨_, ⟨sn_iconst dX8_copy_122 (by decide +kernel), sm_const _⟩, ⟨_, ⟨sn_cv_i (N := 23) (T := TX8) ztb_X8_finding dX8_copy_123 rfl rfl zw_4_26 zw_4_28 zw_0_34 zw_1_8 zw_4_29 zmh_X8 zpd_X8_finding (Nat.le_of_ble_eq_true rfl) (Nat.le_of_ble_eq_true rfl) rfl rfl, sm_cv _ _ _ _ _ _ _⟩, ⟨_, ⟨sn_ri (len := 1) dX8_copy_126 rfl, sm_ri⟩, trivial⟩⟩⟩⟩
set_option maxRecDepth 20000 in
theorem kX8_copy_127 : sx_BK sx_tb yX8_copy.cls cX8_copy 9 (some .int) ({ frames := 2, cells := 0, slots := 0, locals := 45 } : Room) false false 0 (fun _ => 0) 127 (bX8_copy_127) := ⟨_, ⟨sn_iload_n dX8_copy_127 rfl, sm_il _⟩, ⟨_, ⟨sn_iload dX8_copy_128, sm_il _⟩, ⟨_, ⟨sn_ic_lt dX8_copy_130 (by decide +kernel) rfl, sm_if2 _ _ _⟩, ⟨_, ⟨sn_iconst dX8_copy_133 (by decide +kernel), sm_const _⟩, ⟨_, ⟨sn_goto (len := 3) dX8_copy_134 (by decide +kernel) rfl, sm_go _ _⟩, trivial⟩⟩⟩⟩⟩
set_option maxRecDepth 20000 in
theorem kX8_copy_137 : sx_BK sx_tb yX8_copy.cls cX8_copy 9 (some .int) ({ frames := 2, cells := 0, slots := 0, locals := 45 } : Room) false false 0 (fun _ => 0) 137 (bX8_copy_137) := ⟨_, ⟨sn_iconst dX8_copy_137 (by decide +kernel), sm_const _⟩, ⟨_, ⟨sn_fall (len := 0) rfl rfl, sm_go _ _⟩, trivial⟩⟩
set_option maxRecDepth 20000 in
theorem kX8_copy_138 : sx_BK sx_tb yX8_copy.cls cX8_copy 9 (some .int) ({ frames := 2, cells := 0, slots := 0, locals := 45 } : Room) false false 0 (fun _ => 0) 138 (bX8_copy_138) := ⟨_, ⟨sn_istore dX8_copy_138 (Nat.le_of_ble_eq_true rfl), sm_is _⟩, ⟨_, ⟨sn_iconst dX8_copy_140 (by decide +kernel), sm_const _⟩, ⟨_, ⟨sn_istore dX8_copy_141 (Nat.le_of_ble_eq_true rfl), sm_is _⟩, ⟨_, ⟨sn_fall (len := 0) rfl rfl, sm_go _ _⟩, trivial⟩⟩⟩⟩
set_option maxRecDepth 20000 in
theorem kX8_copy_143 : sx_BK sx_tb yX8_copy.cls cX8_copy 9 (some .int) ({ frames := 2, cells := 0, slots := 0, locals := 45 } : Room) false false 0 (fun _ => 0) 143 (bX8_copy_143) := ⟨_, ⟨sn_iload dX8_copy_143, sm_il _⟩, ⟨_, ⟨sn_iload dX8_copy_145, sm_il _⟩, ⟨_, ⟨sn_ic_ge dX8_copy_147 (by decide +kernel) rfl, sm_if2 _ _ _⟩, ⟨_, ⟨sn_iload dX8_copy_150, sm_il _⟩, ⟨_, ⟨sn_if_eq dX8_copy_152 (by decide +kernel) rfl, sm_if1 _ _ _⟩, ⟨_, ⟨sn_iload dX8_copy_155, sm_il _⟩, ⟨_, ⟨sn_goto (len := 3) dX8_copy_157 (by decide +kernel) rfl, sm_go _ _⟩, trivial⟩⟩⟩⟩⟩⟩⟩
set_option maxRecDepth 20000 in
theorem kX8_copy_160 : sx_BK sx_tb yX8_copy.cls cX8_copy 9 (some .int) ({ frames := 2, cells := 0, slots := 0, locals := 45 } : Room) false false 0 (fun _ => 0) 160 (bX8_copy_160) := ⟨_, ⟨sn_iload dX8_copy_160, sm_il _⟩, ⟨_, ⟨sn_iconst dX8_copy_162 (by decide +kernel), sm_const _⟩, ⟨_, ⟨sn_isub dX8_copy_163, sm_bin _⟩, ⟨_, ⟨sn_iload dX8_copy_164, sm_il _⟩, ⟨_, ⟨sn_isub dX8_copy_166, sm_bin _⟩, ⟨_, ⟨sn_fall (len := 0) rfl rfl, sm_go _ _⟩, trivial⟩⟩⟩⟩⟩⟩
set_option maxRecDepth 20000 in
theorem kX8_copy_167 : sx_BK sx_tb yX8_copy.cls cX8_copy 9 (some .int) ({ frames := 2, cells := 0, slots := 0, locals := 45 } : Room) false false 0 (fun _ => 0) 167 (bX8_copy_167) := ⟨_, ⟨sn_istore dX8_copy_167 (Nat.le_of_ble_eq_true rfl), sm_is _⟩, ⟨_, ⟨sn_aload_n dX8_copy_169 rfl, sm_al _⟩, ⟨_, ⟨sn_get (C := RX8) (T := TX8) (N := 23) dX8_copy_170 rfl zinX8 (Nat.le_of_ble_eq_true rfl) zw_3_186, sm_get _ _⟩, ⟨_, ⟨sn_bipush dX8_copy_173 (by decide +kernel), sm_const _⟩, ⟨_, ⟨sn_iload_n dX8_copy_175 rfl, sm_il _⟩, ⟨_, ⟨sn_imul dX8_copy_176, sm_bin _⟩, ⟨_, ⟨sn_iload dX8_copy_177, sm_il _⟩, ⟨_, ⟨sn_iadd dX8_copy_179, sm_bin _⟩, ⟨_, ⟨sn_iload dX8_copy_180, sm_il _⟩, ⟨_, ⟨sn_iadd dX8_copy_182, sm_bin _⟩, ⟨_, ⟨sn_aload_n dX8_copy_183 rfl, sm_al _⟩, ⟨_, ⟨sn_get (C := RX8) (T := TX8) (N := 23) dX8_copy_184 rfl zinX8 (Nat.le_of_ble_eq_true rfl) zw_3_186, sm_get _ _⟩, ⟨_, ⟨sn_bipush dX8_copy_187 (by decide +kernel), sm_const _⟩, ⟨_, ⟨sn_iload_n dX8_copy_189 rfl, sm_il _⟩, ⟨_, ⟨sn_imul dX8_copy_190, sm_bin _⟩, ⟨_, ⟨sn_iload_n dX8_copy_191 rfl, sm_il _⟩, ⟨_, ⟨sn_iadd dX8_copy_192, sm_bin _⟩, ⟨_, ⟨sn_iload dX8_copy_193, sm_il _⟩, ⟨_, ⟨sn_iadd dX8_copy_195, sm_bin _⟩, ⟨_, ⟨sn_iald dX8_copy_196, sm_iald⟩, ⟨_, ⟨sn_iast dX8_copy_197, sm_iast⟩, ⟨_, ⟨sn_iinc dX8_copy_198 (by decide +kernel) (Nat.le_of_ble_eq_true rfl), sm_inc _ _⟩, ⟨_, ⟨sn_goto (len := 3) dX8_copy_201 (by decide +kernel) rfl, sm_go _ _⟩, trivial⟩⟩⟩⟩⟩⟩⟩⟩⟩⟩⟩⟩⟩⟩⟩⟩⟩⟩⟩⟩⟩⟩⟩
set_option maxRecDepth 20000 in
theorem kX8_copy_204 : sx_BK sx_tb yX8_copy.cls cX8_copy 9 (some .int) ({ frames := 2, cells := 0, slots := 0, locals := 45 } : Room) false false 0 (fun _ => 0) 204 (bX8_copy_204) := ⟨_, ⟨sn_iload dX8_copy_204, sm_il _⟩, ⟨_, ⟨sn_ri (len := 1) dX8_copy_206 rfl, sm_ri⟩, trivial⟩⟩
theorem kX8_copy : ∀ pc, sx_BK sx_tb yX8_copy.cls cX8_copy 9 (some .int) ({ frames := 2, cells := 0, slots := 0, locals := 45 } : Room) false false 0 (fun _ => 0) pc (BX8_copy pc) := fun pc => sx_bk_if (kX8_copy_0) (sx_bk_if (kX8_copy_19) (sx_bk_if (kX8_copy_22) (sx_bk_if (kX8_copy_45) (sx_bk_if (kX8_copy_51) (sx_bk_if (kX8_copy_72) (sx_bk_if (kX8_copy_121) (sx_bk_if (kX8_copy_127) (sx_bk_if (kX8_copy_137) (sx_bk_if (kX8_copy_138) (sx_bk_if (kX8_copy_143) (sx_bk_if (kX8_copy_160) (sx_bk_if (kX8_copy_167) (sx_bk_if (kX8_copy_204) (trivial))))))))))))))
theorem okX8_copy : sx_ok sx_tb BX8_copy (yX8_copy, cX8_copy, 9, some .int, { frames := 2, cells := 0, slots := 0, locals := 45 }) := ⟨by decide, by decide +kernel, false, (fun h => by cases h), kX8_copy⟩
theorem dX8_drop_0 : decode cX8_drop 0 = .ok (.aload_n 0, 1) := by decide +kernel
theorem dX8_drop_1 : decode cX8_drop 1 = .ok (.iconst 0, 1) := by decide +kernel
theorem dX8_drop_2 : decode cX8_drop 2 = .ok (.putfield 44, 3) := by decide +kernel
theorem dX8_drop_5 : decode cX8_drop 5 = .ok (.iload_n 1, 1) := by decide +kernel
theorem dX8_drop_6 : decode cX8_drop 6 = .ok (.invokestatic 58, 3) := by decide +kernel
theorem dX8_drop_9 : decode cX8_drop 9 = .ok (.ifCond .ne 6, 3) := by decide +kernel
theorem dX8_drop_12 : decode cX8_drop 12 = .ok (.ldc 64, 2) := by decide +kernel
theorem dX8_drop_14 : decode cX8_drop 14 = .ok (.ireturn, 1) := by decide +kernel
theorem dX8_drop_15 : decode cX8_drop 15 = .ok (.aload_n 0, 1) := by decide +kernel
theorem dX8_drop_16 : decode cX8_drop 16 = .ok (.iconst 0, 1) := by decide +kernel
theorem dX8_drop_17 : decode cX8_drop 17 = .ok (.putfield 48, 3) := by decide +kernel
theorem dX8_drop_20 : decode cX8_drop 20 = .ok (.aload_n 0, 1) := by decide +kernel
theorem dX8_drop_21 : decode cX8_drop 21 = .ok (.getfield 7, 3) := by decide +kernel
theorem dX8_drop_24 : decode cX8_drop 24 = .ok (.iload_n 1, 1) := by decide +kernel
theorem dX8_drop_25 : decode cX8_drop 25 = .ok (.iaload, 1) := by decide +kernel
theorem dX8_drop_26 : decode cX8_drop 26 = .ok (.ifCond .ge 9, 3) := by decide +kernel
theorem dX8_drop_29 : decode cX8_drop 29 = .ok (.aload_n 0, 1) := by decide +kernel
theorem dX8_drop_30 : decode cX8_drop 30 = .ok (.iconst 1, 1) := by decide +kernel
theorem dX8_drop_31 : decode cX8_drop 31 = .ok (.invokevirtual 65, 3) := by decide +kernel
theorem dX8_drop_34 : decode cX8_drop 34 = .ok (.ireturn, 1) := by decide +kernel
theorem dX8_drop_35 : decode cX8_drop 35 = .ok (.aload_n 0, 1) := by decide +kernel
theorem dX8_drop_36 : decode cX8_drop 36 = .ok (.getfield 7, 3) := by decide +kernel
theorem dX8_drop_39 : decode cX8_drop 39 = .ok (.iload_n 1, 1) := by decide +kernel
theorem dX8_drop_40 : decode cX8_drop 40 = .ok (.iconst (-1), 1) := by decide +kernel
theorem dX8_drop_41 : decode cX8_drop 41 = .ok (.iastore, 1) := by decide +kernel
theorem dX8_drop_42 : decode cX8_drop 42 = .ok (.aload_n 0, 1) := by decide +kernel
theorem dX8_drop_43 : decode cX8_drop 43 = .ok (.getfield 13, 3) := by decide +kernel
theorem dX8_drop_46 : decode cX8_drop 46 = .ok (.iload_n 1, 1) := by decide +kernel
theorem dX8_drop_47 : decode cX8_drop 47 = .ok (.iaload, 1) := by decide +kernel
theorem dX8_drop_48 : decode cX8_drop 48 = .ok (.ireturn, 1) := by decide +kernel
def bX8_drop_0 : List sx_S := [si_al 0, si_const 0, si_put 7 0 0, si_il 1, si_cs 126 1 0 0 0 0, si_if1 (fun x => ¬ x = 0) 15 [true, true], si_const (-1000001), si_ri]
def bX8_drop_15 : List sx_S := [si_al 0, si_const 0, si_put 7 1 0, si_al 0, si_get 7 2, si_il 1, si_iald, si_if1 (fun x => 0 ≤ x) 35 [true, true], si_al 0, si_const 1, si_cv 7 125 1 0 0 0 0, si_ri]
def bX8_drop_35 : List sx_S := [si_al 0, si_get 7 2, si_il 1, si_const (-1), si_iast, si_al 0, si_get 7 3, si_il 1, si_iald, si_ri]
def BX8_drop : Nat → List sx_S := fun pc => if pc = 0 then bX8_drop_0 else if pc = 15 then bX8_drop_15 else if pc = 35 then bX8_drop_35 else []
set_option maxRecDepth 20000 in
theorem kX8_drop_0 : sx_BK sx_tb yX8_drop.cls cX8_drop 2 (some .int) ({ frames := 2, cells := 0, slots := 0, locals := 45 } : Room) false false 0 (fun _ => 0) 0 (bX8_drop_0) := ⟨_, ⟨sn_aload_n dX8_drop_0 rfl, sm_al _⟩, ⟨_, ⟨sn_iconst dX8_drop_1 (by decide +kernel), sm_const _⟩, ⟨_, ⟨sn_put (C := RX8) (T := TX8) (N := 23) dX8_drop_2 rfl zinX8 tyX8_ok nmX8 (Nat.le_of_ble_eq_true rfl) zw_3_182 rfl (tyX8_ok 0 (Nat.le_of_ble_eq_true rfl)) trivial, sm_put _ _ _⟩, ⟨_, ⟨sn_iload_n dX8_drop_5 rfl, sm_il _⟩, ⟨_, ⟨sn_cs_z ztb_X8_isRow dX8_drop_6 zw_4_17 zw_4_18 zw_1_8 zw_4_19 zmh_X8 zpd_X8_isRow (Nat.le_of_ble_eq_true rfl) (Nat.le_of_ble_eq_true rfl) rfl rfl, sm_cs _ _ _ _ _ _⟩, ⟨_, ⟨sn_if_ne dX8_drop_9 (by decide +kernel) rfl, sm_if1 _ _ _⟩, ⟨_, ⟨sn_ldc dX8_drop_12 zw_4_25, sm_const _⟩, ⟨_, ⟨sn_ri (len := 1) dX8_drop_14 rfl, sm_ri⟩, trivial⟩⟩⟩⟩⟩⟩⟩⟩
set_option maxRecDepth 20000 in
theorem kX8_drop_15 : sx_BK sx_tb yX8_drop.cls cX8_drop 2 (some .int) ({ frames := 2, cells := 0, slots := 0, locals := 45 } : Room) false false 0 (fun _ => 0) 15 (bX8_drop_15) := ⟨_, ⟨sn_aload_n dX8_drop_15 rfl, sm_al _⟩, ⟨_, ⟨sn_iconst dX8_drop_16 (by decide +kernel), sm_const _⟩, ⟨_, ⟨sn_put (C := RX8) (T := TX8) (N := 23) dX8_drop_17 rfl zinX8 tyX8_ok nmX8 (Nat.le_of_ble_eq_true rfl) zw_3_183 rfl (tyX8_ok 1 (Nat.le_of_ble_eq_true rfl)) trivial, sm_put _ _ _⟩, ⟨_, ⟨sn_aload_n dX8_drop_20 rfl, sm_al _⟩, ⟨_, ⟨sn_get (C := RX8) (T := TX8) (N := 23) dX8_drop_21 rfl zinX8 (Nat.le_of_ble_eq_true rfl) zw_3_184, sm_get _ _⟩, ⟨_, ⟨sn_iload_n dX8_drop_24 rfl, sm_il _⟩, ⟨_, ⟨sn_iald dX8_drop_25, sm_iald⟩, ⟨_, ⟨sn_if_ge dX8_drop_26 (by decide +kernel) rfl, sm_if1 _ _ _⟩, ⟨_, ⟨sn_aload_n dX8_drop_29 rfl, sm_al _⟩, ⟨_, ⟨sn_iconst dX8_drop_30 (by decide +kernel), sm_const _⟩, ⟨_, ⟨sn_cv_i (N := 23) (T := TX8) ztb_X8_finding dX8_drop_31 rfl rfl zw_4_26 zw_4_28 zw_0_34 zw_1_8 zw_4_29 zmh_X8 zpd_X8_finding (Nat.le_of_ble_eq_true rfl) (Nat.le_of_ble_eq_true rfl) rfl rfl, sm_cv _ _ _ _ _ _ _⟩, ⟨_, ⟨sn_ri (len := 1) dX8_drop_34 rfl, sm_ri⟩, trivial⟩⟩⟩⟩⟩⟩⟩⟩⟩⟩⟩⟩
set_option maxRecDepth 20000 in
theorem kX8_drop_35 : sx_BK sx_tb yX8_drop.cls cX8_drop 2 (some .int) ({ frames := 2, cells := 0, slots := 0, locals := 45 } : Room) false false 0 (fun _ => 0) 35 (bX8_drop_35) := ⟨_, ⟨sn_aload_n dX8_drop_35 rfl, sm_al _⟩, ⟨_, ⟨sn_get (C := RX8) (T := TX8) (N := 23) dX8_drop_36 rfl zinX8 (Nat.le_of_ble_eq_true rfl) zw_3_184, sm_get _ _⟩, ⟨_, ⟨sn_iload_n dX8_drop_39 rfl, sm_il _⟩, ⟨_, ⟨sn_iconst dX8_drop_40 (by decide +kernel), sm_const _⟩, ⟨_, ⟨sn_iast dX8_drop_41, sm_iast⟩, ⟨_, ⟨sn_aload_n dX8_drop_42 rfl, sm_al _⟩, ⟨_, ⟨sn_get (C := RX8) (T := TX8) (N := 23) dX8_drop_43 rfl zinX8 (Nat.le_of_ble_eq_true rfl) zw_3_185, sm_get _ _⟩, ⟨_, ⟨sn_iload_n dX8_drop_46 rfl, sm_il _⟩, ⟨_, ⟨sn_iald dX8_drop_47, sm_iald⟩, ⟨_, ⟨sn_ri (len := 1) dX8_drop_48 rfl, sm_ri⟩, trivial⟩⟩⟩⟩⟩⟩⟩⟩⟩⟩
theorem kX8_drop : ∀ pc, sx_BK sx_tb yX8_drop.cls cX8_drop 2 (some .int) ({ frames := 2, cells := 0, slots := 0, locals := 45 } : Room) false false 0 (fun _ => 0) pc (BX8_drop pc) := fun pc => sx_bk_if (kX8_drop_0) (sx_bk_if (kX8_drop_15) (sx_bk_if (kX8_drop_35) (trivial)))
theorem okX8_drop : sx_ok sx_tb BX8_drop (yX8_drop, cX8_drop, 2, some .int, { frames := 2, cells := 0, slots := 0, locals := 45 }) := ⟨by decide, by decide +kernel, false, (fun h => by cases h), kX8_drop⟩
theorem dX8_feed_0 : decode cX8_feed 0 = .ok (.aload_n 0, 1) := by decide +kernel
theorem dX8_feed_1 : decode cX8_feed 1 = .ok (.iconst 0, 1) := by decide +kernel
theorem dX8_feed_2 : decode cX8_feed 2 = .ok (.putfield 44, 3) := by decide +kernel
theorem dX8_feed_5 : decode cX8_feed 5 = .ok (.iload_n 1, 1) := by decide +kernel
theorem dX8_feed_6 : decode cX8_feed 6 = .ok (.i2l, 1) := by decide +kernel
theorem dX8_feed_7 : decode cX8_feed 7 = .ok (.lconst 0, 1) := by decide +kernel
theorem dX8_feed_8 : decode cX8_feed 8 = .ok (.ldc2_w 69, 3) := by decide +kernel
theorem dX8_feed_11 : decode cX8_feed 11 = .ok (.invokestatic 54, 3) := by decide +kernel
theorem dX8_feed_14 : decode cX8_feed 14 = .ok (.ifCond .ne 6, 3) := by decide +kernel
theorem dX8_feed_17 : decode cX8_feed 17 = .ok (.ldc 64, 2) := by decide +kernel
theorem dX8_feed_19 : decode cX8_feed 19 = .ok (.ireturn, 1) := by decide +kernel
theorem dX8_feed_20 : decode cX8_feed 20 = .ok (.aload_n 0, 1) := by decide +kernel
theorem dX8_feed_21 : decode cX8_feed 21 = .ok (.getfield 71, 3) := by decide +kernel
theorem dX8_feed_24 : decode cX8_feed 24 = .ok (.bipush 120, 2) := by decide +kernel
theorem dX8_feed_26 : decode cX8_feed 26 = .ok (.if_icmp .ne 6, 3) := by decide +kernel
theorem dX8_feed_29 : decode cX8_feed 29 = .ok (.ldc 74, 2) := by decide +kernel
theorem dX8_feed_31 : decode cX8_feed 31 = .ok (.ireturn, 1) := by decide +kernel
theorem dX8_feed_32 : decode cX8_feed 32 = .ok (.aload_n 0, 1) := by decide +kernel
theorem dX8_feed_33 : decode cX8_feed 33 = .ok (.getfield 31, 3) := by decide +kernel
theorem dX8_feed_36 : decode cX8_feed 36 = .ok (.aload_n 0, 1) := by decide +kernel
theorem dX8_feed_37 : decode cX8_feed 37 = .ok (.getfield 71, 3) := by decide +kernel
theorem dX8_feed_40 : decode cX8_feed 40 = .ok (.iload_n 1, 1) := by decide +kernel
theorem dX8_feed_41 : decode cX8_feed 41 = .ok (.iastore, 1) := by decide +kernel
theorem dX8_feed_42 : decode cX8_feed 42 = .ok (.aload_n 0, 1) := by decide +kernel
theorem dX8_feed_43 : decode cX8_feed 43 = .ok (.dup, 1) := by decide +kernel
theorem dX8_feed_44 : decode cX8_feed 44 = .ok (.getfield 71, 3) := by decide +kernel
theorem dX8_feed_47 : decode cX8_feed 47 = .ok (.iconst 1, 1) := by decide +kernel
theorem dX8_feed_48 : decode cX8_feed 48 = .ok (.iadd, 1) := by decide +kernel
theorem dX8_feed_49 : decode cX8_feed 49 = .ok (.putfield 71, 3) := by decide +kernel
theorem dX8_feed_52 : decode cX8_feed 52 = .ok (.aload_n 0, 1) := by decide +kernel
theorem dX8_feed_53 : decode cX8_feed 53 = .ok (.getfield 71, 3) := by decide +kernel
theorem dX8_feed_56 : decode cX8_feed 56 = .ok (.ireturn, 1) := by decide +kernel
def bX8_feed_0 : List sx_S := [si_al 0, si_const 0, si_put 7 0 0, si_il 1, si_i2l, si_lconst 0, si_lconst (lN 255), si_cs 124 3 0 0 0 0, si_if1 (fun x => ¬ x = 0) 20 [true, true], si_const (-1000001), si_ri]
def bX8_feed_20 : List sx_S := [si_al 0, si_get 7 11, si_const (nI 120), si_if2 (fun x y => ¬ x = y) 32 [true, true], si_const (-1000003), si_ri]
def bX8_feed_32 : List sx_S := [si_al 0, si_get 7 10, si_al 0, si_get 7 11, si_il 1, si_iast, si_al 0, si_dup, si_get 7 11, si_const 1, si_bin (fun x y => x + y), si_put 7 11 0, si_al 0, si_get 7 11, si_ri]
def BX8_feed : Nat → List sx_S := fun pc => if pc = 0 then bX8_feed_0 else if pc = 20 then bX8_feed_20 else if pc = 32 then bX8_feed_32 else []
set_option maxRecDepth 20000 in
theorem kX8_feed_0 : sx_BK sx_tb yX8_feed.cls cX8_feed 2 (some .int) ({ frames := 1, cells := 0, slots := 0, locals := 25 } : Room) false false 0 (fun _ => 0) 0 (bX8_feed_0) := ⟨_, ⟨sn_aload_n dX8_feed_0 rfl, sm_al _⟩, ⟨_, ⟨sn_iconst dX8_feed_1 (by decide +kernel), sm_const _⟩, ⟨_, ⟨sn_put (C := RX8) (T := TX8) (N := 23) dX8_feed_2 rfl zinX8 tyX8_ok nmX8 (Nat.le_of_ble_eq_true rfl) zw_3_182 rfl (tyX8_ok 0 (Nat.le_of_ble_eq_true rfl)) trivial, sm_put _ _ _⟩, ⟨_, ⟨sn_iload_n dX8_feed_5 rfl, sm_il _⟩, ⟨_, ⟨sn_i2l dX8_feed_6, sm_i2l⟩, ⟨_, ⟨sn_lconst dX8_feed_7 (by decide +kernel), sm_lconst _⟩, ⟨_, ⟨sn_ldc2 dX8_feed_8 zw_4_47, sm_lconst _⟩, ⟨_, ⟨sn_cs_z ztb_X8_in dX8_feed_11 zw_4_21 zw_4_22 zw_1_8 zw_4_23 zmh_X8 zpd_X8_in (Nat.le_of_ble_eq_true rfl) (Nat.le_of_ble_eq_true rfl) rfl rfl, sm_cs _ _ _ _ _ _⟩, ⟨_, ⟨sn_if_ne dX8_feed_14 (by decide +kernel) rfl, sm_if1 _ _ _⟩, ⟨_, ⟨sn_ldc dX8_feed_17 zw_4_25, sm_const _⟩, ⟨_, ⟨sn_ri (len := 1) dX8_feed_19 rfl, sm_ri⟩, trivial⟩⟩⟩⟩⟩⟩⟩⟩⟩⟩⟩
set_option maxRecDepth 20000 in
theorem kX8_feed_20 : sx_BK sx_tb yX8_feed.cls cX8_feed 2 (some .int) ({ frames := 1, cells := 0, slots := 0, locals := 25 } : Room) false false 0 (fun _ => 0) 20 (bX8_feed_20) := ⟨_, ⟨sn_aload_n dX8_feed_20 rfl, sm_al _⟩, ⟨_, ⟨sn_get (C := RX8) (T := TX8) (N := 23) dX8_feed_21 rfl zinX8 (Nat.le_of_ble_eq_true rfl) zw_3_193, sm_get _ _⟩, ⟨_, ⟨sn_bipush dX8_feed_24 (by decide +kernel), sm_const _⟩, ⟨_, ⟨sn_ic_ne dX8_feed_26 (by decide +kernel) rfl, sm_if2 _ _ _⟩, ⟨_, ⟨sn_ldc dX8_feed_29 zw_4_48, sm_const _⟩, ⟨_, ⟨sn_ri (len := 1) dX8_feed_31 rfl, sm_ri⟩, trivial⟩⟩⟩⟩⟩⟩
set_option maxRecDepth 20000 in
theorem kX8_feed_32 : sx_BK sx_tb yX8_feed.cls cX8_feed 2 (some .int) ({ frames := 1, cells := 0, slots := 0, locals := 25 } : Room) false false 0 (fun _ => 0) 32 (bX8_feed_32) := ⟨_, ⟨sn_aload_n dX8_feed_32 rfl, sm_al _⟩, ⟨_, ⟨sn_get (C := RX8) (T := TX8) (N := 23) dX8_feed_33 rfl zinX8 (Nat.le_of_ble_eq_true rfl) zw_3_192, sm_get _ _⟩, ⟨_, ⟨sn_aload_n dX8_feed_36 rfl, sm_al _⟩, ⟨_, ⟨sn_get (C := RX8) (T := TX8) (N := 23) dX8_feed_37 rfl zinX8 (Nat.le_of_ble_eq_true rfl) zw_3_193, sm_get _ _⟩, ⟨_, ⟨sn_iload_n dX8_feed_40 rfl, sm_il _⟩, ⟨_, ⟨sn_iast dX8_feed_41, sm_iast⟩, ⟨_, ⟨sn_aload_n dX8_feed_42 rfl, sm_al _⟩, ⟨_, ⟨sn_dup dX8_feed_43, sm_dup⟩, ⟨_, ⟨sn_get (C := RX8) (T := TX8) (N := 23) dX8_feed_44 rfl zinX8 (Nat.le_of_ble_eq_true rfl) zw_3_193, sm_get _ _⟩, ⟨_, ⟨sn_iconst dX8_feed_47 (by decide +kernel), sm_const _⟩, ⟨_, ⟨sn_iadd dX8_feed_48, sm_bin _⟩, ⟨_, ⟨sn_put (C := RX8) (T := TX8) (N := 23) dX8_feed_49 rfl zinX8 tyX8_ok nmX8 (Nat.le_of_ble_eq_true rfl) zw_3_193 rfl (tyX8_ok 11 (Nat.le_of_ble_eq_true rfl)) trivial, sm_put _ _ _⟩, ⟨_, ⟨sn_aload_n dX8_feed_52 rfl, sm_al _⟩, ⟨_, ⟨sn_get (C := RX8) (T := TX8) (N := 23) dX8_feed_53 rfl zinX8 (Nat.le_of_ble_eq_true rfl) zw_3_193, sm_get _ _⟩, ⟨_, ⟨sn_ri (len := 1) dX8_feed_56 rfl, sm_ri⟩, trivial⟩⟩⟩⟩⟩⟩⟩⟩⟩⟩⟩⟩⟩⟩⟩
theorem kX8_feed : ∀ pc, sx_BK sx_tb yX8_feed.cls cX8_feed 2 (some .int) ({ frames := 1, cells := 0, slots := 0, locals := 25 } : Room) false false 0 (fun _ => 0) pc (BX8_feed pc) := fun pc => sx_bk_if (kX8_feed_0) (sx_bk_if (kX8_feed_20) (sx_bk_if (kX8_feed_32) (trivial)))
theorem okX8_feed : sx_ok sx_tb BX8_feed (yX8_feed, cX8_feed, 2, some .int, { frames := 1, cells := 0, slots := 0, locals := 25 }) := ⟨by decide, by decide +kernel, false, (fun h => by cases h), kX8_feed⟩
theorem dX8_bad_0 : decode cX8_bad 0 = .ok (.aload_n 0, 1) := by decide +kernel
theorem dX8_bad_1 : decode cX8_bad 1 = .ok (.getfield 75, 3) := by decide +kernel
theorem dX8_bad_4 : decode cX8_bad 4 = .ok (.ifCond .ne 16, 3) := by decide +kernel
theorem dX8_bad_7 : decode cX8_bad 7 = .ok (.aload_n 0, 1) := by decide +kernel
theorem dX8_bad_8 : decode cX8_bad 8 = .ok (.iload_n 1, 1) := by decide +kernel
theorem dX8_bad_9 : decode cX8_bad 9 = .ok (.putfield 75, 3) := by decide +kernel
theorem dX8_bad_12 : decode cX8_bad 12 = .ok (.aload_n 0, 1) := by decide +kernel
theorem dX8_bad_13 : decode cX8_bad 13 = .ok (.aload_n 0, 1) := by decide +kernel
theorem dX8_bad_14 : decode cX8_bad 14 = .ok (.getfield 78, 3) := by decide +kernel
theorem dX8_bad_17 : decode cX8_bad 17 = .ok (.putfield 81, 3) := by decide +kernel
theorem dX8_bad_20 : decode cX8_bad 20 = .ok (.return_, 1) := by decide +kernel
def bX8_bad_0 : List sx_S := [si_al 0, si_get 7 16, si_if1 (fun x => ¬ x = 0) 20 [false, false], si_al 0, si_il 1, si_put 7 16 0, si_al 0, si_al 0, si_get 7 13, si_put 7 17 0, si_go 20 [false, false]]
def bX8_bad_20 : List sx_S := [si_rv]
def BX8_bad : Nat → List sx_S := fun pc => if pc = 0 then bX8_bad_0 else if pc = 20 then bX8_bad_20 else []
set_option maxRecDepth 20000 in
theorem kX8_bad_0 : sx_BK sx_tb yX8_bad.cls cX8_bad 2 (none) ({ frames := 0, cells := 0, slots := 0, locals := 0 } : Room) false false 0 (fun _ => 0) 0 (bX8_bad_0) := ⟨_, ⟨sn_aload_n dX8_bad_0 rfl, sm_al _⟩, ⟨_, ⟨sn_get (C := RX8) (T := TX8) (N := 23) dX8_bad_1 rfl zinX8 (Nat.le_of_ble_eq_true rfl) zw_3_198, sm_get _ _⟩, ⟨_, ⟨sn_if_ne dX8_bad_4 (by decide +kernel) rfl, sm_if1 _ _ _⟩, ⟨_, ⟨sn_aload_n dX8_bad_7 rfl, sm_al _⟩, ⟨_, ⟨sn_iload_n dX8_bad_8 rfl, sm_il _⟩, ⟨_, ⟨sn_put (C := RX8) (T := TX8) (N := 23) dX8_bad_9 rfl zinX8 tyX8_ok nmX8 (Nat.le_of_ble_eq_true rfl) zw_3_198 rfl (tyX8_ok 16 (Nat.le_of_ble_eq_true rfl)) trivial, sm_put _ _ _⟩, ⟨_, ⟨sn_aload_n dX8_bad_12 rfl, sm_al _⟩, ⟨_, ⟨sn_aload_n dX8_bad_13 rfl, sm_al _⟩, ⟨_, ⟨sn_get (C := RX8) (T := TX8) (N := 23) dX8_bad_14 rfl zinX8 (Nat.le_of_ble_eq_true rfl) zw_3_195, sm_get _ _⟩, ⟨_, ⟨sn_put (C := RX8) (T := TX8) (N := 23) dX8_bad_17 rfl zinX8 tyX8_ok nmX8 (Nat.le_of_ble_eq_true rfl) zw_3_199 rfl (tyX8_ok 17 (Nat.le_of_ble_eq_true rfl)) trivial, sm_put _ _ _⟩, ⟨_, ⟨sn_fall (len := 0) rfl rfl, sm_go _ _⟩, trivial⟩⟩⟩⟩⟩⟩⟩⟩⟩⟩⟩
set_option maxRecDepth 20000 in
theorem kX8_bad_20 : sx_BK sx_tb yX8_bad.cls cX8_bad 2 (none) ({ frames := 0, cells := 0, slots := 0, locals := 0 } : Room) false false 0 (fun _ => 0) 20 (bX8_bad_20) := ⟨_, ⟨sn_rv (len := 1) dX8_bad_20 rfl, sm_rv⟩, trivial⟩
theorem kX8_bad : ∀ pc, sx_BK sx_tb yX8_bad.cls cX8_bad 2 (none) ({ frames := 0, cells := 0, slots := 0, locals := 0 } : Room) false false 0 (fun _ => 0) pc (BX8_bad pc) := fun pc => sx_bk_if (kX8_bad_0) (sx_bk_if (kX8_bad_20) (trivial))
theorem okX8_bad : sx_ok sx_tb BX8_bad (yX8_bad, cX8_bad, 2, none, { frames := 0, cells := 0, slots := 0, locals := 0 }) := ⟨by decide, by decide +kernel, false, (fun h => by cases h), kX8_bad⟩
theorem dX8_nextToken_0 : decode cX8_nextToken 0 = .ok (.aload_n 0, 1) := by decide +kernel
theorem dX8_nextToken_1 : decode cX8_nextToken 1 = .ok (.aload_n 0, 1) := by decide +kernel
theorem dX8_nextToken_2 : decode cX8_nextToken 2 = .ok (.getfield 84, 3) := by decide +kernel
theorem dX8_nextToken_5 : decode cX8_nextToken 5 = .ok (.putfield 78, 3) := by decide +kernel
theorem dX8_nextToken_8 : decode cX8_nextToken 8 = .ok (.aload_n 0, 1) := by decide +kernel
theorem dX8_nextToken_9 : decode cX8_nextToken 9 = .ok (.aload_n 0, 1) := by decide +kernel
theorem dX8_nextToken_10 : decode cX8_nextToken 10 = .ok (.getfield 84, 3) := by decide +kernel
theorem dX8_nextToken_13 : decode cX8_nextToken 13 = .ok (.aload_n 0, 1) := by decide +kernel
theorem dX8_nextToken_14 : decode cX8_nextToken 14 = .ok (.getfield 71, 3) := by decide +kernel
theorem dX8_nextToken_17 : decode cX8_nextToken 17 = .ok (.if_icmp .ge 15, 3) := by decide +kernel
theorem dX8_nextToken_20 : decode cX8_nextToken 20 = .ok (.aload_n 0, 1) := by decide +kernel
theorem dX8_nextToken_21 : decode cX8_nextToken 21 = .ok (.getfield 31, 3) := by decide +kernel
theorem dX8_nextToken_24 : decode cX8_nextToken 24 = .ok (.aload_n 0, 1) := by decide +kernel
theorem dX8_nextToken_25 : decode cX8_nextToken 25 = .ok (.getfield 84, 3) := by decide +kernel
theorem dX8_nextToken_28 : decode cX8_nextToken 28 = .ok (.iaload, 1) := by decide +kernel
theorem dX8_nextToken_29 : decode cX8_nextToken 29 = .ok (.goto 5, 3) := by decide +kernel
theorem dX8_nextToken_32 : decode cX8_nextToken 32 = .ok (.ldc 87, 2) := by decide +kernel
theorem dX8_nextToken_34 : decode cX8_nextToken 34 = .ok (.putfield 88, 3) := by decide +kernel
theorem dX8_nextToken_37 : decode cX8_nextToken 37 = .ok (.aload_n 0, 1) := by decide +kernel
theorem dX8_nextToken_38 : decode cX8_nextToken 38 = .ok (.aload_n 0, 1) := by decide +kernel
theorem dX8_nextToken_39 : decode cX8_nextToken 39 = .ok (.getfield 84, 3) := by decide +kernel
theorem dX8_nextToken_42 : decode cX8_nextToken 42 = .ok (.aload_n 0, 1) := by decide +kernel
theorem dX8_nextToken_43 : decode cX8_nextToken 43 = .ok (.getfield 71, 3) := by decide +kernel
theorem dX8_nextToken_46 : decode cX8_nextToken 46 = .ok (.if_icmp .ne 7, 3) := by decide +kernel
theorem dX8_nextToken_49 : decode cX8_nextToken 49 = .ok (.iconst 1, 1) := by decide +kernel
theorem dX8_nextToken_50 : decode cX8_nextToken 50 = .ok (.goto 68, 3) := by decide +kernel
theorem dX8_nextToken_53 : decode cX8_nextToken 53 = .ok (.aload_n 0, 1) := by decide +kernel
theorem dX8_nextToken_54 : decode cX8_nextToken 54 = .ok (.getfield 88, 3) := by decide +kernel
theorem dX8_nextToken_57 : decode cX8_nextToken 57 = .ok (.i2l, 1) := by decide +kernel
theorem dX8_nextToken_58 : decode cX8_nextToken 58 = .ok (.ldc2_w 91, 3) := by decide +kernel
theorem dX8_nextToken_61 : decode cX8_nextToken 61 = .ok (.ldc2_w 93, 3) := by decide +kernel
theorem dX8_nextToken_64 : decode cX8_nextToken 64 = .ok (.invokestatic 54, 3) := by decide +kernel
theorem dX8_nextToken_67 : decode cX8_nextToken 67 = .ok (.ifCond .eq 7, 3) := by decide +kernel
theorem dX8_nextToken_70 : decode cX8_nextToken 70 = .ok (.iconst 2, 1) := by decide +kernel
theorem dX8_nextToken_71 : decode cX8_nextToken 71 = .ok (.goto 47, 3) := by decide +kernel
theorem dX8_nextToken_74 : decode cX8_nextToken 74 = .ok (.aload_n 0, 1) := by decide +kernel
theorem dX8_nextToken_75 : decode cX8_nextToken 75 = .ok (.getfield 88, 3) := by decide +kernel
theorem dX8_nextToken_78 : decode cX8_nextToken 78 = .ok (.i2l, 1) := by decide +kernel
theorem dX8_nextToken_79 : decode cX8_nextToken 79 = .ok (.ldc2_w 95, 3) := by decide +kernel
theorem dX8_nextToken_82 : decode cX8_nextToken 82 = .ok (.ldc2_w 97, 3) := by decide +kernel
theorem dX8_nextToken_85 : decode cX8_nextToken 85 = .ok (.invokestatic 54, 3) := by decide +kernel
theorem dX8_nextToken_88 : decode cX8_nextToken 88 = .ok (.ifCond .eq 7, 3) := by decide +kernel
theorem dX8_nextToken_91 : decode cX8_nextToken 91 = .ok (.iconst 3, 1) := by decide +kernel
theorem dX8_nextToken_92 : decode cX8_nextToken 92 = .ok (.goto 26, 3) := by decide +kernel
theorem dX8_nextToken_95 : decode cX8_nextToken 95 = .ok (.aload_n 0, 1) := by decide +kernel
theorem dX8_nextToken_96 : decode cX8_nextToken 96 = .ok (.getfield 88, 3) := by decide +kernel
theorem dX8_nextToken_99 : decode cX8_nextToken 99 = .ok (.bipush 44, 2) := by decide +kernel
theorem dX8_nextToken_101 : decode cX8_nextToken 101 = .ok (.if_icmp .eq 12, 3) := by decide +kernel
theorem dX8_nextToken_104 : decode cX8_nextToken 104 = .ok (.aload_n 0, 1) := by decide +kernel
theorem dX8_nextToken_105 : decode cX8_nextToken 105 = .ok (.getfield 88, 3) := by decide +kernel
theorem dX8_nextToken_108 : decode cX8_nextToken 108 = .ok (.bipush 59, 2) := by decide +kernel
theorem dX8_nextToken_110 : decode cX8_nextToken 110 = .ok (.if_icmp .ne 7, 3) := by decide +kernel
theorem dX8_nextToken_113 : decode cX8_nextToken 113 = .ok (.iconst 4, 1) := by decide +kernel
theorem dX8_nextToken_114 : decode cX8_nextToken 114 = .ok (.goto 4, 3) := by decide +kernel
theorem dX8_nextToken_117 : decode cX8_nextToken 117 = .ok (.iconst 0, 1) := by decide +kernel
theorem dX8_nextToken_118 : decode cX8_nextToken 118 = .ok (.putfield 99, 3) := by decide +kernel
theorem dX8_nextToken_121 : decode cX8_nextToken 121 = .ok (.aload_n 0, 1) := by decide +kernel
theorem dX8_nextToken_122 : decode cX8_nextToken 122 = .ok (.dup, 1) := by decide +kernel
theorem dX8_nextToken_123 : decode cX8_nextToken 123 = .ok (.getfield 84, 3) := by decide +kernel
theorem dX8_nextToken_126 : decode cX8_nextToken 126 = .ok (.aload_n 0, 1) := by decide +kernel
theorem dX8_nextToken_127 : decode cX8_nextToken 127 = .ok (.getfield 84, 3) := by decide +kernel
theorem dX8_nextToken_130 : decode cX8_nextToken 130 = .ok (.aload_n 0, 1) := by decide +kernel
theorem dX8_nextToken_131 : decode cX8_nextToken 131 = .ok (.getfield 71, 3) := by decide +kernel
theorem dX8_nextToken_134 : decode cX8_nextToken 134 = .ok (.if_icmp .ge 7, 3) := by decide +kernel
theorem dX8_nextToken_137 : decode cX8_nextToken 137 = .ok (.iconst 1, 1) := by decide +kernel
theorem dX8_nextToken_138 : decode cX8_nextToken 138 = .ok (.goto 4, 3) := by decide +kernel
theorem dX8_nextToken_141 : decode cX8_nextToken 141 = .ok (.iconst 0, 1) := by decide +kernel
theorem dX8_nextToken_142 : decode cX8_nextToken 142 = .ok (.iadd, 1) := by decide +kernel
theorem dX8_nextToken_143 : decode cX8_nextToken 143 = .ok (.putfield 84, 3) := by decide +kernel
theorem dX8_nextToken_146 : decode cX8_nextToken 146 = .ok (.aload_n 0, 1) := by decide +kernel
theorem dX8_nextToken_147 : decode cX8_nextToken 147 = .ok (.getfield 99, 3) := by decide +kernel
theorem dX8_nextToken_150 : decode cX8_nextToken 150 = .ok (.iconst 3, 1) := by decide +kernel
theorem dX8_nextToken_151 : decode cX8_nextToken 151 = .ok (.if_icmp .ne 126, 3) := by decide +kernel
theorem dX8_nextToken_154 : decode cX8_nextToken 154 = .ok (.aload_n 0, 1) := by decide +kernel
theorem dX8_nextToken_155 : decode cX8_nextToken 155 = .ok (.dup, 1) := by decide +kernel
theorem dX8_nextToken_156 : decode cX8_nextToken 156 = .ok (.getfield 88, 3) := by decide +kernel
theorem dX8_nextToken_159 : decode cX8_nextToken 159 = .ok (.bipush 48, 2) := by decide +kernel
theorem dX8_nextToken_161 : decode cX8_nextToken 161 = .ok (.isub, 1) := by decide +kernel
theorem dX8_nextToken_162 : decode cX8_nextToken 162 = .ok (.putfield 88, 3) := by decide +kernel
theorem dX8_nextToken_165 : decode cX8_nextToken 165 = .ok (.aload_n 0, 1) := by decide +kernel
theorem dX8_nextToken_166 : decode cX8_nextToken 166 = .ok (.getfield 84, 3) := by decide +kernel
theorem dX8_nextToken_169 : decode cX8_nextToken 169 = .ok (.aload_n 0, 1) := by decide +kernel
theorem dX8_nextToken_170 : decode cX8_nextToken 170 = .ok (.getfield 71, 3) := by decide +kernel
theorem dX8_nextToken_173 : decode cX8_nextToken 173 = .ok (.if_icmp .ge 82, 3) := by decide +kernel
theorem dX8_nextToken_176 : decode cX8_nextToken 176 = .ok (.aload_n 0, 1) := by decide +kernel
theorem dX8_nextToken_177 : decode cX8_nextToken 177 = .ok (.getfield 31, 3) := by decide +kernel
theorem dX8_nextToken_180 : decode cX8_nextToken 180 = .ok (.aload_n 0, 1) := by decide +kernel
theorem dX8_nextToken_181 : decode cX8_nextToken 181 = .ok (.getfield 84, 3) := by decide +kernel
theorem dX8_nextToken_184 : decode cX8_nextToken 184 = .ok (.iaload, 1) := by decide +kernel
theorem dX8_nextToken_185 : decode cX8_nextToken 185 = .ok (.i2l, 1) := by decide +kernel
theorem dX8_nextToken_186 : decode cX8_nextToken 186 = .ok (.ldc2_w 95, 3) := by decide +kernel
theorem dX8_nextToken_189 : decode cX8_nextToken 189 = .ok (.ldc2_w 97, 3) := by decide +kernel
theorem dX8_nextToken_192 : decode cX8_nextToken 192 = .ok (.invokestatic 54, 3) := by decide +kernel
theorem dX8_nextToken_195 : decode cX8_nextToken 195 = .ok (.ifCond .eq 60, 3) := by decide +kernel
theorem dX8_nextToken_198 : decode cX8_nextToken 198 = .ok (.aload_n 0, 1) := by decide +kernel
theorem dX8_nextToken_199 : decode cX8_nextToken 199 = .ok (.aload_n 0, 1) := by decide +kernel
theorem dX8_nextToken_200 : decode cX8_nextToken 200 = .ok (.getfield 84, 3) := by decide +kernel
theorem dX8_nextToken_203 : decode cX8_nextToken 203 = .ok (.aload_n 0, 1) := by decide +kernel
theorem dX8_nextToken_204 : decode cX8_nextToken 204 = .ok (.getfield 78, 3) := by decide +kernel
theorem dX8_nextToken_207 : decode cX8_nextToken 207 = .ok (.isub, 1) := by decide +kernel
theorem dX8_nextToken_208 : decode cX8_nextToken 208 = .ok (.iconst 2, 1) := by decide +kernel
theorem dX8_nextToken_209 : decode cX8_nextToken 209 = .ok (.if_icmp .ge 26, 3) := by decide +kernel
theorem dX8_nextToken_212 : decode cX8_nextToken 212 = .ok (.bipush 10, 2) := by decide +kernel
theorem dX8_nextToken_214 : decode cX8_nextToken 214 = .ok (.aload_n 0, 1) := by decide +kernel
theorem dX8_nextToken_215 : decode cX8_nextToken 215 = .ok (.getfield 88, 3) := by decide +kernel
theorem dX8_nextToken_218 : decode cX8_nextToken 218 = .ok (.imul, 1) := by decide +kernel
theorem dX8_nextToken_219 : decode cX8_nextToken 219 = .ok (.aload_n 0, 1) := by decide +kernel
theorem dX8_nextToken_220 : decode cX8_nextToken 220 = .ok (.getfield 31, 3) := by decide +kernel
theorem dX8_nextToken_223 : decode cX8_nextToken 223 = .ok (.aload_n 0, 1) := by decide +kernel
theorem dX8_nextToken_224 : decode cX8_nextToken 224 = .ok (.getfield 84, 3) := by decide +kernel
theorem dX8_nextToken_227 : decode cX8_nextToken 227 = .ok (.iaload, 1) := by decide +kernel
theorem dX8_nextToken_228 : decode cX8_nextToken 228 = .ok (.iadd, 1) := by decide +kernel
theorem dX8_nextToken_229 : decode cX8_nextToken 229 = .ok (.bipush 48, 2) := by decide +kernel
theorem dX8_nextToken_231 : decode cX8_nextToken 231 = .ok (.isub, 1) := by decide +kernel
theorem dX8_nextToken_232 : decode cX8_nextToken 232 = .ok (.goto 7, 3) := by decide +kernel
theorem dX8_nextToken_235 : decode cX8_nextToken 235 = .ok (.aload_n 0, 1) := by decide +kernel
theorem dX8_nextToken_236 : decode cX8_nextToken 236 = .ok (.getfield 88, 3) := by decide +kernel
theorem dX8_nextToken_239 : decode cX8_nextToken 239 = .ok (.putfield 88, 3) := by decide +kernel
theorem dX8_nextToken_242 : decode cX8_nextToken 242 = .ok (.aload_n 0, 1) := by decide +kernel
theorem dX8_nextToken_243 : decode cX8_nextToken 243 = .ok (.dup, 1) := by decide +kernel
theorem dX8_nextToken_244 : decode cX8_nextToken 244 = .ok (.getfield 84, 3) := by decide +kernel
theorem dX8_nextToken_247 : decode cX8_nextToken 247 = .ok (.iconst 1, 1) := by decide +kernel
theorem dX8_nextToken_248 : decode cX8_nextToken 248 = .ok (.iadd, 1) := by decide +kernel
theorem dX8_nextToken_249 : decode cX8_nextToken 249 = .ok (.putfield 84, 3) := by decide +kernel
theorem dX8_nextToken_252 : decode cX8_nextToken 252 = .ok (.goto (-87), 3) := by decide +kernel
theorem dX8_nextToken_255 : decode cX8_nextToken 255 = .ok (.aload_n 0, 1) := by decide +kernel
theorem dX8_nextToken_256 : decode cX8_nextToken 256 = .ok (.aload_n 0, 1) := by decide +kernel
theorem dX8_nextToken_257 : decode cX8_nextToken 257 = .ok (.getfield 84, 3) := by decide +kernel
theorem dX8_nextToken_260 : decode cX8_nextToken 260 = .ok (.aload_n 0, 1) := by decide +kernel
theorem dX8_nextToken_261 : decode cX8_nextToken 261 = .ok (.getfield 78, 3) := by decide +kernel
theorem dX8_nextToken_264 : decode cX8_nextToken 264 = .ok (.isub, 1) := by decide +kernel
theorem dX8_nextToken_265 : decode cX8_nextToken 265 = .ok (.iconst 2, 1) := by decide +kernel
theorem dX8_nextToken_266 : decode cX8_nextToken 266 = .ok (.if_icmp .le 7, 3) := by decide +kernel
theorem dX8_nextToken_269 : decode cX8_nextToken 269 = .ok (.iconst 0, 1) := by decide +kernel
theorem dX8_nextToken_270 : decode cX8_nextToken 270 = .ok (.goto 4, 3) := by decide +kernel
theorem dX8_nextToken_273 : decode cX8_nextToken 273 = .ok (.iconst 3, 1) := by decide +kernel
theorem dX8_nextToken_274 : decode cX8_nextToken 274 = .ok (.putfield 99, 3) := by decide +kernel
theorem dX8_nextToken_277 : decode cX8_nextToken 277 = .ok (.return_, 1) := by decide +kernel
def bX8_nextToken_0 : List sx_S := [si_al 0, si_al 0, si_get 7 12, si_put 7 13 0, si_al 0, si_al 0, si_get 7 12, si_al 0, si_get 7 11, si_if2 (fun x y => y ≤ x) 32 [true], si_al 0, si_get 7 10, si_al 0, si_get 7 12, si_iald, si_go 34 [true]]
def bX8_nextToken_32 : List sx_S := [si_const (-1000000), si_go 34 [true]]
def bX8_nextToken_34 : List sx_S := [si_put 7 15 0, si_al 0, si_al 0, si_get 7 12, si_al 0, si_get 7 11, si_if2 (fun x y => ¬ x = y) 53 [true], si_const 1, si_go 118 [true]]
def bX8_nextToken_53 : List sx_S := [si_al 0, si_get 7 15, si_i2l, si_lconst (lN 97), si_lconst (lN 122), si_cs 124 3 0 0 0 0, si_if1 (fun x => x = 0) 74 [true], si_const (nI 2), si_go 118 [true]]
def bX8_nextToken_74 : List sx_S := [si_al 0, si_get 7 15, si_i2l, si_lconst (lN 48), si_lconst (lN 57), si_cs 124 3 0 0 0 0, si_if1 (fun x => x = 0) 95 [true], si_const (nI 3), si_go 118 [true]]
def bX8_nextToken_95 : List sx_S := [si_al 0, si_get 7 15, si_const (nI 44), si_if2 (fun x y => x = y) 113 [true], si_al 0, si_get 7 15, si_const (nI 59), si_if2 (fun x y => ¬ x = y) 117 [true], si_go 113 [true]]
def bX8_nextToken_113 : List sx_S := [si_const (nI 4), si_go 118 [true]]
def bX8_nextToken_117 : List sx_S := [si_const 0, si_go 118 [true]]
def bX8_nextToken_118 : List sx_S := [si_put 7 14 0, si_al 0, si_dup, si_get 7 12, si_al 0, si_get 7 12, si_al 0, si_get 7 11, si_if2 (fun x y => y ≤ x) 141 [true], si_const 1, si_go 142 [true]]
def bX8_nextToken_141 : List sx_S := [si_const 0, si_go 142 [true]]
def bX8_nextToken_142 : List sx_S := [si_bin (fun x y => x + y), si_put 7 12 0, si_al 0, si_get 7 14, si_const (nI 3), si_if2 (fun x y => ¬ x = y) 277 [false], si_al 0, si_dup, si_get 7 15, si_const (nI 48), si_bin (fun x y => x - y), si_put 7 15 0, si_go 165 [true]]
def bX8_nextToken_165 : List sx_S := [si_al 0, si_get 7 12, si_al 0, si_get 7 11, si_if2 (fun x y => y ≤ x) 255 [true], si_al 0, si_get 7 10, si_al 0, si_get 7 12, si_iald, si_i2l, si_lconst (lN 48), si_lconst (lN 57), si_cs 124 3 0 0 0 0, si_if1 (fun x => x = 0) 255 [true], si_al 0, si_al 0, si_get 7 12, si_al 0, si_get 7 13, si_bin (fun x y => x - y), si_const (nI 2), si_if2 (fun x y => y ≤ x) 235 [true], si_const (nI 10), si_al 0, si_get 7 15, si_bin (fun x y => x * y), si_al 0, si_get 7 10, si_al 0, si_get 7 12, si_iald, si_bin (fun x y => x + y), si_const (nI 48), si_bin (fun x y => x - y), si_go 239 [true]]
def bX8_nextToken_235 : List sx_S := [si_al 0, si_get 7 15, si_go 239 [true]]
def bX8_nextToken_239 : List sx_S := [si_put 7 15 0, si_al 0, si_dup, si_get 7 12, si_const 1, si_bin (fun x y => x + y), si_put 7 12 0, si_go 165 [true]]
def bX8_nextToken_255 : List sx_S := [si_al 0, si_al 0, si_get 7 12, si_al 0, si_get 7 13, si_bin (fun x y => x - y), si_const (nI 2), si_if2 (fun x y => x ≤ y) 273 [false], si_const 0, si_go 274 [false]]
def bX8_nextToken_273 : List sx_S := [si_const (nI 3), si_go 274 [false]]
def bX8_nextToken_274 : List sx_S := [si_put 7 14 0, si_go 277 [false]]
def bX8_nextToken_277 : List sx_S := [si_rv]
def BX8_nextToken : Nat → List sx_S := fun pc => if pc = 0 then bX8_nextToken_0 else if pc = 32 then bX8_nextToken_32 else if pc = 34 then bX8_nextToken_34 else if pc = 53 then bX8_nextToken_53 else if pc = 74 then bX8_nextToken_74 else if pc = 95 then bX8_nextToken_95 else if pc = 113 then bX8_nextToken_113 else if pc = 117 then bX8_nextToken_117 else if pc = 118 then bX8_nextToken_118 else if pc = 141 then bX8_nextToken_141 else if pc = 142 then bX8_nextToken_142 else if pc = 165 then bX8_nextToken_165 else if pc = 235 then bX8_nextToken_235 else if pc = 239 then bX8_nextToken_239 else if pc = 255 then bX8_nextToken_255 else if pc = 273 then bX8_nextToken_273 else if pc = 274 then bX8_nextToken_274 else if pc = 277 then bX8_nextToken_277 else []
set_option maxRecDepth 20000 in
theorem kX8_nextToken_0 : sx_BK sx_tb yX8_nextToken.cls cX8_nextToken 1 (none) ({ frames := 1, cells := 0, slots := 0, locals := 25 } : Room) false false 0 (fun _ => 0) 0 (bX8_nextToken_0) := ⟨_, ⟨sn_aload_n dX8_nextToken_0 rfl, sm_al _⟩, ⟨_, ⟨sn_aload_n dX8_nextToken_1 rfl, sm_al _⟩, ⟨_, ⟨sn_get (C := RX8) (T := TX8) (N := 23) dX8_nextToken_2 rfl zinX8 (Nat.le_of_ble_eq_true rfl) zw_3_194, sm_get _ _⟩, ⟨_, ⟨sn_put (C := RX8) (T := TX8) (N := 23) dX8_nextToken_5 rfl zinX8 tyX8_ok nmX8 (Nat.le_of_ble_eq_true rfl) zw_3_195 rfl (tyX8_ok 13 (Nat.le_of_ble_eq_true rfl)) trivial, sm_put _ _ _⟩, ⟨_, ⟨sn_aload_n dX8_nextToken_8 rfl, sm_al _⟩, ⟨_, ⟨sn_aload_n dX8_nextToken_9 rfl, sm_al _⟩, ⟨_, ⟨sn_get (C := RX8) (T := TX8) (N := 23) dX8_nextToken_10 rfl zinX8 (Nat.le_of_ble_eq_true rfl) zw_3_194, sm_get _ _⟩, ⟨_, ⟨sn_aload_n dX8_nextToken_13 rfl, sm_al _⟩, ⟨_, ⟨sn_get (C := RX8) (T := TX8) (N := 23) dX8_nextToken_14 rfl zinX8 (Nat.le_of_ble_eq_true rfl) zw_3_193, sm_get _ _⟩, ⟨_, ⟨sn_ic_ge dX8_nextToken_17 (by decide +kernel) rfl, sm_if2 _ _ _⟩, ⟨_, ⟨sn_aload_n dX8_nextToken_20 rfl, sm_al _⟩, ⟨_, ⟨sn_get (C := RX8) (T := TX8) (N := 23) dX8_nextToken_21 rfl zinX8 (Nat.le_of_ble_eq_true rfl) zw_3_192, sm_get _ _⟩, ⟨_, ⟨sn_aload_n dX8_nextToken_24 rfl, sm_al _⟩, ⟨_, ⟨sn_get (C := RX8) (T := TX8) (N := 23) dX8_nextToken_25 rfl zinX8 (Nat.le_of_ble_eq_true rfl) zw_3_194, sm_get _ _⟩, ⟨_, ⟨sn_iald dX8_nextToken_28, sm_iald⟩, ⟨_, ⟨sn_goto (len := 3) dX8_nextToken_29 (by decide +kernel) rfl, sm_go _ _⟩, trivial⟩⟩⟩⟩⟩⟩⟩⟩⟩⟩⟩⟩⟩⟩⟩⟩
set_option maxRecDepth 20000 in
theorem kX8_nextToken_32 : sx_BK sx_tb yX8_nextToken.cls cX8_nextToken 1 (none) ({ frames := 1, cells := 0, slots := 0, locals := 25 } : Room) false false 0 (fun _ => 0) 32 (bX8_nextToken_32) := ⟨_, ⟨sn_ldc dX8_nextToken_32 zw_4_65, sm_const _⟩, ⟨_, ⟨sn_fall (len := 0) rfl rfl, sm_go _ _⟩, trivial⟩⟩
set_option maxRecDepth 20000 in
theorem kX8_nextToken_34 : sx_BK sx_tb yX8_nextToken.cls cX8_nextToken 1 (none) ({ frames := 1, cells := 0, slots := 0, locals := 25 } : Room) false false 0 (fun _ => 0) 34 (bX8_nextToken_34) := ⟨_, ⟨sn_put (C := RX8) (T := TX8) (N := 23) dX8_nextToken_34 rfl zinX8 tyX8_ok nmX8 (Nat.le_of_ble_eq_true rfl) zw_3_197 rfl (tyX8_ok 15 (Nat.le_of_ble_eq_true rfl)) trivial, sm_put _ _ _⟩, ⟨_, ⟨sn_aload_n dX8_nextToken_37 rfl, sm_al _⟩, ⟨_, ⟨sn_aload_n dX8_nextToken_38 rfl, sm_al _⟩, ⟨_, ⟨sn_get (C := RX8) (T := TX8) (N := 23) dX8_nextToken_39 rfl zinX8 (Nat.le_of_ble_eq_true rfl) zw_3_194, sm_get _ _⟩, ⟨_, ⟨sn_aload_n dX8_nextToken_42 rfl, sm_al _⟩, ⟨_, ⟨sn_get (C := RX8) (T := TX8) (N := 23) dX8_nextToken_43 rfl zinX8 (Nat.le_of_ble_eq_true rfl) zw_3_193, sm_get _ _⟩, ⟨_, ⟨sn_ic_ne dX8_nextToken_46 (by decide +kernel) rfl, sm_if2 _ _ _⟩, ⟨_, ⟨sn_iconst dX8_nextToken_49 (by decide +kernel), sm_const _⟩, ⟨_, ⟨sn_goto (len := 3) dX8_nextToken_50 (by decide +kernel) rfl, sm_go _ _⟩, trivial⟩⟩⟩⟩⟩⟩⟩⟩⟩
set_option maxRecDepth 20000 in
theorem kX8_nextToken_53 : sx_BK sx_tb yX8_nextToken.cls cX8_nextToken 1 (none) ({ frames := 1, cells := 0, slots := 0, locals := 25 } : Room) false false 0 (fun _ => 0) 53 (bX8_nextToken_53) := ⟨_, ⟨sn_aload_n dX8_nextToken_53 rfl, sm_al _⟩, ⟨_, ⟨sn_get (C := RX8) (T := TX8) (N := 23) dX8_nextToken_54 rfl zinX8 (Nat.le_of_ble_eq_true rfl) zw_3_197, sm_get _ _⟩, ⟨_, ⟨sn_i2l dX8_nextToken_57, sm_i2l⟩, ⟨_, ⟨sn_ldc2 dX8_nextToken_58 zw_4_66, sm_lconst _⟩, ⟨_, ⟨sn_ldc2 dX8_nextToken_61 zw_4_67, sm_lconst _⟩, ⟨_, ⟨sn_cs_z ztb_X8_in dX8_nextToken_64 zw_4_21 zw_4_22 zw_1_8 zw_4_23 zmh_X8 zpd_X8_in (Nat.le_of_ble_eq_true rfl) (Nat.le_of_ble_eq_true rfl) rfl rfl, sm_cs _ _ _ _ _ _⟩, ⟨_, ⟨sn_if_eq dX8_nextToken_67 (by decide +kernel) rfl, sm_if1 _ _ _⟩, ⟨_, ⟨sn_iconst dX8_nextToken_70 (by decide +kernel), sm_const _⟩, ⟨_, ⟨sn_goto (len := 3) dX8_nextToken_71 (by decide +kernel) rfl, sm_go _ _⟩, trivial⟩⟩⟩⟩⟩⟩⟩⟩⟩
set_option maxRecDepth 20000 in
theorem kX8_nextToken_74 : sx_BK sx_tb yX8_nextToken.cls cX8_nextToken 1 (none) ({ frames := 1, cells := 0, slots := 0, locals := 25 } : Room) false false 0 (fun _ => 0) 74 (bX8_nextToken_74) := ⟨_, ⟨sn_aload_n dX8_nextToken_74 rfl, sm_al _⟩, ⟨_, ⟨sn_get (C := RX8) (T := TX8) (N := 23) dX8_nextToken_75 rfl zinX8 (Nat.le_of_ble_eq_true rfl) zw_3_197, sm_get _ _⟩, ⟨_, ⟨sn_i2l dX8_nextToken_78, sm_i2l⟩, ⟨_, ⟨sn_ldc2 dX8_nextToken_79 zw_4_68, sm_lconst _⟩, ⟨_, ⟨sn_ldc2 dX8_nextToken_82 zw_4_69, sm_lconst _⟩, ⟨_, ⟨sn_cs_z ztb_X8_in dX8_nextToken_85 zw_4_21 zw_4_22 zw_1_8 zw_4_23 zmh_X8 zpd_X8_in (Nat.le_of_ble_eq_true rfl) (Nat.le_of_ble_eq_true rfl) rfl rfl, sm_cs _ _ _ _ _ _⟩, ⟨_, ⟨sn_if_eq dX8_nextToken_88 (by decide +kernel) rfl, sm_if1 _ _ _⟩, ⟨_, ⟨sn_iconst dX8_nextToken_91 (by decide +kernel), sm_const _⟩, ⟨_, ⟨sn_goto (len := 3) dX8_nextToken_92 (by decide +kernel) rfl, sm_go _ _⟩, trivial⟩⟩⟩⟩⟩⟩⟩⟩⟩
set_option maxRecDepth 20000 in
theorem kX8_nextToken_95 : sx_BK sx_tb yX8_nextToken.cls cX8_nextToken 1 (none) ({ frames := 1, cells := 0, slots := 0, locals := 25 } : Room) false false 0 (fun _ => 0) 95 (bX8_nextToken_95) := ⟨_, ⟨sn_aload_n dX8_nextToken_95 rfl, sm_al _⟩, ⟨_, ⟨sn_get (C := RX8) (T := TX8) (N := 23) dX8_nextToken_96 rfl zinX8 (Nat.le_of_ble_eq_true rfl) zw_3_197, sm_get _ _⟩, ⟨_, ⟨sn_bipush dX8_nextToken_99 (by decide +kernel), sm_const _⟩, ⟨_, ⟨sn_ic_eq dX8_nextToken_101 (by decide +kernel) rfl, sm_if2 _ _ _⟩, ⟨_, ⟨sn_aload_n dX8_nextToken_104 rfl, sm_al _⟩, ⟨_, ⟨sn_get (C := RX8) (T := TX8) (N := 23) dX8_nextToken_105 rfl zinX8 (Nat.le_of_ble_eq_true rfl) zw_3_197, sm_get _ _⟩, ⟨_, ⟨sn_bipush dX8_nextToken_108 (by decide +kernel), sm_const _⟩, ⟨_, ⟨sn_ic_ne dX8_nextToken_110 (by decide +kernel) rfl, sm_if2 _ _ _⟩, ⟨_, ⟨sn_fall (len := 0) rfl rfl, sm_go _ _⟩, trivial⟩⟩⟩⟩⟩⟩⟩⟩⟩
set_option maxRecDepth 20000 in
theorem kX8_nextToken_113 : sx_BK sx_tb yX8_nextToken.cls cX8_nextToken 1 (none) ({ frames := 1, cells := 0, slots := 0, locals := 25 } : Room) false false 0 (fun _ => 0) 113 (bX8_nextToken_113) := ⟨_, ⟨sn_iconst dX8_nextToken_113 (by decide +kernel), sm_const _⟩, ⟨_, ⟨sn_goto (len := 3) dX8_nextToken_114 (by decide +kernel) rfl, sm_go _ _⟩, trivial⟩⟩
set_option maxRecDepth 20000 in
theorem kX8_nextToken_117 : sx_BK sx_tb yX8_nextToken.cls cX8_nextToken 1 (none) ({ frames := 1, cells := 0, slots := 0, locals := 25 } : Room) false false 0 (fun _ => 0) 117 (bX8_nextToken_117) := ⟨_, ⟨sn_iconst dX8_nextToken_117 (by decide +kernel), sm_const _⟩, ⟨_, ⟨sn_fall (len := 0) rfl rfl, sm_go _ _⟩, trivial⟩⟩
set_option maxRecDepth 20000 in
theorem kX8_nextToken_118 : sx_BK sx_tb yX8_nextToken.cls cX8_nextToken 1 (none) ({ frames := 1, cells := 0, slots := 0, locals := 25 } : Room) false false 0 (fun _ => 0) 118 (bX8_nextToken_118) := ⟨_, ⟨sn_put (C := RX8) (T := TX8) (N := 23) dX8_nextToken_118 rfl zinX8 tyX8_ok nmX8 (Nat.le_of_ble_eq_true rfl) zw_3_196 rfl (tyX8_ok 14 (Nat.le_of_ble_eq_true rfl)) trivial, sm_put _ _ _⟩, ⟨_, ⟨sn_aload_n dX8_nextToken_121 rfl, sm_al _⟩, ⟨_, ⟨sn_dup dX8_nextToken_122, sm_dup⟩, ⟨_, ⟨sn_get (C := RX8) (T := TX8) (N := 23) dX8_nextToken_123 rfl zinX8 (Nat.le_of_ble_eq_true rfl) zw_3_194, sm_get _ _⟩, ⟨_, ⟨sn_aload_n dX8_nextToken_126 rfl, sm_al _⟩, ⟨_, ⟨sn_get (C := RX8) (T := TX8) (N := 23) dX8_nextToken_127 rfl zinX8 (Nat.le_of_ble_eq_true rfl) zw_3_194, sm_get _ _⟩, ⟨_, ⟨sn_aload_n dX8_nextToken_130 rfl, sm_al _⟩, ⟨_, ⟨sn_get (C := RX8) (T := TX8) (N := 23) dX8_nextToken_131 rfl zinX8 (Nat.le_of_ble_eq_true rfl) zw_3_193, sm_get _ _⟩, ⟨_, ⟨sn_ic_ge dX8_nextToken_134 (by decide +kernel) rfl, sm_if2 _ _ _⟩, ⟨_, ⟨sn_iconst dX8_nextToken_137 (by decide +kernel), sm_const _⟩, ⟨_, ⟨sn_goto (len := 3) dX8_nextToken_138 (by decide +kernel) rfl, sm_go _ _⟩, trivial⟩⟩⟩⟩⟩⟩⟩⟩⟩⟩⟩
set_option maxRecDepth 20000 in
theorem kX8_nextToken_141 : sx_BK sx_tb yX8_nextToken.cls cX8_nextToken 1 (none) ({ frames := 1, cells := 0, slots := 0, locals := 25 } : Room) false false 0 (fun _ => 0) 141 (bX8_nextToken_141) := ⟨_, ⟨sn_iconst dX8_nextToken_141 (by decide +kernel), sm_const _⟩, ⟨_, ⟨sn_fall (len := 0) rfl rfl, sm_go _ _⟩, trivial⟩⟩
set_option maxRecDepth 20000 in
theorem kX8_nextToken_142 : sx_BK sx_tb yX8_nextToken.cls cX8_nextToken 1 (none) ({ frames := 1, cells := 0, slots := 0, locals := 25 } : Room) false false 0 (fun _ => 0) 142 (bX8_nextToken_142) := ⟨_, ⟨sn_iadd dX8_nextToken_142, sm_bin _⟩, ⟨_, ⟨sn_put (C := RX8) (T := TX8) (N := 23) dX8_nextToken_143 rfl zinX8 tyX8_ok nmX8 (Nat.le_of_ble_eq_true rfl) zw_3_194 rfl (tyX8_ok 12 (Nat.le_of_ble_eq_true rfl)) trivial, sm_put _ _ _⟩, ⟨_, ⟨sn_aload_n dX8_nextToken_146 rfl, sm_al _⟩, ⟨_, ⟨sn_get (C := RX8) (T := TX8) (N := 23) dX8_nextToken_147 rfl zinX8 (Nat.le_of_ble_eq_true rfl) zw_3_196, sm_get _ _⟩, ⟨_, ⟨sn_iconst dX8_nextToken_150 (by decide +kernel), sm_const _⟩, ⟨_, ⟨sn_ic_ne dX8_nextToken_151 (by decide +kernel) rfl, sm_if2 _ _ _⟩, ⟨_, ⟨sn_aload_n dX8_nextToken_154 rfl, sm_al _⟩, ⟨_, ⟨sn_dup dX8_nextToken_155, sm_dup⟩, ⟨_, ⟨sn_get (C := RX8) (T := TX8) (N := 23) dX8_nextToken_156 rfl zinX8 (Nat.le_of_ble_eq_true rfl) zw_3_197, sm_get _ _⟩, ⟨_, ⟨sn_bipush dX8_nextToken_159 (by decide +kernel), sm_const _⟩, ⟨_, ⟨sn_isub dX8_nextToken_161, sm_bin _⟩, ⟨_, ⟨sn_put (C := RX8) (T := TX8) (N := 23) dX8_nextToken_162 rfl zinX8 tyX8_ok nmX8 (Nat.le_of_ble_eq_true rfl) zw_3_197 rfl (tyX8_ok 15 (Nat.le_of_ble_eq_true rfl)) trivial, sm_put _ _ _⟩, ⟨_, ⟨sn_fall (len := 0) rfl rfl, sm_go _ _⟩, trivial⟩⟩⟩⟩⟩⟩⟩⟩⟩⟩⟩⟩⟩
set_option maxRecDepth 20000 in
theorem kX8_nextToken_165 : sx_BK sx_tb yX8_nextToken.cls cX8_nextToken 1 (none) ({ frames := 1, cells := 0, slots := 0, locals := 25 } : Room) false false 0 (fun _ => 0) 165 (bX8_nextToken_165) := ⟨_, ⟨sn_aload_n dX8_nextToken_165 rfl, sm_al _⟩, ⟨_, ⟨sn_get (C := RX8) (T := TX8) (N := 23) dX8_nextToken_166 rfl zinX8 (Nat.le_of_ble_eq_true rfl) zw_3_194, sm_get _ _⟩, ⟨_, ⟨sn_aload_n dX8_nextToken_169 rfl, sm_al _⟩, ⟨_, ⟨sn_get (C := RX8) (T := TX8) (N := 23) dX8_nextToken_170 rfl zinX8 (Nat.le_of_ble_eq_true rfl) zw_3_193, sm_get _ _⟩, ⟨_, ⟨sn_ic_ge dX8_nextToken_173 (by decide +kernel) rfl, sm_if2 _ _ _⟩, ⟨_, ⟨sn_aload_n dX8_nextToken_176 rfl, sm_al _⟩, ⟨_, ⟨sn_get (C := RX8) (T := TX8) (N := 23) dX8_nextToken_177 rfl zinX8 (Nat.le_of_ble_eq_true rfl) zw_3_192, sm_get _ _⟩, ⟨_, ⟨sn_aload_n dX8_nextToken_180 rfl, sm_al _⟩, ⟨_, ⟨sn_get (C := RX8) (T := TX8) (N := 23) dX8_nextToken_181 rfl zinX8 (Nat.le_of_ble_eq_true rfl) zw_3_194, sm_get _ _⟩, ⟨_, ⟨sn_iald dX8_nextToken_184, sm_iald⟩, ⟨_, ⟨sn_i2l dX8_nextToken_185, sm_i2l⟩, ⟨_, ⟨sn_ldc2 dX8_nextToken_186 zw_4_68, sm_lconst _⟩, ⟨_, ⟨sn_ldc2 dX8_nextToken_189 zw_4_69, sm_lconst _⟩, ⟨_, ⟨sn_cs_z ztb_X8_in dX8_nextToken_192 zw_4_21 zw_4_22 zw_1_8 zw_4_23 zmh_X8 zpd_X8_in (Nat.le_of_ble_eq_true rfl) (Nat.le_of_ble_eq_true rfl) rfl rfl, sm_cs _ _ _ _ _ _⟩, ⟨_, ⟨sn_if_eq dX8_nextToken_195 (by decide +kernel) rfl, sm_if1 _ _ _⟩, ⟨_, ⟨sn_aload_n dX8_nextToken_198 rfl, sm_al _⟩, ⟨_, ⟨sn_aload_n dX8_nextToken_199 rfl, sm_al _⟩, ⟨_, ⟨sn_get (C := RX8) (T := TX8) (N := 23) dX8_nextToken_200 rfl zinX8 (Nat.le_of_ble_eq_true rfl) zw_3_194, sm_get _ _⟩, ⟨_, ⟨sn_aload_n dX8_nextToken_203 rfl, sm_al _⟩, ⟨_, ⟨sn_get (C := RX8) (T := TX8) (N := 23) dX8_nextToken_204 rfl zinX8 (Nat.le_of_ble_eq_true rfl) zw_3_195, sm_get _ _⟩, ⟨_, ⟨sn_isub dX8_nextToken_207, sm_bin _⟩, ⟨_, ⟨sn_iconst dX8_nextToken_208 (by decide +kernel), sm_const _⟩, ⟨_, ⟨sn_ic_ge dX8_nextToken_209 (by decide +kernel) rfl, sm_if2 _ _ _⟩, ⟨_, ⟨sn_bipush dX8_nextToken_212 (by decide +kernel), sm_const _⟩, ⟨_, ⟨sn_aload_n dX8_nextToken_214 rfl, sm_al _⟩, ⟨_, ⟨sn_get (C := RX8) (T := TX8) (N := 23) dX8_nextToken_215 rfl zinX8 (Nat.le_of_ble_eq_true rfl) zw_3_197, sm_get _ _⟩, ⟨_, ⟨sn_imul dX8_nextToken_218, sm_bin _⟩, ⟨_, ⟨sn_aload_n dX8_nextToken_219 rfl, sm_al _⟩, ⟨_, ⟨sn_get (C := RX8) (T := TX8) (N := 23) dX8_nextToken_220 rfl zinX8 (Nat.le_of_ble_eq_true rfl) zw_3_192, sm_get _ _⟩, ⟨_, ⟨sn_aload_n dX8_nextToken_223 rfl, sm_al _⟩, ⟨_, ⟨sn_get (C := RX8) (T := TX8) (N := 23) dX8_nextToken_224 rfl zinX8 (Nat.le_of_ble_eq_true rfl) zw_3_194, sm_get _ _⟩, ⟨_, ⟨sn_iald dX8_nextToken_227, sm_iald⟩, ⟨_, ⟨sn_iadd dX8_nextToken_228, sm_bin _⟩, ⟨_, ⟨sn_bipush dX8_nextToken_229 (by decide +kernel), sm_const _⟩, ⟨_, ⟨sn_isub dX8_nextToken_231, sm_bin _⟩, ⟨_, ⟨sn_goto (len := 3) dX8_nextToken_232 (by decide +kernel) rfl, sm_go _ _⟩, trivial⟩⟩⟩⟩⟩⟩⟩⟩⟩⟩⟩⟩⟩⟩⟩⟩⟩⟩⟩⟩⟩⟩⟩⟩⟩⟩⟩⟩⟩⟩⟩⟩⟩⟩⟩⟩
set_option maxRecDepth 20000 in
theorem kX8_nextToken_235 : sx_BK sx_tb yX8_nextToken.cls cX8_nextToken 1 (none) ({ frames := 1, cells := 0, slots := 0, locals := 25 } : Room) false false 0 (fun _ => 0) 235 (bX8_nextToken_235) := ⟨_, ⟨sn_aload_n dX8_nextToken_235 rfl, sm_al _⟩, ⟨_, ⟨sn_get (C := RX8) (T := TX8) (N := 23) dX8_nextToken_236 rfl zinX8 (Nat.le_of_ble_eq_true rfl) zw_3_197, sm_get _ _⟩, ⟨_, ⟨sn_fall (len := 0) rfl rfl, sm_go _ _⟩, trivial⟩⟩⟩
set_option maxRecDepth 20000 in
theorem kX8_nextToken_239 : sx_BK sx_tb yX8_nextToken.cls cX8_nextToken 1 (none) ({ frames := 1, cells := 0, slots := 0, locals := 25 } : Room) false false 0 (fun _ => 0) 239 (bX8_nextToken_239) := ⟨_, ⟨sn_put (C := RX8) (T := TX8) (N := 23) dX8_nextToken_239 rfl zinX8 tyX8_ok nmX8 (Nat.le_of_ble_eq_true rfl) zw_3_197 rfl (tyX8_ok 15 (Nat.le_of_ble_eq_true rfl)) trivial, sm_put _ _ _⟩, ⟨_, ⟨sn_aload_n dX8_nextToken_242 rfl, sm_al _⟩, ⟨_, ⟨sn_dup dX8_nextToken_243, sm_dup⟩, ⟨_, ⟨sn_get (C := RX8) (T := TX8) (N := 23) dX8_nextToken_244 rfl zinX8 (Nat.le_of_ble_eq_true rfl) zw_3_194, sm_get _ _⟩, ⟨_, ⟨sn_iconst dX8_nextToken_247 (by decide +kernel), sm_const _⟩, ⟨_, ⟨sn_iadd dX8_nextToken_248, sm_bin _⟩, ⟨_, ⟨sn_put (C := RX8) (T := TX8) (N := 23) dX8_nextToken_249 rfl zinX8 tyX8_ok nmX8 (Nat.le_of_ble_eq_true rfl) zw_3_194 rfl (tyX8_ok 12 (Nat.le_of_ble_eq_true rfl)) trivial, sm_put _ _ _⟩, ⟨_, ⟨sn_goto (len := 3) dX8_nextToken_252 (by decide +kernel) rfl, sm_go _ _⟩, trivial⟩⟩⟩⟩⟩⟩⟩⟩
set_option maxRecDepth 20000 in
theorem kX8_nextToken_255 : sx_BK sx_tb yX8_nextToken.cls cX8_nextToken 1 (none) ({ frames := 1, cells := 0, slots := 0, locals := 25 } : Room) false false 0 (fun _ => 0) 255 (bX8_nextToken_255) := ⟨_, ⟨sn_aload_n dX8_nextToken_255 rfl, sm_al _⟩, ⟨_, ⟨sn_aload_n dX8_nextToken_256 rfl, sm_al _⟩, ⟨_, ⟨sn_get (C := RX8) (T := TX8) (N := 23) dX8_nextToken_257 rfl zinX8 (Nat.le_of_ble_eq_true rfl) zw_3_194, sm_get _ _⟩, ⟨_, ⟨sn_aload_n dX8_nextToken_260 rfl, sm_al _⟩, ⟨_, ⟨sn_get (C := RX8) (T := TX8) (N := 23) dX8_nextToken_261 rfl zinX8 (Nat.le_of_ble_eq_true rfl) zw_3_195, sm_get _ _⟩, ⟨_, ⟨sn_isub dX8_nextToken_264, sm_bin _⟩, ⟨_, ⟨sn_iconst dX8_nextToken_265 (by decide +kernel), sm_const _⟩, ⟨_, ⟨sn_ic_le dX8_nextToken_266 (by decide +kernel) rfl, sm_if2 _ _ _⟩, ⟨_, ⟨sn_iconst dX8_nextToken_269 (by decide +kernel), sm_const _⟩, ⟨_, ⟨sn_goto (len := 3) dX8_nextToken_270 (by decide +kernel) rfl, sm_go _ _⟩, trivial⟩⟩⟩⟩⟩⟩⟩⟩⟩⟩
set_option maxRecDepth 20000 in
theorem kX8_nextToken_273 : sx_BK sx_tb yX8_nextToken.cls cX8_nextToken 1 (none) ({ frames := 1, cells := 0, slots := 0, locals := 25 } : Room) false false 0 (fun _ => 0) 273 (bX8_nextToken_273) := ⟨_, ⟨sn_iconst dX8_nextToken_273 (by decide +kernel), sm_const _⟩, ⟨_, ⟨sn_fall (len := 0) rfl rfl, sm_go _ _⟩, trivial⟩⟩
set_option maxRecDepth 20000 in
theorem kX8_nextToken_274 : sx_BK sx_tb yX8_nextToken.cls cX8_nextToken 1 (none) ({ frames := 1, cells := 0, slots := 0, locals := 25 } : Room) false false 0 (fun _ => 0) 274 (bX8_nextToken_274) := ⟨_, ⟨sn_put (C := RX8) (T := TX8) (N := 23) dX8_nextToken_274 rfl zinX8 tyX8_ok nmX8 (Nat.le_of_ble_eq_true rfl) zw_3_196 rfl (tyX8_ok 14 (Nat.le_of_ble_eq_true rfl)) trivial, sm_put _ _ _⟩, ⟨_, ⟨sn_fall (len := 0) rfl rfl, sm_go _ _⟩, trivial⟩⟩
set_option maxRecDepth 20000 in
theorem kX8_nextToken_277 : sx_BK sx_tb yX8_nextToken.cls cX8_nextToken 1 (none) ({ frames := 1, cells := 0, slots := 0, locals := 25 } : Room) false false 0 (fun _ => 0) 277 (bX8_nextToken_277) := ⟨_, ⟨sn_rv (len := 1) dX8_nextToken_277 rfl, sm_rv⟩, trivial⟩
theorem kX8_nextToken : ∀ pc, sx_BK sx_tb yX8_nextToken.cls cX8_nextToken 1 (none) ({ frames := 1, cells := 0, slots := 0, locals := 25 } : Room) false false 0 (fun _ => 0) pc (BX8_nextToken pc) := fun pc => sx_bk_if (kX8_nextToken_0) (sx_bk_if (kX8_nextToken_32) (sx_bk_if (kX8_nextToken_34) (sx_bk_if (kX8_nextToken_53) (sx_bk_if (kX8_nextToken_74) (sx_bk_if (kX8_nextToken_95) (sx_bk_if (kX8_nextToken_113) (sx_bk_if (kX8_nextToken_117) (sx_bk_if (kX8_nextToken_118) (sx_bk_if (kX8_nextToken_141) (sx_bk_if (kX8_nextToken_142) (sx_bk_if (kX8_nextToken_165) (sx_bk_if (kX8_nextToken_235) (sx_bk_if (kX8_nextToken_239) (sx_bk_if (kX8_nextToken_255) (sx_bk_if (kX8_nextToken_273) (sx_bk_if (kX8_nextToken_274) (sx_bk_if (kX8_nextToken_277) (trivial))))))))))))))))))
theorem okX8_nextToken : sx_ok sx_tb BX8_nextToken (yX8_nextToken, cX8_nextToken, 1, none, { frames := 1, cells := 0, slots := 0, locals := 25 }) := ⟨by decide, by decide +kernel, false, (fun h => by cases h), kX8_nextToken⟩
theorem dX8_must_0 : decode cX8_must 0 = .ok (.iload_n 1, 1) := by decide +kernel
theorem dX8_must_1 : decode cX8_must 1 = .ok (.ifCond .ne 8, 3) := by decide +kernel
theorem dX8_must_4 : decode cX8_must 4 = .ok (.aload_n 0, 1) := by decide +kernel
theorem dX8_must_5 : decode cX8_must 5 = .ok (.iconst 1, 1) := by decide +kernel
theorem dX8_must_6 : decode cX8_must 6 = .ok (.invokevirtual 102, 3) := by decide +kernel
theorem dX8_must_9 : decode cX8_must 9 = .ok (.aload_n 0, 1) := by decide +kernel
theorem dX8_must_10 : decode cX8_must 10 = .ok (.getfield 75, 3) := by decide +kernel
theorem dX8_must_13 : decode cX8_must 13 = .ok (.ifCond .ne 7, 3) := by decide +kernel
theorem dX8_must_16 : decode cX8_must 16 = .ok (.aload_n 0, 1) := by decide +kernel
theorem dX8_must_17 : decode cX8_must 17 = .ok (.invokevirtual 106, 3) := by decide +kernel
theorem dX8_must_20 : decode cX8_must 20 = .ok (.return_, 1) := by decide +kernel
def bX8_must_0 : List sx_S := [si_il 1, si_if1 (fun x => ¬ x = 0) 9 [true, false], si_al 0, si_const 1, si_cv 7 132 1 0 0 0 0, si_go 9 [true, false]]
def bX8_must_9 : List sx_S := [si_al 0, si_get 7 16, si_if1 (fun x => ¬ x = 0) 20 [false, false], si_al 0, si_cv 7 133 0 0 0 0 0, si_go 20 [false, false]]
def bX8_must_20 : List sx_S := [si_rv]
def BX8_must : Nat → List sx_S := fun pc => if pc = 0 then bX8_must_0 else if pc = 9 then bX8_must_9 else if pc = 20 then bX8_must_20 else []
set_option maxRecDepth 20000 in
theorem kX8_must_0 : sx_BK sx_tb yX8_must.cls cX8_must 2 (none) ({ frames := 2, cells := 0, slots := 0, locals := 45 } : Room) false false 0 (fun _ => 0) 0 (bX8_must_0) := ⟨_, ⟨sn_iload_n dX8_must_0 rfl, sm_il _⟩, ⟨_, ⟨sn_if_ne dX8_must_1 (by decide +kernel) rfl, sm_if1 _ _ _⟩, ⟨_, ⟨sn_aload_n dX8_must_4 rfl, sm_al _⟩, ⟨_, ⟨sn_iconst dX8_must_5 (by decide +kernel), sm_const _⟩, ⟨_, ⟨sn_cv_v (N := 23) (T := TX8) ztb_X8_bad dX8_must_6 rfl rfl zw_4_78 zw_4_80 zw_0_39 zw_1_8 zw_4_81 zmh_X8 zpd_X8_bad (Nat.le_of_ble_eq_true rfl) (Nat.le_of_ble_eq_true rfl) rfl rfl, sm_cv _ _ _ _ _ _ _⟩, ⟨_, ⟨sn_fall (len := 0) rfl rfl, sm_go _ _⟩, trivial⟩⟩⟩⟩⟩⟩
set_option maxRecDepth 20000 in
theorem kX8_must_9 : sx_BK sx_tb yX8_must.cls cX8_must 2 (none) ({ frames := 2, cells := 0, slots := 0, locals := 45 } : Room) false false 0 (fun _ => 0) 9 (bX8_must_9) := ⟨_, ⟨sn_aload_n dX8_must_9 rfl, sm_al _⟩, ⟨_, ⟨sn_get (C := RX8) (T := TX8) (N := 23) dX8_must_10 rfl zinX8 (Nat.le_of_ble_eq_true rfl) zw_3_198, sm_get _ _⟩, ⟨_, ⟨sn_if_ne dX8_must_13 (by decide +kernel) rfl, sm_if1 _ _ _⟩, ⟨_, ⟨sn_aload_n dX8_must_16 rfl, sm_al _⟩, ⟨_, ⟨sn_cv_v (N := 23) (T := TX8) ztb_X8_nextToken dX8_must_17 rfl rfl zw_4_61 zw_4_63 zw_0_36 zw_1_8 zw_4_64 zmh_X8 zpd_X8_nextToken (Nat.le_of_ble_eq_true rfl) (Nat.le_of_ble_eq_true rfl) rfl rfl, sm_cv _ _ _ _ _ _ _⟩, ⟨_, ⟨sn_fall (len := 0) rfl rfl, sm_go _ _⟩, trivial⟩⟩⟩⟩⟩⟩
set_option maxRecDepth 20000 in
theorem kX8_must_20 : sx_BK sx_tb yX8_must.cls cX8_must 2 (none) ({ frames := 2, cells := 0, slots := 0, locals := 45 } : Room) false false 0 (fun _ => 0) 20 (bX8_must_20) := ⟨_, ⟨sn_rv (len := 1) dX8_must_20 rfl, sm_rv⟩, trivial⟩
theorem kX8_must : ∀ pc, sx_BK sx_tb yX8_must.cls cX8_must 2 (none) ({ frames := 2, cells := 0, slots := 0, locals := 45 } : Room) false false 0 (fun _ => 0) pc (BX8_must pc) := fun pc => sx_bk_if (kX8_must_0) (sx_bk_if (kX8_must_9) (sx_bk_if (kX8_must_20) (trivial)))
theorem okX8_must : sx_ok sx_tb BX8_must (yX8_must, cX8_must, 2, none, { frames := 2, cells := 0, slots := 0, locals := 45 }) := ⟨by decide, by decide +kernel, false, (fun h => by cases h), kX8_must⟩
theorem dX8_isLetter_0 : decode cX8_isLetter 0 = .ok (.aload_n 0, 1) := by decide +kernel
theorem dX8_isLetter_1 : decode cX8_isLetter 1 = .ok (.getfield 75, 3) := by decide +kernel
theorem dX8_isLetter_4 : decode cX8_isLetter 4 = .ok (.ifCond .ne 23, 3) := by decide +kernel
theorem dX8_isLetter_7 : decode cX8_isLetter 7 = .ok (.aload_n 0, 1) := by decide +kernel
theorem dX8_isLetter_8 : decode cX8_isLetter 8 = .ok (.getfield 99, 3) := by decide +kernel
theorem dX8_isLetter_11 : decode cX8_isLetter 11 = .ok (.iconst 2, 1) := by decide +kernel
theorem dX8_isLetter_12 : decode cX8_isLetter 12 = .ok (.if_icmp .ne 15, 3) := by decide +kernel
theorem dX8_isLetter_15 : decode cX8_isLetter 15 = .ok (.aload_n 0, 1) := by decide +kernel
theorem dX8_isLetter_16 : decode cX8_isLetter 16 = .ok (.getfield 88, 3) := by decide +kernel
theorem dX8_isLetter_19 : decode cX8_isLetter 19 = .ok (.iload_n 1, 1) := by decide +kernel
theorem dX8_isLetter_20 : decode cX8_isLetter 20 = .ok (.if_icmp .ne 7, 3) := by decide +kernel
theorem dX8_isLetter_23 : decode cX8_isLetter 23 = .ok (.iconst 1, 1) := by decide +kernel
theorem dX8_isLetter_24 : decode cX8_isLetter 24 = .ok (.goto 4, 3) := by decide +kernel
theorem dX8_isLetter_27 : decode cX8_isLetter 27 = .ok (.iconst 0, 1) := by decide +kernel
theorem dX8_isLetter_28 : decode cX8_isLetter 28 = .ok (.ireturn, 1) := by decide +kernel
def bX8_isLetter_0 : List sx_S := [si_al 0, si_get 7 16, si_if1 (fun x => ¬ x = 0) 27 [false, false], si_al 0, si_get 7 14, si_const (nI 2), si_if2 (fun x y => ¬ x = y) 27 [false, false], si_al 0, si_get 7 15, si_il 1, si_if2 (fun x y => ¬ x = y) 27 [false, false], si_const 1, si_go 28 [false, false]]
def bX8_isLetter_27 : List sx_S := [si_const 0, si_go 28 [false, false]]
def bX8_isLetter_28 : List sx_S := [si_rz]
def BX8_isLetter : Nat → List sx_S := fun pc => if pc = 0 then bX8_isLetter_0 else if pc = 27 then bX8_isLetter_27 else if pc = 28 then bX8_isLetter_28 else []
set_option maxRecDepth 20000 in
theorem kX8_isLetter_0 : sx_BK sx_tb yX8_isLetter.cls cX8_isLetter 2 (some .boolean) ({ frames := 0, cells := 0, slots := 0, locals := 0 } : Room) false false 0 (fun _ => 0) 0 (bX8_isLetter_0) := ⟨_, ⟨sn_aload_n dX8_isLetter_0 rfl, sm_al _⟩, ⟨_, ⟨sn_get (C := RX8) (T := TX8) (N := 23) dX8_isLetter_1 rfl zinX8 (Nat.le_of_ble_eq_true rfl) zw_3_198, sm_get _ _⟩, ⟨_, ⟨sn_if_ne dX8_isLetter_4 (by decide +kernel) rfl, sm_if1 _ _ _⟩, ⟨_, ⟨sn_aload_n dX8_isLetter_7 rfl, sm_al _⟩, ⟨_, ⟨sn_get (C := RX8) (T := TX8) (N := 23) dX8_isLetter_8 rfl zinX8 (Nat.le_of_ble_eq_true rfl) zw_3_196, sm_get _ _⟩, ⟨_, ⟨sn_iconst dX8_isLetter_11 (by decide +kernel), sm_const _⟩, ⟨_, ⟨sn_ic_ne dX8_isLetter_12 (by decide +kernel) rfl, sm_if2 _ _ _⟩, ⟨_, ⟨sn_aload_n dX8_isLetter_15 rfl, sm_al _⟩, ⟨_, ⟨sn_get (C := RX8) (T := TX8) (N := 23) dX8_isLetter_16 rfl zinX8 (Nat.le_of_ble_eq_true rfl) zw_3_197, sm_get _ _⟩, ⟨_, ⟨sn_iload_n dX8_isLetter_19 rfl, sm_il _⟩, ⟨_, ⟨sn_ic_ne dX8_isLetter_20 (by decide +kernel) rfl, sm_if2 _ _ _⟩, ⟨_, ⟨sn_iconst dX8_isLetter_23 (by decide +kernel), sm_const _⟩, ⟨_, ⟨sn_goto (len := 3) dX8_isLetter_24 (by decide +kernel) rfl, sm_go _ _⟩, trivial⟩⟩⟩⟩⟩⟩⟩⟩⟩⟩⟩⟩⟩
set_option maxRecDepth 20000 in
theorem kX8_isLetter_27 : sx_BK sx_tb yX8_isLetter.cls cX8_isLetter 2 (some .boolean) ({ frames := 0, cells := 0, slots := 0, locals := 0 } : Room) false false 0 (fun _ => 0) 27 (bX8_isLetter_27) := ⟨_, ⟨sn_iconst dX8_isLetter_27 (by decide +kernel), sm_const _⟩, ⟨_, ⟨sn_fall (len := 0) rfl rfl, sm_go _ _⟩, trivial⟩⟩
set_option maxRecDepth 20000 in
theorem kX8_isLetter_28 : sx_BK sx_tb yX8_isLetter.cls cX8_isLetter 2 (some .boolean) ({ frames := 0, cells := 0, slots := 0, locals := 0 } : Room) false false 0 (fun _ => 0) 28 (bX8_isLetter_28) := ⟨_, ⟨sn_rz (len := 1) dX8_isLetter_28 rfl, sm_rz⟩, trivial⟩
theorem kX8_isLetter : ∀ pc, sx_BK sx_tb yX8_isLetter.cls cX8_isLetter 2 (some .boolean) ({ frames := 0, cells := 0, slots := 0, locals := 0 } : Room) false false 0 (fun _ => 0) pc (BX8_isLetter pc) := fun pc => sx_bk_if (kX8_isLetter_0) (sx_bk_if (kX8_isLetter_27) (sx_bk_if (kX8_isLetter_28) (trivial)))
theorem okX8_isLetter : sx_ok sx_tb BX8_isLetter (yX8_isLetter, cX8_isLetter, 2, some .boolean, { frames := 0, cells := 0, slots := 0, locals := 0 }) := ⟨by decide, by decide +kernel, false, (fun h => by cases h), kX8_isLetter⟩
theorem dX8_number_0 : decode cX8_number 0 = .ok (.aload_n 0, 1) := by decide +kernel
theorem dX8_number_1 : decode cX8_number 1 = .ok (.getfield 75, 3) := by decide +kernel
theorem dX8_number_4 : decode cX8_number 4 = .ok (.ifCond .ne 16, 3) := by decide +kernel
theorem dX8_number_7 : decode cX8_number 7 = .ok (.aload_n 0, 1) := by decide +kernel
theorem dX8_number_8 : decode cX8_number 8 = .ok (.getfield 99, 3) := by decide +kernel
theorem dX8_number_11 : decode cX8_number 11 = .ok (.iconst 3, 1) := by decide +kernel
theorem dX8_number_12 : decode cX8_number 12 = .ok (.if_icmp .eq 8, 3) := by decide +kernel
theorem dX8_number_15 : decode cX8_number 15 = .ok (.aload_n 0, 1) := by decide +kernel
theorem dX8_number_16 : decode cX8_number 16 = .ok (.iconst 1, 1) := by decide +kernel
theorem dX8_number_17 : decode cX8_number 17 = .ok (.invokevirtual 102, 3) := by decide +kernel
theorem dX8_number_20 : decode cX8_number 20 = .ok (.aload_n 0, 1) := by decide +kernel
theorem dX8_number_21 : decode cX8_number 21 = .ok (.getfield 75, 3) := by decide +kernel
theorem dX8_number_24 : decode cX8_number 24 = .ok (.ifCond .ne 23, 3) := by decide +kernel
theorem dX8_number_27 : decode cX8_number 27 = .ok (.aload_n 0, 1) := by decide +kernel
theorem dX8_number_28 : decode cX8_number 28 = .ok (.getfield 88, 3) := by decide +kernel
theorem dX8_number_31 : decode cX8_number 31 = .ok (.i2l, 1) := by decide +kernel
theorem dX8_number_32 : decode cX8_number 32 = .ok (.iload_n 1, 1) := by decide +kernel
theorem dX8_number_33 : decode cX8_number 33 = .ok (.i2l, 1) := by decide +kernel
theorem dX8_number_34 : decode cX8_number 34 = .ok (.iload_n 2, 1) := by decide +kernel
theorem dX8_number_35 : decode cX8_number 35 = .ok (.i2l, 1) := by decide +kernel
theorem dX8_number_36 : decode cX8_number 36 = .ok (.invokestatic 54, 3) := by decide +kernel
theorem dX8_number_39 : decode cX8_number 39 = .ok (.ifCond .ne 8, 3) := by decide +kernel
theorem dX8_number_42 : decode cX8_number 42 = .ok (.aload_n 0, 1) := by decide +kernel
theorem dX8_number_43 : decode cX8_number 43 = .ok (.iconst 2, 1) := by decide +kernel
theorem dX8_number_44 : decode cX8_number 44 = .ok (.invokevirtual 102, 3) := by decide +kernel
theorem dX8_number_47 : decode cX8_number 47 = .ok (.aload_n 0, 1) := by decide +kernel
theorem dX8_number_48 : decode cX8_number 48 = .ok (.getfield 75, 3) := by decide +kernel
theorem dX8_number_51 : decode cX8_number 51 = .ok (.ifCond .ne 10, 3) := by decide +kernel
theorem dX8_number_54 : decode cX8_number 54 = .ok (.aload_n 0, 1) := by decide +kernel
theorem dX8_number_55 : decode cX8_number 55 = .ok (.getfield 88, 3) := by decide +kernel
theorem dX8_number_58 : decode cX8_number 58 = .ok (.goto 4, 3) := by decide +kernel
theorem dX8_number_61 : decode cX8_number 61 = .ok (.iload_n 1, 1) := by decide +kernel
theorem dX8_number_62 : decode cX8_number 62 = .ok (.istore_n 3, 1) := by decide +kernel
theorem dX8_number_63 : decode cX8_number 63 = .ok (.aload_n 0, 1) := by decide +kernel
theorem dX8_number_64 : decode cX8_number 64 = .ok (.iconst 1, 1) := by decide +kernel
theorem dX8_number_65 : decode cX8_number 65 = .ok (.invokevirtual 109, 3) := by decide +kernel
theorem dX8_number_68 : decode cX8_number 68 = .ok (.iload_n 3, 1) := by decide +kernel
theorem dX8_number_69 : decode cX8_number 69 = .ok (.ireturn, 1) := by decide +kernel
def bX8_number_0 : List sx_S := [si_al 0, si_get 7 16, si_if1 (fun x => ¬ x = 0) 20 [true, true, true, false], si_al 0, si_get 7 14, si_const (nI 3), si_if2 (fun x y => x = y) 20 [true, true, true, false], si_al 0, si_const 1, si_cv 7 132 1 0 0 0 0, si_go 20 [true, true, true, false]]
def bX8_number_20 : List sx_S := [si_al 0, si_get 7 16, si_if1 (fun x => ¬ x = 0) 47 [true, true, false, false], si_al 0, si_get 7 15, si_i2l, si_il 1, si_i2l, si_il 2, si_i2l, si_cs 124 3 0 0 0 0, si_if1 (fun x => ¬ x = 0) 47 [true, true, false, false], si_al 0, si_const (nI 2), si_cv 7 132 1 0 0 0 0, si_go 47 [true, true, false, false]]
def bX8_number_47 : List sx_S := [si_al 0, si_get 7 16, si_if1 (fun x => ¬ x = 0) 61 [true, true, false, false], si_al 0, si_get 7 15, si_go 62 [true, false, false, false]]
def bX8_number_61 : List sx_S := [si_il 1, si_go 62 [true, false, false, false]]
def bX8_number_62 : List sx_S := [si_is 3, si_al 0, si_const 1, si_cv 7 134 1 0 0 0 0, si_il 3, si_ri]
def BX8_number : Nat → List sx_S := fun pc => if pc = 0 then bX8_number_0 else if pc = 20 then bX8_number_20 else if pc = 47 then bX8_number_47 else if pc = 61 then bX8_number_61 else if pc = 62 then bX8_number_62 else []
set_option maxRecDepth 20000 in
theorem kX8_number_0 : sx_BK sx_tb yX8_number.cls cX8_number 4 (some .int) ({ frames := 3, cells := 0, slots := 0, locals := 66 } : Room) false false 0 (fun _ => 0) 0 (bX8_number_0) := ⟨_, ⟨sn_aload_n dX8_number_0 rfl, sm_al _⟩, ⟨_, ⟨sn_get (C := RX8) (T := TX8) (N := 23) dX8_number_1 rfl zinX8 (Nat.le_of_ble_eq_true rfl) zw_3_198, sm_get _ _⟩, ⟨_, ⟨sn_if_ne dX8_number_4 (by decide +kernel) rfl, sm_if1 _ _ _⟩, ⟨_, ⟨sn_aload_n dX8_number_7 rfl, sm_al _⟩, ⟨_, ⟨sn_get (C := RX8) (T := TX8) (N := 23) dX8_number_8 rfl zinX8 (Nat.le_of_ble_eq_true rfl) zw_3_196, sm_get _ _⟩, ⟨_, ⟨sn_iconst dX8_number_11 (by decide +kernel), sm_const _⟩, ⟨_, ⟨sn_ic_eq dX8_number_12 (by decide +kernel) rfl, sm_if2 _ _ _⟩, ⟨_, ⟨sn_aload_n dX8_number_15 rfl, sm_al _⟩, ⟨_, ⟨sn_iconst dX8_number_16 (by decide +kernel), sm_const _⟩, ⟨_, ⟨sn_cv_v (N := 23) (T := TX8) ztb_X8_bad dX8_number_17 rfl rfl zw_4_78 zw_4_80 zw_0_39 zw_1_8 zw_4_81 zmh_X8 zpd_X8_bad (Nat.le_of_ble_eq_true rfl) (Nat.le_of_ble_eq_true rfl) rfl rfl, sm_cv _ _ _ _ _ _ _⟩, ⟨_, ⟨sn_fall (len := 0) rfl rfl, sm_go _ _⟩, trivial⟩⟩⟩⟩⟩⟩⟩⟩⟩⟩⟩
set_option maxRecDepth 20000 in
theorem kX8_number_20 : sx_BK sx_tb yX8_number.cls cX8_number 4 (some .int) ({ frames := 3, cells := 0, slots := 0, locals := 66 } : Room) false false 0 (fun _ => 0) 20 (bX8_number_20) := ⟨_, ⟨sn_aload_n dX8_number_20 rfl, sm_al _⟩, ⟨_, ⟨sn_get (C := RX8) (T := TX8) (N := 23) dX8_number_21 rfl zinX8 (Nat.le_of_ble_eq_true rfl) zw_3_198, sm_get _ _⟩, ⟨_, ⟨sn_if_ne dX8_number_24 (by decide +kernel) rfl, sm_if1 _ _ _⟩, ⟨_, ⟨sn_aload_n dX8_number_27 rfl, sm_al _⟩, ⟨_, ⟨sn_get (C := RX8) (T := TX8) (N := 23) dX8_number_28 rfl zinX8 (Nat.le_of_ble_eq_true rfl) zw_3_197, sm_get _ _⟩, ⟨_, ⟨sn_i2l dX8_number_31, sm_i2l⟩, ⟨_, ⟨sn_iload_n dX8_number_32 rfl, sm_il _⟩, ⟨_, ⟨sn_i2l dX8_number_33, sm_i2l⟩, ⟨_, ⟨sn_iload_n dX8_number_34 rfl, sm_il _⟩, ⟨_, ⟨sn_i2l dX8_number_35, sm_i2l⟩, ⟨_, ⟨sn_cs_z ztb_X8_in dX8_number_36 zw_4_21 zw_4_22 zw_1_8 zw_4_23 zmh_X8 zpd_X8_in (Nat.le_of_ble_eq_true rfl) (Nat.le_of_ble_eq_true rfl) rfl rfl, sm_cs _ _ _ _ _ _⟩, ⟨_, ⟨sn_if_ne dX8_number_39 (by decide +kernel) rfl, sm_if1 _ _ _⟩, ⟨_, ⟨sn_aload_n dX8_number_42 rfl, sm_al _⟩, ⟨_, ⟨sn_iconst dX8_number_43 (by decide +kernel), sm_const _⟩, ⟨_, ⟨sn_cv_v (N := 23) (T := TX8) ztb_X8_bad dX8_number_44 rfl rfl zw_4_78 zw_4_80 zw_0_39 zw_1_8 zw_4_81 zmh_X8 zpd_X8_bad (Nat.le_of_ble_eq_true rfl) (Nat.le_of_ble_eq_true rfl) rfl rfl, sm_cv _ _ _ _ _ _ _⟩, ⟨_, ⟨sn_fall (len := 0) rfl rfl, sm_go _ _⟩, trivial⟩⟩⟩⟩⟩⟩⟩⟩⟩⟩⟩⟩⟩⟩⟩⟩
set_option maxRecDepth 20000 in
theorem kX8_number_47 : sx_BK sx_tb yX8_number.cls cX8_number 4 (some .int) ({ frames := 3, cells := 0, slots := 0, locals := 66 } : Room) false false 0 (fun _ => 0) 47 (bX8_number_47) := ⟨_, ⟨sn_aload_n dX8_number_47 rfl, sm_al _⟩, ⟨_, ⟨sn_get (C := RX8) (T := TX8) (N := 23) dX8_number_48 rfl zinX8 (Nat.le_of_ble_eq_true rfl) zw_3_198, sm_get _ _⟩, ⟨_, ⟨sn_if_ne dX8_number_51 (by decide +kernel) rfl, sm_if1 _ _ _⟩, ⟨_, ⟨sn_aload_n dX8_number_54 rfl, sm_al _⟩, ⟨_, ⟨sn_get (C := RX8) (T := TX8) (N := 23) dX8_number_55 rfl zinX8 (Nat.le_of_ble_eq_true rfl) zw_3_197, sm_get _ _⟩, ⟨_, ⟨sn_goto (len := 3) dX8_number_58 (by decide +kernel) rfl, sm_go _ _⟩, trivial⟩⟩⟩⟩⟩⟩
set_option maxRecDepth 20000 in
theorem kX8_number_61 : sx_BK sx_tb yX8_number.cls cX8_number 4 (some .int) ({ frames := 3, cells := 0, slots := 0, locals := 66 } : Room) false false 0 (fun _ => 0) 61 (bX8_number_61) := ⟨_, ⟨sn_iload_n dX8_number_61 rfl, sm_il _⟩, ⟨_, ⟨sn_fall (len := 0) rfl rfl, sm_go _ _⟩, trivial⟩⟩
set_option maxRecDepth 20000 in
theorem kX8_number_62 : sx_BK sx_tb yX8_number.cls cX8_number 4 (some .int) ({ frames := 3, cells := 0, slots := 0, locals := 66 } : Room) false false 0 (fun _ => 0) 62 (bX8_number_62) := ⟨_, ⟨sn_istore_n dX8_number_62 rfl (Nat.le_of_ble_eq_true rfl), sm_is _⟩, ⟨_, ⟨sn_aload_n dX8_number_63 rfl, sm_al _⟩, ⟨_, ⟨sn_iconst dX8_number_64 (by decide +kernel), sm_const _⟩, ⟨_, ⟨sn_cv_v (N := 23) (T := TX8) ztb_X8_must dX8_number_65 rfl rfl zw_4_74 zw_4_76 zw_0_38 zw_1_8 zw_4_77 zmh_X8 zpd_X8_must (Nat.le_of_ble_eq_true rfl) (Nat.le_of_ble_eq_true rfl) rfl rfl, sm_cv _ _ _ _ _ _ _⟩, ⟨_, ⟨sn_iload_n dX8_number_68 rfl, sm_il _⟩, ⟨_, ⟨sn_ri (len := 1) dX8_number_69 rfl, sm_ri⟩, trivial⟩⟩⟩⟩⟩⟩
theorem kX8_number : ∀ pc, sx_BK sx_tb yX8_number.cls cX8_number 4 (some .int) ({ frames := 3, cells := 0, slots := 0, locals := 66 } : Room) false false 0 (fun _ => 0) pc (BX8_number pc) := fun pc => sx_bk_if (kX8_number_0) (sx_bk_if (kX8_number_20) (sx_bk_if (kX8_number_47) (sx_bk_if (kX8_number_61) (sx_bk_if (kX8_number_62) (trivial)))))
theorem okX8_number : sx_ok sx_tb BX8_number (yX8_number, cX8_number, 4, some .int, { frames := 3, cells := 0, slots := 0, locals := 66 }) := ⟨by decide, by decide +kernel, false, (fun h => by cases h), kX8_number⟩
theorem dX8_mustSign_0 : decode cX8_mustSign 0 = .ok (.aload_n 0, 1) := by decide +kernel
theorem dX8_mustSign_1 : decode cX8_mustSign 1 = .ok (.aload_n 0, 1) := by decide +kernel
theorem dX8_mustSign_2 : decode cX8_mustSign 2 = .ok (.getfield 99, 3) := by decide +kernel
theorem dX8_mustSign_5 : decode cX8_mustSign 5 = .ok (.iconst 4, 1) := by decide +kernel
theorem dX8_mustSign_6 : decode cX8_mustSign 6 = .ok (.if_icmp .ne 15, 3) := by decide +kernel
theorem dX8_mustSign_9 : decode cX8_mustSign 9 = .ok (.aload_n 0, 1) := by decide +kernel
theorem dX8_mustSign_10 : decode cX8_mustSign 10 = .ok (.getfield 88, 3) := by decide +kernel
theorem dX8_mustSign_13 : decode cX8_mustSign 13 = .ok (.iload_n 1, 1) := by decide +kernel
theorem dX8_mustSign_14 : decode cX8_mustSign 14 = .ok (.if_icmp .ne 7, 3) := by decide +kernel
theorem dX8_mustSign_17 : decode cX8_mustSign 17 = .ok (.iconst 1, 1) := by decide +kernel
theorem dX8_mustSign_18 : decode cX8_mustSign 18 = .ok (.goto 4, 3) := by decide +kernel
theorem dX8_mustSign_21 : decode cX8_mustSign 21 = .ok (.iconst 0, 1) := by decide +kernel
theorem dX8_mustSign_22 : decode cX8_mustSign 22 = .ok (.invokevirtual 109, 3) := by decide +kernel
theorem dX8_mustSign_25 : decode cX8_mustSign 25 = .ok (.return_, 1) := by decide +kernel
def bX8_mustSign_0 : List sx_S := [si_al 0, si_al 0, si_get 7 14, si_const (nI 4), si_if2 (fun x y => ¬ x = y) 21 [false, false], si_al 0, si_get 7 15, si_il 1, si_if2 (fun x y => ¬ x = y) 21 [false, false], si_const 1, si_go 22 [false, false]]
def bX8_mustSign_21 : List sx_S := [si_const 0, si_go 22 [false, false]]
def bX8_mustSign_22 : List sx_S := [si_cv 7 134 1 0 0 0 0, si_rv]
def BX8_mustSign : Nat → List sx_S := fun pc => if pc = 0 then bX8_mustSign_0 else if pc = 21 then bX8_mustSign_21 else if pc = 22 then bX8_mustSign_22 else []
set_option maxRecDepth 20000 in
theorem kX8_mustSign_0 : sx_BK sx_tb yX8_mustSign.cls cX8_mustSign 2 (none) ({ frames := 3, cells := 0, slots := 0, locals := 66 } : Room) false false 0 (fun _ => 0) 0 (bX8_mustSign_0) := ⟨_, ⟨sn_aload_n dX8_mustSign_0 rfl, sm_al _⟩, ⟨_, ⟨sn_aload_n dX8_mustSign_1 rfl, sm_al _⟩, ⟨_, ⟨sn_get (C := RX8) (T := TX8) (N := 23) dX8_mustSign_2 rfl zinX8 (Nat.le_of_ble_eq_true rfl) zw_3_196, sm_get _ _⟩, ⟨_, ⟨sn_iconst dX8_mustSign_5 (by decide +kernel), sm_const _⟩, ⟨_, ⟨sn_ic_ne dX8_mustSign_6 (by decide +kernel) rfl, sm_if2 _ _ _⟩, ⟨_, ⟨sn_aload_n dX8_mustSign_9 rfl, sm_al _⟩, ⟨_, ⟨sn_get (C := RX8) (T := TX8) (N := 23) dX8_mustSign_10 rfl zinX8 (Nat.le_of_ble_eq_true rfl) zw_3_197, sm_get _ _⟩, ⟨_, ⟨sn_iload_n dX8_mustSign_13 rfl, sm_il _⟩, ⟨_, ⟨sn_ic_ne dX8_mustSign_14 (by decide +kernel) rfl, sm_if2 _ _ _⟩, ⟨_, ⟨sn_iconst dX8_mustSign_17 (by decide +kernel), sm_const _⟩, ⟨_, ⟨sn_goto (len := 3) dX8_mustSign_18 (by decide +kernel) rfl, sm_go _ _⟩, trivial⟩⟩⟩⟩⟩⟩⟩⟩⟩⟩⟩
set_option maxRecDepth 20000 in
theorem kX8_mustSign_21 : sx_BK sx_tb yX8_mustSign.cls cX8_mustSign 2 (none) ({ frames := 3, cells := 0, slots := 0, locals := 66 } : Room) false false 0 (fun _ => 0) 21 (bX8_mustSign_21) := ⟨_, ⟨sn_iconst dX8_mustSign_21 (by decide +kernel), sm_const _⟩, ⟨_, ⟨sn_fall (len := 0) rfl rfl, sm_go _ _⟩, trivial⟩⟩
set_option maxRecDepth 20000 in
theorem kX8_mustSign_22 : sx_BK sx_tb yX8_mustSign.cls cX8_mustSign 2 (none) ({ frames := 3, cells := 0, slots := 0, locals := 66 } : Room) false false 0 (fun _ => 0) 22 (bX8_mustSign_22) := ⟨_, ⟨sn_cv_v (N := 23) (T := TX8) ztb_X8_must dX8_mustSign_22 rfl rfl zw_4_74 zw_4_76 zw_0_38 zw_1_8 zw_4_77 zmh_X8 zpd_X8_must (Nat.le_of_ble_eq_true rfl) (Nat.le_of_ble_eq_true rfl) rfl rfl, sm_cv _ _ _ _ _ _ _⟩, ⟨_, ⟨sn_rv (len := 1) dX8_mustSign_25 rfl, sm_rv⟩, trivial⟩⟩
theorem kX8_mustSign : ∀ pc, sx_BK sx_tb yX8_mustSign.cls cX8_mustSign 2 (none) ({ frames := 3, cells := 0, slots := 0, locals := 66 } : Room) false false 0 (fun _ => 0) pc (BX8_mustSign pc) := fun pc => sx_bk_if (kX8_mustSign_0) (sx_bk_if (kX8_mustSign_21) (sx_bk_if (kX8_mustSign_22) (trivial)))
theorem okX8_mustSign : sx_ok sx_tb BX8_mustSign (yX8_mustSign, cX8_mustSign, 2, none, { frames := 3, cells := 0, slots := 0, locals := 66 }) := ⟨by decide, by decide +kernel, false, (fun h => by cases h), kX8_mustSign⟩
theorem dX8_begin_0 : decode cX8_begin 0 = .ok (.aload_n 0, 1) := by decide +kernel
theorem dX8_begin_1 : decode cX8_begin 1 = .ok (.iconst 0, 1) := by decide +kernel
theorem dX8_begin_2 : decode cX8_begin 2 = .ok (.putfield 84, 3) := by decide +kernel
theorem dX8_begin_5 : decode cX8_begin 5 = .ok (.aload_n 0, 1) := by decide +kernel
theorem dX8_begin_6 : decode cX8_begin 6 = .ok (.iconst 0, 1) := by decide +kernel
theorem dX8_begin_7 : decode cX8_begin 7 = .ok (.putfield 75, 3) := by decide +kernel
theorem dX8_begin_10 : decode cX8_begin 10 = .ok (.aload_n 0, 1) := by decide +kernel
theorem dX8_begin_11 : decode cX8_begin 11 = .ok (.invokevirtual 106, 3) := by decide +kernel
theorem dX8_begin_14 : decode cX8_begin 14 = .ok (.return_, 1) := by decide +kernel
def bX8_begin_0 : List sx_S := [si_al 0, si_const 0, si_put 7 12 0, si_al 0, si_const 0, si_put 7 16 0, si_al 0, si_cv 7 133 0 0 0 0 0, si_rv]
def BX8_begin : Nat → List sx_S := fun pc => if pc = 0 then bX8_begin_0 else []
set_option maxRecDepth 20000 in
theorem kX8_begin_0 : sx_BK sx_tb yX8_begin.cls cX8_begin 1 (none) ({ frames := 2, cells := 0, slots := 0, locals := 45 } : Room) false false 0 (fun _ => 0) 0 (bX8_begin_0) := ⟨_, ⟨sn_aload_n dX8_begin_0 rfl, sm_al _⟩, ⟨_, ⟨sn_iconst dX8_begin_1 (by decide +kernel), sm_const _⟩, ⟨_, ⟨sn_put (C := RX8) (T := TX8) (N := 23) dX8_begin_2 rfl zinX8 tyX8_ok nmX8 (Nat.le_of_ble_eq_true rfl) zw_3_194 rfl (tyX8_ok 12 (Nat.le_of_ble_eq_true rfl)) trivial, sm_put _ _ _⟩, ⟨_, ⟨sn_aload_n dX8_begin_5 rfl, sm_al _⟩, ⟨_, ⟨sn_iconst dX8_begin_6 (by decide +kernel), sm_const _⟩, ⟨_, ⟨sn_put (C := RX8) (T := TX8) (N := 23) dX8_begin_7 rfl zinX8 tyX8_ok nmX8 (Nat.le_of_ble_eq_true rfl) zw_3_198 rfl (tyX8_ok 16 (Nat.le_of_ble_eq_true rfl)) trivial, sm_put _ _ _⟩, ⟨_, ⟨sn_aload_n dX8_begin_10 rfl, sm_al _⟩, ⟨_, ⟨sn_cv_v (N := 23) (T := TX8) ztb_X8_nextToken dX8_begin_11 rfl rfl zw_4_61 zw_4_63 zw_0_36 zw_1_8 zw_4_64 zmh_X8 zpd_X8_nextToken (Nat.le_of_ble_eq_true rfl) (Nat.le_of_ble_eq_true rfl) rfl rfl, sm_cv _ _ _ _ _ _ _⟩, ⟨_, ⟨sn_rv (len := 1) dX8_begin_14 rfl, sm_rv⟩, trivial⟩⟩⟩⟩⟩⟩⟩⟩⟩
theorem kX8_begin : ∀ pc, sx_BK sx_tb yX8_begin.cls cX8_begin 1 (none) ({ frames := 2, cells := 0, slots := 0, locals := 45 } : Room) false false 0 (fun _ => 0) pc (BX8_begin pc) := fun pc => sx_bk_if (kX8_begin_0) (trivial)
theorem okX8_begin : sx_ok sx_tb BX8_begin (yX8_begin, cX8_begin, 1, none, { frames := 2, cells := 0, slots := 0, locals := 45 }) := ⟨by decide, by decide +kernel, false, (fun h => by cases h), kX8_begin⟩
theorem dX8_failed_0 : decode cX8_failed 0 = .ok (.aload_n 0, 1) := by decide +kernel
theorem dX8_failed_1 : decode cX8_failed 1 = .ok (.getfield 75, 3) := by decide +kernel
theorem dX8_failed_4 : decode cX8_failed 4 = .ok (.ifCond .ne 16, 3) := by decide +kernel
theorem dX8_failed_7 : decode cX8_failed 7 = .ok (.aload_n 0, 1) := by decide +kernel
theorem dX8_failed_8 : decode cX8_failed 8 = .ok (.getfield 99, 3) := by decide +kernel
theorem dX8_failed_11 : decode cX8_failed 11 = .ok (.iconst 1, 1) := by decide +kernel
theorem dX8_failed_12 : decode cX8_failed 12 = .ok (.if_icmp .eq 8, 3) := by decide +kernel
theorem dX8_failed_15 : decode cX8_failed 15 = .ok (.aload_n 0, 1) := by decide +kernel
theorem dX8_failed_16 : decode cX8_failed 16 = .ok (.iconst 1, 1) := by decide +kernel
theorem dX8_failed_17 : decode cX8_failed 17 = .ok (.invokevirtual 102, 3) := by decide +kernel
theorem dX8_failed_20 : decode cX8_failed 20 = .ok (.aload_n 0, 1) := by decide +kernel
theorem dX8_failed_21 : decode cX8_failed 21 = .ok (.iconst 0, 1) := by decide +kernel
theorem dX8_failed_22 : decode cX8_failed 22 = .ok (.putfield 71, 3) := by decide +kernel
theorem dX8_failed_25 : decode cX8_failed 25 = .ok (.aload_n 0, 1) := by decide +kernel
theorem dX8_failed_26 : decode cX8_failed 26 = .ok (.aload_n 0, 1) := by decide +kernel
theorem dX8_failed_27 : decode cX8_failed 27 = .ok (.getfield 75, 3) := by decide +kernel
theorem dX8_failed_30 : decode cX8_failed 30 = .ok (.ifCond .le 10, 3) := by decide +kernel
theorem dX8_failed_33 : decode cX8_failed 33 = .ok (.aload_n 0, 1) := by decide +kernel
theorem dX8_failed_34 : decode cX8_failed 34 = .ok (.getfield 75, 3) := by decide +kernel
theorem dX8_failed_37 : decode cX8_failed 37 = .ok (.goto 7, 3) := by decide +kernel
theorem dX8_failed_40 : decode cX8_failed 40 = .ok (.aload_n 0, 1) := by decide +kernel
theorem dX8_failed_41 : decode cX8_failed 41 = .ok (.getfield 113, 3) := by decide +kernel
theorem dX8_failed_44 : decode cX8_failed 44 = .ok (.putfield 113, 3) := by decide +kernel
theorem dX8_failed_47 : decode cX8_failed 47 = .ok (.aload_n 0, 1) := by decide +kernel
theorem dX8_failed_48 : decode cX8_failed 48 = .ok (.getfield 75, 3) := by decide +kernel
theorem dX8_failed_51 : decode cX8_failed 51 = .ok (.ifCond .le 7, 3) := by decide +kernel
theorem dX8_failed_54 : decode cX8_failed 54 = .ok (.iconst 1, 1) := by decide +kernel
theorem dX8_failed_55 : decode cX8_failed 55 = .ok (.goto 4, 3) := by decide +kernel
theorem dX8_failed_58 : decode cX8_failed 58 = .ok (.iconst 0, 1) := by decide +kernel
theorem dX8_failed_59 : decode cX8_failed 59 = .ok (.ireturn, 1) := by decide +kernel
def bX8_failed_0 : List sx_S := [si_al 0, si_get 7 16, si_if1 (fun x => ¬ x = 0) 20 [true], si_al 0, si_get 7 14, si_const 1, si_if2 (fun x y => x = y) 20 [true], si_al 0, si_const 1, si_cv 7 132 1 0 0 0 0, si_go 20 [true]]
def bX8_failed_20 : List sx_S := [si_al 0, si_const 0, si_put 7 11 0, si_al 0, si_al 0, si_get 7 16, si_if1 (fun x => x ≤ 0) 40 [true], si_al 0, si_get 7 16, si_go 44 [true]]
def bX8_failed_40 : List sx_S := [si_al 0, si_get 7 18, si_go 44 [true]]
def bX8_failed_44 : List sx_S := [si_put 7 18 0, si_al 0, si_get 7 16, si_if1 (fun x => x ≤ 0) 58 [false], si_const 1, si_go 59 [false]]
def bX8_failed_58 : List sx_S := [si_const 0, si_go 59 [false]]
def bX8_failed_59 : List sx_S := [si_rz]
def BX8_failed : Nat → List sx_S := fun pc => if pc = 0 then bX8_failed_0 else if pc = 20 then bX8_failed_20 else if pc = 40 then bX8_failed_40 else if pc = 44 then bX8_failed_44 else if pc = 58 then bX8_failed_58 else if pc = 59 then bX8_failed_59 else []
set_option maxRecDepth 20000 in
theorem kX8_failed_0 : sx_BK sx_tb yX8_failed.cls cX8_failed 1 (some .boolean) ({ frames := 1, cells := 0, slots := 0, locals := 21 } : Room) false false 0 (fun _ => 0) 0 (bX8_failed_0) := ⟨_, ⟨sn_aload_n dX8_failed_0 rfl, sm_al _⟩, ⟨_, ⟨sn_get (C := RX8) (T := TX8) (N := 23) dX8_failed_1 rfl zinX8 (Nat.le_of_ble_eq_true rfl) zw_3_198, sm_get _ _⟩, ⟨_, ⟨sn_if_ne dX8_failed_4 (by decide +kernel) rfl, sm_if1 _ _ _⟩, ⟨_, ⟨sn_aload_n dX8_failed_7 rfl, sm_al _⟩, ⟨_, ⟨sn_get (C := RX8) (T := TX8) (N := 23) dX8_failed_8 rfl zinX8 (Nat.le_of_ble_eq_true rfl) zw_3_196, sm_get _ _⟩, ⟨_, ⟨sn_iconst dX8_failed_11 (by decide +kernel), sm_const _⟩, ⟨_, ⟨sn_ic_eq dX8_failed_12 (by decide +kernel) rfl, sm_if2 _ _ _⟩, ⟨_, ⟨sn_aload_n dX8_failed_15 rfl, sm_al _⟩, ⟨_, ⟨sn_iconst dX8_failed_16 (by decide +kernel), sm_const _⟩, ⟨_, ⟨sn_cv_v (N := 23) (T := TX8) ztb_X8_bad dX8_failed_17 rfl rfl zw_4_78 zw_4_80 zw_0_39 zw_1_8 zw_4_81 zmh_X8 zpd_X8_bad (Nat.le_of_ble_eq_true rfl) (Nat.le_of_ble_eq_true rfl) rfl rfl, sm_cv _ _ _ _ _ _ _⟩, ⟨_, ⟨sn_fall (len := 0) rfl rfl, sm_go _ _⟩, trivial⟩⟩⟩⟩⟩⟩⟩⟩⟩⟩⟩
set_option maxRecDepth 20000 in
theorem kX8_failed_20 : sx_BK sx_tb yX8_failed.cls cX8_failed 1 (some .boolean) ({ frames := 1, cells := 0, slots := 0, locals := 21 } : Room) false false 0 (fun _ => 0) 20 (bX8_failed_20) := ⟨_, ⟨sn_aload_n dX8_failed_20 rfl, sm_al _⟩, ⟨_, ⟨sn_iconst dX8_failed_21 (by decide +kernel), sm_const _⟩, ⟨_, ⟨sn_put (C := RX8) (T := TX8) (N := 23) dX8_failed_22 rfl zinX8 tyX8_ok nmX8 (Nat.le_of_ble_eq_true rfl) zw_3_193 rfl (tyX8_ok 11 (Nat.le_of_ble_eq_true rfl)) trivial, sm_put _ _ _⟩, ⟨_, ⟨sn_aload_n dX8_failed_25 rfl, sm_al _⟩, ⟨_, ⟨sn_aload_n dX8_failed_26 rfl, sm_al _⟩, ⟨_, ⟨sn_get (C := RX8) (T := TX8) (N := 23) dX8_failed_27 rfl zinX8 (Nat.le_of_ble_eq_true rfl) zw_3_198, sm_get _ _⟩, ⟨_, ⟨sn_if_le dX8_failed_30 (by decide +kernel) rfl, sm_if1 _ _ _⟩, ⟨_, ⟨sn_aload_n dX8_failed_33 rfl, sm_al _⟩, ⟨_, ⟨sn_get (C := RX8) (T := TX8) (N := 23) dX8_failed_34 rfl zinX8 (Nat.le_of_ble_eq_true rfl) zw_3_198, sm_get _ _⟩, ⟨_, ⟨sn_goto (len := 3) dX8_failed_37 (by decide +kernel) rfl, sm_go _ _⟩, trivial⟩⟩⟩⟩⟩⟩⟩⟩⟩⟩
set_option maxRecDepth 20000 in
theorem kX8_failed_40 : sx_BK sx_tb yX8_failed.cls cX8_failed 1 (some .boolean) ({ frames := 1, cells := 0, slots := 0, locals := 21 } : Room) false false 0 (fun _ => 0) 40 (bX8_failed_40) := ⟨_, ⟨sn_aload_n dX8_failed_40 rfl, sm_al _⟩, ⟨_, ⟨sn_get (C := RX8) (T := TX8) (N := 23) dX8_failed_41 rfl zinX8 (Nat.le_of_ble_eq_true rfl) zw_3_200, sm_get _ _⟩, ⟨_, ⟨sn_fall (len := 0) rfl rfl, sm_go _ _⟩, trivial⟩⟩⟩
set_option maxRecDepth 20000 in
theorem kX8_failed_44 : sx_BK sx_tb yX8_failed.cls cX8_failed 1 (some .boolean) ({ frames := 1, cells := 0, slots := 0, locals := 21 } : Room) false false 0 (fun _ => 0) 44 (bX8_failed_44) := ⟨_, ⟨sn_put (C := RX8) (T := TX8) (N := 23) dX8_failed_44 rfl zinX8 tyX8_ok nmX8 (Nat.le_of_ble_eq_true rfl) zw_3_200 rfl (tyX8_ok 18 (Nat.le_of_ble_eq_true rfl)) trivial, sm_put _ _ _⟩, ⟨_, ⟨sn_aload_n dX8_failed_47 rfl, sm_al _⟩, ⟨_, ⟨sn_get (C := RX8) (T := TX8) (N := 23) dX8_failed_48 rfl zinX8 (Nat.le_of_ble_eq_true rfl) zw_3_198, sm_get _ _⟩, ⟨_, ⟨sn_if_le dX8_failed_51 (by decide +kernel) rfl, sm_if1 _ _ _⟩, ⟨_, ⟨sn_iconst dX8_failed_54 (by decide +kernel), sm_const _⟩, ⟨_, ⟨sn_goto (len := 3) dX8_failed_55 (by decide +kernel) rfl, sm_go _ _⟩, trivial⟩⟩⟩⟩⟩⟩
set_option maxRecDepth 20000 in
theorem kX8_failed_58 : sx_BK sx_tb yX8_failed.cls cX8_failed 1 (some .boolean) ({ frames := 1, cells := 0, slots := 0, locals := 21 } : Room) false false 0 (fun _ => 0) 58 (bX8_failed_58) := ⟨_, ⟨sn_iconst dX8_failed_58 (by decide +kernel), sm_const _⟩, ⟨_, ⟨sn_fall (len := 0) rfl rfl, sm_go _ _⟩, trivial⟩⟩
set_option maxRecDepth 20000 in
theorem kX8_failed_59 : sx_BK sx_tb yX8_failed.cls cX8_failed 1 (some .boolean) ({ frames := 1, cells := 0, slots := 0, locals := 21 } : Room) false false 0 (fun _ => 0) 59 (bX8_failed_59) := ⟨_, ⟨sn_rz (len := 1) dX8_failed_59 rfl, sm_rz⟩, trivial⟩
theorem kX8_failed : ∀ pc, sx_BK sx_tb yX8_failed.cls cX8_failed 1 (some .boolean) ({ frames := 1, cells := 0, slots := 0, locals := 21 } : Room) false false 0 (fun _ => 0) pc (BX8_failed pc) := fun pc => sx_bk_if (kX8_failed_0) (sx_bk_if (kX8_failed_20) (sx_bk_if (kX8_failed_40) (sx_bk_if (kX8_failed_44) (sx_bk_if (kX8_failed_58) (sx_bk_if (kX8_failed_59) (trivial))))))
theorem okX8_failed : sx_ok sx_tb BX8_failed (yX8_failed, cX8_failed, 1, some .boolean, { frames := 1, cells := 0, slots := 0, locals := 21 }) := ⟨by decide, by decide +kernel, false, (fun h => by cases h), kX8_failed⟩
theorem dX8_fault_0 : decode cX8_fault 0 = .ok (.aload_n 0, 1) := by decide +kernel
theorem dX8_fault_1 : decode cX8_fault 1 = .ok (.iconst 0, 1) := by decide +kernel
theorem dX8_fault_2 : decode cX8_fault 2 = .ok (.putfield 44, 3) := by decide +kernel
theorem dX8_fault_5 : decode cX8_fault 5 = .ok (.aload_n 0, 1) := by decide +kernel
theorem dX8_fault_6 : decode cX8_fault 6 = .ok (.getfield 113, 3) := by decide +kernel
theorem dX8_fault_9 : decode cX8_fault 9 = .ok (.ireturn, 1) := by decide +kernel
def bX8_fault_0 : List sx_S := [si_al 0, si_const 0, si_put 7 0 0, si_al 0, si_get 7 18, si_ri]
def BX8_fault : Nat → List sx_S := fun pc => if pc = 0 then bX8_fault_0 else []
set_option maxRecDepth 20000 in
theorem kX8_fault_0 : sx_BK sx_tb yX8_fault.cls cX8_fault 1 (some .int) ({ frames := 0, cells := 0, slots := 0, locals := 0 } : Room) false false 0 (fun _ => 0) 0 (bX8_fault_0) := ⟨_, ⟨sn_aload_n dX8_fault_0 rfl, sm_al _⟩, ⟨_, ⟨sn_iconst dX8_fault_1 (by decide +kernel), sm_const _⟩, ⟨_, ⟨sn_put (C := RX8) (T := TX8) (N := 23) dX8_fault_2 rfl zinX8 tyX8_ok nmX8 (Nat.le_of_ble_eq_true rfl) zw_3_182 rfl (tyX8_ok 0 (Nat.le_of_ble_eq_true rfl)) trivial, sm_put _ _ _⟩, ⟨_, ⟨sn_aload_n dX8_fault_5 rfl, sm_al _⟩, ⟨_, ⟨sn_get (C := RX8) (T := TX8) (N := 23) dX8_fault_6 rfl zinX8 (Nat.le_of_ble_eq_true rfl) zw_3_200, sm_get _ _⟩, ⟨_, ⟨sn_ri (len := 1) dX8_fault_9 rfl, sm_ri⟩, trivial⟩⟩⟩⟩⟩⟩
theorem kX8_fault : ∀ pc, sx_BK sx_tb yX8_fault.cls cX8_fault 1 (some .int) ({ frames := 0, cells := 0, slots := 0, locals := 0 } : Room) false false 0 (fun _ => 0) pc (BX8_fault pc) := fun pc => sx_bk_if (kX8_fault_0) (trivial)
theorem okX8_fault : sx_ok sx_tb BX8_fault (yX8_fault, cX8_fault, 1, some .int, { frames := 0, cells := 0, slots := 0, locals := 0 }) := ⟨by decide, by decide +kernel, false, (fun h => by cases h), kX8_fault⟩
theorem dX8_kindBy_0 : decode cX8_kindBy 0 = .ok (.iload_n 0, 1) := by decide +kernel
theorem dX8_kindBy_1 : decode cX8_kindBy 1 = .ok (.bipush 115, 2) := by decide +kernel
theorem dX8_kindBy_3 : decode cX8_kindBy 3 = .ok (.if_icmp .ne 7, 3) := by decide +kernel
theorem dX8_kindBy_6 : decode cX8_kindBy 6 = .ok (.iconst 1, 1) := by decide +kernel
theorem dX8_kindBy_7 : decode cX8_kindBy 7 = .ok (.goto 45, 3) := by decide +kernel
theorem dX8_kindBy_10 : decode cX8_kindBy 10 = .ok (.iload_n 0, 1) := by decide +kernel
theorem dX8_kindBy_11 : decode cX8_kindBy 11 = .ok (.bipush 114, 2) := by decide +kernel
theorem dX8_kindBy_13 : decode cX8_kindBy 13 = .ok (.if_icmp .ne 7, 3) := by decide +kernel
theorem dX8_kindBy_16 : decode cX8_kindBy 16 = .ok (.iconst 2, 1) := by decide +kernel
theorem dX8_kindBy_17 : decode cX8_kindBy 17 = .ok (.goto 35, 3) := by decide +kernel
theorem dX8_kindBy_20 : decode cX8_kindBy 20 = .ok (.iload_n 0, 1) := by decide +kernel
theorem dX8_kindBy_21 : decode cX8_kindBy 21 = .ok (.bipush 104, 2) := by decide +kernel
theorem dX8_kindBy_23 : decode cX8_kindBy 23 = .ok (.if_icmp .ne 7, 3) := by decide +kernel
theorem dX8_kindBy_26 : decode cX8_kindBy 26 = .ok (.iconst 3, 1) := by decide +kernel
theorem dX8_kindBy_27 : decode cX8_kindBy 27 = .ok (.goto 25, 3) := by decide +kernel
theorem dX8_kindBy_30 : decode cX8_kindBy 30 = .ok (.iload_n 0, 1) := by decide +kernel
theorem dX8_kindBy_31 : decode cX8_kindBy 31 = .ok (.bipush 116, 2) := by decide +kernel
theorem dX8_kindBy_33 : decode cX8_kindBy 33 = .ok (.if_icmp .ne 7, 3) := by decide +kernel
theorem dX8_kindBy_36 : decode cX8_kindBy 36 = .ok (.iconst 4, 1) := by decide +kernel
theorem dX8_kindBy_37 : decode cX8_kindBy 37 = .ok (.goto 15, 3) := by decide +kernel
theorem dX8_kindBy_40 : decode cX8_kindBy 40 = .ok (.iload_n 0, 1) := by decide +kernel
theorem dX8_kindBy_41 : decode cX8_kindBy 41 = .ok (.bipush 103, 2) := by decide +kernel
theorem dX8_kindBy_43 : decode cX8_kindBy 43 = .ok (.if_icmp .ne 7, 3) := by decide +kernel
theorem dX8_kindBy_46 : decode cX8_kindBy 46 = .ok (.iconst 5, 1) := by decide +kernel
theorem dX8_kindBy_47 : decode cX8_kindBy 47 = .ok (.goto 5, 3) := by decide +kernel
theorem dX8_kindBy_50 : decode cX8_kindBy 50 = .ok (.ldc 87, 2) := by decide +kernel
theorem dX8_kindBy_52 : decode cX8_kindBy 52 = .ok (.ireturn, 1) := by decide +kernel
def bX8_kindBy_0 : List sx_S := [si_il 0, si_const (nI 115), si_if2 (fun x y => ¬ x = y) 10 [true], si_const 1, si_go 52 [false]]
def bX8_kindBy_10 : List sx_S := [si_il 0, si_const (nI 114), si_if2 (fun x y => ¬ x = y) 20 [true], si_const (nI 2), si_go 52 [false]]
def bX8_kindBy_20 : List sx_S := [si_il 0, si_const (nI 104), si_if2 (fun x y => ¬ x = y) 30 [true], si_const (nI 3), si_go 52 [false]]
def bX8_kindBy_30 : List sx_S := [si_il 0, si_const (nI 116), si_if2 (fun x y => ¬ x = y) 40 [true], si_const (nI 4), si_go 52 [false]]
def bX8_kindBy_40 : List sx_S := [si_il 0, si_const (nI 103), si_if2 (fun x y => ¬ x = y) 50 [false], si_const (nI 5), si_go 52 [false]]
def bX8_kindBy_50 : List sx_S := [si_const (-1000000), si_go 52 [false]]
def bX8_kindBy_52 : List sx_S := [si_ri]
def BX8_kindBy : Nat → List sx_S := fun pc => if pc = 0 then bX8_kindBy_0 else if pc = 10 then bX8_kindBy_10 else if pc = 20 then bX8_kindBy_20 else if pc = 30 then bX8_kindBy_30 else if pc = 40 then bX8_kindBy_40 else if pc = 50 then bX8_kindBy_50 else if pc = 52 then bX8_kindBy_52 else []
set_option maxRecDepth 20000 in
theorem kX8_kindBy_0 : sx_BK sx_tb yX8_kindBy.cls cX8_kindBy 1 (some .int) ({ frames := 0, cells := 0, slots := 0, locals := 0 } : Room) false false 0 (fun _ => 0) 0 (bX8_kindBy_0) := ⟨_, ⟨sn_iload_n dX8_kindBy_0 rfl, sm_il _⟩, ⟨_, ⟨sn_bipush dX8_kindBy_1 (by decide +kernel), sm_const _⟩, ⟨_, ⟨sn_ic_ne dX8_kindBy_3 (by decide +kernel) rfl, sm_if2 _ _ _⟩, ⟨_, ⟨sn_iconst dX8_kindBy_6 (by decide +kernel), sm_const _⟩, ⟨_, ⟨sn_goto (len := 3) dX8_kindBy_7 (by decide +kernel) rfl, sm_go _ _⟩, trivial⟩⟩⟩⟩⟩
set_option maxRecDepth 20000 in
theorem kX8_kindBy_10 : sx_BK sx_tb yX8_kindBy.cls cX8_kindBy 1 (some .int) ({ frames := 0, cells := 0, slots := 0, locals := 0 } : Room) false false 0 (fun _ => 0) 10 (bX8_kindBy_10) := ⟨_, ⟨sn_iload_n dX8_kindBy_10 rfl, sm_il _⟩, ⟨_, ⟨sn_bipush dX8_kindBy_11 (by decide +kernel), sm_const _⟩, ⟨_, ⟨sn_ic_ne dX8_kindBy_13 (by decide +kernel) rfl, sm_if2 _ _ _⟩, ⟨_, ⟨sn_iconst dX8_kindBy_16 (by decide +kernel), sm_const _⟩, ⟨_, ⟨sn_goto (len := 3) dX8_kindBy_17 (by decide +kernel) rfl, sm_go _ _⟩, trivial⟩⟩⟩⟩⟩
set_option maxRecDepth 20000 in
theorem kX8_kindBy_20 : sx_BK sx_tb yX8_kindBy.cls cX8_kindBy 1 (some .int) ({ frames := 0, cells := 0, slots := 0, locals := 0 } : Room) false false 0 (fun _ => 0) 20 (bX8_kindBy_20) := ⟨_, ⟨sn_iload_n dX8_kindBy_20 rfl, sm_il _⟩, ⟨_, ⟨sn_bipush dX8_kindBy_21 (by decide +kernel), sm_const _⟩, ⟨_, ⟨sn_ic_ne dX8_kindBy_23 (by decide +kernel) rfl, sm_if2 _ _ _⟩, ⟨_, ⟨sn_iconst dX8_kindBy_26 (by decide +kernel), sm_const _⟩, ⟨_, ⟨sn_goto (len := 3) dX8_kindBy_27 (by decide +kernel) rfl, sm_go _ _⟩, trivial⟩⟩⟩⟩⟩
set_option maxRecDepth 20000 in
theorem kX8_kindBy_30 : sx_BK sx_tb yX8_kindBy.cls cX8_kindBy 1 (some .int) ({ frames := 0, cells := 0, slots := 0, locals := 0 } : Room) false false 0 (fun _ => 0) 30 (bX8_kindBy_30) := ⟨_, ⟨sn_iload_n dX8_kindBy_30 rfl, sm_il _⟩, ⟨_, ⟨sn_bipush dX8_kindBy_31 (by decide +kernel), sm_const _⟩, ⟨_, ⟨sn_ic_ne dX8_kindBy_33 (by decide +kernel) rfl, sm_if2 _ _ _⟩, ⟨_, ⟨sn_iconst dX8_kindBy_36 (by decide +kernel), sm_const _⟩, ⟨_, ⟨sn_goto (len := 3) dX8_kindBy_37 (by decide +kernel) rfl, sm_go _ _⟩, trivial⟩⟩⟩⟩⟩
set_option maxRecDepth 20000 in
theorem kX8_kindBy_40 : sx_BK sx_tb yX8_kindBy.cls cX8_kindBy 1 (some .int) ({ frames := 0, cells := 0, slots := 0, locals := 0 } : Room) false false 0 (fun _ => 0) 40 (bX8_kindBy_40) := ⟨_, ⟨sn_iload_n dX8_kindBy_40 rfl, sm_il _⟩, ⟨_, ⟨sn_bipush dX8_kindBy_41 (by decide +kernel), sm_const _⟩, ⟨_, ⟨sn_ic_ne dX8_kindBy_43 (by decide +kernel) rfl, sm_if2 _ _ _⟩, ⟨_, ⟨sn_iconst dX8_kindBy_46 (by decide +kernel), sm_const _⟩, ⟨_, ⟨sn_goto (len := 3) dX8_kindBy_47 (by decide +kernel) rfl, sm_go _ _⟩, trivial⟩⟩⟩⟩⟩
set_option maxRecDepth 20000 in
theorem kX8_kindBy_50 : sx_BK sx_tb yX8_kindBy.cls cX8_kindBy 1 (some .int) ({ frames := 0, cells := 0, slots := 0, locals := 0 } : Room) false false 0 (fun _ => 0) 50 (bX8_kindBy_50) := ⟨_, ⟨sn_ldc dX8_kindBy_50 zw_4_65, sm_const _⟩, ⟨_, ⟨sn_fall (len := 0) rfl rfl, sm_go _ _⟩, trivial⟩⟩
set_option maxRecDepth 20000 in
theorem kX8_kindBy_52 : sx_BK sx_tb yX8_kindBy.cls cX8_kindBy 1 (some .int) ({ frames := 0, cells := 0, slots := 0, locals := 0 } : Room) false false 0 (fun _ => 0) 52 (bX8_kindBy_52) := ⟨_, ⟨sn_ri (len := 1) dX8_kindBy_52 rfl, sm_ri⟩, trivial⟩
theorem kX8_kindBy : ∀ pc, sx_BK sx_tb yX8_kindBy.cls cX8_kindBy 1 (some .int) ({ frames := 0, cells := 0, slots := 0, locals := 0 } : Room) false false 0 (fun _ => 0) pc (BX8_kindBy pc) := fun pc => sx_bk_if (kX8_kindBy_0) (sx_bk_if (kX8_kindBy_10) (sx_bk_if (kX8_kindBy_20) (sx_bk_if (kX8_kindBy_30) (sx_bk_if (kX8_kindBy_40) (sx_bk_if (kX8_kindBy_50) (sx_bk_if (kX8_kindBy_52) (trivial)))))))
theorem okX8_kindBy : sx_ok sx_tb BX8_kindBy (yX8_kindBy, cX8_kindBy, 1, some .int, { frames := 0, cells := 0, slots := 0, locals := 0 }) := ⟨by decide, by decide +kernel, false, (fun h => by cases h), kX8_kindBy⟩
theorem dX8_isSort_0 : decode cX8_isSort 0 = .ok (.aload_n 0, 1) := by decide +kernel
theorem dX8_isSort_1 : decode cX8_isSort 1 = .ok (.getfield 75, 3) := by decide +kernel
theorem dX8_isSort_4 : decode cX8_isSort 4 = .ok (.ifCond .ne 27, 3) := by decide +kernel
theorem dX8_isSort_7 : decode cX8_isSort 7 = .ok (.aload_n 0, 1) := by decide +kernel
theorem dX8_isSort_8 : decode cX8_isSort 8 = .ok (.getfield 99, 3) := by decide +kernel
theorem dX8_isSort_11 : decode cX8_isSort 11 = .ok (.iconst 2, 1) := by decide +kernel
theorem dX8_isSort_12 : decode cX8_isSort 12 = .ok (.if_icmp .ne 19, 3) := by decide +kernel
theorem dX8_isSort_15 : decode cX8_isSort 15 = .ok (.aload_n 0, 1) := by decide +kernel
theorem dX8_isSort_16 : decode cX8_isSort 16 = .ok (.getfield 88, 3) := by decide +kernel
theorem dX8_isSort_19 : decode cX8_isSort 19 = .ok (.invokestatic 116, 3) := by decide +kernel
theorem dX8_isSort_22 : decode cX8_isSort 22 = .ok (.ldc 87, 2) := by decide +kernel
theorem dX8_isSort_24 : decode cX8_isSort 24 = .ok (.if_icmp .eq 7, 3) := by decide +kernel
theorem dX8_isSort_27 : decode cX8_isSort 27 = .ok (.iconst 1, 1) := by decide +kernel
theorem dX8_isSort_28 : decode cX8_isSort 28 = .ok (.goto 4, 3) := by decide +kernel
theorem dX8_isSort_31 : decode cX8_isSort 31 = .ok (.iconst 0, 1) := by decide +kernel
theorem dX8_isSort_32 : decode cX8_isSort 32 = .ok (.ireturn, 1) := by decide +kernel
def bX8_isSort_0 : List sx_S := [si_al 0, si_get 7 16, si_if1 (fun x => ¬ x = 0) 31 [false], si_al 0, si_get 7 14, si_const (nI 2), si_if2 (fun x y => ¬ x = y) 31 [false], si_al 0, si_get 7 15, si_cs 141 1 0 0 0 0, si_const (-1000000), si_if2 (fun x y => x = y) 31 [false], si_const 1, si_go 32 [false]]
def bX8_isSort_31 : List sx_S := [si_const 0, si_go 32 [false]]
def bX8_isSort_32 : List sx_S := [si_rz]
def BX8_isSort : Nat → List sx_S := fun pc => if pc = 0 then bX8_isSort_0 else if pc = 31 then bX8_isSort_31 else if pc = 32 then bX8_isSort_32 else []
set_option maxRecDepth 20000 in
theorem kX8_isSort_0 : sx_BK sx_tb yX8_isSort.cls cX8_isSort 1 (some .boolean) ({ frames := 1, cells := 0, slots := 0, locals := 20 } : Room) false false 0 (fun _ => 0) 0 (bX8_isSort_0) := ⟨_, ⟨sn_aload_n dX8_isSort_0 rfl, sm_al _⟩, ⟨_, ⟨sn_get (C := RX8) (T := TX8) (N := 23) dX8_isSort_1 rfl zinX8 (Nat.le_of_ble_eq_true rfl) zw_3_198, sm_get _ _⟩, ⟨_, ⟨sn_if_ne dX8_isSort_4 (by decide +kernel) rfl, sm_if1 _ _ _⟩, ⟨_, ⟨sn_aload_n dX8_isSort_7 rfl, sm_al _⟩, ⟨_, ⟨sn_get (C := RX8) (T := TX8) (N := 23) dX8_isSort_8 rfl zinX8 (Nat.le_of_ble_eq_true rfl) zw_3_196, sm_get _ _⟩, ⟨_, ⟨sn_iconst dX8_isSort_11 (by decide +kernel), sm_const _⟩, ⟨_, ⟨sn_ic_ne dX8_isSort_12 (by decide +kernel) rfl, sm_if2 _ _ _⟩, ⟨_, ⟨sn_aload_n dX8_isSort_15 rfl, sm_al _⟩, ⟨_, ⟨sn_get (C := RX8) (T := TX8) (N := 23) dX8_isSort_16 rfl zinX8 (Nat.le_of_ble_eq_true rfl) zw_3_197, sm_get _ _⟩, ⟨_, ⟨sn_cs_i ztb_X8_kindBy dX8_isSort_19 zw_4_94 zw_4_95 zw_1_8 zw_4_96 zmh_X8 zpd_X8_kindBy (Nat.le_of_ble_eq_true rfl) (Nat.le_of_ble_eq_true rfl) rfl rfl, sm_cs _ _ _ _ _ _⟩, ⟨_, ⟨sn_ldc dX8_isSort_22 zw_4_65, sm_const _⟩, ⟨_, ⟨sn_ic_eq dX8_isSort_24 (by decide +kernel) rfl, sm_if2 _ _ _⟩, ⟨_, ⟨sn_iconst dX8_isSort_27 (by decide +kernel), sm_const _⟩, ⟨_, ⟨sn_goto (len := 3) dX8_isSort_28 (by decide +kernel) rfl, sm_go _ _⟩, trivial⟩⟩⟩⟩⟩⟩⟩⟩⟩⟩⟩⟩⟩⟩
set_option maxRecDepth 20000 in
theorem kX8_isSort_31 : sx_BK sx_tb yX8_isSort.cls cX8_isSort 1 (some .boolean) ({ frames := 1, cells := 0, slots := 0, locals := 20 } : Room) false false 0 (fun _ => 0) 31 (bX8_isSort_31) := ⟨_, ⟨sn_iconst dX8_isSort_31 (by decide +kernel), sm_const _⟩, ⟨_, ⟨sn_fall (len := 0) rfl rfl, sm_go _ _⟩, trivial⟩⟩
set_option maxRecDepth 20000 in
theorem kX8_isSort_32 : sx_BK sx_tb yX8_isSort.cls cX8_isSort 1 (some .boolean) ({ frames := 1, cells := 0, slots := 0, locals := 20 } : Room) false false 0 (fun _ => 0) 32 (bX8_isSort_32) := ⟨_, ⟨sn_rz (len := 1) dX8_isSort_32 rfl, sm_rz⟩, trivial⟩
theorem kX8_isSort : ∀ pc, sx_BK sx_tb yX8_isSort.cls cX8_isSort 1 (some .boolean) ({ frames := 1, cells := 0, slots := 0, locals := 20 } : Room) false false 0 (fun _ => 0) pc (BX8_isSort pc) := fun pc => sx_bk_if (kX8_isSort_0) (sx_bk_if (kX8_isSort_31) (sx_bk_if (kX8_isSort_32) (trivial)))
theorem okX8_isSort : sx_ok sx_tb BX8_isSort (yX8_isSort, cX8_isSort, 1, some .boolean, { frames := 1, cells := 0, slots := 0, locals := 20 }) := ⟨by decide, by decide +kernel, false, (fun h => by cases h), kX8_isSort⟩
theorem dX8_readDebtor_0 : decode cX8_readDebtor 0 = .ok (.aload_n 0, 1) := by decide +kernel
theorem dX8_readDebtor_1 : decode cX8_readDebtor 1 = .ok (.getfield 88, 3) := by decide +kernel
theorem dX8_readDebtor_4 : decode cX8_readDebtor 4 = .ok (.invokestatic 116, 3) := by decide +kernel
theorem dX8_readDebtor_7 : decode cX8_readDebtor 7 = .ok (.istore_n 1, 1) := by decide +kernel
theorem dX8_readDebtor_8 : decode cX8_readDebtor 8 = .ok (.aload_n 0, 1) := by decide +kernel
theorem dX8_readDebtor_9 : decode cX8_readDebtor 9 = .ok (.getfield 22, 3) := by decide +kernel
theorem dX8_readDebtor_12 : decode cX8_readDebtor 12 = .ok (.iconst 4, 1) := by decide +kernel
theorem dX8_readDebtor_13 : decode cX8_readDebtor 13 = .ok (.iaload, 1) := by decide +kernel
theorem dX8_readDebtor_14 : decode cX8_readDebtor 14 = .ok (.bipush 6, 2) := by decide +kernel
theorem dX8_readDebtor_16 : decode cX8_readDebtor 16 = .ok (.if_icmp .ne 8, 3) := by decide +kernel
theorem dX8_readDebtor_19 : decode cX8_readDebtor 19 = .ok (.aload_n 0, 1) := by decide +kernel
theorem dX8_readDebtor_20 : decode cX8_readDebtor 20 = .ok (.iconst 3, 1) := by decide +kernel
theorem dX8_readDebtor_21 : decode cX8_readDebtor 21 = .ok (.invokevirtual 102, 3) := by decide +kernel
theorem dX8_readDebtor_24 : decode cX8_readDebtor 24 = .ok (.aload_n 0, 1) := by decide +kernel
theorem dX8_readDebtor_25 : decode cX8_readDebtor 25 = .ok (.iconst 1, 1) := by decide +kernel
theorem dX8_readDebtor_26 : decode cX8_readDebtor 26 = .ok (.invokevirtual 109, 3) := by decide +kernel
theorem dX8_readDebtor_29 : decode cX8_readDebtor 29 = .ok (.aload_n 0, 1) := by decide +kernel
theorem dX8_readDebtor_30 : decode cX8_readDebtor 30 = .ok (.iconst 0, 1) := by decide +kernel
theorem dX8_readDebtor_31 : decode cX8_readDebtor 31 = .ok (.bipush 60, 2) := by decide +kernel
theorem dX8_readDebtor_33 : decode cX8_readDebtor 33 = .ok (.invokevirtual 119, 3) := by decide +kernel
theorem dX8_readDebtor_36 : decode cX8_readDebtor 36 = .ok (.istore_n 2, 1) := by decide +kernel
theorem dX8_readDebtor_37 : decode cX8_readDebtor 37 = .ok (.aload_n 0, 1) := by decide +kernel
theorem dX8_readDebtor_38 : decode cX8_readDebtor 38 = .ok (.bipush 44, 2) := by decide +kernel
theorem dX8_readDebtor_40 : decode cX8_readDebtor 40 = .ok (.invokevirtual 123, 3) := by decide +kernel
theorem dX8_readDebtor_43 : decode cX8_readDebtor 43 = .ok (.aload_n 0, 1) := by decide +kernel
theorem dX8_readDebtor_44 : decode cX8_readDebtor 44 = .ok (.iconst 0, 1) := by decide +kernel
theorem dX8_readDebtor_45 : decode cX8_readDebtor 45 = .ok (.bipush 40, 2) := by decide +kernel
theorem dX8_readDebtor_47 : decode cX8_readDebtor 47 = .ok (.invokevirtual 119, 3) := by decide +kernel
theorem dX8_readDebtor_50 : decode cX8_readDebtor 50 = .ok (.istore_n 3, 1) := by decide +kernel
theorem dX8_readDebtor_51 : decode cX8_readDebtor 51 = .ok (.aload_n 0, 1) := by decide +kernel
theorem dX8_readDebtor_52 : decode cX8_readDebtor 52 = .ok (.bipush 44, 2) := by decide +kernel
theorem dX8_readDebtor_54 : decode cX8_readDebtor 54 = .ok (.invokevirtual 123, 3) := by decide +kernel
theorem dX8_readDebtor_57 : decode cX8_readDebtor 57 = .ok (.aload_n 0, 1) := by decide +kernel
theorem dX8_readDebtor_58 : decode cX8_readDebtor 58 = .ok (.iconst 0, 1) := by decide +kernel
theorem dX8_readDebtor_59 : decode cX8_readDebtor 59 = .ok (.bipush 99, 2) := by decide +kernel
theorem dX8_readDebtor_61 : decode cX8_readDebtor 61 = .ok (.invokevirtual 119, 3) := by decide +kernel
theorem dX8_readDebtor_64 : decode cX8_readDebtor 64 = .ok (.istore 4, 2) := by decide +kernel
theorem dX8_readDebtor_66 : decode cX8_readDebtor 66 = .ok (.aload_n 0, 1) := by decide +kernel
theorem dX8_readDebtor_67 : decode cX8_readDebtor 67 = .ok (.bipush 59, 2) := by decide +kernel
theorem dX8_readDebtor_69 : decode cX8_readDebtor 69 = .ok (.invokevirtual 123, 3) := by decide +kernel
theorem dX8_readDebtor_72 : decode cX8_readDebtor 72 = .ok (.aload_n 0, 1) := by decide +kernel
theorem dX8_readDebtor_73 : decode cX8_readDebtor 73 = .ok (.getfield 75, 3) := by decide +kernel
theorem dX8_readDebtor_76 : decode cX8_readDebtor 76 = .ok (.ifCond .ne 66, 3) := by decide +kernel
theorem dX8_readDebtor_79 : decode cX8_readDebtor 79 = .ok (.bipush 10, 2) := by decide +kernel
theorem dX8_readDebtor_81 : decode cX8_readDebtor 81 = .ok (.bipush 9, 2) := by decide +kernel
theorem dX8_readDebtor_83 : decode cX8_readDebtor 83 = .ok (.aload_n 0, 1) := by decide +kernel
theorem dX8_readDebtor_84 : decode cX8_readDebtor 84 = .ok (.getfield 22, 3) := by decide +kernel
theorem dX8_readDebtor_87 : decode cX8_readDebtor 87 = .ok (.iconst 4, 1) := by decide +kernel
theorem dX8_readDebtor_88 : decode cX8_readDebtor 88 = .ok (.iaload, 1) := by decide +kernel
theorem dX8_readDebtor_89 : decode cX8_readDebtor 89 = .ok (.imul, 1) := by decide +kernel
theorem dX8_readDebtor_90 : decode cX8_readDebtor 90 = .ok (.iadd, 1) := by decide +kernel
theorem dX8_readDebtor_91 : decode cX8_readDebtor 91 = .ok (.istore 5, 2) := by decide +kernel
theorem dX8_readDebtor_93 : decode cX8_readDebtor 93 = .ok (.aload_n 0, 1) := by decide +kernel
theorem dX8_readDebtor_94 : decode cX8_readDebtor 94 = .ok (.getfield 22, 3) := by decide +kernel
theorem dX8_readDebtor_97 : decode cX8_readDebtor 97 = .ok (.iload 5, 2) := by decide +kernel
theorem dX8_readDebtor_99 : decode cX8_readDebtor 99 = .ok (.iload_n 1, 1) := by decide +kernel
theorem dX8_readDebtor_100 : decode cX8_readDebtor 100 = .ok (.iastore, 1) := by decide +kernel
theorem dX8_readDebtor_101 : decode cX8_readDebtor 101 = .ok (.aload_n 0, 1) := by decide +kernel
theorem dX8_readDebtor_102 : decode cX8_readDebtor 102 = .ok (.getfield 22, 3) := by decide +kernel
theorem dX8_readDebtor_105 : decode cX8_readDebtor 105 = .ok (.iload 5, 2) := by decide +kernel
theorem dX8_readDebtor_107 : decode cX8_readDebtor 107 = .ok (.iconst 1, 1) := by decide +kernel
theorem dX8_readDebtor_108 : decode cX8_readDebtor 108 = .ok (.iadd, 1) := by decide +kernel
theorem dX8_readDebtor_109 : decode cX8_readDebtor 109 = .ok (.iload_n 2, 1) := by decide +kernel
theorem dX8_readDebtor_110 : decode cX8_readDebtor 110 = .ok (.iastore, 1) := by decide +kernel
theorem dX8_readDebtor_111 : decode cX8_readDebtor 111 = .ok (.aload_n 0, 1) := by decide +kernel
theorem dX8_readDebtor_112 : decode cX8_readDebtor 112 = .ok (.getfield 22, 3) := by decide +kernel
theorem dX8_readDebtor_115 : decode cX8_readDebtor 115 = .ok (.iload 5, 2) := by decide +kernel
theorem dX8_readDebtor_117 : decode cX8_readDebtor 117 = .ok (.iconst 2, 1) := by decide +kernel
theorem dX8_readDebtor_118 : decode cX8_readDebtor 118 = .ok (.iadd, 1) := by decide +kernel
theorem dX8_readDebtor_119 : decode cX8_readDebtor 119 = .ok (.iload_n 3, 1) := by decide +kernel
theorem dX8_readDebtor_120 : decode cX8_readDebtor 120 = .ok (.iastore, 1) := by decide +kernel
theorem dX8_readDebtor_121 : decode cX8_readDebtor 121 = .ok (.aload_n 0, 1) := by decide +kernel
theorem dX8_readDebtor_122 : decode cX8_readDebtor 122 = .ok (.getfield 22, 3) := by decide +kernel
theorem dX8_readDebtor_125 : decode cX8_readDebtor 125 = .ok (.iload 5, 2) := by decide +kernel
theorem dX8_readDebtor_127 : decode cX8_readDebtor 127 = .ok (.iconst 3, 1) := by decide +kernel
theorem dX8_readDebtor_128 : decode cX8_readDebtor 128 = .ok (.iadd, 1) := by decide +kernel
theorem dX8_readDebtor_129 : decode cX8_readDebtor 129 = .ok (.iload 4, 2) := by decide +kernel
theorem dX8_readDebtor_131 : decode cX8_readDebtor 131 = .ok (.iastore, 1) := by decide +kernel
theorem dX8_readDebtor_132 : decode cX8_readDebtor 132 = .ok (.aload_n 0, 1) := by decide +kernel
theorem dX8_readDebtor_133 : decode cX8_readDebtor 133 = .ok (.getfield 22, 3) := by decide +kernel
theorem dX8_readDebtor_136 : decode cX8_readDebtor 136 = .ok (.iconst 4, 1) := by decide +kernel
theorem dX8_readDebtor_137 : decode cX8_readDebtor 137 = .ok (.dup2, 1) := by decide +kernel
theorem dX8_readDebtor_138 : decode cX8_readDebtor 138 = .ok (.iaload, 1) := by decide +kernel
theorem dX8_readDebtor_139 : decode cX8_readDebtor 139 = .ok (.iconst 1, 1) := by decide +kernel
theorem dX8_readDebtor_140 : decode cX8_readDebtor 140 = .ok (.iadd, 1) := by decide +kernel
theorem dX8_readDebtor_141 : decode cX8_readDebtor 141 = .ok (.iastore, 1) := by decide +kernel
theorem dX8_readDebtor_142 : decode cX8_readDebtor 142 = .ok (.return_, 1) := by decide +kernel
def bX8_readDebtor_0 : List sx_S := [si_al 0, si_get 7 15, si_cs 141 1 0 0 0 0, si_is 1, si_al 0, si_get 7 6, si_const (nI 4), si_iald, si_const (nI 6), si_if2 (fun x y => ¬ x = y) 24 [true, true, false, false, false, false], si_al 0, si_const (nI 3), si_cv 7 132 1 0 0 0 0, si_go 24 [true, true, false, false, false, false]]
def bX8_readDebtor_24 : List sx_S := [si_al 0, si_const 1, si_cv 7 134 1 0 0 0 0, si_al 0, si_const 0, si_const (nI 60), si_cv 7 136 2 0 0 0 0, si_is 2, si_al 0, si_const (nI 44), si_cv 7 137 1 0 0 0 0, si_al 0, si_const 0, si_const (nI 40), si_cv 7 136 2 0 0 0 0, si_is 3, si_al 0, si_const (nI 44), si_cv 7 137 1 0 0 0 0, si_al 0, si_const 0, si_const (nI 99), si_cv 7 136 2 0 0 0 0, si_is 4, si_al 0, si_const (nI 59), si_cv 7 137 1 0 0 0 0, si_al 0, si_get 7 16, si_if1 (fun x => ¬ x = 0) 142 [false, false, false, false, false, false], si_const (nI 10), si_const (nI 9), si_al 0, si_get 7 6, si_const (nI 4), si_iald, si_bin (fun x y => x * y), si_bin (fun x y => x + y), si_is 5, si_al 0, si_get 7 6, si_il 5, si_il 1, si_iast, si_al 0, si_get 7 6, si_il 5, si_const 1, si_bin (fun x y => x + y), si_il 2, si_iast, si_al 0, si_get 7 6, si_il 5, si_const (nI 2), si_bin (fun x y => x + y), si_il 3, si_iast, si_al 0, si_get 7 6, si_il 5, si_const (nI 3), si_bin (fun x y => x + y), si_il 4, si_iast, si_al 0, si_get 7 6, si_const (nI 4), si_dup2, si_iald, si_const 1, si_bin (fun x y => x + y), si_iast, si_go 142 [false, false, false, false, false, false]]
def bX8_readDebtor_142 : List sx_S := [si_rv]
def BX8_readDebtor : Nat → List sx_S := fun pc => if pc = 0 then bX8_readDebtor_0 else if pc = 24 then bX8_readDebtor_24 else if pc = 142 then bX8_readDebtor_142 else []
set_option maxRecDepth 20000 in
theorem kX8_readDebtor_0 : sx_BK sx_tb yX8_readDebtor.cls cX8_readDebtor 6 (none) ({ frames := 4, cells := 0, slots := 0, locals := 89 } : Room) false false 0 (fun _ => 0) 0 (bX8_readDebtor_0) := ⟨_, ⟨sn_aload_n dX8_readDebtor_0 rfl, sm_al _⟩, ⟨_, ⟨sn_get (C := RX8) (T := TX8) (N := 23) dX8_readDebtor_1 rfl zinX8 (Nat.le_of_ble_eq_true rfl) zw_3_197, sm_get _ _⟩, ⟨_, ⟨sn_cs_i ztb_X8_kindBy dX8_readDebtor_4 zw_4_94 zw_4_95 zw_1_8 zw_4_96 zmh_X8 zpd_X8_kindBy (Nat.le_of_ble_eq_true rfl) (Nat.le_of_ble_eq_true rfl) rfl rfl, sm_cs _ _ _ _ _ _⟩, ⟨_, ⟨sn_istore_n dX8_readDebtor_7 rfl (Nat.le_of_ble_eq_true rfl), sm_is _⟩, ⟨_, ⟨sn_aload_n dX8_readDebtor_8 rfl, sm_al _⟩, ⟨_, ⟨sn_get (C := RX8) (T := TX8) (N := 23) dX8_readDebtor_9 rfl zinX8 (Nat.le_of_ble_eq_true rfl) zw_3_188, sm_get _ _⟩, ⟨_, ⟨sn_iconst dX8_readDebtor_12 (by decide +kernel), sm_const _⟩, ⟨_, ⟨sn_iald dX8_readDebtor_13, sm_iald⟩, ⟨_, ⟨sn_bipush dX8_readDebtor_14 (by decide +kernel), sm_const _⟩, ⟨_, ⟨sn_ic_ne dX8_readDebtor_16 (by decide +kernel) rfl, sm_if2 _ _ _⟩, ⟨_, ⟨sn_aload_n dX8_readDebtor_19 rfl, sm_al _⟩, ⟨_, ⟨sn_iconst dX8_readDebtor_20 (by decide +kernel), sm_const _⟩, ⟨_, ⟨sn_cv_v (N := 23) (T := TX8) ztb_X8_bad dX8_readDebtor_21 rfl rfl zw_4_78 zw_4_80 zw_0_39 zw_1_8 zw_4_81 zmh_X8 zpd_X8_bad (Nat.le_of_ble_eq_true rfl) (Nat.le_of_ble_eq_true rfl) rfl rfl, sm_cv _ _ _ _ _ _ _⟩, ⟨_, ⟨sn_fall (len := 0) rfl rfl, sm_go _ _⟩, trivial⟩⟩⟩⟩⟩⟩⟩⟩⟩⟩⟩⟩⟩⟩
set_option maxRecDepth 20000 in
theorem kX8_readDebtor_24 : sx_BK sx_tb yX8_readDebtor.cls cX8_readDebtor 6 (none) ({ frames := 4, cells := 0, slots := 0, locals := 89 } : Room) false false 0 (fun _ => 0) 24 (bX8_readDebtor_24) := ⟨_, ⟨sn_aload_n dX8_readDebtor_24 rfl, sm_al _⟩, ⟨_, ⟨sn_iconst dX8_readDebtor_25 (by decide +kernel), sm_const _⟩, ⟨_, ⟨sn_cv_v (N := 23) (T := TX8) ztb_X8_must dX8_readDebtor_26 rfl rfl zw_4_74 zw_4_76 zw_0_38 zw_1_8 zw_4_77 zmh_X8 zpd_X8_must (Nat.le_of_ble_eq_true rfl) (Nat.le_of_ble_eq_true rfl) rfl rfl, sm_cv _ _ _ _ _ _ _⟩, ⟨_, ⟨sn_aload_n dX8_readDebtor_29 rfl, sm_al _⟩, ⟨_, ⟨sn_iconst dX8_readDebtor_30 (by decide +kernel), sm_const _⟩, ⟨_, ⟨sn_bipush dX8_readDebtor_31 (by decide +kernel), sm_const _⟩, ⟨_, ⟨sn_cv_i (N := 23) (T := TX8) ztb_X8_number dX8_readDebtor_33 rfl rfl zw_4_82 zw_4_84 zw_0_40 zw_1_8 zw_4_85 zmh_X8 zpd_X8_number (Nat.le_of_ble_eq_true rfl) (Nat.le_of_ble_eq_true rfl) rfl rfl, sm_cv _ _ _ _ _ _ _⟩, ⟨_, ⟨sn_istore_n dX8_readDebtor_36 rfl (Nat.le_of_ble_eq_true rfl), sm_is _⟩, ⟨_, ⟨sn_aload_n dX8_readDebtor_37 rfl, sm_al _⟩, ⟨_, ⟨sn_bipush dX8_readDebtor_38 (by decide +kernel), sm_const _⟩, ⟨_, ⟨sn_cv_v (N := 23) (T := TX8) ztb_X8_mustSign dX8_readDebtor_40 rfl rfl zw_4_86 zw_4_88 zw_0_41 zw_1_8 zw_4_89 zmh_X8 zpd_X8_mustSign (Nat.le_of_ble_eq_true rfl) (Nat.le_of_ble_eq_true rfl) rfl rfl, sm_cv _ _ _ _ _ _ _⟩, ⟨_, ⟨sn_aload_n dX8_readDebtor_43 rfl, sm_al _⟩, ⟨_, ⟨sn_iconst dX8_readDebtor_44 (by decide +kernel), sm_const _⟩, ⟨_, ⟨sn_bipush dX8_readDebtor_45 (by decide +kernel), sm_const _⟩, ⟨_, ⟨sn_cv_i (N := 23) (T := TX8) ztb_X8_number dX8_readDebtor_47 rfl rfl zw_4_82 zw_4_84 zw_0_40 zw_1_8 zw_4_85 zmh_X8 zpd_X8_number (Nat.le_of_ble_eq_true rfl) (Nat.le_of_ble_eq_true rfl) rfl rfl, sm_cv _ _ _ _ _ _ _⟩, ⟨_, ⟨sn_istore_n dX8_readDebtor_50 rfl (Nat.le_of_ble_eq_true rfl), sm_is _⟩, ⟨_, ⟨sn_aload_n dX8_readDebtor_51 rfl, sm_al _⟩, ⟨_, ⟨sn_bipush dX8_readDebtor_52 (by decide +kernel), sm_const _⟩, ⟨_, ⟨sn_cv_v (N := 23) (T := TX8) ztb_X8_mustSign dX8_readDebtor_54 rfl rfl zw_4_86 zw_4_88 zw_0_41 zw_1_8 zw_4_89 zmh_X8 zpd_X8_mustSign (Nat.le_of_ble_eq_true rfl) (Nat.le_of_ble_eq_true rfl) rfl rfl, sm_cv _ _ _ _ _ _ _⟩, ⟨_, ⟨sn_aload_n dX8_readDebtor_57 rfl, sm_al _⟩, ⟨_, ⟨sn_iconst dX8_readDebtor_58 (by decide +kernel), sm_const _⟩, ⟨_, ⟨sn_bipush dX8_readDebtor_59 (by decide +kernel), sm_const _⟩, ⟨_, ⟨sn_cv_i (N := 23) (T := TX8) ztb_X8_number dX8_readDebtor_61 rfl rfl zw_4_82 zw_4_84 zw_0_40 zw_1_8 zw_4_85 zmh_X8 zpd_X8_number (Nat.le_of_ble_eq_true rfl) (Nat.le_of_ble_eq_true rfl) rfl rfl, sm_cv _ _ _ _ _ _ _⟩, ⟨_, ⟨sn_istore dX8_readDebtor_64 (Nat.le_of_ble_eq_true rfl), sm_is _⟩, ⟨_, ⟨sn_aload_n dX8_readDebtor_66 rfl, sm_al _⟩, ⟨_, ⟨sn_bipush dX8_readDebtor_67 (by decide +kernel), sm_const _⟩, ⟨_, ⟨sn_cv_v (N := 23) (T := TX8) ztb_X8_mustSign dX8_readDebtor_69 rfl rfl zw_4_86 zw_4_88 zw_0_41 zw_1_8 zw_4_89 zmh_X8 zpd_X8_mustSign (Nat.le_of_ble_eq_true rfl) (Nat.le_of_ble_eq_true rfl) rfl rfl, sm_cv _ _ _ _ _ _ _⟩, ⟨_, ⟨sn_aload_n dX8_readDebtor_72 rfl, sm_al _⟩, ⟨_, ⟨sn_get (C := RX8) (T := TX8) (N := 23) dX8_readDebtor_73 rfl zinX8 (Nat.le_of_ble_eq_true rfl) zw_3_198, sm_get _ _⟩, ⟨_, ⟨sn_if_ne dX8_readDebtor_76 (by decide +kernel) rfl, sm_if1 _ _ _⟩, ⟨_, ⟨sn_bipush dX8_readDebtor_79 (by decide +kernel), sm_const _⟩, ⟨_, ⟨sn_bipush dX8_readDebtor_81 (by decide +kernel), sm_const _⟩, ⟨_, ⟨sn_aload_n dX8_readDebtor_83 rfl, sm_al _⟩, ⟨_, ⟨sn_get (C := RX8) (T := TX8) (N := 23) dX8_readDebtor_84 rfl zinX8 (Nat.le_of_ble_eq_true rfl) zw_3_188, sm_get _ _⟩, ⟨_, ⟨sn_iconst dX8_readDebtor_87 (by decide +kernel), sm_const _⟩, ⟨_, ⟨sn_iald dX8_readDebtor_88, sm_iald⟩, ⟨_, ⟨sn_imul dX8_readDebtor_89, sm_bin _⟩, ⟨_, ⟨sn_iadd dX8_readDebtor_90, sm_bin _⟩, ⟨_, ⟨sn_istore dX8_readDebtor_91 (Nat.le_of_ble_eq_true rfl), sm_is _⟩, ⟨_, ⟨sn_aload_n dX8_readDebtor_93 rfl, sm_al _⟩, ⟨_, ⟨sn_get (C := RX8) (T := TX8) (N := 23) dX8_readDebtor_94 rfl zinX8 (Nat.le_of_ble_eq_true rfl) zw_3_188, sm_get _ _⟩, ⟨_, ⟨sn_iload dX8_readDebtor_97, sm_il _⟩, ⟨_, ⟨sn_iload_n dX8_readDebtor_99 rfl, sm_il _⟩, ⟨_, ⟨sn_iast dX8_readDebtor_100, sm_iast⟩, ⟨_, ⟨sn_aload_n dX8_readDebtor_101 rfl, sm_al _⟩, ⟨_, ⟨sn_get (C := RX8) (T := TX8) (N := 23) dX8_readDebtor_102 rfl zinX8 (Nat.le_of_ble_eq_true rfl) zw_3_188, sm_get _ _⟩, ⟨_, ⟨sn_iload dX8_readDebtor_105, sm_il _⟩, ⟨_, ⟨sn_iconst dX8_readDebtor_107 (by decide +kernel), sm_const _⟩, ⟨_, ⟨sn_iadd dX8_readDebtor_108, sm_bin _⟩, ⟨_, ⟨sn_iload_n dX8_readDebtor_109 rfl, sm_il _⟩, ⟨_, ⟨sn_iast dX8_readDebtor_110, sm_iast⟩, ⟨_, ⟨sn_aload_n dX8_readDebtor_111 rfl, sm_al _⟩, ⟨_, ⟨sn_get (C := RX8) (T := TX8) (N := 23) dX8_readDebtor_112 rfl zinX8 (Nat.le_of_ble_eq_true rfl) zw_3_188, sm_get _ _⟩, ⟨_, ⟨sn_iload dX8_readDebtor_115, sm_il _⟩, ⟨_, ⟨sn_iconst dX8_readDebtor_117 (by decide +kernel), sm_const _⟩, ⟨_, ⟨sn_iadd dX8_readDebtor_118, sm_bin _⟩, ⟨_, ⟨sn_iload_n dX8_readDebtor_119 rfl, sm_il _⟩, ⟨_, ⟨sn_iast dX8_readDebtor_120, sm_iast⟩, ⟨_, ⟨sn_aload_n dX8_readDebtor_121 rfl, sm_al _⟩, ⟨_, ⟨sn_get (C := RX8) (T := TX8) (N := 23) dX8_readDebtor_122 rfl zinX8 (Nat.le_of_ble_eq_true rfl) zw_3_188, sm_get _ _⟩, ⟨_, ⟨sn_iload dX8_readDebtor_125, sm_il _⟩, ⟨_, ⟨sn_iconst dX8_readDebtor_127 (by decide +kernel), sm_const _⟩, ⟨_, ⟨sn_iadd dX8_readDebtor_128, sm_bin _⟩, ⟨_, ⟨sn_iload dX8_readDebtor_129, sm_il _⟩, ⟨_, ⟨sn_iast dX8_readDebtor_131, sm_iast⟩, ⟨_, ⟨sn_aload_n dX8_readDebtor_132 rfl, sm_al _⟩, ⟨_, ⟨sn_get (C := RX8) (T := TX8) (N := 23) dX8_readDebtor_133 rfl zinX8 (Nat.le_of_ble_eq_true rfl) zw_3_188, sm_get _ _⟩, ⟨_, ⟨sn_iconst dX8_readDebtor_136 (by decide +kernel), sm_const _⟩, ⟨_, ⟨sn_dup2 dX8_readDebtor_137, sm_dup2⟩, ⟨_, ⟨sn_iald dX8_readDebtor_138, sm_iald⟩, ⟨_, ⟨sn_iconst dX8_readDebtor_139 (by decide +kernel), sm_const _⟩, ⟨_, ⟨sn_iadd dX8_readDebtor_140, sm_bin _⟩, ⟨_, ⟨sn_iast dX8_readDebtor_141, sm_iast⟩, ⟨_, ⟨sn_fall (len := 0) rfl rfl, sm_go _ _⟩, trivial⟩⟩⟩⟩⟩⟩⟩⟩⟩⟩⟩⟩⟩⟩⟩⟩⟩⟩⟩⟩⟩⟩⟩⟩⟩⟩⟩⟩⟩⟩⟩⟩⟩⟩⟩⟩⟩⟩⟩⟩⟩⟩⟩⟩⟩⟩⟩⟩⟩⟩⟩⟩⟩⟩⟩⟩⟩⟩⟩⟩⟩⟩⟩⟩⟩⟩⟩⟩⟩⟩⟩⟩⟩⟩
set_option maxRecDepth 20000 in
theorem kX8_readDebtor_142 : sx_BK sx_tb yX8_readDebtor.cls cX8_readDebtor 6 (none) ({ frames := 4, cells := 0, slots := 0, locals := 89 } : Room) false false 0 (fun _ => 0) 142 (bX8_readDebtor_142) := ⟨_, ⟨sn_rv (len := 1) dX8_readDebtor_142 rfl, sm_rv⟩, trivial⟩
theorem kX8_readDebtor : ∀ pc, sx_BK sx_tb yX8_readDebtor.cls cX8_readDebtor 6 (none) ({ frames := 4, cells := 0, slots := 0, locals := 89 } : Room) false false 0 (fun _ => 0) pc (BX8_readDebtor pc) := fun pc => sx_bk_if (kX8_readDebtor_0) (sx_bk_if (kX8_readDebtor_24) (sx_bk_if (kX8_readDebtor_142) (trivial)))
theorem okX8_readDebtor : sx_ok sx_tb BX8_readDebtor (yX8_readDebtor, cX8_readDebtor, 6, none, { frames := 4, cells := 0, slots := 0, locals := 89 }) := ⟨by decide, by decide +kernel, false, (fun h => by cases h), kX8_readDebtor⟩
theorem dX8_shop_0 : decode cX8_shop 0 = .ok (.aload_n 0, 1) := by decide +kernel
theorem dX8_shop_1 : decode cX8_shop 1 = .ok (.iconst 0, 1) := by decide +kernel
theorem dX8_shop_2 : decode cX8_shop 2 = .ok (.putfield 44, 3) := by decide +kernel
theorem dX8_shop_5 : decode cX8_shop 5 = .ok (.aload_n 0, 1) := by decide +kernel
theorem dX8_shop_6 : decode cX8_shop 6 = .ok (.invokevirtual 126, 3) := by decide +kernel
theorem dX8_shop_9 : decode cX8_shop 9 = .ok (.iconst 0, 1) := by decide +kernel
theorem dX8_shop_10 : decode cX8_shop 10 = .ok (.istore_n 1, 1) := by decide +kernel
theorem dX8_shop_11 : decode cX8_shop 11 = .ok (.iload_n 1, 1) := by decide +kernel
theorem dX8_shop_12 : decode cX8_shop 12 = .ok (.bipush 64, 2) := by decide +kernel
theorem dX8_shop_14 : decode cX8_shop 14 = .ok (.if_icmp .ge 16, 3) := by decide +kernel
theorem dX8_shop_17 : decode cX8_shop 17 = .ok (.aload_n 0, 1) := by decide +kernel
theorem dX8_shop_18 : decode cX8_shop 18 = .ok (.getfield 22, 3) := by decide +kernel
theorem dX8_shop_21 : decode cX8_shop 21 = .ok (.iload_n 1, 1) := by decide +kernel
theorem dX8_shop_22 : decode cX8_shop 22 = .ok (.iconst 0, 1) := by decide +kernel
theorem dX8_shop_23 : decode cX8_shop 23 = .ok (.iastore, 1) := by decide +kernel
theorem dX8_shop_24 : decode cX8_shop 24 = .ok (.iinc 1 1, 3) := by decide +kernel
theorem dX8_shop_27 : decode cX8_shop 27 = .ok (.goto (-16), 3) := by decide +kernel
theorem dX8_shop_30 : decode cX8_shop 30 = .ok (.aload_n 0, 1) := by decide +kernel
theorem dX8_shop_31 : decode cX8_shop 31 = .ok (.getfield 22, 3) := by decide +kernel
theorem dX8_shop_34 : decode cX8_shop 34 = .ok (.iconst 0, 1) := by decide +kernel
theorem dX8_shop_35 : decode cX8_shop 35 = .ok (.iconst 1, 1) := by decide +kernel
theorem dX8_shop_36 : decode cX8_shop 36 = .ok (.iastore, 1) := by decide +kernel
theorem dX8_shop_37 : decode cX8_shop 37 = .ok (.aload_n 0, 1) := by decide +kernel
theorem dX8_shop_38 : decode cX8_shop 38 = .ok (.aload_n 0, 1) := by decide +kernel
theorem dX8_shop_39 : decode cX8_shop 39 = .ok (.bipush 102, 2) := by decide +kernel
theorem dX8_shop_41 : decode cX8_shop 41 = .ok (.invokevirtual 129, 3) := by decide +kernel
theorem dX8_shop_44 : decode cX8_shop 44 = .ok (.invokevirtual 109, 3) := by decide +kernel
theorem dX8_shop_47 : decode cX8_shop 47 = .ok (.aload_n 0, 1) := by decide +kernel
theorem dX8_shop_48 : decode cX8_shop 48 = .ok (.getfield 22, 3) := by decide +kernel
theorem dX8_shop_51 : decode cX8_shop 51 = .ok (.iconst 1, 1) := by decide +kernel
theorem dX8_shop_52 : decode cX8_shop 52 = .ok (.aload_n 0, 1) := by decide +kernel
theorem dX8_shop_53 : decode cX8_shop 53 = .ok (.iconst 0, 1) := by decide +kernel
theorem dX8_shop_54 : decode cX8_shop 54 = .ok (.bipush 99, 2) := by decide +kernel
theorem dX8_shop_56 : decode cX8_shop 56 = .ok (.invokevirtual 119, 3) := by decide +kernel
theorem dX8_shop_59 : decode cX8_shop 59 = .ok (.iastore, 1) := by decide +kernel
theorem dX8_shop_60 : decode cX8_shop 60 = .ok (.aload_n 0, 1) := by decide +kernel
theorem dX8_shop_61 : decode cX8_shop 61 = .ok (.bipush 44, 2) := by decide +kernel
theorem dX8_shop_63 : decode cX8_shop 63 = .ok (.invokevirtual 123, 3) := by decide +kernel
theorem dX8_shop_66 : decode cX8_shop 66 = .ok (.aload_n 0, 1) := by decide +kernel
theorem dX8_shop_67 : decode cX8_shop 67 = .ok (.getfield 22, 3) := by decide +kernel
theorem dX8_shop_70 : decode cX8_shop 70 = .ok (.iconst 2, 1) := by decide +kernel
theorem dX8_shop_71 : decode cX8_shop 71 = .ok (.aload_n 0, 1) := by decide +kernel
theorem dX8_shop_72 : decode cX8_shop 72 = .ok (.iconst 0, 1) := by decide +kernel
theorem dX8_shop_73 : decode cX8_shop 73 = .ok (.bipush 20, 2) := by decide +kernel
theorem dX8_shop_75 : decode cX8_shop 75 = .ok (.invokevirtual 119, 3) := by decide +kernel
theorem dX8_shop_78 : decode cX8_shop 78 = .ok (.iastore, 1) := by decide +kernel
theorem dX8_shop_79 : decode cX8_shop 79 = .ok (.aload_n 0, 1) := by decide +kernel
theorem dX8_shop_80 : decode cX8_shop 80 = .ok (.bipush 44, 2) := by decide +kernel
theorem dX8_shop_82 : decode cX8_shop 82 = .ok (.invokevirtual 123, 3) := by decide +kernel
theorem dX8_shop_85 : decode cX8_shop 85 = .ok (.aload_n 0, 1) := by decide +kernel
theorem dX8_shop_86 : decode cX8_shop 86 = .ok (.getfield 22, 3) := by decide +kernel
theorem dX8_shop_89 : decode cX8_shop 89 = .ok (.iconst 3, 1) := by decide +kernel
theorem dX8_shop_90 : decode cX8_shop 90 = .ok (.aload_n 0, 1) := by decide +kernel
theorem dX8_shop_91 : decode cX8_shop 91 = .ok (.iconst 1, 1) := by decide +kernel
theorem dX8_shop_92 : decode cX8_shop 92 = .ok (.bipush 8, 2) := by decide +kernel
theorem dX8_shop_94 : decode cX8_shop 94 = .ok (.invokevirtual 119, 3) := by decide +kernel
theorem dX8_shop_97 : decode cX8_shop 97 = .ok (.iastore, 1) := by decide +kernel
theorem dX8_shop_98 : decode cX8_shop 98 = .ok (.aload_n 0, 1) := by decide +kernel
theorem dX8_shop_99 : decode cX8_shop 99 = .ok (.bipush 59, 2) := by decide +kernel
theorem dX8_shop_101 : decode cX8_shop 101 = .ok (.invokevirtual 123, 3) := by decide +kernel
theorem dX8_shop_104 : decode cX8_shop 104 = .ok (.aload_n 0, 1) := by decide +kernel
theorem dX8_shop_105 : decode cX8_shop 105 = .ok (.invokevirtual 132, 3) := by decide +kernel
theorem dX8_shop_108 : decode cX8_shop 108 = .ok (.ifCond .ne 8, 3) := by decide +kernel
theorem dX8_shop_111 : decode cX8_shop 111 = .ok (.aload_n 0, 1) := by decide +kernel
theorem dX8_shop_112 : decode cX8_shop 112 = .ok (.iconst 1, 1) := by decide +kernel
theorem dX8_shop_113 : decode cX8_shop 113 = .ok (.invokevirtual 102, 3) := by decide +kernel
theorem dX8_shop_116 : decode cX8_shop 116 = .ok (.aload_n 0, 1) := by decide +kernel
theorem dX8_shop_117 : decode cX8_shop 117 = .ok (.invokevirtual 132, 3) := by decide +kernel
theorem dX8_shop_120 : decode cX8_shop 120 = .ok (.ifCond .eq 10, 3) := by decide +kernel
theorem dX8_shop_123 : decode cX8_shop 123 = .ok (.aload_n 0, 1) := by decide +kernel
theorem dX8_shop_124 : decode cX8_shop 124 = .ok (.invokevirtual 136, 3) := by decide +kernel
theorem dX8_shop_127 : decode cX8_shop 127 = .ok (.goto (-11), 3) := by decide +kernel
theorem dX8_shop_130 : decode cX8_shop 130 = .ok (.aload_n 0, 1) := by decide +kernel
theorem dX8_shop_131 : decode cX8_shop 131 = .ok (.invokevirtual 139, 3) := by decide +kernel
theorem dX8_shop_134 : decode cX8_shop 134 = .ok (.ifCond .eq 11, 3) := by decide +kernel
theorem dX8_shop_137 : decode cX8_shop 137 = .ok (.ldc 142, 2) := by decide +kernel
theorem dX8_shop_139 : decode cX8_shop 139 = .ok (.aload_n 0, 1) := by decide +kernel
theorem dX8_shop_140 : decode cX8_shop 140 = .ok (.getfield 81, 3) := by decide +kernel
theorem dX8_shop_143 : decode cX8_shop 143 = .ok (.isub, 1) := by decide +kernel
theorem dX8_shop_144 : decode cX8_shop 144 = .ok (.ireturn, 1) := by decide +kernel
theorem dX8_shop_145 : decode cX8_shop 145 = .ok (.aload_n 0, 1) := by decide +kernel
theorem dX8_shop_146 : decode cX8_shop 146 = .ok (.iconst 0, 1) := by decide +kernel
theorem dX8_shop_147 : decode cX8_shop 147 = .ok (.putfield 143, 3) := by decide +kernel
theorem dX8_shop_150 : decode cX8_shop 150 = .ok (.iconst 0, 1) := by decide +kernel
theorem dX8_shop_151 : decode cX8_shop 151 = .ok (.istore_n 1, 1) := by decide +kernel
theorem dX8_shop_152 : decode cX8_shop 152 = .ok (.iload_n 1, 1) := by decide +kernel
theorem dX8_shop_153 : decode cX8_shop 153 = .ok (.bipush 64, 2) := by decide +kernel
theorem dX8_shop_155 : decode cX8_shop 155 = .ok (.if_icmp .ge 21, 3) := by decide +kernel
theorem dX8_shop_158 : decode cX8_shop 158 = .ok (.aload_n 0, 1) := by decide +kernel
theorem dX8_shop_159 : decode cX8_shop 159 = .ok (.getfield 19, 3) := by decide +kernel
theorem dX8_shop_162 : decode cX8_shop 162 = .ok (.iload_n 1, 1) := by decide +kernel
theorem dX8_shop_163 : decode cX8_shop 163 = .ok (.aload_n 0, 1) := by decide +kernel
theorem dX8_shop_164 : decode cX8_shop 164 = .ok (.getfield 22, 3) := by decide +kernel
theorem dX8_shop_167 : decode cX8_shop 167 = .ok (.iload_n 1, 1) := by decide +kernel
theorem dX8_shop_168 : decode cX8_shop 168 = .ok (.iaload, 1) := by decide +kernel
theorem dX8_shop_169 : decode cX8_shop 169 = .ok (.iastore, 1) := by decide +kernel
theorem dX8_shop_170 : decode cX8_shop 170 = .ok (.iinc 1 1, 3) := by decide +kernel
theorem dX8_shop_173 : decode cX8_shop 173 = .ok (.goto (-21), 3) := by decide +kernel
theorem dX8_shop_176 : decode cX8_shop 176 = .ok (.aload_n 0, 1) := by decide +kernel
theorem dX8_shop_177 : decode cX8_shop 177 = .ok (.getfield 19, 3) := by decide +kernel
theorem dX8_shop_180 : decode cX8_shop 180 = .ok (.iconst 4, 1) := by decide +kernel
theorem dX8_shop_181 : decode cX8_shop 181 = .ok (.iaload, 1) := by decide +kernel
theorem dX8_shop_182 : decode cX8_shop 182 = .ok (.ireturn, 1) := by decide +kernel
def bX8_shop_0 : List sx_S := [si_al 0, si_const 0, si_put 7 0 0, si_al 0, si_cv 7 138 0 0 0 0 0, si_const 0, si_is 1, si_go 11 [true, true]]
def bX8_shop_11 : List sx_S := [si_il 1, si_const (nI 64), si_if2 (fun x y => y ≤ x) 30 [true, false], si_al 0, si_get 7 6, si_il 1, si_const 0, si_iast, si_inc 1 1, si_go 11 [true, true]]
def bX8_shop_30 : List sx_S := [si_al 0, si_get 7 6, si_const 0, si_const 1, si_iast, si_al 0, si_al 0, si_const (nI 102), si_cv 7 135 1 0 0 0 0, si_cv 7 134 1 0 0 0 0, si_al 0, si_get 7 6, si_const 1, si_al 0, si_const 0, si_const (nI 99), si_cv 7 136 2 0 0 0 0, si_iast, si_al 0, si_const (nI 44), si_cv 7 137 1 0 0 0 0, si_al 0, si_get 7 6, si_const (nI 2), si_al 0, si_const 0, si_const (nI 20), si_cv 7 136 2 0 0 0 0, si_iast, si_al 0, si_const (nI 44), si_cv 7 137 1 0 0 0 0, si_al 0, si_get 7 6, si_const (nI 3), si_al 0, si_const 1, si_const (nI 8), si_cv 7 136 2 0 0 0 0, si_iast, si_al 0, si_const (nI 59), si_cv 7 137 1 0 0 0 0, si_al 0, si_cv 7 142 0 0 0 0 0, si_if1 (fun x => ¬ x = 0) 116 [true, false], si_al 0, si_const 1, si_cv 7 132 1 0 0 0 0, si_go 116 [true, false]]
def bX8_shop_116 : List sx_S := [si_al 0, si_cv 7 142 0 0 0 0 0, si_if1 (fun x => x = 0) 130 [true, false], si_al 0, si_cv 7 143 0 0 0 0 0, si_go 116 [true, false]]
def bX8_shop_130 : List sx_S := [si_al 0, si_cv 7 139 0 0 0 0 0, si_if1 (fun x => x = 0) 145 [true, false], si_const (-1000100), si_al 0, si_get 7 17, si_bin (fun x y => x - y), si_ri]
def bX8_shop_145 : List sx_S := [si_al 0, si_const 0, si_put 7 9 0, si_const 0, si_is 1, si_go 152 [true, true]]
def bX8_shop_152 : List sx_S := [si_il 1, si_const (nI 64), si_if2 (fun x y => y ≤ x) 176 [true, false], si_al 0, si_get 7 5, si_il 1, si_al 0, si_get 7 6, si_il 1, si_iald, si_iast, si_inc 1 1, si_go 152 [true, true]]
def bX8_shop_176 : List sx_S := [si_al 0, si_get 7 5, si_const (nI 4), si_iald, si_ri]
def BX8_shop : Nat → List sx_S := fun pc => if pc = 0 then bX8_shop_0 else if pc = 11 then bX8_shop_11 else if pc = 30 then bX8_shop_30 else if pc = 116 then bX8_shop_116 else if pc = 130 then bX8_shop_130 else if pc = 145 then bX8_shop_145 else if pc = 152 then bX8_shop_152 else if pc = 176 then bX8_shop_176 else []
set_option maxRecDepth 20000 in
theorem kX8_shop_0 : sx_BK sx_tb yX8_shop.cls cX8_shop 2 (some .int) ({ frames := 5, cells := 0, slots := 0, locals := 114 } : Room) false false 0 (fun _ => 0) 0 (bX8_shop_0) := ⟨_, ⟨sn_aload_n dX8_shop_0 rfl, sm_al _⟩, ⟨_, ⟨sn_iconst dX8_shop_1 (by decide +kernel), sm_const _⟩, ⟨_, ⟨sn_put (C := RX8) (T := TX8) (N := 23) dX8_shop_2 rfl zinX8 tyX8_ok nmX8 (Nat.le_of_ble_eq_true rfl) zw_3_182 rfl (tyX8_ok 0 (Nat.le_of_ble_eq_true rfl)) trivial, sm_put _ _ _⟩, ⟨_, ⟨sn_aload_n dX8_shop_5 rfl, sm_al _⟩, ⟨_, ⟨sn_cv_v (N := 23) (T := TX8) ztb_X8_begin dX8_shop_6 rfl rfl zw_4_57 zw_4_59 zw_0_35 zw_1_8 zw_4_60 zmh_X8 zpd_X8_begin (Nat.le_of_ble_eq_true rfl) (Nat.le_of_ble_eq_true rfl) rfl rfl, sm_cv _ _ _ _ _ _ _⟩, ⟨_, ⟨sn_iconst dX8_shop_9 (by decide +kernel), sm_const _⟩, ⟨_, ⟨sn_istore_n dX8_shop_10 rfl (Nat.le_of_ble_eq_true rfl), sm_is _⟩, ⟨_, ⟨sn_fall (len := 0) rfl rfl, sm_go _ _⟩, trivial⟩⟩⟩⟩⟩⟩⟩⟩
set_option maxRecDepth 20000 in
theorem kX8_shop_11 : sx_BK sx_tb yX8_shop.cls cX8_shop 2 (some .int) ({ frames := 5, cells := 0, slots := 0, locals := 114 } : Room) false false 0 (fun _ => 0) 11 (bX8_shop_11) := ⟨_, ⟨sn_iload_n dX8_shop_11 rfl, sm_il _⟩, ⟨_, ⟨sn_bipush dX8_shop_12 (by decide +kernel), sm_const _⟩, ⟨_, ⟨sn_ic_ge dX8_shop_14 (by decide +kernel) rfl, sm_if2 _ _ _⟩, ⟨_, ⟨sn_aload_n dX8_shop_17 rfl, sm_al _⟩, ⟨_, ⟨sn_get (C := RX8) (T := TX8) (N := 23) dX8_shop_18 rfl zinX8 (Nat.le_of_ble_eq_true rfl) zw_3_188, sm_get _ _⟩, ⟨_, ⟨sn_iload_n dX8_shop_21 rfl, sm_il _⟩, ⟨_, ⟨sn_iconst dX8_shop_22 (by decide +kernel), sm_const _⟩, ⟨_, ⟨sn_iast dX8_shop_23, sm_iast⟩, ⟨_, ⟨sn_iinc dX8_shop_24 (by decide +kernel) (Nat.le_of_ble_eq_true rfl), sm_inc _ _⟩, ⟨_, ⟨sn_goto (len := 3) dX8_shop_27 (by decide +kernel) rfl, sm_go _ _⟩, trivial⟩⟩⟩⟩⟩⟩⟩⟩⟩⟩
set_option maxRecDepth 20000 in
theorem kX8_shop_30 : sx_BK sx_tb yX8_shop.cls cX8_shop 2 (some .int) ({ frames := 5, cells := 0, slots := 0, locals := 114 } : Room) false false 0 (fun _ => 0) 30 (bX8_shop_30) := ⟨_, ⟨sn_aload_n dX8_shop_30 rfl, sm_al _⟩, ⟨_, ⟨sn_get (C := RX8) (T := TX8) (N := 23) dX8_shop_31 rfl zinX8 (Nat.le_of_ble_eq_true rfl) zw_3_188, sm_get _ _⟩, ⟨_, ⟨sn_iconst dX8_shop_34 (by decide +kernel), sm_const _⟩, ⟨_, ⟨sn_iconst dX8_shop_35 (by decide +kernel), sm_const _⟩, ⟨_, ⟨sn_iast dX8_shop_36, sm_iast⟩, ⟨_, ⟨sn_aload_n dX8_shop_37 rfl, sm_al _⟩, ⟨_, ⟨sn_aload_n dX8_shop_38 rfl, sm_al _⟩, ⟨_, ⟨sn_bipush dX8_shop_39 (by decide +kernel), sm_const _⟩, ⟨_, ⟨sn_cv_z (N := 23) (T := TX8) ztb_X8_isLetter dX8_shop_41 rfl rfl zw_4_70 zw_4_72 zw_0_37 zw_1_8 zw_4_73 zmh_X8 zpd_X8_isLetter (Nat.le_of_ble_eq_true rfl) (Nat.le_of_ble_eq_true rfl) rfl rfl, sm_cv _ _ _ _ _ _ _⟩, ⟨_, ⟨sn_cv_v (N := 23) (T := TX8) ztb_X8_must dX8_shop_44 rfl rfl zw_4_74 zw_4_76 zw_0_38 zw_1_8 zw_4_77 zmh_X8 zpd_X8_must (Nat.le_of_ble_eq_true rfl) (Nat.le_of_ble_eq_true rfl) rfl rfl, sm_cv _ _ _ _ _ _ _⟩, ⟨_, ⟨sn_aload_n dX8_shop_47 rfl, sm_al _⟩, ⟨_, ⟨sn_get (C := RX8) (T := TX8) (N := 23) dX8_shop_48 rfl zinX8 (Nat.le_of_ble_eq_true rfl) zw_3_188, sm_get _ _⟩, ⟨_, ⟨sn_iconst dX8_shop_51 (by decide +kernel), sm_const _⟩, ⟨_, ⟨sn_aload_n dX8_shop_52 rfl, sm_al _⟩, ⟨_, ⟨sn_iconst dX8_shop_53 (by decide +kernel), sm_const _⟩, ⟨_, ⟨sn_bipush dX8_shop_54 (by decide +kernel), sm_const _⟩, ⟨_, ⟨sn_cv_i (N := 23) (T := TX8) ztb_X8_number dX8_shop_56 rfl rfl zw_4_82 zw_4_84 zw_0_40 zw_1_8 zw_4_85 zmh_X8 zpd_X8_number (Nat.le_of_ble_eq_true rfl) (Nat.le_of_ble_eq_true rfl) rfl rfl, sm_cv _ _ _ _ _ _ _⟩, ⟨_, ⟨sn_iast dX8_shop_59, sm_iast⟩, ⟨_, ⟨sn_aload_n dX8_shop_60 rfl, sm_al _⟩, ⟨_, ⟨sn_bipush dX8_shop_61 (by decide +kernel), sm_const _⟩, ⟨_, ⟨sn_cv_v (N := 23) (T := TX8) ztb_X8_mustSign dX8_shop_63 rfl rfl zw_4_86 zw_4_88 zw_0_41 zw_1_8 zw_4_89 zmh_X8 zpd_X8_mustSign (Nat.le_of_ble_eq_true rfl) (Nat.le_of_ble_eq_true rfl) rfl rfl, sm_cv _ _ _ _ _ _ _⟩, ⟨_, ⟨sn_aload_n dX8_shop_66 rfl, sm_al _⟩, ⟨_, ⟨sn_get (C := RX8) (T := TX8) (N := 23) dX8_shop_67 rfl zinX8 (Nat.le_of_ble_eq_true rfl) zw_3_188, sm_get _ _⟩, ⟨_, ⟨sn_iconst dX8_shop_70 (by decide +kernel), sm_const _⟩, ⟨_, ⟨sn_aload_n dX8_shop_71 rfl, sm_al _⟩, ⟨_, ⟨sn_iconst dX8_shop_72 (by decide +kernel), sm_const _⟩, ⟨_, ⟨sn_bipush dX8_shop_73 (by decide +kernel), sm_const _⟩, ⟨_, ⟨sn_cv_i (N := 23) (T := TX8) ztb_X8_number dX8_shop_75 rfl rfl zw_4_82 zw_4_84 zw_0_40 zw_1_8 zw_4_85 zmh_X8 zpd_X8_number (Nat.le_of_ble_eq_true rfl) (Nat.le_of_ble_eq_true rfl) rfl rfl, sm_cv _ _ _ _ _ _ _⟩, ⟨_, ⟨sn_iast dX8_shop_78, sm_iast⟩, ⟨_, ⟨sn_aload_n dX8_shop_79 rfl, sm_al _⟩, ⟨_, ⟨sn_bipush dX8_shop_80 (by decide +kernel), sm_const _⟩, ⟨_, ⟨sn_cv_v (N := 23) (T := TX8) ztb_X8_mustSign dX8_shop_82 rfl rfl zw_4_86 zw_4_88 zw_0_41 zw_1_8 zw_4_89 zmh_X8 zpd_X8_mustSign (Nat.le_of_ble_eq_true rfl) (Nat.le_of_ble_eq_true rfl) rfl rfl, sm_cv _ _ _ _ _ _ _⟩, ⟨_, ⟨sn_aload_n dX8_shop_85 rfl, sm_al _⟩, ⟨_, ⟨sn_get (C := RX8) (T := TX8) (N := 23) dX8_shop_86 rfl zinX8 (Nat.le_of_ble_eq_true rfl) zw_3_188, sm_get _ _⟩, ⟨_, ⟨sn_iconst dX8_shop_89 (by decide +kernel), sm_const _⟩, ⟨_, ⟨sn_aload_n dX8_shop_90 rfl, sm_al _⟩, ⟨_, ⟨sn_iconst dX8_shop_91 (by decide +kernel), sm_const _⟩, ⟨_, ⟨sn_bipush dX8_shop_92 (by decide +kernel), sm_const _⟩, ⟨_, ⟨sn_cv_i (N := 23) (T := TX8) ztb_X8_number dX8_shop_94 rfl rfl zw_4_82 zw_4_84 zw_0_40 zw_1_8 zw_4_85 zmh_X8 zpd_X8_number (Nat.le_of_ble_eq_true rfl) (Nat.le_of_ble_eq_true rfl) rfl rfl, sm_cv _ _ _ _ _ _ _⟩, ⟨_, ⟨sn_iast dX8_shop_97, sm_iast⟩, ⟨_, ⟨sn_aload_n dX8_shop_98 rfl, sm_al _⟩, ⟨_, ⟨sn_bipush dX8_shop_99 (by decide +kernel), sm_const _⟩, ⟨_, ⟨sn_cv_v (N := 23) (T := TX8) ztb_X8_mustSign dX8_shop_101 rfl rfl zw_4_86 zw_4_88 zw_0_41 zw_1_8 zw_4_89 zmh_X8 zpd_X8_mustSign (Nat.le_of_ble_eq_true rfl) (Nat.le_of_ble_eq_true rfl) rfl rfl, sm_cv _ _ _ _ _ _ _⟩, ⟨_, ⟨sn_aload_n dX8_shop_104 rfl, sm_al _⟩, ⟨_, ⟨sn_cv_z (N := 23) (T := TX8) ztb_X8_isSort dX8_shop_105 rfl rfl zw_4_90 zw_4_92 zw_0_42 zw_1_8 zw_4_93 zmh_X8 zpd_X8_isSort (Nat.le_of_ble_eq_true rfl) (Nat.le_of_ble_eq_true rfl) rfl rfl, sm_cv _ _ _ _ _ _ _⟩, ⟨_, ⟨sn_if_ne dX8_shop_108 (by decide +kernel) rfl, sm_if1 _ _ _⟩, ⟨_, ⟨sn_aload_n dX8_shop_111 rfl, sm_al _⟩, ⟨_, ⟨sn_iconst dX8_shop_112 (by decide +kernel), sm_const _⟩, ⟨_, ⟨sn_cv_v (N := 23) (T := TX8) ztb_X8_bad dX8_shop_113 rfl rfl zw_4_78 zw_4_80 zw_0_39 zw_1_8 zw_4_81 zmh_X8 zpd_X8_bad (Nat.le_of_ble_eq_true rfl) (Nat.le_of_ble_eq_true rfl) rfl rfl, sm_cv _ _ _ _ _ _ _⟩, ⟨_, ⟨sn_fall (len := 0) rfl rfl, sm_go _ _⟩, trivial⟩⟩⟩⟩⟩⟩⟩⟩⟩⟩⟩⟩⟩⟩⟩⟩⟩⟩⟩⟩⟩⟩⟩⟩⟩⟩⟩⟩⟩⟩⟩⟩⟩⟩⟩⟩⟩⟩⟩⟩⟩⟩⟩⟩⟩⟩⟩⟩⟩⟩
set_option maxRecDepth 20000 in
theorem kX8_shop_116 : sx_BK sx_tb yX8_shop.cls cX8_shop 2 (some .int) ({ frames := 5, cells := 0, slots := 0, locals := 114 } : Room) false false 0 (fun _ => 0) 116 (bX8_shop_116) := ⟨_, ⟨sn_aload_n dX8_shop_116 rfl, sm_al _⟩, ⟨_, ⟨sn_cv_z (N := 23) (T := TX8) ztb_X8_isSort dX8_shop_117 rfl rfl zw_4_90 zw_4_92 zw_0_42 zw_1_8 zw_4_93 zmh_X8 zpd_X8_isSort (Nat.le_of_ble_eq_true rfl) (Nat.le_of_ble_eq_true rfl) rfl rfl, sm_cv _ _ _ _ _ _ _⟩, ⟨_, ⟨sn_if_eq dX8_shop_120 (by decide +kernel) rfl, sm_if1 _ _ _⟩, ⟨_, ⟨sn_aload_n dX8_shop_123 rfl, sm_al _⟩, ⟨_, ⟨sn_cv_v (N := 23) (T := TX8) ztb_X8_readDebtor dX8_shop_124 rfl rfl zw_4_97 zw_4_99 zw_0_43 zw_1_8 zw_4_100 zmh_X8 zpd_X8_readDebtor (Nat.le_of_ble_eq_true rfl) (Nat.le_of_ble_eq_true rfl) rfl rfl, sm_cv _ _ _ _ _ _ _⟩, ⟨_, ⟨sn_goto (len := 3) dX8_shop_127 (by decide +kernel) rfl, sm_go _ _⟩, trivial⟩⟩⟩⟩⟩⟩
set_option maxRecDepth 20000 in
theorem kX8_shop_130 : sx_BK sx_tb yX8_shop.cls cX8_shop 2 (some .int) ({ frames := 5, cells := 0, slots := 0, locals := 114 } : Room) false false 0 (fun _ => 0) 130 (bX8_shop_130) := ⟨_, ⟨sn_aload_n dX8_shop_130 rfl, sm_al _⟩, ⟨_, ⟨sn_cv_z (N := 23) (T := TX8) ztb_X8_failed dX8_shop_131 rfl rfl zw_4_101 zw_4_103 zw_0_44 zw_1_8 zw_4_104 zmh_X8 zpd_X8_failed (Nat.le_of_ble_eq_true rfl) (Nat.le_of_ble_eq_true rfl) rfl rfl, sm_cv _ _ _ _ _ _ _⟩, ⟨_, ⟨sn_if_eq dX8_shop_134 (by decide +kernel) rfl, sm_if1 _ _ _⟩, ⟨_, ⟨sn_ldc dX8_shop_137 zw_4_105, sm_const _⟩, ⟨_, ⟨sn_aload_n dX8_shop_139 rfl, sm_al _⟩, ⟨_, ⟨sn_get (C := RX8) (T := TX8) (N := 23) dX8_shop_140 rfl zinX8 (Nat.le_of_ble_eq_true rfl) zw_3_199, sm_get _ _⟩, ⟨_, ⟨sn_isub dX8_shop_143, sm_bin _⟩, ⟨_, ⟨sn_ri (len := 1) dX8_shop_144 rfl, sm_ri⟩, trivial⟩⟩⟩⟩⟩⟩⟩⟩
set_option maxRecDepth 20000 in
theorem kX8_shop_145 : sx_BK sx_tb yX8_shop.cls cX8_shop 2 (some .int) ({ frames := 5, cells := 0, slots := 0, locals := 114 } : Room) false false 0 (fun _ => 0) 145 (bX8_shop_145) := ⟨_, ⟨sn_aload_n dX8_shop_145 rfl, sm_al _⟩, ⟨_, ⟨sn_iconst dX8_shop_146 (by decide +kernel), sm_const _⟩, ⟨_, ⟨sn_put (C := RX8) (T := TX8) (N := 23) dX8_shop_147 rfl zinX8 tyX8_ok nmX8 (Nat.le_of_ble_eq_true rfl) zw_3_191 rfl (tyX8_ok 9 (Nat.le_of_ble_eq_true rfl)) trivial, sm_put _ _ _⟩, ⟨_, ⟨sn_iconst dX8_shop_150 (by decide +kernel), sm_const _⟩, ⟨_, ⟨sn_istore_n dX8_shop_151 rfl (Nat.le_of_ble_eq_true rfl), sm_is _⟩, ⟨_, ⟨sn_fall (len := 0) rfl rfl, sm_go _ _⟩, trivial⟩⟩⟩⟩⟩⟩
set_option maxRecDepth 20000 in
theorem kX8_shop_152 : sx_BK sx_tb yX8_shop.cls cX8_shop 2 (some .int) ({ frames := 5, cells := 0, slots := 0, locals := 114 } : Room) false false 0 (fun _ => 0) 152 (bX8_shop_152) := ⟨_, ⟨sn_iload_n dX8_shop_152 rfl, sm_il _⟩, ⟨_, ⟨sn_bipush dX8_shop_153 (by decide +kernel), sm_const _⟩, ⟨_, ⟨sn_ic_ge dX8_shop_155 (by decide +kernel) rfl, sm_if2 _ _ _⟩, ⟨_, ⟨sn_aload_n dX8_shop_158 rfl, sm_al _⟩, ⟨_, ⟨sn_get (C := RX8) (T := TX8) (N := 23) dX8_shop_159 rfl zinX8 (Nat.le_of_ble_eq_true rfl) zw_3_187, sm_get _ _⟩, ⟨_, ⟨sn_iload_n dX8_shop_162 rfl, sm_il _⟩, ⟨_, ⟨sn_aload_n dX8_shop_163 rfl, sm_al _⟩, ⟨_, ⟨sn_get (C := RX8) (T := TX8) (N := 23) dX8_shop_164 rfl zinX8 (Nat.le_of_ble_eq_true rfl) zw_3_188, sm_get _ _⟩, ⟨_, ⟨sn_iload_n dX8_shop_167 rfl, sm_il _⟩, ⟨_, ⟨sn_iald dX8_shop_168, sm_iald⟩, ⟨_, ⟨sn_iast dX8_shop_169, sm_iast⟩, ⟨_, ⟨sn_iinc dX8_shop_170 (by decide +kernel) (Nat.le_of_ble_eq_true rfl), sm_inc _ _⟩, ⟨_, ⟨sn_goto (len := 3) dX8_shop_173 (by decide +kernel) rfl, sm_go _ _⟩, trivial⟩⟩⟩⟩⟩⟩⟩⟩⟩⟩⟩⟩⟩
set_option maxRecDepth 20000 in
theorem kX8_shop_176 : sx_BK sx_tb yX8_shop.cls cX8_shop 2 (some .int) ({ frames := 5, cells := 0, slots := 0, locals := 114 } : Room) false false 0 (fun _ => 0) 176 (bX8_shop_176) := ⟨_, ⟨sn_aload_n dX8_shop_176 rfl, sm_al _⟩, ⟨_, ⟨sn_get (C := RX8) (T := TX8) (N := 23) dX8_shop_177 rfl zinX8 (Nat.le_of_ble_eq_true rfl) zw_3_187, sm_get _ _⟩, ⟨_, ⟨sn_iconst dX8_shop_180 (by decide +kernel), sm_const _⟩, ⟨_, ⟨sn_iald dX8_shop_181, sm_iald⟩, ⟨_, ⟨sn_ri (len := 1) dX8_shop_182 rfl, sm_ri⟩, trivial⟩⟩⟩⟩⟩
theorem kX8_shop : ∀ pc, sx_BK sx_tb yX8_shop.cls cX8_shop 2 (some .int) ({ frames := 5, cells := 0, slots := 0, locals := 114 } : Room) false false 0 (fun _ => 0) pc (BX8_shop pc) := fun pc => sx_bk_if (kX8_shop_0) (sx_bk_if (kX8_shop_11) (sx_bk_if (kX8_shop_30) (sx_bk_if (kX8_shop_116) (sx_bk_if (kX8_shop_130) (sx_bk_if (kX8_shop_145) (sx_bk_if (kX8_shop_152) (sx_bk_if (kX8_shop_176) (trivial))))))))
theorem okX8_shop : sx_ok sx_tb BX8_shop (yX8_shop, cX8_shop, 2, some .int, { frames := 5, cells := 0, slots := 0, locals := 114 }) := ⟨by decide, by decide +kernel, false, (fun h => by cases h), kX8_shop⟩
theorem dX8_isThere_0 : decode cX8_isThere 0 = .ok (.aload_n 0, 1) := by decide +kernel
theorem dX8_isThere_1 : decode cX8_isThere 1 = .ok (.getfield 19, 3) := by decide +kernel
theorem dX8_isThere_4 : decode cX8_isThere 4 = .ok (.iconst 0, 1) := by decide +kernel
theorem dX8_isThere_5 : decode cX8_isThere 5 = .ok (.iaload, 1) := by decide +kernel
theorem dX8_isThere_6 : decode cX8_isThere 6 = .ok (.iconst 1, 1) := by decide +kernel
theorem dX8_isThere_7 : decode cX8_isThere 7 = .ok (.if_icmp .ne 7, 3) := by decide +kernel
theorem dX8_isThere_10 : decode cX8_isThere 10 = .ok (.iconst 1, 1) := by decide +kernel
theorem dX8_isThere_11 : decode cX8_isThere 11 = .ok (.goto 4, 3) := by decide +kernel
theorem dX8_isThere_14 : decode cX8_isThere 14 = .ok (.iconst 0, 1) := by decide +kernel
theorem dX8_isThere_15 : decode cX8_isThere 15 = .ok (.ireturn, 1) := by decide +kernel
def bX8_isThere_0 : List sx_S := [si_al 0, si_get 7 5, si_const 0, si_iald, si_const 1, si_if2 (fun x y => ¬ x = y) 14 [false], si_const 1, si_go 15 [false]]
def bX8_isThere_14 : List sx_S := [si_const 0, si_go 15 [false]]
def bX8_isThere_15 : List sx_S := [si_rz]
def BX8_isThere : Nat → List sx_S := fun pc => if pc = 0 then bX8_isThere_0 else if pc = 14 then bX8_isThere_14 else if pc = 15 then bX8_isThere_15 else []
set_option maxRecDepth 20000 in
theorem kX8_isThere_0 : sx_BK sx_tb yX8_isThere.cls cX8_isThere 1 (some .boolean) ({ frames := 0, cells := 0, slots := 0, locals := 0 } : Room) false false 0 (fun _ => 0) 0 (bX8_isThere_0) := ⟨_, ⟨sn_aload_n dX8_isThere_0 rfl, sm_al _⟩, ⟨_, ⟨sn_get (C := RX8) (T := TX8) (N := 23) dX8_isThere_1 rfl zinX8 (Nat.le_of_ble_eq_true rfl) zw_3_187, sm_get _ _⟩, ⟨_, ⟨sn_iconst dX8_isThere_4 (by decide +kernel), sm_const _⟩, ⟨_, ⟨sn_iald dX8_isThere_5, sm_iald⟩, ⟨_, ⟨sn_iconst dX8_isThere_6 (by decide +kernel), sm_const _⟩, ⟨_, ⟨sn_ic_ne dX8_isThere_7 (by decide +kernel) rfl, sm_if2 _ _ _⟩, ⟨_, ⟨sn_iconst dX8_isThere_10 (by decide +kernel), sm_const _⟩, ⟨_, ⟨sn_goto (len := 3) dX8_isThere_11 (by decide +kernel) rfl, sm_go _ _⟩, trivial⟩⟩⟩⟩⟩⟩⟩⟩
set_option maxRecDepth 20000 in
theorem kX8_isThere_14 : sx_BK sx_tb yX8_isThere.cls cX8_isThere 1 (some .boolean) ({ frames := 0, cells := 0, slots := 0, locals := 0 } : Room) false false 0 (fun _ => 0) 14 (bX8_isThere_14) := ⟨_, ⟨sn_iconst dX8_isThere_14 (by decide +kernel), sm_const _⟩, ⟨_, ⟨sn_fall (len := 0) rfl rfl, sm_go _ _⟩, trivial⟩⟩
set_option maxRecDepth 20000 in
theorem kX8_isThere_15 : sx_BK sx_tb yX8_isThere.cls cX8_isThere 1 (some .boolean) ({ frames := 0, cells := 0, slots := 0, locals := 0 } : Room) false false 0 (fun _ => 0) 15 (bX8_isThere_15) := ⟨_, ⟨sn_rz (len := 1) dX8_isThere_15 rfl, sm_rz⟩, trivial⟩
theorem kX8_isThere : ∀ pc, sx_BK sx_tb yX8_isThere.cls cX8_isThere 1 (some .boolean) ({ frames := 0, cells := 0, slots := 0, locals := 0 } : Room) false false 0 (fun _ => 0) pc (BX8_isThere pc) := fun pc => sx_bk_if (kX8_isThere_0) (sx_bk_if (kX8_isThere_14) (sx_bk_if (kX8_isThere_15) (trivial)))
theorem okX8_isThere : sx_ok sx_tb BX8_isThere (yX8_isThere, cX8_isThere, 1, some .boolean, { frames := 0, cells := 0, slots := 0, locals := 0 }) := ⟨by decide, by decide +kernel, false, (fun h => by cases h), kX8_isThere⟩
theorem dX8_isDebtor_0 : decode cX8_isDebtor 0 = .ok (.iload_n 1, 1) := by decide +kernel
theorem dX8_isDebtor_1 : decode cX8_isDebtor 1 = .ok (.i2l, 1) := by decide +kernel
theorem dX8_isDebtor_2 : decode cX8_isDebtor 2 = .ok (.lconst 0, 1) := by decide +kernel
theorem dX8_isDebtor_3 : decode cX8_isDebtor 3 = .ok (.aload_n 0, 1) := by decide +kernel
theorem dX8_isDebtor_4 : decode cX8_isDebtor 4 = .ok (.getfield 19, 3) := by decide +kernel
theorem dX8_isDebtor_7 : decode cX8_isDebtor 7 = .ok (.iconst 4, 1) := by decide +kernel
theorem dX8_isDebtor_8 : decode cX8_isDebtor 8 = .ok (.iaload, 1) := by decide +kernel
theorem dX8_isDebtor_9 : decode cX8_isDebtor 9 = .ok (.iconst 1, 1) := by decide +kernel
theorem dX8_isDebtor_10 : decode cX8_isDebtor 10 = .ok (.isub, 1) := by decide +kernel
theorem dX8_isDebtor_11 : decode cX8_isDebtor 11 = .ok (.i2l, 1) := by decide +kernel
theorem dX8_isDebtor_12 : decode cX8_isDebtor 12 = .ok (.invokestatic 54, 3) := by decide +kernel
theorem dX8_isDebtor_15 : decode cX8_isDebtor 15 = .ok (.ireturn, 1) := by decide +kernel
def bX8_isDebtor_0 : List sx_S := [si_il 1, si_i2l, si_lconst 0, si_al 0, si_get 7 5, si_const (nI 4), si_iald, si_const 1, si_bin (fun x y => x - y), si_i2l, si_cs 124 3 0 0 0 0, si_rz]
def BX8_isDebtor : Nat → List sx_S := fun pc => if pc = 0 then bX8_isDebtor_0 else []
set_option maxRecDepth 20000 in
theorem kX8_isDebtor_0 : sx_BK sx_tb yX8_isDebtor.cls cX8_isDebtor 2 (some .boolean) ({ frames := 1, cells := 0, slots := 0, locals := 25 } : Room) false false 0 (fun _ => 0) 0 (bX8_isDebtor_0) := ⟨_, ⟨sn_iload_n dX8_isDebtor_0 rfl, sm_il _⟩, ⟨_, ⟨sn_i2l dX8_isDebtor_1, sm_i2l⟩, ⟨_, ⟨sn_lconst dX8_isDebtor_2 (by decide +kernel), sm_lconst _⟩, ⟨_, ⟨sn_aload_n dX8_isDebtor_3 rfl, sm_al _⟩, ⟨_, ⟨sn_get (C := RX8) (T := TX8) (N := 23) dX8_isDebtor_4 rfl zinX8 (Nat.le_of_ble_eq_true rfl) zw_3_187, sm_get _ _⟩, ⟨_, ⟨sn_iconst dX8_isDebtor_7 (by decide +kernel), sm_const _⟩, ⟨_, ⟨sn_iald dX8_isDebtor_8, sm_iald⟩, ⟨_, ⟨sn_iconst dX8_isDebtor_9 (by decide +kernel), sm_const _⟩, ⟨_, ⟨sn_isub dX8_isDebtor_10, sm_bin _⟩, ⟨_, ⟨sn_i2l dX8_isDebtor_11, sm_i2l⟩, ⟨_, ⟨sn_cs_z ztb_X8_in dX8_isDebtor_12 zw_4_21 zw_4_22 zw_1_8 zw_4_23 zmh_X8 zpd_X8_in (Nat.le_of_ble_eq_true rfl) (Nat.le_of_ble_eq_true rfl) rfl rfl, sm_cs _ _ _ _ _ _⟩, ⟨_, ⟨sn_rz (len := 1) dX8_isDebtor_15 rfl, sm_rz⟩, trivial⟩⟩⟩⟩⟩⟩⟩⟩⟩⟩⟩⟩
theorem kX8_isDebtor : ∀ pc, sx_BK sx_tb yX8_isDebtor.cls cX8_isDebtor 2 (some .boolean) ({ frames := 1, cells := 0, slots := 0, locals := 25 } : Room) false false 0 (fun _ => 0) pc (BX8_isDebtor pc) := fun pc => sx_bk_if (kX8_isDebtor_0) (trivial)
theorem okX8_isDebtor : sx_ok sx_tb BX8_isDebtor (yX8_isDebtor, cX8_isDebtor, 2, some .boolean, { frames := 1, cells := 0, slots := 0, locals := 25 }) := ⟨by decide, by decide +kernel, false, (fun h => by cases h), kX8_isDebtor⟩
theorem dX8_of_0 : decode cX8_of 0 = .ok (.aload_n 0, 1) := by decide +kernel
theorem dX8_of_1 : decode cX8_of 1 = .ok (.bipush 10, 2) := by decide +kernel
theorem dX8_of_3 : decode cX8_of 3 = .ok (.bipush 9, 2) := by decide +kernel
theorem dX8_of_5 : decode cX8_of 5 = .ok (.iload_n 1, 1) := by decide +kernel
theorem dX8_of_6 : decode cX8_of 6 = .ok (.imul, 1) := by decide +kernel
theorem dX8_of_7 : decode cX8_of 7 = .ok (.iadd, 1) := by decide +kernel
theorem dX8_of_8 : decode cX8_of 8 = .ok (.iload_n 2, 1) := by decide +kernel
theorem dX8_of_9 : decode cX8_of 9 = .ok (.iadd, 1) := by decide +kernel
theorem dX8_of_10 : decode cX8_of 10 = .ok (.iaload, 1) := by decide +kernel
theorem dX8_of_11 : decode cX8_of 11 = .ok (.ireturn, 1) := by decide +kernel
def bX8_of_0 : List sx_S := [si_al 0, si_const (nI 10), si_const (nI 9), si_il 1, si_bin (fun x y => x * y), si_bin (fun x y => x + y), si_il 2, si_bin (fun x y => x + y), si_iald, si_ri]
def BX8_of : Nat → List sx_S := fun pc => if pc = 0 then bX8_of_0 else []
set_option maxRecDepth 20000 in
theorem kX8_of_0 : sx_BK sx_tb yX8_of.cls cX8_of 3 (some .int) ({ frames := 0, cells := 0, slots := 0, locals := 0 } : Room) false false 0 (fun _ => 0) 0 (bX8_of_0) := ⟨_, ⟨sn_aload_n dX8_of_0 rfl, sm_al _⟩, ⟨_, ⟨sn_bipush dX8_of_1 (by decide +kernel), sm_const _⟩, ⟨_, ⟨sn_bipush dX8_of_3 (by decide +kernel), sm_const _⟩, ⟨_, ⟨sn_iload_n dX8_of_5 rfl, sm_il _⟩, ⟨_, ⟨sn_imul dX8_of_6, sm_bin _⟩, ⟨_, ⟨sn_iadd dX8_of_7, sm_bin _⟩, ⟨_, ⟨sn_iload_n dX8_of_8 rfl, sm_il _⟩, ⟨_, ⟨sn_iadd dX8_of_9, sm_bin _⟩, ⟨_, ⟨sn_iald dX8_of_10, sm_iald⟩, ⟨_, ⟨sn_ri (len := 1) dX8_of_11 rfl, sm_ri⟩, trivial⟩⟩⟩⟩⟩⟩⟩⟩⟩⟩
theorem kX8_of : ∀ pc, sx_BK sx_tb yX8_of.cls cX8_of 3 (some .int) ({ frames := 0, cells := 0, slots := 0, locals := 0 } : Room) false false 0 (fun _ => 0) pc (BX8_of pc) := fun pc => sx_bk_if (kX8_of_0) (trivial)
theorem okX8_of : sx_ok sx_tb BX8_of (yX8_of, cX8_of, 3, some .int, { frames := 0, cells := 0, slots := 0, locals := 0 }) := ⟨by decide, by decide +kernel, false, (fun h => by cases h), kX8_of⟩
theorem dX8_isOut_0 : decode cX8_isOut 0 = .ok (.aload_n 0, 1) := by decide +kernel
theorem dX8_isOut_1 : decode cX8_isOut 1 = .ok (.iload_n 1, 1) := by decide +kernel
theorem dX8_isOut_2 : decode cX8_isOut 2 = .ok (.iconst 5, 1) := by decide +kernel
theorem dX8_isOut_3 : decode cX8_isOut 3 = .ok (.invokestatic 146, 3) := by decide +kernel
theorem dX8_isOut_6 : decode cX8_isOut 6 = .ok (.iconst 1, 1) := by decide +kernel
theorem dX8_isOut_7 : decode cX8_isOut 7 = .ok (.if_icmp .eq 14, 3) := by decide +kernel
theorem dX8_isOut_10 : decode cX8_isOut 10 = .ok (.aload_n 0, 1) := by decide +kernel
theorem dX8_isOut_11 : decode cX8_isOut 11 = .ok (.iload_n 1, 1) := by decide +kernel
theorem dX8_isOut_12 : decode cX8_isOut 12 = .ok (.bipush 6, 2) := by decide +kernel
theorem dX8_isOut_14 : decode cX8_isOut 14 = .ok (.invokestatic 146, 3) := by decide +kernel
theorem dX8_isOut_17 : decode cX8_isOut 17 = .ok (.iconst 1, 1) := by decide +kernel
theorem dX8_isOut_18 : decode cX8_isOut 18 = .ok (.if_icmp .ne 7, 3) := by decide +kernel
theorem dX8_isOut_21 : decode cX8_isOut 21 = .ok (.iconst 1, 1) := by decide +kernel
theorem dX8_isOut_22 : decode cX8_isOut 22 = .ok (.goto 4, 3) := by decide +kernel
theorem dX8_isOut_25 : decode cX8_isOut 25 = .ok (.iconst 0, 1) := by decide +kernel
theorem dX8_isOut_26 : decode cX8_isOut 26 = .ok (.ireturn, 1) := by decide +kernel
def bX8_isOut_0 : List sx_S := [si_al 0, si_il 1, si_const (nI 5), si_cs 147 3 0 0 0 0, si_const 1, si_if2 (fun x y => x = y) 21 [false, false], si_al 0, si_il 1, si_const (nI 6), si_cs 147 3 0 0 0 0, si_const 1, si_if2 (fun x y => ¬ x = y) 25 [false, false], si_go 21 [false, false]]
def bX8_isOut_21 : List sx_S := [si_const 1, si_go 26 [false, false]]
def bX8_isOut_25 : List sx_S := [si_const 0, si_go 26 [false, false]]
def bX8_isOut_26 : List sx_S := [si_rz]
def BX8_isOut : Nat → List sx_S := fun pc => if pc = 0 then bX8_isOut_0 else if pc = 21 then bX8_isOut_21 else if pc = 25 then bX8_isOut_25 else if pc = 26 then bX8_isOut_26 else []
set_option maxRecDepth 20000 in
theorem kX8_isOut_0 : sx_BK sx_tb yX8_isOut.cls cX8_isOut 2 (some .boolean) ({ frames := 1, cells := 0, slots := 0, locals := 22 } : Room) false false 0 (fun _ => 0) 0 (bX8_isOut_0) := ⟨_, ⟨sn_aload_n dX8_isOut_0 rfl, sm_al _⟩, ⟨_, ⟨sn_iload_n dX8_isOut_1 rfl, sm_il _⟩, ⟨_, ⟨sn_iconst dX8_isOut_2 (by decide +kernel), sm_const _⟩, ⟨_, ⟨sn_cs_i ztb_X8_of dX8_isOut_3 zw_4_126 zw_4_127 zw_1_8 zw_4_128 zmh_X8 zpd_X8_of (Nat.le_of_ble_eq_true rfl) (Nat.le_of_ble_eq_true rfl) rfl rfl, sm_cs _ _ _ _ _ _⟩, ⟨_, ⟨sn_iconst dX8_isOut_6 (by decide +kernel), sm_const _⟩, ⟨_, ⟨sn_ic_eq dX8_isOut_7 (by decide +kernel) rfl, sm_if2 _ _ _⟩, ⟨_, ⟨sn_aload_n dX8_isOut_10 rfl, sm_al _⟩, ⟨_, ⟨sn_iload_n dX8_isOut_11 rfl, sm_il _⟩, ⟨_, ⟨sn_bipush dX8_isOut_12 (by decide +kernel), sm_const _⟩, ⟨_, ⟨sn_cs_i ztb_X8_of dX8_isOut_14 zw_4_126 zw_4_127 zw_1_8 zw_4_128 zmh_X8 zpd_X8_of (Nat.le_of_ble_eq_true rfl) (Nat.le_of_ble_eq_true rfl) rfl rfl, sm_cs _ _ _ _ _ _⟩, ⟨_, ⟨sn_iconst dX8_isOut_17 (by decide +kernel), sm_const _⟩, ⟨_, ⟨sn_ic_ne dX8_isOut_18 (by decide +kernel) rfl, sm_if2 _ _ _⟩, ⟨_, ⟨sn_fall (len := 0) rfl rfl, sm_go _ _⟩, trivial⟩⟩⟩⟩⟩⟩⟩⟩⟩⟩⟩⟩⟩
set_option maxRecDepth 20000 in
theorem kX8_isOut_21 : sx_BK sx_tb yX8_isOut.cls cX8_isOut 2 (some .boolean) ({ frames := 1, cells := 0, slots := 0, locals := 22 } : Room) false false 0 (fun _ => 0) 21 (bX8_isOut_21) := ⟨_, ⟨sn_iconst dX8_isOut_21 (by decide +kernel), sm_const _⟩, ⟨_, ⟨sn_goto (len := 3) dX8_isOut_22 (by decide +kernel) rfl, sm_go _ _⟩, trivial⟩⟩
set_option maxRecDepth 20000 in
theorem kX8_isOut_25 : sx_BK sx_tb yX8_isOut.cls cX8_isOut 2 (some .boolean) ({ frames := 1, cells := 0, slots := 0, locals := 22 } : Room) false false 0 (fun _ => 0) 25 (bX8_isOut_25) := ⟨_, ⟨sn_iconst dX8_isOut_25 (by decide +kernel), sm_const _⟩, ⟨_, ⟨sn_fall (len := 0) rfl rfl, sm_go _ _⟩, trivial⟩⟩
set_option maxRecDepth 20000 in
theorem kX8_isOut_26 : sx_BK sx_tb yX8_isOut.cls cX8_isOut 2 (some .boolean) ({ frames := 1, cells := 0, slots := 0, locals := 22 } : Room) false false 0 (fun _ => 0) 26 (bX8_isOut_26) := ⟨_, ⟨sn_rz (len := 1) dX8_isOut_26 rfl, sm_rz⟩, trivial⟩
theorem kX8_isOut : ∀ pc, sx_BK sx_tb yX8_isOut.cls cX8_isOut 2 (some .boolean) ({ frames := 1, cells := 0, slots := 0, locals := 22 } : Room) false false 0 (fun _ => 0) pc (BX8_isOut pc) := fun pc => sx_bk_if (kX8_isOut_0) (sx_bk_if (kX8_isOut_21) (sx_bk_if (kX8_isOut_25) (sx_bk_if (kX8_isOut_26) (trivial))))
theorem okX8_isOut : sx_ok sx_tb BX8_isOut (yX8_isOut, cX8_isOut, 2, some .boolean, { frames := 1, cells := 0, slots := 0, locals := 22 }) := ⟨by decide, by decide +kernel, false, (fun h => by cases h), kX8_isOut⟩
theorem dX8_least_0 : decode cX8_least 0 = .ok (.iload_n 0, 1) := by decide +kernel
theorem dX8_least_1 : decode cX8_least 1 = .ok (.iload_n 1, 1) := by decide +kernel
theorem dX8_least_2 : decode cX8_least 2 = .ok (.if_icmp .ge 7, 3) := by decide +kernel
theorem dX8_least_5 : decode cX8_least 5 = .ok (.iload_n 0, 1) := by decide +kernel
theorem dX8_least_6 : decode cX8_least 6 = .ok (.goto 4, 3) := by decide +kernel
theorem dX8_least_9 : decode cX8_least 9 = .ok (.iload_n 1, 1) := by decide +kernel
theorem dX8_least_10 : decode cX8_least 10 = .ok (.ireturn, 1) := by decide +kernel
def bX8_least_0 : List sx_S := [si_il 0, si_il 1, si_if2 (fun x y => y ≤ x) 9 [false, true], si_il 0, si_go 10 [false, false]]
def bX8_least_9 : List sx_S := [si_il 1, si_go 10 [false, false]]
def bX8_least_10 : List sx_S := [si_ri]
def BX8_least : Nat → List sx_S := fun pc => if pc = 0 then bX8_least_0 else if pc = 9 then bX8_least_9 else if pc = 10 then bX8_least_10 else []
set_option maxRecDepth 20000 in
theorem kX8_least_0 : sx_BK sx_tb yX8_least.cls cX8_least 2 (some .int) ({ frames := 0, cells := 0, slots := 0, locals := 0 } : Room) false false 0 (fun _ => 0) 0 (bX8_least_0) := ⟨_, ⟨sn_iload_n dX8_least_0 rfl, sm_il _⟩, ⟨_, ⟨sn_iload_n dX8_least_1 rfl, sm_il _⟩, ⟨_, ⟨sn_ic_ge dX8_least_2 (by decide +kernel) rfl, sm_if2 _ _ _⟩, ⟨_, ⟨sn_iload_n dX8_least_5 rfl, sm_il _⟩, ⟨_, ⟨sn_goto (len := 3) dX8_least_6 (by decide +kernel) rfl, sm_go _ _⟩, trivial⟩⟩⟩⟩⟩
set_option maxRecDepth 20000 in
theorem kX8_least_9 : sx_BK sx_tb yX8_least.cls cX8_least 2 (some .int) ({ frames := 0, cells := 0, slots := 0, locals := 0 } : Room) false false 0 (fun _ => 0) 9 (bX8_least_9) := ⟨_, ⟨sn_iload_n dX8_least_9 rfl, sm_il _⟩, ⟨_, ⟨sn_fall (len := 0) rfl rfl, sm_go _ _⟩, trivial⟩⟩
set_option maxRecDepth 20000 in
theorem kX8_least_10 : sx_BK sx_tb yX8_least.cls cX8_least 2 (some .int) ({ frames := 0, cells := 0, slots := 0, locals := 0 } : Room) false false 0 (fun _ => 0) 10 (bX8_least_10) := ⟨_, ⟨sn_ri (len := 1) dX8_least_10 rfl, sm_ri⟩, trivial⟩
theorem kX8_least : ∀ pc, sx_BK sx_tb yX8_least.cls cX8_least 2 (some .int) ({ frames := 0, cells := 0, slots := 0, locals := 0 } : Room) false false 0 (fun _ => 0) pc (BX8_least pc) := fun pc => sx_bk_if (kX8_least_0) (sx_bk_if (kX8_least_9) (sx_bk_if (kX8_least_10) (trivial)))
theorem okX8_least : sx_ok sx_tb BX8_least (yX8_least, cX8_least, 2, some .int, { frames := 0, cells := 0, slots := 0, locals := 0 }) := ⟨by decide, by decide +kernel, false, (fun h => by cases h), kX8_least⟩
theorem dX8_takes_0 : decode cX8_takes 0 = .ok (.bipush 10, 2) := by decide +kernel
theorem dX8_takes_2 : decode cX8_takes 2 = .ok (.bipush 9, 2) := by decide +kernel
theorem dX8_takes_4 : decode cX8_takes 4 = .ok (.iload_n 1, 1) := by decide +kernel
theorem dX8_takes_5 : decode cX8_takes 5 = .ok (.imul, 1) := by decide +kernel
theorem dX8_takes_6 : decode cX8_takes 6 = .ok (.iadd, 1) := by decide +kernel
theorem dX8_takes_7 : decode cX8_takes 7 = .ok (.istore_n 2, 1) := by decide +kernel
theorem dX8_takes_8 : decode cX8_takes 8 = .ok (.aload_n 0, 1) := by decide +kernel
theorem dX8_takes_9 : decode cX8_takes 9 = .ok (.iload_n 2, 1) := by decide +kernel
theorem dX8_takes_10 : decode cX8_takes 10 = .ok (.iconst 3, 1) := by decide +kernel
theorem dX8_takes_11 : decode cX8_takes 11 = .ok (.iadd, 1) := by decide +kernel
theorem dX8_takes_12 : decode cX8_takes 12 = .ok (.iaload, 1) := by decide +kernel
theorem dX8_takes_13 : decode cX8_takes 13 = .ok (.aload_n 0, 1) := by decide +kernel
theorem dX8_takes_14 : decode cX8_takes 14 = .ok (.iload_n 2, 1) := by decide +kernel
theorem dX8_takes_15 : decode cX8_takes 15 = .ok (.iconst 4, 1) := by decide +kernel
theorem dX8_takes_16 : decode cX8_takes 16 = .ok (.iadd, 1) := by decide +kernel
theorem dX8_takes_17 : decode cX8_takes 17 = .ok (.iaload, 1) := by decide +kernel
theorem dX8_takes_18 : decode cX8_takes 18 = .ok (.isub, 1) := by decide +kernel
theorem dX8_takes_19 : decode cX8_takes 19 = .ok (.istore_n 3, 1) := by decide +kernel
theorem dX8_takes_20 : decode cX8_takes 20 = .ok (.aload_n 0, 1) := by decide +kernel
theorem dX8_takes_21 : decode cX8_takes 21 = .ok (.iload_n 2, 1) := by decide +kernel
theorem dX8_takes_22 : decode cX8_takes 22 = .ok (.iconst 2, 1) := by decide +kernel
theorem dX8_takes_23 : decode cX8_takes 23 = .ok (.iadd, 1) := by decide +kernel
theorem dX8_takes_24 : decode cX8_takes 24 = .ok (.iaload, 1) := by decide +kernel
theorem dX8_takes_25 : decode cX8_takes 25 = .ok (.iload_n 3, 1) := by decide +kernel
theorem dX8_takes_26 : decode cX8_takes 26 = .ok (.ifCond .ge 7, 3) := by decide +kernel
theorem dX8_takes_29 : decode cX8_takes 29 = .ok (.iconst 0, 1) := by decide +kernel
theorem dX8_takes_30 : decode cX8_takes 30 = .ok (.goto 4, 3) := by decide +kernel
theorem dX8_takes_33 : decode cX8_takes 33 = .ok (.iload_n 3, 1) := by decide +kernel
theorem dX8_takes_34 : decode cX8_takes 34 = .ok (.invokestatic 150, 3) := by decide +kernel
theorem dX8_takes_37 : decode cX8_takes 37 = .ok (.istore 4, 2) := by decide +kernel
theorem dX8_takes_39 : decode cX8_takes 39 = .ok (.aload_n 0, 1) := by decide +kernel
theorem dX8_takes_40 : decode cX8_takes 40 = .ok (.iload_n 2, 1) := by decide +kernel
theorem dX8_takes_41 : decode cX8_takes 41 = .ok (.iconst 4, 1) := by decide +kernel
theorem dX8_takes_42 : decode cX8_takes 42 = .ok (.iadd, 1) := by decide +kernel
theorem dX8_takes_43 : decode cX8_takes 43 = .ok (.dup2, 1) := by decide +kernel
theorem dX8_takes_44 : decode cX8_takes 44 = .ok (.iaload, 1) := by decide +kernel
theorem dX8_takes_45 : decode cX8_takes 45 = .ok (.iload 4, 2) := by decide +kernel
theorem dX8_takes_47 : decode cX8_takes 47 = .ok (.iload 4, 2) := by decide +kernel
theorem dX8_takes_49 : decode cX8_takes 49 = .ok (.aload_n 0, 1) := by decide +kernel
theorem dX8_takes_50 : decode cX8_takes 50 = .ok (.iconst 2, 1) := by decide +kernel
theorem dX8_takes_51 : decode cX8_takes 51 = .ok (.iaload, 1) := by decide +kernel
theorem dX8_takes_52 : decode cX8_takes 52 = .ok (.imul, 1) := by decide +kernel
theorem dX8_takes_53 : decode cX8_takes 53 = .ok (.bipush 20, 2) := by decide +kernel
theorem dX8_takes_55 : decode cX8_takes 55 = .ok (.idiv, 1) := by decide +kernel
theorem dX8_takes_56 : decode cX8_takes 56 = .ok (.iadd, 1) := by decide +kernel
theorem dX8_takes_57 : decode cX8_takes 57 = .ok (.iadd, 1) := by decide +kernel
theorem dX8_takes_58 : decode cX8_takes 58 = .ok (.iastore, 1) := by decide +kernel
theorem dX8_takes_59 : decode cX8_takes 59 = .ok (.aload_n 0, 1) := by decide +kernel
theorem dX8_takes_60 : decode cX8_takes 60 = .ok (.iload_n 2, 1) := by decide +kernel
theorem dX8_takes_61 : decode cX8_takes 61 = .ok (.bipush 8, 2) := by decide +kernel
theorem dX8_takes_63 : decode cX8_takes 63 = .ok (.iadd, 1) := by decide +kernel
theorem dX8_takes_64 : decode cX8_takes 64 = .ok (.dup2, 1) := by decide +kernel
theorem dX8_takes_65 : decode cX8_takes 65 = .ok (.iaload, 1) := by decide +kernel
theorem dX8_takes_66 : decode cX8_takes 66 = .ok (.iload 4, 2) := by decide +kernel
theorem dX8_takes_68 : decode cX8_takes 68 = .ok (.iadd, 1) := by decide +kernel
theorem dX8_takes_69 : decode cX8_takes 69 = .ok (.iastore, 1) := by decide +kernel
theorem dX8_takes_70 : decode cX8_takes 70 = .ok (.aload_n 0, 1) := by decide +kernel
theorem dX8_takes_71 : decode cX8_takes 71 = .ok (.bipush 6, 2) := by decide +kernel
theorem dX8_takes_73 : decode cX8_takes 73 = .ok (.dup2, 1) := by decide +kernel
theorem dX8_takes_74 : decode cX8_takes 74 = .ok (.iaload, 1) := by decide +kernel
theorem dX8_takes_75 : decode cX8_takes 75 = .ok (.iload 4, 2) := by decide +kernel
theorem dX8_takes_77 : decode cX8_takes 77 = .ok (.iadd, 1) := by decide +kernel
theorem dX8_takes_78 : decode cX8_takes 78 = .ok (.iastore, 1) := by decide +kernel
theorem dX8_takes_79 : decode cX8_takes 79 = .ok (.return_, 1) := by decide +kernel
def bX8_takes_0 : List sx_S := [si_const (nI 10), si_const (nI 9), si_il 1, si_bin (fun x y => x * y), si_bin (fun x y => x + y), si_is 2, si_al 0, si_il 2, si_const (nI 3), si_bin (fun x y => x + y), si_iald, si_al 0, si_il 2, si_const (nI 4), si_bin (fun x y => x + y), si_iald, si_bin (fun x y => x - y), si_is 3, si_al 0, si_il 2, si_const (nI 2), si_bin (fun x y => x + y), si_iald, si_il 3, si_if1 (fun x => 0 ≤ x) 33 [true, false, true, true, false], si_const 0, si_go 34 [true, false, true, false, false]]
def bX8_takes_33 : List sx_S := [si_il 3, si_go 34 [true, false, true, false, false]]
def bX8_takes_34 : List sx_S := [si_cs 149 2 0 0 0 0, si_is 4, si_al 0, si_il 2, si_const (nI 4), si_bin (fun x y => x + y), si_dup2, si_iald, si_il 4, si_il 4, si_al 0, si_const (nI 2), si_iald, si_bin (fun x y => x * y), si_const (nI 20), si_div (fun x y => x / y), si_bin (fun x y => x + y), si_bin (fun x y => x + y), si_iast, si_al 0, si_il 2, si_const (nI 8), si_bin (fun x y => x + y), si_dup2, si_iald, si_il 4, si_bin (fun x y => x + y), si_iast, si_al 0, si_const (nI 6), si_dup2, si_iald, si_il 4, si_bin (fun x y => x + y), si_iast, si_rv]
def BX8_takes : Nat → List sx_S := fun pc => if pc = 0 then bX8_takes_0 else if pc = 33 then bX8_takes_33 else if pc = 34 then bX8_takes_34 else []
set_option maxRecDepth 20000 in
theorem kX8_takes_0 : sx_BK sx_tb yX8_takes.cls cX8_takes 5 (none) ({ frames := 1, cells := 0, slots := 0, locals := 21 } : Room) false false 0 (fun _ => 0) 0 (bX8_takes_0) := ⟨_, ⟨sn_bipush dX8_takes_0 (by decide +kernel), sm_const _⟩, ⟨_, ⟨sn_bipush dX8_takes_2 (by decide +kernel), sm_const _⟩, ⟨_, ⟨sn_iload_n dX8_takes_4 rfl, sm_il _⟩, ⟨_, ⟨sn_imul dX8_takes_5, sm_bin _⟩, ⟨_, ⟨sn_iadd dX8_takes_6, sm_bin _⟩, ⟨_, ⟨sn_istore_n dX8_takes_7 rfl (Nat.le_of_ble_eq_true rfl), sm_is _⟩, ⟨_, ⟨sn_aload_n dX8_takes_8 rfl, sm_al _⟩, ⟨_, ⟨sn_iload_n dX8_takes_9 rfl, sm_il _⟩, ⟨_, ⟨sn_iconst dX8_takes_10 (by decide +kernel), sm_const _⟩, ⟨_, ⟨sn_iadd dX8_takes_11, sm_bin _⟩, ⟨_, ⟨sn_iald dX8_takes_12, sm_iald⟩, ⟨_, ⟨sn_aload_n dX8_takes_13 rfl, sm_al _⟩, ⟨_, ⟨sn_iload_n dX8_takes_14 rfl, sm_il _⟩, ⟨_, ⟨sn_iconst dX8_takes_15 (by decide +kernel), sm_const _⟩, ⟨_, ⟨sn_iadd dX8_takes_16, sm_bin _⟩, ⟨_, ⟨sn_iald dX8_takes_17, sm_iald⟩, ⟨_, ⟨sn_isub dX8_takes_18, sm_bin _⟩, ⟨_, ⟨sn_istore_n dX8_takes_19 rfl (Nat.le_of_ble_eq_true rfl), sm_is _⟩, ⟨_, ⟨sn_aload_n dX8_takes_20 rfl, sm_al _⟩, ⟨_, ⟨sn_iload_n dX8_takes_21 rfl, sm_il _⟩, ⟨_, ⟨sn_iconst dX8_takes_22 (by decide +kernel), sm_const _⟩, ⟨_, ⟨sn_iadd dX8_takes_23, sm_bin _⟩, ⟨_, ⟨sn_iald dX8_takes_24, sm_iald⟩, ⟨_, ⟨sn_iload_n dX8_takes_25 rfl, sm_il _⟩, ⟨_, ⟨sn_if_ge dX8_takes_26 (by decide +kernel) rfl, sm_if1 _ _ _⟩, ⟨_, ⟨sn_iconst dX8_takes_29 (by decide +kernel), sm_const _⟩, ⟨_, ⟨sn_goto (len := 3) dX8_takes_30 (by decide +kernel) rfl, sm_go _ _⟩, trivial⟩⟩⟩⟩⟩⟩⟩⟩⟩⟩⟩⟩⟩⟩⟩⟩⟩⟩⟩⟩⟩⟩⟩⟩⟩⟩⟩
set_option maxRecDepth 20000 in
theorem kX8_takes_33 : sx_BK sx_tb yX8_takes.cls cX8_takes 5 (none) ({ frames := 1, cells := 0, slots := 0, locals := 21 } : Room) false false 0 (fun _ => 0) 33 (bX8_takes_33) := ⟨_, ⟨sn_iload_n dX8_takes_33 rfl, sm_il _⟩, ⟨_, ⟨sn_fall (len := 0) rfl rfl, sm_go _ _⟩, trivial⟩⟩
set_option maxRecDepth 20000 in
theorem kX8_takes_34 : sx_BK sx_tb yX8_takes.cls cX8_takes 5 (none) ({ frames := 1, cells := 0, slots := 0, locals := 21 } : Room) false false 0 (fun _ => 0) 34 (bX8_takes_34) := ⟨_, ⟨sn_cs_i ztb_X8_least dX8_takes_34 zw_4_132 zw_4_133 zw_1_8 zw_4_134 zmh_X8 zpd_X8_least (Nat.le_of_ble_eq_true rfl) (Nat.le_of_ble_eq_true rfl) rfl rfl, sm_cs _ _ _ _ _ _⟩, ⟨_, ⟨sn_istore dX8_takes_37 (Nat.le_of_ble_eq_true rfl), sm_is _⟩, ⟨_, ⟨sn_aload_n dX8_takes_39 rfl, sm_al _⟩, ⟨_, ⟨sn_iload_n dX8_takes_40 rfl, sm_il _⟩, ⟨_, ⟨sn_iconst dX8_takes_41 (by decide +kernel), sm_const _⟩, ⟨_, ⟨sn_iadd dX8_takes_42, sm_bin _⟩, ⟨_, ⟨sn_dup2 dX8_takes_43, sm_dup2⟩, ⟨_, ⟨sn_iald dX8_takes_44, sm_iald⟩, ⟨_, ⟨sn_iload dX8_takes_45, sm_il _⟩, ⟨_, ⟨sn_iload dX8_takes_47, sm_il _⟩, ⟨_, ⟨sn_aload_n dX8_takes_49 rfl, sm_al _⟩, ⟨_, ⟨sn_iconst dX8_takes_50 (by decide +kernel), sm_const _⟩, ⟨_, ⟨sn_iald dX8_takes_51, sm_iald⟩, ⟨_, ⟨sn_imul dX8_takes_52, sm_bin _⟩, ⟨_, ⟨sn_bipush dX8_takes_53 (by decide +kernel), sm_const _⟩, ⟨_, ⟨sn_idiv dX8_takes_55, sm_div _⟩, ⟨_, ⟨sn_iadd dX8_takes_56, sm_bin _⟩, ⟨_, ⟨sn_iadd dX8_takes_57, sm_bin _⟩, ⟨_, ⟨sn_iast dX8_takes_58, sm_iast⟩, ⟨_, ⟨sn_aload_n dX8_takes_59 rfl, sm_al _⟩, ⟨_, ⟨sn_iload_n dX8_takes_60 rfl, sm_il _⟩, ⟨_, ⟨sn_bipush dX8_takes_61 (by decide +kernel), sm_const _⟩, ⟨_, ⟨sn_iadd dX8_takes_63, sm_bin _⟩, ⟨_, ⟨sn_dup2 dX8_takes_64, sm_dup2⟩, ⟨_, ⟨sn_iald dX8_takes_65, sm_iald⟩, ⟨_, ⟨sn_iload dX8_takes_66, sm_il _⟩, ⟨_, ⟨sn_iadd dX8_takes_68, sm_bin _⟩, ⟨_, ⟨sn_iast dX8_takes_69, sm_iast⟩, ⟨_, ⟨sn_aload_n dX8_takes_70 rfl, sm_al _⟩, ⟨_, ⟨sn_bipush dX8_takes_71 (by decide +kernel), sm_const _⟩, ⟨_, ⟨sn_dup2 dX8_takes_73, sm_dup2⟩, ⟨_, ⟨sn_iald dX8_takes_74, sm_iald⟩, ⟨_, ⟨sn_iload dX8_takes_75, sm_il _⟩, ⟨_, ⟨sn_iadd dX8_takes_77, sm_bin _⟩, ⟨_, ⟨sn_iast dX8_takes_78, sm_iast⟩, ⟨_, ⟨sn_rv (len := 1) dX8_takes_79 rfl, sm_rv⟩, trivial⟩⟩⟩⟩⟩⟩⟩⟩⟩⟩⟩⟩⟩⟩⟩⟩⟩⟩⟩⟩⟩⟩⟩⟩⟩⟩⟩⟩⟩⟩⟩⟩⟩⟩⟩⟩
theorem kX8_takes : ∀ pc, sx_BK sx_tb yX8_takes.cls cX8_takes 5 (none) ({ frames := 1, cells := 0, slots := 0, locals := 21 } : Room) false false 0 (fun _ => 0) pc (BX8_takes pc) := fun pc => sx_bk_if (kX8_takes_0) (sx_bk_if (kX8_takes_33) (sx_bk_if (kX8_takes_34) (trivial)))
theorem okX8_takes : sx_ok sx_tb BX8_takes (yX8_takes, cX8_takes, 5, none, { frames := 1, cells := 0, slots := 0, locals := 21 }) := ⟨by decide, by decide +kernel, false, (fun h => by cases h), kX8_takes⟩
theorem dX8_payBy_0 : decode cX8_payBy 0 = .ok (.aload_n 0, 1) := by decide +kernel
theorem dX8_payBy_1 : decode cX8_payBy 1 = .ok (.iload_n 1, 1) := by decide +kernel
theorem dX8_payBy_2 : decode cX8_payBy 2 = .ok (.iconst 4, 1) := by decide +kernel
theorem dX8_payBy_3 : decode cX8_payBy 3 = .ok (.invokestatic 146, 3) := by decide +kernel
theorem dX8_payBy_6 : decode cX8_payBy 6 = .ok (.istore_n 2, 1) := by decide +kernel
theorem dX8_payBy_7 : decode cX8_payBy 7 = .ok (.aload_n 0, 1) := by decide +kernel
theorem dX8_payBy_8 : decode cX8_payBy 8 = .ok (.iload_n 1, 1) := by decide +kernel
theorem dX8_payBy_9 : decode cX8_payBy 9 = .ok (.iconst 1, 1) := by decide +kernel
theorem dX8_payBy_10 : decode cX8_payBy 10 = .ok (.invokestatic 146, 3) := by decide +kernel
theorem dX8_payBy_13 : decode cX8_payBy 13 = .ok (.istore_n 3, 1) := by decide +kernel
theorem dX8_payBy_14 : decode cX8_payBy 14 = .ok (.aload_n 0, 1) := by decide +kernel
theorem dX8_payBy_15 : decode cX8_payBy 15 = .ok (.iload_n 1, 1) := by decide +kernel
theorem dX8_payBy_16 : decode cX8_payBy 16 = .ok (.iconst 0, 1) := by decide +kernel
theorem dX8_payBy_17 : decode cX8_payBy 17 = .ok (.invokestatic 146, 3) := by decide +kernel
theorem dX8_payBy_20 : decode cX8_payBy 20 = .ok (.tableswitch 61 1 3 #[28, 34, 42], 28) := by decide +kernel
theorem dX8_payBy_48 : decode cX8_payBy 48 = .ok (.iload_n 3, 1) := by decide +kernel
theorem dX8_payBy_49 : decode cX8_payBy 49 = .ok (.iload_n 2, 1) := by decide +kernel
theorem dX8_payBy_50 : decode cX8_payBy 50 = .ok (.invokestatic 150, 3) := by decide +kernel
theorem dX8_payBy_53 : decode cX8_payBy 53 = .ok (.ireturn, 1) := by decide +kernel
theorem dX8_payBy_54 : decode cX8_payBy 54 = .ok (.iload_n 2, 1) := by decide +kernel
theorem dX8_payBy_55 : decode cX8_payBy 55 = .ok (.iconst 2, 1) := by decide +kernel
theorem dX8_payBy_56 : decode cX8_payBy 56 = .ok (.idiv, 1) := by decide +kernel
theorem dX8_payBy_57 : decode cX8_payBy 57 = .ok (.iload_n 3, 1) := by decide +kernel
theorem dX8_payBy_58 : decode cX8_payBy 58 = .ok (.invokestatic 150, 3) := by decide +kernel
theorem dX8_payBy_61 : decode cX8_payBy 61 = .ok (.ireturn, 1) := by decide +kernel
theorem dX8_payBy_62 : decode cX8_payBy 62 = .ok (.aload_n 0, 1) := by decide +kernel
theorem dX8_payBy_63 : decode cX8_payBy 63 = .ok (.iconst 5, 1) := by decide +kernel
theorem dX8_payBy_64 : decode cX8_payBy 64 = .ok (.iaload, 1) := by decide +kernel
theorem dX8_payBy_65 : decode cX8_payBy 65 = .ok (.iconst 4, 1) := by decide +kernel
theorem dX8_payBy_66 : decode cX8_payBy 66 = .ok (.irem, 1) := by decide +kernel
theorem dX8_payBy_67 : decode cX8_payBy 67 = .ok (.iconst 3, 1) := by decide +kernel
theorem dX8_payBy_68 : decode cX8_payBy 68 = .ok (.if_icmp .ne 11, 3) := by decide +kernel
theorem dX8_payBy_71 : decode cX8_payBy 71 = .ok (.iload_n 3, 1) := by decide +kernel
theorem dX8_payBy_72 : decode cX8_payBy 72 = .ok (.iload_n 2, 1) := by decide +kernel
theorem dX8_payBy_73 : decode cX8_payBy 73 = .ok (.invokestatic 150, 3) := by decide +kernel
theorem dX8_payBy_76 : decode cX8_payBy 76 = .ok (.goto 4, 3) := by decide +kernel
theorem dX8_payBy_79 : decode cX8_payBy 79 = .ok (.iconst 0, 1) := by decide +kernel
theorem dX8_payBy_80 : decode cX8_payBy 80 = .ok (.ireturn, 1) := by decide +kernel
theorem dX8_payBy_81 : decode cX8_payBy 81 = .ok (.iload_n 3, 1) := by decide +kernel
theorem dX8_payBy_82 : decode cX8_payBy 82 = .ok (.iconst 2, 1) := by decide +kernel
theorem dX8_payBy_83 : decode cX8_payBy 83 = .ok (.idiv, 1) := by decide +kernel
theorem dX8_payBy_84 : decode cX8_payBy 84 = .ok (.iload_n 2, 1) := by decide +kernel
theorem dX8_payBy_85 : decode cX8_payBy 85 = .ok (.invokestatic 150, 3) := by decide +kernel
theorem dX8_payBy_88 : decode cX8_payBy 88 = .ok (.ireturn, 1) := by decide +kernel
def bX8_payBy_0 : List sx_S := [si_al 0, si_il 1, si_const (nI 4), si_cs 147 3 0 0 0 0, si_is 2, si_al 0, si_il 1, si_const 1, si_cs 147 3 0 0 0 0, si_is 3, si_al 0, si_il 1, si_const 0, si_cs 147 3 0 0 0 0, si_sw [(1, 48, [false, false, true, true]), ((nI 2), 54, [false, false, true, true]), ((nI 3), 62, [true, false, true, true])] 81 [false, false, true, true]]
def bX8_payBy_48 : List sx_S := [si_il 3, si_il 2, si_cs 149 2 0 0 0 0, si_ri]
def bX8_payBy_54 : List sx_S := [si_il 2, si_const (nI 2), si_div (fun x y => x / y), si_il 3, si_cs 149 2 0 0 0 0, si_ri]
def bX8_payBy_62 : List sx_S := [si_al 0, si_const (nI 5), si_iald, si_const (nI 4), si_div (fun x y => x - x / y * y), si_const (nI 3), si_if2 (fun x y => ¬ x = y) 79 [false, false, false, false], si_il 3, si_il 2, si_cs 149 2 0 0 0 0, si_go 80 [false, false, false, false]]
def bX8_payBy_79 : List sx_S := [si_const 0, si_go 80 [false, false, false, false]]
def bX8_payBy_80 : List sx_S := [si_ri]
def bX8_payBy_81 : List sx_S := [si_il 3, si_const (nI 2), si_div (fun x y => x / y), si_il 2, si_cs 149 2 0 0 0 0, si_ri]
def BX8_payBy : Nat → List sx_S := fun pc => if pc = 0 then bX8_payBy_0 else if pc = 48 then bX8_payBy_48 else if pc = 54 then bX8_payBy_54 else if pc = 62 then bX8_payBy_62 else if pc = 79 then bX8_payBy_79 else if pc = 80 then bX8_payBy_80 else if pc = 81 then bX8_payBy_81 else []
set_option maxRecDepth 20000 in
theorem kX8_payBy_0 : sx_BK sx_tb yX8_payBy.cls cX8_payBy 4 (some .int) ({ frames := 1, cells := 0, slots := 0, locals := 22 } : Room) false false 0 (fun _ => 0) 0 (bX8_payBy_0) := ⟨_, ⟨sn_aload_n dX8_payBy_0 rfl, sm_al _⟩, ⟨_, ⟨sn_iload_n dX8_payBy_1 rfl, sm_il _⟩, ⟨_, ⟨sn_iconst dX8_payBy_2 (by decide +kernel), sm_const _⟩, ⟨_, ⟨sn_cs_i ztb_X8_of dX8_payBy_3 zw_4_126 zw_4_127 zw_1_8 zw_4_128 zmh_X8 zpd_X8_of (Nat.le_of_ble_eq_true rfl) (Nat.le_of_ble_eq_true rfl) rfl rfl, sm_cs _ _ _ _ _ _⟩, ⟨_, ⟨sn_istore_n dX8_payBy_6 rfl (Nat.le_of_ble_eq_true rfl), sm_is _⟩, ⟨_, ⟨sn_aload_n dX8_payBy_7 rfl, sm_al _⟩, ⟨_, ⟨sn_iload_n dX8_payBy_8 rfl, sm_il _⟩, ⟨_, ⟨sn_iconst dX8_payBy_9 (by decide +kernel), sm_const _⟩, ⟨_, ⟨sn_cs_i ztb_X8_of dX8_payBy_10 zw_4_126 zw_4_127 zw_1_8 zw_4_128 zmh_X8 zpd_X8_of (Nat.le_of_ble_eq_true rfl) (Nat.le_of_ble_eq_true rfl) rfl rfl, sm_cs _ _ _ _ _ _⟩, ⟨_, ⟨sn_istore_n dX8_payBy_13 rfl (Nat.le_of_ble_eq_true rfl), sm_is _⟩, ⟨_, ⟨sn_aload_n dX8_payBy_14 rfl, sm_al _⟩, ⟨_, ⟨sn_iload_n dX8_payBy_15 rfl, sm_il _⟩, ⟨_, ⟨sn_iconst dX8_payBy_16 (by decide +kernel), sm_const _⟩, ⟨_, ⟨sn_cs_i ztb_X8_of dX8_payBy_17 zw_4_126 zw_4_127 zw_1_8 zw_4_128 zmh_X8 zpd_X8_of (Nat.le_of_ble_eq_true rfl) (Nat.le_of_ble_eq_true rfl) rfl rfl, sm_cs _ _ _ _ _ _⟩, ⟨_, ⟨sn_tsw (len := 3) dX8_payBy_20 (by decide +kernel) (by decide +kernel) (by decide +kernel) rfl, sm_sw _ _ _⟩, trivial⟩⟩⟩⟩⟩⟩⟩⟩⟩⟩⟩⟩⟩⟩⟩
set_option maxRecDepth 20000 in
theorem kX8_payBy_48 : sx_BK sx_tb yX8_payBy.cls cX8_payBy 4 (some .int) ({ frames := 1, cells := 0, slots := 0, locals := 22 } : Room) false false 0 (fun _ => 0) 48 (bX8_payBy_48) := ⟨_, ⟨sn_iload_n dX8_payBy_48 rfl, sm_il _⟩, ⟨_, ⟨sn_iload_n dX8_payBy_49 rfl, sm_il _⟩, ⟨_, ⟨sn_cs_i ztb_X8_least dX8_payBy_50 zw_4_132 zw_4_133 zw_1_8 zw_4_134 zmh_X8 zpd_X8_least (Nat.le_of_ble_eq_true rfl) (Nat.le_of_ble_eq_true rfl) rfl rfl, sm_cs _ _ _ _ _ _⟩, ⟨_, ⟨sn_ri (len := 1) dX8_payBy_53 rfl, sm_ri⟩, trivial⟩⟩⟩⟩
set_option maxRecDepth 20000 in
theorem kX8_payBy_54 : sx_BK sx_tb yX8_payBy.cls cX8_payBy 4 (some .int) ({ frames := 1, cells := 0, slots := 0, locals := 22 } : Room) false false 0 (fun _ => 0) 54 (bX8_payBy_54) := ⟨_, ⟨sn_iload_n dX8_payBy_54 rfl, sm_il _⟩, ⟨_, ⟨sn_iconst dX8_payBy_55 (by decide +kernel), sm_const _⟩, ⟨_, ⟨sn_idiv dX8_payBy_56, sm_div _⟩, ⟨_, ⟨sn_iload_n dX8_payBy_57 rfl, sm_il _⟩, ⟨_, ⟨sn_cs_i ztb_X8_least dX8_payBy_58 zw_4_132 zw_4_133 zw_1_8 zw_4_134 zmh_X8 zpd_X8_least (Nat.le_of_ble_eq_true rfl) (Nat.le_of_ble_eq_true rfl) rfl rfl, sm_cs _ _ _ _ _ _⟩, ⟨_, ⟨sn_ri (len := 1) dX8_payBy_61 rfl, sm_ri⟩, trivial⟩⟩⟩⟩⟩⟩
set_option maxRecDepth 20000 in
theorem kX8_payBy_62 : sx_BK sx_tb yX8_payBy.cls cX8_payBy 4 (some .int) ({ frames := 1, cells := 0, slots := 0, locals := 22 } : Room) false false 0 (fun _ => 0) 62 (bX8_payBy_62) := ⟨_, ⟨sn_aload_n dX8_payBy_62 rfl, sm_al _⟩, ⟨_, ⟨sn_iconst dX8_payBy_63 (by decide +kernel), sm_const _⟩, ⟨_, ⟨sn_iald dX8_payBy_64, sm_iald⟩, ⟨_, ⟨sn_iconst dX8_payBy_65 (by decide +kernel), sm_const _⟩, ⟨_, ⟨sn_irem dX8_payBy_66, sm_div _⟩, ⟨_, ⟨sn_iconst dX8_payBy_67 (by decide +kernel), sm_const _⟩, ⟨_, ⟨sn_ic_ne dX8_payBy_68 (by decide +kernel) rfl, sm_if2 _ _ _⟩, ⟨_, ⟨sn_iload_n dX8_payBy_71 rfl, sm_il _⟩, ⟨_, ⟨sn_iload_n dX8_payBy_72 rfl, sm_il _⟩, ⟨_, ⟨sn_cs_i ztb_X8_least dX8_payBy_73 zw_4_132 zw_4_133 zw_1_8 zw_4_134 zmh_X8 zpd_X8_least (Nat.le_of_ble_eq_true rfl) (Nat.le_of_ble_eq_true rfl) rfl rfl, sm_cs _ _ _ _ _ _⟩, ⟨_, ⟨sn_goto (len := 3) dX8_payBy_76 (by decide +kernel) rfl, sm_go _ _⟩, trivial⟩⟩⟩⟩⟩⟩⟩⟩⟩⟩⟩
set_option maxRecDepth 20000 in
theorem kX8_payBy_79 : sx_BK sx_tb yX8_payBy.cls cX8_payBy 4 (some .int) ({ frames := 1, cells := 0, slots := 0, locals := 22 } : Room) false false 0 (fun _ => 0) 79 (bX8_payBy_79) := ⟨_, ⟨sn_iconst dX8_payBy_79 (by decide +kernel), sm_const _⟩, ⟨_, ⟨sn_fall (len := 0) rfl rfl, sm_go _ _⟩, trivial⟩⟩
set_option maxRecDepth 20000 in
theorem kX8_payBy_80 : sx_BK sx_tb yX8_payBy.cls cX8_payBy 4 (some .int) ({ frames := 1, cells := 0, slots := 0, locals := 22 } : Room) false false 0 (fun _ => 0) 80 (bX8_payBy_80) := ⟨_, ⟨sn_ri (len := 1) dX8_payBy_80 rfl, sm_ri⟩, trivial⟩
set_option maxRecDepth 20000 in
theorem kX8_payBy_81 : sx_BK sx_tb yX8_payBy.cls cX8_payBy 4 (some .int) ({ frames := 1, cells := 0, slots := 0, locals := 22 } : Room) false false 0 (fun _ => 0) 81 (bX8_payBy_81) := ⟨_, ⟨sn_iload_n dX8_payBy_81 rfl, sm_il _⟩, ⟨_, ⟨sn_iconst dX8_payBy_82 (by decide +kernel), sm_const _⟩, ⟨_, ⟨sn_idiv dX8_payBy_83, sm_div _⟩, ⟨_, ⟨sn_iload_n dX8_payBy_84 rfl, sm_il _⟩, ⟨_, ⟨sn_cs_i ztb_X8_least dX8_payBy_85 zw_4_132 zw_4_133 zw_1_8 zw_4_134 zmh_X8 zpd_X8_least (Nat.le_of_ble_eq_true rfl) (Nat.le_of_ble_eq_true rfl) rfl rfl, sm_cs _ _ _ _ _ _⟩, ⟨_, ⟨sn_ri (len := 1) dX8_payBy_88 rfl, sm_ri⟩, trivial⟩⟩⟩⟩⟩⟩
theorem kX8_payBy : ∀ pc, sx_BK sx_tb yX8_payBy.cls cX8_payBy 4 (some .int) ({ frames := 1, cells := 0, slots := 0, locals := 22 } : Room) false false 0 (fun _ => 0) pc (BX8_payBy pc) := fun pc => sx_bk_if (kX8_payBy_0) (sx_bk_if (kX8_payBy_48) (sx_bk_if (kX8_payBy_54) (sx_bk_if (kX8_payBy_62) (sx_bk_if (kX8_payBy_79) (sx_bk_if (kX8_payBy_80) (sx_bk_if (kX8_payBy_81) (trivial)))))))
theorem okX8_payBy : sx_ok sx_tb BX8_payBy (yX8_payBy, cX8_payBy, 4, some .int, { frames := 1, cells := 0, slots := 0, locals := 22 }) := ⟨by decide, by decide +kernel, false, (fun h => by cases h), kX8_payBy⟩
theorem dX8_payOne_0 : decode cX8_payOne 0 = .ok (.bipush 10, 2) := by decide +kernel
theorem dX8_payOne_2 : decode cX8_payOne 2 = .ok (.bipush 9, 2) := by decide +kernel
theorem dX8_payOne_4 : decode cX8_payOne 4 = .ok (.iload_n 1, 1) := by decide +kernel
theorem dX8_payOne_5 : decode cX8_payOne 5 = .ok (.imul, 1) := by decide +kernel
theorem dX8_payOne_6 : decode cX8_payOne 6 = .ok (.iadd, 1) := by decide +kernel
theorem dX8_payOne_7 : decode cX8_payOne 7 = .ok (.istore_n 2, 1) := by decide +kernel
theorem dX8_payOne_8 : decode cX8_payOne 8 = .ok (.aload_n 0, 1) := by decide +kernel
theorem dX8_payOne_9 : decode cX8_payOne 9 = .ok (.iload_n 2, 1) := by decide +kernel
theorem dX8_payOne_10 : decode cX8_payOne 10 = .ok (.iaload, 1) := by decide +kernel
theorem dX8_payOne_11 : decode cX8_payOne 11 = .ok (.iconst 5, 1) := by decide +kernel
theorem dX8_payOne_12 : decode cX8_payOne 12 = .ok (.if_icmp .ne 31, 3) := by decide +kernel
theorem dX8_payOne_15 : decode cX8_payOne 15 = .ok (.aload_n 0, 1) := by decide +kernel
theorem dX8_payOne_16 : decode cX8_payOne 16 = .ok (.iload_n 2, 1) := by decide +kernel
theorem dX8_payOne_17 : decode cX8_payOne 17 = .ok (.iconst 4, 1) := by decide +kernel
theorem dX8_payOne_18 : decode cX8_payOne 18 = .ok (.iadd, 1) := by decide +kernel
theorem dX8_payOne_19 : decode cX8_payOne 19 = .ok (.iaload, 1) := by decide +kernel
theorem dX8_payOne_20 : decode cX8_payOne 20 = .ok (.aload_n 0, 1) := by decide +kernel
theorem dX8_payOne_21 : decode cX8_payOne 21 = .ok (.iload_n 2, 1) := by decide +kernel
theorem dX8_payOne_22 : decode cX8_payOne 22 = .ok (.iconst 3, 1) := by decide +kernel
theorem dX8_payOne_23 : decode cX8_payOne 23 = .ok (.iadd, 1) := by decide +kernel
theorem dX8_payOne_24 : decode cX8_payOne 24 = .ok (.iaload, 1) := by decide +kernel
theorem dX8_payOne_25 : decode cX8_payOne 25 = .ok (.if_icmp .lt 18, 3) := by decide +kernel
theorem dX8_payOne_28 : decode cX8_payOne 28 = .ok (.aload_n 0, 1) := by decide +kernel
theorem dX8_payOne_29 : decode cX8_payOne 29 = .ok (.iload_n 2, 1) := by decide +kernel
theorem dX8_payOne_30 : decode cX8_payOne 30 = .ok (.iconst 4, 1) := by decide +kernel
theorem dX8_payOne_31 : decode cX8_payOne 31 = .ok (.iadd, 1) := by decide +kernel
theorem dX8_payOne_32 : decode cX8_payOne 32 = .ok (.iaload, 1) := by decide +kernel
theorem dX8_payOne_33 : decode cX8_payOne 33 = .ok (.ifCond .le 10, 3) := by decide +kernel
theorem dX8_payOne_36 : decode cX8_payOne 36 = .ok (.aload_n 0, 1) := by decide +kernel
theorem dX8_payOne_37 : decode cX8_payOne 37 = .ok (.iload_n 2, 1) := by decide +kernel
theorem dX8_payOne_38 : decode cX8_payOne 38 = .ok (.iconst 5, 1) := by decide +kernel
theorem dX8_payOne_39 : decode cX8_payOne 39 = .ok (.iadd, 1) := by decide +kernel
theorem dX8_payOne_40 : decode cX8_payOne 40 = .ok (.iconst 1, 1) := by decide +kernel
theorem dX8_payOne_41 : decode cX8_payOne 41 = .ok (.iastore, 1) := by decide +kernel
theorem dX8_payOne_42 : decode cX8_payOne 42 = .ok (.return_, 1) := by decide +kernel
theorem dX8_payOne_43 : decode cX8_payOne 43 = .ok (.aload_n 0, 1) := by decide +kernel
theorem dX8_payOne_44 : decode cX8_payOne 44 = .ok (.iload_n 1, 1) := by decide +kernel
theorem dX8_payOne_45 : decode cX8_payOne 45 = .ok (.invokestatic 153, 3) := by decide +kernel
theorem dX8_payOne_48 : decode cX8_payOne 48 = .ok (.istore_n 3, 1) := by decide +kernel
theorem dX8_payOne_49 : decode cX8_payOne 49 = .ok (.aload_n 0, 1) := by decide +kernel
theorem dX8_payOne_50 : decode cX8_payOne 50 = .ok (.iload_n 2, 1) := by decide +kernel
theorem dX8_payOne_51 : decode cX8_payOne 51 = .ok (.iconst 4, 1) := by decide +kernel
theorem dX8_payOne_52 : decode cX8_payOne 52 = .ok (.iadd, 1) := by decide +kernel
theorem dX8_payOne_53 : decode cX8_payOne 53 = .ok (.dup2, 1) := by decide +kernel
theorem dX8_payOne_54 : decode cX8_payOne 54 = .ok (.iaload, 1) := by decide +kernel
theorem dX8_payOne_55 : decode cX8_payOne 55 = .ok (.iload_n 3, 1) := by decide +kernel
theorem dX8_payOne_56 : decode cX8_payOne 56 = .ok (.isub, 1) := by decide +kernel
theorem dX8_payOne_57 : decode cX8_payOne 57 = .ok (.iastore, 1) := by decide +kernel
theorem dX8_payOne_58 : decode cX8_payOne 58 = .ok (.aload_n 0, 1) := by decide +kernel
theorem dX8_payOne_59 : decode cX8_payOne 59 = .ok (.iload_n 2, 1) := by decide +kernel
theorem dX8_payOne_60 : decode cX8_payOne 60 = .ok (.bipush 7, 2) := by decide +kernel
theorem dX8_payOne_62 : decode cX8_payOne 62 = .ok (.iadd, 1) := by decide +kernel
theorem dX8_payOne_63 : decode cX8_payOne 63 = .ok (.dup2, 1) := by decide +kernel
theorem dX8_payOne_64 : decode cX8_payOne 64 = .ok (.iaload, 1) := by decide +kernel
theorem dX8_payOne_65 : decode cX8_payOne 65 = .ok (.iload_n 3, 1) := by decide +kernel
theorem dX8_payOne_66 : decode cX8_payOne 66 = .ok (.iadd, 1) := by decide +kernel
theorem dX8_payOne_67 : decode cX8_payOne 67 = .ok (.iastore, 1) := by decide +kernel
theorem dX8_payOne_68 : decode cX8_payOne 68 = .ok (.aload_n 0, 1) := by decide +kernel
theorem dX8_payOne_69 : decode cX8_payOne 69 = .ok (.iconst 1, 1) := by decide +kernel
theorem dX8_payOne_70 : decode cX8_payOne 70 = .ok (.dup2, 1) := by decide +kernel
theorem dX8_payOne_71 : decode cX8_payOne 71 = .ok (.iaload, 1) := by decide +kernel
theorem dX8_payOne_72 : decode cX8_payOne 72 = .ok (.iload_n 3, 1) := by decide +kernel
theorem dX8_payOne_73 : decode cX8_payOne 73 = .ok (.iadd, 1) := by decide +kernel
theorem dX8_payOne_74 : decode cX8_payOne 74 = .ok (.iastore, 1) := by decide +kernel
theorem dX8_payOne_75 : decode cX8_payOne 75 = .ok (.aload_n 0, 1) := by decide +kernel
theorem dX8_payOne_76 : decode cX8_payOne 76 = .ok (.bipush 9, 2) := by decide +kernel
theorem dX8_payOne_78 : decode cX8_payOne 78 = .ok (.dup2, 1) := by decide +kernel
theorem dX8_payOne_79 : decode cX8_payOne 79 = .ok (.iaload, 1) := by decide +kernel
theorem dX8_payOne_80 : decode cX8_payOne 80 = .ok (.iload_n 3, 1) := by decide +kernel
theorem dX8_payOne_81 : decode cX8_payOne 81 = .ok (.iadd, 1) := by decide +kernel
theorem dX8_payOne_82 : decode cX8_payOne 82 = .ok (.iastore, 1) := by decide +kernel
theorem dX8_payOne_83 : decode cX8_payOne 83 = .ok (.return_, 1) := by decide +kernel
def bX8_payOne_0 : List sx_S := [si_const (nI 10), si_const (nI 9), si_il 1, si_bin (fun x y => x * y), si_bin (fun x y => x + y), si_is 2, si_al 0, si_il 2, si_iald, si_const (nI 5), si_if2 (fun x y => ¬ x = y) 43 [true, true, true, false], si_al 0, si_il 2, si_const (nI 4), si_bin (fun x y => x + y), si_iald, si_al 0, si_il 2, si_const (nI 3), si_bin (fun x y => x + y), si_iald, si_if2 (fun x y => x < y) 43 [true, true, true, false], si_al 0, si_il 2, si_const (nI 4), si_bin (fun x y => x + y), si_iald, si_if1 (fun x => x ≤ 0) 43 [true, true, true, false], si_al 0, si_il 2, si_const (nI 5), si_bin (fun x y => x + y), si_const 1, si_iast, si_rv]
def bX8_payOne_43 : List sx_S := [si_al 0, si_il 1, si_cs 151 2 0 0 0 0, si_is 3, si_al 0, si_il 2, si_const (nI 4), si_bin (fun x y => x + y), si_dup2, si_iald, si_il 3, si_bin (fun x y => x - y), si_iast, si_al 0, si_il 2, si_const (nI 7), si_bin (fun x y => x + y), si_dup2, si_iald, si_il 3, si_bin (fun x y => x + y), si_iast, si_al 0, si_const 1, si_dup2, si_iald, si_il 3, si_bin (fun x y => x + y), si_iast, si_al 0, si_const (nI 9), si_dup2, si_iald, si_il 3, si_bin (fun x y => x + y), si_iast, si_rv]
def BX8_payOne : Nat → List sx_S := fun pc => if pc = 0 then bX8_payOne_0 else if pc = 43 then bX8_payOne_43 else []
set_option maxRecDepth 20000 in
theorem kX8_payOne_0 : sx_BK sx_tb yX8_payOne.cls cX8_payOne 4 (none) ({ frames := 2, cells := 0, slots := 0, locals := 45 } : Room) false false 0 (fun _ => 0) 0 (bX8_payOne_0) := ⟨_, ⟨sn_bipush dX8_payOne_0 (by decide +kernel), sm_const _⟩, ⟨_, ⟨sn_bipush dX8_payOne_2 (by decide +kernel), sm_const _⟩, ⟨_, ⟨sn_iload_n dX8_payOne_4 rfl, sm_il _⟩, ⟨_, ⟨sn_imul dX8_payOne_5, sm_bin _⟩, ⟨_, ⟨sn_iadd dX8_payOne_6, sm_bin _⟩, ⟨_, ⟨sn_istore_n dX8_payOne_7 rfl (Nat.le_of_ble_eq_true rfl), sm_is _⟩, ⟨_, ⟨sn_aload_n dX8_payOne_8 rfl, sm_al _⟩, ⟨_, ⟨sn_iload_n dX8_payOne_9 rfl, sm_il _⟩, ⟨_, ⟨sn_iald dX8_payOne_10, sm_iald⟩, ⟨_, ⟨sn_iconst dX8_payOne_11 (by decide +kernel), sm_const _⟩, ⟨_, ⟨sn_ic_ne dX8_payOne_12 (by decide +kernel) rfl, sm_if2 _ _ _⟩, ⟨_, ⟨sn_aload_n dX8_payOne_15 rfl, sm_al _⟩, ⟨_, ⟨sn_iload_n dX8_payOne_16 rfl, sm_il _⟩, ⟨_, ⟨sn_iconst dX8_payOne_17 (by decide +kernel), sm_const _⟩, ⟨_, ⟨sn_iadd dX8_payOne_18, sm_bin _⟩, ⟨_, ⟨sn_iald dX8_payOne_19, sm_iald⟩, ⟨_, ⟨sn_aload_n dX8_payOne_20 rfl, sm_al _⟩, ⟨_, ⟨sn_iload_n dX8_payOne_21 rfl, sm_il _⟩, ⟨_, ⟨sn_iconst dX8_payOne_22 (by decide +kernel), sm_const _⟩, ⟨_, ⟨sn_iadd dX8_payOne_23, sm_bin _⟩, ⟨_, ⟨sn_iald dX8_payOne_24, sm_iald⟩, ⟨_, ⟨sn_ic_lt dX8_payOne_25 (by decide +kernel) rfl, sm_if2 _ _ _⟩, ⟨_, ⟨sn_aload_n dX8_payOne_28 rfl, sm_al _⟩, ⟨_, ⟨sn_iload_n dX8_payOne_29 rfl, sm_il _⟩, ⟨_, ⟨sn_iconst dX8_payOne_30 (by decide +kernel), sm_const _⟩, ⟨_, ⟨sn_iadd dX8_payOne_31, sm_bin _⟩, ⟨_, ⟨sn_iald dX8_payOne_32, sm_iald⟩, ⟨_, ⟨sn_if_le dX8_payOne_33 (by decide +kernel) rfl, sm_if1 _ _ _⟩, ⟨_, ⟨sn_aload_n dX8_payOne_36 rfl, sm_al _⟩, ⟨_, ⟨sn_iload_n dX8_payOne_37 rfl, sm_il _⟩, ⟨_, ⟨sn_iconst dX8_payOne_38 (by decide +kernel), sm_const _⟩, ⟨_, ⟨sn_iadd dX8_payOne_39, sm_bin _⟩, ⟨_, ⟨sn_iconst dX8_payOne_40 (by decide +kernel), sm_const _⟩, ⟨_, ⟨sn_iast dX8_payOne_41, sm_iast⟩, ⟨_, ⟨sn_rv (len := 1) dX8_payOne_42 rfl, sm_rv⟩, trivial⟩⟩⟩⟩⟩⟩⟩⟩⟩⟩⟩⟩⟩⟩⟩⟩⟩⟩⟩⟩⟩⟩⟩⟩⟩⟩⟩⟩⟩⟩⟩⟩⟩⟩⟩
set_option maxRecDepth 20000 in
theorem kX8_payOne_43 : sx_BK sx_tb yX8_payOne.cls cX8_payOne 4 (none) ({ frames := 2, cells := 0, slots := 0, locals := 45 } : Room) false false 0 (fun _ => 0) 43 (bX8_payOne_43) := ⟨_, ⟨sn_aload_n dX8_payOne_43 rfl, sm_al _⟩, ⟨_, ⟨sn_iload_n dX8_payOne_44 rfl, sm_il _⟩, ⟨_, ⟨sn_cs_i ztb_X8_payBy dX8_payOne_45 zw_4_138 zw_4_139 zw_1_8 zw_4_140 zmh_X8 zpd_X8_payBy (Nat.le_of_ble_eq_true rfl) (Nat.le_of_ble_eq_true rfl) rfl rfl, sm_cs _ _ _ _ _ _⟩, ⟨_, ⟨sn_istore_n dX8_payOne_48 rfl (Nat.le_of_ble_eq_true rfl), sm_is _⟩, ⟨_, ⟨sn_aload_n dX8_payOne_49 rfl, sm_al _⟩, ⟨_, ⟨sn_iload_n dX8_payOne_50 rfl, sm_il _⟩, ⟨_, ⟨sn_iconst dX8_payOne_51 (by decide +kernel), sm_const _⟩, ⟨_, ⟨sn_iadd dX8_payOne_52, sm_bin _⟩, ⟨_, ⟨sn_dup2 dX8_payOne_53, sm_dup2⟩, ⟨_, ⟨sn_iald dX8_payOne_54, sm_iald⟩, ⟨_, ⟨sn_iload_n dX8_payOne_55 rfl, sm_il _⟩, ⟨_, ⟨sn_isub dX8_payOne_56, sm_bin _⟩, ⟨_, ⟨sn_iast dX8_payOne_57, sm_iast⟩, ⟨_, ⟨sn_aload_n dX8_payOne_58 rfl, sm_al _⟩, ⟨_, ⟨sn_iload_n dX8_payOne_59 rfl, sm_il _⟩, ⟨_, ⟨sn_bipush dX8_payOne_60 (by decide +kernel), sm_const _⟩, ⟨_, ⟨sn_iadd dX8_payOne_62, sm_bin _⟩, ⟨_, ⟨sn_dup2 dX8_payOne_63, sm_dup2⟩, ⟨_, ⟨sn_iald dX8_payOne_64, sm_iald⟩, ⟨_, ⟨sn_iload_n dX8_payOne_65 rfl, sm_il _⟩, ⟨_, ⟨sn_iadd dX8_payOne_66, sm_bin _⟩, ⟨_, ⟨sn_iast dX8_payOne_67, sm_iast⟩, ⟨_, ⟨sn_aload_n dX8_payOne_68 rfl, sm_al _⟩, ⟨_, ⟨sn_iconst dX8_payOne_69 (by decide +kernel), sm_const _⟩, ⟨_, ⟨sn_dup2 dX8_payOne_70, sm_dup2⟩, ⟨_, ⟨sn_iald dX8_payOne_71, sm_iald⟩, ⟨_, ⟨sn_iload_n dX8_payOne_72 rfl, sm_il _⟩, ⟨_, ⟨sn_iadd dX8_payOne_73, sm_bin _⟩, ⟨_, ⟨sn_iast dX8_payOne_74, sm_iast⟩, ⟨_, ⟨sn_aload_n dX8_payOne_75 rfl, sm_al _⟩, ⟨_, ⟨sn_bipush dX8_payOne_76 (by decide +kernel), sm_const _⟩, ⟨_, ⟨sn_dup2 dX8_payOne_78, sm_dup2⟩, ⟨_, ⟨sn_iald dX8_payOne_79, sm_iald⟩, ⟨_, ⟨sn_iload_n dX8_payOne_80 rfl, sm_il _⟩, ⟨_, ⟨sn_iadd dX8_payOne_81, sm_bin _⟩, ⟨_, ⟨sn_iast dX8_payOne_82, sm_iast⟩, ⟨_, ⟨sn_rv (len := 1) dX8_payOne_83 rfl, sm_rv⟩, trivial⟩⟩⟩⟩⟩⟩⟩⟩⟩⟩⟩⟩⟩⟩⟩⟩⟩⟩⟩⟩⟩⟩⟩⟩⟩⟩⟩⟩⟩⟩⟩⟩⟩⟩⟩⟩⟩
theorem kX8_payOne : ∀ pc, sx_BK sx_tb yX8_payOne.cls cX8_payOne 4 (none) ({ frames := 2, cells := 0, slots := 0, locals := 45 } : Room) false false 0 (fun _ => 0) pc (BX8_payOne pc) := fun pc => sx_bk_if (kX8_payOne_0) (sx_bk_if (kX8_payOne_43) (trivial))
theorem okX8_payOne : sx_ok sx_tb BX8_payOne (yX8_payOne, cX8_payOne, 4, none, { frames := 2, cells := 0, slots := 0, locals := 45 }) := ⟨by decide, by decide +kernel, false, (fun h => by cases h), kX8_payOne⟩
